/-! the law: blocks and bytes -/
set_option maxHeartbeats 4000000 in
theorem mL_blocks {M : Mem} {ad : Int → Nat} {n : Int → Int} {F : Int → Int → Int} {g : Int → Int} {m s : Int} {fA : Nat} {f0 : Int → Int} (hl : LwR M ad n F g m) (hi : Inj ad) (q0 : 0 ≤ s ∧ s < 4) (hf0 : M fA = some (aI 17 f0)) (hfd : fA ≠ ad 112 ∧ fA ≠ ad 113) : Ct KL_blocks [.ref (ad 112), .ref (ad 113), vI s, .ref fA] M 0 0 (atI (nbF (n s) (F s) (g 0) (g 1)) (fun M2 => Fr1 fA M M2 ∧ ∃ f : Int → Int, M2 fA = some (aI 17 f) ∧ ∀ b, 0 ≤ b → b < nbF (n s) (F s) (g 0) (g 1) → f b = stF (n s) (F s) (g 0) (g 1) (b + 1))) := by
  refine Ct.of _ (by decide) rfl (Nat.le_of_ble_eq_true rfl) ?_
  obtain ⟨w, v, hn1, hm1, hlv⟩ := id hl
  obtain ⟨hset, hw4, hw5, hw6, hg0, hg1, hm6⟩ := id hlv
  obtain ⟨hws, hns, hsr, hvs⟩ := hset s q0.1 q0.2
  have hAB : ad 112 ≠ ad 113 := hi.ne ⟨by omega, by omega⟩ ⟨by omega, by omega⟩ (by omega)
  have hBA := hAB.symm
  have hv1 : ∀ k, 0 ≤ k → k < n s → v (16 * s + k) = F s k := fun k a b => (hvs k a b).1
  have hv2 : ∀ k, 0 ≤ k → k < n s → 0 ≤ F s k ∧ F s k ≤ 9999 := fun k a b => (hvs k a b).2
  have hv3 : ∀ k, 0 < k → k ≤ n s → v (16 * s + k - 1) = F s (k - 1) := fun k a b => by rw [← hv1 (k - 1) (by omega) (by omega)]; congr 1; omega
  have hsp := blk_spec hns.1 (F s) (g 0) (g 1)
  refine r_iconst dL_blocks_0 ?_
  refine r_istore dL_blocks_1 (by decide) rfl ?_
  refine r_iconst dL_blocks_3 ?_
  refine r_istore dL_blocks_4 (by decide) rfl ?_
  refine r_iconst dL_blocks_6 ?_
  refine r_istore dL_blocks_7 (by decide) rfl ?_
  refine J.loc (L' := [(0, some _), (1, some _), (2, some _), (3, some _), (4, some _), (5, some _), (6, some _)]) (lsub_cons rfl (lsub_cons rfl (lsub_cons rfl (lsub_cons rfl (lsub_cons rfl (lsub_cons rfl (lsub_cons rfl (lsub_nil)))))))) (loop5 (fun (p : Int) (c : Int) (fd : Int) (M1 : Mem) (G : Int → Int) => 0 ≤ p ∧ p ≤ n s ∧ 0 ≤ c ∧ c ≤ g 0 ∧ Laid p fd G ∧ Fr1 fA M M1 ∧ ctF (n s) (F s) (g 0) (g 1) (n s).toNat 0 0 0 (fun _ => 0) = ctF (n s) (F s) (g 0) (g 1) (n s - p).toNat p c fd G ∧ ∃ f : Int → Int, M1 fA = some (aI 17 f) ∧ (∀ j, 0 ≤ j → j + 1 < fd → f j = G (j + 1)) ∧ (0 < fd → f (fd - 1) = p)) (fun (p : Int) (c : Int) (fd : Int) (M1 : Mem) (G : Int → Int) => (n s - p).toNat) (fun (p : Int) (c : Int) (fd : Int) (M1 : Mem) (G : Int → Int) => J KL_blocks 0 0 _ 9 [(0, some (.ref (ad 112))), (1, some (.ref (ad 113))), (2, some (vI s)), (3, some (.ref fA)), (4, some (vI fd)), (5, some (vI c)), (6, some (vI p))] [] M1 _ _) (fun p c fd M1 G hI9 ih9 => ?_) _ _ _ _ (fun _ => 0) ?_)
  ·
    obtain ⟨hp0, hp1, hc0, hc1, hld, hfr, hct, f1, hfA, hf1, hf2⟩ := hI9
    obtain ⟨hl1, hl2, hl3, hl4, hl5, hl6⟩ := id hld
    have hn2 := (hfr _ hfd.1.symm).trans hn1
    have hm2 := (hfr _ hfd.2.symm).trans hm1
    refine r_iload dL_blocks_9 rfl ?_
    refine r_aload_n dL_blocks_11 rfl ?_
    refine r_iload_n dL_blocks_12 rfl ?_
    refine r_iaload hn2 (by omega) (by omega) (by omega) dL_blocks_13 ?_
    rw [hws]
    refine r_icmp_ge (tgt := 82) dL_blocks_14 (by decide) (by omega) (by omega) (fun h14 => ?_) (fun h14 => ?_)
    ·
      refine r_iload dL_blocks_82 rfl ?_
      refine e_ireturn dL_blocks_84 rfl (Nat.le_of_ble_eq_true rfl) (Nat.le_of_ble_eq_true rfl) ?_
      rw [show (n s - p).toNat = 0 by omega, ctF] at hct
      have e1 : nbF (n s) (F s) (g 0) (g 1) = fd := by unfold nbF; rw [hct]
      have e2 : stF (n s) (F s) (g 0) (g 1) = uI G fd (n s) := by unfold stF; rw [e1, hct]
      rw [e1, e2]
      refine oktI rfl ⟨hfr, f1, hfA, fun b a c => ?_⟩
      by_cases e : b + 1 = fd
      · rw [e, uI_s, show b = fd - 1 by omega, hf2 (by omega)]; omega
      · rw [uI_n _ e]; exact hf1 b a (by omega)
    ·
      refine r_iload dL_blocks_17 rfl ?_
      refine r_if_eq (tgt := 57) dL_blocks_19 (by decide) (by omega) (fun h19 => ?_) (fun h19 => ?_)
      ·
        refine r_iinc dL_blocks_57 rfl rfl ?_
        refine r_iconst dL_blocks_60 ?_
        refine r_istore dL_blocks_61 (by decide) rfl ?_
        refine r_iinc dL_blocks_63 rfl rfl ?_
        refine r_aload_n dL_blocks_66 rfl ?_
        refine r_iload dL_blocks_67 rfl ?_
        refine r_iconst dL_blocks_69 ?_
        refine r_isub dL_blocks_70 ?_
        refine r_iload dL_blocks_71 rfl ?_
        refine r_iconst dL_blocks_73 ?_
        refine r_iadd dL_blocks_74 ?_
        refine r_iastore hfA (by omega) (by omega) (by omega) dL_blocks_75 ?_
        refine r_iinc dL_blocks_76 rfl rfl ?_
        refine r_goto (tgt := 9) dL_blocks_79 (by decide) ?_
        refine J.loc (lsub_cons rfl (lsub_cons rfl (lsub_cons rfl (lsub_cons rfl (lsub_cons rfl (lsub_cons rfl (lsub_cons rfl (lsub_nil)))))))) (ih9 _ _ _ _ (uI G fd p) ?_ ?_)
        · have hbg : beg (n s) (F s) (g 0) (g 1) p c = true := by unfold beg; rw [decide_eq_true h19]; rfl
          have hct2 := hct.trans (by rw [show (n s - p).toNat = (n s - (p + 1)).toNat + 1 by omega, ctF, if_pos hbg])
          refine ⟨by omega, by omega, by omega, by omega, ?_, hfr.up, hct2, _, up_s _ _ _, fun j a b => ?_, fun _ => ?_⟩
          · have := ctF_laid (n s) (F s) (g 0) (g 1) 1 p c fd G hp0 hld
            rw [ctF, if_pos hbg, ctF] at this
            simpa using this
          · by_cases e : j + 1 = fd
            · rw [e, uI_s, uI_n _ (by omega), show j = fd - 1 by omega]; exact hf2 (by omega)
            · rw [uI_n _ (by omega), uI_n _ e]; exact hf1 j a (by omega)
          · rw [uI_s]
        · omega
      ·
        refine r_iload dL_blocks_22 rfl ?_
        refine r_aload_n dL_blocks_24 rfl ?_
        refine r_iconst dL_blocks_25 ?_
        refine r_iaload hn2 (by omega) (by omega) (by omega) dL_blocks_26 ?_
        rw [hw4]
        refine r_icmp_eq (tgt := 57) dL_blocks_27 (by decide) (by omega) (by omega) (fun h27 => ?_) (fun h27 => ?_)
        ·
          refine r_iinc dL_blocks_57 rfl rfl ?_
          refine r_iconst dL_blocks_60 ?_
          refine r_istore dL_blocks_61 (by decide) rfl ?_
          refine r_iinc dL_blocks_63 rfl rfl ?_
          refine r_aload_n dL_blocks_66 rfl ?_
          refine r_iload dL_blocks_67 rfl ?_
          refine r_iconst dL_blocks_69 ?_
          refine r_isub dL_blocks_70 ?_
          refine r_iload dL_blocks_71 rfl ?_
          refine r_iconst dL_blocks_73 ?_
          refine r_iadd dL_blocks_74 ?_
          refine r_iastore hfA (by omega) (by omega) (by omega) dL_blocks_75 ?_
          refine r_iinc dL_blocks_76 rfl rfl ?_
          refine r_goto (tgt := 9) dL_blocks_79 (by decide) ?_
          refine J.loc (lsub_cons rfl (lsub_cons rfl (lsub_cons rfl (lsub_cons rfl (lsub_cons rfl (lsub_cons rfl (lsub_cons rfl (lsub_nil)))))))) (ih9 _ _ _ _ (uI G fd p) ?_ ?_)
          · have hbg : beg (n s) (F s) (g 0) (g 1) p c = true := by unfold beg; rw [decide_eq_true (show g 0 ≤ c by omega)]; simp
            have hct2 := hct.trans (by rw [show (n s - p).toNat = (n s - (p + 1)).toNat + 1 by omega, ctF, if_pos hbg])
            refine ⟨by omega, by omega, by omega, by omega, ?_, hfr.up, hct2, _, up_s _ _ _, fun j a b => ?_, fun _ => ?_⟩
            · have := ctF_laid (n s) (F s) (g 0) (g 1) 1 p c fd G hp0 hld
              rw [ctF, if_pos hbg, ctF] at this
              simpa using this
            · by_cases e : j + 1 = fd
              · rw [e, uI_s, uI_n _ (by omega), show j = fd - 1 by omega]; exact hf2 (by omega)
              · rw [uI_n _ (by omega), uI_n _ e]; exact hf1 j a (by omega)
            · rw [uI_s]
          · omega
        ·
          refine r_aload_n dL_blocks_30 rfl ?_
          refine r_bipush dL_blocks_31 (by decide) ?_
          refine r_iload_n dL_blocks_33 rfl ?_
          refine r_imul dL_blocks_34 ?_
          refine r_iload dL_blocks_35 rfl ?_
          refine r_iadd dL_blocks_37 ?_
          refine r_iaload hm2 (by omega) (by omega) (by omega) dL_blocks_38 ?_
          refine r_aload_n dL_blocks_39 rfl ?_
          refine r_bipush dL_blocks_40 (by decide) ?_
          refine r_iload_n dL_blocks_42 rfl ?_
          refine r_imul dL_blocks_43 ?_
          refine r_iload dL_blocks_44 rfl ?_
          refine r_iadd dL_blocks_46 ?_
          refine r_iconst dL_blocks_47 ?_
          refine r_isub dL_blocks_48 ?_
          refine r_iaload hm2 (by omega) (by omega) (by omega) dL_blocks_49 ?_
          rw [hv1 p (by omega) (by omega), hv3 p (by omega) (by omega)]
          have hb1 := hv2 p (by omega) (by omega)
          have hb2 := hv2 (p - 1) (by omega) (by omega)
          refine r_isub dL_blocks_50 ?_
          refine r_aload_n dL_blocks_51 rfl ?_
          refine r_iconst dL_blocks_52 ?_
          refine r_iaload hn2 (by omega) (by omega) (by omega) dL_blocks_53 ?_
          rw [hw5]
          refine r_icmp_le (tgt := 63) dL_blocks_54 (by decide) (by omega) (by omega) (fun h54 => ?_) (fun h54 => ?_)
          ·
            refine r_iinc dL_blocks_63 rfl rfl ?_
            refine r_aload_n dL_blocks_66 rfl ?_
            refine r_iload dL_blocks_67 rfl ?_
            refine r_iconst dL_blocks_69 ?_
            refine r_isub dL_blocks_70 ?_
            refine r_iload dL_blocks_71 rfl ?_
            refine r_iconst dL_blocks_73 ?_
            refine r_iadd dL_blocks_74 ?_
            refine r_iastore hfA (by omega) (by omega) (by omega) dL_blocks_75 ?_
            refine r_iinc dL_blocks_76 rfl rfl ?_
            refine r_goto (tgt := 9) dL_blocks_79 (by decide) ?_
            refine J.loc (lsub_cons rfl (lsub_cons rfl (lsub_cons rfl (lsub_cons rfl (lsub_cons rfl (lsub_cons rfl (lsub_cons rfl (lsub_nil)))))))) (ih9 _ _ _ _ G ?_ ?_)
            · have hfd : 0 < fd := hl3 (by omega)
              have hbg : ¬ beg (n s) (F s) (g 0) (g 1) p c = true := by unfold beg; rw [gapF_in (by omega) (by omega), decide_eq_false (by omega), decide_eq_false (by omega), decide_eq_false (by omega)]; decide
              have hct2 := hct.trans (by rw [show (n s - p).toNat = (n s - (p + 1)).toNat + 1 by omega, ctF, if_neg hbg])
              refine ⟨by omega, by omega, by omega, by omega, ?_, hfr.up, hct2, _, up_s _ _ _, fun j a b => ?_, fun _ => uI_s _ _ _⟩
              · have := ctF_laid (n s) (F s) (g 0) (g 1) 1 p c fd G hp0 hld
                rw [ctF, if_neg hbg, ctF] at this
                simpa using this
              · rw [uI_n _ (by omega)]; exact hf1 j a b
            · omega
          ·
            refine r_iinc dL_blocks_57 rfl rfl ?_
            refine r_iconst dL_blocks_60 ?_
            refine r_istore dL_blocks_61 (by decide) rfl ?_
            refine r_iinc dL_blocks_63 rfl rfl ?_
            refine r_aload_n dL_blocks_66 rfl ?_
            refine r_iload dL_blocks_67 rfl ?_
            refine r_iconst dL_blocks_69 ?_
            refine r_isub dL_blocks_70 ?_
            refine r_iload dL_blocks_71 rfl ?_
            refine r_iconst dL_blocks_73 ?_
            refine r_iadd dL_blocks_74 ?_
            refine r_iastore hfA (by omega) (by omega) (by omega) dL_blocks_75 ?_
            refine r_iinc dL_blocks_76 rfl rfl ?_
            refine r_goto (tgt := 9) dL_blocks_79 (by decide) ?_
            refine J.loc (lsub_cons rfl (lsub_cons rfl (lsub_cons rfl (lsub_cons rfl (lsub_cons rfl (lsub_cons rfl (lsub_cons rfl (lsub_nil)))))))) (ih9 _ _ _ _ (uI G fd p) ?_ ?_)
            · have hbg : beg (n s) (F s) (g 0) (g 1) p c = true := by unfold beg; rw [gapF_in (by omega) (by omega), decide_eq_true (show g 1 < F s p - F s (p - 1) by omega)]; simp
              have hct2 := hct.trans (by rw [show (n s - p).toNat = (n s - (p + 1)).toNat + 1 by omega, ctF, if_pos hbg])
              refine ⟨by omega, by omega, by omega, by omega, ?_, hfr.up, hct2, _, up_s _ _ _, fun j a b => ?_, fun _ => ?_⟩
              · have := ctF_laid (n s) (F s) (g 0) (g 1) 1 p c fd G hp0 hld
                rw [ctF, if_pos hbg, ctF] at this
                simpa using this
              · by_cases e : j + 1 = fd
                · rw [e, uI_s, uI_n _ (by omega), show j = fd - 1 by omega]; exact hf2 (by omega)
                · rw [uI_n _ (by omega), uI_n _ e]; exact hf1 j a (by omega)
              · rw [uI_s]
            · omega
  · exact ⟨by omega, by omega, by omega, by omega, ⟨by omega, by omega, fun h => by omega, fun h => by omega, fun j a b => by omega, fun i j a b c => by omega⟩, Fr1.rf, by simp, f0, hf0, fun j a b => by omega, fun h => by omega⟩

set_option maxHeartbeats 4000000 in
theorem mL_bytes {M : Mem} {ad : Int → Nat} {n : Int → Int} {F : Int → Int → Int} {g : Int → Int} {m s : Int} (hl : LwR M ad n F g m) (hi : Inj ad) (q0 : 0 ≤ s ∧ s < 4) : Ct KL_bytes [.ref (ad 112), .ref (ad 113), vI s] M 0 0 (rtI (szF (n s) (F s) g) M) := by
  refine Ct.of _ (by decide) rfl (Nat.le_of_ble_eq_true rfl) ?_
  obtain ⟨w, v, hn1, hm1, hlv⟩ := id hl
  obtain ⟨hset, hw4, hw5, hw6, hg0, hg1, hm6⟩ := id hlv
  obtain ⟨hws, hns, hsr, hvs⟩ := hset s q0.1 q0.2
  have hAB : ad 112 ≠ ad 113 := hi.ne ⟨by omega, by omega⟩ ⟨by omega, by omega⟩ (by omega)
  have hBA := hAB.symm
  have hv1 : ∀ k, 0 ≤ k → k < n s → v (16 * s + k) = F s k := fun k a b => (hvs k a b).1
  have hv2 : ∀ k, 0 ≤ k → k < n s → 0 ≤ F s k ∧ F s k ≤ 9999 := fun k a b => (hvs k a b).2
  have hv3 : ∀ k, 0 < k → k ≤ n s → v (16 * s + k - 1) = F s (k - 1) := fun k a b => by rw [← hv1 (k - 1) (by omega) (by omega)]; congr 1; omega
  refine r_iconst dL_bytes_0 ?_
  refine r_istore_n dL_bytes_1 (by decide) rfl ?_
  refine r_iconst dL_bytes_2 ?_
  refine r_istore dL_bytes_3 (by decide) rfl ?_
  refine r_iconst dL_bytes_5 ?_
  refine r_istore dL_bytes_6 (by decide) rfl ?_
  refine J.loc (L' := [(0, some _), (1, some _), (2, some _), (3, some _), (4, some _), (5, some _)]) (lsub_cons rfl (lsub_cons rfl (lsub_cons rfl (lsub_cons rfl (lsub_cons rfl (lsub_cons rfl (lsub_nil))))))) (loop3 (fun (p : Int) (c : Int) (z : Int) => 0 ≤ p ∧ p ≤ n s ∧ 0 ≤ c ∧ c ≤ g 0 ∧ 0 ≤ z ∧ z ≤ 3 * p ∧ szF (n s) (F s) g = z + byF (n s) (F s) (g 0) (g 1) (n s - p).toNat p c) (fun (p : Int) (c : Int) (z : Int) => (n s - p).toNat) (fun (p : Int) (c : Int) (z : Int) => J KL_bytes 0 0 _ 8 [(0, some (.ref (ad 112))), (1, some (.ref (ad 113))), (2, some (vI s)), (3, some (vI z)), (4, some (vI c)), (5, some (vI p))] [] M _ _) (fun p c z hI8 ih8 => ?_) _ _ _ ?_)
  ·
    obtain ⟨hp0, hp1, hc0, hc1, hz0, hz1, hz2⟩ := hI8
    refine r_iload dL_bytes_8 rfl ?_
    refine r_aload_n dL_bytes_10 rfl ?_
    refine r_iload_n dL_bytes_11 rfl ?_
    refine r_iaload hn1 (by omega) (by omega) (by omega) dL_bytes_12 ?_
    rw [hws]
    refine r_icmp_ge (tgt := 102) dL_bytes_13 (by decide) (by omega) (by omega) (fun h13 => ?_) (fun h13 => ?_)
    ·
      refine r_iload_n dL_bytes_102 rfl ?_
      refine e_ireturn dL_bytes_103 rfl (Nat.le_of_ble_eq_true rfl) (Nat.le_of_ble_eq_true rfl) ?_
      exact okI (by rw [hz2, show (n s - p).toNat = 0 by omega, byF]; omega)
    ·
      refine r_iload dL_bytes_16 rfl ?_
      refine r_if_ne (tgt := 25) dL_bytes_18 (by decide) (by omega) (fun h18 => ?_) (fun h18 => ?_)
      ·
        refine r_aload_n dL_bytes_25 rfl ?_
        refine r_bipush dL_bytes_26 (by decide) ?_
        refine r_iload_n dL_bytes_28 rfl ?_
        refine r_imul dL_bytes_29 ?_
        refine r_iload dL_bytes_30 rfl ?_
        refine r_iadd dL_bytes_32 ?_
        refine r_iaload hm1 (by omega) (by omega) (by omega) dL_bytes_33 ?_
        refine r_aload_n dL_bytes_34 rfl ?_
        refine r_bipush dL_bytes_35 (by decide) ?_
        refine r_iload_n dL_bytes_37 rfl ?_
        refine r_imul dL_bytes_38 ?_
        refine r_iload dL_bytes_39 rfl ?_
        refine r_iadd dL_bytes_41 ?_
        refine r_iconst dL_bytes_42 ?_
        refine r_isub dL_bytes_43 ?_
        refine r_iaload hm1 (by omega) (by omega) (by omega) dL_bytes_44 ?_
        rw [hv1 p (by omega) (by omega), hv3 p (by omega) (by omega)]
        have hb1 := hv2 p (by omega) (by omega)
        have hb2 := hv2 (p - 1) (by omega) (by omega)
        refine r_isub dL_bytes_45 ?_
        refine r_istore dL_bytes_46 (by decide) rfl ?_
        refine r_iload dL_bytes_48 rfl ?_
        refine r_if_eq (tgt := 69) dL_bytes_50 (by decide) (by omega) (fun h50 => ?_) (fun h50 => ?_)
        · omega
        ·
          refine r_iload dL_bytes_53 rfl ?_
          refine r_aload_n dL_bytes_55 rfl ?_
          refine r_iconst dL_bytes_56 ?_
          refine r_iaload hn1 (by omega) (by omega) (by omega) dL_bytes_57 ?_
          rw [hw4]
          refine r_icmp_eq (tgt := 69) dL_bytes_58 (by decide) (by omega) (by omega) (fun h58 => ?_) (fun h58 => ?_)
          ·
            refine r_iinc dL_bytes_69 rfl rfl ?_
            refine r_iconst dL_bytes_72 ?_
            refine r_istore dL_bytes_73 (by decide) rfl ?_
            refine r_goto (tgt := 93) dL_bytes_75 (by decide) ?_
            refine r_iinc dL_bytes_93 rfl rfl ?_
            refine r_iinc dL_bytes_96 rfl rfl ?_
            refine r_goto (tgt := 8) dL_bytes_99 (by decide) ?_
            refine J.loc (lsub_cons rfl (lsub_cons rfl (lsub_cons rfl (lsub_cons rfl (lsub_cons rfl (lsub_cons rfl (lsub_nil))))))) (ih8 _ _ _ ?_ ?_)
            · have hbg : beg (n s) (F s) (g 0) (g 1) p c = true := by unfold beg; rw [decide_eq_true (show g 0 ≤ c by omega)]; simp
              refine ⟨by omega, by omega, by omega, by omega, by omega, by omega, ?_⟩
              rw [hz2, show (n s - p).toNat = (n s - (p + 1)).toNat + 1 by omega, byF, if_pos hbg, show (0 : Int) + 1 = 1 from rfl]
              omega
            · omega
          ·
            refine r_iload dL_bytes_61 rfl ?_
            refine r_aload_n dL_bytes_63 rfl ?_
            refine r_iconst dL_bytes_64 ?_
            refine r_iaload hn1 (by omega) (by omega) (by omega) dL_bytes_65 ?_
            rw [hw5]
            refine r_icmp_le (tgt := 78) dL_bytes_66 (by decide) (by omega) (by omega) (fun h66 => ?_) (fun h66 => ?_)
            ·
              refine r_iload_n dL_bytes_78 rfl ?_
              refine r_iload dL_bytes_79 rfl ?_
              refine r_bipush dL_bytes_81 (by decide) ?_
              refine r_icmp_le (tgt := 90) dL_bytes_83 (by decide) (by omega) (by omega) (fun h83 => ?_) (fun h83 => ?_)
              ·
                refine r_iconst dL_bytes_90 ?_
                refine r_iadd dL_bytes_91 ?_
                refine r_istore_n dL_bytes_92 (by decide) rfl ?_
                refine r_iinc dL_bytes_93 rfl rfl ?_
                refine r_iinc dL_bytes_96 rfl rfl ?_
                refine r_goto (tgt := 8) dL_bytes_99 (by decide) ?_
                refine J.loc (lsub_cons rfl (lsub_cons rfl (lsub_cons rfl (lsub_cons rfl (lsub_cons rfl (lsub_cons rfl (lsub_nil))))))) (ih8 _ _ _ ?_ ?_)
                · have hbg : ¬ beg (n s) (F s) (g 0) (g 1) p c = true := by unfold beg; rw [gapF_in (by omega) (by omega), decide_eq_false (by omega), decide_eq_false (by omega), decide_eq_false (by omega)]; decide
                  refine ⟨by omega, by omega, by omega, by omega, by omega, by omega, ?_⟩
                  rw [hz2, show (n s - p).toNat = (n s - (p + 1)).toNat + 1 by omega, byF, if_neg hbg, gapF_in (by omega) (by omega)]
                  unfold gby
                  first | (rw [if_pos (by omega)]; omega) | (rw [if_neg (by omega)]; omega)
                · omega
              ·
                refine r_iconst dL_bytes_86 ?_
                refine r_goto (tgt := 91) dL_bytes_87 (by decide) ?_
                refine r_iadd dL_bytes_91 ?_
                refine r_istore_n dL_bytes_92 (by decide) rfl ?_
                refine r_iinc dL_bytes_93 rfl rfl ?_
                refine r_iinc dL_bytes_96 rfl rfl ?_
                refine r_goto (tgt := 8) dL_bytes_99 (by decide) ?_
                refine J.loc (lsub_cons rfl (lsub_cons rfl (lsub_cons rfl (lsub_cons rfl (lsub_cons rfl (lsub_cons rfl (lsub_nil))))))) (ih8 _ _ _ ?_ ?_)
                · have hbg : ¬ beg (n s) (F s) (g 0) (g 1) p c = true := by unfold beg; rw [gapF_in (by omega) (by omega), decide_eq_false (by omega), decide_eq_false (by omega), decide_eq_false (by omega)]; decide
                  refine ⟨by omega, by omega, by omega, by omega, by omega, by omega, ?_⟩
                  rw [hz2, show (n s - p).toNat = (n s - (p + 1)).toNat + 1 by omega, byF, if_neg hbg, gapF_in (by omega) (by omega)]
                  unfold gby
                  first | (rw [if_pos (by omega)]; omega) | (rw [if_neg (by omega)]; omega)
                · omega
            ·
              refine r_iinc dL_bytes_69 rfl rfl ?_
              refine r_iconst dL_bytes_72 ?_
              refine r_istore dL_bytes_73 (by decide) rfl ?_
              refine r_goto (tgt := 93) dL_bytes_75 (by decide) ?_
              refine r_iinc dL_bytes_93 rfl rfl ?_
              refine r_iinc dL_bytes_96 rfl rfl ?_
              refine r_goto (tgt := 8) dL_bytes_99 (by decide) ?_
              refine J.loc (lsub_cons rfl (lsub_cons rfl (lsub_cons rfl (lsub_cons rfl (lsub_cons rfl (lsub_cons rfl (lsub_nil))))))) (ih8 _ _ _ ?_ ?_)
              · have hbg : beg (n s) (F s) (g 0) (g 1) p c = true := by unfold beg; rw [gapF_in (by omega) (by omega), decide_eq_true (show g 1 < F s p - F s (p - 1) by omega)]; simp
                refine ⟨by omega, by omega, by omega, by omega, by omega, by omega, ?_⟩
                rw [hz2, show (n s - p).toNat = (n s - (p + 1)).toNat + 1 by omega, byF, if_pos hbg, show (0 : Int) + 1 = 1 from rfl]
                omega
              · omega
      ·
        refine r_iconst dL_bytes_21 ?_
        refine r_goto (tgt := 46) dL_bytes_22 (by decide) ?_
        refine r_istore dL_bytes_46 (by decide) rfl ?_
        refine r_iload dL_bytes_48 rfl ?_
        refine r_if_eq (tgt := 69) dL_bytes_50 (by decide) (by omega) (fun h50 => ?_) (fun h50 => ?_)
        ·
          refine r_iinc dL_bytes_69 rfl rfl ?_
          refine r_iconst dL_bytes_72 ?_
          refine r_istore dL_bytes_73 (by decide) rfl ?_
          refine r_goto (tgt := 93) dL_bytes_75 (by decide) ?_
          refine r_iinc dL_bytes_93 rfl rfl ?_
          refine r_iinc dL_bytes_96 rfl rfl ?_
          refine r_goto (tgt := 8) dL_bytes_99 (by decide) ?_
          refine J.loc (lsub_cons rfl (lsub_cons rfl (lsub_cons rfl (lsub_cons rfl (lsub_cons rfl (lsub_cons rfl (lsub_nil))))))) (ih8 _ _ _ ?_ ?_)
          · have hbg : beg (n s) (F s) (g 0) (g 1) p c = true := by unfold beg; rw [decide_eq_true (show p = 0 by omega)]; rfl
            refine ⟨by omega, by omega, by omega, by omega, by omega, by omega, ?_⟩
            rw [hz2, show (n s - p).toNat = (n s - (p + 1)).toNat + 1 by omega, byF, if_pos hbg, show (0 : Int) + 1 = 1 from rfl]
            omega
          · omega
        · omega
  · exact ⟨by omega, by omega, by omega, by omega, by omega, by omega, by unfold szF; simp⟩
