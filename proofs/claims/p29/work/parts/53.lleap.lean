/-! the law: a leap -/
theorem lpN_a {n nb : Int} {st F : Int → Int} {x b0 b p : Int} (hn : n ≠ 0) (hQ : lpQ nb st F x b0 = b + 1) (hR : lpR st F x (b + 1) = p) (h : p < st (b + 1)) : lpN n nb st F x b0 = (p, lpK nb st F x b0 + (p - st b + 1), b) := by
  unfold lpN lpF
  rw [if_neg hn]
  dsimp only
  rw [hQ, hR, if_pos h, show b + 1 - 1 = b by omega]
theorem lpN_b {n nb : Int} {st F : Int → Int} {x b0 b : Int} (hn : n ≠ 0) (hQ : lpQ nb st F x b0 = b + 1) (hR : lpR st F x (b + 1) = st (b + 1)) (h : nb ≤ b + 1) : lpN n nb st F x b0 = (-1, lpK nb st F x b0 + (st (b + 1) - st b), b) := by
  unfold lpN lpF
  rw [if_neg hn]
  dsimp only
  rw [hQ, hR, if_neg (by omega), if_pos h, show b + 1 - 1 = b by omega]
theorem lpN_c {n nb : Int} {st F : Int → Int} {x b0 b : Int} (hn : n ≠ 0) (hQ : lpQ nb st F x b0 = b + 1) (hR : lpR st F x (b + 1) = st (b + 1)) (h : b + 1 < nb) : lpN n nb st F x b0 = (st (b + 1), lpK nb st F x b0 + (st (b + 1) - st b) + 1, b + 1) := by
  unfold lpN lpF
  rw [if_neg hn]
  dsimp only
  rw [hQ, hR, if_neg (by omega), if_neg (by omega), show b + 1 - 1 = b by omega]
/-- what a leap leaves in its row of five -/
def LpT (tA : Nat) (τ : Int → Int) (r : Int × (Int × Int)) (M M2 : Mem) : Prop := (∀ q, q ≠ tA → M q ≠ none → M2 q = M q) ∧ ∃ τ2 : Int → Int, M2 tA = some (aI 5 τ2) ∧ (τ2 0 = τ 0 ∧ τ2 1 = τ 1 ∧ τ2 2 = τ 2) ∧ τ2 3 = τ 3 + r.2.1 ∧ (0 ≤ r.1 → τ2 4 = r.2.2)
theorem fr1_old {tA q0 : Nat} {M M3 M4 : Mem} {x : AC} (h4 : Fr1 tA M3 M4) (h3 : Fr1 q0 (up M q0 x) M3) (hq : M q0 = none) : ∀ q, q ≠ tA → M q ≠ none → M4 q = M q := fun q h1 h2 => by
  have e : q ≠ q0 := fun e => h2 (by rw [e]; exact hq)
  rw [h4 q h1, h3 q e, up_n _ e]
set_option maxHeartbeats 4000000 in
theorem mL_leap {M : Mem} {ad : Int → Nat} {n : Int → Int} {F : Int → Int → Int} {g : Int → Int} {m s : Int} {x b0 : Int} {tA : Nat} {τ : Int → Int} (hl : LwR M ad n F g m) (hi : Inj ad) (q0 : 0 ≤ s ∧ s < 4) (ht : M tA = some (aI 5 τ)) (htd : tA ≠ ad 112 ∧ tA ≠ ad 113) (q1 : R32 x) (hb0 : 0 < n s → 0 ≤ b0 ∧ b0 < nbF (n s) (F s) (g 0) (g 1)) : Ct KL_leap [.ref (ad 112), .ref (ad 113), vI s, vI x, vI b0, .ref tA] M 1 17 (atI (lpN (n s) (nbF (n s) (F s) (g 0) (g 1)) (stF (n s) (F s) (g 0) (g 1)) (F s) x b0).1 (LpT tA τ (lpN (n s) (nbF (n s) (F s) (g 0) (g 1)) (stF (n s) (F s) (g 0) (g 1)) (F s) x b0) M)) := by
  refine Ct.of _ (by decide) rfl (Nat.le_of_ble_eq_true rfl) ?_
  obtain ⟨w, v, hn1, hm1, hlv⟩ := id hl
  obtain ⟨hset, hw4, hw5, hw6, hg0, hg1, hm6⟩ := id hlv
  obtain ⟨hws, hns, hsr, hvs⟩ := hset s q0.1 q0.2
  have hAB : ad 112 ≠ ad 113 := hi.ne ⟨by omega, by omega⟩ ⟨by omega, by omega⟩ (by omega)
  have hBA := hAB.symm
  have hv1 : ∀ k, 0 ≤ k → k < n s → v (16 * s + k) = F s k := fun k a b => (hvs k a b).1
  have hv2 : ∀ k, 0 ≤ k → k < n s → 0 ≤ F s k ∧ F s k ≤ 9999 := fun k a b => (hvs k a b).2
  have hv3 : ∀ k, 0 < k → k ≤ n s → v (16 * s + k - 1) = F s (k - 1) := fun k a b => by rw [← hv1 (k - 1) (by omega) (by omega)]; congr 1; omega
  refine r_bipush dL_leap_0 (by decide) ?_
  refine r_newI (N := 17) rfl (by decide) ac_int (Nat.le_of_ble_eq_true rfl) (Nat.le_of_ble_eq_true rfl) dL_leap_2 (fun q2 hq2 => ?_)
  have hqt : q2 ≠ tA := fun e => by rw [e, ht] at hq2; cases hq2
  have hqa : q2 ≠ ad 112 := fun e => by rw [e, hn1] at hq2; cases hq2
  have hqb : q2 ≠ ad 113 := fun e => by rw [e, hm1] at hq2; cases hq2
  have hl2 : LwR (up M q2 (aI 17 fun _ => 0)) ad n F g m := hl.frame (up_n _ hqa.symm) (up_n _ hqb.symm)
  have hbs := BkS.of hns.1 (by omega) (F s) (g 0) (g 1)
  obtain ⟨bs1, bs2, bs3, bs4, bs5, bs6, bs7, bs8, bs9⟩ := id hbs
  refine r_astore dL_leap_4 (by decide) rfl ?_
  refine r_aload_n dL_leap_6 rfl ?_
  refine r_aload_n dL_leap_7 rfl ?_
  refine r_iload_n dL_leap_8 rfl ?_
  refine r_aload dL_leap_9 rfl ?_
  refine r_callS4 okL_blocks ⟨by decide, by decide⟩ ml_L_14 (mL_blocks hl2 hi q0 (up_s _ _ _) ⟨hqa, hqb⟩) (Nat.le_of_ble_eq_true rfl) (Nat.le_of_ble_eq_true rfl) (Nat.le_of_ble_eq_true rfl) rfl dL_leap_11 (nx_tI) (kx_tI ?_)
  intro M3 hM3
  obtain ⟨hfr3, f, hfA, hf⟩ := hM3
  have hn3 := (hfr3 _ hqa.symm).trans ((up_n _ hqa.symm).trans hn1)
  have hm3 := (hfr3 _ hqb.symm).trans ((up_n _ hqb.symm).trans hm1)
  have ht3 := (hfr3 _ hqt.symm).trans ((up_n _ hqt.symm).trans ht)
  refine r_istore dL_leap_14 (by decide) rfl ?_
  refine r_iload dL_leap_16 rfl ?_
  refine r_if_ne (tgt := 23) dL_leap_18 (by decide) (by omega) (fun h18 => ?_) (fun h18 => ?_)
  ·
    have hn0 : 0 < n s := by omega
    have hbb := hb0 hn0
    have hnz : n s ≠ 0 := by omega
    refine r_iload dL_leap_23 rfl ?_
    refine r_istore dL_leap_25 (by decide) rfl ?_
    refine J.loc (L' := [(0, some _), (1, some _), (2, some _), (3, some _), (5, some _), (6, some _), (7, some _), (8, some _)]) (lsub_cons rfl (lsub_cons rfl (lsub_cons rfl (lsub_cons rfl (lsub_cons rfl (lsub_cons rfl (lsub_cons rfl (lsub_cons rfl (lsub_nil))))))))) (loop2 (fun (b : Int) (M4 : Mem) => b0 ≤ b ∧ b < (nbF (n s) (F s) (g 0) (g 1)) ∧ lpQ (nbF (n s) (F s) (g 0) (g 1)) (stF (n s) (F s) (g 0) (g 1)) (F s) x b0 = ff (fun j => decide (x < F s ((stF (n s) (F s) (g 0) (g 1)) j))) ((nbF (n s) (F s) (g 0) (g 1)) - (b + 1)).toNat (b + 1) ∧ Fr1 tA M3 M4 ∧ ∃ t4 : Int → Int, M4 tA = some (aI 5 t4) ∧ (t4 0 = τ 0 ∧ t4 1 = τ 1 ∧ t4 2 = τ 2) ∧ t4 3 = τ 3 + (b - b0)) (fun (b : Int) (M4 : Mem) => ((nbF (n s) (F s) (g 0) (g 1)) - b).toNat) (fun (b : Int) (M4 : Mem) => J KL_leap 1 17 _ 27 [(0, some (.ref (ad 112))), (1, some (.ref (ad 113))), (2, some (vI s)), (3, some (vI x)), (5, some (.ref tA)), (6, some (.ref q2)), (7, some (vI (nbF (n s) (F s) (g 0) (g 1)))), (8, some (vI b))] [] M4 _ _) (fun b M4 hI27 ih27 => ?_) _ _ ?_)
    ·
      obtain ⟨hb4, hb5, hQ4, hfr4, t4, ht4, hs9, ht43⟩ := hI27
      have ht4n := (hfr4 _ htd.1.symm).trans hn3
      have ht4m := (hfr4 _ htd.2.symm).trans hm3
      have hf4 := (hfr4 _ hqt).trans hfA
      refine r_iload dL_leap_27 rfl ?_
      refine r_iconst dL_leap_29 ?_
      refine r_iadd dL_leap_30 ?_
      refine r_iload dL_leap_31 rfl ?_
      refine r_icmp_ge (tgt := 69) dL_leap_33 (by decide) (by omega) (by omega) (fun h33 => ?_) (fun h33 => ?_)
      ·
        refine J.loc (L' := [(0, some _), (1, some _), (2, some _), (3, some _), (5, some _), (6, some _), (7, some _), (8, some _)]) (lsub_cons rfl (lsub_cons rfl (lsub_cons rfl (lsub_cons rfl (lsub_cons rfl (lsub_cons rfl (lsub_cons rfl (lsub_cons rfl (lsub_nil))))))))) (loop1 (fun (M5 : Mem) => lpQ (nbF (n s) (F s) (g 0) (g 1)) (stF (n s) (F s) (g 0) (g 1)) (F s) x b0 = b + 1 ∧ Fr1 tA M3 M5 ∧ ∃ t5 : Int → Int, M5 tA = some (aI 5 t5) ∧ (t5 0 = τ 0 ∧ t5 1 = τ 1 ∧ t5 2 = τ 2) ∧ t5 3 = τ 3 + lpK (nbF (n s) (F s) (g 0) (g 1)) (stF (n s) (F s) (g 0) (g 1)) (F s) x b0) (fun (M5 : Mem) => 0) (fun (M5 : Mem) => J KL_leap 1 17 _ 69 [(0, some (.ref (ad 112))), (1, some (.ref (ad 113))), (2, some (vI s)), (3, some (vI x)), (5, some (.ref tA)), (6, some (.ref q2)), (7, some (vI (nbF (n s) (F s) (g 0) (g 1)))), (8, some (vI b))] [] M5 _ _) (fun M5 hI69 ih69 => ?_) _ ?_)
        ·
          obtain ⟨hQ5, hfr5, t5, ht5, hs9, ht53⟩ := hI69
          have ht5n := (hfr5 _ htd.1.symm).trans hn3
          have ht5m := (hfr5 _ htd.2.symm).trans hm3
          have hf5 := (hfr5 _ hqt).trans hfA
          refine r_aload dL_leap_69 rfl ?_
          refine r_iconst dL_leap_71 ?_
          refine r_iload dL_leap_72 rfl ?_
          refine r_iastore ht5 (by omega) (by omega) (by omega) dL_leap_74 ?_
          refine r_iload dL_leap_75 rfl ?_
          refine r_if_ne (tgt := 84) dL_leap_77 (by decide) (by omega) (fun h77 => ?_) (fun h77 => ?_)
          ·
            refine r_aload dL_leap_84 rfl ?_
            refine r_iload dL_leap_86 rfl ?_
            refine r_iconst dL_leap_88 ?_
            refine r_isub dL_leap_89 ?_
            refine r_iaload ((up_n _ hqt).trans hf5) (by omega) (by omega) (by omega) dL_leap_90 ?_
            rw [hf (b - 1) (by omega) (by omega), show b - 1 + 1 = b by omega]
            refine r_istore dL_leap_91 (by decide) rfl ?_
            have hsb := bs9 b (b + 1) (by omega) (by omega) (by omega)
            have hsb0 := bs8 b (by omega) (by omega)
            have hsb1 : stF (n s) (F s) (g 0) (g 1) (b + 1) ≤ n s := by
              by_cases e : b + 1 = nbF (n s) (F s) (g 0) (g 1)
              · rw [e, bs7]; omega
              · have := bs8 (b + 1) (by omega) (by omega); omega
            refine J.loc (L' := [(0, some _), (1, some _), (2, some _), (3, some _), (5, some _), (6, some _), (7, some _), (8, some _), (9, some _)]) (lsub_cons rfl (lsub_cons rfl (lsub_cons rfl (lsub_cons rfl (lsub_cons rfl (lsub_cons rfl (lsub_cons rfl (lsub_cons rfl (lsub_cons rfl (lsub_nil)))))))))) (loop2 (fun (p : Int) (M6 : Mem) => (stF (n s) (F s) (g 0) (g 1)) b ≤ p ∧ p ≤ (stF (n s) (F s) (g 0) (g 1)) (b + 1) ∧ lpR (stF (n s) (F s) (g 0) (g 1)) (F s) x (b + 1) = ff (fun i => decide (x ≤ F s i)) ((stF (n s) (F s) (g 0) (g 1)) (b + 1) - p).toNat p ∧ Fr1 tA M3 M6 ∧ ∃ t6 : Int → Int, M6 tA = some (aI 5 t6) ∧ (t6 0 = τ 0 ∧ t6 1 = τ 1 ∧ t6 2 = τ 2) ∧ t6 3 = τ 3 + lpK (nbF (n s) (F s) (g 0) (g 1)) (stF (n s) (F s) (g 0) (g 1)) (F s) x b0 + (p - (stF (n s) (F s) (g 0) (g 1)) b) ∧ t6 4 = b) (fun (p : Int) (M6 : Mem) => ((stF (n s) (F s) (g 0) (g 1)) (b + 1) - p).toNat) (fun (p : Int) (M6 : Mem) => J KL_leap 1 17 _ 93 [(0, some (.ref (ad 112))), (1, some (.ref (ad 113))), (2, some (vI s)), (3, some (vI x)), (5, some (.ref tA)), (6, some (.ref q2)), (7, some (vI (nbF (n s) (F s) (g 0) (g 1)))), (8, some (vI b)), (9, some (vI p))] [] M6 _ _) (fun p M6 hI93 ih93 => ?_) _ _ ?_)
            ·
              obtain ⟨hp0, hp1, hR6, hfr6, t6, ht6, hs9, ht63, ht64⟩ := hI93
              have ht6n := (hfr6 _ htd.1.symm).trans hn3
              have ht6m := (hfr6 _ htd.2.symm).trans hm3
              have hf6 := (hfr6 _ hqt).trans hfA
              refine r_iload dL_leap_93 rfl ?_
              refine r_aload dL_leap_95 rfl ?_
              refine r_iload dL_leap_97 rfl ?_
              refine r_iaload hf6 (by omega) (by omega) (by omega) dL_leap_99 ?_
              rw [hf b (by omega) (by omega)]
              refine r_icmp_ge (tgt := 133) dL_leap_100 (by decide) (by omega) (by omega) (fun h100 => ?_) (fun h100 => ?_)
              ·
                refine r_iload dL_leap_133 rfl ?_
                refine r_iconst dL_leap_135 ?_
                refine r_iadd dL_leap_136 ?_
                refine r_iload dL_leap_137 rfl ?_
                refine r_icmp_ne (tgt := 144) dL_leap_139 (by decide) (by omega) (by omega) (fun h139 => ?_) (fun h139 => ?_)
                ·
                  refine r_aload dL_leap_144 rfl ?_
                  refine r_iconst dL_leap_146 ?_
                  refine r_dup2 dL_leap_147 ?_
                  refine r_iaload ht6 (by omega) (by omega) (by omega) dL_leap_148 ?_
                  refine r_iconst dL_leap_149 ?_
                  refine r_iadd dL_leap_150 ?_
                  refine r_iastore ht6 (by omega) (by omega) (by omega) dL_leap_151 ?_
                  refine r_aload dL_leap_152 rfl ?_
                  refine r_iconst dL_leap_154 ?_
                  refine r_iload dL_leap_155 rfl ?_
                  refine r_iconst dL_leap_157 ?_
                  refine r_iadd dL_leap_158 ?_
                  refine r_iastore (up_s _ _ _) (by omega) (by omega) (by omega) dL_leap_159 ?_
                  refine r_aload dL_leap_160 rfl ?_
                  refine r_iload dL_leap_162 rfl ?_
                  refine r_iaload ((up_n _ hqt).trans ((up_n _ hqt).trans hf6)) (by omega) (by omega) (by omega) dL_leap_164 ?_
                  rw [hf b (by omega) (by omega)]
                  refine e_ireturn dL_leap_165 rfl (Nat.le_of_ble_eq_true rfl) (Nat.le_of_ble_eq_true rfl) ?_
                  have hpe : p = (stF (n s) (F s) (g 0) (g 1)) (b + 1) := by omega
                  have hR : lpR (stF (n s) (F s) (g 0) (g 1)) (F s) x (b + 1) = (stF (n s) (F s) (g 0) (g 1)) (b + 1) := by rw [hR6, show ((stF (n s) (F s) (g 0) (g 1)) (b + 1) - p).toNat = 0 by omega, ff]; exact hpe
                  rw [lpN_c hnz hQ5 hR (by omega)]
                  exact oktI rfl ⟨fr1_old hfr6.up.up hfr3 hq2, _, up_s _ _ _, ⟨by rw [uI_n _ (by omega), uI_n _ (by omega)]; exact hs9.1, by rw [uI_n _ (by omega), uI_n _ (by omega)]; exact hs9.2.1, by rw [uI_n _ (by omega), uI_n _ (by omega)]; exact hs9.2.2⟩, by rw [uI_n _ (by omega), uI_s, ht63, hpe]; show _ = τ 3 + (_ + ((stF (n s) (F s) (g 0) (g 1)) (b + 1) - (stF (n s) (F s) (g 0) (g 1)) b) + 1); omega, fun _ => uI_s _ _ _⟩
                ·
                  refine r_iconst dL_leap_142 ?_
                  refine e_ireturn dL_leap_143 rfl (Nat.le_of_ble_eq_true rfl) (Nat.le_of_ble_eq_true rfl) ?_
                  have hpe : p = (stF (n s) (F s) (g 0) (g 1)) (b + 1) := by omega
                  have hR : lpR (stF (n s) (F s) (g 0) (g 1)) (F s) x (b + 1) = (stF (n s) (F s) (g 0) (g 1)) (b + 1) := by rw [hR6, show ((stF (n s) (F s) (g 0) (g 1)) (b + 1) - p).toNat = 0 by omega, ff]; exact hpe
                  rw [lpN_b hnz hQ5 hR (by omega)]
                  exact oktI rfl ⟨fr1_old hfr6 hfr3 hq2, t6, ht6, hs9, by rw [ht63, hpe]; show _ = τ 3 + (_ + ((stF (n s) (F s) (g 0) (g 1)) (b + 1) - (stF (n s) (F s) (g 0) (g 1)) b)); omega, fun h => by have h9 : (0 : Int) ≤ -1 := h; omega⟩
              ·
                refine r_aload dL_leap_103 rfl ?_
                refine r_iconst dL_leap_105 ?_
                refine r_dup2 dL_leap_106 ?_
                refine r_iaload ht6 (by omega) (by omega) (by omega) dL_leap_107 ?_
                refine r_iconst dL_leap_108 ?_
                refine r_iadd dL_leap_109 ?_
                refine r_iastore ht6 (by omega) (by omega) (by omega) dL_leap_110 ?_
                refine r_aload_n dL_leap_111 rfl ?_
                refine r_bipush dL_leap_112 (by decide) ?_
                refine r_iload_n dL_leap_114 rfl ?_
                refine r_imul dL_leap_115 ?_
                refine r_iload dL_leap_116 rfl ?_
                refine r_iadd dL_leap_118 ?_
                refine r_iaload ((up_n _ htd.2.symm).trans ht6m) (by omega) (by omega) (by omega) dL_leap_119 ?_
                rw [hv1 p (by omega) (by omega)]
                have hb2 := hv2 p (by omega) (by omega)
                refine r_iload_n dL_leap_120 rfl ?_
                refine r_icmp_lt (tgt := 127) dL_leap_121 (by decide) (by omega) (by omega) (fun h121 => ?_) (fun h121 => ?_)
                ·
                  refine r_iinc dL_leap_127 rfl rfl ?_
                  refine r_goto (tgt := 93) dL_leap_130 (by decide) ?_
                  refine J.loc (lsub_cons rfl (lsub_cons rfl (lsub_cons rfl (lsub_cons rfl (lsub_cons rfl (lsub_cons rfl (lsub_cons rfl (lsub_cons rfl (lsub_cons rfl (lsub_nil)))))))))) (ih93 _ _ ?_ ?_)
                  · refine ⟨by omega, by omega, ?_, hfr6.up, _, up_s _ _ _, ⟨by rw [uI_n _ (by omega)]; exact hs9.1, by rw [uI_n _ (by omega)]; exact hs9.2.1, by rw [uI_n _ (by omega)]; exact hs9.2.2⟩, by rw [uI_s, ht63]; omega, by rw [uI_n _ (by omega)]; exact ht64⟩
                    rw [hR6, show ((stF (n s) (F s) (g 0) (g 1)) (b + 1) - p).toNat = ((stF (n s) (F s) (g 0) (g 1)) (b + 1) - (p + 1)).toNat + 1 by omega, ff, if_neg (by simp; omega)]
                  · omega
                ·
                  refine r_iload dL_leap_124 rfl ?_
                  refine e_ireturn dL_leap_126 rfl (Nat.le_of_ble_eq_true rfl) (Nat.le_of_ble_eq_true rfl) ?_
                  have hR : lpR (stF (n s) (F s) (g 0) (g 1)) (F s) x (b + 1) = p := by rw [hR6, show ((stF (n s) (F s) (g 0) (g 1)) (b + 1) - p).toNat = ((stF (n s) (F s) (g 0) (g 1)) (b + 1) - (p + 1)).toNat + 1 by omega, ff, if_pos (by simp; omega)]
                  rw [lpN_a hnz hQ5 hR (by omega)]
                  exact oktI rfl ⟨fr1_old hfr6.up hfr3 hq2, _, up_s _ _ _, ⟨by rw [uI_n _ (by omega)]; exact hs9.1, by rw [uI_n _ (by omega)]; exact hs9.2.1, by rw [uI_n _ (by omega)]; exact hs9.2.2⟩, by rw [uI_s, ht63]; show _ = τ 3 + (_ + (p - (stF (n s) (F s) (g 0) (g 1)) b + 1)); omega, fun _ => by rw [uI_n _ (by omega)]; exact ht64⟩
            · refine ⟨by omega, by omega, by unfold lpR; rw [show b + 1 - 1 = b by omega], hfr5.up, _, up_s _ _ _, ⟨by rw [uI_n _ (by omega)]; exact hs9.1, by rw [uI_n _ (by omega)]; exact hs9.2.1, by rw [uI_n _ (by omega)]; exact hs9.2.2⟩, by rw [uI_n _ (by omega), ht53]; omega, uI_s _ _ _⟩
          ·
            refine r_iconst dL_leap_80 ?_
            refine r_goto (tgt := 91) dL_leap_81 (by decide) ?_
            refine r_istore dL_leap_91 (by decide) rfl ?_
            have hsb := bs9 b (b + 1) (by omega) (by omega) (by omega)
            have hsb0 := bs8 b (by omega) (by omega)
            have hsb1 : stF (n s) (F s) (g 0) (g 1) (b + 1) ≤ n s := by
              by_cases e : b + 1 = nbF (n s) (F s) (g 0) (g 1)
              · rw [e, bs7]; omega
              · have := bs8 (b + 1) (by omega) (by omega); omega
            refine J.loc (L' := [(0, some _), (1, some _), (2, some _), (3, some _), (5, some _), (6, some _), (7, some _), (8, some _), (9, some _)]) (lsub_cons rfl (lsub_cons rfl (lsub_cons rfl (lsub_cons rfl (lsub_cons rfl (lsub_cons rfl (lsub_cons rfl (lsub_cons rfl (lsub_cons rfl (lsub_nil)))))))))) (loop2 (fun (p : Int) (M6 : Mem) => (stF (n s) (F s) (g 0) (g 1)) b ≤ p ∧ p ≤ (stF (n s) (F s) (g 0) (g 1)) (b + 1) ∧ lpR (stF (n s) (F s) (g 0) (g 1)) (F s) x (b + 1) = ff (fun i => decide (x ≤ F s i)) ((stF (n s) (F s) (g 0) (g 1)) (b + 1) - p).toNat p ∧ Fr1 tA M3 M6 ∧ ∃ t6 : Int → Int, M6 tA = some (aI 5 t6) ∧ (t6 0 = τ 0 ∧ t6 1 = τ 1 ∧ t6 2 = τ 2) ∧ t6 3 = τ 3 + lpK (nbF (n s) (F s) (g 0) (g 1)) (stF (n s) (F s) (g 0) (g 1)) (F s) x b0 + (p - (stF (n s) (F s) (g 0) (g 1)) b) ∧ t6 4 = b) (fun (p : Int) (M6 : Mem) => ((stF (n s) (F s) (g 0) (g 1)) (b + 1) - p).toNat) (fun (p : Int) (M6 : Mem) => J KL_leap 1 17 _ 93 [(0, some (.ref (ad 112))), (1, some (.ref (ad 113))), (2, some (vI s)), (3, some (vI x)), (5, some (.ref tA)), (6, some (.ref q2)), (7, some (vI (nbF (n s) (F s) (g 0) (g 1)))), (8, some (vI b)), (9, some (vI p))] [] M6 _ _) (fun p M6 hI93 ih93 => ?_) _ _ ?_)
            ·
              obtain ⟨hp0, hp1, hR6, hfr6, t6, ht6, hs9, ht63, ht64⟩ := hI93
              have ht6n := (hfr6 _ htd.1.symm).trans hn3
              have ht6m := (hfr6 _ htd.2.symm).trans hm3
              have hf6 := (hfr6 _ hqt).trans hfA
              refine r_iload dL_leap_93 rfl ?_
              refine r_aload dL_leap_95 rfl ?_
              refine r_iload dL_leap_97 rfl ?_
              refine r_iaload hf6 (by omega) (by omega) (by omega) dL_leap_99 ?_
              rw [hf b (by omega) (by omega)]
              refine r_icmp_ge (tgt := 133) dL_leap_100 (by decide) (by omega) (by omega) (fun h100 => ?_) (fun h100 => ?_)
              ·
                refine r_iload dL_leap_133 rfl ?_
                refine r_iconst dL_leap_135 ?_
                refine r_iadd dL_leap_136 ?_
                refine r_iload dL_leap_137 rfl ?_
                refine r_icmp_ne (tgt := 144) dL_leap_139 (by decide) (by omega) (by omega) (fun h139 => ?_) (fun h139 => ?_)
                ·
                  refine r_aload dL_leap_144 rfl ?_
                  refine r_iconst dL_leap_146 ?_
                  refine r_dup2 dL_leap_147 ?_
                  refine r_iaload ht6 (by omega) (by omega) (by omega) dL_leap_148 ?_
                  refine r_iconst dL_leap_149 ?_
                  refine r_iadd dL_leap_150 ?_
                  refine r_iastore ht6 (by omega) (by omega) (by omega) dL_leap_151 ?_
                  refine r_aload dL_leap_152 rfl ?_
                  refine r_iconst dL_leap_154 ?_
                  refine r_iload dL_leap_155 rfl ?_
                  refine r_iconst dL_leap_157 ?_
                  refine r_iadd dL_leap_158 ?_
                  refine r_iastore (up_s _ _ _) (by omega) (by omega) (by omega) dL_leap_159 ?_
                  refine r_aload dL_leap_160 rfl ?_
                  refine r_iload dL_leap_162 rfl ?_
                  refine r_iaload ((up_n _ hqt).trans ((up_n _ hqt).trans hf6)) (by omega) (by omega) (by omega) dL_leap_164 ?_
                  rw [hf b (by omega) (by omega)]
                  refine e_ireturn dL_leap_165 rfl (Nat.le_of_ble_eq_true rfl) (Nat.le_of_ble_eq_true rfl) ?_
                  have hpe : p = (stF (n s) (F s) (g 0) (g 1)) (b + 1) := by omega
                  have hR : lpR (stF (n s) (F s) (g 0) (g 1)) (F s) x (b + 1) = (stF (n s) (F s) (g 0) (g 1)) (b + 1) := by rw [hR6, show ((stF (n s) (F s) (g 0) (g 1)) (b + 1) - p).toNat = 0 by omega, ff]; exact hpe
                  rw [lpN_c hnz hQ5 hR (by omega)]
                  exact oktI rfl ⟨fr1_old hfr6.up.up hfr3 hq2, _, up_s _ _ _, ⟨by rw [uI_n _ (by omega), uI_n _ (by omega)]; exact hs9.1, by rw [uI_n _ (by omega), uI_n _ (by omega)]; exact hs9.2.1, by rw [uI_n _ (by omega), uI_n _ (by omega)]; exact hs9.2.2⟩, by rw [uI_n _ (by omega), uI_s, ht63, hpe]; show _ = τ 3 + (_ + ((stF (n s) (F s) (g 0) (g 1)) (b + 1) - (stF (n s) (F s) (g 0) (g 1)) b) + 1); omega, fun _ => uI_s _ _ _⟩
                ·
                  refine r_iconst dL_leap_142 ?_
                  refine e_ireturn dL_leap_143 rfl (Nat.le_of_ble_eq_true rfl) (Nat.le_of_ble_eq_true rfl) ?_
                  have hpe : p = (stF (n s) (F s) (g 0) (g 1)) (b + 1) := by omega
                  have hR : lpR (stF (n s) (F s) (g 0) (g 1)) (F s) x (b + 1) = (stF (n s) (F s) (g 0) (g 1)) (b + 1) := by rw [hR6, show ((stF (n s) (F s) (g 0) (g 1)) (b + 1) - p).toNat = 0 by omega, ff]; exact hpe
                  rw [lpN_b hnz hQ5 hR (by omega)]
                  exact oktI rfl ⟨fr1_old hfr6 hfr3 hq2, t6, ht6, hs9, by rw [ht63, hpe]; show _ = τ 3 + (_ + ((stF (n s) (F s) (g 0) (g 1)) (b + 1) - (stF (n s) (F s) (g 0) (g 1)) b)); omega, fun h => by have h9 : (0 : Int) ≤ -1 := h; omega⟩
              ·
                refine r_aload dL_leap_103 rfl ?_
                refine r_iconst dL_leap_105 ?_
                refine r_dup2 dL_leap_106 ?_
                refine r_iaload ht6 (by omega) (by omega) (by omega) dL_leap_107 ?_
                refine r_iconst dL_leap_108 ?_
                refine r_iadd dL_leap_109 ?_
                refine r_iastore ht6 (by omega) (by omega) (by omega) dL_leap_110 ?_
                refine r_aload_n dL_leap_111 rfl ?_
                refine r_bipush dL_leap_112 (by decide) ?_
                refine r_iload_n dL_leap_114 rfl ?_
                refine r_imul dL_leap_115 ?_
                refine r_iload dL_leap_116 rfl ?_
                refine r_iadd dL_leap_118 ?_
                refine r_iaload ((up_n _ htd.2.symm).trans ht6m) (by omega) (by omega) (by omega) dL_leap_119 ?_
                rw [hv1 p (by omega) (by omega)]
                have hb2 := hv2 p (by omega) (by omega)
                refine r_iload_n dL_leap_120 rfl ?_
                refine r_icmp_lt (tgt := 127) dL_leap_121 (by decide) (by omega) (by omega) (fun h121 => ?_) (fun h121 => ?_)
                ·
                  refine r_iinc dL_leap_127 rfl rfl ?_
                  refine r_goto (tgt := 93) dL_leap_130 (by decide) ?_
                  refine J.loc (lsub_cons rfl (lsub_cons rfl (lsub_cons rfl (lsub_cons rfl (lsub_cons rfl (lsub_cons rfl (lsub_cons rfl (lsub_cons rfl (lsub_cons rfl (lsub_nil)))))))))) (ih93 _ _ ?_ ?_)
                  · refine ⟨by omega, by omega, ?_, hfr6.up, _, up_s _ _ _, ⟨by rw [uI_n _ (by omega)]; exact hs9.1, by rw [uI_n _ (by omega)]; exact hs9.2.1, by rw [uI_n _ (by omega)]; exact hs9.2.2⟩, by rw [uI_s, ht63]; omega, by rw [uI_n _ (by omega)]; exact ht64⟩
                    rw [hR6, show ((stF (n s) (F s) (g 0) (g 1)) (b + 1) - p).toNat = ((stF (n s) (F s) (g 0) (g 1)) (b + 1) - (p + 1)).toNat + 1 by omega, ff, if_neg (by simp; omega)]
                  · omega
                ·
                  refine r_iload dL_leap_124 rfl ?_
                  refine e_ireturn dL_leap_126 rfl (Nat.le_of_ble_eq_true rfl) (Nat.le_of_ble_eq_true rfl) ?_
                  have hR : lpR (stF (n s) (F s) (g 0) (g 1)) (F s) x (b + 1) = p := by rw [hR6, show ((stF (n s) (F s) (g 0) (g 1)) (b + 1) - p).toNat = ((stF (n s) (F s) (g 0) (g 1)) (b + 1) - (p + 1)).toNat + 1 by omega, ff, if_pos (by simp; omega)]
                  rw [lpN_a hnz hQ5 hR (by omega)]
                  exact oktI rfl ⟨fr1_old hfr6.up hfr3 hq2, _, up_s _ _ _, ⟨by rw [uI_n _ (by omega)]; exact hs9.1, by rw [uI_n _ (by omega)]; exact hs9.2.1, by rw [uI_n _ (by omega)]; exact hs9.2.2⟩, by rw [uI_s, ht63]; show _ = τ 3 + (_ + (p - (stF (n s) (F s) (g 0) (g 1)) b + 1)); omega, fun _ => by rw [uI_n _ (by omega)]; exact ht64⟩
            · have hbz : b = 0 := by omega
              subst hbz
              refine ⟨by omega, by omega, by unfold lpR; rw [show (0 : Int) + 1 - 1 = 0 by omega, bs6], hfr5.up, _, up_s _ _ _, ⟨by rw [uI_n _ (by omega)]; exact hs9.1, by rw [uI_n _ (by omega)]; exact hs9.2.1, by rw [uI_n _ (by omega)]; exact hs9.2.2⟩, by rw [uI_n _ (by omega), ht53, bs6]; omega, uI_s _ _ _⟩
        · have hQ : lpQ (nbF (n s) (F s) (g 0) (g 1)) (stF (n s) (F s) (g 0) (g 1)) (F s) x b0 = b + 1 := by rw [hQ4, show ((nbF (n s) (F s) (g 0) (g 1)) - (b + 1)).toNat = 0 by omega, ff]
          refine ⟨hQ, hfr4, t4, ht4, hs9, ?_⟩
          unfold lpK
          rw [hQ, if_neg (by omega), ht43]; omega
      ·
        have hst1 := bs8 (b + 1) (by omega) (by omega)
        refine r_aload dL_leap_36 rfl ?_
        refine r_iconst dL_leap_38 ?_
        refine r_dup2 dL_leap_39 ?_
        refine r_iaload ht4 (by omega) (by omega) (by omega) dL_leap_40 ?_
        refine r_iconst dL_leap_41 ?_
        refine r_iadd dL_leap_42 ?_
        refine r_iastore ht4 (by omega) (by omega) (by omega) dL_leap_43 ?_
        refine r_aload_n dL_leap_44 rfl ?_
        refine r_bipush dL_leap_45 (by decide) ?_
        refine r_iload_n dL_leap_47 rfl ?_
        refine r_imul dL_leap_48 ?_
        refine r_aload dL_leap_49 rfl ?_
        refine r_iload dL_leap_51 rfl ?_
        refine r_iaload ((up_n _ hqt).trans hf4) (by omega) (by omega) (by omega) dL_leap_53 ?_
        rw [hf b (by omega) (by omega)]
        refine r_iadd dL_leap_54 ?_
        refine r_iaload ((up_n _ htd.2.symm).trans ht4m) (by omega) (by omega) (by omega) dL_leap_55 ?_
        rw [hv1 _ hst1.1 hst1.2]
        have hb1 := hv2 _ hst1.1 hst1.2
        refine r_iload_n dL_leap_56 rfl ?_
        refine r_icmp_le (tgt := 63) dL_leap_57 (by decide) (by omega) (by omega) (fun h57 => ?_) (fun h57 => ?_)
        ·
          refine r_iinc dL_leap_63 rfl rfl ?_
          refine r_goto (tgt := 27) dL_leap_66 (by decide) ?_
          refine J.loc (lsub_cons rfl (lsub_cons rfl (lsub_cons rfl (lsub_cons rfl (lsub_cons rfl (lsub_cons rfl (lsub_cons rfl (lsub_cons rfl (lsub_nil))))))))) (ih27 _ _ ?_ ?_)
          · refine ⟨by omega, by omega, ?_, hfr4.up, _, up_s _ _ _, ⟨by rw [uI_n _ (by omega)]; exact hs9.1, by rw [uI_n _ (by omega)]; exact hs9.2.1, by rw [uI_n _ (by omega)]; exact hs9.2.2⟩, by rw [uI_s, ht43]; omega⟩
            rw [hQ4, show ((nbF (n s) (F s) (g 0) (g 1)) - (b + 1)).toNat = ((nbF (n s) (F s) (g 0) (g 1)) - (b + 1 + 1)).toNat + 1 by omega, ff, if_neg (by simp; omega)]
          · omega
        ·
          refine r_goto (tgt := 69) dL_leap_60 (by decide) ?_
          refine J.loc (L' := [(0, some _), (1, some _), (2, some _), (3, some _), (5, some _), (6, some _), (7, some _), (8, some _)]) (lsub_cons rfl (lsub_cons rfl (lsub_cons rfl (lsub_cons rfl (lsub_cons rfl (lsub_cons rfl (lsub_cons rfl (lsub_cons rfl (lsub_nil))))))))) (loop1 (fun (M5 : Mem) => lpQ (nbF (n s) (F s) (g 0) (g 1)) (stF (n s) (F s) (g 0) (g 1)) (F s) x b0 = b + 1 ∧ Fr1 tA M3 M5 ∧ ∃ t5 : Int → Int, M5 tA = some (aI 5 t5) ∧ (t5 0 = τ 0 ∧ t5 1 = τ 1 ∧ t5 2 = τ 2) ∧ t5 3 = τ 3 + lpK (nbF (n s) (F s) (g 0) (g 1)) (stF (n s) (F s) (g 0) (g 1)) (F s) x b0) (fun (M5 : Mem) => 0) (fun (M5 : Mem) => J KL_leap 1 17 _ 69 [(0, some (.ref (ad 112))), (1, some (.ref (ad 113))), (2, some (vI s)), (3, some (vI x)), (5, some (.ref tA)), (6, some (.ref q2)), (7, some (vI (nbF (n s) (F s) (g 0) (g 1)))), (8, some (vI b))] [] M5 _ _) (fun M5 hI69 ih69 => ?_) _ ?_)
          ·
            obtain ⟨hQ5, hfr5, t5, ht5, hs9, ht53⟩ := hI69
            have ht5n := (hfr5 _ htd.1.symm).trans hn3
            have ht5m := (hfr5 _ htd.2.symm).trans hm3
            have hf5 := (hfr5 _ hqt).trans hfA
            refine r_aload dL_leap_69 rfl ?_
            refine r_iconst dL_leap_71 ?_
            refine r_iload dL_leap_72 rfl ?_
            refine r_iastore ht5 (by omega) (by omega) (by omega) dL_leap_74 ?_
            refine r_iload dL_leap_75 rfl ?_
            refine r_if_ne (tgt := 84) dL_leap_77 (by decide) (by omega) (fun h77 => ?_) (fun h77 => ?_)
            ·
              refine r_aload dL_leap_84 rfl ?_
              refine r_iload dL_leap_86 rfl ?_
              refine r_iconst dL_leap_88 ?_
              refine r_isub dL_leap_89 ?_
              refine r_iaload ((up_n _ hqt).trans hf5) (by omega) (by omega) (by omega) dL_leap_90 ?_
              rw [hf (b - 1) (by omega) (by omega), show b - 1 + 1 = b by omega]
              refine r_istore dL_leap_91 (by decide) rfl ?_
              have hsb := bs9 b (b + 1) (by omega) (by omega) (by omega)
              have hsb0 := bs8 b (by omega) (by omega)
              have hsb1 : stF (n s) (F s) (g 0) (g 1) (b + 1) ≤ n s := by
                by_cases e : b + 1 = nbF (n s) (F s) (g 0) (g 1)
                · rw [e, bs7]; omega
                · have := bs8 (b + 1) (by omega) (by omega); omega
              refine J.loc (L' := [(0, some _), (1, some _), (2, some _), (3, some _), (5, some _), (6, some _), (7, some _), (8, some _), (9, some _)]) (lsub_cons rfl (lsub_cons rfl (lsub_cons rfl (lsub_cons rfl (lsub_cons rfl (lsub_cons rfl (lsub_cons rfl (lsub_cons rfl (lsub_cons rfl (lsub_nil)))))))))) (loop2 (fun (p : Int) (M6 : Mem) => (stF (n s) (F s) (g 0) (g 1)) b ≤ p ∧ p ≤ (stF (n s) (F s) (g 0) (g 1)) (b + 1) ∧ lpR (stF (n s) (F s) (g 0) (g 1)) (F s) x (b + 1) = ff (fun i => decide (x ≤ F s i)) ((stF (n s) (F s) (g 0) (g 1)) (b + 1) - p).toNat p ∧ Fr1 tA M3 M6 ∧ ∃ t6 : Int → Int, M6 tA = some (aI 5 t6) ∧ (t6 0 = τ 0 ∧ t6 1 = τ 1 ∧ t6 2 = τ 2) ∧ t6 3 = τ 3 + lpK (nbF (n s) (F s) (g 0) (g 1)) (stF (n s) (F s) (g 0) (g 1)) (F s) x b0 + (p - (stF (n s) (F s) (g 0) (g 1)) b) ∧ t6 4 = b) (fun (p : Int) (M6 : Mem) => ((stF (n s) (F s) (g 0) (g 1)) (b + 1) - p).toNat) (fun (p : Int) (M6 : Mem) => J KL_leap 1 17 _ 93 [(0, some (.ref (ad 112))), (1, some (.ref (ad 113))), (2, some (vI s)), (3, some (vI x)), (5, some (.ref tA)), (6, some (.ref q2)), (7, some (vI (nbF (n s) (F s) (g 0) (g 1)))), (8, some (vI b)), (9, some (vI p))] [] M6 _ _) (fun p M6 hI93 ih93 => ?_) _ _ ?_)
              ·
                obtain ⟨hp0, hp1, hR6, hfr6, t6, ht6, hs9, ht63, ht64⟩ := hI93
                have ht6n := (hfr6 _ htd.1.symm).trans hn3
                have ht6m := (hfr6 _ htd.2.symm).trans hm3
                have hf6 := (hfr6 _ hqt).trans hfA
                refine r_iload dL_leap_93 rfl ?_
                refine r_aload dL_leap_95 rfl ?_
                refine r_iload dL_leap_97 rfl ?_
                refine r_iaload hf6 (by omega) (by omega) (by omega) dL_leap_99 ?_
                rw [hf b (by omega) (by omega)]
                refine r_icmp_ge (tgt := 133) dL_leap_100 (by decide) (by omega) (by omega) (fun h100 => ?_) (fun h100 => ?_)
                ·
                  refine r_iload dL_leap_133 rfl ?_
                  refine r_iconst dL_leap_135 ?_
                  refine r_iadd dL_leap_136 ?_
                  refine r_iload dL_leap_137 rfl ?_
                  refine r_icmp_ne (tgt := 144) dL_leap_139 (by decide) (by omega) (by omega) (fun h139 => ?_) (fun h139 => ?_)
                  ·
                    refine r_aload dL_leap_144 rfl ?_
                    refine r_iconst dL_leap_146 ?_
                    refine r_dup2 dL_leap_147 ?_
                    refine r_iaload ht6 (by omega) (by omega) (by omega) dL_leap_148 ?_
                    refine r_iconst dL_leap_149 ?_
                    refine r_iadd dL_leap_150 ?_
                    refine r_iastore ht6 (by omega) (by omega) (by omega) dL_leap_151 ?_
                    refine r_aload dL_leap_152 rfl ?_
                    refine r_iconst dL_leap_154 ?_
                    refine r_iload dL_leap_155 rfl ?_
                    refine r_iconst dL_leap_157 ?_
                    refine r_iadd dL_leap_158 ?_
                    refine r_iastore (up_s _ _ _) (by omega) (by omega) (by omega) dL_leap_159 ?_
                    refine r_aload dL_leap_160 rfl ?_
                    refine r_iload dL_leap_162 rfl ?_
                    refine r_iaload ((up_n _ hqt).trans ((up_n _ hqt).trans hf6)) (by omega) (by omega) (by omega) dL_leap_164 ?_
                    rw [hf b (by omega) (by omega)]
                    refine e_ireturn dL_leap_165 rfl (Nat.le_of_ble_eq_true rfl) (Nat.le_of_ble_eq_true rfl) ?_
                    have hpe : p = (stF (n s) (F s) (g 0) (g 1)) (b + 1) := by omega
                    have hR : lpR (stF (n s) (F s) (g 0) (g 1)) (F s) x (b + 1) = (stF (n s) (F s) (g 0) (g 1)) (b + 1) := by rw [hR6, show ((stF (n s) (F s) (g 0) (g 1)) (b + 1) - p).toNat = 0 by omega, ff]; exact hpe
                    rw [lpN_c hnz hQ5 hR (by omega)]
                    exact oktI rfl ⟨fr1_old hfr6.up.up hfr3 hq2, _, up_s _ _ _, ⟨by rw [uI_n _ (by omega), uI_n _ (by omega)]; exact hs9.1, by rw [uI_n _ (by omega), uI_n _ (by omega)]; exact hs9.2.1, by rw [uI_n _ (by omega), uI_n _ (by omega)]; exact hs9.2.2⟩, by rw [uI_n _ (by omega), uI_s, ht63, hpe]; show _ = τ 3 + (_ + ((stF (n s) (F s) (g 0) (g 1)) (b + 1) - (stF (n s) (F s) (g 0) (g 1)) b) + 1); omega, fun _ => uI_s _ _ _⟩
                  ·
                    refine r_iconst dL_leap_142 ?_
                    refine e_ireturn dL_leap_143 rfl (Nat.le_of_ble_eq_true rfl) (Nat.le_of_ble_eq_true rfl) ?_
                    have hpe : p = (stF (n s) (F s) (g 0) (g 1)) (b + 1) := by omega
                    have hR : lpR (stF (n s) (F s) (g 0) (g 1)) (F s) x (b + 1) = (stF (n s) (F s) (g 0) (g 1)) (b + 1) := by rw [hR6, show ((stF (n s) (F s) (g 0) (g 1)) (b + 1) - p).toNat = 0 by omega, ff]; exact hpe
                    rw [lpN_b hnz hQ5 hR (by omega)]
                    exact oktI rfl ⟨fr1_old hfr6 hfr3 hq2, t6, ht6, hs9, by rw [ht63, hpe]; show _ = τ 3 + (_ + ((stF (n s) (F s) (g 0) (g 1)) (b + 1) - (stF (n s) (F s) (g 0) (g 1)) b)); omega, fun h => by have h9 : (0 : Int) ≤ -1 := h; omega⟩
                ·
                  refine r_aload dL_leap_103 rfl ?_
                  refine r_iconst dL_leap_105 ?_
                  refine r_dup2 dL_leap_106 ?_
                  refine r_iaload ht6 (by omega) (by omega) (by omega) dL_leap_107 ?_
                  refine r_iconst dL_leap_108 ?_
                  refine r_iadd dL_leap_109 ?_
                  refine r_iastore ht6 (by omega) (by omega) (by omega) dL_leap_110 ?_
                  refine r_aload_n dL_leap_111 rfl ?_
                  refine r_bipush dL_leap_112 (by decide) ?_
                  refine r_iload_n dL_leap_114 rfl ?_
                  refine r_imul dL_leap_115 ?_
                  refine r_iload dL_leap_116 rfl ?_
                  refine r_iadd dL_leap_118 ?_
                  refine r_iaload ((up_n _ htd.2.symm).trans ht6m) (by omega) (by omega) (by omega) dL_leap_119 ?_
                  rw [hv1 p (by omega) (by omega)]
                  have hb2 := hv2 p (by omega) (by omega)
                  refine r_iload_n dL_leap_120 rfl ?_
                  refine r_icmp_lt (tgt := 127) dL_leap_121 (by decide) (by omega) (by omega) (fun h121 => ?_) (fun h121 => ?_)
                  ·
                    refine r_iinc dL_leap_127 rfl rfl ?_
                    refine r_goto (tgt := 93) dL_leap_130 (by decide) ?_
                    refine J.loc (lsub_cons rfl (lsub_cons rfl (lsub_cons rfl (lsub_cons rfl (lsub_cons rfl (lsub_cons rfl (lsub_cons rfl (lsub_cons rfl (lsub_cons rfl (lsub_nil)))))))))) (ih93 _ _ ?_ ?_)
                    · refine ⟨by omega, by omega, ?_, hfr6.up, _, up_s _ _ _, ⟨by rw [uI_n _ (by omega)]; exact hs9.1, by rw [uI_n _ (by omega)]; exact hs9.2.1, by rw [uI_n _ (by omega)]; exact hs9.2.2⟩, by rw [uI_s, ht63]; omega, by rw [uI_n _ (by omega)]; exact ht64⟩
                      rw [hR6, show ((stF (n s) (F s) (g 0) (g 1)) (b + 1) - p).toNat = ((stF (n s) (F s) (g 0) (g 1)) (b + 1) - (p + 1)).toNat + 1 by omega, ff, if_neg (by simp; omega)]
                    · omega
                  ·
                    refine r_iload dL_leap_124 rfl ?_
                    refine e_ireturn dL_leap_126 rfl (Nat.le_of_ble_eq_true rfl) (Nat.le_of_ble_eq_true rfl) ?_
                    have hR : lpR (stF (n s) (F s) (g 0) (g 1)) (F s) x (b + 1) = p := by rw [hR6, show ((stF (n s) (F s) (g 0) (g 1)) (b + 1) - p).toNat = ((stF (n s) (F s) (g 0) (g 1)) (b + 1) - (p + 1)).toNat + 1 by omega, ff, if_pos (by simp; omega)]
                    rw [lpN_a hnz hQ5 hR (by omega)]
                    exact oktI rfl ⟨fr1_old hfr6.up hfr3 hq2, _, up_s _ _ _, ⟨by rw [uI_n _ (by omega)]; exact hs9.1, by rw [uI_n _ (by omega)]; exact hs9.2.1, by rw [uI_n _ (by omega)]; exact hs9.2.2⟩, by rw [uI_s, ht63]; show _ = τ 3 + (_ + (p - (stF (n s) (F s) (g 0) (g 1)) b + 1)); omega, fun _ => by rw [uI_n _ (by omega)]; exact ht64⟩
              · refine ⟨by omega, by omega, by unfold lpR; rw [show b + 1 - 1 = b by omega], hfr5.up, _, up_s _ _ _, ⟨by rw [uI_n _ (by omega)]; exact hs9.1, by rw [uI_n _ (by omega)]; exact hs9.2.1, by rw [uI_n _ (by omega)]; exact hs9.2.2⟩, by rw [uI_n _ (by omega), ht53]; omega, uI_s _ _ _⟩
            ·
              refine r_iconst dL_leap_80 ?_
              refine r_goto (tgt := 91) dL_leap_81 (by decide) ?_
              refine r_istore dL_leap_91 (by decide) rfl ?_
              have hsb := bs9 b (b + 1) (by omega) (by omega) (by omega)
              have hsb0 := bs8 b (by omega) (by omega)
              have hsb1 : stF (n s) (F s) (g 0) (g 1) (b + 1) ≤ n s := by
                by_cases e : b + 1 = nbF (n s) (F s) (g 0) (g 1)
                · rw [e, bs7]; omega
                · have := bs8 (b + 1) (by omega) (by omega); omega
              refine J.loc (L' := [(0, some _), (1, some _), (2, some _), (3, some _), (5, some _), (6, some _), (7, some _), (8, some _), (9, some _)]) (lsub_cons rfl (lsub_cons rfl (lsub_cons rfl (lsub_cons rfl (lsub_cons rfl (lsub_cons rfl (lsub_cons rfl (lsub_cons rfl (lsub_cons rfl (lsub_nil)))))))))) (loop2 (fun (p : Int) (M6 : Mem) => (stF (n s) (F s) (g 0) (g 1)) b ≤ p ∧ p ≤ (stF (n s) (F s) (g 0) (g 1)) (b + 1) ∧ lpR (stF (n s) (F s) (g 0) (g 1)) (F s) x (b + 1) = ff (fun i => decide (x ≤ F s i)) ((stF (n s) (F s) (g 0) (g 1)) (b + 1) - p).toNat p ∧ Fr1 tA M3 M6 ∧ ∃ t6 : Int → Int, M6 tA = some (aI 5 t6) ∧ (t6 0 = τ 0 ∧ t6 1 = τ 1 ∧ t6 2 = τ 2) ∧ t6 3 = τ 3 + lpK (nbF (n s) (F s) (g 0) (g 1)) (stF (n s) (F s) (g 0) (g 1)) (F s) x b0 + (p - (stF (n s) (F s) (g 0) (g 1)) b) ∧ t6 4 = b) (fun (p : Int) (M6 : Mem) => ((stF (n s) (F s) (g 0) (g 1)) (b + 1) - p).toNat) (fun (p : Int) (M6 : Mem) => J KL_leap 1 17 _ 93 [(0, some (.ref (ad 112))), (1, some (.ref (ad 113))), (2, some (vI s)), (3, some (vI x)), (5, some (.ref tA)), (6, some (.ref q2)), (7, some (vI (nbF (n s) (F s) (g 0) (g 1)))), (8, some (vI b)), (9, some (vI p))] [] M6 _ _) (fun p M6 hI93 ih93 => ?_) _ _ ?_)
              ·
                obtain ⟨hp0, hp1, hR6, hfr6, t6, ht6, hs9, ht63, ht64⟩ := hI93
                have ht6n := (hfr6 _ htd.1.symm).trans hn3
                have ht6m := (hfr6 _ htd.2.symm).trans hm3
                have hf6 := (hfr6 _ hqt).trans hfA
                refine r_iload dL_leap_93 rfl ?_
                refine r_aload dL_leap_95 rfl ?_
                refine r_iload dL_leap_97 rfl ?_
                refine r_iaload hf6 (by omega) (by omega) (by omega) dL_leap_99 ?_
                rw [hf b (by omega) (by omega)]
                refine r_icmp_ge (tgt := 133) dL_leap_100 (by decide) (by omega) (by omega) (fun h100 => ?_) (fun h100 => ?_)
                ·
                  refine r_iload dL_leap_133 rfl ?_
                  refine r_iconst dL_leap_135 ?_
                  refine r_iadd dL_leap_136 ?_
                  refine r_iload dL_leap_137 rfl ?_
                  refine r_icmp_ne (tgt := 144) dL_leap_139 (by decide) (by omega) (by omega) (fun h139 => ?_) (fun h139 => ?_)
                  ·
                    refine r_aload dL_leap_144 rfl ?_
                    refine r_iconst dL_leap_146 ?_
                    refine r_dup2 dL_leap_147 ?_
                    refine r_iaload ht6 (by omega) (by omega) (by omega) dL_leap_148 ?_
                    refine r_iconst dL_leap_149 ?_
                    refine r_iadd dL_leap_150 ?_
                    refine r_iastore ht6 (by omega) (by omega) (by omega) dL_leap_151 ?_
                    refine r_aload dL_leap_152 rfl ?_
                    refine r_iconst dL_leap_154 ?_
                    refine r_iload dL_leap_155 rfl ?_
                    refine r_iconst dL_leap_157 ?_
                    refine r_iadd dL_leap_158 ?_
                    refine r_iastore (up_s _ _ _) (by omega) (by omega) (by omega) dL_leap_159 ?_
                    refine r_aload dL_leap_160 rfl ?_
                    refine r_iload dL_leap_162 rfl ?_
                    refine r_iaload ((up_n _ hqt).trans ((up_n _ hqt).trans hf6)) (by omega) (by omega) (by omega) dL_leap_164 ?_
                    rw [hf b (by omega) (by omega)]
                    refine e_ireturn dL_leap_165 rfl (Nat.le_of_ble_eq_true rfl) (Nat.le_of_ble_eq_true rfl) ?_
                    have hpe : p = (stF (n s) (F s) (g 0) (g 1)) (b + 1) := by omega
                    have hR : lpR (stF (n s) (F s) (g 0) (g 1)) (F s) x (b + 1) = (stF (n s) (F s) (g 0) (g 1)) (b + 1) := by rw [hR6, show ((stF (n s) (F s) (g 0) (g 1)) (b + 1) - p).toNat = 0 by omega, ff]; exact hpe
                    rw [lpN_c hnz hQ5 hR (by omega)]
                    exact oktI rfl ⟨fr1_old hfr6.up.up hfr3 hq2, _, up_s _ _ _, ⟨by rw [uI_n _ (by omega), uI_n _ (by omega)]; exact hs9.1, by rw [uI_n _ (by omega), uI_n _ (by omega)]; exact hs9.2.1, by rw [uI_n _ (by omega), uI_n _ (by omega)]; exact hs9.2.2⟩, by rw [uI_n _ (by omega), uI_s, ht63, hpe]; show _ = τ 3 + (_ + ((stF (n s) (F s) (g 0) (g 1)) (b + 1) - (stF (n s) (F s) (g 0) (g 1)) b) + 1); omega, fun _ => uI_s _ _ _⟩
                  ·
                    refine r_iconst dL_leap_142 ?_
                    refine e_ireturn dL_leap_143 rfl (Nat.le_of_ble_eq_true rfl) (Nat.le_of_ble_eq_true rfl) ?_
                    have hpe : p = (stF (n s) (F s) (g 0) (g 1)) (b + 1) := by omega
                    have hR : lpR (stF (n s) (F s) (g 0) (g 1)) (F s) x (b + 1) = (stF (n s) (F s) (g 0) (g 1)) (b + 1) := by rw [hR6, show ((stF (n s) (F s) (g 0) (g 1)) (b + 1) - p).toNat = 0 by omega, ff]; exact hpe
                    rw [lpN_b hnz hQ5 hR (by omega)]
                    exact oktI rfl ⟨fr1_old hfr6 hfr3 hq2, t6, ht6, hs9, by rw [ht63, hpe]; show _ = τ 3 + (_ + ((stF (n s) (F s) (g 0) (g 1)) (b + 1) - (stF (n s) (F s) (g 0) (g 1)) b)); omega, fun h => by have h9 : (0 : Int) ≤ -1 := h; omega⟩
                ·
                  refine r_aload dL_leap_103 rfl ?_
                  refine r_iconst dL_leap_105 ?_
                  refine r_dup2 dL_leap_106 ?_
                  refine r_iaload ht6 (by omega) (by omega) (by omega) dL_leap_107 ?_
                  refine r_iconst dL_leap_108 ?_
                  refine r_iadd dL_leap_109 ?_
                  refine r_iastore ht6 (by omega) (by omega) (by omega) dL_leap_110 ?_
                  refine r_aload_n dL_leap_111 rfl ?_
                  refine r_bipush dL_leap_112 (by decide) ?_
                  refine r_iload_n dL_leap_114 rfl ?_
                  refine r_imul dL_leap_115 ?_
                  refine r_iload dL_leap_116 rfl ?_
                  refine r_iadd dL_leap_118 ?_
                  refine r_iaload ((up_n _ htd.2.symm).trans ht6m) (by omega) (by omega) (by omega) dL_leap_119 ?_
                  rw [hv1 p (by omega) (by omega)]
                  have hb2 := hv2 p (by omega) (by omega)
                  refine r_iload_n dL_leap_120 rfl ?_
                  refine r_icmp_lt (tgt := 127) dL_leap_121 (by decide) (by omega) (by omega) (fun h121 => ?_) (fun h121 => ?_)
                  ·
                    refine r_iinc dL_leap_127 rfl rfl ?_
                    refine r_goto (tgt := 93) dL_leap_130 (by decide) ?_
                    refine J.loc (lsub_cons rfl (lsub_cons rfl (lsub_cons rfl (lsub_cons rfl (lsub_cons rfl (lsub_cons rfl (lsub_cons rfl (lsub_cons rfl (lsub_cons rfl (lsub_nil)))))))))) (ih93 _ _ ?_ ?_)
                    · refine ⟨by omega, by omega, ?_, hfr6.up, _, up_s _ _ _, ⟨by rw [uI_n _ (by omega)]; exact hs9.1, by rw [uI_n _ (by omega)]; exact hs9.2.1, by rw [uI_n _ (by omega)]; exact hs9.2.2⟩, by rw [uI_s, ht63]; omega, by rw [uI_n _ (by omega)]; exact ht64⟩
                      rw [hR6, show ((stF (n s) (F s) (g 0) (g 1)) (b + 1) - p).toNat = ((stF (n s) (F s) (g 0) (g 1)) (b + 1) - (p + 1)).toNat + 1 by omega, ff, if_neg (by simp; omega)]
                    · omega
                  ·
                    refine r_iload dL_leap_124 rfl ?_
                    refine e_ireturn dL_leap_126 rfl (Nat.le_of_ble_eq_true rfl) (Nat.le_of_ble_eq_true rfl) ?_
                    have hR : lpR (stF (n s) (F s) (g 0) (g 1)) (F s) x (b + 1) = p := by rw [hR6, show ((stF (n s) (F s) (g 0) (g 1)) (b + 1) - p).toNat = ((stF (n s) (F s) (g 0) (g 1)) (b + 1) - (p + 1)).toNat + 1 by omega, ff, if_pos (by simp; omega)]
                    rw [lpN_a hnz hQ5 hR (by omega)]
                    exact oktI rfl ⟨fr1_old hfr6.up hfr3 hq2, _, up_s _ _ _, ⟨by rw [uI_n _ (by omega)]; exact hs9.1, by rw [uI_n _ (by omega)]; exact hs9.2.1, by rw [uI_n _ (by omega)]; exact hs9.2.2⟩, by rw [uI_s, ht63]; show _ = τ 3 + (_ + (p - (stF (n s) (F s) (g 0) (g 1)) b + 1)); omega, fun _ => by rw [uI_n _ (by omega)]; exact ht64⟩
              · have hbz : b = 0 := by omega
                subst hbz
                refine ⟨by omega, by omega, by unfold lpR; rw [show (0 : Int) + 1 - 1 = 0 by omega, bs6], hfr5.up, _, up_s _ _ _, ⟨by rw [uI_n _ (by omega)]; exact hs9.1, by rw [uI_n _ (by omega)]; exact hs9.2.1, by rw [uI_n _ (by omega)]; exact hs9.2.2⟩, by rw [uI_n _ (by omega), ht53, bs6]; omega, uI_s _ _ _⟩
          · have hQ : lpQ (nbF (n s) (F s) (g 0) (g 1)) (stF (n s) (F s) (g 0) (g 1)) (F s) x b0 = b + 1 := by rw [hQ4, show ((nbF (n s) (F s) (g 0) (g 1)) - (b + 1)).toNat = ((nbF (n s) (F s) (g 0) (g 1)) - (b + 1 + 1)).toNat + 1 by omega, ff, if_pos (by simp; omega)]
            refine ⟨hQ, hfr4.up, _, up_s _ _ _, ⟨by rw [uI_n _ (by omega)]; exact hs9.1, by rw [uI_n _ (by omega)]; exact hs9.2.1, by rw [uI_n _ (by omega)]; exact hs9.2.2⟩, ?_⟩
            unfold lpK
            rw [hQ, if_pos (by omega), uI_s, ht43]; omega
    · exact ⟨by omega, by omega, rfl, Fr1.rf, τ, ht3, ⟨rfl, rfl, rfl⟩, by omega⟩
  ·
    refine r_iconst dL_leap_21 ?_
    refine e_ireturn dL_leap_22 rfl (Nat.le_of_ble_eq_true rfl) (Nat.le_of_ble_eq_true rfl) ?_
    have hz : n s = 0 := by
      by_cases e : n s = 0
      · exact e
      · have := bs5 (by omega); omega
    have e9 : lpN (n s) (nbF (n s) (F s) (g 0) (g 1)) (stF (n s) (F s) (g 0) (g 1)) (F s) x b0 = (-1, 0, b0) := by unfold lpN; rw [if_pos hz]
    rw [e9]
    exact oktI rfl ⟨fr1_old Fr1.rf hfr3 hq2, τ, ht3, ⟨rfl, rfl, rfl⟩, by show τ 3 = τ 3 + 0; omega, fun h => by have h9 : (0 : Int) ≤ -1 := h; omega⟩
