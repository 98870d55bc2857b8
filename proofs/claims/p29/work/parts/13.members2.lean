/-! the class Members: what it changes -/
set_option maxHeartbeats 4000000 in
theorem mX5_empty {M : Mem} {o a N : Nat} {n : Int} {F : Int → Int} (hm : Mb M o a N n F) : Ct KX5_empty [.ref o] M 0 0 (atV (fun M2 => Mb M2 o a N 0 F ∧ Fr2 o a M M2)) := by
  refine Ct.of _ (by decide) rfl (Nat.le_of_ble_eq_true rfl) ?_
  obtain ⟨ho, ⟨f, ha, hf⟩, hn0, hnN, hN, hb⟩ := id hm
  have hao := hm.ne
  have hoa := hao.symm
  refine r_aload_n dX5_empty_0 rfl ?_
  refine r_iconst dX5_empty_1 ?_
  refine r_putfield clX5 1 (by decide) fl_X5_15 rfl (by first | assumption | exact up_s _ _ _ | exact (up_n _ (by assumption)).trans (by assumption) | exact (up_n _ (by assumption)).trans (up_s _ _ _) | exact (up_n _ (by assumption)).trans ((up_n _ (by assumption)).trans (by assumption))) rfl rfl (Nat.le_of_ble_eq_true rfl) dX5_empty_2 ?_
  refine e_return dX5_empty_5 rfl (Nat.le_of_ble_eq_true rfl) (Nat.le_of_ble_eq_true rfl) ?_
  exact oktV ⟨⟨up_s _ _ _, ⟨f, (up_n _ hao).trans ha, fun i h1 h2 => by omega⟩, by omega, by omega, hN, fun i h1 h2 => by omega⟩, Fr2.rf.up1⟩

set_option maxHeartbeats 4000000 in
theorem mX5_put {M : Mem} {o a N : Nat} {n : Int} {F : Int → Int} {x : Int} (hm : Mb M o a N n F) (hx : 0 ≤ x ∧ x ≤ 9999) : Ct KX5_put [.ref o, vI x] M 0 0 (atV (fun M2 => Mb M2 o a N (putN N n F x) (putF N n F x) ∧ Fr2 o a M M2)) := by
  refine Ct.of _ (by decide) rfl (Nat.le_of_ble_eq_true rfl) ?_
  obtain ⟨ho, ⟨f, ha, hf⟩, hn0, hnN, hN, hb⟩ := id hm
  have hao := hm.ne
  have hoa := hao.symm
  have hq := plc_spec hn0 F x
  have hbr := bI_r (hasF n F x)
  refine r_aload_n dX5_put_0 rfl ?_
  refine r_iload_n dX5_put_1 rfl ?_
  refine r_callV1 okX5_holds ⟨by decide, by decide⟩ ml_X5_51 (mX5_holds (by assumption) (by omega)) (by first | assumption | exact up_s _ _ _ | exact (up_n _ (by assumption)).trans (by assumption) | exact (up_n _ (by assumption)).trans (up_s _ _ _) | exact (up_n _ (by assumption)).trans ((up_n _ (by assumption)).trans (by assumption))) rfl rfl (Nat.le_of_ble_eq_true rfl) (Nat.le_of_ble_eq_true rfl) (Nat.le_of_ble_eq_true rfl) rfl dX5_put_2 (nx_I) (kx_I ?_)
  refine r_if_ne (tgt := 20) dX5_put_5 (by decide) (by omega) (fun h5 => ?_) (fun h5 => ?_)
  ·
    refine e_return dX5_put_20 rfl (Nat.le_of_ble_eq_true rfl) (Nat.le_of_ble_eq_true rfl) ?_
    have hp : putOk N n F x = false := by
      unfold putOk
      first | rw [bI_t h5]; rfl | (rw [decide_eq_false (by omega)]; simp)
    exact oktV ⟨by unfold putN putF; rw [hp]; exact hm, Fr2.rf⟩
  ·
    refine r_aload_n dX5_put_8 rfl ?_
    refine r_getfield clX5 1 (by decide) fl_X5_15 (by first | assumption | exact up_s _ _ _ | exact (up_n _ (by assumption)).trans (by assumption) | exact (up_n _ (by assumption)).trans (up_s _ _ _) | exact (up_n _ (by assumption)).trans ((up_n _ (by assumption)).trans (by assumption))) rfl dX5_put_9 ?_
    refine r_aload_n dX5_put_12 rfl ?_
    refine r_getfield clX5 0 (by decide) fl_X5_9 (by first | assumption | exact up_s _ _ _ | exact (up_n _ (by assumption)).trans (by assumption) | exact (up_n _ (by assumption)).trans (up_s _ _ _) | exact (up_n _ (by assumption)).trans ((up_n _ (by assumption)).trans (by assumption))) rfl dX5_put_13 ?_
    refine r_alenI (by first | assumption | exact up_s _ _ _ | exact (up_n _ (by assumption)).trans (by assumption) | exact (up_n _ (by assumption)).trans (up_s _ _ _) | exact (up_n _ (by assumption)).trans ((up_n _ (by assumption)).trans (by assumption))) dX5_put_16 ?_
    refine r_icmp_lt (tgt := 21) dX5_put_17 (by decide) (by omega) (by omega) (fun h17 => ?_) (fun h17 => ?_)
    ·
      refine r_aload_n dX5_put_21 rfl ?_
      refine r_iload_n dX5_put_22 rfl ?_
      refine r_callV1 okX5_placeOf ⟨by decide, by decide⟩ ml_X5_23 (mX5_placeOf (by assumption) (by omega)) (by first | assumption | exact up_s _ _ _ | exact (up_n _ (by assumption)).trans (by assumption) | exact (up_n _ (by assumption)).trans (up_s _ _ _) | exact (up_n _ (by assumption)).trans ((up_n _ (by assumption)).trans (by assumption))) rfl rfl (Nat.le_of_ble_eq_true rfl) (Nat.le_of_ble_eq_true rfl) (Nat.le_of_ble_eq_true rfl) rfl dX5_put_23 (nx_I) (kx_I ?_)
      refine r_istore_n dX5_put_26 (by decide) rfl ?_
      refine r_aload_n dX5_put_27 rfl ?_
      refine r_getfield clX5 1 (by decide) fl_X5_15 (by first | assumption | exact up_s _ _ _ | exact (up_n _ (by assumption)).trans (by assumption) | exact (up_n _ (by assumption)).trans (up_s _ _ _) | exact (up_n _ (by assumption)).trans ((up_n _ (by assumption)).trans (by assumption))) rfl dX5_put_28 ?_
      refine r_istore_n dX5_put_31 (by decide) rfl ?_
      refine J.loc (L' := [(0, some _), (1, some _), (2, some _), (3, some _)]) (lsub_cons rfl (lsub_cons rfl (lsub_cons rfl (lsub_cons rfl (lsub_nil))))) (loop2 (fun (k : Int) (M1 : Mem) => plc n F x ≤ k ∧ k ≤ n ∧ M1 o = some (oC 5 [.ref a, vI n]) ∧ Fr2 o a M M1 ∧ ∃ g : Int → Int, M1 a = some (aI N g) ∧ (∀ i, 0 ≤ i → i < k → g i = F i) ∧ (∀ i, k < i → i ≤ n → g i = F (i - 1))) (fun (k : Int) (M1 : Mem) => (k - plc n F x).toNat) (fun (k : Int) (M1 : Mem) => J KX5_put 0 0 _ 32 [(0, some (.ref o)), (1, some (vI x)), (2, some (vI (plc n F x))), (3, some (vI k))] [] M1 _ _) (fun k M1 hI32 ih32 => ?_) _ _ ?_)
      ·
        obtain ⟨hk0, hk1, ho1, hfr, g, ha1, hg1, hg2⟩ := hI32
        refine r_iload_n dX5_put_32 rfl ?_
        refine r_iload_n dX5_put_33 rfl ?_
        refine r_icmp_le (tgt := 57) dX5_put_34 (by decide) (by omega) (by omega) (fun h34 => ?_) (fun h34 => ?_)
        ·
          refine r_aload_n dX5_put_57 rfl ?_
          refine r_getfield clX5 0 (by decide) fl_X5_9 (by first | assumption | exact up_s _ _ _ | exact (up_n _ (by assumption)).trans (by assumption) | exact (up_n _ (by assumption)).trans (up_s _ _ _) | exact (up_n _ (by assumption)).trans ((up_n _ (by assumption)).trans (by assumption))) rfl dX5_put_58 ?_
          refine r_iload_n dX5_put_61 rfl ?_
          refine r_iload_n dX5_put_62 rfl ?_
          refine r_iastore (by first | assumption | exact up_s _ _ _ | exact (up_n _ (by assumption)).trans (by assumption) | exact (up_n _ (by assumption)).trans (up_s _ _ _) | exact (up_n _ (by assumption)).trans ((up_n _ (by assumption)).trans (by assumption))) (by omega) (by omega) (by omega) dX5_put_63 ?_
          refine r_aload_n dX5_put_64 rfl ?_
          refine r_dup dX5_put_65 ?_
          refine r_getfield clX5 1 (by decide) fl_X5_15 (by first | assumption | exact up_s _ _ _ | exact (up_n _ (by assumption)).trans (by assumption) | exact (up_n _ (by assumption)).trans (up_s _ _ _) | exact (up_n _ (by assumption)).trans ((up_n _ (by assumption)).trans (by assumption))) rfl dX5_put_66 ?_
          refine r_iconst dX5_put_69 ?_
          refine r_iadd dX5_put_70 ?_
          refine r_putfield clX5 1 (by decide) fl_X5_15 rfl (by first | assumption | exact up_s _ _ _ | exact (up_n _ (by assumption)).trans (by assumption) | exact (up_n _ (by assumption)).trans (up_s _ _ _) | exact (up_n _ (by assumption)).trans ((up_n _ (by assumption)).trans (by assumption))) rfl rfl (Nat.le_of_ble_eq_true rfl) dX5_put_71 ?_
          refine e_return dX5_put_74 rfl (Nat.le_of_ble_eq_true rfl) (Nat.le_of_ble_eq_true rfl) ?_
          have hp : putOk N n F x = true := by
            unfold putOk
            rw [decide_eq_true (by omega)]
            have := bI_f h5
            simp at this
            simp [this]
          refine oktV ⟨?_, ?_⟩
          · unfold putN putF
            rw [hp, if_pos rfl, if_pos rfl]
            refine ⟨up_s _ _ _, ⟨_, (up_n _ hao).trans (up_s _ _ _), fun i h1 h2 => ?_⟩, by omega, by omega, hN, insF_r hq.1 hq.2.1 hx hb⟩
            unfold insF
            by_cases e1 : i < plc n F x
            · rw [if_pos e1, uI_n _ (by omega)]; exact hg1 i h1 (by omega)
            · rw [if_neg e1]
              by_cases e2 : i = plc n F x
              · rw [if_pos e2, e2, uI_s]
              · rw [if_neg e2, uI_n _ e2]; exact hg2 i (by omega) (by omega)
          · exact hfr.up2.up1
        ·
          refine r_aload_n dX5_put_37 rfl ?_
          refine r_getfield clX5 0 (by decide) fl_X5_9 (by first | assumption | exact up_s _ _ _ | exact (up_n _ (by assumption)).trans (by assumption) | exact (up_n _ (by assumption)).trans (up_s _ _ _) | exact (up_n _ (by assumption)).trans ((up_n _ (by assumption)).trans (by assumption))) rfl dX5_put_38 ?_
          refine r_iload_n dX5_put_41 rfl ?_
          refine r_aload_n dX5_put_42 rfl ?_
          refine r_getfield clX5 0 (by decide) fl_X5_9 (by first | assumption | exact up_s _ _ _ | exact (up_n _ (by assumption)).trans (by assumption) | exact (up_n _ (by assumption)).trans (up_s _ _ _) | exact (up_n _ (by assumption)).trans ((up_n _ (by assumption)).trans (by assumption))) rfl dX5_put_43 ?_
          refine r_iload_n dX5_put_46 rfl ?_
          refine r_iconst dX5_put_47 ?_
          refine r_isub dX5_put_48 ?_
          refine r_iaload (by first | assumption | exact up_s _ _ _ | exact (up_n _ (by assumption)).trans (by assumption) | exact (up_n _ (by assumption)).trans (up_s _ _ _) | exact (up_n _ (by assumption)).trans ((up_n _ (by assumption)).trans (by assumption))) (by omega) (by omega) (by omega) dX5_put_49 ?_
          refine r_iastore (by first | assumption | exact up_s _ _ _ | exact (up_n _ (by assumption)).trans (by assumption) | exact (up_n _ (by assumption)).trans (up_s _ _ _) | exact (up_n _ (by assumption)).trans ((up_n _ (by assumption)).trans (by assumption))) (by omega) (by omega) (by omega) dX5_put_50 ?_
          refine r_iinc dX5_put_51 rfl rfl ?_
          refine r_goto (tgt := 32) dX5_put_54 (by decide) ?_
          refine J.loc (lsub_cons rfl (lsub_cons rfl (lsub_cons rfl (lsub_cons rfl (lsub_nil))))) (ih32 _ _ ?_ ?_)
          · refine ⟨by omega, by omega, (up_n _ hoa).trans ho1, hfr.up2, _, up_s _ _ _, fun i h1 h2 => ?_, fun i h1 h2 => ?_⟩
            · rw [uI_n _ (by omega)]; exact hg1 i h1 (by omega)
            · by_cases e : i = k
              · rw [e, uI_s]; exact hg1 (k - 1) (by omega) (by omega)
              · rw [uI_n _ e]; exact hg2 i (by omega) h2
          · omega
      · exact ⟨by omega, by omega, ho, Fr2.rf, f, ha, fun i h1 h2 => hf i h1 h2, fun i h1 h2 => by omega⟩
    ·
      refine e_return dX5_put_20 rfl (Nat.le_of_ble_eq_true rfl) (Nat.le_of_ble_eq_true rfl) ?_
      have hp : putOk N n F x = false := by
        unfold putOk
        first | rw [bI_t h5]; rfl | (rw [decide_eq_false (by omega)]; simp)
      exact oktV ⟨by unfold putN putF; rw [hp]; exact hm, Fr2.rf⟩

set_option maxHeartbeats 4000000 in
theorem mX5_cutOut {M : Mem} {o a N : Nat} {n : Int} {F : Int → Int} {lo hi : Int} (hm : Mb M o a N n F) (h1 : R32 lo) (h2 : R32 hi) : Ct KX5_cutOut [.ref o, vI lo, vI hi] M 0 0 (atI (n - (cutP n F lo hi).1) (fun M2 => Mb M2 o a N (cutP n F lo hi).1 (cutP n F lo hi).2 ∧ Fr2 o a M M2)) := by
  refine Ct.of _ (by decide) rfl (Nat.le_of_ble_eq_true rfl) ?_
  obtain ⟨ho, ⟨f, ha, hf⟩, hn0, hnN, hN, hb⟩ := id hm
  have hao := hm.ne
  have hoa := hao.symm
  have hkp := cutP_r lo hi hn0 hb
  refine r_iconst dX5_cutOut_0 ?_
  refine r_istore_n dX5_cutOut_1 (by decide) rfl ?_
  refine r_iconst dX5_cutOut_2 ?_
  refine r_istore dX5_cutOut_3 (by decide) rfl ?_
  refine J.loc (L' := [(0, some _), (1, some _), (2, some _), (3, some _), (4, some _)]) (lsub_cons rfl (lsub_cons rfl (lsub_cons rfl (lsub_cons rfl (lsub_cons rfl (lsub_nil)))))) (loop4 (fun (i : Int) (r : Int) (M1 : Mem) (G : Int → Int) => 0 ≤ i ∧ i ≤ n ∧ 0 ≤ r ∧ r ≤ i ∧ M1 o = some (oC 5 [.ref a, vI n]) ∧ Fr2 o a M M1 ∧ cutP n F lo hi = kpF (outP lo hi) F (n - i).toNat i r G ∧ ∃ g : Int → Int, M1 a = some (aI N g) ∧ (∀ j, 0 ≤ j → j < r → g j = G j) ∧ (∀ j, i ≤ j → j < n → g j = F j)) (fun (i : Int) (r : Int) (M1 : Mem) (G : Int → Int) => (n - i).toNat) (fun (i : Int) (r : Int) (M1 : Mem) (G : Int → Int) => J KX5_cutOut 0 0 _ 5 [(0, some (.ref o)), (1, some (vI lo)), (2, some (vI hi)), (3, some (vI r)), (4, some (vI i))] [] M1 _ _) (fun i r M1 G hI5 ih5 => ?_) _ _ _ (fun _ => 0) ?_)
  ·
    obtain ⟨hi0, hi1, hr0, hr1, ho1, hfr, hkp1, g, ha1, hg1, hg2⟩ := hI5
    refine r_iload dX5_cutOut_5 rfl ?_
    refine r_aload_n dX5_cutOut_7 rfl ?_
    refine r_getfield clX5 1 (by decide) fl_X5_15 (by first | assumption | exact up_s _ _ _ | exact (up_n _ (by assumption)).trans (by assumption) | exact (up_n _ (by assumption)).trans (up_s _ _ _) | exact (up_n _ (by assumption)).trans ((up_n _ (by assumption)).trans (by assumption))) rfl dX5_cutOut_8 ?_
    refine r_icmp_ge (tgt := 62) dX5_cutOut_11 (by decide) (by omega) (by omega) (fun h11 => ?_) (fun h11 => ?_)
    ·
      refine r_aload_n dX5_cutOut_62 rfl ?_
      refine r_getfield clX5 1 (by decide) fl_X5_15 (by first | assumption | exact up_s _ _ _ | exact (up_n _ (by assumption)).trans (by assumption) | exact (up_n _ (by assumption)).trans (up_s _ _ _) | exact (up_n _ (by assumption)).trans ((up_n _ (by assumption)).trans (by assumption))) rfl dX5_cutOut_63 ?_
      refine r_iload_n dX5_cutOut_66 rfl ?_
      refine r_isub dX5_cutOut_67 ?_
      refine r_istore dX5_cutOut_68 (by decide) rfl ?_
      refine r_aload_n dX5_cutOut_70 rfl ?_
      refine r_iload_n dX5_cutOut_71 rfl ?_
      refine r_putfield clX5 1 (by decide) fl_X5_15 rfl (by first | assumption | exact up_s _ _ _ | exact (up_n _ (by assumption)).trans (by assumption) | exact (up_n _ (by assumption)).trans (up_s _ _ _) | exact (up_n _ (by assumption)).trans ((up_n _ (by assumption)).trans (by assumption))) rfl rfl (Nat.le_of_ble_eq_true rfl) dX5_cutOut_72 ?_
      refine r_iload dX5_cutOut_75 rfl ?_
      refine e_ireturn dX5_cutOut_77 rfl (Nat.le_of_ble_eq_true rfl) (Nat.le_of_ble_eq_true rfl) ?_
      rw [show (n - i).toNat = 0 by omega, kpF] at hkp1
      rw [hkp1] at hkp ⊢
      exact oktI rfl ⟨⟨up_s _ _ _, ⟨g, (up_n _ hao).trans ha1, fun j a b => hg1 j a b⟩, by omega, by omega, hN, hkp.2.2⟩, hfr.up1⟩
    ·
      refine r_iload dX5_cutOut_14 rfl ?_
      refine r_aload_n dX5_cutOut_16 rfl ?_
      refine r_getfield clX5 0 (by decide) fl_X5_9 (by first | assumption | exact up_s _ _ _ | exact (up_n _ (by assumption)).trans (by assumption) | exact (up_n _ (by assumption)).trans (up_s _ _ _) | exact (up_n _ (by assumption)).trans ((up_n _ (by assumption)).trans (by assumption))) rfl dX5_cutOut_17 ?_
      refine r_alenI (by first | assumption | exact up_s _ _ _ | exact (up_n _ (by assumption)).trans (by assumption) | exact (up_n _ (by assumption)).trans (up_s _ _ _) | exact (up_n _ (by assumption)).trans ((up_n _ (by assumption)).trans (by assumption))) dX5_cutOut_20 ?_
      refine r_icmp_ge (tgt := 62) dX5_cutOut_21 (by decide) (by omega) (by omega) (fun h21 => ?_) (fun h21 => ?_)
      ·
        refine r_aload_n dX5_cutOut_62 rfl ?_
        refine r_getfield clX5 1 (by decide) fl_X5_15 (by first | assumption | exact up_s _ _ _ | exact (up_n _ (by assumption)).trans (by assumption) | exact (up_n _ (by assumption)).trans (up_s _ _ _) | exact (up_n _ (by assumption)).trans ((up_n _ (by assumption)).trans (by assumption))) rfl dX5_cutOut_63 ?_
        refine r_iload_n dX5_cutOut_66 rfl ?_
        refine r_isub dX5_cutOut_67 ?_
        refine r_istore dX5_cutOut_68 (by decide) rfl ?_
        refine r_aload_n dX5_cutOut_70 rfl ?_
        refine r_iload_n dX5_cutOut_71 rfl ?_
        refine r_putfield clX5 1 (by decide) fl_X5_15 rfl (by first | assumption | exact up_s _ _ _ | exact (up_n _ (by assumption)).trans (by assumption) | exact (up_n _ (by assumption)).trans (up_s _ _ _) | exact (up_n _ (by assumption)).trans ((up_n _ (by assumption)).trans (by assumption))) rfl rfl (Nat.le_of_ble_eq_true rfl) dX5_cutOut_72 ?_
        refine r_iload dX5_cutOut_75 rfl ?_
        refine e_ireturn dX5_cutOut_77 rfl (Nat.le_of_ble_eq_true rfl) (Nat.le_of_ble_eq_true rfl) ?_
        rw [show (n - i).toNat = 0 by omega, kpF] at hkp1
        rw [hkp1] at hkp ⊢
        exact oktI rfl ⟨⟨up_s _ _ _, ⟨g, (up_n _ hao).trans ha1, fun j a b => hg1 j a b⟩, by omega, by omega, hN, hkp.2.2⟩, hfr.up1⟩
      ·
        refine r_aload_n dX5_cutOut_24 rfl ?_
        refine r_getfield clX5 0 (by decide) fl_X5_9 (by first | assumption | exact up_s _ _ _ | exact (up_n _ (by assumption)).trans (by assumption) | exact (up_n _ (by assumption)).trans (up_s _ _ _) | exact (up_n _ (by assumption)).trans ((up_n _ (by assumption)).trans (by assumption))) rfl dX5_cutOut_25 ?_
        refine r_iload dX5_cutOut_28 rfl ?_
        refine r_iaload (by first | assumption | exact up_s _ _ _ | exact (up_n _ (by assumption)).trans (by assumption) | exact (up_n _ (by assumption)).trans (up_s _ _ _) | exact (up_n _ (by assumption)).trans ((up_n _ (by assumption)).trans (by assumption))) (by omega) (by omega) (by omega) dX5_cutOut_30 ?_
        rw [hg2 i (by omega) (by omega)]
        have hbi := hb i (by omega) (by omega)
        refine r_istore dX5_cutOut_31 (by decide) rfl ?_
        refine r_iload dX5_cutOut_33 rfl ?_
        refine r_iload_n dX5_cutOut_35 rfl ?_
        refine r_icmp_lt (tgt := 45) dX5_cutOut_36 (by decide) (by omega) (by omega) (fun h36 => ?_) (fun h36 => ?_)
        ·
          refine r_aload_n dX5_cutOut_45 rfl ?_
          refine r_getfield clX5 0 (by decide) fl_X5_9 (by first | assumption | exact up_s _ _ _ | exact (up_n _ (by assumption)).trans (by assumption) | exact (up_n _ (by assumption)).trans (up_s _ _ _) | exact (up_n _ (by assumption)).trans ((up_n _ (by assumption)).trans (by assumption))) rfl dX5_cutOut_46 ?_
          refine r_iload_n dX5_cutOut_49 rfl ?_
          refine r_iload dX5_cutOut_50 rfl ?_
          refine r_iastore (by first | assumption | exact up_s _ _ _ | exact (up_n _ (by assumption)).trans (by assumption) | exact (up_n _ (by assumption)).trans (up_s _ _ _) | exact (up_n _ (by assumption)).trans ((up_n _ (by assumption)).trans (by assumption))) (by omega) (by omega) (by omega) dX5_cutOut_52 ?_
          refine r_iinc dX5_cutOut_53 rfl rfl ?_
          refine r_iinc dX5_cutOut_56 rfl rfl ?_
          refine r_goto (tgt := 5) dX5_cutOut_59 (by decide) ?_
          refine J.loc (lsub_cons rfl (lsub_cons rfl (lsub_cons rfl (lsub_cons rfl (lsub_cons rfl (lsub_nil)))))) (ih5 _ _ _ (uI G r (F i)) ?_ ?_)
          · refine ⟨by omega, by omega, by omega, by omega, (up_n _ hoa).trans ho1, hfr.up2, ?_, _, up_s _ _ _, fun j a1 b1 => ?_, fun j a1 b1 => ?_⟩
            · rw [hkp1, show (n - i).toNat = (n - (i + 1)).toNat + 1 by omega, kpF, if_pos (by simp [outP]; omega)]
            · by_cases e : j = r
              · rw [e, uI_s, uI_s]
              · rw [uI_n _ e, uI_n _ e]; exact hg1 j a1 (by omega)
            · rw [uI_n _ (by omega)]; exact hg2 j (by omega) b1
          · omega
        ·
          refine r_iload dX5_cutOut_39 rfl ?_
          refine r_iload_n dX5_cutOut_41 rfl ?_
          refine r_icmp_le (tgt := 56) dX5_cutOut_42 (by decide) (by omega) (by omega) (fun h42 => ?_) (fun h42 => ?_)
          ·
            refine r_iinc dX5_cutOut_56 rfl rfl ?_
            refine r_goto (tgt := 5) dX5_cutOut_59 (by decide) ?_
            refine J.loc (lsub_cons rfl (lsub_cons rfl (lsub_cons rfl (lsub_cons rfl (lsub_cons rfl (lsub_nil)))))) (ih5 _ _ _ G ?_ ?_)
            · refine ⟨by omega, by omega, by omega, by omega, ho1, hfr, ?_, g, ha1, hg1, fun j a1 b1 => hg2 j (by omega) b1⟩
              rw [hkp1, show (n - i).toNat = (n - (i + 1)).toNat + 1 by omega, kpF, if_neg (by simp [outP]; omega)]
            · omega
          ·
            refine r_aload_n dX5_cutOut_45 rfl ?_
            refine r_getfield clX5 0 (by decide) fl_X5_9 (by first | assumption | exact up_s _ _ _ | exact (up_n _ (by assumption)).trans (by assumption) | exact (up_n _ (by assumption)).trans (up_s _ _ _) | exact (up_n _ (by assumption)).trans ((up_n _ (by assumption)).trans (by assumption))) rfl dX5_cutOut_46 ?_
            refine r_iload_n dX5_cutOut_49 rfl ?_
            refine r_iload dX5_cutOut_50 rfl ?_
            refine r_iastore (by first | assumption | exact up_s _ _ _ | exact (up_n _ (by assumption)).trans (by assumption) | exact (up_n _ (by assumption)).trans (up_s _ _ _) | exact (up_n _ (by assumption)).trans ((up_n _ (by assumption)).trans (by assumption))) (by omega) (by omega) (by omega) dX5_cutOut_52 ?_
            refine r_iinc dX5_cutOut_53 rfl rfl ?_
            refine r_iinc dX5_cutOut_56 rfl rfl ?_
            refine r_goto (tgt := 5) dX5_cutOut_59 (by decide) ?_
            refine J.loc (lsub_cons rfl (lsub_cons rfl (lsub_cons rfl (lsub_cons rfl (lsub_cons rfl (lsub_nil)))))) (ih5 _ _ _ (uI G r (F i)) ?_ ?_)
            · refine ⟨by omega, by omega, by omega, by omega, (up_n _ hoa).trans ho1, hfr.up2, ?_, _, up_s _ _ _, fun j a1 b1 => ?_, fun j a1 b1 => ?_⟩
              · rw [hkp1, show (n - i).toNat = (n - (i + 1)).toNat + 1 by omega, kpF, if_pos (by simp [outP]; omega)]
              · by_cases e : j = r
                · rw [e, uI_s, uI_s]
                · rw [uI_n _ e, uI_n _ e]; exact hg1 j a1 (by omega)
              · rw [uI_n _ (by omega)]; exact hg2 j (by omega) b1
            · omega
  · exact ⟨by omega, by omega, by omega, by omega, ho, Fr2.rf, by simp [cutP], f, ha, fun j a b => by omega, fun j a b => hf j (by omega) b⟩

set_option maxHeartbeats 4000000 in
theorem mX5_moveBy {M : Mem} {o a N : Nat} {n : Int} {F : Int → Int} {by_ : Int} (hm : Mb M o a N n F) (h1 : R32 by_) (h2 : ∀ i, 0 ≤ i → i < n → 0 ≤ F i + by_ ∧ F i + by_ ≤ 9999) : Ct KX5_moveBy [.ref o, vI by_] M 0 0 (atV (fun M2 => Mb M2 o a N n (fun i => F i + by_) ∧ Fr2 o a M M2)) := by
  refine Ct.of _ (by decide) rfl (Nat.le_of_ble_eq_true rfl) ?_
  obtain ⟨ho, ⟨f, ha, hf⟩, hn0, hnN, hN, hb⟩ := id hm
  have hao := hm.ne
  have hoa := hao.symm
  refine r_iconst dX5_moveBy_0 ?_
  refine r_istore_n dX5_moveBy_1 (by decide) rfl ?_
  refine J.loc (L' := [(0, some _), (1, some _), (2, some _)]) (lsub_cons rfl (lsub_cons rfl (lsub_cons rfl (lsub_nil)))) (loop2 (fun (i : Int) (M1 : Mem) => 0 ≤ i ∧ i ≤ n ∧ M1 o = some (oC 5 [.ref a, vI n]) ∧ Fr2 o a M M1 ∧ ∃ g : Int → Int, M1 a = some (aI N g) ∧ (∀ j, 0 ≤ j → j < i → g j = F j + by_) ∧ (∀ j, i ≤ j → j < n → g j = F j)) (fun (i : Int) (M1 : Mem) => (n - i).toNat) (fun (i : Int) (M1 : Mem) => J KX5_moveBy 0 0 _ 2 [(0, some (.ref o)), (1, some (vI by_)), (2, some (vI i))] [] M1 _ _) (fun i M1 hI2 ih2 => ?_) _ _ ?_)
  ·
    obtain ⟨hi0, hi1, ho1, hfr, g, ha1, hg1, hg2⟩ := hI2
    refine r_iload_n dX5_moveBy_2 rfl ?_
    refine r_aload_n dX5_moveBy_3 rfl ?_
    refine r_getfield clX5 1 (by decide) fl_X5_15 (by first | assumption | exact up_s _ _ _ | exact (up_n _ (by assumption)).trans (by assumption) | exact (up_n _ (by assumption)).trans (up_s _ _ _) | exact (up_n _ (by assumption)).trans ((up_n _ (by assumption)).trans (by assumption))) rfl dX5_moveBy_4 ?_
    refine r_icmp_ge (tgt := 35) dX5_moveBy_7 (by decide) (by omega) (by omega) (fun h7 => ?_) (fun h7 => ?_)
    ·
      refine e_return dX5_moveBy_35 rfl (Nat.le_of_ble_eq_true rfl) (Nat.le_of_ble_eq_true rfl) ?_
      exact oktV ⟨⟨ho1, ⟨g, ha1, fun j a b => hg1 j a (by omega)⟩, hn0, hnN, hN, h2⟩, hfr⟩
    ·
      refine r_iload_n dX5_moveBy_10 rfl ?_
      refine r_aload_n dX5_moveBy_11 rfl ?_
      refine r_getfield clX5 0 (by decide) fl_X5_9 (by first | assumption | exact up_s _ _ _ | exact (up_n _ (by assumption)).trans (by assumption) | exact (up_n _ (by assumption)).trans (up_s _ _ _) | exact (up_n _ (by assumption)).trans ((up_n _ (by assumption)).trans (by assumption))) rfl dX5_moveBy_12 ?_
      refine r_alenI (by first | assumption | exact up_s _ _ _ | exact (up_n _ (by assumption)).trans (by assumption) | exact (up_n _ (by assumption)).trans (up_s _ _ _) | exact (up_n _ (by assumption)).trans ((up_n _ (by assumption)).trans (by assumption))) dX5_moveBy_15 ?_
      refine r_icmp_ge (tgt := 35) dX5_moveBy_16 (by decide) (by omega) (by omega) (fun h16 => ?_) (fun h16 => ?_)
      ·
        refine e_return dX5_moveBy_35 rfl (Nat.le_of_ble_eq_true rfl) (Nat.le_of_ble_eq_true rfl) ?_
        exact oktV ⟨⟨ho1, ⟨g, ha1, fun j a b => hg1 j a (by omega)⟩, hn0, hnN, hN, h2⟩, hfr⟩
      ·
        refine r_aload_n dX5_moveBy_19 rfl ?_
        refine r_getfield clX5 0 (by decide) fl_X5_9 (by first | assumption | exact up_s _ _ _ | exact (up_n _ (by assumption)).trans (by assumption) | exact (up_n _ (by assumption)).trans (up_s _ _ _) | exact (up_n _ (by assumption)).trans ((up_n _ (by assumption)).trans (by assumption))) rfl dX5_moveBy_20 ?_
        refine r_iload_n dX5_moveBy_23 rfl ?_
        refine r_dup2 dX5_moveBy_24 ?_
        refine r_iaload (by first | assumption | exact up_s _ _ _ | exact (up_n _ (by assumption)).trans (by assumption) | exact (up_n _ (by assumption)).trans (up_s _ _ _) | exact (up_n _ (by assumption)).trans ((up_n _ (by assumption)).trans (by assumption))) (by omega) (by omega) (by omega) dX5_moveBy_25 ?_
        refine r_iload_n dX5_moveBy_26 rfl ?_
        refine r_iadd dX5_moveBy_27 ?_
        refine r_iastore (by first | assumption | exact up_s _ _ _ | exact (up_n _ (by assumption)).trans (by assumption) | exact (up_n _ (by assumption)).trans (up_s _ _ _) | exact (up_n _ (by assumption)).trans ((up_n _ (by assumption)).trans (by assumption))) (by omega) (by omega) (by omega) dX5_moveBy_28 ?_
        refine r_iinc dX5_moveBy_29 rfl rfl ?_
        refine r_goto (tgt := 2) dX5_moveBy_32 (by decide) ?_
        refine J.loc (lsub_cons rfl (lsub_cons rfl (lsub_cons rfl (lsub_nil)))) (ih2 _ _ ?_ ?_)
        · refine ⟨by omega, by omega, (up_n _ hoa).trans ho1, hfr.up2, _, up_s _ _ _, fun j a1 b1 => ?_, fun j a1 b1 => ?_⟩
          · by_cases e : j = i
            · rw [e, uI_s, hg2 i (by omega) (by omega)]
            · rw [uI_n _ e]; exact hg1 j a1 (by omega)
          · rw [uI_n _ (by omega)]; exact hg2 j (by omega) b1
        · omega
  · exact ⟨by omega, by omega, ho, Fr2.rf, f, ha, fun j a b => by omega, fun j a b => hf j (by omega) b⟩

set_option maxHeartbeats 4000000 in
theorem mX5_copyFrom {M : Mem} {o a N : Nat} {n : Int} {F : Int → Int} {o2 a2 N2 : Nat} {n2 : Int} {F2 : Int → Int} (hm : Mb M o a N n F) (hm2 : Mb M o2 a2 N2 n2 F2) (hd : o2 ≠ o ∧ o2 ≠ a ∧ a2 ≠ o ∧ a2 ≠ a) (hnn : n2 ≤ N) : Ct KX5_copyFrom [.ref o, .ref o2] M 0 0 (atV (fun M2 => Mb M2 o a N n2 F2 ∧ Fr2 o a M M2)) := by
  refine Ct.of _ (by decide) rfl (Nat.le_of_ble_eq_true rfl) ?_
  obtain ⟨ho, ⟨f, ha, hf⟩, hn0, hnN, hN, hb⟩ := id hm
  have hao := hm.ne
  have hoa := hao.symm
  obtain ⟨ho2, ⟨f2, ha2, hf2⟩, hn02, hnN2, hN2, hb2⟩ := id hm2
  obtain ⟨hd1, hd2, hd3, hd4⟩ := hd
  refine r_aload_n dX5_copyFrom_0 rfl ?_
  refine r_aload_n dX5_copyFrom_1 rfl ?_
  refine r_callV0 okX5_amount ⟨by decide, by decide⟩ ml_X5_42 (mX5_amount (by assumption)) (by first | assumption | exact up_s _ _ _ | exact (up_n _ (by assumption)).trans (by assumption) | exact (up_n _ (by assumption)).trans (up_s _ _ _) | exact (up_n _ (by assumption)).trans ((up_n _ (by assumption)).trans (by assumption))) rfl rfl (Nat.le_of_ble_eq_true rfl) (Nat.le_of_ble_eq_true rfl) (Nat.le_of_ble_eq_true rfl) rfl dX5_copyFrom_2 (nx_I) (kx_I ?_)
  refine r_aload_n dX5_copyFrom_5 rfl ?_
  refine r_getfield clX5 0 (by decide) fl_X5_9 (by first | assumption | exact up_s _ _ _ | exact (up_n _ (by assumption)).trans (by assumption) | exact (up_n _ (by assumption)).trans (up_s _ _ _) | exact (up_n _ (by assumption)).trans ((up_n _ (by assumption)).trans (by assumption))) rfl dX5_copyFrom_6 ?_
  refine r_alenI (by first | assumption | exact up_s _ _ _ | exact (up_n _ (by assumption)).trans (by assumption) | exact (up_n _ (by assumption)).trans (up_s _ _ _) | exact (up_n _ (by assumption)).trans ((up_n _ (by assumption)).trans (by assumption))) dX5_copyFrom_9 ?_
  refine r_min ml_X5_55 (by decide) (Nat.le_of_ble_eq_true rfl) (Nat.le_of_ble_eq_true rfl) (Nat.le_of_ble_eq_true rfl) (by omega) (by omega) dX5_copyFrom_10 ?_
  rw [if_neg (show ¬ (N : Int) < n2 by omega)]
  refine r_putfield clX5 1 (by decide) fl_X5_15 rfl (by first | assumption | exact up_s _ _ _ | exact (up_n _ (by assumption)).trans (by assumption) | exact (up_n _ (by assumption)).trans (up_s _ _ _) | exact (up_n _ (by assumption)).trans ((up_n _ (by assumption)).trans (by assumption))) rfl rfl (Nat.le_of_ble_eq_true rfl) dX5_copyFrom_13 ?_
  refine r_iconst dX5_copyFrom_16 ?_
  refine r_istore_n dX5_copyFrom_17 (by decide) rfl ?_
  refine J.loc (L' := [(0, some _), (1, some _), (2, some _)]) (lsub_cons rfl (lsub_cons rfl (lsub_cons rfl (lsub_nil)))) (loop2 (fun (i : Int) (M1 : Mem) => 0 ≤ i ∧ i ≤ n2 ∧ M1 o = some (oC 5 [.ref a, vI n2]) ∧ Fr2 o a M M1 ∧ ∃ g : Int → Int, M1 a = some (aI N g) ∧ (∀ j, 0 ≤ j → j < i → g j = F2 j)) (fun (i : Int) (M1 : Mem) => (n2 - i).toNat) (fun (i : Int) (M1 : Mem) => J KX5_copyFrom 0 0 _ 18 [(0, some (.ref o)), (1, some (.ref o2)), (2, some (vI i))] [] M1 _ _) (fun i M1 hI18 ih18 => ?_) _ _ ?_)
  ·
    obtain ⟨hi0, hi1, ho1, hfr, g, ha1, hg1⟩ := hI18
    have hm3 : Mb M1 o2 a2 N2 n2 F2 := ⟨(hfr o2 hd1 hd2).trans ho2, ⟨f2, (hfr a2 hd3 hd4).trans ha2, hf2⟩, hn02, hnN2, hN2, hb2⟩
    refine r_iload_n dX5_copyFrom_18 rfl ?_
    refine r_aload_n dX5_copyFrom_19 rfl ?_
    refine r_getfield clX5 1 (by decide) fl_X5_15 (by first | assumption | exact up_s _ _ _ | exact (up_n _ (by assumption)).trans (by assumption) | exact (up_n _ (by assumption)).trans (up_s _ _ _) | exact (up_n _ (by assumption)).trans ((up_n _ (by assumption)).trans (by assumption))) rfl dX5_copyFrom_20 ?_
    refine r_icmp_ge (tgt := 52) dX5_copyFrom_23 (by decide) (by omega) (by omega) (fun h23 => ?_) (fun h23 => ?_)
    ·
      refine e_return dX5_copyFrom_52 rfl (Nat.le_of_ble_eq_true rfl) (Nat.le_of_ble_eq_true rfl) ?_
      exact oktV ⟨⟨ho1, ⟨g, ha1, fun j a b => hg1 j a (by omega)⟩, hn02, hnn, hN, hb2⟩, hfr⟩
    ·
      refine r_iload_n dX5_copyFrom_26 rfl ?_
      refine r_aload_n dX5_copyFrom_27 rfl ?_
      refine r_getfield clX5 0 (by decide) fl_X5_9 (by first | assumption | exact up_s _ _ _ | exact (up_n _ (by assumption)).trans (by assumption) | exact (up_n _ (by assumption)).trans (up_s _ _ _) | exact (up_n _ (by assumption)).trans ((up_n _ (by assumption)).trans (by assumption))) rfl dX5_copyFrom_28 ?_
      refine r_alenI (by first | assumption | exact up_s _ _ _ | exact (up_n _ (by assumption)).trans (by assumption) | exact (up_n _ (by assumption)).trans (up_s _ _ _) | exact (up_n _ (by assumption)).trans ((up_n _ (by assumption)).trans (by assumption))) dX5_copyFrom_31 ?_
      refine r_icmp_ge (tgt := 52) dX5_copyFrom_32 (by decide) (by omega) (by omega) (fun h32 => ?_) (fun h32 => ?_)
      ·
        refine e_return dX5_copyFrom_52 rfl (Nat.le_of_ble_eq_true rfl) (Nat.le_of_ble_eq_true rfl) ?_
        exact oktV ⟨⟨ho1, ⟨g, ha1, fun j a b => hg1 j a (by omega)⟩, hn02, hnn, hN, hb2⟩, hfr⟩
      ·
        refine r_aload_n dX5_copyFrom_35 rfl ?_
        refine r_getfield clX5 0 (by decide) fl_X5_9 (by first | assumption | exact up_s _ _ _ | exact (up_n _ (by assumption)).trans (by assumption) | exact (up_n _ (by assumption)).trans (up_s _ _ _) | exact (up_n _ (by assumption)).trans ((up_n _ (by assumption)).trans (by assumption))) rfl dX5_copyFrom_36 ?_
        refine r_iload_n dX5_copyFrom_39 rfl ?_
        refine r_aload_n dX5_copyFrom_40 rfl ?_
        refine r_iload_n dX5_copyFrom_41 rfl ?_
        refine r_callV1 okX5_at ⟨by decide, by decide⟩ ml_X5_19 (mX5_at hm3 (by omega)) hm3.1 rfl rfl (Nat.le_of_ble_eq_true rfl) (Nat.le_of_ble_eq_true rfl) (Nat.le_of_ble_eq_true rfl) rfl dX5_copyFrom_42 (nx_I) (kx_I ?_)
        rw [atF_in (by omega) (by omega)]
        refine r_iastore (by first | assumption | exact up_s _ _ _ | exact (up_n _ (by assumption)).trans (by assumption) | exact (up_n _ (by assumption)).trans (up_s _ _ _) | exact (up_n _ (by assumption)).trans ((up_n _ (by assumption)).trans (by assumption))) (by omega) (by omega) (by omega) dX5_copyFrom_45 ?_
        refine r_iinc dX5_copyFrom_46 rfl rfl ?_
        refine r_goto (tgt := 18) dX5_copyFrom_49 (by decide) ?_
        refine J.loc (lsub_cons rfl (lsub_cons rfl (lsub_cons rfl (lsub_nil)))) (ih18 _ _ ?_ ?_)
        · refine ⟨by omega, by omega, (up_n _ hoa).trans ho1, hfr.up2, _, up_s _ _ _, fun j a1 b1 => ?_⟩
          by_cases e : j = i
          · rw [e, uI_s]
          · rw [uI_n _ e]; exact hg1 j a1 (by omega)
        · omega
  · exact ⟨by omega, by omega, up_s _ _ _, Fr2.rf.up1, f, (up_n _ hao).trans ha, fun j a b => by omega⟩

set_option maxHeartbeats 4000000 in
theorem mX5_init {M : Mem} {o N : Nat} (ho : M o = some (oC 5 [.null, vI 0])) (hN : N ≤ 300) : Ct KX5_init [.ref o, vI N] M 1 N (atV (fun M2 => ∃ a, M a = none ∧ (∀ F, Mb M2 o a N 0 F) ∧ Fr2 o a M M2)) := by
  refine Ct.of _ (by decide) rfl (Nat.le_of_ble_eq_true rfl) ?_
  refine r_aload_n dX5_init_0 rfl ?_
  refine r_objInit ml_X5_3 oi_inst oi_code (by decide) (Nat.le_of_ble_eq_true rfl) dX5_init_1 ?_
  refine r_aload_n dX5_init_4 rfl ?_
  refine r_iload_n dX5_init_5 rfl ?_
  refine r_if_le (tgt := 13) dX5_init_6 (by decide) (by omega) (fun h6 => ?_) (fun h6 => ?_)
  ·
    refine r_iconst dX5_init_13 ?_
    refine r_newI (N := N) (by omega) (by omega) ac_int (Nat.le_of_ble_eq_true rfl) (by omega) dX5_init_14 (fun q14 hq14 => ?_)
    have hqo : q14 ≠ o := fun e => by rw [e, ho] at hq14; cases hq14
    have hoq : o ≠ q14 := fun e => hqo e.symm
    refine r_putfieldF clX5 0 (by decide) fl_X5_9 rfl rfl rfl (by first | assumption | exact up_s _ _ _ | exact (up_n _ (by assumption)).trans (by assumption) | exact (up_n _ (by assumption)).trans (up_s _ _ _) | exact (up_n _ (by assumption)).trans ((up_n _ (by assumption)).trans (by assumption))) rfl rfl (Nat.le_of_ble_eq_true rfl) dX5_init_16 ?_
    refine r_aload_n dX5_init_19 rfl ?_
    refine r_iconst dX5_init_20 ?_
    refine r_putfield clX5 1 (by decide) fl_X5_15 rfl (by first | assumption | exact up_s _ _ _ | exact (up_n _ (by assumption)).trans (by assumption) | exact (up_n _ (by assumption)).trans (up_s _ _ _) | exact (up_n _ (by assumption)).trans ((up_n _ (by assumption)).trans (by assumption))) rfl rfl (Nat.le_of_ble_eq_true rfl) dX5_init_21 ?_
    refine e_return dX5_init_24 rfl (Nat.le_of_ble_eq_true rfl) (by omega) ?_
    exact oktV ⟨q14, hq14, fun F => ⟨up_s _ _ _, ⟨_, (up_n _ hqo).trans ((up_n _ hqo).trans (up_s _ _ _)), fun i a b => by omega⟩, by omega, by omega, hN, fun i a b => by omega⟩, Fr2.rf.up2.up1.up1⟩
  ·
    refine r_iload_n dX5_init_9 rfl ?_
    refine r_goto (tgt := 14) dX5_init_10 (by decide) ?_
    refine r_newI (N := N) (by omega) (by omega) ac_int (Nat.le_of_ble_eq_true rfl) (by omega) dX5_init_14 (fun q14 hq14 => ?_)
    have hqo : q14 ≠ o := fun e => by rw [e, ho] at hq14; cases hq14
    have hoq : o ≠ q14 := fun e => hqo e.symm
    refine r_putfieldF clX5 0 (by decide) fl_X5_9 rfl rfl rfl (by first | assumption | exact up_s _ _ _ | exact (up_n _ (by assumption)).trans (by assumption) | exact (up_n _ (by assumption)).trans (up_s _ _ _) | exact (up_n _ (by assumption)).trans ((up_n _ (by assumption)).trans (by assumption))) rfl rfl (Nat.le_of_ble_eq_true rfl) dX5_init_16 ?_
    refine r_aload_n dX5_init_19 rfl ?_
    refine r_iconst dX5_init_20 ?_
    refine r_putfield clX5 1 (by decide) fl_X5_15 rfl (by first | assumption | exact up_s _ _ _ | exact (up_n _ (by assumption)).trans (by assumption) | exact (up_n _ (by assumption)).trans (up_s _ _ _) | exact (up_n _ (by assumption)).trans ((up_n _ (by assumption)).trans (by assumption))) rfl rfl (Nat.le_of_ble_eq_true rfl) dX5_init_21 ?_
    refine e_return dX5_init_24 rfl (Nat.le_of_ble_eq_true rfl) (by omega) ?_
    exact oktV ⟨q14, hq14, fun F => ⟨up_s _ _ _, ⟨_, (up_n _ hqo).trans ((up_n _ hqo).trans (up_s _ _ _)), fun i a b => by omega⟩, by omega, by omega, hN, fun i a b => by omega⟩, Fr2.rf.up2.up1.up1⟩
