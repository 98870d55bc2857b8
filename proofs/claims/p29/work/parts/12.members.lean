/-! the class Members: what it reads -/
set_option maxHeartbeats 4000000 in
theorem mX5_amount {M : Mem} {o a N : Nat} {n : Int} {F : Int → Int} (hm : Mb M o a N n F) : Ct KX5_amount [.ref o] M 0 0 (rtI n M) := by
  refine Ct.of _ (by decide) rfl (Nat.le_of_ble_eq_true rfl) ?_
  obtain ⟨ho, ⟨f, ha, hf⟩, hn0, hnN, hN, hb⟩ := id hm
  refine r_aload_n dX5_amount_0 rfl ?_
  refine r_getfield clX5 1 (by decide) fl_X5_15 (by first | assumption | exact up_s _ _ _ | exact (up_n _ (by assumption)).trans (by assumption) | exact (up_n _ (by assumption)).trans (up_s _ _ _) | exact (up_n _ (by assumption)).trans ((up_n _ (by assumption)).trans (by assumption))) rfl dX5_amount_1 ?_
  refine e_ireturn dX5_amount_4 rfl (Nat.le_of_ble_eq_true rfl) (Nat.le_of_ble_eq_true rfl) ?_
  exact okI rfl

set_option maxHeartbeats 4000000 in
theorem mX5_isEmpty {M : Mem} {o a N : Nat} {n : Int} {F : Int → Int} (hm : Mb M o a N n F) : Ct KX5_isEmpty [.ref o] M 0 0 (rtI (bI (decide (n = 0))) M) := by
  refine Ct.of _ (by decide) rfl (Nat.le_of_ble_eq_true rfl) ?_
  obtain ⟨ho, ⟨f, ha, hf⟩, hn0, hnN, hN, hb⟩ := id hm
  refine r_aload_n dX5_isEmpty_0 rfl ?_
  refine r_getfield clX5 1 (by decide) fl_X5_15 (by first | assumption | exact up_s _ _ _ | exact (up_n _ (by assumption)).trans (by assumption) | exact (up_n _ (by assumption)).trans (up_s _ _ _) | exact (up_n _ (by assumption)).trans ((up_n _ (by assumption)).trans (by assumption))) rfl dX5_isEmpty_1 ?_
  refine r_if_ne (tgt := 11) dX5_isEmpty_4 (by decide) (by omega) (fun h4 => ?_) (fun h4 => ?_)
  ·
    refine r_iconst dX5_isEmpty_11 ?_
    refine e_zreturn dX5_isEmpty_12 rfl (by omega) (Nat.le_of_ble_eq_true rfl) (Nat.le_of_ble_eq_true rfl) ?_
    exact okI (by simp [bI, *])
  ·
    refine r_iconst dX5_isEmpty_7 ?_
    refine r_goto (tgt := 12) dX5_isEmpty_8 (by decide) ?_
    refine e_zreturn dX5_isEmpty_12 rfl (by omega) (Nat.le_of_ble_eq_true rfl) (Nat.le_of_ble_eq_true rfl) ?_
    exact okI (by simp [bI, *])

set_option maxHeartbeats 4000000 in
theorem mX5_at {M : Mem} {o a N : Nat} {n : Int} {F : Int → Int} {p : Int} (hm : Mb M o a N n F) (hp : R32 p) : Ct KX5_at [.ref o, vI p] M 0 0 (rtI (atF n F p) M) := by
  refine Ct.of _ (by decide) rfl (Nat.le_of_ble_eq_true rfl) ?_
  obtain ⟨ho, ⟨f, ha, hf⟩, hn0, hnN, hN, hb⟩ := id hm
  refine r_iload_n dX5_at_0 rfl ?_
  refine r_if_lt (tgt := 30) dX5_at_1 (by decide) (by omega) (fun h1 => ?_) (fun h1 => ?_)
  ·
    refine r_iconst dX5_at_30 ?_
    refine e_ireturn dX5_at_31 rfl (Nat.le_of_ble_eq_true rfl) (Nat.le_of_ble_eq_true rfl) ?_
    first | exact okI (atF_out (by omega)).symm | exact okI ((hf p (by omega) (by omega)).trans (atF_in (by omega) (by omega)).symm)
  ·
    refine r_iload_n dX5_at_4 rfl ?_
    refine r_aload_n dX5_at_5 rfl ?_
    refine r_getfield clX5 1 (by decide) fl_X5_15 (by first | assumption | exact up_s _ _ _ | exact (up_n _ (by assumption)).trans (by assumption) | exact (up_n _ (by assumption)).trans (up_s _ _ _) | exact (up_n _ (by assumption)).trans ((up_n _ (by assumption)).trans (by assumption))) rfl dX5_at_6 ?_
    refine r_icmp_ge (tgt := 30) dX5_at_9 (by decide) (by omega) (by omega) (fun h9 => ?_) (fun h9 => ?_)
    ·
      refine r_iconst dX5_at_30 ?_
      refine e_ireturn dX5_at_31 rfl (Nat.le_of_ble_eq_true rfl) (Nat.le_of_ble_eq_true rfl) ?_
      first | exact okI (atF_out (by omega)).symm | exact okI ((hf p (by omega) (by omega)).trans (atF_in (by omega) (by omega)).symm)
    ·
      refine r_iload_n dX5_at_12 rfl ?_
      refine r_aload_n dX5_at_13 rfl ?_
      refine r_getfield clX5 0 (by decide) fl_X5_9 (by first | assumption | exact up_s _ _ _ | exact (up_n _ (by assumption)).trans (by assumption) | exact (up_n _ (by assumption)).trans (up_s _ _ _) | exact (up_n _ (by assumption)).trans ((up_n _ (by assumption)).trans (by assumption))) rfl dX5_at_14 ?_
      refine r_alenI (by first | assumption | exact up_s _ _ _ | exact (up_n _ (by assumption)).trans (by assumption) | exact (up_n _ (by assumption)).trans (up_s _ _ _) | exact (up_n _ (by assumption)).trans ((up_n _ (by assumption)).trans (by assumption))) dX5_at_17 ?_
      refine r_icmp_ge (tgt := 30) dX5_at_18 (by decide) (by omega) (by omega) (fun h18 => ?_) (fun h18 => ?_)
      ·
        refine r_iconst dX5_at_30 ?_
        refine e_ireturn dX5_at_31 rfl (Nat.le_of_ble_eq_true rfl) (Nat.le_of_ble_eq_true rfl) ?_
        first | exact okI (atF_out (by omega)).symm | exact okI ((hf p (by omega) (by omega)).trans (atF_in (by omega) (by omega)).symm)
      ·
        refine r_aload_n dX5_at_21 rfl ?_
        refine r_getfield clX5 0 (by decide) fl_X5_9 (by first | assumption | exact up_s _ _ _ | exact (up_n _ (by assumption)).trans (by assumption) | exact (up_n _ (by assumption)).trans (up_s _ _ _) | exact (up_n _ (by assumption)).trans ((up_n _ (by assumption)).trans (by assumption))) rfl dX5_at_22 ?_
        refine r_iload_n dX5_at_25 rfl ?_
        refine r_iaload (by first | assumption | exact up_s _ _ _ | exact (up_n _ (by assumption)).trans (by assumption) | exact (up_n _ (by assumption)).trans (up_s _ _ _) | exact (up_n _ (by assumption)).trans ((up_n _ (by assumption)).trans (by assumption))) (by omega) (by omega) (by omega) dX5_at_26 ?_
        refine r_goto (tgt := 31) dX5_at_27 (by decide) ?_
        refine e_ireturn dX5_at_31 rfl (Nat.le_of_ble_eq_true rfl) (Nat.le_of_ble_eq_true rfl) ?_
        first | exact okI (atF_out (by omega)).symm | exact okI ((hf p (by omega) (by omega)).trans (atF_in (by omega) (by omega)).symm)

set_option maxHeartbeats 4000000 in
theorem mX5_least {M : Mem} {o a N : Nat} {n : Int} {F : Int → Int} (hm : Mb M o a N n F) : Ct KX5_least [.ref o] M 0 0 (rtI (atF n F 0) M) := by
  refine Ct.of _ (by decide) rfl (Nat.le_of_ble_eq_true rfl) ?_
  obtain ⟨ho, ⟨f, ha, hf⟩, hn0, hnN, hN, hb⟩ := id hm
  refine r_aload_n dX5_least_0 rfl ?_
  refine r_iconst dX5_least_1 ?_
  refine r_callV1 okX5_at ⟨by decide, by decide⟩ ml_X5_19 (mX5_at (by assumption) (by omega)) (by first | assumption | exact up_s _ _ _ | exact (up_n _ (by assumption)).trans (by assumption) | exact (up_n _ (by assumption)).trans (up_s _ _ _) | exact (up_n _ (by assumption)).trans ((up_n _ (by assumption)).trans (by assumption))) rfl rfl (Nat.le_of_ble_eq_true rfl) (Nat.le_of_ble_eq_true rfl) (Nat.le_of_ble_eq_true rfl) rfl dX5_least_2 (nx_I) (kx_I ?_)
  refine e_ireturn dX5_least_5 rfl (Nat.le_of_ble_eq_true rfl) (Nat.le_of_ble_eq_true rfl) ?_
  exact okI rfl

set_option maxHeartbeats 4000000 in
theorem mX5_greatest {M : Mem} {o a N : Nat} {n : Int} {F : Int → Int} (hm : Mb M o a N n F) : Ct KX5_greatest [.ref o] M 0 0 (rtI (atF n F (n - 1)) M) := by
  refine Ct.of _ (by decide) rfl (Nat.le_of_ble_eq_true rfl) ?_
  obtain ⟨ho, ⟨f, ha, hf⟩, hn0, hnN, hN, hb⟩ := id hm
  refine r_aload_n dX5_greatest_0 rfl ?_
  refine r_aload_n dX5_greatest_1 rfl ?_
  refine r_getfield clX5 1 (by decide) fl_X5_15 (by first | assumption | exact up_s _ _ _ | exact (up_n _ (by assumption)).trans (by assumption) | exact (up_n _ (by assumption)).trans (up_s _ _ _) | exact (up_n _ (by assumption)).trans ((up_n _ (by assumption)).trans (by assumption))) rfl dX5_greatest_2 ?_
  refine r_iconst dX5_greatest_5 ?_
  refine r_isub dX5_greatest_6 ?_
  refine r_callV1 okX5_at ⟨by decide, by decide⟩ ml_X5_19 (mX5_at (by assumption) (by omega)) (by first | assumption | exact up_s _ _ _ | exact (up_n _ (by assumption)).trans (by assumption) | exact (up_n _ (by assumption)).trans (up_s _ _ _) | exact (up_n _ (by assumption)).trans ((up_n _ (by assumption)).trans (by assumption))) rfl rfl (Nat.le_of_ble_eq_true rfl) (Nat.le_of_ble_eq_true rfl) (Nat.le_of_ble_eq_true rfl) rfl dX5_greatest_7 (nx_I) (kx_I ?_)
  refine e_ireturn dX5_greatest_10 rfl (Nat.le_of_ble_eq_true rfl) (Nat.le_of_ble_eq_true rfl) ?_
  exact okI rfl

set_option maxHeartbeats 4000000 in
theorem mX5_gapAhead {M : Mem} {o a N : Nat} {n : Int} {F : Int → Int} {p : Int} (hm : Mb M o a N n F) (hp : R32 p) : Ct KX5_gapAhead [.ref o, vI p] M 0 0 (rtI (gapF n F p) M) := by
  refine Ct.of _ (by decide) rfl (Nat.le_of_ble_eq_true rfl) ?_
  obtain ⟨ho, ⟨f, ha, hf⟩, hn0, hnN, hN, hb⟩ := id hm
  refine r_iload_n dX5_gapAhead_0 rfl ?_
  refine r_if_le (tgt := 25) dX5_gapAhead_1 (by decide) (by omega) (fun h1 => ?_) (fun h1 => ?_)
  ·
    refine r_iconst dX5_gapAhead_25 ?_
    refine r_istore_n dX5_gapAhead_26 (by decide) rfl ?_
    refine r_iload_n dX5_gapAhead_27 rfl ?_
    refine r_if_eq (tgt := 49) dX5_gapAhead_28 (by decide) (by omega) (fun h28 => ?_) (fun h28 => ?_)
    ·
      refine r_iconst dX5_gapAhead_49 ?_
      refine e_ireturn dX5_gapAhead_50 rfl (Nat.le_of_ble_eq_true rfl) (Nat.le_of_ble_eq_true rfl) ?_
      first | exact okI (gapF_out (by omega)).symm | exact okI (by rw [hf p (by omega) (by omega), hf (p - 1) (by omega) (by omega), gapF_in (by omega) (by omega)])
    · omega
  ·
    refine r_iload_n dX5_gapAhead_4 rfl ?_
    refine r_aload_n dX5_gapAhead_5 rfl ?_
    refine r_getfield clX5 1 (by decide) fl_X5_15 (by first | assumption | exact up_s _ _ _ | exact (up_n _ (by assumption)).trans (by assumption) | exact (up_n _ (by assumption)).trans (up_s _ _ _) | exact (up_n _ (by assumption)).trans ((up_n _ (by assumption)).trans (by assumption))) rfl dX5_gapAhead_6 ?_
    refine r_icmp_ge (tgt := 25) dX5_gapAhead_9 (by decide) (by omega) (by omega) (fun h9 => ?_) (fun h9 => ?_)
    ·
      refine r_iconst dX5_gapAhead_25 ?_
      refine r_istore_n dX5_gapAhead_26 (by decide) rfl ?_
      refine r_iload_n dX5_gapAhead_27 rfl ?_
      refine r_if_eq (tgt := 49) dX5_gapAhead_28 (by decide) (by omega) (fun h28 => ?_) (fun h28 => ?_)
      ·
        refine r_iconst dX5_gapAhead_49 ?_
        refine e_ireturn dX5_gapAhead_50 rfl (Nat.le_of_ble_eq_true rfl) (Nat.le_of_ble_eq_true rfl) ?_
        first | exact okI (gapF_out (by omega)).symm | exact okI (by rw [hf p (by omega) (by omega), hf (p - 1) (by omega) (by omega), gapF_in (by omega) (by omega)])
      · omega
    ·
      refine r_iload_n dX5_gapAhead_12 rfl ?_
      refine r_aload_n dX5_gapAhead_13 rfl ?_
      refine r_getfield clX5 0 (by decide) fl_X5_9 (by first | assumption | exact up_s _ _ _ | exact (up_n _ (by assumption)).trans (by assumption) | exact (up_n _ (by assumption)).trans (up_s _ _ _) | exact (up_n _ (by assumption)).trans ((up_n _ (by assumption)).trans (by assumption))) rfl dX5_gapAhead_14 ?_
      refine r_alenI (by first | assumption | exact up_s _ _ _ | exact (up_n _ (by assumption)).trans (by assumption) | exact (up_n _ (by assumption)).trans (up_s _ _ _) | exact (up_n _ (by assumption)).trans ((up_n _ (by assumption)).trans (by assumption))) dX5_gapAhead_17 ?_
      refine r_icmp_ge (tgt := 25) dX5_gapAhead_18 (by decide) (by omega) (by omega) (fun h18 => ?_) (fun h18 => ?_)
      ·
        refine r_iconst dX5_gapAhead_25 ?_
        refine r_istore_n dX5_gapAhead_26 (by decide) rfl ?_
        refine r_iload_n dX5_gapAhead_27 rfl ?_
        refine r_if_eq (tgt := 49) dX5_gapAhead_28 (by decide) (by omega) (fun h28 => ?_) (fun h28 => ?_)
        ·
          refine r_iconst dX5_gapAhead_49 ?_
          refine e_ireturn dX5_gapAhead_50 rfl (Nat.le_of_ble_eq_true rfl) (Nat.le_of_ble_eq_true rfl) ?_
          first | exact okI (gapF_out (by omega)).symm | exact okI (by rw [hf p (by omega) (by omega), hf (p - 1) (by omega) (by omega), gapF_in (by omega) (by omega)])
        · omega
      ·
        refine r_iconst dX5_gapAhead_21 ?_
        refine r_goto (tgt := 26) dX5_gapAhead_22 (by decide) ?_
        refine r_istore_n dX5_gapAhead_26 (by decide) rfl ?_
        refine r_iload_n dX5_gapAhead_27 rfl ?_
        refine r_if_eq (tgt := 49) dX5_gapAhead_28 (by decide) (by omega) (fun h28 => ?_) (fun h28 => ?_)
        · omega
        ·
          refine r_aload_n dX5_gapAhead_31 rfl ?_
          refine r_getfield clX5 0 (by decide) fl_X5_9 (by first | assumption | exact up_s _ _ _ | exact (up_n _ (by assumption)).trans (by assumption) | exact (up_n _ (by assumption)).trans (up_s _ _ _) | exact (up_n _ (by assumption)).trans ((up_n _ (by assumption)).trans (by assumption))) rfl dX5_gapAhead_32 ?_
          refine r_iload_n dX5_gapAhead_35 rfl ?_
          refine r_iaload (by first | assumption | exact up_s _ _ _ | exact (up_n _ (by assumption)).trans (by assumption) | exact (up_n _ (by assumption)).trans (up_s _ _ _) | exact (up_n _ (by assumption)).trans ((up_n _ (by assumption)).trans (by assumption))) (by omega) (by omega) (by omega) dX5_gapAhead_36 ?_
          refine r_aload_n dX5_gapAhead_37 rfl ?_
          refine r_getfield clX5 0 (by decide) fl_X5_9 (by first | assumption | exact up_s _ _ _ | exact (up_n _ (by assumption)).trans (by assumption) | exact (up_n _ (by assumption)).trans (up_s _ _ _) | exact (up_n _ (by assumption)).trans ((up_n _ (by assumption)).trans (by assumption))) rfl dX5_gapAhead_38 ?_
          refine r_iload_n dX5_gapAhead_41 rfl ?_
          refine r_iconst dX5_gapAhead_42 ?_
          refine r_isub dX5_gapAhead_43 ?_
          refine r_iaload (by first | assumption | exact up_s _ _ _ | exact (up_n _ (by assumption)).trans (by assumption) | exact (up_n _ (by assumption)).trans (up_s _ _ _) | exact (up_n _ (by assumption)).trans ((up_n _ (by assumption)).trans (by assumption))) (by omega) (by omega) (by omega) dX5_gapAhead_44 ?_
          refine r_isub dX5_gapAhead_45 ?_
          refine r_goto (tgt := 50) dX5_gapAhead_46 (by decide) ?_
          refine e_ireturn dX5_gapAhead_50 rfl (Nat.le_of_ble_eq_true rfl) (Nat.le_of_ble_eq_true rfl) ?_
          first | exact okI (gapF_out (by omega)).symm | exact okI (by rw [hf p (by omega) (by omega), hf (p - 1) (by omega) (by omega), gapF_in (by omega) (by omega)])

set_option maxHeartbeats 4000000 in
theorem mX5_placeOf {M : Mem} {o a N : Nat} {n : Int} {F : Int → Int} {x : Int} (hm : Mb M o a N n F) (hx : R32 x) : Ct KX5_placeOf [.ref o, vI x] M 0 0 (rtI (plc n F x) M) := by
  refine Ct.of _ (by decide) rfl (Nat.le_of_ble_eq_true rfl) ?_
  obtain ⟨ho, ⟨f, ha, hf⟩, hn0, hnN, hN, hb⟩ := id hm
  refine r_iconst dX5_placeOf_0 ?_
  refine r_istore_n dX5_placeOf_1 (by decide) rfl ?_
  refine J.loc (L' := [(0, some _), (1, some _), (2, some _)]) (lsub_cons rfl (lsub_cons rfl (lsub_cons rfl (lsub_nil)))) (loop1 (fun (i : Int) => 0 ≤ i ∧ i ≤ n ∧ plc n F x = ff (fun i => decide (x ≤ F i)) (n - i).toNat i) (fun (i : Int) => (n - i).toNat) (fun (i : Int) => J KX5_placeOf 0 0 _ 2 [(0, some (.ref o)), (1, some (vI x)), (2, some (vI i))] [] M _ _) (fun i hI2 ih2 => ?_) _ ?_)
  ·
    obtain ⟨hi0, hi1, hi2⟩ := hI2
    refine r_iload_n dX5_placeOf_2 rfl ?_
    refine r_aload_n dX5_placeOf_3 rfl ?_
    refine r_getfield clX5 1 (by decide) fl_X5_15 (by first | assumption | exact up_s _ _ _ | exact (up_n _ (by assumption)).trans (by assumption) | exact (up_n _ (by assumption)).trans (up_s _ _ _) | exact (up_n _ (by assumption)).trans ((up_n _ (by assumption)).trans (by assumption))) rfl dX5_placeOf_4 ?_
    refine r_icmp_ge (tgt := 27) dX5_placeOf_7 (by decide) (by omega) (by omega) (fun h7 => ?_) (fun h7 => ?_)
    ·
      refine r_aload_n dX5_placeOf_27 rfl ?_
      refine r_getfield clX5 1 (by decide) fl_X5_15 (by first | assumption | exact up_s _ _ _ | exact (up_n _ (by assumption)).trans (by assumption) | exact (up_n _ (by assumption)).trans (up_s _ _ _) | exact (up_n _ (by assumption)).trans ((up_n _ (by assumption)).trans (by assumption))) rfl dX5_placeOf_28 ?_
      refine e_ireturn dX5_placeOf_31 rfl (Nat.le_of_ble_eq_true rfl) (Nat.le_of_ble_eq_true rfl) ?_
      exact okI (by rw [hi2, show (n - i).toNat = 0 by omega, ff]; omega)
    ·
      refine r_aload_n dX5_placeOf_10 rfl ?_
      refine r_iload_n dX5_placeOf_11 rfl ?_
      refine r_callV1 okX5_at ⟨by decide, by decide⟩ ml_X5_19 (mX5_at (by assumption) (by omega)) (by first | assumption | exact up_s _ _ _ | exact (up_n _ (by assumption)).trans (by assumption) | exact (up_n _ (by assumption)).trans (up_s _ _ _) | exact (up_n _ (by assumption)).trans ((up_n _ (by assumption)).trans (by assumption))) rfl rfl (Nat.le_of_ble_eq_true rfl) (Nat.le_of_ble_eq_true rfl) (Nat.le_of_ble_eq_true rfl) rfl dX5_placeOf_12 (nx_I) (kx_I ?_)
      rw [atF_in (by omega) (by omega)]
      have hbi := hb i (by omega) (by omega)
      refine r_iload_n dX5_placeOf_15 rfl ?_
      refine r_icmp_lt (tgt := 21) dX5_placeOf_16 (by decide) (by omega) (by omega) (fun h16 => ?_) (fun h16 => ?_)
      ·
        refine r_iinc dX5_placeOf_21 rfl rfl ?_
        refine r_goto (tgt := 2) dX5_placeOf_24 (by decide) ?_
        refine J.loc (lsub_cons rfl (lsub_cons rfl (lsub_cons rfl (lsub_nil)))) (ih2 _ ?_ ?_)
        · exact ⟨by omega, by omega, by rw [hi2, show (n - i).toNat = (n - (i + 1)).toNat + 1 by omega, ff, if_neg (by simp; omega)]⟩
        · omega
      ·
        refine r_iload_n dX5_placeOf_19 rfl ?_
        refine e_ireturn dX5_placeOf_20 rfl (Nat.le_of_ble_eq_true rfl) (Nat.le_of_ble_eq_true rfl) ?_
        exact okI (by rw [hi2, show (n - i).toNat = (n - (i + 1)).toNat + 1 by omega, ff, if_pos (by simp; omega)])
  · exact ⟨by omega, by omega, by simp [plc]⟩

set_option maxHeartbeats 4000000 in
theorem mX5_holds {M : Mem} {o a N : Nat} {n : Int} {F : Int → Int} {x : Int} (hm : Mb M o a N n F) (hx : R32 x) : Ct KX5_holds [.ref o, vI x] M 0 0 (rtI (bI (hasF n F x)) M) := by
  refine Ct.of _ (by decide) rfl (Nat.le_of_ble_eq_true rfl) ?_
  obtain ⟨ho, ⟨f, ha, hf⟩, hn0, hnN, hN, hb⟩ := id hm
  have hq := plc_spec hn0 F x
  refine r_aload_n dX5_holds_0 rfl ?_
  refine r_iload_n dX5_holds_1 rfl ?_
  refine r_callV1 okX5_placeOf ⟨by decide, by decide⟩ ml_X5_23 (mX5_placeOf (by assumption) (by omega)) (by first | assumption | exact up_s _ _ _ | exact (up_n _ (by assumption)).trans (by assumption) | exact (up_n _ (by assumption)).trans (up_s _ _ _) | exact (up_n _ (by assumption)).trans ((up_n _ (by assumption)).trans (by assumption))) rfl rfl (Nat.le_of_ble_eq_true rfl) (Nat.le_of_ble_eq_true rfl) (Nat.le_of_ble_eq_true rfl) rfl dX5_holds_2 (nx_I) (kx_I ?_)
  refine r_istore_n dX5_holds_5 (by decide) rfl ?_
  refine r_iload_n dX5_holds_6 rfl ?_
  refine r_aload_n dX5_holds_7 rfl ?_
  refine r_getfield clX5 1 (by decide) fl_X5_15 (by first | assumption | exact up_s _ _ _ | exact (up_n _ (by assumption)).trans (by assumption) | exact (up_n _ (by assumption)).trans (up_s _ _ _) | exact (up_n _ (by assumption)).trans ((up_n _ (by assumption)).trans (by assumption))) rfl dX5_holds_8 ?_
  refine r_icmp_ge (tgt := 27) dX5_holds_11 (by decide) (by omega) (by omega) (fun h11 => ?_) (fun h11 => ?_)
  ·
    refine r_iconst dX5_holds_27 ?_
    refine e_zreturn dX5_holds_28 rfl (by omega) (Nat.le_of_ble_eq_true rfl) (Nat.le_of_ble_eq_true rfl) ?_
    exact okI (by unfold hasF bI; simp <;> omega)
  ·
    refine r_aload_n dX5_holds_14 rfl ?_
    refine r_iload_n dX5_holds_15 rfl ?_
    refine r_callV1 okX5_at ⟨by decide, by decide⟩ ml_X5_19 (mX5_at (by assumption) (by omega)) (by first | assumption | exact up_s _ _ _ | exact (up_n _ (by assumption)).trans (by assumption) | exact (up_n _ (by assumption)).trans (up_s _ _ _) | exact (up_n _ (by assumption)).trans ((up_n _ (by assumption)).trans (by assumption))) rfl rfl (Nat.le_of_ble_eq_true rfl) (Nat.le_of_ble_eq_true rfl) (Nat.le_of_ble_eq_true rfl) rfl dX5_holds_16 (nx_I) (kx_I ?_)
    rw [atF_in (by omega) (by omega)]
    have hbi := hb (plc n F x) (by omega) (by omega)
    refine r_iload_n dX5_holds_19 rfl ?_
    refine r_icmp_ne (tgt := 27) dX5_holds_20 (by decide) (by omega) (by omega) (fun h20 => ?_) (fun h20 => ?_)
    ·
      refine r_iconst dX5_holds_27 ?_
      refine e_zreturn dX5_holds_28 rfl (by omega) (Nat.le_of_ble_eq_true rfl) (Nat.le_of_ble_eq_true rfl) ?_
      exact okI (by unfold hasF bI; simp <;> omega)
    ·
      refine r_iconst dX5_holds_23 ?_
      refine r_goto (tgt := 28) dX5_holds_24 (by decide) ?_
      refine e_zreturn dX5_holds_28 rfl (by omega) (Nat.le_of_ble_eq_true rfl) (Nat.le_of_ble_eq_true rfl) ?_
      exact okI (by unfold hasF bI; simp <;> omega)


set_option maxHeartbeats 4000000 in
theorem mX5_longestRow {M : Mem} {o a N : Nat} {n : Int} {F : Int → Int} (hm : Mb M o a N n F) : Ct KX5_longestRow [.ref o] M 0 0 (rtI (lrF n F n.toNat 0 0 0) M) := by
  refine Ct.of _ (by decide) rfl (Nat.le_of_ble_eq_true rfl) ?_
  obtain ⟨ho, ⟨f, ha, hf⟩, hn0, hnN, hN, hb⟩ := id hm
  refine r_iconst dX5_longestRow_0 ?_
  refine r_istore_n dX5_longestRow_1 (by decide) rfl ?_
  refine r_iconst dX5_longestRow_2 ?_
  refine r_istore_n dX5_longestRow_3 (by decide) rfl ?_
  refine r_iconst dX5_longestRow_4 ?_
  refine r_istore_n dX5_longestRow_5 (by decide) rfl ?_
  refine J.loc (L' := [(0, some _), (1, some _), (2, some _), (3, some _)]) (lsub_cons rfl (lsub_cons rfl (lsub_cons rfl (lsub_cons rfl (lsub_nil))))) (loop3 (fun (i : Int) (r : Int) (b : Int) => 0 ≤ i ∧ i ≤ n ∧ 0 ≤ r ∧ r ≤ i ∧ 0 ≤ b ∧ b ≤ i ∧ lrF n F n.toNat 0 0 0 = lrF n F (n - i).toNat i r b) (fun (i : Int) (r : Int) (b : Int) => (n - i).toNat) (fun (i : Int) (r : Int) (b : Int) => J KX5_longestRow 0 0 _ 6 [(0, some (.ref o)), (1, some (vI b)), (2, some (vI r)), (3, some (vI i))] [] M _ _) (fun i r b hI6 ih6 => ?_) _ _ _ ?_)
  ·
    obtain ⟨hi0, hi1, hr0, hr1, hb0, hb1, hi2⟩ := hI6
    refine r_iload_n dX5_longestRow_6 rfl ?_
    refine r_aload_n dX5_longestRow_7 rfl ?_
    refine r_getfield clX5 1 (by decide) fl_X5_15 (by first | assumption | exact up_s _ _ _ | exact (up_n _ (by assumption)).trans (by assumption) | exact (up_n _ (by assumption)).trans (up_s _ _ _) | exact (up_n _ (by assumption)).trans ((up_n _ (by assumption)).trans (by assumption))) rfl dX5_longestRow_8 ?_
    refine r_icmp_ge (tgt := 47) dX5_longestRow_11 (by decide) (by omega) (by omega) (fun h11 => ?_) (fun h11 => ?_)
    ·
      refine r_iload_n dX5_longestRow_47 rfl ?_
      refine e_ireturn dX5_longestRow_48 rfl (Nat.le_of_ble_eq_true rfl) (Nat.le_of_ble_eq_true rfl) ?_
      exact okI (by rw [hi2, show (n - i).toNat = 0 by omega, lrF])
    ·
      refine r_iload_n dX5_longestRow_14 rfl ?_
      refine r_if_le (tgt := 33) dX5_longestRow_15 (by decide) (by omega) (fun h15 => ?_) (fun h15 => ?_)
      ·
        refine r_iconst dX5_longestRow_33 ?_
        refine r_istore_n dX5_longestRow_34 (by decide) rfl ?_
        refine r_iload_n dX5_longestRow_35 rfl ?_
        refine r_iload_n dX5_longestRow_36 rfl ?_
        refine r_max ml_X5_36 (by decide) (Nat.le_of_ble_eq_true rfl) (Nat.le_of_ble_eq_true rfl) (Nat.le_of_ble_eq_true rfl) (by omega) (by omega) dX5_longestRow_37 ?_
        refine r_istore_n dX5_longestRow_40 (by decide) rfl ?_
        refine r_iinc dX5_longestRow_41 rfl rfl ?_
        refine r_goto (tgt := 6) dX5_longestRow_44 (by decide) ?_
        refine J.loc (lsub_cons rfl (lsub_cons rfl (lsub_cons rfl (lsub_cons rfl (lsub_nil))))) (ih6 _ _ _ ?_ ?_)
        · refine ⟨by omega, by omega, by omega, by omega, by (split <;> omega), by (split <;> omega), ?_⟩
          rw [hi2, show (n - i).toNat = (n - (i + 1)).toNat + 1 by omega, lrF]
          first | rw [if_pos (by omega)] | rw [if_neg (by omega)]
        · omega
      ·
        refine r_aload_n dX5_longestRow_18 rfl ?_
        refine r_iload_n dX5_longestRow_19 rfl ?_
        refine r_callV1 okX5_gapAhead ⟨by decide, by decide⟩ ml_X5_33 (mX5_gapAhead (by assumption) (by omega)) (by first | assumption | exact up_s _ _ _ | exact (up_n _ (by assumption)).trans (by assumption) | exact (up_n _ (by assumption)).trans (up_s _ _ _) | exact (up_n _ (by assumption)).trans ((up_n _ (by assumption)).trans (by assumption))) rfl rfl (Nat.le_of_ble_eq_true rfl) (Nat.le_of_ble_eq_true rfl) (Nat.le_of_ble_eq_true rfl) rfl dX5_longestRow_20 (nx_I) (kx_I ?_)
        have hg := hm.gap i
        refine r_iconst dX5_longestRow_23 ?_
        refine r_icmp_ne (tgt := 33) dX5_longestRow_24 (by decide) (by omega) (by omega) (fun h24 => ?_) (fun h24 => ?_)
        ·
          refine r_iconst dX5_longestRow_33 ?_
          refine r_istore_n dX5_longestRow_34 (by decide) rfl ?_
          refine r_iload_n dX5_longestRow_35 rfl ?_
          refine r_iload_n dX5_longestRow_36 rfl ?_
          refine r_max ml_X5_36 (by decide) (Nat.le_of_ble_eq_true rfl) (Nat.le_of_ble_eq_true rfl) (Nat.le_of_ble_eq_true rfl) (by omega) (by omega) dX5_longestRow_37 ?_
          refine r_istore_n dX5_longestRow_40 (by decide) rfl ?_
          refine r_iinc dX5_longestRow_41 rfl rfl ?_
          refine r_goto (tgt := 6) dX5_longestRow_44 (by decide) ?_
          refine J.loc (lsub_cons rfl (lsub_cons rfl (lsub_cons rfl (lsub_cons rfl (lsub_nil))))) (ih6 _ _ _ ?_ ?_)
          · refine ⟨by omega, by omega, by omega, by omega, by (split <;> omega), by (split <;> omega), ?_⟩
            rw [hi2, show (n - i).toNat = (n - (i + 1)).toNat + 1 by omega, lrF]
            first | rw [if_pos (by omega)] | rw [if_neg (by omega)]
          · omega
        ·
          refine r_iload_n dX5_longestRow_27 rfl ?_
          refine r_iconst dX5_longestRow_28 ?_
          refine r_iadd dX5_longestRow_29 ?_
          refine r_goto (tgt := 34) dX5_longestRow_30 (by decide) ?_
          refine r_istore_n dX5_longestRow_34 (by decide) rfl ?_
          refine r_iload_n dX5_longestRow_35 rfl ?_
          refine r_iload_n dX5_longestRow_36 rfl ?_
          refine r_max ml_X5_36 (by decide) (Nat.le_of_ble_eq_true rfl) (Nat.le_of_ble_eq_true rfl) (Nat.le_of_ble_eq_true rfl) (by omega) (by omega) dX5_longestRow_37 ?_
          refine r_istore_n dX5_longestRow_40 (by decide) rfl ?_
          refine r_iinc dX5_longestRow_41 rfl rfl ?_
          refine r_goto (tgt := 6) dX5_longestRow_44 (by decide) ?_
          refine J.loc (lsub_cons rfl (lsub_cons rfl (lsub_cons rfl (lsub_cons rfl (lsub_nil))))) (ih6 _ _ _ ?_ ?_)
          · refine ⟨by omega, by omega, by omega, by omega, by (split <;> omega), by (split <;> omega), ?_⟩
            rw [hi2, show (n - i).toNat = (n - (i + 1)).toNat + 1 by omega, lrF]
            first | rw [if_pos (by omega)] | rw [if_neg (by omega)]
          · omega
  · exact ⟨by omega, by omega, by omega, by omega, by omega, by omega, by simp⟩

set_option maxHeartbeats 4000000 in
theorem mX5_isLike {M : Mem} {o a N : Nat} {n : Int} {F : Int → Int} {o2 a2 N2 : Nat} {n2 : Int} {F2 : Int → Int} (hm : Mb M o a N n F) (hm2 : Mb M o2 a2 N2 n2 F2) : Ct KX5_isLike [.ref o, .ref o2] M 0 0 (rtI (bI (likeF n F n2 F2)) M) := by
  refine Ct.of _ (by decide) rfl (Nat.le_of_ble_eq_true rfl) ?_
  obtain ⟨ho, ⟨f, ha, hf⟩, hn0, hnN, hN, hb⟩ := id hm
  obtain ⟨ho2, ⟨f2, ha2, hf2⟩, hn02, hnN2, hN2, hb2⟩ := id hm2
  refine r_aload_n dX5_isLike_0 rfl ?_
  refine r_getfield clX5 1 (by decide) fl_X5_15 (by first | assumption | exact up_s _ _ _ | exact (up_n _ (by assumption)).trans (by assumption) | exact (up_n _ (by assumption)).trans (up_s _ _ _) | exact (up_n _ (by assumption)).trans ((up_n _ (by assumption)).trans (by assumption))) rfl dX5_isLike_1 ?_
  refine r_aload_n dX5_isLike_4 rfl ?_
  refine r_callV0 okX5_amount ⟨by decide, by decide⟩ ml_X5_42 (mX5_amount (by assumption)) (by first | assumption | exact up_s _ _ _ | exact (up_n _ (by assumption)).trans (by assumption) | exact (up_n _ (by assumption)).trans (up_s _ _ _) | exact (up_n _ (by assumption)).trans ((up_n _ (by assumption)).trans (by assumption))) rfl rfl (Nat.le_of_ble_eq_true rfl) (Nat.le_of_ble_eq_true rfl) (Nat.le_of_ble_eq_true rfl) rfl dX5_isLike_5 (nx_I) (kx_I ?_)
  refine r_icmp_eq (tgt := 13) dX5_isLike_8 (by decide) (by omega) (by omega) (fun h8 => ?_) (fun h8 => ?_)
  ·
    refine r_iconst dX5_isLike_13 ?_
    refine r_istore_n dX5_isLike_14 (by decide) rfl ?_
    refine J.loc (L' := [(0, some _), (1, some _), (2, some _)]) (lsub_cons rfl (lsub_cons rfl (lsub_cons rfl (lsub_nil)))) (loop1 (fun (i : Int) => 0 ≤ i ∧ i ≤ n ∧ n = n2 ∧ likeF n F n2 F2 = allF (fun i => decide (F i = F2 i)) (n - i).toNat i) (fun (i : Int) => (n - i).toNat) (fun (i : Int) => J KX5_isLike 0 0 _ 15 [(0, some (.ref o)), (1, some (.ref o2)), (2, some (vI i))] [] M _ _) (fun i hI15 ih15 => ?_) _ ?_)
    ·
      obtain ⟨hi0, hi1, hnn, hi2⟩ := hI15
      refine r_iload_n dX5_isLike_15 rfl ?_
      refine r_aload_n dX5_isLike_16 rfl ?_
      refine r_getfield clX5 1 (by decide) fl_X5_15 (by first | assumption | exact up_s _ _ _ | exact (up_n _ (by assumption)).trans (by assumption) | exact (up_n _ (by assumption)).trans (up_s _ _ _) | exact (up_n _ (by assumption)).trans ((up_n _ (by assumption)).trans (by assumption))) rfl dX5_isLike_17 ?_
      refine r_icmp_ge (tgt := 44) dX5_isLike_20 (by decide) (by omega) (by omega) (fun h20 => ?_) (fun h20 => ?_)
      ·
        refine r_iconst dX5_isLike_44 ?_
        refine e_zreturn dX5_isLike_45 rfl (by omega) (Nat.le_of_ble_eq_true rfl) (Nat.le_of_ble_eq_true rfl) ?_
        exact okI (by rw [hi2, show (n - i).toNat = 0 by omega, allF]; rfl)
      ·
        refine r_aload_n dX5_isLike_23 rfl ?_
        refine r_iload_n dX5_isLike_24 rfl ?_
        refine r_callV1 okX5_at ⟨by decide, by decide⟩ ml_X5_19 (mX5_at (by assumption) (by omega)) (by first | assumption | exact up_s _ _ _ | exact (up_n _ (by assumption)).trans (by assumption) | exact (up_n _ (by assumption)).trans (up_s _ _ _) | exact (up_n _ (by assumption)).trans ((up_n _ (by assumption)).trans (by assumption))) rfl rfl (Nat.le_of_ble_eq_true rfl) (Nat.le_of_ble_eq_true rfl) (Nat.le_of_ble_eq_true rfl) rfl dX5_isLike_25 (nx_I) (kx_I ?_)
        rw [atF_in (by omega) (by omega)]
        have hb1 := hb i (by omega) (by omega)
        refine r_aload_n dX5_isLike_28 rfl ?_
        refine r_iload_n dX5_isLike_29 rfl ?_
        refine r_callV1 okX5_at ⟨by decide, by decide⟩ ml_X5_19 (mX5_at (by assumption) (by omega)) (by first | assumption | exact up_s _ _ _ | exact (up_n _ (by assumption)).trans (by assumption) | exact (up_n _ (by assumption)).trans (up_s _ _ _) | exact (up_n _ (by assumption)).trans ((up_n _ (by assumption)).trans (by assumption))) rfl rfl (Nat.le_of_ble_eq_true rfl) (Nat.le_of_ble_eq_true rfl) (Nat.le_of_ble_eq_true rfl) rfl dX5_isLike_30 (nx_I) (kx_I ?_)
        rw [atF_in (by omega) (by omega)]
        have hb3 := hb2 i (by omega) (by omega)
        refine r_icmp_eq (tgt := 38) dX5_isLike_33 (by decide) (by omega) (by omega) (fun h33 => ?_) (fun h33 => ?_)
        ·
          refine r_iinc dX5_isLike_38 rfl rfl ?_
          refine r_goto (tgt := 15) dX5_isLike_41 (by decide) ?_
          refine J.loc (lsub_cons rfl (lsub_cons rfl (lsub_cons rfl (lsub_nil)))) (ih15 _ ?_ ?_)
          · exact ⟨by omega, by omega, hnn, by rw [hi2, show (n - i).toNat = (n - (i + 1)).toNat + 1 by omega, allF, decide_eq_true (by omega), Bool.true_and]⟩
          · omega
        ·
          refine r_iconst dX5_isLike_36 ?_
          refine e_zreturn dX5_isLike_37 rfl (by omega) (Nat.le_of_ble_eq_true rfl) (Nat.le_of_ble_eq_true rfl) ?_
          exact okI (by rw [hi2, show (n - i).toNat = (n - (i + 1)).toNat + 1 by omega, allF, decide_eq_false (by omega), Bool.false_and]; rfl)
    · exact ⟨by omega, by omega, by omega, by simp [likeF, *]⟩
  ·
    refine r_iconst dX5_isLike_11 ?_
    refine e_zreturn dX5_isLike_12 rfl (by omega) (Nat.le_of_ble_eq_true rfl) (Nat.le_of_ble_eq_true rfl) ?_
    exact okI (by unfold likeF; rw [decide_eq_false (by omega), Bool.false_and]; rfl)

set_option maxHeartbeats 4000000 in
theorem mX5_beginsBlock {M : Mem} {o a N : Nat} {n : Int} {F : Int → Int} {p c most width : Int} (hm : Mb M o a N n F) (hp : R32 p) (hc : R32 c) (h1 : R32 most) (h2 : R32 width) : Ct KX5_beginsBlock [.ref o, vI p, vI c, vI most, vI width] M 0 0 (rtI (bI (beg n F most width p c)) M) := by
  refine Ct.of _ (by decide) rfl (Nat.le_of_ble_eq_true rfl) ?_
  obtain ⟨ho, ⟨f, ha, hf⟩, hn0, hnN, hN, hb⟩ := id hm
  refine r_iload_n dX5_beginsBlock_0 rfl ?_
  refine r_if_eq (tgt := 19) dX5_beginsBlock_1 (by decide) (by omega) (fun h1 => ?_) (fun h1 => ?_)
  ·
    refine r_iconst dX5_beginsBlock_19 ?_
    refine r_goto (tgt := 24) dX5_beginsBlock_20 (by decide) ?_
    refine e_zreturn dX5_beginsBlock_24 rfl (by omega) (Nat.le_of_ble_eq_true rfl) (Nat.le_of_ble_eq_true rfl) ?_
    exact okI (by unfold beg bI; simp <;> omega)
  ·
    refine r_iload_n dX5_beginsBlock_4 rfl ?_
    refine r_iload_n dX5_beginsBlock_5 rfl ?_
    refine r_icmp_ge (tgt := 19) dX5_beginsBlock_6 (by decide) (by omega) (by omega) (fun h6 => ?_) (fun h6 => ?_)
    ·
      refine r_iconst dX5_beginsBlock_19 ?_
      refine r_goto (tgt := 24) dX5_beginsBlock_20 (by decide) ?_
      refine e_zreturn dX5_beginsBlock_24 rfl (by omega) (Nat.le_of_ble_eq_true rfl) (Nat.le_of_ble_eq_true rfl) ?_
      exact okI (by unfold beg bI; simp <;> omega)
    ·
      refine r_aload_n dX5_beginsBlock_9 rfl ?_
      refine r_iload_n dX5_beginsBlock_10 rfl ?_
      refine r_callV1 okX5_gapAhead ⟨by decide, by decide⟩ ml_X5_33 (mX5_gapAhead (by assumption) (by omega)) (by first | assumption | exact up_s _ _ _ | exact (up_n _ (by assumption)).trans (by assumption) | exact (up_n _ (by assumption)).trans (up_s _ _ _) | exact (up_n _ (by assumption)).trans ((up_n _ (by assumption)).trans (by assumption))) rfl rfl (Nat.le_of_ble_eq_true rfl) (Nat.le_of_ble_eq_true rfl) (Nat.le_of_ble_eq_true rfl) rfl dX5_beginsBlock_11 (nx_I) (kx_I ?_)
      have hg := hm.gap p
      refine r_iload dX5_beginsBlock_14 rfl ?_
      refine r_icmp_le (tgt := 23) dX5_beginsBlock_16 (by decide) (by omega) (by omega) (fun h16 => ?_) (fun h16 => ?_)
      ·
        refine r_iconst dX5_beginsBlock_23 ?_
        refine e_zreturn dX5_beginsBlock_24 rfl (by omega) (Nat.le_of_ble_eq_true rfl) (Nat.le_of_ble_eq_true rfl) ?_
        exact okI (by unfold beg bI; simp <;> omega)
      ·
        refine r_iconst dX5_beginsBlock_19 ?_
        refine r_goto (tgt := 24) dX5_beginsBlock_20 (by decide) ?_
        refine e_zreturn dX5_beginsBlock_24 rfl (by omega) (Nat.le_of_ble_eq_true rfl) (Nat.le_of_ble_eq_true rfl) ?_
        exact okI (by unfold beg bI; simp <;> omega)

set_option maxHeartbeats 4000000 in
theorem mX8_gapBytes {M : Mem} {g : Int} (hg : R32 g) : Ct KX8_gapBytes [vI g] M 0 0 (rtI (gby g) M) := by
  refine Ct.of _ (by decide) rfl (Nat.le_of_ble_eq_true rfl) ?_
  refine r_iload_n dX8_gapBytes_0 rfl ?_
  refine r_sipush dX8_gapBytes_1 (by decide) ?_
  refine r_icmp_ge (tgt := 11) dX8_gapBytes_4 (by decide) (by omega) (by omega) (fun h4 => ?_) (fun h4 => ?_)
  ·
    refine r_iconst dX8_gapBytes_11 ?_
    refine e_ireturn dX8_gapBytes_12 rfl (Nat.le_of_ble_eq_true rfl) (Nat.le_of_ble_eq_true rfl) ?_
    exact okI (by unfold gby; split <;> omega)
  ·
    refine r_iconst dX8_gapBytes_7 ?_
    refine r_goto (tgt := 12) dX8_gapBytes_8 (by decide) ?_
    refine e_ireturn dX8_gapBytes_12 rfl (Nat.le_of_ble_eq_true rfl) (Nat.le_of_ble_eq_true rfl) ?_
    exact okI (by unfold gby; split <;> omega)

set_option maxHeartbeats 4000000 in
theorem mX5_bytes {M : Mem} {o a N : Nat} {n : Int} {F : Int → Int} {most width : Int} (hm : Mb M o a N n F) (h1 : R32 most) (h2 : R32 width) : Ct KX5_bytes [.ref o, vI most, vI width] M 0 0 (rtI (byF n F most width n.toNat 0 0) M) := by
  refine Ct.of _ (by decide) rfl (Nat.le_of_ble_eq_true rfl) ?_
  obtain ⟨ho, ⟨f, ha, hf⟩, hn0, hnN, hN, hb⟩ := id hm
  refine r_iconst dX5_bytes_0 ?_
  refine r_istore_n dX5_bytes_1 (by decide) rfl ?_
  refine r_iconst dX5_bytes_2 ?_
  refine r_istore dX5_bytes_3 (by decide) rfl ?_
  refine r_iconst dX5_bytes_5 ?_
  refine r_istore dX5_bytes_6 (by decide) rfl ?_
  refine J.loc (L' := [(0, some _), (1, some _), (2, some _), (3, some _), (4, some _), (5, some _)]) (lsub_cons rfl (lsub_cons rfl (lsub_cons rfl (lsub_cons rfl (lsub_cons rfl (lsub_cons rfl (lsub_nil))))))) (loop3 (fun (i : Int) (c : Int) (b : Int) => 0 ≤ i ∧ i ≤ n ∧ 0 ≤ c ∧ c ≤ i ∧ 0 ≤ b ∧ b ≤ 3 * i ∧ byF n F most width n.toNat 0 0 = b + byF n F most width (n - i).toNat i c) (fun (i : Int) (c : Int) (b : Int) => (n - i).toNat) (fun (i : Int) (c : Int) (b : Int) => J KX5_bytes 0 0 _ 8 [(0, some (.ref o)), (1, some (vI most)), (2, some (vI width)), (3, some (vI b)), (4, some (vI c)), (5, some (vI i))] [] M _ _) (fun i c b hI8 ih8 => ?_) _ _ _ ?_)
  ·
    obtain ⟨hi0, hi1, hc0, hc1, hb0, hb1, hi2⟩ := hI8
    refine r_iload dX5_bytes_8 rfl ?_
    refine r_aload_n dX5_bytes_10 rfl ?_
    refine r_getfield clX5 1 (by decide) fl_X5_15 (by first | assumption | exact up_s _ _ _ | exact (up_n _ (by assumption)).trans (by assumption) | exact (up_n _ (by assumption)).trans (up_s _ _ _) | exact (up_n _ (by assumption)).trans ((up_n _ (by assumption)).trans (by assumption))) rfl dX5_bytes_11 ?_
    refine r_icmp_ge (tgt := 60) dX5_bytes_14 (by decide) (by omega) (by omega) (fun h14 => ?_) (fun h14 => ?_)
    ·
      refine r_iload_n dX5_bytes_60 rfl ?_
      refine e_ireturn dX5_bytes_61 rfl (Nat.le_of_ble_eq_true rfl) (Nat.le_of_ble_eq_true rfl) ?_
      exact okI (by rw [hi2, show (n - i).toNat = 0 by omega, byF]; omega)
    ·
      refine r_aload_n dX5_bytes_17 rfl ?_
      refine r_iload dX5_bytes_18 rfl ?_
      refine r_iload dX5_bytes_20 rfl ?_
      refine r_iload_n dX5_bytes_22 rfl ?_
      refine r_iload_n dX5_bytes_23 rfl ?_
      refine r_callV4 okX5_beginsBlock ⟨by decide, by decide⟩ ml_X5_44 (mX5_beginsBlock (by assumption) (by omega) (by omega) (by omega) (by omega)) (by first | assumption | exact up_s _ _ _ | exact (up_n _ (by assumption)).trans (by assumption) | exact (up_n _ (by assumption)).trans (up_s _ _ _) | exact (up_n _ (by assumption)).trans ((up_n _ (by assumption)).trans (by assumption))) rfl rfl (Nat.le_of_ble_eq_true rfl) (Nat.le_of_ble_eq_true rfl) (Nat.le_of_ble_eq_true rfl) rfl dX5_bytes_24 (nx_I) (kx_I ?_)
      have hbb := bI_r (beg n F most width i c)
      refine r_if_eq (tgt := 39) dX5_bytes_27 (by decide) (by omega) (fun h27 => ?_) (fun h27 => ?_)
      ·
        refine r_iload_n dX5_bytes_39 rfl ?_
        refine r_aload_n dX5_bytes_40 rfl ?_
        refine r_iload dX5_bytes_41 rfl ?_
        refine r_callV1 okX5_gapAhead ⟨by decide, by decide⟩ ml_X5_33 (mX5_gapAhead (by assumption) (by omega)) (by first | assumption | exact up_s _ _ _ | exact (up_n _ (by assumption)).trans (by assumption) | exact (up_n _ (by assumption)).trans (up_s _ _ _) | exact (up_n _ (by assumption)).trans ((up_n _ (by assumption)).trans (by assumption))) rfl rfl (Nat.le_of_ble_eq_true rfl) (Nat.le_of_ble_eq_true rfl) (Nat.le_of_ble_eq_true rfl) rfl dX5_bytes_43 (nx_I) (kx_I ?_)
        have hg := hm.gap i
        have hgb := gby_r (gapF n F i)
        refine r_callN1 okX8_gapBytes ⟨by decide, by decide⟩ nl_X5_48 (mX8_gapBytes (by omega)) (Nat.le_of_ble_eq_true rfl) (Nat.le_of_ble_eq_true rfl) (Nat.le_of_ble_eq_true rfl) (nn_I) dX5_bytes_46 (kx_I ?_)
        refine r_iadd dX5_bytes_49 ?_
        refine r_istore_n dX5_bytes_50 (by decide) rfl ?_
        refine r_iinc dX5_bytes_51 rfl rfl ?_
        refine r_iinc dX5_bytes_54 rfl rfl ?_
        refine r_goto (tgt := 8) dX5_bytes_57 (by decide) ?_
        refine J.loc (lsub_cons rfl (lsub_cons rfl (lsub_cons rfl (lsub_cons rfl (lsub_cons rfl (lsub_cons rfl (lsub_nil))))))) (ih8 _ _ _ ?_ ?_)
        · refine ⟨by omega, by omega, by omega, by omega, by omega, by omega, ?_⟩
          rw [hi2, show (n - i).toNat = (n - (i + 1)).toNat + 1 by omega, byF, if_neg (bI_f h27)]
          omega
        · omega
      ·
        refine r_iinc dX5_bytes_30 rfl rfl ?_
        refine r_iconst dX5_bytes_33 ?_
        refine r_istore dX5_bytes_34 (by decide) rfl ?_
        refine r_goto (tgt := 54) dX5_bytes_36 (by decide) ?_
        refine r_iinc dX5_bytes_54 rfl rfl ?_
        refine r_goto (tgt := 8) dX5_bytes_57 (by decide) ?_
        refine J.loc (lsub_cons rfl (lsub_cons rfl (lsub_cons rfl (lsub_cons rfl (lsub_cons rfl (lsub_cons rfl (lsub_nil))))))) (ih8 _ _ _ ?_ ?_)
        · refine ⟨by omega, by omega, by omega, by omega, by omega, by omega, ?_⟩
          rw [hi2, show (n - i).toNat = (n - (i + 1)).toNat + 1 by omega, byF, if_pos (bI_t h27)]
          omega
        · omega
  · exact ⟨by omega, by omega, by omega, by omega, by omega, by omega, by simp⟩
