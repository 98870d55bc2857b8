/-! the class Blocks -/
set_option maxHeartbeats 4000000 in
theorem mX0_amount {M : Mem} {ad : Int → Nat} {bo : Int} {mo : Nat} {nb : Int} {st : Int → Int} (hb : BlP M ad bo mo nb st) : Ct KX0_amount [.ref (ad bo)] M 0 0 (rtI nb M) := by
  refine Ct.of _ (by decide) rfl (Nat.le_of_ble_eq_true rfl) ?_
  obtain ⟨hbo, ⟨bf, hba, hbf⟩, hn0, hn1, hst⟩ := id hb
  refine r_aload_n dX0_amount_0 rfl ?_
  refine r_getfield clX0 1 (by decide) fl_X0_15 (by first | assumption | exact up_s _ _ _ | exact (up_n _ (by assumption)).trans (by assumption) | exact (up_n _ (by assumption)).trans (up_s _ _ _) | exact (up_n _ (by assumption)).trans ((up_n _ (by assumption)).trans (by assumption))) rfl dX0_amount_1 ?_
  refine e_ireturn dX0_amount_4 rfl (Nat.le_of_ble_eq_true rfl) (Nat.le_of_ble_eq_true rfl) ?_
  exact okI rfl

set_option maxHeartbeats 4000000 in
theorem mX0_start {M : Mem} {ad : Int → Nat} {bo : Int} {mo : Nat} {nb : Int} {st : Int → Int} {b : Int} (hb : BlP M ad bo mo nb st) (q0 : R32 b) : Ct KX0_start [.ref (ad bo), vI b] M 0 0 (rtI (staF nb st b) M) := by
  refine Ct.of _ (by decide) rfl (Nat.le_of_ble_eq_true rfl) ?_
  obtain ⟨hbo, ⟨bf, hba, hbf⟩, hn0, hn1, hst⟩ := id hb
  refine r_iload_n dX0_start_0 rfl ?_
  refine r_if_lt (tgt := 30) dX0_start_1 (by decide) (by omega) (fun h1 => ?_) (fun h1 => ?_)
  ·
    refine r_iconst dX0_start_30 ?_
    refine e_ireturn dX0_start_31 rfl (Nat.le_of_ble_eq_true rfl) (Nat.le_of_ble_eq_true rfl) ?_
    exact okI (by unfold staF; first | rw [if_neg (by omega)] | (rw [if_pos (by omega)]; exact hbf b (by omega) (by omega)))
  ·
    refine r_iload_n dX0_start_4 rfl ?_
    refine r_aload_n dX0_start_5 rfl ?_
    refine r_getfield clX0 1 (by decide) fl_X0_15 (by first | assumption | exact up_s _ _ _ | exact (up_n _ (by assumption)).trans (by assumption) | exact (up_n _ (by assumption)).trans (up_s _ _ _) | exact (up_n _ (by assumption)).trans ((up_n _ (by assumption)).trans (by assumption))) rfl dX0_start_6 ?_
    refine r_icmp_gt (tgt := 30) dX0_start_9 (by decide) (by omega) (by omega) (fun h9 => ?_) (fun h9 => ?_)
    ·
      refine r_iconst dX0_start_30 ?_
      refine e_ireturn dX0_start_31 rfl (Nat.le_of_ble_eq_true rfl) (Nat.le_of_ble_eq_true rfl) ?_
      exact okI (by unfold staF; first | rw [if_neg (by omega)] | (rw [if_pos (by omega)]; exact hbf b (by omega) (by omega)))
    ·
      refine r_iload_n dX0_start_12 rfl ?_
      refine r_aload_n dX0_start_13 rfl ?_
      refine r_getfield clX0 0 (by decide) fl_X0_9 (by first | assumption | exact up_s _ _ _ | exact (up_n _ (by assumption)).trans (by assumption) | exact (up_n _ (by assumption)).trans (up_s _ _ _) | exact (up_n _ (by assumption)).trans ((up_n _ (by assumption)).trans (by assumption))) rfl dX0_start_14 ?_
      refine r_alenI (by first | assumption | exact up_s _ _ _ | exact (up_n _ (by assumption)).trans (by assumption) | exact (up_n _ (by assumption)).trans (up_s _ _ _) | exact (up_n _ (by assumption)).trans ((up_n _ (by assumption)).trans (by assumption))) dX0_start_17 ?_
      refine r_icmp_ge (tgt := 30) dX0_start_18 (by decide) (by omega) (by omega) (fun h18 => ?_) (fun h18 => ?_)
      ·
        refine r_iconst dX0_start_30 ?_
        refine e_ireturn dX0_start_31 rfl (Nat.le_of_ble_eq_true rfl) (Nat.le_of_ble_eq_true rfl) ?_
        exact okI (by unfold staF; first | rw [if_neg (by omega)] | (rw [if_pos (by omega)]; exact hbf b (by omega) (by omega)))
      ·
        refine r_aload_n dX0_start_21 rfl ?_
        refine r_getfield clX0 0 (by decide) fl_X0_9 (by first | assumption | exact up_s _ _ _ | exact (up_n _ (by assumption)).trans (by assumption) | exact (up_n _ (by assumption)).trans (up_s _ _ _) | exact (up_n _ (by assumption)).trans ((up_n _ (by assumption)).trans (by assumption))) rfl dX0_start_22 ?_
        refine r_iload_n dX0_start_25 rfl ?_
        refine r_iaload (by first | assumption | exact up_s _ _ _ | exact (up_n _ (by assumption)).trans (by assumption) | exact (up_n _ (by assumption)).trans (up_s _ _ _) | exact (up_n _ (by assumption)).trans ((up_n _ (by assumption)).trans (by assumption))) (by omega) (by omega) (by omega) dX0_start_26 ?_
        refine r_goto (tgt := 31) dX0_start_27 (by decide) ?_
        refine e_ireturn dX0_start_31 rfl (Nat.le_of_ble_eq_true rfl) (Nat.le_of_ble_eq_true rfl) ?_
        exact okI (by unfold staF; first | rw [if_neg (by omega)] | (rw [if_pos (by omega)]; exact hbf b (by omega) (by omega)))

set_option maxHeartbeats 4000000 in
theorem mX0_end {M : Mem} {ad : Int → Nat} {bo : Int} {mo : Nat} {nb : Int} {st : Int → Int} {b : Int} (hb : BlP M ad bo mo nb st) (q0 : -2 ≤ b ∧ b ≤ 100) : Ct KX0_end [.ref (ad bo), vI b] M 0 0 (rtI (staF nb st (b + 1)) M) := by
  refine Ct.of _ (by decide) rfl (Nat.le_of_ble_eq_true rfl) ?_
  obtain ⟨hbo, ⟨bf, hba, hbf⟩, hn0, hn1, hst⟩ := id hb
  refine r_aload_n dX0_end_0 rfl ?_
  refine r_iload_n dX0_end_1 rfl ?_
  refine r_iconst dX0_end_2 ?_
  refine r_iadd dX0_end_3 ?_
  refine r_callV1 okX0_start ⟨by decide, by decide⟩ ml_X0_48 (mX0_start (by assumption) (by omega)) (by first | assumption | exact up_s _ _ _ | exact (up_n _ (by assumption)).trans (by assumption) | exact (up_n _ (by assumption)).trans (up_s _ _ _) | exact (up_n _ (by assumption)).trans ((up_n _ (by assumption)).trans (by assumption))) rfl rfl (Nat.le_of_ble_eq_true rfl) (Nat.le_of_ble_eq_true rfl) (Nat.le_of_ble_eq_true rfl) rfl dX0_end_4 (nx_I) (kx_I ?_)
  refine e_ireturn dX0_end_7 rfl (Nat.le_of_ble_eq_true rfl) (Nat.le_of_ble_eq_true rfl) ?_
  exact okI rfl

set_option maxHeartbeats 4000000 in
theorem mX0_base {M : Mem} {ad : Int → Nat} {bo : Int} {mo : Nat} {nb : Int} {st : Int → Int} {ma N : Nat} {n : Int} {F : Int → Int} {b : Int} (hb : BlP M ad bo mo nb st) (hm : Mb M mo ma N n F) (q0 : 0 ≤ b) (q1 : b < nb) : Ct KX0_base [.ref (ad bo), vI b] M 0 0 (rtI (atF n F (st b)) M) := by
  refine Ct.of _ (by decide) rfl (Nat.le_of_ble_eq_true rfl) ?_
  obtain ⟨hbo, ⟨bf, hba, hbf⟩, hn0, hn1, hst⟩ := id hb
  have hmo := hm.1
  have hmn := hm.n0
  have hs0 := hst b (by omega) (by omega)
  have hs1 := hst (b + 1) (by omega) (by omega)
  refine r_aload_n dX0_base_0 rfl ?_
  refine r_getfield clX0 2 (by decide) fl_X0_24 (by first | assumption | exact up_s _ _ _ | exact (up_n _ (by assumption)).trans (by assumption) | exact (up_n _ (by assumption)).trans (up_s _ _ _) | exact (up_n _ (by assumption)).trans ((up_n _ (by assumption)).trans (by assumption))) rfl dX0_base_1 ?_
  refine r_aload_n dX0_base_4 rfl ?_
  refine r_iload_n dX0_base_5 rfl ?_
  refine r_callV1 okX0_start ⟨by decide, by decide⟩ ml_X0_48 (mX0_start hb (by omega)) (by first | assumption | exact up_s _ _ _ | exact (up_n _ (by assumption)).trans (by assumption) | exact (up_n _ (by assumption)).trans (up_s _ _ _) | exact (up_n _ (by assumption)).trans ((up_n _ (by assumption)).trans (by assumption))) rfl rfl (Nat.le_of_ble_eq_true rfl) (Nat.le_of_ble_eq_true rfl) (Nat.le_of_ble_eq_true rfl) rfl dX0_base_6 (nx_I) (kx_I ?_)
  rw [staF_in (by omega) (by omega)]
  refine r_callV1 okX5_at ⟨by decide, by decide⟩ ml_X0_51 (mX5_at (by assumption) (by omega)) (by first | assumption | exact up_s _ _ _ | exact (up_n _ (by assumption)).trans (by assumption) | exact (up_n _ (by assumption)).trans (up_s _ _ _) | exact (up_n _ (by assumption)).trans ((up_n _ (by assumption)).trans (by assumption))) rfl rfl (Nat.le_of_ble_eq_true rfl) (Nat.le_of_ble_eq_true rfl) (Nat.le_of_ble_eq_true rfl) rfl dX0_base_9 (nx_I) (kx_I ?_)
  refine e_ireturn dX0_base_12 rfl (Nat.le_of_ble_eq_true rfl) (Nat.le_of_ble_eq_true rfl) ?_
  exact okI rfl

set_option maxHeartbeats 4000000 in
theorem mX0_membersIn {M : Mem} {ad : Int → Nat} {bo : Int} {mo : Nat} {nb : Int} {st : Int → Int} {b : Int} (hb : BlP M ad bo mo nb st) (q0 : 0 ≤ b) (q1 : b < nb) : Ct KX0_membersIn [.ref (ad bo), vI b] M 0 0 (rtI (st (b + 1) - st b) M) := by
  refine Ct.of _ (by decide) rfl (Nat.le_of_ble_eq_true rfl) ?_
  obtain ⟨hbo, ⟨bf, hba, hbf⟩, hn0, hn1, hst⟩ := id hb
  have hs0 := hst b (by omega) (by omega)
  have hs1 := hst (b + 1) (by omega) (by omega)
  refine r_aload_n dX0_membersIn_0 rfl ?_
  refine r_iload_n dX0_membersIn_1 rfl ?_
  refine r_callV1 okX0_end ⟨by decide, by decide⟩ ml_X0_54 (mX0_end hb (by omega)) (by first | assumption | exact up_s _ _ _ | exact (up_n _ (by assumption)).trans (by assumption) | exact (up_n _ (by assumption)).trans (up_s _ _ _) | exact (up_n _ (by assumption)).trans ((up_n _ (by assumption)).trans (by assumption))) rfl rfl (Nat.le_of_ble_eq_true rfl) (Nat.le_of_ble_eq_true rfl) (Nat.le_of_ble_eq_true rfl) rfl dX0_membersIn_2 (nx_I) (kx_I ?_)
  rw [staF_in (by omega) (by omega)]
  refine r_aload_n dX0_membersIn_5 rfl ?_
  refine r_iload_n dX0_membersIn_6 rfl ?_
  refine r_callV1 okX0_start ⟨by decide, by decide⟩ ml_X0_48 (mX0_start hb (by omega)) (by first | assumption | exact up_s _ _ _ | exact (up_n _ (by assumption)).trans (by assumption) | exact (up_n _ (by assumption)).trans (up_s _ _ _) | exact (up_n _ (by assumption)).trans ((up_n _ (by assumption)).trans (by assumption))) rfl rfl (Nat.le_of_ble_eq_true rfl) (Nat.le_of_ble_eq_true rfl) (Nat.le_of_ble_eq_true rfl) rfl dX0_membersIn_7 (nx_I) (kx_I ?_)
  rw [staF_in (by omega) (by omega)]
  refine r_isub dX0_membersIn_10 ?_
  refine e_ireturn dX0_membersIn_11 rfl (Nat.le_of_ble_eq_true rfl) (Nat.le_of_ble_eq_true rfl) ?_
  exact okI rfl

set_option maxHeartbeats 4000000 in
theorem mX0_greatestIn {M : Mem} {ad : Int → Nat} {bo : Int} {mo : Nat} {nb : Int} {st : Int → Int} {ma N : Nat} {n : Int} {F : Int → Int} {b : Int} (hb : BlP M ad bo mo nb st) (hm : Mb M mo ma N n F) (q0 : 0 ≤ b) (q1 : b < nb) : Ct KX0_greatestIn [.ref (ad bo), vI b] M 0 0 (rtI (atF n F (st (b + 1) - 1)) M) := by
  refine Ct.of _ (by decide) rfl (Nat.le_of_ble_eq_true rfl) ?_
  obtain ⟨hbo, ⟨bf, hba, hbf⟩, hn0, hn1, hst⟩ := id hb
  have hmo := hm.1
  have hmn := hm.n0
  have hs0 := hst b (by omega) (by omega)
  have hs1 := hst (b + 1) (by omega) (by omega)
  refine r_aload_n dX0_greatestIn_0 rfl ?_
  refine r_getfield clX0 2 (by decide) fl_X0_24 (by first | assumption | exact up_s _ _ _ | exact (up_n _ (by assumption)).trans (by assumption) | exact (up_n _ (by assumption)).trans (up_s _ _ _) | exact (up_n _ (by assumption)).trans ((up_n _ (by assumption)).trans (by assumption))) rfl dX0_greatestIn_1 ?_
  refine r_aload_n dX0_greatestIn_4 rfl ?_
  refine r_iload_n dX0_greatestIn_5 rfl ?_
  refine r_callV1 okX0_end ⟨by decide, by decide⟩ ml_X0_54 (mX0_end hb (by omega)) (by first | assumption | exact up_s _ _ _ | exact (up_n _ (by assumption)).trans (by assumption) | exact (up_n _ (by assumption)).trans (up_s _ _ _) | exact (up_n _ (by assumption)).trans ((up_n _ (by assumption)).trans (by assumption))) rfl rfl (Nat.le_of_ble_eq_true rfl) (Nat.le_of_ble_eq_true rfl) (Nat.le_of_ble_eq_true rfl) rfl dX0_greatestIn_6 (nx_I) (kx_I ?_)
  rw [staF_in (by omega) (by omega)]
  refine r_iconst dX0_greatestIn_9 ?_
  refine r_isub dX0_greatestIn_10 ?_
  refine r_callV1 okX5_at ⟨by decide, by decide⟩ ml_X0_51 (mX5_at (by assumption) (by omega)) (by first | assumption | exact up_s _ _ _ | exact (up_n _ (by assumption)).trans (by assumption) | exact (up_n _ (by assumption)).trans (up_s _ _ _) | exact (up_n _ (by assumption)).trans ((up_n _ (by assumption)).trans (by assumption))) rfl rfl (Nat.le_of_ble_eq_true rfl) (Nat.le_of_ble_eq_true rfl) (Nat.le_of_ble_eq_true rfl) rfl dX0_greatestIn_11 (nx_I) (kx_I ?_)
  refine e_ireturn dX0_greatestIn_14 rfl (Nat.le_of_ble_eq_true rfl) (Nat.le_of_ble_eq_true rfl) ?_
  exact okI rfl

set_option maxHeartbeats 4000000 in
theorem mX0_bytesOf {M : Mem} {ad : Int → Nat} {bo : Int} {mo : Nat} {nb : Int} {st : Int → Int} {ma N : Nat} {n : Int} {F : Int → Int} {b : Int} (hb : BlP M ad bo mo nb st) (hm : Mb M mo ma N n F) (q0 : 0 ≤ b) (q1 : b < nb) : Ct KX0_bytesOf [.ref (ad bo), vI b] M 0 0 (rtI (bbyF n F st b) M) := by
  refine Ct.of _ (by decide) rfl (Nat.le_of_ble_eq_true rfl) ?_
  obtain ⟨hbo, ⟨bf, hba, hbf⟩, hn0, hn1, hst⟩ := id hb
  have hmo := hm.1
  have hmn := hm.n0
  have hs0 := hst b (by omega) (by omega)
  have hs1 := hst (b + 1) (by omega) (by omega)
  refine r_iconst dX0_bytesOf_0 ?_
  refine r_istore_n dX0_bytesOf_1 (by decide) rfl ?_
  refine r_aload_n dX0_bytesOf_2 rfl ?_
  refine r_iload_n dX0_bytesOf_3 rfl ?_
  refine r_callV1 okX0_start ⟨by decide, by decide⟩ ml_X0_48 (mX0_start hb (by omega)) (by first | assumption | exact up_s _ _ _ | exact (up_n _ (by assumption)).trans (by assumption) | exact (up_n _ (by assumption)).trans (up_s _ _ _) | exact (up_n _ (by assumption)).trans ((up_n _ (by assumption)).trans (by assumption))) rfl rfl (Nat.le_of_ble_eq_true rfl) (Nat.le_of_ble_eq_true rfl) (Nat.le_of_ble_eq_true rfl) rfl dX0_bytesOf_4 (nx_I) (kx_I ?_)
  rw [staF_in (by omega) (by omega)]
  refine r_iconst dX0_bytesOf_7 ?_
  refine r_iadd dX0_bytesOf_8 ?_
  refine r_istore_n dX0_bytesOf_9 (by decide) rfl ?_
  refine J.loc (L' := [(0, some _), (1, some _), (2, some _), (3, some _)]) (lsub_cons rfl (lsub_cons rfl (lsub_cons rfl (lsub_cons rfl (lsub_nil))))) (loop2 (fun (p : Int) (y : Int) => st b + 1 ≤ p ∧ (p ≤ st (b + 1) ∨ p = st b + 1) ∧ 0 ≤ y ∧ y ≤ 3 + 2 * p ∧ bbyF n F st b = y + smF (fun p => gby (gapF n F p)) (st (b + 1) - p).toNat p) (fun (p : Int) (y : Int) => (st (b + 1) - p).toNat) (fun (p : Int) (y : Int) => J KX0_bytesOf 0 0 _ 10 [(0, some (.ref (ad bo))), (1, some (vI b)), (2, some (vI y)), (3, some (vI p))] [] M _ _) (fun p y hI10 ih10 => ?_) _ _ ?_)
  ·
    obtain ⟨hp0, hp1, hy0, hy1, hy2⟩ := hI10
    refine r_iload_n dX0_bytesOf_10 rfl ?_
    refine r_aload_n dX0_bytesOf_11 rfl ?_
    refine r_iload_n dX0_bytesOf_12 rfl ?_
    refine r_callV1 okX0_end ⟨by decide, by decide⟩ ml_X0_54 (mX0_end hb (by omega)) (by first | assumption | exact up_s _ _ _ | exact (up_n _ (by assumption)).trans (by assumption) | exact (up_n _ (by assumption)).trans (up_s _ _ _) | exact (up_n _ (by assumption)).trans ((up_n _ (by assumption)).trans (by assumption))) rfl rfl (Nat.le_of_ble_eq_true rfl) (Nat.le_of_ble_eq_true rfl) (Nat.le_of_ble_eq_true rfl) rfl dX0_bytesOf_13 (nx_I) (kx_I ?_)
    rw [staF_in (by omega) (by omega)]
    refine r_icmp_ge (tgt := 39) dX0_bytesOf_16 (by decide) (by omega) (by omega) (fun h16 => ?_) (fun h16 => ?_)
    ·
      refine r_iload_n dX0_bytesOf_39 rfl ?_
      refine e_ireturn dX0_bytesOf_40 rfl (Nat.le_of_ble_eq_true rfl) (Nat.le_of_ble_eq_true rfl) ?_
      exact okI (by rw [hy2, show (st (b + 1) - p).toNat = 0 by omega, smF]; omega)
    ·
      refine r_iload_n dX0_bytesOf_19 rfl ?_
      refine r_aload_n dX0_bytesOf_20 rfl ?_
      refine r_getfield clX0 2 (by decide) fl_X0_24 (by first | assumption | exact up_s _ _ _ | exact (up_n _ (by assumption)).trans (by assumption) | exact (up_n _ (by assumption)).trans (up_s _ _ _) | exact (up_n _ (by assumption)).trans ((up_n _ (by assumption)).trans (by assumption))) rfl dX0_bytesOf_21 ?_
      refine r_iload_n dX0_bytesOf_24 rfl ?_
      refine r_callV1 okX5_gapAhead ⟨by decide, by decide⟩ ml_X0_57 (mX5_gapAhead hm (by omega)) (by first | assumption | exact up_s _ _ _ | exact (up_n _ (by assumption)).trans (by assumption) | exact (up_n _ (by assumption)).trans (up_s _ _ _) | exact (up_n _ (by assumption)).trans ((up_n _ (by assumption)).trans (by assumption))) rfl rfl (Nat.le_of_ble_eq_true rfl) (Nat.le_of_ble_eq_true rfl) (Nat.le_of_ble_eq_true rfl) rfl dX0_bytesOf_25 (nx_I) (kx_I ?_)
      have hg := hm.gap p
      have hgb := gby_r (gapF n F p)
      refine r_callN1 okX8_gapBytes ⟨by decide, by decide⟩ nl_X0_60 (mX8_gapBytes (by omega)) (Nat.le_of_ble_eq_true rfl) (Nat.le_of_ble_eq_true rfl) (Nat.le_of_ble_eq_true rfl) (nn_I) dX0_bytesOf_28 (kx_I ?_)
      refine r_iadd dX0_bytesOf_31 ?_
      refine r_istore_n dX0_bytesOf_32 (by decide) rfl ?_
      refine r_iinc dX0_bytesOf_33 rfl rfl ?_
      refine r_goto (tgt := 10) dX0_bytesOf_36 (by decide) ?_
      refine J.loc (lsub_cons rfl (lsub_cons rfl (lsub_cons rfl (lsub_cons rfl (lsub_nil))))) (ih10 _ _ ?_ ?_)
      · refine ⟨by omega, by omega, by omega, by omega, ?_⟩
        rw [hy2, show (st (b + 1) - p).toNat = (st (b + 1) - (p + 1)).toNat + 1 by omega, smF]
        omega
      · omega
  · exact ⟨by omega, by omega, by omega, by omega, rfl⟩

set_option maxHeartbeats 4000000 in
theorem mX0_greatestGapIn {M : Mem} {ad : Int → Nat} {bo : Int} {mo : Nat} {nb : Int} {st : Int → Int} {ma N : Nat} {n : Int} {F : Int → Int} {b : Int} (hb : BlP M ad bo mo nb st) (hm : Mb M mo ma N n F) (q0 : 0 ≤ b) (q1 : b < nb) : Ct KX0_greatestGapIn [.ref (ad bo), vI b] M 0 0 (rtI (bgpF n F st b) M) := by
  refine Ct.of _ (by decide) rfl (Nat.le_of_ble_eq_true rfl) ?_
  obtain ⟨hbo, ⟨bf, hba, hbf⟩, hn0, hn1, hst⟩ := id hb
  have hmo := hm.1
  have hmn := hm.n0
  have hs0 := hst b (by omega) (by omega)
  have hs1 := hst (b + 1) (by omega) (by omega)
  refine r_iconst dX0_greatestGapIn_0 ?_
  refine r_istore_n dX0_greatestGapIn_1 (by decide) rfl ?_
  refine r_aload_n dX0_greatestGapIn_2 rfl ?_
  refine r_iload_n dX0_greatestGapIn_3 rfl ?_
  refine r_callV1 okX0_start ⟨by decide, by decide⟩ ml_X0_48 (mX0_start hb (by omega)) (by first | assumption | exact up_s _ _ _ | exact (up_n _ (by assumption)).trans (by assumption) | exact (up_n _ (by assumption)).trans (up_s _ _ _) | exact (up_n _ (by assumption)).trans ((up_n _ (by assumption)).trans (by assumption))) rfl rfl (Nat.le_of_ble_eq_true rfl) (Nat.le_of_ble_eq_true rfl) (Nat.le_of_ble_eq_true rfl) rfl dX0_greatestGapIn_4 (nx_I) (kx_I ?_)
  rw [staF_in (by omega) (by omega)]
  refine r_iconst dX0_greatestGapIn_7 ?_
  refine r_iadd dX0_greatestGapIn_8 ?_
  refine r_istore_n dX0_greatestGapIn_9 (by decide) rfl ?_
  refine J.loc (L' := [(0, some _), (1, some _), (2, some _), (3, some _)]) (lsub_cons rfl (lsub_cons rfl (lsub_cons rfl (lsub_cons rfl (lsub_nil))))) (loop2 (fun (p : Int) (y : Int) => st b + 1 ≤ p ∧ (p ≤ st (b + 1) ∨ p = st b + 1) ∧ 0 ≤ y ∧ y ≤ 9999 ∧ bgpF n F st b = mxF (gapF n F) (st (b + 1) - p).toNat p y) (fun (p : Int) (y : Int) => (st (b + 1) - p).toNat) (fun (p : Int) (y : Int) => J KX0_greatestGapIn 0 0 _ 10 [(0, some (.ref (ad bo))), (1, some (vI b)), (2, some (vI y)), (3, some (vI p))] [] M _ _) (fun p y hI10 ih10 => ?_) _ _ ?_)
  ·
    obtain ⟨hp0, hp1, hy0, hy1, hy2⟩ := hI10
    refine r_iload_n dX0_greatestGapIn_10 rfl ?_
    refine r_aload_n dX0_greatestGapIn_11 rfl ?_
    refine r_iload_n dX0_greatestGapIn_12 rfl ?_
    refine r_callV1 okX0_end ⟨by decide, by decide⟩ ml_X0_54 (mX0_end hb (by omega)) (by first | assumption | exact up_s _ _ _ | exact (up_n _ (by assumption)).trans (by assumption) | exact (up_n _ (by assumption)).trans (up_s _ _ _) | exact (up_n _ (by assumption)).trans ((up_n _ (by assumption)).trans (by assumption))) rfl rfl (Nat.le_of_ble_eq_true rfl) (Nat.le_of_ble_eq_true rfl) (Nat.le_of_ble_eq_true rfl) rfl dX0_greatestGapIn_13 (nx_I) (kx_I ?_)
    rw [staF_in (by omega) (by omega)]
    refine r_icmp_ge (tgt := 38) dX0_greatestGapIn_16 (by decide) (by omega) (by omega) (fun h16 => ?_) (fun h16 => ?_)
    ·
      refine r_iload_n dX0_greatestGapIn_38 rfl ?_
      refine e_ireturn dX0_greatestGapIn_39 rfl (Nat.le_of_ble_eq_true rfl) (Nat.le_of_ble_eq_true rfl) ?_
      exact okI (by rw [hy2, show (st (b + 1) - p).toNat = 0 by omega, mxF])
    ·
      refine r_iload_n dX0_greatestGapIn_19 rfl ?_
      refine r_aload_n dX0_greatestGapIn_20 rfl ?_
      refine r_getfield clX0 2 (by decide) fl_X0_24 (by first | assumption | exact up_s _ _ _ | exact (up_n _ (by assumption)).trans (by assumption) | exact (up_n _ (by assumption)).trans (up_s _ _ _) | exact (up_n _ (by assumption)).trans ((up_n _ (by assumption)).trans (by assumption))) rfl dX0_greatestGapIn_21 ?_
      refine r_iload_n dX0_greatestGapIn_24 rfl ?_
      refine r_callV1 okX5_gapAhead ⟨by decide, by decide⟩ ml_X0_57 (mX5_gapAhead hm (by omega)) (by first | assumption | exact up_s _ _ _ | exact (up_n _ (by assumption)).trans (by assumption) | exact (up_n _ (by assumption)).trans (up_s _ _ _) | exact (up_n _ (by assumption)).trans ((up_n _ (by assumption)).trans (by assumption))) rfl rfl (Nat.le_of_ble_eq_true rfl) (Nat.le_of_ble_eq_true rfl) (Nat.le_of_ble_eq_true rfl) rfl dX0_greatestGapIn_25 (nx_I) (kx_I ?_)
      have hg := hm.gap p
      refine r_max ml_X0_63 (by decide) (Nat.le_of_ble_eq_true rfl) (Nat.le_of_ble_eq_true rfl) (Nat.le_of_ble_eq_true rfl) (by omega) (by omega) dX0_greatestGapIn_28 ?_
      refine r_istore_n dX0_greatestGapIn_31 (by decide) rfl ?_
      refine r_iinc dX0_greatestGapIn_32 rfl rfl ?_
      refine r_goto (tgt := 10) dX0_greatestGapIn_35 (by decide) ?_
      refine J.loc (lsub_cons rfl (lsub_cons rfl (lsub_cons rfl (lsub_cons rfl (lsub_nil))))) (ih10 _ _ ?_ ?_)
      · refine ⟨by omega, by omega, by (split <;> omega), by (split <;> omega), ?_⟩
        rw [hy2, show (st (b + 1) - p).toNat = (st (b + 1) - (p + 1)).toNat + 1 by omega, mxF]
      · omega
  · exact ⟨by omega, by omega, by omega, by omega, rfl⟩

set_option maxHeartbeats 4000000 in
theorem mX0_wideGaps {M : Mem} {ad : Int → Nat} {bo : Int} {mo : Nat} {nb : Int} {st : Int → Int} {ma N : Nat} {n : Int} {F : Int → Int} (hb : BlP M ad bo mo nb st) (hm : Mb M mo ma N n F) : Ct KX0_wideGaps [.ref (ad bo)] M 0 0 (rtI (smF (widF n F st) nb.toNat 0) M) := by
  refine Ct.of _ (by decide) rfl (Nat.le_of_ble_eq_true rfl) ?_
  obtain ⟨hbo, ⟨bf, hba, hbf⟩, hn0, hn1, hst⟩ := id hb
  have hmo := hm.1
  have hmn := hm.n0
  refine r_iconst dX0_wideGaps_0 ?_
  refine r_istore_n dX0_wideGaps_1 (by decide) rfl ?_
  refine r_iconst dX0_wideGaps_2 ?_
  refine r_istore_n dX0_wideGaps_3 (by decide) rfl ?_
  refine J.loc (L' := [(0, some _), (1, some _), (2, some _)]) (lsub_cons rfl (lsub_cons rfl (lsub_cons rfl (lsub_nil)))) (loop2 (fun (b : Int) (y : Int) => 0 ≤ b ∧ b ≤ nb ∧ 0 ≤ y ∧ y ≤ 60 * b ∧ smF (widF n F st) nb.toNat 0 = y + smF (widF n F st) (nb - b).toNat b) (fun (b : Int) (y : Int) => (nb - b).toNat) (fun (b : Int) (y : Int) => J KX0_wideGaps 0 0 _ 4 [(0, some (.ref (ad bo))), (1, some (vI y)), (2, some (vI b))] [] M _ _) (fun b y hI4 ih4 => ?_) _ _ ?_)
  ·
    obtain ⟨hb0, hb1, hy0, hy1, hy2⟩ := hI4
    refine r_iload_n dX0_wideGaps_4 rfl ?_
    refine r_aload_n dX0_wideGaps_5 rfl ?_
    refine r_getfield clX0 1 (by decide) fl_X0_15 (by first | assumption | exact up_s _ _ _ | exact (up_n _ (by assumption)).trans (by assumption) | exact (up_n _ (by assumption)).trans (up_s _ _ _) | exact (up_n _ (by assumption)).trans ((up_n _ (by assumption)).trans (by assumption))) rfl dX0_wideGaps_6 ?_
    refine r_icmp_ge (tgt := 63) dX0_wideGaps_9 (by decide) (by omega) (by omega) (fun h9 => ?_) (fun h9 => ?_)
    ·
      refine r_iload_n dX0_wideGaps_63 rfl ?_
      refine e_ireturn dX0_wideGaps_64 rfl (Nat.le_of_ble_eq_true rfl) (Nat.le_of_ble_eq_true rfl) ?_
      exact okI (by rw [hy2, show (nb - b).toNat = 0 by omega, smF]; omega)
    ·
      have hs0 := hst b (by omega) (by omega)
      have hs1 := hst (b + 1) (by omega) (by omega)
      have hwd := smF_r (f := fun p => if gapF n F p < 128 then 0 else 1) (lo := 0) (hi := 1) (st (b + 1) - (st b + 1)).toNat (st b + 1) (fun j _ _ => by split <;> omega)
      refine r_aload_n dX0_wideGaps_12 rfl ?_
      refine r_iload_n dX0_wideGaps_13 rfl ?_
      refine r_callV1 okX0_start ⟨by decide, by decide⟩ ml_X0_48 (mX0_start hb (by omega)) (by first | assumption | exact up_s _ _ _ | exact (up_n _ (by assumption)).trans (by assumption) | exact (up_n _ (by assumption)).trans (up_s _ _ _) | exact (up_n _ (by assumption)).trans ((up_n _ (by assumption)).trans (by assumption))) rfl rfl (Nat.le_of_ble_eq_true rfl) (Nat.le_of_ble_eq_true rfl) (Nat.le_of_ble_eq_true rfl) rfl dX0_wideGaps_14 (nx_I) (kx_I ?_)
      rw [staF_in (by omega) (by omega)]
      refine r_iconst dX0_wideGaps_17 ?_
      refine r_iadd dX0_wideGaps_18 ?_
      refine r_istore_n dX0_wideGaps_19 (by decide) rfl ?_
      refine J.loc (L' := [(0, some _), (1, some _), (2, some _), (3, some _)]) (lsub_cons rfl (lsub_cons rfl (lsub_cons rfl (lsub_cons rfl (lsub_nil))))) (loop2 (fun (p : Int) (z : Int) => st b + 1 ≤ p ∧ (p ≤ st (b + 1) ∨ p = st b + 1) ∧ y ≤ z ∧ z ≤ y + p - (st b + 1) ∧ y + widF n F st b = z + smF (fun p => if gapF n F p < 128 then 0 else 1) (st (b + 1) - p).toNat p) (fun (p : Int) (z : Int) => (st (b + 1) - p).toNat) (fun (p : Int) (z : Int) => J KX0_wideGaps 0 0 _ 20 [(0, some (.ref (ad bo))), (1, some (vI z)), (2, some (vI b)), (3, some (vI p))] [] M _ _) (fun p z hI20 ih20 => ?_) _ _ ?_)
      ·
        obtain ⟨hp0, hp1, hz0, hz1, hz2⟩ := hI20
        refine r_iload_n dX0_wideGaps_20 rfl ?_
        refine r_aload_n dX0_wideGaps_21 rfl ?_
        refine r_iload_n dX0_wideGaps_22 rfl ?_
        refine r_callV1 okX0_end ⟨by decide, by decide⟩ ml_X0_54 (mX0_end hb (by omega)) (by first | assumption | exact up_s _ _ _ | exact (up_n _ (by assumption)).trans (by assumption) | exact (up_n _ (by assumption)).trans (up_s _ _ _) | exact (up_n _ (by assumption)).trans ((up_n _ (by assumption)).trans (by assumption))) rfl rfl (Nat.le_of_ble_eq_true rfl) (Nat.le_of_ble_eq_true rfl) (Nat.le_of_ble_eq_true rfl) rfl dX0_wideGaps_23 (nx_I) (kx_I ?_)
        rw [staF_in (by omega) (by omega)]
        refine r_icmp_ge (tgt := 57) dX0_wideGaps_26 (by decide) (by omega) (by omega) (fun h26 => ?_) (fun h26 => ?_)
        ·
          refine r_iinc dX0_wideGaps_57 rfl rfl ?_
          refine r_goto (tgt := 4) dX0_wideGaps_60 (by decide) ?_
          refine J.loc (lsub_cons rfl (lsub_cons rfl (lsub_cons rfl (lsub_nil)))) (ih4 _ _ ?_ ?_)
          · refine ⟨by omega, by omega, by omega, by omega, ?_⟩
            rw [hy2, show (nb - b).toNat = (nb - (b + 1)).toNat + 1 by omega, smF]
            rw [show (st (b + 1) - p).toNat = 0 by omega, smF] at hz2
            omega
          · omega
        ·
          refine r_iload_n dX0_wideGaps_29 rfl ?_
          refine r_aload_n dX0_wideGaps_30 rfl ?_
          refine r_getfield clX0 2 (by decide) fl_X0_24 (by first | assumption | exact up_s _ _ _ | exact (up_n _ (by assumption)).trans (by assumption) | exact (up_n _ (by assumption)).trans (up_s _ _ _) | exact (up_n _ (by assumption)).trans ((up_n _ (by assumption)).trans (by assumption))) rfl dX0_wideGaps_31 ?_
          refine r_iload_n dX0_wideGaps_34 rfl ?_
          refine r_callV1 okX5_gapAhead ⟨by decide, by decide⟩ ml_X0_57 (mX5_gapAhead hm (by omega)) (by first | assumption | exact up_s _ _ _ | exact (up_n _ (by assumption)).trans (by assumption) | exact (up_n _ (by assumption)).trans (up_s _ _ _) | exact (up_n _ (by assumption)).trans ((up_n _ (by assumption)).trans (by assumption))) rfl rfl (Nat.le_of_ble_eq_true rfl) (Nat.le_of_ble_eq_true rfl) (Nat.le_of_ble_eq_true rfl) rfl dX0_wideGaps_35 (nx_I) (kx_I ?_)
          have hg := hm.gap p
          refine r_sipush dX0_wideGaps_38 (by decide) ?_
          refine r_icmp_lt (tgt := 48) dX0_wideGaps_41 (by decide) (by omega) (by omega) (fun h41 => ?_) (fun h41 => ?_)
          ·
            refine r_iconst dX0_wideGaps_48 ?_
            refine r_iadd dX0_wideGaps_49 ?_
            refine r_istore_n dX0_wideGaps_50 (by decide) rfl ?_
            refine r_iinc dX0_wideGaps_51 rfl rfl ?_
            refine r_goto (tgt := 20) dX0_wideGaps_54 (by decide) ?_
            refine J.loc (lsub_cons rfl (lsub_cons rfl (lsub_cons rfl (lsub_cons rfl (lsub_nil))))) (ih20 _ _ ?_ ?_)
            · refine ⟨by omega, by omega, by omega, by omega, ?_⟩
              rw [hz2, show (st (b + 1) - p).toNat = (st (b + 1) - (p + 1)).toNat + 1 by omega, smF, if_pos (by omega)]
              omega
            · omega
          ·
            refine r_iconst dX0_wideGaps_44 ?_
            refine r_goto (tgt := 49) dX0_wideGaps_45 (by decide) ?_
            refine r_iadd dX0_wideGaps_49 ?_
            refine r_istore_n dX0_wideGaps_50 (by decide) rfl ?_
            refine r_iinc dX0_wideGaps_51 rfl rfl ?_
            refine r_goto (tgt := 20) dX0_wideGaps_54 (by decide) ?_
            refine J.loc (lsub_cons rfl (lsub_cons rfl (lsub_cons rfl (lsub_cons rfl (lsub_nil))))) (ih20 _ _ ?_ ?_)
            · refine ⟨by omega, by omega, by omega, by omega, ?_⟩
              rw [hz2, show (st (b + 1) - p).toNat = (st (b + 1) - (p + 1)).toNat + 1 by omega, smF, if_neg (by omega)]
              omega
            · omega
      · exact ⟨by omega, by omega, by omega, by omega, rfl⟩
  · exact ⟨by omega, by omega, by omega, by omega, by simp⟩

set_option maxHeartbeats 4000000 in
theorem mX0_blockAt {M : Mem} {ad : Int → Nat} {bo : Int} {mo : Nat} {nb : Int} {st : Int → Int} {p : Int} (hb : BlP M ad bo mo nb st) (q0 : R32 p) : Ct KX0_blockAt [.ref (ad bo), vI p] M 0 0 (rtI (batF nb st p) M) := by
  refine Ct.of _ (by decide) rfl (Nat.le_of_ble_eq_true rfl) ?_
  obtain ⟨hbo, ⟨bf, hba, hbf⟩, hn0, hn1, hst⟩ := id hb
  refine r_iconst dX0_blockAt_0 ?_
  refine r_istore_n dX0_blockAt_1 (by decide) rfl ?_
  refine r_iconst dX0_blockAt_2 ?_
  refine r_istore_n dX0_blockAt_3 (by decide) rfl ?_
  refine J.loc (L' := [(0, some _), (1, some _), (2, some _), (3, some _)]) (lsub_cons rfl (lsub_cons rfl (lsub_cons rfl (lsub_cons rfl lsub_nil)))) (loop1 (fun (b : Int) => 1 ≤ b ∧ (b ≤ nb ∨ b = 1) ∧ batF nb st p = ff (fun b => decide (p < st b)) (nb - b).toNat b - 1) (fun (b : Int) => (nb - b).toNat) (fun (b : Int) => J KX0_blockAt 0 0 _ 4 [(0, some (.ref (ad bo))), (1, some (vI p)), (2, some (vI (b - 1))), (3, some (vI b))] [] M _ _) (fun b hI4 ih4 => ?_) 1 ?_)
  ·
    obtain ⟨hb0, hb1, hb2⟩ := hI4
    refine r_iload_n dX0_blockAt_4 rfl ?_
    refine r_aload_n dX0_blockAt_5 rfl ?_
    refine r_getfield clX0 1 (by decide) fl_X0_15 (by first | assumption | exact up_s _ _ _ | exact (up_n _ (by assumption)).trans (by assumption) | exact (up_n _ (by assumption)).trans (up_s _ _ _) | exact (up_n _ (by assumption)).trans ((up_n _ (by assumption)).trans (by assumption))) rfl dX0_blockAt_6 ?_
    refine r_icmp_ge (tgt := 29) dX0_blockAt_9 (by decide) (by omega) (by omega) (fun h9 => ?_) (fun h9 => ?_)
    ·
      refine r_iload_n dX0_blockAt_29 rfl ?_
      refine e_ireturn dX0_blockAt_30 rfl (Nat.le_of_ble_eq_true rfl) (Nat.le_of_ble_eq_true rfl) ?_
      first | exact okI (by rw [hb2, show (nb - b).toNat = 0 by omega, ff]) | exact okI (by rw [hb2, show (nb - b).toNat = (nb - (b + 1)).toNat + 1 by omega, ff, if_pos (by simp; omega)])
    ·
      refine r_aload_n dX0_blockAt_12 rfl ?_
      refine r_iload_n dX0_blockAt_13 rfl ?_
      refine r_callV1 okX0_start ⟨by decide, by decide⟩ ml_X0_48 (mX0_start hb (by omega)) (by first | assumption | exact up_s _ _ _ | exact (up_n _ (by assumption)).trans (by assumption) | exact (up_n _ (by assumption)).trans (up_s _ _ _) | exact (up_n _ (by assumption)).trans ((up_n _ (by assumption)).trans (by assumption))) rfl rfl (Nat.le_of_ble_eq_true rfl) (Nat.le_of_ble_eq_true rfl) (Nat.le_of_ble_eq_true rfl) rfl dX0_blockAt_14 (nx_I) (kx_I ?_)
      rw [staF_in (by omega) (by omega)]
      have hsb := hst b (by omega) (by omega)
      refine r_iload_n dX0_blockAt_17 rfl ?_
      refine r_icmp_gt (tgt := 29) dX0_blockAt_18 (by decide) (by omega) (by omega) (fun h18 => ?_) (fun h18 => ?_)
      ·
        refine r_iload_n dX0_blockAt_29 rfl ?_
        refine e_ireturn dX0_blockAt_30 rfl (Nat.le_of_ble_eq_true rfl) (Nat.le_of_ble_eq_true rfl) ?_
        first | exact okI (by rw [hb2, show (nb - b).toNat = 0 by omega, ff]) | exact okI (by rw [hb2, show (nb - b).toNat = (nb - (b + 1)).toNat + 1 by omega, ff, if_pos (by simp; omega)])
      ·
        refine r_iload_n dX0_blockAt_21 rfl ?_
        refine r_istore_n dX0_blockAt_22 (by decide) rfl ?_
        refine r_iinc dX0_blockAt_23 rfl rfl ?_
        refine r_goto (tgt := 4) dX0_blockAt_26 (by decide) ?_
        refine J.loc (lsub_cons rfl (lsub_cons rfl (lsub_cons (by rw [show b + 1 - 1 = b by omega]; rfl) (lsub_cons rfl lsub_nil)))) (ih4 (b + 1) ?_ ?_)
        · refine ⟨by omega, by omega, ?_⟩
          rw [hb2, show (nb - b).toNat = (nb - (b + 1)).toNat + 1 by omega, ff, if_neg (by simp; omega)]
        · omega
  · exact ⟨by omega, by omega, rfl⟩

set_option maxHeartbeats 4000000 in
theorem mX0_putStart {M : Mem} {ad : Int → Nat} {bo b p am : Int} {v : Value} {f : Int → Int} (ho : M (ad bo) = some (oC 0 [.ref (ad (bo + 1)), vI am, v])) (ha : M (ad (bo + 1)) = some (aI 61 f)) (q0 : 0 ≤ b) (q1 : b < 61) : Ct KX0_putStart [.ref (ad bo), vI b, vI p] M 0 0 (rtV (up M (ad (bo + 1)) (aI 61 (uI f b p)))) := by
  refine Ct.of _ (by decide) rfl (Nat.le_of_ble_eq_true rfl) ?_
  refine r_iload_n dX0_putStart_0 rfl ?_
  refine r_if_lt (tgt := 20) dX0_putStart_1 (by decide) (by omega) (fun h1 => ?_) (fun h1 => ?_)
  · omega
  ·
    refine r_iload_n dX0_putStart_4 rfl ?_
    refine r_aload_n dX0_putStart_5 rfl ?_
    refine r_getfield clX0 0 (by decide) fl_X0_9 (by first | assumption | exact up_s _ _ _ | exact (up_n _ (by assumption)).trans (by assumption) | exact (up_n _ (by assumption)).trans (up_s _ _ _) | exact (up_n _ (by assumption)).trans ((up_n _ (by assumption)).trans (by assumption))) rfl dX0_putStart_6 ?_
    refine r_alenI (by first | assumption | exact up_s _ _ _ | exact (up_n _ (by assumption)).trans (by assumption) | exact (up_n _ (by assumption)).trans (up_s _ _ _) | exact (up_n _ (by assumption)).trans ((up_n _ (by assumption)).trans (by assumption))) dX0_putStart_9 ?_
    refine r_icmp_ge (tgt := 20) dX0_putStart_10 (by decide) (by omega) (by omega) (fun h10 => ?_) (fun h10 => ?_)
    · omega
    ·
      refine r_aload_n dX0_putStart_13 rfl ?_
      refine r_getfield clX0 0 (by decide) fl_X0_9 (by first | assumption | exact up_s _ _ _ | exact (up_n _ (by assumption)).trans (by assumption) | exact (up_n _ (by assumption)).trans (up_s _ _ _) | exact (up_n _ (by assumption)).trans ((up_n _ (by assumption)).trans (by assumption))) rfl dX0_putStart_14 ?_
      refine r_iload_n dX0_putStart_17 rfl ?_
      refine r_iload_n dX0_putStart_18 rfl ?_
      refine r_iastore (by first | assumption | exact up_s _ _ _ | exact (up_n _ (by assumption)).trans (by assumption) | exact (up_n _ (by assumption)).trans (up_s _ _ _) | exact (up_n _ (by assumption)).trans ((up_n _ (by assumption)).trans (by assumption))) (by omega) (by omega) (by omega) dX0_putStart_19 ?_
      refine e_return dX0_putStart_20 rfl (Nat.le_of_ble_eq_true rfl) (Nat.le_of_ble_eq_true rfl) ?_
      exact okVv

set_option maxHeartbeats 4000000 in
theorem mX0_cut {M : Mem} {ad : Int → Nat} {n : Int → Int} {F : Int → Int → Int} {g : Int → Int} {bo k : Int} (hw : BlW M ad bo) (hst : StP M ad 1 n F g) (hi : Inj ad) (hbo : 94 ≤ bo ∧ bo + 2 ≤ 112) (q0 : 0 ≤ k) (q1 : k < 4) (hg0 : 2 ≤ g 0 ∧ g 0 ≤ 16) (hg1 : 1 ≤ g 1 ∧ g 1 ≤ 9999) : Ct KX0_cut [.ref (ad bo), .ref (ad 1), vI k] M 0 0 (atI (nbF (n k) (F k) (g 0) (g 1)) (fun M2 => BlP M2 ad bo (ad (1 + 2 + k)) (nbF (n k) (F k) (g 0) (g 1)) (stF (n k) (F k) (g 0) (g 1)) ∧ FrI ad bo (bo + 2) M M2)) := by
  refine Ct.of _ (by decide) rfl (Nat.le_of_ble_eq_true rfl) ?_
  obtain ⟨v0, am, f0, ho, ha⟩ := id hw
  have hm := hst.mb q0 q1
  have hmn := hm.n0
  have hm60 : n k ≤ 60 := hm.2.2.2.1
  have hso := hst.1
  have hne := hi.ne (i := bo) (j := bo + 1) ⟨by omega, by omega⟩ ⟨by omega, by omega⟩ (by omega)
  have hen := hne.symm
  have hsp := blk_spec hm.2.2.1 (F k) (g 0) (g 1)
  refine r_aload_n dX0_cut_0 rfl ?_
  refine r_aload_n dX0_cut_1 rfl ?_
  refine r_iload_n dX0_cut_2 rfl ?_
  refine r_callV1 okX7_members ⟨by decide, by decide⟩ ml_X0_28 (mX7_members hst q0 q1) (by first | assumption | exact up_s _ _ _ | exact (up_n _ (by assumption)).trans (by assumption) | exact (up_n _ (by assumption)).trans (up_s _ _ _) | exact (up_n _ (by assumption)).trans ((up_n _ (by assumption)).trans (by assumption))) rfl rfl (Nat.le_of_ble_eq_true rfl) (Nat.le_of_ble_eq_true rfl) (Nat.le_of_ble_eq_true rfl) rfl dX0_cut_3 (nx_A) (kx_A ?_)
  refine r_putfield clX0 2 (by decide) fl_X0_24 rfl (by first | assumption | exact up_s _ _ _ | exact (up_n _ (by assumption)).trans (by assumption) | exact (up_n _ (by assumption)).trans (up_s _ _ _) | exact (up_n _ (by assumption)).trans ((up_n _ (by assumption)).trans (by assumption))) rfl rfl (Nat.le_of_ble_eq_true rfl) dX0_cut_6 ?_
  have hs1 : StP (up M (ad bo) (oC 0 ([.ref (ad (bo + 1)), vI am, v0].set 2 (.ref (ad (1 + 2 + k)))))) ad 1 n F g := hst.frame (fun i a b => up_n _ (hi.ne ⟨by omega, by omega⟩ ⟨by omega, by omega⟩ (by omega)))
  have hso1 := hs1.1
  refine r_aload_n dX0_cut_9 rfl ?_
  refine r_iconst dX0_cut_10 ?_
  refine r_callV1 okX7_valueOf ⟨by decide, by decide⟩ ml_X0_33 (mX7_valueOf hs1 (by omega)) (by first | assumption | exact up_s _ _ _ | exact (up_n _ (by assumption)).trans (by assumption) | exact (up_n _ (by assumption)).trans (up_s _ _ _) | exact (up_n _ (by assumption)).trans ((up_n _ (by assumption)).trans (by assumption))) rfl rfl (Nat.le_of_ble_eq_true rfl) (Nat.le_of_ble_eq_true rfl) (Nat.le_of_ble_eq_true rfl) rfl dX0_cut_11 (nx_I) (kx_I ?_)
  rw [show valG g 0 = g 0 from rfl]
  refine r_istore_n dX0_cut_14 (by decide) rfl ?_
  refine r_aload_n dX0_cut_15 rfl ?_
  refine r_iconst dX0_cut_16 ?_
  refine r_callV1 okX7_valueOf ⟨by decide, by decide⟩ ml_X0_33 (mX7_valueOf hs1 (by omega)) (by first | assumption | exact up_s _ _ _ | exact (up_n _ (by assumption)).trans (by assumption) | exact (up_n _ (by assumption)).trans (up_s _ _ _) | exact (up_n _ (by assumption)).trans ((up_n _ (by assumption)).trans (by assumption))) rfl rfl (Nat.le_of_ble_eq_true rfl) (Nat.le_of_ble_eq_true rfl) (Nat.le_of_ble_eq_true rfl) rfl dX0_cut_17 (nx_I) (kx_I ?_)
  rw [show valG g 1 = g 1 from rfl]
  refine r_istore dX0_cut_20 (by decide) rfl ?_
  refine r_iconst dX0_cut_22 ?_
  refine r_istore dX0_cut_23 (by decide) rfl ?_
  refine r_iconst dX0_cut_25 ?_
  refine r_istore dX0_cut_26 (by decide) rfl ?_
  refine r_iconst dX0_cut_28 ?_
  refine r_istore dX0_cut_29 (by decide) rfl ?_
  refine J.loc (L' := [(0, some _), (1, some _), (2, some _), (3, some _), (4, some _), (5, some _), (6, some _), (7, some _)]) (lsub_cons rfl (lsub_cons rfl (lsub_cons rfl (lsub_cons rfl (lsub_cons rfl (lsub_cons rfl (lsub_cons rfl (lsub_cons rfl (lsub_nil))))))))) (loop5 (fun (p : Int) (c : Int) (fd : Int) (M1 : Mem) (G : Int → Int) => 0 ≤ p ∧ p ≤ n k ∧ 0 ≤ c ∧ c ≤ p ∧ Laid p fd G ∧ M1 (ad bo) = some (oC 0 [.ref (ad (bo + 1)), vI am, .ref (ad (1 + 2 + k))]) ∧ FrI ad bo (bo + 2) M M1 ∧ ctF (n k) (F k) (g 0) (g 1) (n k).toNat 0 0 0 (fun _ => 0) = ctF (n k) (F k) (g 0) (g 1) (n k - p).toNat p c fd G ∧ ∃ f : Int → Int, M1 (ad (bo + 1)) = some (aI 61 f) ∧ ∀ j, 0 ≤ j → j < fd → f j = G j) (fun (p : Int) (c : Int) (fd : Int) (M1 : Mem) (G : Int → Int) => (n k - p).toNat) (fun (p : Int) (c : Int) (fd : Int) (M1 : Mem) (G : Int → Int) => J KX0_cut 0 0 _ 31 [(0, some (.ref (ad bo))), (1, some (.ref (ad 1))), (2, some (vI k)), (3, some (vI (g 0))), (4, some (vI (g 1))), (5, some (vI fd)), (6, some (vI c)), (7, some (vI p))] [] M1 _ _) (fun p c fd M1 G hI31 ih31 => ?_) _ _ _ _ (fun _ => 0) ?_)
  ·
    obtain ⟨hp0, hp1, hc0, hc1, hld, ho1, hfr, hct, f1, ha1, hf1⟩ := hI31
    have hm2 : Mb M1 (ad (1 + 2 + k)) (ad (1 + 6 + k)) 60 (n k) (F k) := hm.frame (hfr.at hi ⟨by omega, by omega⟩ ⟨by omega, by omega⟩ (by omega)) (hfr.at hi ⟨by omega, by omega⟩ ⟨by omega, by omega⟩ (by omega))
    obtain ⟨hl1, hl2, hl3, hl4, hl5, hl6⟩ := id hld
    refine r_iload dX0_cut_31 rfl ?_
    refine r_aload_n dX0_cut_33 rfl ?_
    refine r_getfield clX0 2 (by decide) fl_X0_24 (by first | assumption | exact up_s _ _ _ | exact (up_n _ (by assumption)).trans (by assumption) | exact (up_n _ (by assumption)).trans (up_s _ _ _) | exact (up_n _ (by assumption)).trans ((up_n _ (by assumption)).trans (by assumption))) rfl dX0_cut_34 ?_
    refine r_callV0 okX5_amount ⟨by decide, by decide⟩ ml_X0_37 (mX5_amount hm2) hm2.1 rfl rfl (Nat.le_of_ble_eq_true rfl) (Nat.le_of_ble_eq_true rfl) (Nat.le_of_ble_eq_true rfl) rfl dX0_cut_37 (nx_I) (kx_I ?_)
    refine r_icmp_ge (tgt := 86) dX0_cut_40 (by decide) (by omega) (by omega) (fun h40 => ?_) (fun h40 => ?_)
    ·
      refine r_aload_n dX0_cut_86 rfl ?_
      refine r_iload dX0_cut_87 rfl ?_
      refine r_aload_n dX0_cut_89 rfl ?_
      refine r_getfield clX0 2 (by decide) fl_X0_24 (by first | assumption | exact up_s _ _ _ | exact (up_n _ (by assumption)).trans (by assumption) | exact (up_n _ (by assumption)).trans (up_s _ _ _) | exact (up_n _ (by assumption)).trans ((up_n _ (by assumption)).trans (by assumption))) rfl dX0_cut_90 ?_
      refine r_callV0 okX5_amount ⟨by decide, by decide⟩ ml_X0_37 (mX5_amount hm2) hm2.1 rfl rfl (Nat.le_of_ble_eq_true rfl) (Nat.le_of_ble_eq_true rfl) (Nat.le_of_ble_eq_true rfl) rfl dX0_cut_93 (nx_I) (kx_I ?_)
      refine r_callV2 okX0_putStart ⟨by decide, by decide⟩ ml_X0_44 (mX0_putStart ho1 ha1 (by omega) (by omega)) (by first | assumption | exact up_s _ _ _ | exact (up_n _ (by assumption)).trans (by assumption) | exact (up_n _ (by assumption)).trans (up_s _ _ _) | exact (up_n _ (by assumption)).trans ((up_n _ (by assumption)).trans (by assumption))) rfl rfl (Nat.le_of_ble_eq_true rfl) (Nat.le_of_ble_eq_true rfl) (Nat.le_of_ble_eq_true rfl) rfl dX0_cut_96 (nx_V) (kx_V ?_)
      refine r_aload_n dX0_cut_99 rfl ?_
      refine r_iload dX0_cut_100 rfl ?_
      refine r_putfield clX0 1 (by decide) fl_X0_15 rfl (by first | assumption | exact up_s _ _ _ | exact (up_n _ (by assumption)).trans (by assumption) | exact (up_n _ (by assumption)).trans (up_s _ _ _) | exact (up_n _ (by assumption)).trans ((up_n _ (by assumption)).trans (by assumption))) rfl rfl (Nat.le_of_ble_eq_true rfl) dX0_cut_102 ?_
      refine r_aload_n dX0_cut_105 rfl ?_
      refine r_getfield clX0 1 (by decide) fl_X0_15 (by first | assumption | exact up_s _ _ _ | exact (up_n _ (by assumption)).trans (by assumption) | exact (up_n _ (by assumption)).trans (up_s _ _ _) | exact (up_n _ (by assumption)).trans ((up_n _ (by assumption)).trans (by assumption))) rfl dX0_cut_106 ?_
      refine e_ireturn dX0_cut_109 rfl (Nat.le_of_ble_eq_true rfl) (Nat.le_of_ble_eq_true rfl) ?_
      have hpn : p = n k := by omega
      rw [show (n k - p).toNat = 0 by omega, ctF] at hct
      have e1 : nbF (n k) (F k) (g 0) (g 1) = fd := by unfold nbF; rw [hct]
      have e2 : stF (n k) (F k) (g 0) (g 1) = uI G fd (n k) := by unfold stF; rw [e1, hct]
      rw [e1, e2] at hsp ⊢
      refine oktI rfl ⟨⟨up_s _ _ _, ⟨_, (up_n _ hen).trans (up_s _ _ _), fun i a b => ?_⟩, by omega, by omega, fun i a b => ?_⟩, (hfr.up ⟨by omega, by omega⟩).up ⟨by omega, by omega⟩⟩
      · by_cases e : i = fd
        · rw [e, uI_s, uI_s]
        · rw [uI_n _ e, uI_n _ e]; exact hf1 i a (by omega)
      · by_cases e : i = fd
        · rw [e, uI_s]; omega
        · have := hsp.2.2.2.2.2.1 i a (by omega); omega
    ·
      refine r_aload_n dX0_cut_43 rfl ?_
      refine r_getfield clX0 2 (by decide) fl_X0_24 (by first | assumption | exact up_s _ _ _ | exact (up_n _ (by assumption)).trans (by assumption) | exact (up_n _ (by assumption)).trans (up_s _ _ _) | exact (up_n _ (by assumption)).trans ((up_n _ (by assumption)).trans (by assumption))) rfl dX0_cut_44 ?_
      refine r_iload dX0_cut_47 rfl ?_
      refine r_iload dX0_cut_49 rfl ?_
      refine r_iload_n dX0_cut_51 rfl ?_
      refine r_iload dX0_cut_52 rfl ?_
      refine r_callV4 okX5_beginsBlock ⟨by decide, by decide⟩ ml_X0_40 (mX5_beginsBlock hm2 (by omega) (by omega) (by omega) (by omega)) hm2.1 rfl rfl (Nat.le_of_ble_eq_true rfl) (Nat.le_of_ble_eq_true rfl) (Nat.le_of_ble_eq_true rfl) rfl dX0_cut_54 (nx_I) (kx_I ?_)
      have hbb := bI_r (beg (n k) (F k) (g 0) (g 1) p c)
      refine r_if_eq (tgt := 77) dX0_cut_57 (by decide) (by omega) (fun h57 => ?_) (fun h57 => ?_)
      ·
        refine r_iinc dX0_cut_77 rfl rfl ?_
        refine r_iinc dX0_cut_80 rfl rfl ?_
        refine r_goto (tgt := 31) dX0_cut_83 (by decide) ?_
        refine J.loc (lsub_cons rfl (lsub_cons rfl (lsub_cons rfl (lsub_cons rfl (lsub_cons rfl (lsub_cons rfl (lsub_cons rfl (lsub_cons rfl (lsub_nil))))))))) (ih31 _ _ _ _ G ?_ ?_)
        · have hct2 := hct.trans (by rw [show (n k - p).toNat = (n k - (p + 1)).toNat + 1 by omega, ctF, if_neg (bI_f h57)])
          refine ⟨by omega, by omega, by omega, by omega, ?_, ho1, hfr, hct2, f1, ha1, hf1⟩
          have := ctF_laid (n k) (F k) (g 0) (g 1) 1 p c fd G hp0 hld
          rw [ctF, if_neg (bI_f h57), ctF] at this
          simpa using this
        · omega
      ·
        refine r_aload_n dX0_cut_60 rfl ?_
        refine r_iload dX0_cut_61 rfl ?_
        refine r_iload dX0_cut_63 rfl ?_
        refine r_callV2 okX0_putStart ⟨by decide, by decide⟩ ml_X0_44 (mX0_putStart ho1 ha1 (by omega) (by omega)) (by first | assumption | exact up_s _ _ _ | exact (up_n _ (by assumption)).trans (by assumption) | exact (up_n _ (by assumption)).trans (up_s _ _ _) | exact (up_n _ (by assumption)).trans ((up_n _ (by assumption)).trans (by assumption))) rfl rfl (Nat.le_of_ble_eq_true rfl) (Nat.le_of_ble_eq_true rfl) (Nat.le_of_ble_eq_true rfl) rfl dX0_cut_65 (nx_V) (kx_V ?_)
        refine r_iinc dX0_cut_68 rfl rfl ?_
        refine r_iconst dX0_cut_71 ?_
        refine r_istore dX0_cut_72 (by decide) rfl ?_
        refine r_goto (tgt := 80) dX0_cut_74 (by decide) ?_
        refine r_iinc dX0_cut_80 rfl rfl ?_
        refine r_goto (tgt := 31) dX0_cut_83 (by decide) ?_
        refine J.loc (lsub_cons rfl (lsub_cons rfl (lsub_cons rfl (lsub_cons rfl (lsub_cons rfl (lsub_cons rfl (lsub_cons rfl (lsub_cons rfl (lsub_nil))))))))) (ih31 _ _ _ _ (uI G fd p) ?_ ?_)
        · have hct2 := hct.trans (by rw [show (n k - p).toNat = (n k - (p + 1)).toNat + 1 by omega, ctF, if_pos (bI_t h57)])
          refine ⟨by omega, by omega, by omega, by omega, ?_, (up_n _ hne).trans ho1, hfr.up ⟨by omega, by omega⟩, hct2, _, up_s _ _ _, fun j a b => ?_⟩
          · have := ctF_laid (n k) (F k) (g 0) (g 1) 1 p c fd G hp0 hld
            rw [ctF, if_pos (bI_t h57), ctF] at this
            simpa using this
          · by_cases e : j = fd
            · rw [e, uI_s, uI_s]
            · rw [uI_n _ e, uI_n _ e]; exact hf1 j a (by omega)
        · omega
  · exact ⟨by omega, by omega, by omega, by omega, ⟨by omega, by omega, fun h => by omega, fun h => by omega, fun j a b => by omega, fun i j a b c => by omega⟩, up_s _ _ _, FrI.rf.up ⟨by omega, by omega⟩, by simp, f0, (up_n _ hen).trans ha, fun j a b => by omega⟩
