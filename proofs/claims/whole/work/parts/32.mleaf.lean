/-! the model: its leaves -/
set_option maxHeartbeats 4000000 in
theorem mX9_thrown {M0 M : Mem} {ad : Int → Nat} {zA hA tA rA sA pA bA wA : Int → Int} {m len th rm bk rd nu bd sc : Int} {hs : Int64} (hm : RM M0 M ad zA hA tA rA sA pA bA wA m len th rm bk rd nu bd sc hs) : Ct KX9_thrown [.ref (ad 112)] M 0 0 (rtI th M) := by
  refine Ct.of _ (by decide) rfl (Nat.le_of_ble_eq_true rfl) ?_
  refine r_aload_n dX9_thrown_0 rfl ?_
  refine r_getfield clX9 5 (by decide) fl_X9_34 hm.o rfl dX9_thrown_1 ?_
  refine e_ireturn dX9_thrown_4 rfl (Nat.le_of_ble_eq_true rfl) (Nat.le_of_ble_eq_true rfl) ?_
  exact okI rfl

set_option maxHeartbeats 4000000 in
theorem mX9_within {M : Mem} {x lo up v : Int} (q0 : R32 x) (q1 : R32 lo) (q2 : R32 up) (hv : (if lo ≤ x ∧ x ≤ up then (1 : Int) else 0) = v) : Ct KX9_within [vI x, vI lo, vI up] M 0 0 (rtI v M) := by
  refine Ct.of _ (by decide) rfl (Nat.le_of_ble_eq_true rfl) ?_
  refine r_iload_n dX9_within_0 rfl ?_
  refine r_iload_n dX9_within_1 rfl ?_
  refine r_icmp_lt (tgt := 14) dX9_within_2 (by decide) (by omega) (by omega) (fun h2 => ?_) (fun h2 => ?_)
  ·
    refine r_iconst dX9_within_14 ?_
    refine e_zreturn dX9_within_15 rfl (by omega) (Nat.le_of_ble_eq_true rfl) (Nat.le_of_ble_eq_true rfl) ?_
    exact okI (by rw [← hv]; first | rw [if_pos (by omega)] | rw [if_neg (by omega)])
  ·
    refine r_iload_n dX9_within_5 rfl ?_
    refine r_iload_n dX9_within_6 rfl ?_
    refine r_icmp_gt (tgt := 14) dX9_within_7 (by decide) (by omega) (by omega) (fun h7 => ?_) (fun h7 => ?_)
    ·
      refine r_iconst dX9_within_14 ?_
      refine e_zreturn dX9_within_15 rfl (by omega) (Nat.le_of_ble_eq_true rfl) (Nat.le_of_ble_eq_true rfl) ?_
      exact okI (by rw [← hv]; first | rw [if_pos (by omega)] | rw [if_neg (by omega)])
    ·
      refine r_iconst dX9_within_10 ?_
      refine r_goto (tgt := 15) dX9_within_11 (by decide) ?_
      refine e_zreturn dX9_within_15 rfl (by omega) (Nat.le_of_ble_eq_true rfl) (Nat.le_of_ble_eq_true rfl) ?_
      exact okI (by rw [← hv]; first | rw [if_pos (by omega)] | rw [if_neg (by omega)])

set_option maxHeartbeats 4000000 in
theorem mX9_isSet {M : Mem} {x v : Int} (q0 : R32 x) (hv : (if 0 ≤ x ∧ x ≤ 3 then (1 : Int) else 0) = v) : Ct KX9_isSet [vI x] M 0 0 (rtI v M) := by
  refine Ct.of _ (by decide) rfl (Nat.le_of_ble_eq_true rfl) ?_
  refine r_iload_n dX9_isSet_0 rfl ?_
  refine r_iconst dX9_isSet_1 ?_
  refine r_iconst dX9_isSet_2 ?_
  refine r_callS3 okX9_within ⟨by decide, by decide⟩ ml_X9_41 (mX9_within (by omega) (by omega) (by omega) hv) (Nat.le_of_ble_eq_true rfl) (Nat.le_of_ble_eq_true rfl) (Nat.le_of_ble_eq_true rfl) rfl dX9_isSet_3 (nx_I) (kx_I ?_)
  refine e_zreturn dX9_isSet_6 rfl (by rw [← hv]; split <;> omega) (Nat.le_of_ble_eq_true rfl) (Nat.le_of_ble_eq_true rfl) ?_
  exact okI rfl

set_option maxHeartbeats 4000000 in
theorem mX9_isNumber {M : Mem} {x v : Int} (q0 : R32 x) (hv : (if 0 ≤ x ∧ x ≤ 9999 then (1 : Int) else 0) = v) : Ct KX9_isNumber [vI x] M 0 0 (rtI v M) := by
  refine Ct.of _ (by decide) rfl (Nat.le_of_ble_eq_true rfl) ?_
  refine r_iload_n dX9_isNumber_0 rfl ?_
  refine r_iconst dX9_isNumber_1 ?_
  refine r_sipush dX9_isNumber_2 (by decide) ?_
  refine r_callS3 okX9_within ⟨by decide, by decide⟩ ml_X9_41 (mX9_within (by omega) (by omega) (by omega) hv) (Nat.le_of_ble_eq_true rfl) (Nat.le_of_ble_eq_true rfl) (Nat.le_of_ble_eq_true rfl) rfl dX9_isNumber_5 (nx_I) (kx_I ?_)
  refine e_zreturn dX9_isNumber_8 rfl (by rw [← hv]; split <;> omega) (Nat.le_of_ble_eq_true rfl) (Nat.le_of_ble_eq_true rfl) ?_
  exact okI rfl

set_option maxHeartbeats 4000000 in
theorem mX9_isMost {M : Mem} {x v : Int} (q0 : R32 x) (hv : (if 2 ≤ x ∧ x ≤ 16 then (1 : Int) else 0) = v) : Ct KX9_isMost [vI x] M 0 0 (rtI v M) := by
  refine Ct.of _ (by decide) rfl (Nat.le_of_ble_eq_true rfl) ?_
  refine r_iload_n dX9_isMost_0 rfl ?_
  refine r_iconst dX9_isMost_1 ?_
  refine r_bipush dX9_isMost_2 (by decide) ?_
  refine r_callS3 okX9_within ⟨by decide, by decide⟩ ml_X9_41 (mX9_within (by omega) (by omega) (by omega) hv) (Nat.le_of_ble_eq_true rfl) (Nat.le_of_ble_eq_true rfl) (Nat.le_of_ble_eq_true rfl) rfl dX9_isMost_4 (nx_I) (kx_I ?_)
  refine e_zreturn dX9_isMost_7 rfl (by rw [← hv]; split <;> omega) (Nat.le_of_ble_eq_true rfl) (Nat.le_of_ble_eq_true rfl) ?_
  exact okI rfl

set_option maxHeartbeats 4000000 in
theorem mX9_isWidth {M : Mem} {x v : Int} (q0 : R32 x) (hv : (if 1 ≤ x ∧ x ≤ 9999 then (1 : Int) else 0) = v) : Ct KX9_isWidth [vI x] M 0 0 (rtI v M) := by
  refine Ct.of _ (by decide) rfl (Nat.le_of_ble_eq_true rfl) ?_
  refine r_iload_n dX9_isWidth_0 rfl ?_
  refine r_iconst dX9_isWidth_1 ?_
  refine r_sipush dX9_isWidth_2 (by decide) ?_
  refine r_callS3 okX9_within ⟨by decide, by decide⟩ ml_X9_41 (mX9_within (by omega) (by omega) (by omega) hv) (Nat.le_of_ble_eq_true rfl) (Nat.le_of_ble_eq_true rfl) (Nat.le_of_ble_eq_true rfl) rfl dX9_isWidth_5 (nx_I) (kx_I ?_)
  refine e_zreturn dX9_isWidth_8 rfl (by rw [← hv]; split <;> omega) (Nat.le_of_ble_eq_true rfl) (Nat.le_of_ble_eq_true rfl) ?_
  exact okI rfl

set_option maxHeartbeats 4000000 in
theorem mX9_many {M0 M : Mem} {ad : Int → Nat} {zA hA tA rA sA pA bA wA : Int → Int} {m len th rm bk rd nu bd sc : Int} {hs : Int64} {n : Int → Int} {F : Int → Int → Int} {g : Int → Int} {k : Int} (hm : RM M0 M ad zA hA tA rA sA pA bA wA m len th rm bk rd nu bd sc hs) (hz : Zr zA n F g) (h0 : 0 ≤ k) (h1 : k < 4) : Ct KX9_many [.ref (ad 112), vI k] M 0 0 (rtI (n k) M) := by
  refine Ct.of _ (by decide) rfl (Nat.le_of_ble_eq_true rfl) ?_
  refine r_aload_n dX9_many_0 rfl ?_
  refine r_getfield clX9 0 (by decide) fl_X9_7 hm.o rfl dX9_many_1 ?_
  refine r_iconst dX9_many_4 ?_
  refine r_iload_n dX9_many_5 rfl ?_
  refine r_iadd dX9_many_6 ?_
  refine r_iaload hm.z (by omega) (by omega) (by omega) dX9_many_7 ?_
  refine e_ireturn dX9_many_8 rfl (Nat.le_of_ble_eq_true rfl) (Nat.le_of_ble_eq_true rfl) ?_
  exact okI (hz.n h0 h1).1

set_option maxHeartbeats 4000000 in
theorem mX9_at {M0 M : Mem} {ad : Int → Nat} {zA hA tA rA sA pA bA wA : Int → Int} {m len th rm bk rd nu bd sc : Int} {hs : Int64} {n : Int → Int} {F : Int → Int → Int} {g : Int → Int} {k p : Int} (hm : RM M0 M ad zA hA tA rA sA pA bA wA m len th rm bk rd nu bd sc hs) (hz : Zr zA n F g) (h0 : 0 ≤ k) (h1 : k < 4) (h2 : 0 ≤ p) (h3 : p < n k) : Ct KX9_at [.ref (ad 112), vI k, vI p] M 0 0 (rtI (F k p) M) := by
  refine Ct.of _ (by decide) rfl (Nat.le_of_ble_eq_true rfl) ?_
  have hzn := hz.n h0 h1
  refine r_aload_n dX9_at_0 rfl ?_
  refine r_getfield clX9 0 (by decide) fl_X9_7 hm.o rfl dX9_at_1 ?_
  refine r_bipush dX9_at_4 (by decide) ?_
  refine r_bipush dX9_at_6 (by decide) ?_
  refine r_iload_n dX9_at_8 rfl ?_
  refine r_imul dX9_at_9 ?_
  refine r_iadd dX9_at_10 ?_
  refine r_iload_n dX9_at_11 rfl ?_
  refine r_iadd dX9_at_12 ?_
  refine r_iaload hm.z (by omega) (by omega) (by omega) dX9_at_13 ?_
  refine e_ireturn dX9_at_14 rfl (Nat.le_of_ble_eq_true rfl) (Nat.le_of_ble_eq_true rfl) ?_
  exact okI (hz.f h0 h1 h2 h3).1

set_option maxHeartbeats 4000000 in
theorem mX9_lessThan {M0 M : Mem} {ad : Int → Nat} {zA hA tA rA sA pA bA wA : Int → Int} {m len th rm bk rd nu bd sc : Int} {hs : Int64} {n : Int → Int} {F : Int → Int → Int} {g : Int → Int} {k x : Int} (hm : RM M0 M ad zA hA tA rA sA pA bA wA m len th rm bk rd nu bd sc hs) (hz : Zr zA n F g) (h0 : 0 ≤ k) (h1 : k < 4) (q0 : R32 x) : Ct KX9_lessThan [.ref (ad 112), vI k, vI x] M 0 0 (rtI (plc (n k) (F k) x) M) := by
  refine Ct.of _ (by decide) rfl (Nat.le_of_ble_eq_true rfl) ?_
  have hzn := hz.n h0 h1
  refine r_iconst dX9_lessThan_0 ?_
  refine r_istore_n dX9_lessThan_1 (by decide) rfl ?_
  refine J.loc (L' := [(0, some _), (1, some _), (2, some _), (3, some _)]) (lsub_cons rfl (lsub_cons rfl (lsub_cons rfl (lsub_cons rfl (lsub_nil))))) (loop1 (fun (i : Int) => 0 ≤ i ∧ i ≤ n k ∧ plc (n k) (F k) x = ff (fun i => decide (x ≤ F k i)) (n k - i).toNat i) (fun (i : Int) => (n k - i).toNat) (fun (i : Int) => J KX9_lessThan 0 0 _ 2 [(0, some (.ref (ad 112))), (1, some (vI k)), (2, some (vI x)), (3, some (vI i))] [] M _ _) (fun i hI2 ih2 => ?_) _ ?_)
  ·
    obtain ⟨hi0, hi1, hi2⟩ := hI2
    refine r_iload_n dX9_lessThan_2 rfl ?_
    refine r_aload_n dX9_lessThan_3 rfl ?_
    refine r_iload_n dX9_lessThan_4 rfl ?_
    refine r_callV1 okX9_many ⟨by decide, by decide⟩ ml_X9_45 (mX9_many hm hz (by omega) (by omega)) hm.o rfl rfl (Nat.le_of_ble_eq_true rfl) (Nat.le_of_ble_eq_true rfl) (Nat.le_of_ble_eq_true rfl) rfl dX9_lessThan_5 (nx_I) (kx_I ?_)
    refine r_icmp_ge (tgt := 27) dX9_lessThan_8 (by decide) (by omega) (by omega) (fun h8 => ?_) (fun h8 => ?_)
    ·
      refine r_iload_n dX9_lessThan_27 rfl ?_
      refine e_ireturn dX9_lessThan_28 rfl (Nat.le_of_ble_eq_true rfl) (Nat.le_of_ble_eq_true rfl) ?_
      exact okI (by rw [hi2, show (n k - i).toNat = 0 by omega, ff])
    ·
      refine r_aload_n dX9_lessThan_11 rfl ?_
      refine r_iload_n dX9_lessThan_12 rfl ?_
      refine r_iload_n dX9_lessThan_13 rfl ?_
      refine r_callV2 okX9_at ⟨by decide, by decide⟩ ml_X9_49 (mX9_at hm hz (by omega) (by omega) (by omega) (by omega)) hm.o rfl rfl (Nat.le_of_ble_eq_true rfl) (Nat.le_of_ble_eq_true rfl) (Nat.le_of_ble_eq_true rfl) rfl dX9_lessThan_14 (nx_I) (kx_I ?_)
      have hfi := (hz.f (p := i) h0 h1 (by omega) (by omega)).2
      refine r_iload_n dX9_lessThan_17 rfl ?_
      refine r_icmp_ge (tgt := 27) dX9_lessThan_18 (by decide) (by omega) (by omega) (fun h18 => ?_) (fun h18 => ?_)
      ·
        refine r_iload_n dX9_lessThan_27 rfl ?_
        refine e_ireturn dX9_lessThan_28 rfl (Nat.le_of_ble_eq_true rfl) (Nat.le_of_ble_eq_true rfl) ?_
        exact okI (by rw [hi2, show (n k - i).toNat = (n k - (i + 1)).toNat + 1 by omega, ff, if_pos (by simp; omega)])
      ·
        refine r_iinc dX9_lessThan_21 rfl rfl ?_
        refine r_goto (tgt := 2) dX9_lessThan_24 (by decide) ?_
        refine J.loc (lsub_cons rfl (lsub_cons rfl (lsub_cons rfl (lsub_cons rfl (lsub_nil))))) (ih2 _ ?_ ?_)
        · exact ⟨by omega, by omega, by rw [hi2, show (n k - i).toNat = (n k - (i + 1)).toNat + 1 by omega, ff, if_neg (by simp; omega)]⟩
        · omega
  · exact ⟨by omega, by omega, by simp [plc]⟩

set_option maxHeartbeats 4000000 in
theorem mX9_isMember {M0 M : Mem} {ad : Int → Nat} {zA hA tA rA sA pA bA wA : Int → Int} {m len th rm bk rd nu bd sc : Int} {hs : Int64} {n : Int → Int} {F : Int → Int → Int} {g : Int → Int} {k x v : Int} (hm : RM M0 M ad zA hA tA rA sA pA bA wA m len th rm bk rd nu bd sc hs) (hz : Zr zA n F g) (h0 : 0 ≤ k) (h1 : k < 4) (q0 : R32 x) (hv : bI (hasF (n k) (F k) x) = v) : Ct KX9_isMember [.ref (ad 112), vI k, vI x] M 0 0 (rtI v M) := by
  refine Ct.of _ (by decide) rfl (Nat.le_of_ble_eq_true rfl) ?_
  have hzn := hz.n h0 h1
  refine r_aload_n dX9_isMember_0 rfl ?_
  refine r_iload_n dX9_isMember_1 rfl ?_
  refine r_iload_n dX9_isMember_2 rfl ?_
  refine r_callV2 okX9_lessThan ⟨by decide, by decide⟩ ml_X9_53 (mX9_lessThan hm hz (by omega) (by omega) (by omega)) hm.o rfl rfl (Nat.le_of_ble_eq_true rfl) (Nat.le_of_ble_eq_true rfl) (Nat.le_of_ble_eq_true rfl) rfl dX9_isMember_3 (nx_I) (kx_I ?_)
  have hpl := plc_spec hzn.2.1 (F k) (x)
  refine r_istore_n dX9_isMember_6 (by decide) rfl ?_
  refine r_iload_n dX9_isMember_7 rfl ?_
  refine r_aload_n dX9_isMember_8 rfl ?_
  refine r_iload_n dX9_isMember_9 rfl ?_
  refine r_callV1 okX9_many ⟨by decide, by decide⟩ ml_X9_45 (mX9_many hm hz (by omega) (by omega)) hm.o rfl rfl (Nat.le_of_ble_eq_true rfl) (Nat.le_of_ble_eq_true rfl) (Nat.le_of_ble_eq_true rfl) rfl dX9_isMember_10 (nx_I) (kx_I ?_)
  refine r_icmp_ge (tgt := 30) dX9_isMember_13 (by decide) (by omega) (by omega) (fun h13 => ?_) (fun h13 => ?_)
  ·
    refine r_iconst dX9_isMember_30 ?_
    refine e_zreturn dX9_isMember_31 rfl (by omega) (Nat.le_of_ble_eq_true rfl) (Nat.le_of_ble_eq_true rfl) ?_
    exact okI (by rw [← hv]; unfold hasF bI; simp <;> omega)
  ·
    refine r_aload_n dX9_isMember_16 rfl ?_
    refine r_iload_n dX9_isMember_17 rfl ?_
    refine r_iload_n dX9_isMember_18 rfl ?_
    refine r_callV2 okX9_at ⟨by decide, by decide⟩ ml_X9_49 (mX9_at hm hz (by omega) (by omega) (by omega) (by omega)) hm.o rfl rfl (Nat.le_of_ble_eq_true rfl) (Nat.le_of_ble_eq_true rfl) (Nat.le_of_ble_eq_true rfl) rfl dX9_isMember_19 (nx_I) (kx_I ?_)
    have hfi := (hz.f (p := plc (n k) (F k) x) h0 h1 (by omega) (by omega)).2
    refine r_iload_n dX9_isMember_22 rfl ?_
    refine r_icmp_ne (tgt := 30) dX9_isMember_23 (by decide) (by omega) (by omega) (fun h23 => ?_) (fun h23 => ?_)
    ·
      refine r_iconst dX9_isMember_30 ?_
      refine e_zreturn dX9_isMember_31 rfl (by omega) (Nat.le_of_ble_eq_true rfl) (Nat.le_of_ble_eq_true rfl) ?_
      exact okI (by rw [← hv]; unfold hasF bI; simp <;> omega)
    ·
      refine r_iconst dX9_isMember_26 ?_
      refine r_goto (tgt := 31) dX9_isMember_27 (by decide) ?_
      refine e_zreturn dX9_isMember_31 rfl (by omega) (Nat.le_of_ble_eq_true rfl) (Nat.le_of_ble_eq_true rfl) ?_
      exact okI (by rw [← hv]; unfold hasF bI; simp <;> omega)

set_option maxHeartbeats 4000000 in
theorem mX9_takeRow {M0 M : Mem} {ad : Int → Nat} {zA hA tA rA sA pA bA wA : Int → Int} {m len th rm bk rd nu bd sc : Int} {hs : Int64} {n : Int → Int} {F : Int → Int → Int} {g : Int → Int} {k : Int} (hm : RM M0 M ad zA hA tA rA sA pA bA wA m len th rm bk rd nu bd sc hs) (hi : Inj ad) (hz : Zr zA n F g) (h0 : 0 ≤ k) (h1 : k < 4) : Ct KX9_takeRow [.ref (ad 112), vI k] M 0 0 (atV (fun M2 => ∃ r2 : Int → Int, RM M0 M2 ad zA hA tA r2 sA pA bA wA m len th (n k) bk rd nu bd sc hs ∧ ∀ p, 0 ≤ p → p < n k → r2 p = F k p)) := by
  refine Ct.of _ (by decide) rfl (Nat.le_of_ble_eq_true rfl) ?_
  have hzn := hz.n h0 h1
  refine r_aload_n dX9_takeRow_0 rfl ?_
  refine r_aload_n dX9_takeRow_1 rfl ?_
  refine r_iload_n dX9_takeRow_2 rfl ?_
  refine r_callV1 okX9_many ⟨by decide, by decide⟩ ml_X9_45 (mX9_many hm hz (by omega) (by omega)) hm.o rfl rfl (Nat.le_of_ble_eq_true rfl) (Nat.le_of_ble_eq_true rfl) (Nat.le_of_ble_eq_true rfl) rfl dX9_takeRow_3 (nx_I) (kx_I ?_)
  refine r_putfield clX9 7 (by decide) fl_X9_56 rfl hm.o rfl rfl (Nat.le_of_ble_eq_true rfl) dX9_takeRow_6 ?_
  refine hm.w_rowMany hi (fun Mx hm => ?_)
  refine r_iconst dX9_takeRow_9 ?_
  refine r_istore_n dX9_takeRow_10 (by decide) rfl ?_
  refine J.loc (L' := [(0, some _), (1, some _), (2, some _)]) (lsub_cons rfl (lsub_cons rfl (lsub_cons rfl (lsub_nil)))) (loop3 (fun (i : Int) (M1 : Mem) (r1 : Int → Int) => 0 ≤ i ∧ i ≤ n k ∧ RM M0 M1 ad zA hA tA r1 sA pA bA wA m len th (n k) bk rd nu bd sc hs ∧ ∀ p, 0 ≤ p → p < i → r1 p = F k p) (fun (i : Int) (M1 : Mem) (r1 : Int → Int) => (n k - i).toNat) (fun (i : Int) (M1 : Mem) (r1 : Int → Int) => J KX9_takeRow 0 0 _ 11 [(0, some (.ref (ad 112))), (1, some (vI k)), (2, some (vI i))] [] M1 _ _) (fun i M1 r1 hI11 ih11 => ?_) _ _ rA ?_)
  ·
    obtain ⟨hi0, hi1, hm, hr⟩ := hI11
    refine r_iload_n dX9_takeRow_11 rfl ?_
    refine r_aload_n dX9_takeRow_12 rfl ?_
    refine r_getfield clX9 7 (by decide) fl_X9_56 hm.o rfl dX9_takeRow_13 ?_
    refine r_icmp_ge (tgt := 37) dX9_takeRow_16 (by decide) (by omega) (by omega) (fun h16 => ?_) (fun h16 => ?_)
    ·
      refine e_return dX9_takeRow_37 rfl (Nat.le_of_ble_eq_true rfl) (Nat.le_of_ble_eq_true rfl) ?_
      exact oktV ⟨r1, hm, fun p a b => hr p a (by omega)⟩
    ·
      refine r_aload_n dX9_takeRow_19 rfl ?_
      refine r_getfield clX9 6 (by decide) fl_X9_19 hm.o rfl dX9_takeRow_20 ?_
      refine r_iload_n dX9_takeRow_23 rfl ?_
      refine r_aload_n dX9_takeRow_24 rfl ?_
      refine r_iload_n dX9_takeRow_25 rfl ?_
      refine r_iload_n dX9_takeRow_26 rfl ?_
      refine r_callV2 okX9_at ⟨by decide, by decide⟩ ml_X9_49 (mX9_at hm hz (by omega) (by omega) (by omega) (by omega)) hm.o rfl rfl (Nat.le_of_ble_eq_true rfl) (Nat.le_of_ble_eq_true rfl) (Nat.le_of_ble_eq_true rfl) rfl dX9_takeRow_27 (nx_I) (kx_I ?_)
      refine r_iastore hm.r (by omega) (by omega) (by omega) dX9_takeRow_30 ?_
      refine hm.w_r hi (fun Mx hm => ?_)
      refine r_iinc dX9_takeRow_31 rfl rfl ?_
      refine r_goto (tgt := 11) dX9_takeRow_34 (by decide) ?_
      refine J.loc (lsub_cons rfl (lsub_cons rfl (lsub_cons rfl (lsub_nil)))) (ih11 _ _ (uI r1 i (F k i)) ?_ ?_)
      · refine ⟨by omega, by omega, hm, fun p a b => ?_⟩
        by_cases e : p = i
        · rw [e, uI_s]
        · rw [uI_n _ e]; exact hr p a (by omega)
      · omega
  · exact ⟨by omega, by omega, hm, fun p a b => by omega⟩

set_option maxHeartbeats 4000000 in
theorem mX9_layRow {M0 M : Mem} {ad : Int → Nat} {zA hA tA rA sA pA bA wA : Int → Int} {m len th rm bk rd nu bd sc : Int} {hs : Int64} {n : Int → Int} {F : Int → Int → Int} {g : Int → Int} {k : Int} {R : Int → Int} (hm : RM M0 M ad zA hA tA rA sA pA bA wA m len th rm bk rd nu bd sc hs) (hi : Inj ad) (hz : Zr zA n F g) (h0 : 0 ≤ k) (h1 : k < 4) (h2 : 0 ≤ rm ∧ rm ≤ 60) (hr : ∀ p, 0 ≤ p → p < rm → rA p = R p ∧ 0 ≤ R p ∧ R p ≤ 9999) : Ct KX9_layRow [.ref (ad 112), vI k] M 0 0 (atV (fun M2 => ∃ z2 : Int → Int, RM M0 M2 ad z2 hA tA rA sA pA bA wA m len th rm bk rd nu bd sc hs ∧ Zr z2 (uI n k rm) (uI F k R) g)) := by
  refine Ct.of _ (by decide) rfl (Nat.le_of_ble_eq_true rfl) ?_
  have hzn := hz.n h0 h1
  refine r_aload_n dX9_layRow_0 rfl ?_
  refine r_getfield clX9 0 (by decide) fl_X9_7 hm.o rfl dX9_layRow_1 ?_
  refine r_iconst dX9_layRow_4 ?_
  refine r_iload_n dX9_layRow_5 rfl ?_
  refine r_iadd dX9_layRow_6 ?_
  refine r_aload_n dX9_layRow_7 rfl ?_
  refine r_getfield clX9 7 (by decide) fl_X9_56 hm.o rfl dX9_layRow_8 ?_
  refine r_iastore hm.z (by omega) (by omega) (by omega) dX9_layRow_11 ?_
  refine hm.w_z hi (fun Mx hm => ?_)
  refine r_iconst dX9_layRow_12 ?_
  refine r_istore_n dX9_layRow_13 (by decide) rfl ?_
  refine J.loc (L' := [(0, some _), (1, some _), (2, some _)]) (lsub_cons rfl (lsub_cons rfl (lsub_cons rfl (lsub_nil)))) (loop3 (fun (i : Int) (M1 : Mem) (z1 : Int → Int) => 0 ≤ i ∧ i ≤ 60 ∧ RM M0 M1 ad z1 hA tA rA sA pA bA wA m len th rm bk rd nu bd sc hs ∧ z1 (2 + k) = rm ∧ (∀ p, 0 ≤ p → p < i → p < rm → z1 (6 + 60 * k + p) = R p) ∧ ∀ j, 0 ≤ j → j < 246 → j ≠ 2 + k → (j < 6 + 60 * k ∨ 66 + 60 * k ≤ j) → z1 j = zA j) (fun (i : Int) (M1 : Mem) (z1 : Int → Int) => (60 - i).toNat) (fun (i : Int) (M1 : Mem) (z1 : Int → Int) => J KX9_layRow 0 0 _ 14 [(0, some (.ref (ad 112))), (1, some (vI k)), (2, some (vI i))] [] M1 _ _) (fun i M1 z1 hI14 ih14 => ?_) _ _ (uI zA (2 + k) rm) ?_)
  ·
    obtain ⟨hi0, hi1, hm, hz1, hz2, hz3⟩ := hI14
    refine r_iload_n dX9_layRow_14 rfl ?_
    refine r_bipush dX9_layRow_15 (by decide) ?_
    refine r_icmp_ge (tgt := 58) dX9_layRow_17 (by decide) (by omega) (by omega) (fun h17 => ?_) (fun h17 => ?_)
    ·
      refine e_return dX9_layRow_58 rfl (Nat.le_of_ble_eq_true rfl) (Nat.le_of_ble_eq_true rfl) ?_
      exact oktV ⟨z1, hm, hz.setK h0 h1 ⟨hz1, h2.1, h2.2⟩ (fun p a b => ⟨hz2 p a (by omega) b, (hr p a b).2⟩) hz3⟩
    ·
      refine r_aload_n dX9_layRow_20 rfl ?_
      refine r_getfield clX9 0 (by decide) fl_X9_7 hm.o rfl dX9_layRow_21 ?_
      refine r_bipush dX9_layRow_24 (by decide) ?_
      refine r_bipush dX9_layRow_26 (by decide) ?_
      refine r_iload_n dX9_layRow_28 rfl ?_
      refine r_imul dX9_layRow_29 ?_
      refine r_iadd dX9_layRow_30 ?_
      refine r_iload_n dX9_layRow_31 rfl ?_
      refine r_iadd dX9_layRow_32 ?_
      refine r_iload_n dX9_layRow_33 rfl ?_
      refine r_aload_n dX9_layRow_34 rfl ?_
      refine r_getfield clX9 7 (by decide) fl_X9_56 hm.o rfl dX9_layRow_35 ?_
      refine r_icmp_ge (tgt := 50) dX9_layRow_38 (by decide) (by omega) (by omega) (fun h38 => ?_) (fun h38 => ?_)
      ·
        refine r_iconst dX9_layRow_50 ?_
        refine r_iastore hm.z (by omega) (by omega) (by omega) dX9_layRow_51 ?_
        refine hm.w_z hi (fun Mx hm => ?_)
        refine r_iinc dX9_layRow_52 rfl rfl ?_
        refine r_goto (tgt := 14) dX9_layRow_55 (by decide) ?_
        refine J.loc (lsub_cons rfl (lsub_cons rfl (lsub_cons rfl (lsub_nil)))) (ih14 _ _ (uI z1 (6 + 60 * k + i) 0) ?_ ?_)
        · refine ⟨by omega, by omega, hm, (uI_n _ (by omega)).trans hz1, fun p a b c => ?_, fun j a b c d => (uI_n _ (by omega)).trans (hz3 j a b c d)⟩
          rw [uI_n _ (by omega)]; exact hz2 p a (by omega) c
        · omega
      ·
        refine r_aload_n dX9_layRow_41 rfl ?_
        refine r_getfield clX9 6 (by decide) fl_X9_19 hm.o rfl dX9_layRow_42 ?_
        refine r_iload_n dX9_layRow_45 rfl ?_
        refine r_iaload hm.r (by omega) (by omega) (by omega) dX9_layRow_46 ?_
        refine r_goto (tgt := 51) dX9_layRow_47 (by decide) ?_
        refine r_iastore hm.z (by omega) (by omega) (by omega) dX9_layRow_51 ?_
        refine hm.w_z hi (fun Mx hm => ?_)
        refine r_iinc dX9_layRow_52 rfl rfl ?_
        refine r_goto (tgt := 14) dX9_layRow_55 (by decide) ?_
        refine J.loc (lsub_cons rfl (lsub_cons rfl (lsub_cons rfl (lsub_nil)))) (ih14 _ _ (uI z1 (6 + 60 * k + i) (rA i)) ?_ ?_)
        · refine ⟨by omega, by omega, hm, (uI_n _ (by omega)).trans hz1, fun p a b c => ?_, fun j a b c d => (uI_n _ (by omega)).trans (hz3 j a b c d)⟩
          by_cases e : p = i
          · rw [e, uI_s]; exact (hr i (by omega) (by omega)).1
          · rw [uI_n _ (by omega)]; exact hz2 p a (by omega) c
        · omega
  · exact ⟨by omega, by omega, hm, uI_s _ _ _, fun p a b => by omega, fun j a b c d => uI_n _ c⟩

set_option maxHeartbeats 4000000 in
theorem mX9_layBlocks {M0 M : Mem} {ad : Int → Nat} {zA hA tA rA sA pA bA wA : Int → Int} {m len th rm bk rd nu bd sc : Int} {hs : Int64} {R : Int → Int} {a b : Int} (hm : RM M0 M ad zA hA tA rA sA pA bA wA m len th rm bk rd nu bd sc hs) (hi : Inj ad) (h2 : 0 ≤ rm ∧ rm ≤ 61) (hr : ∀ p, 0 ≤ p → p < rm → rA p = R p ∧ 0 ≤ R p ∧ R p ≤ 9999) (q0 : R32 a) (q1 : R32 b) : Ct KX9_layBlocks [.ref (ad 112), vI a, vI b] M 0 0 (atV (fun M2 => ∃ s2 : Int → Int, RM M0 M2 ad zA hA tA rA s2 pA bA wA m len th rm (nbF rm R a b) rd nu bd sc hs ∧ ∀ j, 0 ≤ j → j ≤ nbF rm R a b → s2 j = stF rm R a b j)) := by
  refine Ct.of _ (by decide) rfl (Nat.le_of_ble_eq_true rfl) ?_
  have hsp := blk_spec h2.1 R a b
  refine r_aload_n dX9_layBlocks_0 rfl ?_
  refine r_iconst dX9_layBlocks_1 ?_
  refine r_putfield clX9 9 (by decide) fl_X9_59 rfl hm.o rfl rfl (Nat.le_of_ble_eq_true rfl) dX9_layBlocks_2 ?_
  refine hm.w_blocks hi (fun Mx hm => ?_)
  refine r_iconst dX9_layBlocks_5 ?_
  refine r_istore_n dX9_layBlocks_6 (by decide) rfl ?_
  refine r_iconst dX9_layBlocks_7 ?_
  refine r_istore dX9_layBlocks_8 (by decide) rfl ?_
  refine J.loc (L' := [(0, some _), (1, some _), (2, some _), (3, some _), (4, some _)]) (lsub_cons rfl (lsub_cons rfl (lsub_cons rfl (lsub_cons rfl (lsub_cons rfl (lsub_nil)))))) (loop6 (fun (p : Int) (c : Int) (fd : Int) (M1 : Mem) (s1 : Int → Int) (G : Int → Int) => 0 ≤ p ∧ p ≤ rm ∧ 0 ≤ c ∧ c ≤ p ∧ Laid p fd G ∧ RM M0 M1 ad zA hA tA rA s1 pA bA wA m len th rm fd rd nu bd sc hs ∧ ctF rm R a b rm.toNat 0 0 0 (fun _ => 0) = ctF rm R a b (rm - p).toNat p c fd G ∧ ∀ j, 0 ≤ j → j < fd → s1 j = G j) (fun (p : Int) (c : Int) (fd : Int) (M1 : Mem) (s1 : Int → Int) (G : Int → Int) => (rm - p).toNat) (fun (p : Int) (c : Int) (fd : Int) (M1 : Mem) (s1 : Int → Int) (G : Int → Int) => J KX9_layBlocks 0 0 _ 10 [(0, some (.ref (ad 112))), (1, some (vI a)), (2, some (vI b)), (3, some (vI c)), (4, some (vI p))] [] M1 _ _) (fun p c fd M1 s1 G hI10 ih10 => ?_) _ _ 0 _ sA (fun _ => 0) ?_)
  ·
    obtain ⟨hp0, hp1, hc0, hc1, hld, hm, hct, hf1⟩ := hI10
    obtain ⟨hl1, hl2, hl3, hl4, hl5, hl6⟩ := id hld
    refine r_iload dX9_layBlocks_10 rfl ?_
    refine r_aload_n dX9_layBlocks_12 rfl ?_
    refine r_getfield clX9 7 (by decide) fl_X9_56 hm.o rfl dX9_layBlocks_13 ?_
    refine r_icmp_ge (tgt := 94) dX9_layBlocks_16 (by decide) (by omega) (by omega) (fun h16 => ?_) (fun h16 => ?_)
    ·
      refine r_aload_n dX9_layBlocks_94 rfl ?_
      refine r_getfield clX9 8 (by decide) fl_X9_22 hm.o rfl dX9_layBlocks_95 ?_
      refine r_aload_n dX9_layBlocks_98 rfl ?_
      refine r_getfield clX9 9 (by decide) fl_X9_59 hm.o rfl dX9_layBlocks_99 ?_
      refine r_aload_n dX9_layBlocks_102 rfl ?_
      refine r_getfield clX9 7 (by decide) fl_X9_56 hm.o rfl dX9_layBlocks_103 ?_
      refine r_iastore hm.s (by omega) (by omega) (by omega) dX9_layBlocks_106 ?_
      refine hm.w_s hi (fun Mx hm => ?_)
      refine e_return dX9_layBlocks_107 rfl (Nat.le_of_ble_eq_true rfl) (Nat.le_of_ble_eq_true rfl) ?_
      have hpn : p = rm := by omega
      rw [show (rm - p).toNat = 0 by omega, ctF] at hct
      have e1 : nbF rm R a b = fd := by unfold nbF; rw [hct]
      have e2 : stF rm R a b = uI G fd rm := by unfold stF; rw [e1, hct]
      rw [e1, e2]
      refine oktV ⟨_, hm, fun j a b => ?_⟩
      by_cases e : j = fd
      · rw [e, uI_s, uI_s]
      · rw [uI_n _ e, uI_n _ e]; exact hf1 j a (by omega)
    ·
      refine r_iload dX9_layBlocks_19 rfl ?_
      refine r_if_le (tgt := 54) dX9_layBlocks_21 (by decide) (by omega) (fun h21 => ?_) (fun h21 => ?_)
      ·
        refine r_iconst dX9_layBlocks_54 ?_
        refine r_istore dX9_layBlocks_55 (by decide) rfl ?_
        refine r_iload dX9_layBlocks_57 rfl ?_
        refine r_if_ne (tgt := 85) dX9_layBlocks_59 (by decide) (by omega) (fun h59 => ?_) (fun h59 => ?_)
        · omega
        ·
          refine r_aload_n dX9_layBlocks_62 rfl ?_
          refine r_getfield clX9 8 (by decide) fl_X9_22 hm.o rfl dX9_layBlocks_63 ?_
          refine r_aload_n dX9_layBlocks_66 rfl ?_
          refine r_getfield clX9 9 (by decide) fl_X9_59 hm.o rfl dX9_layBlocks_67 ?_
          refine r_iload dX9_layBlocks_70 rfl ?_
          refine r_iastore hm.s (by omega) (by omega) (by omega) dX9_layBlocks_72 ?_
          refine hm.w_s hi (fun Mx hm => ?_)
          refine r_aload_n dX9_layBlocks_73 rfl ?_
          refine r_dup dX9_layBlocks_74 ?_
          refine r_getfield clX9 9 (by decide) fl_X9_59 hm.o rfl dX9_layBlocks_75 ?_
          refine r_iconst dX9_layBlocks_78 ?_
          refine r_iadd dX9_layBlocks_79 ?_
          refine r_putfield clX9 9 (by decide) fl_X9_59 rfl hm.o rfl rfl (Nat.le_of_ble_eq_true rfl) dX9_layBlocks_80 ?_
          refine hm.w_blocks hi (fun Mx hm => ?_)
          refine r_iconst dX9_layBlocks_83 ?_
          refine r_istore_n dX9_layBlocks_84 (by decide) rfl ?_
          refine r_iinc dX9_layBlocks_85 rfl rfl ?_
          refine r_iinc dX9_layBlocks_88 rfl rfl ?_
          refine r_goto (tgt := 10) dX9_layBlocks_91 (by decide) ?_
          refine J.loc (lsub_cons rfl (lsub_cons rfl (lsub_cons rfl (lsub_cons rfl (lsub_cons rfl (lsub_nil)))))) (ih10 _ _ (fd + 1) _ (uI s1 fd p) (uI G fd p) ?_ ?_)
          · have hbb : beg rm R a b p c = true := by
              unfold beg
              by_cases e0 : p = 0
              · simp [e0]
              · rw [gapF_in (by omega) (by omega)]; simp; omega
            have hct2 := hct.trans (by rw [show (rm - p).toNat = (rm - (p + 1)).toNat + 1 by omega, ctF, if_pos hbb])
            refine ⟨by omega, by omega, by omega, by omega, ?_, hm, hct2, fun j a b => ?_⟩
            · have := ctF_laid rm R a b 1 p c fd G hp0 hld
              rw [ctF, if_pos hbb, ctF] at this
              simpa using this
            · by_cases e : j = fd
              · rw [e, uI_s, uI_s]
              · rw [uI_n _ e, uI_n _ e]; exact hf1 j a (by omega)
          · omega
      ·
        refine r_iload_n dX9_layBlocks_24 rfl ?_
        refine r_iload_n dX9_layBlocks_25 rfl ?_
        refine r_icmp_ge (tgt := 54) dX9_layBlocks_26 (by decide) (by omega) (by omega) (fun h26 => ?_) (fun h26 => ?_)
        ·
          refine r_iconst dX9_layBlocks_54 ?_
          refine r_istore dX9_layBlocks_55 (by decide) rfl ?_
          refine r_iload dX9_layBlocks_57 rfl ?_
          refine r_if_ne (tgt := 85) dX9_layBlocks_59 (by decide) (by omega) (fun h59 => ?_) (fun h59 => ?_)
          · omega
          ·
            refine r_aload_n dX9_layBlocks_62 rfl ?_
            refine r_getfield clX9 8 (by decide) fl_X9_22 hm.o rfl dX9_layBlocks_63 ?_
            refine r_aload_n dX9_layBlocks_66 rfl ?_
            refine r_getfield clX9 9 (by decide) fl_X9_59 hm.o rfl dX9_layBlocks_67 ?_
            refine r_iload dX9_layBlocks_70 rfl ?_
            refine r_iastore hm.s (by omega) (by omega) (by omega) dX9_layBlocks_72 ?_
            refine hm.w_s hi (fun Mx hm => ?_)
            refine r_aload_n dX9_layBlocks_73 rfl ?_
            refine r_dup dX9_layBlocks_74 ?_
            refine r_getfield clX9 9 (by decide) fl_X9_59 hm.o rfl dX9_layBlocks_75 ?_
            refine r_iconst dX9_layBlocks_78 ?_
            refine r_iadd dX9_layBlocks_79 ?_
            refine r_putfield clX9 9 (by decide) fl_X9_59 rfl hm.o rfl rfl (Nat.le_of_ble_eq_true rfl) dX9_layBlocks_80 ?_
            refine hm.w_blocks hi (fun Mx hm => ?_)
            refine r_iconst dX9_layBlocks_83 ?_
            refine r_istore_n dX9_layBlocks_84 (by decide) rfl ?_
            refine r_iinc dX9_layBlocks_85 rfl rfl ?_
            refine r_iinc dX9_layBlocks_88 rfl rfl ?_
            refine r_goto (tgt := 10) dX9_layBlocks_91 (by decide) ?_
            refine J.loc (lsub_cons rfl (lsub_cons rfl (lsub_cons rfl (lsub_cons rfl (lsub_cons rfl (lsub_nil)))))) (ih10 _ _ (fd + 1) _ (uI s1 fd p) (uI G fd p) ?_ ?_)
            · have hbb : beg rm R a b p c = true := by
                unfold beg
                by_cases e0 : p = 0
                · simp [e0]
                · rw [gapF_in (by omega) (by omega)]; simp; omega
              have hct2 := hct.trans (by rw [show (rm - p).toNat = (rm - (p + 1)).toNat + 1 by omega, ctF, if_pos hbb])
              refine ⟨by omega, by omega, by omega, by omega, ?_, hm, hct2, fun j a b => ?_⟩
              · have := ctF_laid rm R a b 1 p c fd G hp0 hld
                rw [ctF, if_pos hbb, ctF] at this
                simpa using this
              · by_cases e : j = fd
                · rw [e, uI_s, uI_s]
                · rw [uI_n _ e, uI_n _ e]; exact hf1 j a (by omega)
            · omega
        ·
          have hr0 := hr p (by omega) (by omega)
          have hr1 := hr (p - 1) (by omega) (by omega)
          refine r_aload_n dX9_layBlocks_29 rfl ?_
          refine r_getfield clX9 6 (by decide) fl_X9_19 hm.o rfl dX9_layBlocks_30 ?_
          refine r_iload dX9_layBlocks_33 rfl ?_
          refine r_iaload hm.r (by omega) (by omega) (by omega) dX9_layBlocks_35 ?_
          refine r_aload_n dX9_layBlocks_36 rfl ?_
          refine r_getfield clX9 6 (by decide) fl_X9_19 hm.o rfl dX9_layBlocks_37 ?_
          refine r_iload dX9_layBlocks_40 rfl ?_
          refine r_iconst dX9_layBlocks_42 ?_
          refine r_isub dX9_layBlocks_43 ?_
          refine r_iaload hm.r (by omega) (by omega) (by omega) dX9_layBlocks_44 ?_
          refine r_isub dX9_layBlocks_45 ?_
          refine r_iload_n dX9_layBlocks_46 rfl ?_
          refine r_icmp_gt (tgt := 54) dX9_layBlocks_47 (by decide) (by omega) (by omega) (fun h47 => ?_) (fun h47 => ?_)
          ·
            refine r_iconst dX9_layBlocks_54 ?_
            refine r_istore dX9_layBlocks_55 (by decide) rfl ?_
            refine r_iload dX9_layBlocks_57 rfl ?_
            refine r_if_ne (tgt := 85) dX9_layBlocks_59 (by decide) (by omega) (fun h59 => ?_) (fun h59 => ?_)
            · omega
            ·
              refine r_aload_n dX9_layBlocks_62 rfl ?_
              refine r_getfield clX9 8 (by decide) fl_X9_22 hm.o rfl dX9_layBlocks_63 ?_
              refine r_aload_n dX9_layBlocks_66 rfl ?_
              refine r_getfield clX9 9 (by decide) fl_X9_59 hm.o rfl dX9_layBlocks_67 ?_
              refine r_iload dX9_layBlocks_70 rfl ?_
              refine r_iastore hm.s (by omega) (by omega) (by omega) dX9_layBlocks_72 ?_
              refine hm.w_s hi (fun Mx hm => ?_)
              refine r_aload_n dX9_layBlocks_73 rfl ?_
              refine r_dup dX9_layBlocks_74 ?_
              refine r_getfield clX9 9 (by decide) fl_X9_59 hm.o rfl dX9_layBlocks_75 ?_
              refine r_iconst dX9_layBlocks_78 ?_
              refine r_iadd dX9_layBlocks_79 ?_
              refine r_putfield clX9 9 (by decide) fl_X9_59 rfl hm.o rfl rfl (Nat.le_of_ble_eq_true rfl) dX9_layBlocks_80 ?_
              refine hm.w_blocks hi (fun Mx hm => ?_)
              refine r_iconst dX9_layBlocks_83 ?_
              refine r_istore_n dX9_layBlocks_84 (by decide) rfl ?_
              refine r_iinc dX9_layBlocks_85 rfl rfl ?_
              refine r_iinc dX9_layBlocks_88 rfl rfl ?_
              refine r_goto (tgt := 10) dX9_layBlocks_91 (by decide) ?_
              refine J.loc (lsub_cons rfl (lsub_cons rfl (lsub_cons rfl (lsub_cons rfl (lsub_cons rfl (lsub_nil)))))) (ih10 _ _ (fd + 1) _ (uI s1 fd p) (uI G fd p) ?_ ?_)
              · have hbb : beg rm R a b p c = true := by
                  unfold beg
                  by_cases e0 : p = 0
                  · simp [e0]
                  · rw [gapF_in (by omega) (by omega)]; simp; omega
                have hct2 := hct.trans (by rw [show (rm - p).toNat = (rm - (p + 1)).toNat + 1 by omega, ctF, if_pos hbb])
                refine ⟨by omega, by omega, by omega, by omega, ?_, hm, hct2, fun j a b => ?_⟩
                · have := ctF_laid rm R a b 1 p c fd G hp0 hld
                  rw [ctF, if_pos hbb, ctF] at this
                  simpa using this
                · by_cases e : j = fd
                  · rw [e, uI_s, uI_s]
                  · rw [uI_n _ e, uI_n _ e]; exact hf1 j a (by omega)
              · omega
          ·
            refine r_iconst dX9_layBlocks_50 ?_
            refine r_goto (tgt := 55) dX9_layBlocks_51 (by decide) ?_
            refine r_istore dX9_layBlocks_55 (by decide) rfl ?_
            refine r_iload dX9_layBlocks_57 rfl ?_
            refine r_if_ne (tgt := 85) dX9_layBlocks_59 (by decide) (by omega) (fun h59 => ?_) (fun h59 => ?_)
            ·
              refine r_iinc dX9_layBlocks_85 rfl rfl ?_
              refine r_iinc dX9_layBlocks_88 rfl rfl ?_
              refine r_goto (tgt := 10) dX9_layBlocks_91 (by decide) ?_
              refine J.loc (lsub_cons rfl (lsub_cons rfl (lsub_cons rfl (lsub_cons rfl (lsub_cons rfl (lsub_nil)))))) (ih10 _ _ fd _ s1 G ?_ ?_)
              · have hbb : ¬ beg rm R a b p c = true := by unfold beg; rw [gapF_in (by omega) (by omega)]; simp; omega
                have hct2 := hct.trans (by rw [show (rm - p).toNat = (rm - (p + 1)).toNat + 1 by omega, ctF, if_neg hbb])
                refine ⟨by omega, by omega, by omega, by omega, ?_, hm, hct2, hf1⟩
                have := ctF_laid rm R a b 1 p c fd G hp0 hld
                rw [ctF, if_neg hbb, ctF] at this
                simpa using this
              · omega
            · omega
  · exact ⟨by omega, by omega, by omega, by omega, ⟨by omega, by omega, fun h => by omega, fun h => by omega, fun j a b => by omega, fun i j a b c => by omega⟩, hm, by simp, fun j a b => by omega⟩
