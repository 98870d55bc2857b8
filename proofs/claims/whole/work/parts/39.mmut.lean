/-! the model: what its public methods change -/
theorem put_has {N : Nat} {n : Int} {F : Int → Int} {x : Int} (h : hasF n F x = true) : putN N n F x = n ∧ putF N n F x = F := by
  have e : ¬ putOk N n F x = true := by unfold putOk; rw [h]; simp
  unfold putN putF
  rw [if_neg e, if_neg e]
  exact ⟨rfl, rfl⟩
theorem put_new {N : Nat} {n : Int} {F : Int → Int} {x : Int} (h : ¬ hasF n F x = true) (hN : n < N) : putN N n F x = n + 1 ∧ putF N n F x = insF F (plc n F x) x := by
  have e : putOk N n F x = true := by unfold putOk; rw [decide_eq_true hN]; cases h9 : hasF n F x <;> simp_all
  unfold putN putF
  rw [if_pos e, if_pos e]
  exact ⟨rfl, rfl⟩
def whE (len : Int) (c : Int → Int) : Bool := whF (prR len c).2.2.2.2.1 (prR len c).2.2.2.2.2.1 (prR len c).2.2.2.2.2.2.1
theorem pw_iff {len : Int} (hl : 0 ≤ len) (c : Int → Int) : pwF len c = true ↔ (prR len c).1 = len ∧ whE len c = true := by
  have h := psR_r c len.toNat 0 ps0
  have e : psR c len.toNat 0 ps0 = prR len c := rfl
  rw [e] at h
  unfold pwF whE
  rw [Bool.and_eq_true, decide_eq_true_eq]
  constructor
  · rintro ⟨a, b⟩; exact ⟨by omega, b⟩
  · rintro ⟨a, b⟩; exact ⟨by omega, b⟩
theorem prR_ok (len : Int) (c : Int → Int) : PsOk (prR len c).2 (prR len c).1 := psR_ok c len.toNat 0 ps0 ps0_ok
theorem prR_r {len : Int} (hl : 0 ≤ len) (c : Int → Int) : 0 ≤ (prR len c).1 ∧ (prR len c).1 ≤ len := by
  have h := psR_r c len.toNat 0 ps0
  have e : psR c len.toNat 0 ps0 = prR len c := rfl
  rw [e] at h
  omega
theorem read_rd {pA : Int → Int} {rd nu bd sc len : Int} {c : Int → Int} (hl : 0 ≤ len ∧ len ≤ 60) (hp : PrM pA rd nu bd sc (prR len c).2) : (0 ≤ rd ∧ rd ≤ 31) ∧ (sc = 0 ∨ sc = 1) ∧ ptN len c = rd + 1 := by
  have hok := prR_ok len c
  have hr := prR_r hl.1 c
  unfold ptN
  generalize prR len c = R at *
  obtain ⟨r, pa, ir, fi, le, va, di, A, B⟩ := R
  obtain ⟨h1, h2, h3, h4, h5, h6⟩ := hp
  unfold PsOk at hok
  dsimp only [clS] at *
  split at hok <;> omega
theorem read_close {pA : Int → Int} {rd nu bd sc len : Int} {c : Int → Int} (hp : PrM pA rd nu bd sc (prR len c).2) (hw : whE len c = true) : ∀ j, 0 ≤ j → j < rd + 1 → enP pA rd nu sc (2 * j) = ptA len c j ∧ enP pA rd nu sc (2 * j + 1) = ptB len c j := by
  have hok := prR_ok len c
  unfold whE at hw
  unfold ptA ptB
  generalize prR len c = R at *
  obtain ⟨r, pa, ir, fi, le, va, di, A, B⟩ := R
  have h1 : rd = pa := hp.1
  have h := (hp.close hok hw).2
  intro j a b
  exact h j a (by omega)
theorem read_end {M0 M : Mem} {ad : Int → Nat} {zA hA tA rA sA pA bA wA : Int → Int} {m len th rm bk rd nu bd sc : Int} {hs : Int64} {c : Int → Int} (hm : RM M0 M ad zA hA tA rA sA pA bA wA m len th rm bk rd nu bd sc hs) (hp : PrM pA rd nu bd sc (prR len c).2) : Ct KX9_isEnded [.ref (ad 112)] M 0 0 (rtI (bI (whE len c)) M) := by
  have hok := prR_ok len c
  unfold whE
  generalize prR len c = R at *
  obtain ⟨r, pa, ir, fi, le, va, di, A, B⟩ := R
  exact mX9_isEnded hm hp hok
theorem Zr.setG {z n : Int → Int} {F : Int → Int → Int} {g : Int → Int} (h : Zr z n F g) {k v : Int} (hk : 0 ≤ k ∧ k < 2) : Zr (uI z k v) n F (uI g k v) := by
  obtain ⟨h1, h2, h3⟩ := h
  refine ⟨?_, ?_, fun j a b => ?_⟩
  · by_cases e : (0 : Int) = k
    · rw [← e, uI_s, uI_s]
    · rw [uI_n _ e, uI_n _ e]; exact h1
  · by_cases e : (1 : Int) = k
    · rw [← e, uI_s, uI_s]
    · rw [uI_n _ e, uI_n _ e]; exact h2
  · obtain ⟨c1, c2, c3, c4⟩ := h3 j a b
    refine ⟨(uI_n _ (by omega)).trans c1, c2, c3, fun p d e => ?_⟩
    obtain ⟨e1, e2⟩ := c4 p d e
    exact ⟨(uI_n _ (by omega)).trans e1, e2⟩
set_option maxHeartbeats 4000000 in
theorem mX9_add_x0 {M0 M : Mem} {ad : Int → Nat} {n : Int → Int} {F : Int → Int → Int} {g : Int → Int} {m : Int} {S : Int → Sg3} {len : Int} {c : Int → Int} {th : Int} {k x : Int} (hR : RS M0 M ad (n, F, g) m S len c th) (hi : Inj ad) (hv : Vld (n, F, g)) (q0 : R32 k) (q1 : R32 x) (hc0 : ¬ (0 ≤ k ∧ k < 4)) : Ct KX9_add [.ref (ad 112), vI k, vI x] M 0 0 (UR (e2 (eSet k) (e2 (eB (0 ≤ x ∧ x ≤ 9999) xA) (eB (hasF (n k) (F k) x = true ∨ n k < 60) xS))) (1 - bI (hasF (n k) (F k) x)) tc3 (fun M2 => RS M0 M2 ad (uI n k (putN 60 (n k) (F k) x), uI F k (putF 60 (n k) (F k) x), g) (svM m) (svS m S (n, F, g)) len c 0) (fun t M2 => RS M0 M2 ad (n, F, g) m S len c t)) := by
  refine Ct.of _ (by decide) rfl (Nat.le_of_ble_eq_true rfl) ?_
  obtain ⟨zA, hA, tA, pA, rd, nu, bd, sc, hs, ⟨rA, sA, bA, wA, rm, bk, hm⟩, hz, hh, hm6, ht, hl⟩ := hR
  change Zr zA n F g at hz
  obtain ⟨hvs, hv0, hv1, hv2, hv3⟩ := id hv
  dsimp only at hvs hv0 hv1 hv2 hv3
  have hg : (2 ≤ g 0 ∧ g 0 ≤ 16) ∧ 1 ≤ g 1 ∧ g 1 ≤ 9999 := ⟨⟨hv0, hv1⟩, hv2, hv3⟩
  refine r_aload_n dX9_add_0 rfl ?_
  refine r_iload_n dX9_add_1 rfl ?_
  refine r_callS1 okX9_isSet ⟨by decide, by decide⟩ ml_X9_81 (mX9_isSet (v := 0) (by omega) (by first | rw [if_pos (by omega)] | rw [if_neg (by omega)])) (Nat.le_of_ble_eq_true rfl) (Nat.le_of_ble_eq_true rfl) (Nat.le_of_ble_eq_true rfl) rfl dX9_add_2 (nx_I) (kx_I ?_)
  refine r_if_ne (tgt := 12) dX9_add_5 (by decide) (by omega) (fun h5 => ?_) (fun h5 => ?_)
  · omega
  ·
    refine r_iconst dX9_add_8 ?_
    refine r_goto (tgt := 47) dX9_add_9 (by decide) ?_
    refine r_putfield clX9 5 (by decide) fl_X9_34 rfl hm.o rfl rfl (Nat.le_of_ble_eq_true rfl) dX9_add_47 ?_
    refine hm.w_thrown hi (fun Mx hm => ?_)
    refine r_aload_n dX9_add_50 rfl ?_
    refine r_getfield clX9 5 (by decide) fl_X9_34 hm.o rfl dX9_add_51 ?_
    refine r_if_le (tgt := 59) dX9_add_54 (by decide) (by omega) (fun h54 => ?_) (fun h54 => ?_)
    · omega
    ·
      refine r_iconst dX9_add_57 ?_
      refine e_ireturn dX9_add_58 rfl (Nat.le_of_ble_eq_true rfl) (Nat.le_of_ble_eq_true rfl) ?_
      exact exUR (e2_x (eSet_f hc0) (by decide)) (by decide) (by decide) ⟨_, _, _, _, _, _, _, _, _, hm.q, hz, hh, hm6, ht, hl⟩

set_option maxHeartbeats 4000000 in
theorem mX9_add_x1 {M0 M : Mem} {ad : Int → Nat} {n : Int → Int} {F : Int → Int → Int} {g : Int → Int} {m : Int} {S : Int → Sg3} {len : Int} {c : Int → Int} {th : Int} {k x : Int} (hR : RS M0 M ad (n, F, g) m S len c th) (hi : Inj ad) (hv : Vld (n, F, g)) (q0 : R32 k) (q1 : R32 x) (hc0 : 0 ≤ k ∧ k < 4) (hc1 : ¬ (0 ≤ x ∧ x ≤ 9999)) : Ct KX9_add [.ref (ad 112), vI k, vI x] M 0 0 (UR (e2 (eSet k) (e2 (eB (0 ≤ x ∧ x ≤ 9999) xA) (eB (hasF (n k) (F k) x = true ∨ n k < 60) xS))) (1 - bI (hasF (n k) (F k) x)) tc3 (fun M2 => RS M0 M2 ad (uI n k (putN 60 (n k) (F k) x), uI F k (putF 60 (n k) (F k) x), g) (svM m) (svS m S (n, F, g)) len c 0) (fun t M2 => RS M0 M2 ad (n, F, g) m S len c t)) := by
  refine Ct.of _ (by decide) rfl (Nat.le_of_ble_eq_true rfl) ?_
  obtain ⟨zA, hA, tA, pA, rd, nu, bd, sc, hs, ⟨rA, sA, bA, wA, rm, bk, hm⟩, hz, hh, hm6, ht, hl⟩ := hR
  change Zr zA n F g at hz
  obtain ⟨hvs, hv0, hv1, hv2, hv3⟩ := id hv
  dsimp only at hvs hv0 hv1 hv2 hv3
  have hg : (2 ≤ g 0 ∧ g 0 ≤ 16) ∧ 1 ≤ g 1 ∧ g 1 ≤ 9999 := ⟨⟨hv0, hv1⟩, hv2, hv3⟩
  refine r_aload_n dX9_add_0 rfl ?_
  refine r_iload_n dX9_add_1 rfl ?_
  refine r_callS1 okX9_isSet ⟨by decide, by decide⟩ ml_X9_81 (mX9_isSet (v := 1) (by omega) (by first | rw [if_pos (by omega)] | rw [if_neg (by omega)])) (Nat.le_of_ble_eq_true rfl) (Nat.le_of_ble_eq_true rfl) (Nat.le_of_ble_eq_true rfl) rfl dX9_add_2 (nx_I) (kx_I ?_)
  refine r_if_ne (tgt := 12) dX9_add_5 (by decide) (by omega) (fun h5 => ?_) (fun h5 => ?_)
  ·
    refine r_iload_n dX9_add_12 rfl ?_
    refine r_callS1 okX9_isNumber ⟨by decide, by decide⟩ ml_X9_85 (mX9_isNumber (v := 0) (by omega) (by first | rw [if_pos (by omega)] | rw [if_neg (by omega)])) (Nat.le_of_ble_eq_true rfl) (Nat.le_of_ble_eq_true rfl) (Nat.le_of_ble_eq_true rfl) rfl dX9_add_13 (nx_I) (kx_I ?_)
    refine r_if_ne (tgt := 23) dX9_add_16 (by decide) (by omega) (fun h16 => ?_) (fun h16 => ?_)
    · omega
    ·
      refine r_iconst dX9_add_19 ?_
      refine r_goto (tgt := 47) dX9_add_20 (by decide) ?_
      refine r_putfield clX9 5 (by decide) fl_X9_34 rfl hm.o rfl rfl (Nat.le_of_ble_eq_true rfl) dX9_add_47 ?_
      refine hm.w_thrown hi (fun Mx hm => ?_)
      refine r_aload_n dX9_add_50 rfl ?_
      refine r_getfield clX9 5 (by decide) fl_X9_34 hm.o rfl dX9_add_51 ?_
      refine r_if_le (tgt := 59) dX9_add_54 (by decide) (by omega) (fun h54 => ?_) (fun h54 => ?_)
      · omega
      ·
        refine r_iconst dX9_add_57 ?_
        refine e_ireturn dX9_add_58 rfl (Nat.le_of_ble_eq_true rfl) (Nat.le_of_ble_eq_true rfl) ?_
        exact exUR ((e2_ok (eSet_t hc0)).trans (e2_x (eB_f hc1) (by decide))) (by decide) (by decide) ⟨_, _, _, _, _, _, _, _, _, hm.q, hz, hh, hm6, ht, hl⟩
  · omega

set_option maxHeartbeats 4000000 in
theorem mX9_add_x2 {M0 M : Mem} {ad : Int → Nat} {n : Int → Int} {F : Int → Int → Int} {g : Int → Int} {m : Int} {S : Int → Sg3} {len : Int} {c : Int → Int} {th : Int} {k x : Int} (hR : RS M0 M ad (n, F, g) m S len c th) (hi : Inj ad) (hv : Vld (n, F, g)) (q0 : R32 k) (q1 : R32 x) (hc0 : 0 ≤ k ∧ k < 4) (hc1 : 0 ≤ x ∧ x ≤ 9999) (hc2 : ¬ (hasF (n k) (F k) x = true ∨ n k < 60)) : Ct KX9_add [.ref (ad 112), vI k, vI x] M 0 0 (UR (e2 (eSet k) (e2 (eB (0 ≤ x ∧ x ≤ 9999) xA) (eB (hasF (n k) (F k) x = true ∨ n k < 60) xS))) (1 - bI (hasF (n k) (F k) x)) tc3 (fun M2 => RS M0 M2 ad (uI n k (putN 60 (n k) (F k) x), uI F k (putF 60 (n k) (F k) x), g) (svM m) (svS m S (n, F, g)) len c 0) (fun t M2 => RS M0 M2 ad (n, F, g) m S len c t)) := by
  refine Ct.of _ (by decide) rfl (Nat.le_of_ble_eq_true rfl) ?_
  obtain ⟨zA, hA, tA, pA, rd, nu, bd, sc, hs, ⟨rA, sA, bA, wA, rm, bk, hm⟩, hz, hh, hm6, ht, hl⟩ := hR
  change Zr zA n F g at hz
  obtain ⟨hvs, hv0, hv1, hv2, hv3⟩ := id hv
  dsimp only at hvs hv0 hv1 hv2 hv3
  have hg : (2 ≤ g 0 ∧ g 0 ≤ 16) ∧ 1 ≤ g 1 ∧ g 1 ≤ 9999 := ⟨⟨hv0, hv1⟩, hv2, hv3⟩
  refine r_aload_n dX9_add_0 rfl ?_
  refine r_iload_n dX9_add_1 rfl ?_
  refine r_callS1 okX9_isSet ⟨by decide, by decide⟩ ml_X9_81 (mX9_isSet (v := 1) (by omega) (by first | rw [if_pos (by omega)] | rw [if_neg (by omega)])) (Nat.le_of_ble_eq_true rfl) (Nat.le_of_ble_eq_true rfl) (Nat.le_of_ble_eq_true rfl) rfl dX9_add_2 (nx_I) (kx_I ?_)
  refine r_if_ne (tgt := 12) dX9_add_5 (by decide) (by omega) (fun h5 => ?_) (fun h5 => ?_)
  ·
    refine r_iload_n dX9_add_12 rfl ?_
    refine r_callS1 okX9_isNumber ⟨by decide, by decide⟩ ml_X9_85 (mX9_isNumber (v := 1) (by omega) (by first | rw [if_pos (by omega)] | rw [if_neg (by omega)])) (Nat.le_of_ble_eq_true rfl) (Nat.le_of_ble_eq_true rfl) (Nat.le_of_ble_eq_true rfl) rfl dX9_add_13 (nx_I) (kx_I ?_)
    refine r_if_ne (tgt := 23) dX9_add_16 (by decide) (by omega) (fun h16 => ?_) (fun h16 => ?_)
    ·
      refine r_aload_n dX9_add_23 rfl ?_
      refine r_iload_n dX9_add_24 rfl ?_
      refine r_iload_n dX9_add_25 rfl ?_
      refine r_callV2 okX9_isMember ⟨by decide, by decide⟩ ml_X9_88 (mX9_isMember (v := 0) hm hz hc0.1 hc0.2 (by omega) (bI_eq0 (fun h => hc2 (Or.inl h)))) hm.o rfl rfl (Nat.le_of_ble_eq_true rfl) (Nat.le_of_ble_eq_true rfl) (Nat.le_of_ble_eq_true rfl) rfl dX9_add_26 (nx_I) (kx_I ?_)
      refine r_if_ne (tgt := 46) dX9_add_29 (by decide) (by omega) (fun h29 => ?_) (fun h29 => ?_)
      · omega
      ·
        have hzn := hz.n hc0.1 hc0.2
        first | (have h60 : ¬ n k < 60 := fun h => hc2 (Or.inr h)) | (have h60 : n k < 60 := hc2.resolve_left hcs)
        refine r_aload_n dX9_add_32 rfl ?_
        refine r_iload_n dX9_add_33 rfl ?_
        refine r_callV1 okX9_many ⟨by decide, by decide⟩ ml_X9_45 (mX9_many hm hz hc0.1 hc0.2) hm.o rfl rfl (Nat.le_of_ble_eq_true rfl) (Nat.le_of_ble_eq_true rfl) (Nat.le_of_ble_eq_true rfl) rfl dX9_add_34 (nx_I) (kx_I ?_)
        refine r_bipush dX9_add_37 (by decide) ?_
        refine r_icmp_ne (tgt := 46) dX9_add_39 (by decide) (by omega) (by omega) (fun h39 => ?_) (fun h39 => ?_)
        · omega
        ·
          refine r_iconst dX9_add_42 ?_
          refine r_goto (tgt := 47) dX9_add_43 (by decide) ?_
          refine r_putfield clX9 5 (by decide) fl_X9_34 rfl hm.o rfl rfl (Nat.le_of_ble_eq_true rfl) dX9_add_47 ?_
          refine hm.w_thrown hi (fun Mx hm => ?_)
          refine r_aload_n dX9_add_50 rfl ?_
          refine r_getfield clX9 5 (by decide) fl_X9_34 hm.o rfl dX9_add_51 ?_
          refine r_if_le (tgt := 59) dX9_add_54 (by decide) (by omega) (fun h54 => ?_) (fun h54 => ?_)
          · omega
          ·
            refine r_iconst dX9_add_57 ?_
            refine e_ireturn dX9_add_58 rfl (Nat.le_of_ble_eq_true rfl) (Nat.le_of_ble_eq_true rfl) ?_
            exact exUR ((e2_ok (eSet_t hc0)).trans ((e2_ok (eB_t hc1)).trans (eB_f hc2))) (by decide) (by decide) ⟨_, _, _, _, _, _, _, _, _, hm.q, hz, hh, hm6, ht, hl⟩
    · omega
  · omega

set_option maxHeartbeats 4000000 in
theorem mX9_add_ok0 {M0 M : Mem} {ad : Int → Nat} {n : Int → Int} {F : Int → Int → Int} {g : Int → Int} {m : Int} {S : Int → Sg3} {len : Int} {c : Int → Int} {th : Int} {k x : Int} (hR : RS M0 M ad (n, F, g) m S len c th) (hi : Inj ad) (hv : Vld (n, F, g)) (q0 : R32 k) (q1 : R32 x) (hc0 : 0 ≤ k ∧ k < 4) (hc1 : 0 ≤ x ∧ x ≤ 9999) (hc2 : hasF (n k) (F k) x = true ∨ n k < 60) (hcs : hasF (n k) (F k) x = true) : Ct KX9_add [.ref (ad 112), vI k, vI x] M 0 0 (UR (e2 (eSet k) (e2 (eB (0 ≤ x ∧ x ≤ 9999) xA) (eB (hasF (n k) (F k) x = true ∨ n k < 60) xS))) (1 - bI (hasF (n k) (F k) x)) tc3 (fun M2 => RS M0 M2 ad (uI n k (putN 60 (n k) (F k) x), uI F k (putF 60 (n k) (F k) x), g) (svM m) (svS m S (n, F, g)) len c 0) (fun t M2 => RS M0 M2 ad (n, F, g) m S len c t)) := by
  refine Ct.of _ (by decide) rfl (Nat.le_of_ble_eq_true rfl) ?_
  obtain ⟨zA, hA, tA, pA, rd, nu, bd, sc, hs, ⟨rA, sA, bA, wA, rm, bk, hm⟩, hz, hh, hm6, ht, hl⟩ := hR
  change Zr zA n F g at hz
  obtain ⟨hvs, hv0, hv1, hv2, hv3⟩ := id hv
  dsimp only at hvs hv0 hv1 hv2 hv3
  have hg : (2 ≤ g 0 ∧ g 0 ≤ 16) ∧ 1 ≤ g 1 ∧ g 1 ≤ 9999 := ⟨⟨hv0, hv1⟩, hv2, hv3⟩
  refine r_aload_n dX9_add_0 rfl ?_
  refine r_iload_n dX9_add_1 rfl ?_
  refine r_callS1 okX9_isSet ⟨by decide, by decide⟩ ml_X9_81 (mX9_isSet (v := 1) (by omega) (by first | rw [if_pos (by omega)] | rw [if_neg (by omega)])) (Nat.le_of_ble_eq_true rfl) (Nat.le_of_ble_eq_true rfl) (Nat.le_of_ble_eq_true rfl) rfl dX9_add_2 (nx_I) (kx_I ?_)
  refine r_if_ne (tgt := 12) dX9_add_5 (by decide) (by omega) (fun h5 => ?_) (fun h5 => ?_)
  ·
    refine r_iload_n dX9_add_12 rfl ?_
    refine r_callS1 okX9_isNumber ⟨by decide, by decide⟩ ml_X9_85 (mX9_isNumber (v := 1) (by omega) (by first | rw [if_pos (by omega)] | rw [if_neg (by omega)])) (Nat.le_of_ble_eq_true rfl) (Nat.le_of_ble_eq_true rfl) (Nat.le_of_ble_eq_true rfl) rfl dX9_add_13 (nx_I) (kx_I ?_)
    refine r_if_ne (tgt := 23) dX9_add_16 (by decide) (by omega) (fun h16 => ?_) (fun h16 => ?_)
    ·
      refine r_aload_n dX9_add_23 rfl ?_
      refine r_iload_n dX9_add_24 rfl ?_
      refine r_iload_n dX9_add_25 rfl ?_
      refine r_callV2 okX9_isMember ⟨by decide, by decide⟩ ml_X9_88 (mX9_isMember (v := 1) hm hz hc0.1 hc0.2 (by omega) (bI_eq1 hcs)) hm.o rfl rfl (Nat.le_of_ble_eq_true rfl) (Nat.le_of_ble_eq_true rfl) (Nat.le_of_ble_eq_true rfl) rfl dX9_add_26 (nx_I) (kx_I ?_)
      refine r_if_ne (tgt := 46) dX9_add_29 (by decide) (by omega) (fun h29 => ?_) (fun h29 => ?_)
      ·
        refine r_iconst dX9_add_46 ?_
        refine r_putfield clX9 5 (by decide) fl_X9_34 rfl hm.o rfl rfl (Nat.le_of_ble_eq_true rfl) dX9_add_47 ?_
        refine hm.w_thrown hi (fun Mx hm => ?_)
        refine r_aload_n dX9_add_50 rfl ?_
        refine r_getfield clX9 5 (by decide) fl_X9_34 hm.o rfl dX9_add_51 ?_
        refine r_if_le (tgt := 59) dX9_add_54 (by decide) (by omega) (fun h54 => ?_) (fun h54 => ?_)
        ·
          refine r_aload_n dX9_add_59 rfl ?_
          refine r_callV0 okX9_save ⟨by decide, by decide⟩ ml_X9_92 (mX9_save (σ := (n, F, g)) (S := S) hm hi hz hh hm6) hm.o rfl rfl (Nat.le_of_ble_eq_true rfl) (Nat.le_of_ble_eq_true rfl) (Nat.le_of_ble_eq_true rfl) rfl dX9_add_60 (nx_tV) (kx_tV ?_)
          intro Mx hM
          obtain ⟨hA, hm, hh⟩ := hM
          have hm6 : 0 ≤ svM m ∧ svM m ≤ 6 := by unfold svM; split <;> omega
          refine r_aload_n dX9_add_63 rfl ?_
          refine r_iload_n dX9_add_64 rfl ?_
          refine r_iload_n dX9_add_65 rfl ?_
          refine r_callV2 okX9_isMember ⟨by decide, by decide⟩ ml_X9_88 (mX9_isMember (v := 1) hm hz hc0.1 hc0.2 (by omega) (bI_eq1 hcs)) hm.o rfl rfl (Nat.le_of_ble_eq_true rfl) (Nat.le_of_ble_eq_true rfl) (Nat.le_of_ble_eq_true rfl) rfl dX9_add_66 (nx_I) (kx_I ?_)
          refine r_if_eq (tgt := 74) dX9_add_69 (by decide) (by omega) (fun h69 => ?_) (fun h69 => ?_)
          · omega
          ·
            refine r_iconst dX9_add_72 ?_
            refine e_ireturn dX9_add_73 rfl (Nat.le_of_ble_eq_true rfl) (Nat.le_of_ble_eq_true rfl) ?_
            exact okUR ((e2_ok (eSet_t hc0)).trans ((e2_ok (eB_t hc1)).trans (eB_t hc2))) (by rw [hcs]; rfl) ⟨_, _, _, _, _, _, _, _, _, hm.q, (by show Zr zA (uI n k (putN 60 (n k) (F k) x)) (uI F k (putF 60 (n k) (F k) x)) g; rw [(put_has hcs).1, (put_has hcs).2, uI_self, uI_self]; exact hz), hh, hm6, ht, hl⟩
        · omega
      · omega
    · omega
  · omega

set_option maxHeartbeats 4000000 in
theorem mX9_add_ok1 {M0 M : Mem} {ad : Int → Nat} {n : Int → Int} {F : Int → Int → Int} {g : Int → Int} {m : Int} {S : Int → Sg3} {len : Int} {c : Int → Int} {th : Int} {k x : Int} (hR : RS M0 M ad (n, F, g) m S len c th) (hi : Inj ad) (hv : Vld (n, F, g)) (q0 : R32 k) (q1 : R32 x) (hc0 : 0 ≤ k ∧ k < 4) (hc1 : 0 ≤ x ∧ x ≤ 9999) (hc2 : hasF (n k) (F k) x = true ∨ n k < 60) (hcs : ¬ hasF (n k) (F k) x = true) : Ct KX9_add [.ref (ad 112), vI k, vI x] M 0 0 (UR (e2 (eSet k) (e2 (eB (0 ≤ x ∧ x ≤ 9999) xA) (eB (hasF (n k) (F k) x = true ∨ n k < 60) xS))) (1 - bI (hasF (n k) (F k) x)) tc3 (fun M2 => RS M0 M2 ad (uI n k (putN 60 (n k) (F k) x), uI F k (putF 60 (n k) (F k) x), g) (svM m) (svS m S (n, F, g)) len c 0) (fun t M2 => RS M0 M2 ad (n, F, g) m S len c t)) := by
  refine Ct.of _ (by decide) rfl (Nat.le_of_ble_eq_true rfl) ?_
  obtain ⟨zA, hA, tA, pA, rd, nu, bd, sc, hs, ⟨rA, sA, bA, wA, rm, bk, hm⟩, hz, hh, hm6, ht, hl⟩ := hR
  change Zr zA n F g at hz
  obtain ⟨hvs, hv0, hv1, hv2, hv3⟩ := id hv
  dsimp only at hvs hv0 hv1 hv2 hv3
  have hg : (2 ≤ g 0 ∧ g 0 ≤ 16) ∧ 1 ≤ g 1 ∧ g 1 ≤ 9999 := ⟨⟨hv0, hv1⟩, hv2, hv3⟩
  refine r_aload_n dX9_add_0 rfl ?_
  refine r_iload_n dX9_add_1 rfl ?_
  refine r_callS1 okX9_isSet ⟨by decide, by decide⟩ ml_X9_81 (mX9_isSet (v := 1) (by omega) (by first | rw [if_pos (by omega)] | rw [if_neg (by omega)])) (Nat.le_of_ble_eq_true rfl) (Nat.le_of_ble_eq_true rfl) (Nat.le_of_ble_eq_true rfl) rfl dX9_add_2 (nx_I) (kx_I ?_)
  refine r_if_ne (tgt := 12) dX9_add_5 (by decide) (by omega) (fun h5 => ?_) (fun h5 => ?_)
  ·
    refine r_iload_n dX9_add_12 rfl ?_
    refine r_callS1 okX9_isNumber ⟨by decide, by decide⟩ ml_X9_85 (mX9_isNumber (v := 1) (by omega) (by first | rw [if_pos (by omega)] | rw [if_neg (by omega)])) (Nat.le_of_ble_eq_true rfl) (Nat.le_of_ble_eq_true rfl) (Nat.le_of_ble_eq_true rfl) rfl dX9_add_13 (nx_I) (kx_I ?_)
    refine r_if_ne (tgt := 23) dX9_add_16 (by decide) (by omega) (fun h16 => ?_) (fun h16 => ?_)
    ·
      refine r_aload_n dX9_add_23 rfl ?_
      refine r_iload_n dX9_add_24 rfl ?_
      refine r_iload_n dX9_add_25 rfl ?_
      refine r_callV2 okX9_isMember ⟨by decide, by decide⟩ ml_X9_88 (mX9_isMember (v := 0) hm hz hc0.1 hc0.2 (by omega) (bI_eq0 hcs)) hm.o rfl rfl (Nat.le_of_ble_eq_true rfl) (Nat.le_of_ble_eq_true rfl) (Nat.le_of_ble_eq_true rfl) rfl dX9_add_26 (nx_I) (kx_I ?_)
      refine r_if_ne (tgt := 46) dX9_add_29 (by decide) (by omega) (fun h29 => ?_) (fun h29 => ?_)
      · omega
      ·
        have hzn := hz.n hc0.1 hc0.2
        first | (have h60 : ¬ n k < 60 := fun h => hc2 (Or.inr h)) | (have h60 : n k < 60 := hc2.resolve_left hcs)
        refine r_aload_n dX9_add_32 rfl ?_
        refine r_iload_n dX9_add_33 rfl ?_
        refine r_callV1 okX9_many ⟨by decide, by decide⟩ ml_X9_45 (mX9_many hm hz hc0.1 hc0.2) hm.o rfl rfl (Nat.le_of_ble_eq_true rfl) (Nat.le_of_ble_eq_true rfl) (Nat.le_of_ble_eq_true rfl) rfl dX9_add_34 (nx_I) (kx_I ?_)
        refine r_bipush dX9_add_37 (by decide) ?_
        refine r_icmp_ne (tgt := 46) dX9_add_39 (by decide) (by omega) (by omega) (fun h39 => ?_) (fun h39 => ?_)
        ·
          refine r_iconst dX9_add_46 ?_
          refine r_putfield clX9 5 (by decide) fl_X9_34 rfl hm.o rfl rfl (Nat.le_of_ble_eq_true rfl) dX9_add_47 ?_
          refine hm.w_thrown hi (fun Mx hm => ?_)
          refine r_aload_n dX9_add_50 rfl ?_
          refine r_getfield clX9 5 (by decide) fl_X9_34 hm.o rfl dX9_add_51 ?_
          refine r_if_le (tgt := 59) dX9_add_54 (by decide) (by omega) (fun h54 => ?_) (fun h54 => ?_)
          ·
            refine r_aload_n dX9_add_59 rfl ?_
            refine r_callV0 okX9_save ⟨by decide, by decide⟩ ml_X9_92 (mX9_save (σ := (n, F, g)) (S := S) hm hi hz hh hm6) hm.o rfl rfl (Nat.le_of_ble_eq_true rfl) (Nat.le_of_ble_eq_true rfl) (Nat.le_of_ble_eq_true rfl) rfl dX9_add_60 (nx_tV) (kx_tV ?_)
            intro Mx hM
            obtain ⟨hA, hm, hh⟩ := hM
            have hm6 : 0 ≤ svM m ∧ svM m ≤ 6 := by unfold svM; split <;> omega
            refine r_aload_n dX9_add_63 rfl ?_
            refine r_iload_n dX9_add_64 rfl ?_
            refine r_iload_n dX9_add_65 rfl ?_
            refine r_callV2 okX9_isMember ⟨by decide, by decide⟩ ml_X9_88 (mX9_isMember (v := 0) hm hz hc0.1 hc0.2 (by omega) (bI_eq0 hcs)) hm.o rfl rfl (Nat.le_of_ble_eq_true rfl) (Nat.le_of_ble_eq_true rfl) (Nat.le_of_ble_eq_true rfl) rfl dX9_add_66 (nx_I) (kx_I ?_)
            refine r_if_eq (tgt := 74) dX9_add_69 (by decide) (by omega) (fun h69 => ?_) (fun h69 => ?_)
            ·
              refine r_aload_n dX9_add_74 rfl ?_
              refine r_iload_n dX9_add_75 rfl ?_
              refine r_iload_n dX9_add_76 rfl ?_
              refine r_callV2 okX9_insert ⟨by decide, by decide⟩ ml_X9_95 (mX9_insert hm hi hz hc0.1 hc0.2 hc1 (by omega)) hm.o rfl rfl (Nat.le_of_ble_eq_true rfl) (Nat.le_of_ble_eq_true rfl) (Nat.le_of_ble_eq_true rfl) rfl dX9_add_77 (nx_tV) (kx_tV ?_)
              intro Mx hM
              obtain ⟨zA, hm, hz⟩ := hM
              refine r_iconst dX9_add_80 ?_
              refine e_ireturn dX9_add_81 rfl (Nat.le_of_ble_eq_true rfl) (Nat.le_of_ble_eq_true rfl) ?_
              exact okUR ((e2_ok (eSet_t hc0)).trans ((e2_ok (eB_t hc1)).trans (eB_t hc2))) (by rw [bI_eq0 hcs]; rfl) ⟨_, _, _, _, _, _, _, _, _, hm.q, (by show Zr zA (uI n k (putN 60 (n k) (F k) x)) (uI F k (putF 60 (n k) (F k) x)) g; rw [(put_new hcs (by omega)).1, (put_new hcs (by omega)).2]; exact hz), hh, hm6, ht, hl⟩
            · omega
          · omega
        · omega
    · omega
  · omega

theorem mX9_add {M0 M : Mem} {ad : Int → Nat} {n : Int → Int} {F : Int → Int → Int} {g : Int → Int} {m : Int} {S : Int → Sg3} {len : Int} {c : Int → Int} {th : Int} {k x : Int} (hR : RS M0 M ad (n, F, g) m S len c th) (hi : Inj ad) (hv : Vld (n, F, g)) (q0 : R32 k) (q1 : R32 x) : Ct KX9_add [.ref (ad 112), vI k, vI x] M 0 0 (UR (e2 (eSet k) (e2 (eB (0 ≤ x ∧ x ≤ 9999) xA) (eB (hasF (n k) (F k) x = true ∨ n k < 60) xS))) (1 - bI (hasF (n k) (F k) x)) tc3 (fun M2 => RS M0 M2 ad (uI n k (putN 60 (n k) (F k) x), uI F k (putF 60 (n k) (F k) x), g) (svM m) (svS m S (n, F, g)) len c 0) (fun t M2 => RS M0 M2 ad (n, F, g) m S len c t)) := by
  by_cases hc0 : 0 ≤ k ∧ k < 4
  · skip
    by_cases hc1 : 0 ≤ x ∧ x ≤ 9999
    · skip
      by_cases hc2 : hasF (n k) (F k) x = true ∨ n k < 60
      · skip
        by_cases hcs : hasF (n k) (F k) x = true
        · exact mX9_add_ok0 hR hi hv q0 q1 hc0 hc1 hc2 hcs
        · exact mX9_add_ok1 hR hi hv q0 q1 hc0 hc1 hc2 hcs
      · exact mX9_add_x2 hR hi hv q0 q1 hc0 hc1 hc2
    · exact mX9_add_x1 hR hi hv q0 q1 hc0 hc1
  · exact mX9_add_x0 hR hi hv q0 q1 hc0

set_option maxHeartbeats 4000000 in
theorem mX9_remove_x0 {M0 M : Mem} {ad : Int → Nat} {n : Int → Int} {F : Int → Int → Int} {g : Int → Int} {m : Int} {S : Int → Sg3} {len : Int} {c : Int → Int} {th : Int} {k x : Int} (hR : RS M0 M ad (n, F, g) m S len c th) (hi : Inj ad) (hv : Vld (n, F, g)) (q0 : R32 k) (q1 : R32 x) (hc0 : ¬ (0 ≤ k ∧ k < 4)) : Ct KX9_remove [.ref (ad 112), vI k, vI x] M 0 0 (UR (e2 (eSet k) (eB (0 ≤ x ∧ x ≤ 9999) xA)) (n k - (cutP (n k) (F k) x x).1) tc3 (fun M2 => RS M0 M2 ad (uI n k ((cutP (n k) (F k) x x).1), uI F k ((cutP (n k) (F k) x x).2), g) (svM m) (svS m S (n, F, g)) len c 0) (fun t M2 => RS M0 M2 ad (n, F, g) m S len c t)) := by
  refine Ct.of _ (by decide) rfl (Nat.le_of_ble_eq_true rfl) ?_
  obtain ⟨zA, hA, tA, pA, rd, nu, bd, sc, hs, ⟨rA, sA, bA, wA, rm, bk, hm⟩, hz, hh, hm6, ht, hl⟩ := hR
  change Zr zA n F g at hz
  obtain ⟨hvs, hv0, hv1, hv2, hv3⟩ := id hv
  dsimp only at hvs hv0 hv1 hv2 hv3
  have hg : (2 ≤ g 0 ∧ g 0 ≤ 16) ∧ 1 ≤ g 1 ∧ g 1 ≤ 9999 := ⟨⟨hv0, hv1⟩, hv2, hv3⟩
  refine r_aload_n dX9_remove_0 rfl ?_
  refine r_iload_n dX9_remove_1 rfl ?_
  refine r_callS1 okX9_isSet ⟨by decide, by decide⟩ ml_X9_81 (mX9_isSet (v := 0) (by omega) (by first | rw [if_pos (by omega)] | rw [if_neg (by omega)])) (Nat.le_of_ble_eq_true rfl) (Nat.le_of_ble_eq_true rfl) (Nat.le_of_ble_eq_true rfl) rfl dX9_remove_2 (nx_I) (kx_I ?_)
  refine r_if_ne (tgt := 12) dX9_remove_5 (by decide) (by omega) (fun h5 => ?_) (fun h5 => ?_)
  · omega
  ·
    refine r_iconst dX9_remove_8 ?_
    refine r_goto (tgt := 24) dX9_remove_9 (by decide) ?_
    refine r_putfield clX9 5 (by decide) fl_X9_34 rfl hm.o rfl rfl (Nat.le_of_ble_eq_true rfl) dX9_remove_24 ?_
    refine hm.w_thrown hi (fun Mx hm => ?_)
    refine r_aload_n dX9_remove_27 rfl ?_
    refine r_getfield clX9 5 (by decide) fl_X9_34 hm.o rfl dX9_remove_28 ?_
    refine r_if_le (tgt := 36) dX9_remove_31 (by decide) (by omega) (fun h31 => ?_) (fun h31 => ?_)
    · omega
    ·
      refine r_iconst dX9_remove_34 ?_
      refine e_ireturn dX9_remove_35 rfl (Nat.le_of_ble_eq_true rfl) (Nat.le_of_ble_eq_true rfl) ?_
      exact exUR (e2_x (eSet_f hc0) (by decide)) (by decide) (by decide) ⟨_, _, _, _, _, _, _, _, _, hm.q, hz, hh, hm6, ht, hl⟩

set_option maxHeartbeats 4000000 in
theorem mX9_remove_x1 {M0 M : Mem} {ad : Int → Nat} {n : Int → Int} {F : Int → Int → Int} {g : Int → Int} {m : Int} {S : Int → Sg3} {len : Int} {c : Int → Int} {th : Int} {k x : Int} (hR : RS M0 M ad (n, F, g) m S len c th) (hi : Inj ad) (hv : Vld (n, F, g)) (q0 : R32 k) (q1 : R32 x) (hc0 : 0 ≤ k ∧ k < 4) (hc1 : ¬ (0 ≤ x ∧ x ≤ 9999)) : Ct KX9_remove [.ref (ad 112), vI k, vI x] M 0 0 (UR (e2 (eSet k) (eB (0 ≤ x ∧ x ≤ 9999) xA)) (n k - (cutP (n k) (F k) x x).1) tc3 (fun M2 => RS M0 M2 ad (uI n k ((cutP (n k) (F k) x x).1), uI F k ((cutP (n k) (F k) x x).2), g) (svM m) (svS m S (n, F, g)) len c 0) (fun t M2 => RS M0 M2 ad (n, F, g) m S len c t)) := by
  refine Ct.of _ (by decide) rfl (Nat.le_of_ble_eq_true rfl) ?_
  obtain ⟨zA, hA, tA, pA, rd, nu, bd, sc, hs, ⟨rA, sA, bA, wA, rm, bk, hm⟩, hz, hh, hm6, ht, hl⟩ := hR
  change Zr zA n F g at hz
  obtain ⟨hvs, hv0, hv1, hv2, hv3⟩ := id hv
  dsimp only at hvs hv0 hv1 hv2 hv3
  have hg : (2 ≤ g 0 ∧ g 0 ≤ 16) ∧ 1 ≤ g 1 ∧ g 1 ≤ 9999 := ⟨⟨hv0, hv1⟩, hv2, hv3⟩
  refine r_aload_n dX9_remove_0 rfl ?_
  refine r_iload_n dX9_remove_1 rfl ?_
  refine r_callS1 okX9_isSet ⟨by decide, by decide⟩ ml_X9_81 (mX9_isSet (v := 1) (by omega) (by first | rw [if_pos (by omega)] | rw [if_neg (by omega)])) (Nat.le_of_ble_eq_true rfl) (Nat.le_of_ble_eq_true rfl) (Nat.le_of_ble_eq_true rfl) rfl dX9_remove_2 (nx_I) (kx_I ?_)
  refine r_if_ne (tgt := 12) dX9_remove_5 (by decide) (by omega) (fun h5 => ?_) (fun h5 => ?_)
  ·
    refine r_iload_n dX9_remove_12 rfl ?_
    refine r_callS1 okX9_isNumber ⟨by decide, by decide⟩ ml_X9_85 (mX9_isNumber (v := 0) (by omega) (by first | rw [if_pos (by omega)] | rw [if_neg (by omega)])) (Nat.le_of_ble_eq_true rfl) (Nat.le_of_ble_eq_true rfl) (Nat.le_of_ble_eq_true rfl) rfl dX9_remove_13 (nx_I) (kx_I ?_)
    refine r_if_eq (tgt := 23) dX9_remove_16 (by decide) (by omega) (fun h16 => ?_) (fun h16 => ?_)
    ·
      refine r_iconst dX9_remove_23 ?_
      refine r_putfield clX9 5 (by decide) fl_X9_34 rfl hm.o rfl rfl (Nat.le_of_ble_eq_true rfl) dX9_remove_24 ?_
      refine hm.w_thrown hi (fun Mx hm => ?_)
      refine r_aload_n dX9_remove_27 rfl ?_
      refine r_getfield clX9 5 (by decide) fl_X9_34 hm.o rfl dX9_remove_28 ?_
      refine r_if_le (tgt := 36) dX9_remove_31 (by decide) (by omega) (fun h31 => ?_) (fun h31 => ?_)
      · omega
      ·
        refine r_iconst dX9_remove_34 ?_
        refine e_ireturn dX9_remove_35 rfl (Nat.le_of_ble_eq_true rfl) (Nat.le_of_ble_eq_true rfl) ?_
        exact exUR ((e2_ok (eSet_t hc0)).trans (eB_f hc1)) (by decide) (by decide) ⟨_, _, _, _, _, _, _, _, _, hm.q, hz, hh, hm6, ht, hl⟩
    · omega
  · omega

set_option maxHeartbeats 4000000 in
theorem mX9_remove_ok {M0 M : Mem} {ad : Int → Nat} {n : Int → Int} {F : Int → Int → Int} {g : Int → Int} {m : Int} {S : Int → Sg3} {len : Int} {c : Int → Int} {th : Int} {k x : Int} (hR : RS M0 M ad (n, F, g) m S len c th) (hi : Inj ad) (hv : Vld (n, F, g)) (q0 : R32 k) (q1 : R32 x) (hc0 : 0 ≤ k ∧ k < 4) (hc1 : 0 ≤ x ∧ x ≤ 9999) : Ct KX9_remove [.ref (ad 112), vI k, vI x] M 0 0 (UR (e2 (eSet k) (eB (0 ≤ x ∧ x ≤ 9999) xA)) (n k - (cutP (n k) (F k) x x).1) tc3 (fun M2 => RS M0 M2 ad (uI n k ((cutP (n k) (F k) x x).1), uI F k ((cutP (n k) (F k) x x).2), g) (svM m) (svS m S (n, F, g)) len c 0) (fun t M2 => RS M0 M2 ad (n, F, g) m S len c t)) := by
  refine Ct.of _ (by decide) rfl (Nat.le_of_ble_eq_true rfl) ?_
  obtain ⟨zA, hA, tA, pA, rd, nu, bd, sc, hs, ⟨rA, sA, bA, wA, rm, bk, hm⟩, hz, hh, hm6, ht, hl⟩ := hR
  change Zr zA n F g at hz
  obtain ⟨hvs, hv0, hv1, hv2, hv3⟩ := id hv
  dsimp only at hvs hv0 hv1 hv2 hv3
  have hg : (2 ≤ g 0 ∧ g 0 ≤ 16) ∧ 1 ≤ g 1 ∧ g 1 ≤ 9999 := ⟨⟨hv0, hv1⟩, hv2, hv3⟩
  refine r_aload_n dX9_remove_0 rfl ?_
  refine r_iload_n dX9_remove_1 rfl ?_
  refine r_callS1 okX9_isSet ⟨by decide, by decide⟩ ml_X9_81 (mX9_isSet (v := 1) (by omega) (by first | rw [if_pos (by omega)] | rw [if_neg (by omega)])) (Nat.le_of_ble_eq_true rfl) (Nat.le_of_ble_eq_true rfl) (Nat.le_of_ble_eq_true rfl) rfl dX9_remove_2 (nx_I) (kx_I ?_)
  refine r_if_ne (tgt := 12) dX9_remove_5 (by decide) (by omega) (fun h5 => ?_) (fun h5 => ?_)
  ·
    refine r_iload_n dX9_remove_12 rfl ?_
    refine r_callS1 okX9_isNumber ⟨by decide, by decide⟩ ml_X9_85 (mX9_isNumber (v := 1) (by omega) (by first | rw [if_pos (by omega)] | rw [if_neg (by omega)])) (Nat.le_of_ble_eq_true rfl) (Nat.le_of_ble_eq_true rfl) (Nat.le_of_ble_eq_true rfl) rfl dX9_remove_13 (nx_I) (kx_I ?_)
    refine r_if_eq (tgt := 23) dX9_remove_16 (by decide) (by omega) (fun h16 => ?_) (fun h16 => ?_)
    · omega
    ·
      refine r_iconst dX9_remove_19 ?_
      refine r_goto (tgt := 24) dX9_remove_20 (by decide) ?_
      refine r_putfield clX9 5 (by decide) fl_X9_34 rfl hm.o rfl rfl (Nat.le_of_ble_eq_true rfl) dX9_remove_24 ?_
      refine hm.w_thrown hi (fun Mx hm => ?_)
      refine r_aload_n dX9_remove_27 rfl ?_
      refine r_getfield clX9 5 (by decide) fl_X9_34 hm.o rfl dX9_remove_28 ?_
      refine r_if_le (tgt := 36) dX9_remove_31 (by decide) (by omega) (fun h31 => ?_) (fun h31 => ?_)
      ·
        refine r_aload_n dX9_remove_36 rfl ?_
        refine r_callV0 okX9_save ⟨by decide, by decide⟩ ml_X9_92 (mX9_save (σ := (n, F, g)) (S := S) hm hi hz hh hm6) hm.o rfl rfl (Nat.le_of_ble_eq_true rfl) (Nat.le_of_ble_eq_true rfl) (Nat.le_of_ble_eq_true rfl) rfl dX9_remove_37 (nx_tV) (kx_tV ?_)
        intro Mx hM
        obtain ⟨hA, hm, hh⟩ := hM
        have hm6 : 0 ≤ svM m ∧ svM m ≤ 6 := by unfold svM; split <;> omega
        refine r_aload_n dX9_remove_40 rfl ?_
        refine r_iload_n dX9_remove_41 rfl ?_
        refine r_iload_n dX9_remove_42 rfl ?_
        refine r_iload_n dX9_remove_43 rfl ?_
        refine r_callV3 okX9_takeAway ⟨by decide, by decide⟩ ml_X9_101 (mX9_takeAway hm.q hi hz hc0.1 hc0.2 (hvs k hc0.1 hc0.2) (by omega)) hm.o rfl rfl (Nat.le_of_ble_eq_true rfl) (Nat.le_of_ble_eq_true rfl) (Nat.le_of_ble_eq_true rfl) rfl dX9_remove_44 (nx_tI) (kx_tI ?_)
        intro Mx hM
        obtain ⟨zA, hq, hz⟩ := hM
        obtain ⟨rA, sA, bA, wA, rm, bk, hm⟩ := hq
        refine e_ireturn dX9_remove_47 rfl (Nat.le_of_ble_eq_true rfl) (Nat.le_of_ble_eq_true rfl) ?_
        exact okUR ((e2_ok (eSet_t hc0)).trans (eB_t hc1)) rfl ⟨_, _, _, _, _, _, _, _, _, hm.q, hz, hh, hm6, ht, hl⟩
      · omega
  · omega

theorem mX9_remove {M0 M : Mem} {ad : Int → Nat} {n : Int → Int} {F : Int → Int → Int} {g : Int → Int} {m : Int} {S : Int → Sg3} {len : Int} {c : Int → Int} {th : Int} {k x : Int} (hR : RS M0 M ad (n, F, g) m S len c th) (hi : Inj ad) (hv : Vld (n, F, g)) (q0 : R32 k) (q1 : R32 x) : Ct KX9_remove [.ref (ad 112), vI k, vI x] M 0 0 (UR (e2 (eSet k) (eB (0 ≤ x ∧ x ≤ 9999) xA)) (n k - (cutP (n k) (F k) x x).1) tc3 (fun M2 => RS M0 M2 ad (uI n k ((cutP (n k) (F k) x x).1), uI F k ((cutP (n k) (F k) x x).2), g) (svM m) (svS m S (n, F, g)) len c 0) (fun t M2 => RS M0 M2 ad (n, F, g) m S len c t)) := by
  by_cases hc0 : 0 ≤ k ∧ k < 4
  · skip
    by_cases hc1 : 0 ≤ x ∧ x ≤ 9999
    · skip
      exact mX9_remove_ok hR hi hv q0 q1 hc0 hc1
    · exact mX9_remove_x1 hR hi hv q0 q1 hc0 hc1
  · exact mX9_remove_x0 hR hi hv q0 q1 hc0

set_option maxHeartbeats 4000000 in
theorem mX9_removeRange_x0 {M0 M : Mem} {ad : Int → Nat} {n : Int → Int} {F : Int → Int → Int} {g : Int → Int} {m : Int} {S : Int → Sg3} {len : Int} {c : Int → Int} {th : Int} {k x y : Int} (hR : RS M0 M ad (n, F, g) m S len c th) (hi : Inj ad) (hv : Vld (n, F, g)) (q0 : R32 k) (q1 : R32 x) (q2 : R32 y) (hc0 : ¬ (0 ≤ k ∧ k < 4)) : Ct KX9_removeRange [.ref (ad 112), vI k, vI x, vI y] M 0 0 (UR (e2 (eSet k) (e2 (eB (0 ≤ x ∧ x ≤ 9999) xA) (e2 (eB (0 ≤ y ∧ y ≤ 9999) xA) (eB (x ≤ y) xA)))) (n k - (cutP (n k) (F k) x y).1) tc3 (fun M2 => RS M0 M2 ad (uI n k ((cutP (n k) (F k) x y).1), uI F k ((cutP (n k) (F k) x y).2), g) (svM m) (svS m S (n, F, g)) len c 0) (fun t M2 => RS M0 M2 ad (n, F, g) m S len c t)) := by
  refine Ct.of _ (by decide) rfl (Nat.le_of_ble_eq_true rfl) ?_
  obtain ⟨zA, hA, tA, pA, rd, nu, bd, sc, hs, ⟨rA, sA, bA, wA, rm, bk, hm⟩, hz, hh, hm6, ht, hl⟩ := hR
  change Zr zA n F g at hz
  obtain ⟨hvs, hv0, hv1, hv2, hv3⟩ := id hv
  dsimp only at hvs hv0 hv1 hv2 hv3
  have hg : (2 ≤ g 0 ∧ g 0 ≤ 16) ∧ 1 ≤ g 1 ∧ g 1 ≤ 9999 := ⟨⟨hv0, hv1⟩, hv2, hv3⟩
  refine r_aload_n dX9_removeRange_0 rfl ?_
  refine r_iload_n dX9_removeRange_1 rfl ?_
  refine r_callS1 okX9_isSet ⟨by decide, by decide⟩ ml_X9_81 (mX9_isSet (v := 0) (by omega) (by first | rw [if_pos (by omega)] | rw [if_neg (by omega)])) (Nat.le_of_ble_eq_true rfl) (Nat.le_of_ble_eq_true rfl) (Nat.le_of_ble_eq_true rfl) rfl dX9_removeRange_2 (nx_I) (kx_I ?_)
  refine r_if_ne (tgt := 12) dX9_removeRange_5 (by decide) (by omega) (fun h5 => ?_) (fun h5 => ?_)
  · omega
  ·
    refine r_iconst dX9_removeRange_8 ?_
    refine r_goto (tgt := 35) dX9_removeRange_9 (by decide) ?_
    refine r_putfield clX9 5 (by decide) fl_X9_34 rfl hm.o rfl rfl (Nat.le_of_ble_eq_true rfl) dX9_removeRange_35 ?_
    refine hm.w_thrown hi (fun Mx hm => ?_)
    refine r_aload_n dX9_removeRange_38 rfl ?_
    refine r_getfield clX9 5 (by decide) fl_X9_34 hm.o rfl dX9_removeRange_39 ?_
    refine r_if_le (tgt := 47) dX9_removeRange_42 (by decide) (by omega) (fun h42 => ?_) (fun h42 => ?_)
    · omega
    ·
      refine r_iconst dX9_removeRange_45 ?_
      refine e_ireturn dX9_removeRange_46 rfl (Nat.le_of_ble_eq_true rfl) (Nat.le_of_ble_eq_true rfl) ?_
      exact exUR (e2_x (eSet_f hc0) (by decide)) (by decide) (by decide) ⟨_, _, _, _, _, _, _, _, _, hm.q, hz, hh, hm6, ht, hl⟩

set_option maxHeartbeats 4000000 in
theorem mX9_removeRange_x1 {M0 M : Mem} {ad : Int → Nat} {n : Int → Int} {F : Int → Int → Int} {g : Int → Int} {m : Int} {S : Int → Sg3} {len : Int} {c : Int → Int} {th : Int} {k x y : Int} (hR : RS M0 M ad (n, F, g) m S len c th) (hi : Inj ad) (hv : Vld (n, F, g)) (q0 : R32 k) (q1 : R32 x) (q2 : R32 y) (hc0 : 0 ≤ k ∧ k < 4) (hc1 : ¬ (0 ≤ x ∧ x ≤ 9999)) : Ct KX9_removeRange [.ref (ad 112), vI k, vI x, vI y] M 0 0 (UR (e2 (eSet k) (e2 (eB (0 ≤ x ∧ x ≤ 9999) xA) (e2 (eB (0 ≤ y ∧ y ≤ 9999) xA) (eB (x ≤ y) xA)))) (n k - (cutP (n k) (F k) x y).1) tc3 (fun M2 => RS M0 M2 ad (uI n k ((cutP (n k) (F k) x y).1), uI F k ((cutP (n k) (F k) x y).2), g) (svM m) (svS m S (n, F, g)) len c 0) (fun t M2 => RS M0 M2 ad (n, F, g) m S len c t)) := by
  refine Ct.of _ (by decide) rfl (Nat.le_of_ble_eq_true rfl) ?_
  obtain ⟨zA, hA, tA, pA, rd, nu, bd, sc, hs, ⟨rA, sA, bA, wA, rm, bk, hm⟩, hz, hh, hm6, ht, hl⟩ := hR
  change Zr zA n F g at hz
  obtain ⟨hvs, hv0, hv1, hv2, hv3⟩ := id hv
  dsimp only at hvs hv0 hv1 hv2 hv3
  have hg : (2 ≤ g 0 ∧ g 0 ≤ 16) ∧ 1 ≤ g 1 ∧ g 1 ≤ 9999 := ⟨⟨hv0, hv1⟩, hv2, hv3⟩
  refine r_aload_n dX9_removeRange_0 rfl ?_
  refine r_iload_n dX9_removeRange_1 rfl ?_
  refine r_callS1 okX9_isSet ⟨by decide, by decide⟩ ml_X9_81 (mX9_isSet (v := 1) (by omega) (by first | rw [if_pos (by omega)] | rw [if_neg (by omega)])) (Nat.le_of_ble_eq_true rfl) (Nat.le_of_ble_eq_true rfl) (Nat.le_of_ble_eq_true rfl) rfl dX9_removeRange_2 (nx_I) (kx_I ?_)
  refine r_if_ne (tgt := 12) dX9_removeRange_5 (by decide) (by omega) (fun h5 => ?_) (fun h5 => ?_)
  ·
    refine r_iload_n dX9_removeRange_12 rfl ?_
    refine r_callS1 okX9_isNumber ⟨by decide, by decide⟩ ml_X9_85 (mX9_isNumber (v := 0) (by omega) (by first | rw [if_pos (by omega)] | rw [if_neg (by omega)])) (Nat.le_of_ble_eq_true rfl) (Nat.le_of_ble_eq_true rfl) (Nat.le_of_ble_eq_true rfl) rfl dX9_removeRange_13 (nx_I) (kx_I ?_)
    refine r_if_eq (tgt := 34) dX9_removeRange_16 (by decide) (by omega) (fun h16 => ?_) (fun h16 => ?_)
    ·
      refine r_iconst dX9_removeRange_34 ?_
      refine r_putfield clX9 5 (by decide) fl_X9_34 rfl hm.o rfl rfl (Nat.le_of_ble_eq_true rfl) dX9_removeRange_35 ?_
      refine hm.w_thrown hi (fun Mx hm => ?_)
      refine r_aload_n dX9_removeRange_38 rfl ?_
      refine r_getfield clX9 5 (by decide) fl_X9_34 hm.o rfl dX9_removeRange_39 ?_
      refine r_if_le (tgt := 47) dX9_removeRange_42 (by decide) (by omega) (fun h42 => ?_) (fun h42 => ?_)
      · omega
      ·
        refine r_iconst dX9_removeRange_45 ?_
        refine e_ireturn dX9_removeRange_46 rfl (Nat.le_of_ble_eq_true rfl) (Nat.le_of_ble_eq_true rfl) ?_
        exact exUR ((e2_ok (eSet_t hc0)).trans (e2_x (eB_f hc1) (by decide))) (by decide) (by decide) ⟨_, _, _, _, _, _, _, _, _, hm.q, hz, hh, hm6, ht, hl⟩
    · omega
  · omega

set_option maxHeartbeats 4000000 in
theorem mX9_removeRange_x2 {M0 M : Mem} {ad : Int → Nat} {n : Int → Int} {F : Int → Int → Int} {g : Int → Int} {m : Int} {S : Int → Sg3} {len : Int} {c : Int → Int} {th : Int} {k x y : Int} (hR : RS M0 M ad (n, F, g) m S len c th) (hi : Inj ad) (hv : Vld (n, F, g)) (q0 : R32 k) (q1 : R32 x) (q2 : R32 y) (hc0 : 0 ≤ k ∧ k < 4) (hc1 : 0 ≤ x ∧ x ≤ 9999) (hc2 : ¬ (0 ≤ y ∧ y ≤ 9999)) : Ct KX9_removeRange [.ref (ad 112), vI k, vI x, vI y] M 0 0 (UR (e2 (eSet k) (e2 (eB (0 ≤ x ∧ x ≤ 9999) xA) (e2 (eB (0 ≤ y ∧ y ≤ 9999) xA) (eB (x ≤ y) xA)))) (n k - (cutP (n k) (F k) x y).1) tc3 (fun M2 => RS M0 M2 ad (uI n k ((cutP (n k) (F k) x y).1), uI F k ((cutP (n k) (F k) x y).2), g) (svM m) (svS m S (n, F, g)) len c 0) (fun t M2 => RS M0 M2 ad (n, F, g) m S len c t)) := by
  refine Ct.of _ (by decide) rfl (Nat.le_of_ble_eq_true rfl) ?_
  obtain ⟨zA, hA, tA, pA, rd, nu, bd, sc, hs, ⟨rA, sA, bA, wA, rm, bk, hm⟩, hz, hh, hm6, ht, hl⟩ := hR
  change Zr zA n F g at hz
  obtain ⟨hvs, hv0, hv1, hv2, hv3⟩ := id hv
  dsimp only at hvs hv0 hv1 hv2 hv3
  have hg : (2 ≤ g 0 ∧ g 0 ≤ 16) ∧ 1 ≤ g 1 ∧ g 1 ≤ 9999 := ⟨⟨hv0, hv1⟩, hv2, hv3⟩
  refine r_aload_n dX9_removeRange_0 rfl ?_
  refine r_iload_n dX9_removeRange_1 rfl ?_
  refine r_callS1 okX9_isSet ⟨by decide, by decide⟩ ml_X9_81 (mX9_isSet (v := 1) (by omega) (by first | rw [if_pos (by omega)] | rw [if_neg (by omega)])) (Nat.le_of_ble_eq_true rfl) (Nat.le_of_ble_eq_true rfl) (Nat.le_of_ble_eq_true rfl) rfl dX9_removeRange_2 (nx_I) (kx_I ?_)
  refine r_if_ne (tgt := 12) dX9_removeRange_5 (by decide) (by omega) (fun h5 => ?_) (fun h5 => ?_)
  ·
    refine r_iload_n dX9_removeRange_12 rfl ?_
    refine r_callS1 okX9_isNumber ⟨by decide, by decide⟩ ml_X9_85 (mX9_isNumber (v := 1) (by omega) (by first | rw [if_pos (by omega)] | rw [if_neg (by omega)])) (Nat.le_of_ble_eq_true rfl) (Nat.le_of_ble_eq_true rfl) (Nat.le_of_ble_eq_true rfl) rfl dX9_removeRange_13 (nx_I) (kx_I ?_)
    refine r_if_eq (tgt := 34) dX9_removeRange_16 (by decide) (by omega) (fun h16 => ?_) (fun h16 => ?_)
    · omega
    ·
      refine r_iload_n dX9_removeRange_19 rfl ?_
      refine r_iload_n dX9_removeRange_20 rfl ?_
      refine r_sipush dX9_removeRange_21 (by decide) ?_
      refine r_callS3 okX9_within ⟨by decide, by decide⟩ ml_X9_41 (mX9_within (v := 0) (by omega) (by omega) (by omega) (by first | rw [if_pos (by omega)] | rw [if_neg (by omega)])) (Nat.le_of_ble_eq_true rfl) (Nat.le_of_ble_eq_true rfl) (Nat.le_of_ble_eq_true rfl) rfl dX9_removeRange_24 (nx_I) (kx_I ?_)
      refine r_if_eq (tgt := 34) dX9_removeRange_27 (by decide) (by omega) (fun h27 => ?_) (fun h27 => ?_)
      ·
        refine r_iconst dX9_removeRange_34 ?_
        refine r_putfield clX9 5 (by decide) fl_X9_34 rfl hm.o rfl rfl (Nat.le_of_ble_eq_true rfl) dX9_removeRange_35 ?_
        refine hm.w_thrown hi (fun Mx hm => ?_)
        refine r_aload_n dX9_removeRange_38 rfl ?_
        refine r_getfield clX9 5 (by decide) fl_X9_34 hm.o rfl dX9_removeRange_39 ?_
        refine r_if_le (tgt := 47) dX9_removeRange_42 (by decide) (by omega) (fun h42 => ?_) (fun h42 => ?_)
        · omega
        ·
          refine r_iconst dX9_removeRange_45 ?_
          refine e_ireturn dX9_removeRange_46 rfl (Nat.le_of_ble_eq_true rfl) (Nat.le_of_ble_eq_true rfl) ?_
          exact exUR ((e2_ok (eSet_t hc0)).trans ((e2_ok (eB_t hc1)).trans (e2_x (eB_f hc2) (by decide)))) (by decide) (by decide) ⟨_, _, _, _, _, _, _, _, _, hm.q, hz, hh, hm6, ht, hl⟩
      · omega
  · omega

set_option maxHeartbeats 4000000 in
theorem mX9_removeRange_x3 {M0 M : Mem} {ad : Int → Nat} {n : Int → Int} {F : Int → Int → Int} {g : Int → Int} {m : Int} {S : Int → Sg3} {len : Int} {c : Int → Int} {th : Int} {k x y : Int} (hR : RS M0 M ad (n, F, g) m S len c th) (hi : Inj ad) (hv : Vld (n, F, g)) (q0 : R32 k) (q1 : R32 x) (q2 : R32 y) (hc0 : 0 ≤ k ∧ k < 4) (hc1 : 0 ≤ x ∧ x ≤ 9999) (hc2 : 0 ≤ y ∧ y ≤ 9999) (hc3 : ¬ (x ≤ y)) : Ct KX9_removeRange [.ref (ad 112), vI k, vI x, vI y] M 0 0 (UR (e2 (eSet k) (e2 (eB (0 ≤ x ∧ x ≤ 9999) xA) (e2 (eB (0 ≤ y ∧ y ≤ 9999) xA) (eB (x ≤ y) xA)))) (n k - (cutP (n k) (F k) x y).1) tc3 (fun M2 => RS M0 M2 ad (uI n k ((cutP (n k) (F k) x y).1), uI F k ((cutP (n k) (F k) x y).2), g) (svM m) (svS m S (n, F, g)) len c 0) (fun t M2 => RS M0 M2 ad (n, F, g) m S len c t)) := by
  refine Ct.of _ (by decide) rfl (Nat.le_of_ble_eq_true rfl) ?_
  obtain ⟨zA, hA, tA, pA, rd, nu, bd, sc, hs, ⟨rA, sA, bA, wA, rm, bk, hm⟩, hz, hh, hm6, ht, hl⟩ := hR
  change Zr zA n F g at hz
  obtain ⟨hvs, hv0, hv1, hv2, hv3⟩ := id hv
  dsimp only at hvs hv0 hv1 hv2 hv3
  have hg : (2 ≤ g 0 ∧ g 0 ≤ 16) ∧ 1 ≤ g 1 ∧ g 1 ≤ 9999 := ⟨⟨hv0, hv1⟩, hv2, hv3⟩
  refine r_aload_n dX9_removeRange_0 rfl ?_
  refine r_iload_n dX9_removeRange_1 rfl ?_
  refine r_callS1 okX9_isSet ⟨by decide, by decide⟩ ml_X9_81 (mX9_isSet (v := 1) (by omega) (by first | rw [if_pos (by omega)] | rw [if_neg (by omega)])) (Nat.le_of_ble_eq_true rfl) (Nat.le_of_ble_eq_true rfl) (Nat.le_of_ble_eq_true rfl) rfl dX9_removeRange_2 (nx_I) (kx_I ?_)
  refine r_if_ne (tgt := 12) dX9_removeRange_5 (by decide) (by omega) (fun h5 => ?_) (fun h5 => ?_)
  ·
    refine r_iload_n dX9_removeRange_12 rfl ?_
    refine r_callS1 okX9_isNumber ⟨by decide, by decide⟩ ml_X9_85 (mX9_isNumber (v := 1) (by omega) (by first | rw [if_pos (by omega)] | rw [if_neg (by omega)])) (Nat.le_of_ble_eq_true rfl) (Nat.le_of_ble_eq_true rfl) (Nat.le_of_ble_eq_true rfl) rfl dX9_removeRange_13 (nx_I) (kx_I ?_)
    refine r_if_eq (tgt := 34) dX9_removeRange_16 (by decide) (by omega) (fun h16 => ?_) (fun h16 => ?_)
    · omega
    ·
      refine r_iload_n dX9_removeRange_19 rfl ?_
      refine r_iload_n dX9_removeRange_20 rfl ?_
      refine r_sipush dX9_removeRange_21 (by decide) ?_
      refine r_callS3 okX9_within ⟨by decide, by decide⟩ ml_X9_41 (mX9_within (v := 0) (by omega) (by omega) (by omega) (by first | rw [if_pos (by omega)] | rw [if_neg (by omega)])) (Nat.le_of_ble_eq_true rfl) (Nat.le_of_ble_eq_true rfl) (Nat.le_of_ble_eq_true rfl) rfl dX9_removeRange_24 (nx_I) (kx_I ?_)
      refine r_if_eq (tgt := 34) dX9_removeRange_27 (by decide) (by omega) (fun h27 => ?_) (fun h27 => ?_)
      ·
        refine r_iconst dX9_removeRange_34 ?_
        refine r_putfield clX9 5 (by decide) fl_X9_34 rfl hm.o rfl rfl (Nat.le_of_ble_eq_true rfl) dX9_removeRange_35 ?_
        refine hm.w_thrown hi (fun Mx hm => ?_)
        refine r_aload_n dX9_removeRange_38 rfl ?_
        refine r_getfield clX9 5 (by decide) fl_X9_34 hm.o rfl dX9_removeRange_39 ?_
        refine r_if_le (tgt := 47) dX9_removeRange_42 (by decide) (by omega) (fun h42 => ?_) (fun h42 => ?_)
        · omega
        ·
          refine r_iconst dX9_removeRange_45 ?_
          refine e_ireturn dX9_removeRange_46 rfl (Nat.le_of_ble_eq_true rfl) (Nat.le_of_ble_eq_true rfl) ?_
          exact exUR ((e2_ok (eSet_t hc0)).trans ((e2_ok (eB_t hc1)).trans ((e2_ok (eB_t hc2)).trans (eB_f hc3)))) (by decide) (by decide) ⟨_, _, _, _, _, _, _, _, _, hm.q, hz, hh, hm6, ht, hl⟩
      · omega
  · omega

set_option maxHeartbeats 4000000 in
theorem mX9_removeRange_ok {M0 M : Mem} {ad : Int → Nat} {n : Int → Int} {F : Int → Int → Int} {g : Int → Int} {m : Int} {S : Int → Sg3} {len : Int} {c : Int → Int} {th : Int} {k x y : Int} (hR : RS M0 M ad (n, F, g) m S len c th) (hi : Inj ad) (hv : Vld (n, F, g)) (q0 : R32 k) (q1 : R32 x) (q2 : R32 y) (hc0 : 0 ≤ k ∧ k < 4) (hc1 : 0 ≤ x ∧ x ≤ 9999) (hc2 : 0 ≤ y ∧ y ≤ 9999) (hc3 : x ≤ y) : Ct KX9_removeRange [.ref (ad 112), vI k, vI x, vI y] M 0 0 (UR (e2 (eSet k) (e2 (eB (0 ≤ x ∧ x ≤ 9999) xA) (e2 (eB (0 ≤ y ∧ y ≤ 9999) xA) (eB (x ≤ y) xA)))) (n k - (cutP (n k) (F k) x y).1) tc3 (fun M2 => RS M0 M2 ad (uI n k ((cutP (n k) (F k) x y).1), uI F k ((cutP (n k) (F k) x y).2), g) (svM m) (svS m S (n, F, g)) len c 0) (fun t M2 => RS M0 M2 ad (n, F, g) m S len c t)) := by
  refine Ct.of _ (by decide) rfl (Nat.le_of_ble_eq_true rfl) ?_
  obtain ⟨zA, hA, tA, pA, rd, nu, bd, sc, hs, ⟨rA, sA, bA, wA, rm, bk, hm⟩, hz, hh, hm6, ht, hl⟩ := hR
  change Zr zA n F g at hz
  obtain ⟨hvs, hv0, hv1, hv2, hv3⟩ := id hv
  dsimp only at hvs hv0 hv1 hv2 hv3
  have hg : (2 ≤ g 0 ∧ g 0 ≤ 16) ∧ 1 ≤ g 1 ∧ g 1 ≤ 9999 := ⟨⟨hv0, hv1⟩, hv2, hv3⟩
  refine r_aload_n dX9_removeRange_0 rfl ?_
  refine r_iload_n dX9_removeRange_1 rfl ?_
  refine r_callS1 okX9_isSet ⟨by decide, by decide⟩ ml_X9_81 (mX9_isSet (v := 1) (by omega) (by first | rw [if_pos (by omega)] | rw [if_neg (by omega)])) (Nat.le_of_ble_eq_true rfl) (Nat.le_of_ble_eq_true rfl) (Nat.le_of_ble_eq_true rfl) rfl dX9_removeRange_2 (nx_I) (kx_I ?_)
  refine r_if_ne (tgt := 12) dX9_removeRange_5 (by decide) (by omega) (fun h5 => ?_) (fun h5 => ?_)
  ·
    refine r_iload_n dX9_removeRange_12 rfl ?_
    refine r_callS1 okX9_isNumber ⟨by decide, by decide⟩ ml_X9_85 (mX9_isNumber (v := 1) (by omega) (by first | rw [if_pos (by omega)] | rw [if_neg (by omega)])) (Nat.le_of_ble_eq_true rfl) (Nat.le_of_ble_eq_true rfl) (Nat.le_of_ble_eq_true rfl) rfl dX9_removeRange_13 (nx_I) (kx_I ?_)
    refine r_if_eq (tgt := 34) dX9_removeRange_16 (by decide) (by omega) (fun h16 => ?_) (fun h16 => ?_)
    · omega
    ·
      refine r_iload_n dX9_removeRange_19 rfl ?_
      refine r_iload_n dX9_removeRange_20 rfl ?_
      refine r_sipush dX9_removeRange_21 (by decide) ?_
      refine r_callS3 okX9_within ⟨by decide, by decide⟩ ml_X9_41 (mX9_within (v := 1) (by omega) (by omega) (by omega) (by first | rw [if_pos (by omega)] | rw [if_neg (by omega)])) (Nat.le_of_ble_eq_true rfl) (Nat.le_of_ble_eq_true rfl) (Nat.le_of_ble_eq_true rfl) rfl dX9_removeRange_24 (nx_I) (kx_I ?_)
      refine r_if_eq (tgt := 34) dX9_removeRange_27 (by decide) (by omega) (fun h27 => ?_) (fun h27 => ?_)
      · omega
      ·
        refine r_iconst dX9_removeRange_30 ?_
        refine r_goto (tgt := 35) dX9_removeRange_31 (by decide) ?_
        refine r_putfield clX9 5 (by decide) fl_X9_34 rfl hm.o rfl rfl (Nat.le_of_ble_eq_true rfl) dX9_removeRange_35 ?_
        refine hm.w_thrown hi (fun Mx hm => ?_)
        refine r_aload_n dX9_removeRange_38 rfl ?_
        refine r_getfield clX9 5 (by decide) fl_X9_34 hm.o rfl dX9_removeRange_39 ?_
        refine r_if_le (tgt := 47) dX9_removeRange_42 (by decide) (by omega) (fun h42 => ?_) (fun h42 => ?_)
        ·
          refine r_aload_n dX9_removeRange_47 rfl ?_
          refine r_callV0 okX9_save ⟨by decide, by decide⟩ ml_X9_92 (mX9_save (σ := (n, F, g)) (S := S) hm hi hz hh hm6) hm.o rfl rfl (Nat.le_of_ble_eq_true rfl) (Nat.le_of_ble_eq_true rfl) (Nat.le_of_ble_eq_true rfl) rfl dX9_removeRange_48 (nx_tV) (kx_tV ?_)
          intro Mx hM
          obtain ⟨hA, hm, hh⟩ := hM
          have hm6 : 0 ≤ svM m ∧ svM m ≤ 6 := by unfold svM; split <;> omega
          refine r_aload_n dX9_removeRange_51 rfl ?_
          refine r_iload_n dX9_removeRange_52 rfl ?_
          refine r_iload_n dX9_removeRange_53 rfl ?_
          refine r_iload_n dX9_removeRange_54 rfl ?_
          refine r_callV3 okX9_takeAway ⟨by decide, by decide⟩ ml_X9_101 (mX9_takeAway hm.q hi hz hc0.1 hc0.2 (hvs k hc0.1 hc0.2) (by omega)) hm.o rfl rfl (Nat.le_of_ble_eq_true rfl) (Nat.le_of_ble_eq_true rfl) (Nat.le_of_ble_eq_true rfl) rfl dX9_removeRange_55 (nx_tI) (kx_tI ?_)
          intro Mx hM
          obtain ⟨zA, hq, hz⟩ := hM
          obtain ⟨rA, sA, bA, wA, rm, bk, hm⟩ := hq
          refine e_ireturn dX9_removeRange_58 rfl (Nat.le_of_ble_eq_true rfl) (Nat.le_of_ble_eq_true rfl) ?_
          exact okUR ((e2_ok (eSet_t hc0)).trans ((e2_ok (eB_t hc1)).trans ((e2_ok (eB_t hc2)).trans (eB_t hc3)))) rfl ⟨_, _, _, _, _, _, _, _, _, hm.q, hz, hh, hm6, ht, hl⟩
        · omega
  · omega

theorem mX9_removeRange {M0 M : Mem} {ad : Int → Nat} {n : Int → Int} {F : Int → Int → Int} {g : Int → Int} {m : Int} {S : Int → Sg3} {len : Int} {c : Int → Int} {th : Int} {k x y : Int} (hR : RS M0 M ad (n, F, g) m S len c th) (hi : Inj ad) (hv : Vld (n, F, g)) (q0 : R32 k) (q1 : R32 x) (q2 : R32 y) : Ct KX9_removeRange [.ref (ad 112), vI k, vI x, vI y] M 0 0 (UR (e2 (eSet k) (e2 (eB (0 ≤ x ∧ x ≤ 9999) xA) (e2 (eB (0 ≤ y ∧ y ≤ 9999) xA) (eB (x ≤ y) xA)))) (n k - (cutP (n k) (F k) x y).1) tc3 (fun M2 => RS M0 M2 ad (uI n k ((cutP (n k) (F k) x y).1), uI F k ((cutP (n k) (F k) x y).2), g) (svM m) (svS m S (n, F, g)) len c 0) (fun t M2 => RS M0 M2 ad (n, F, g) m S len c t)) := by
  by_cases hc0 : 0 ≤ k ∧ k < 4
  · skip
    by_cases hc1 : 0 ≤ x ∧ x ≤ 9999
    · skip
      by_cases hc2 : 0 ≤ y ∧ y ≤ 9999
      · skip
        by_cases hc3 : x ≤ y
        · skip
          exact mX9_removeRange_ok hR hi hv q0 q1 q2 hc0 hc1 hc2 hc3
        · exact mX9_removeRange_x3 hR hi hv q0 q1 q2 hc0 hc1 hc2 hc3
      · exact mX9_removeRange_x2 hR hi hv q0 q1 q2 hc0 hc1 hc2
    · exact mX9_removeRange_x1 hR hi hv q0 q1 q2 hc0 hc1
  · exact mX9_removeRange_x0 hR hi hv q0 q1 q2 hc0

set_option maxHeartbeats 4000000 in
theorem mX9_shift_x0 {M0 M : Mem} {ad : Int → Nat} {n : Int → Int} {F : Int → Int → Int} {g : Int → Int} {m : Int} {S : Int → Sg3} {len : Int} {c : Int → Int} {th : Int} {k b : Int} (hR : RS M0 M ad (n, F, g) m S len c th) (hi : Inj ad) (hv : Vld (n, F, g)) (q0 : R32 k) (q1 : R32 b) (hc0 : ¬ (0 ≤ k ∧ k < 4)) : Ct KX9_shift [.ref (ad 112), vI k, vI b] M 0 0 (UR (e2 (eSet k) (e2 (eB (-9999 ≤ b ∧ b ≤ 9999) xA) (eB (n k = 0 ∨ (0 ≤ atF (n k) (F k) 0 + b ∧ atF (n k) (F k) (n k - 1) + b ≤ 9999)) xS))) (atF (n k) (fun i => F k i + b) 0) tc3 (fun M2 => RS M0 M2 ad (uI n k (n k), uI F k (fun i => F k i + b), g) (svM m) (svS m S (n, F, g)) len c 0) (fun t M2 => RS M0 M2 ad (n, F, g) m S len c t)) := by
  refine Ct.of _ (by decide) rfl (Nat.le_of_ble_eq_true rfl) ?_
  obtain ⟨zA, hA, tA, pA, rd, nu, bd, sc, hs, ⟨rA, sA, bA, wA, rm, bk, hm⟩, hz, hh, hm6, ht, hl⟩ := hR
  change Zr zA n F g at hz
  obtain ⟨hvs, hv0, hv1, hv2, hv3⟩ := id hv
  dsimp only at hvs hv0 hv1 hv2 hv3
  have hg : (2 ≤ g 0 ∧ g 0 ≤ 16) ∧ 1 ≤ g 1 ∧ g 1 ≤ 9999 := ⟨⟨hv0, hv1⟩, hv2, hv3⟩
  refine r_aload_n dX9_shift_0 rfl ?_
  refine r_iload_n dX9_shift_1 rfl ?_
  refine r_callS1 okX9_isSet ⟨by decide, by decide⟩ ml_X9_81 (mX9_isSet (v := 0) (by omega) (by first | rw [if_pos (by omega)] | rw [if_neg (by omega)])) (Nat.le_of_ble_eq_true rfl) (Nat.le_of_ble_eq_true rfl) (Nat.le_of_ble_eq_true rfl) rfl dX9_shift_2 (nx_I) (kx_I ?_)
  refine r_if_ne (tgt := 12) dX9_shift_5 (by decide) (by omega) (fun h5 => ?_) (fun h5 => ?_)
  · omega
  ·
    refine r_iconst dX9_shift_8 ?_
    refine r_goto (tgt := 43) dX9_shift_9 (by decide) ?_
    refine r_putfield clX9 5 (by decide) fl_X9_34 rfl hm.o rfl rfl (Nat.le_of_ble_eq_true rfl) dX9_shift_43 ?_
    refine hm.w_thrown hi (fun Mx hm => ?_)
    refine r_aload_n dX9_shift_46 rfl ?_
    refine r_getfield clX9 5 (by decide) fl_X9_34 hm.o rfl dX9_shift_47 ?_
    refine r_if_le (tgt := 55) dX9_shift_50 (by decide) (by omega) (fun h50 => ?_) (fun h50 => ?_)
    · omega
    ·
      refine r_iconst dX9_shift_53 ?_
      refine e_ireturn dX9_shift_54 rfl (Nat.le_of_ble_eq_true rfl) (Nat.le_of_ble_eq_true rfl) ?_
      exact exUR (e2_x (eSet_f hc0) (by decide)) (by decide) (by decide) ⟨_, _, _, _, _, _, _, _, _, hm.q, hz, hh, hm6, ht, hl⟩

set_option maxHeartbeats 4000000 in
theorem mX9_shift_x1 {M0 M : Mem} {ad : Int → Nat} {n : Int → Int} {F : Int → Int → Int} {g : Int → Int} {m : Int} {S : Int → Sg3} {len : Int} {c : Int → Int} {th : Int} {k b : Int} (hR : RS M0 M ad (n, F, g) m S len c th) (hi : Inj ad) (hv : Vld (n, F, g)) (q0 : R32 k) (q1 : R32 b) (hc0 : 0 ≤ k ∧ k < 4) (hc1 : ¬ (-9999 ≤ b ∧ b ≤ 9999)) : Ct KX9_shift [.ref (ad 112), vI k, vI b] M 0 0 (UR (e2 (eSet k) (e2 (eB (-9999 ≤ b ∧ b ≤ 9999) xA) (eB (n k = 0 ∨ (0 ≤ atF (n k) (F k) 0 + b ∧ atF (n k) (F k) (n k - 1) + b ≤ 9999)) xS))) (atF (n k) (fun i => F k i + b) 0) tc3 (fun M2 => RS M0 M2 ad (uI n k (n k), uI F k (fun i => F k i + b), g) (svM m) (svS m S (n, F, g)) len c 0) (fun t M2 => RS M0 M2 ad (n, F, g) m S len c t)) := by
  refine Ct.of _ (by decide) rfl (Nat.le_of_ble_eq_true rfl) ?_
  obtain ⟨zA, hA, tA, pA, rd, nu, bd, sc, hs, ⟨rA, sA, bA, wA, rm, bk, hm⟩, hz, hh, hm6, ht, hl⟩ := hR
  change Zr zA n F g at hz
  obtain ⟨hvs, hv0, hv1, hv2, hv3⟩ := id hv
  dsimp only at hvs hv0 hv1 hv2 hv3
  have hg : (2 ≤ g 0 ∧ g 0 ≤ 16) ∧ 1 ≤ g 1 ∧ g 1 ≤ 9999 := ⟨⟨hv0, hv1⟩, hv2, hv3⟩
  refine r_aload_n dX9_shift_0 rfl ?_
  refine r_iload_n dX9_shift_1 rfl ?_
  refine r_callS1 okX9_isSet ⟨by decide, by decide⟩ ml_X9_81 (mX9_isSet (v := 1) (by omega) (by first | rw [if_pos (by omega)] | rw [if_neg (by omega)])) (Nat.le_of_ble_eq_true rfl) (Nat.le_of_ble_eq_true rfl) (Nat.le_of_ble_eq_true rfl) rfl dX9_shift_2 (nx_I) (kx_I ?_)
  refine r_if_ne (tgt := 12) dX9_shift_5 (by decide) (by omega) (fun h5 => ?_) (fun h5 => ?_)
  ·
    refine r_iload_n dX9_shift_12 rfl ?_
    refine r_sipush dX9_shift_13 (by decide) ?_
    refine r_sipush dX9_shift_16 (by decide) ?_
    refine r_callS3 okX9_within ⟨by decide, by decide⟩ ml_X9_41 (mX9_within (v := 0) (by omega) (by omega) (by omega) (by first | rw [if_pos (by omega)] | rw [if_neg (by omega)])) (Nat.le_of_ble_eq_true rfl) (Nat.le_of_ble_eq_true rfl) (Nat.le_of_ble_eq_true rfl) rfl dX9_shift_19 (nx_I) (kx_I ?_)
    refine r_if_ne (tgt := 29) dX9_shift_22 (by decide) (by omega) (fun h22 => ?_) (fun h22 => ?_)
    · omega
    ·
      refine r_iconst dX9_shift_25 ?_
      refine r_goto (tgt := 43) dX9_shift_26 (by decide) ?_
      refine r_putfield clX9 5 (by decide) fl_X9_34 rfl hm.o rfl rfl (Nat.le_of_ble_eq_true rfl) dX9_shift_43 ?_
      refine hm.w_thrown hi (fun Mx hm => ?_)
      refine r_aload_n dX9_shift_46 rfl ?_
      refine r_getfield clX9 5 (by decide) fl_X9_34 hm.o rfl dX9_shift_47 ?_
      refine r_if_le (tgt := 55) dX9_shift_50 (by decide) (by omega) (fun h50 => ?_) (fun h50 => ?_)
      · omega
      ·
        refine r_iconst dX9_shift_53 ?_
        refine e_ireturn dX9_shift_54 rfl (Nat.le_of_ble_eq_true rfl) (Nat.le_of_ble_eq_true rfl) ?_
        exact exUR ((e2_ok (eSet_t hc0)).trans (e2_x (eB_f hc1) (by decide))) (by decide) (by decide) ⟨_, _, _, _, _, _, _, _, _, hm.q, hz, hh, hm6, ht, hl⟩
  · omega

set_option maxHeartbeats 4000000 in
theorem mX9_shift_x2 {M0 M : Mem} {ad : Int → Nat} {n : Int → Int} {F : Int → Int → Int} {g : Int → Int} {m : Int} {S : Int → Sg3} {len : Int} {c : Int → Int} {th : Int} {k b : Int} (hR : RS M0 M ad (n, F, g) m S len c th) (hi : Inj ad) (hv : Vld (n, F, g)) (q0 : R32 k) (q1 : R32 b) (hc0 : 0 ≤ k ∧ k < 4) (hc1 : -9999 ≤ b ∧ b ≤ 9999) (hc2 : ¬ (n k = 0 ∨ (0 ≤ atF (n k) (F k) 0 + b ∧ atF (n k) (F k) (n k - 1) + b ≤ 9999))) : Ct KX9_shift [.ref (ad 112), vI k, vI b] M 0 0 (UR (e2 (eSet k) (e2 (eB (-9999 ≤ b ∧ b ≤ 9999) xA) (eB (n k = 0 ∨ (0 ≤ atF (n k) (F k) 0 + b ∧ atF (n k) (F k) (n k - 1) + b ≤ 9999)) xS))) (atF (n k) (fun i => F k i + b) 0) tc3 (fun M2 => RS M0 M2 ad (uI n k (n k), uI F k (fun i => F k i + b), g) (svM m) (svS m S (n, F, g)) len c 0) (fun t M2 => RS M0 M2 ad (n, F, g) m S len c t)) := by
  refine Ct.of _ (by decide) rfl (Nat.le_of_ble_eq_true rfl) ?_
  obtain ⟨zA, hA, tA, pA, rd, nu, bd, sc, hs, ⟨rA, sA, bA, wA, rm, bk, hm⟩, hz, hh, hm6, ht, hl⟩ := hR
  change Zr zA n F g at hz
  obtain ⟨hvs, hv0, hv1, hv2, hv3⟩ := id hv
  dsimp only at hvs hv0 hv1 hv2 hv3
  have hg : (2 ≤ g 0 ∧ g 0 ≤ 16) ∧ 1 ≤ g 1 ∧ g 1 ≤ 9999 := ⟨⟨hv0, hv1⟩, hv2, hv3⟩
  refine r_aload_n dX9_shift_0 rfl ?_
  refine r_iload_n dX9_shift_1 rfl ?_
  refine r_callS1 okX9_isSet ⟨by decide, by decide⟩ ml_X9_81 (mX9_isSet (v := 1) (by omega) (by first | rw [if_pos (by omega)] | rw [if_neg (by omega)])) (Nat.le_of_ble_eq_true rfl) (Nat.le_of_ble_eq_true rfl) (Nat.le_of_ble_eq_true rfl) rfl dX9_shift_2 (nx_I) (kx_I ?_)
  refine r_if_ne (tgt := 12) dX9_shift_5 (by decide) (by omega) (fun h5 => ?_) (fun h5 => ?_)
  ·
    refine r_iload_n dX9_shift_12 rfl ?_
    refine r_sipush dX9_shift_13 (by decide) ?_
    refine r_sipush dX9_shift_16 (by decide) ?_
    refine r_callS3 okX9_within ⟨by decide, by decide⟩ ml_X9_41 (mX9_within (v := 1) (by omega) (by omega) (by omega) (by first | rw [if_pos (by omega)] | rw [if_neg (by omega)])) (Nat.le_of_ble_eq_true rfl) (Nat.le_of_ble_eq_true rfl) (Nat.le_of_ble_eq_true rfl) rfl dX9_shift_19 (nx_I) (kx_I ?_)
    refine r_if_ne (tgt := 29) dX9_shift_22 (by decide) (by omega) (fun h22 => ?_) (fun h22 => ?_)
    ·
      refine r_aload_n dX9_shift_29 rfl ?_
      refine r_iload_n dX9_shift_30 rfl ?_
      refine r_iload_n dX9_shift_31 rfl ?_
      refine r_callV2 okX9_canShift ⟨by decide, by decide⟩ ml_X9_110 (mX9_canShift (v := 0) hm hz hc0.1 hc0.2 (by omega) (by first | rw [if_pos (by omega)] | rw [if_neg (by omega)])) hm.o rfl rfl (Nat.le_of_ble_eq_true rfl) (Nat.le_of_ble_eq_true rfl) (Nat.le_of_ble_eq_true rfl) rfl dX9_shift_32 (nx_I) (kx_I ?_)
      refine r_if_eq (tgt := 42) dX9_shift_35 (by decide) (by omega) (fun h35 => ?_) (fun h35 => ?_)
      ·
        refine r_iconst dX9_shift_42 ?_
        refine r_putfield clX9 5 (by decide) fl_X9_34 rfl hm.o rfl rfl (Nat.le_of_ble_eq_true rfl) dX9_shift_43 ?_
        refine hm.w_thrown hi (fun Mx hm => ?_)
        refine r_aload_n dX9_shift_46 rfl ?_
        refine r_getfield clX9 5 (by decide) fl_X9_34 hm.o rfl dX9_shift_47 ?_
        refine r_if_le (tgt := 55) dX9_shift_50 (by decide) (by omega) (fun h50 => ?_) (fun h50 => ?_)
        · omega
        ·
          refine r_iconst dX9_shift_53 ?_
          refine e_ireturn dX9_shift_54 rfl (Nat.le_of_ble_eq_true rfl) (Nat.le_of_ble_eq_true rfl) ?_
          exact exUR ((e2_ok (eSet_t hc0)).trans ((e2_ok (eB_t hc1)).trans (eB_f hc2))) (by decide) (by decide) ⟨_, _, _, _, _, _, _, _, _, hm.q, hz, hh, hm6, ht, hl⟩
      · omega
    · omega
  · omega

set_option maxHeartbeats 4000000 in
theorem mX9_shift_ok {M0 M : Mem} {ad : Int → Nat} {n : Int → Int} {F : Int → Int → Int} {g : Int → Int} {m : Int} {S : Int → Sg3} {len : Int} {c : Int → Int} {th : Int} {k b : Int} (hR : RS M0 M ad (n, F, g) m S len c th) (hi : Inj ad) (hv : Vld (n, F, g)) (q0 : R32 k) (q1 : R32 b) (hc0 : 0 ≤ k ∧ k < 4) (hc1 : -9999 ≤ b ∧ b ≤ 9999) (hc2 : n k = 0 ∨ (0 ≤ atF (n k) (F k) 0 + b ∧ atF (n k) (F k) (n k - 1) + b ≤ 9999)) : Ct KX9_shift [.ref (ad 112), vI k, vI b] M 0 0 (UR (e2 (eSet k) (e2 (eB (-9999 ≤ b ∧ b ≤ 9999) xA) (eB (n k = 0 ∨ (0 ≤ atF (n k) (F k) 0 + b ∧ atF (n k) (F k) (n k - 1) + b ≤ 9999)) xS))) (atF (n k) (fun i => F k i + b) 0) tc3 (fun M2 => RS M0 M2 ad (uI n k (n k), uI F k (fun i => F k i + b), g) (svM m) (svS m S (n, F, g)) len c 0) (fun t M2 => RS M0 M2 ad (n, F, g) m S len c t)) := by
  refine Ct.of _ (by decide) rfl (Nat.le_of_ble_eq_true rfl) ?_
  obtain ⟨zA, hA, tA, pA, rd, nu, bd, sc, hs, ⟨rA, sA, bA, wA, rm, bk, hm⟩, hz, hh, hm6, ht, hl⟩ := hR
  change Zr zA n F g at hz
  obtain ⟨hvs, hv0, hv1, hv2, hv3⟩ := id hv
  dsimp only at hvs hv0 hv1 hv2 hv3
  have hg : (2 ≤ g 0 ∧ g 0 ≤ 16) ∧ 1 ≤ g 1 ∧ g 1 ≤ 9999 := ⟨⟨hv0, hv1⟩, hv2, hv3⟩
  refine r_aload_n dX9_shift_0 rfl ?_
  refine r_iload_n dX9_shift_1 rfl ?_
  refine r_callS1 okX9_isSet ⟨by decide, by decide⟩ ml_X9_81 (mX9_isSet (v := 1) (by omega) (by first | rw [if_pos (by omega)] | rw [if_neg (by omega)])) (Nat.le_of_ble_eq_true rfl) (Nat.le_of_ble_eq_true rfl) (Nat.le_of_ble_eq_true rfl) rfl dX9_shift_2 (nx_I) (kx_I ?_)
  refine r_if_ne (tgt := 12) dX9_shift_5 (by decide) (by omega) (fun h5 => ?_) (fun h5 => ?_)
  ·
    refine r_iload_n dX9_shift_12 rfl ?_
    refine r_sipush dX9_shift_13 (by decide) ?_
    refine r_sipush dX9_shift_16 (by decide) ?_
    refine r_callS3 okX9_within ⟨by decide, by decide⟩ ml_X9_41 (mX9_within (v := 1) (by omega) (by omega) (by omega) (by first | rw [if_pos (by omega)] | rw [if_neg (by omega)])) (Nat.le_of_ble_eq_true rfl) (Nat.le_of_ble_eq_true rfl) (Nat.le_of_ble_eq_true rfl) rfl dX9_shift_19 (nx_I) (kx_I ?_)
    refine r_if_ne (tgt := 29) dX9_shift_22 (by decide) (by omega) (fun h22 => ?_) (fun h22 => ?_)
    ·
      refine r_aload_n dX9_shift_29 rfl ?_
      refine r_iload_n dX9_shift_30 rfl ?_
      refine r_iload_n dX9_shift_31 rfl ?_
      refine r_callV2 okX9_canShift ⟨by decide, by decide⟩ ml_X9_110 (mX9_canShift (v := 1) hm hz hc0.1 hc0.2 (by omega) (by first | rw [if_pos (by omega)] | rw [if_neg (by omega)])) hm.o rfl rfl (Nat.le_of_ble_eq_true rfl) (Nat.le_of_ble_eq_true rfl) (Nat.le_of_ble_eq_true rfl) rfl dX9_shift_32 (nx_I) (kx_I ?_)
      refine r_if_eq (tgt := 42) dX9_shift_35 (by decide) (by omega) (fun h35 => ?_) (fun h35 => ?_)
      · omega
      ·
        refine r_iconst dX9_shift_38 ?_
        refine r_goto (tgt := 43) dX9_shift_39 (by decide) ?_
        refine r_putfield clX9 5 (by decide) fl_X9_34 rfl hm.o rfl rfl (Nat.le_of_ble_eq_true rfl) dX9_shift_43 ?_
        refine hm.w_thrown hi (fun Mx hm => ?_)
        refine r_aload_n dX9_shift_46 rfl ?_
        refine r_getfield clX9 5 (by decide) fl_X9_34 hm.o rfl dX9_shift_47 ?_
        refine r_if_le (tgt := 55) dX9_shift_50 (by decide) (by omega) (fun h50 => ?_) (fun h50 => ?_)
        ·
          refine r_aload_n dX9_shift_55 rfl ?_
          refine r_callV0 okX9_save ⟨by decide, by decide⟩ ml_X9_92 (mX9_save (σ := (n, F, g)) (S := S) hm hi hz hh hm6) hm.o rfl rfl (Nat.le_of_ble_eq_true rfl) (Nat.le_of_ble_eq_true rfl) (Nat.le_of_ble_eq_true rfl) rfl dX9_shift_56 (nx_tV) (kx_tV ?_)
          intro Mx hM
          obtain ⟨hA, hm, hh⟩ := hM
          have hm6 : 0 ≤ svM m ∧ svM m ≤ 6 := by unfold svM; split <;> omega
          have hzn := hz.n hc0.1 hc0.2
          have hso := shift_ok (hvs k hc0.1 hc0.2) hzn.2.1 hc2
          refine r_iconst dX9_shift_59 ?_
          refine r_istore_n dX9_shift_60 (by decide) rfl ?_
          refine J.loc (L' := [(0, some _), (1, some _), (2, some _), (3, some _)]) (lsub_cons rfl (lsub_cons rfl (lsub_cons rfl (lsub_cons rfl (lsub_nil))))) (loop3 (fun (i : Int) (M1 : Mem) (z1 : Int → Int) => 0 ≤ i ∧ i ≤ n k ∧ RM M0 M1 ad z1 hA tA rA sA pA bA wA (svM m) len 0 rm bk rd nu bd sc hs ∧ (∀ p, 0 ≤ p → p < i → z1 (6 + 60 * k + p) = F k p + b) ∧ (∀ p, i ≤ p → p < n k → z1 (6 + 60 * k + p) = F k p) ∧ ∀ q, 0 ≤ q → q < 246 → (q < 6 + 60 * k ∨ 66 + 60 * k ≤ q) → z1 q = zA q) (fun (i : Int) (M1 : Mem) (z1 : Int → Int) => (n k - i).toNat) (fun (i : Int) (M1 : Mem) (z1 : Int → Int) => J KX9_shift 0 0 _ 61 [(0, some (.ref (ad 112))), (1, some (vI k)), (2, some (vI b)), (3, some (vI i))] [] M1 _ _) (fun i M1 z1 hI61 ih61 => ?_) _ _ zA ?_)
          ·
            obtain ⟨hi0, hi1, hm, hz1, hz2, hz3⟩ := hI61
            refine r_iload_n dX9_shift_61 rfl ?_
            refine r_aload_n dX9_shift_62 rfl ?_
            refine r_iload_n dX9_shift_63 rfl ?_
            refine r_callV1 okX9_many ⟨by decide, by decide⟩ ml_X9_45 (mX9_manyR hm hc0.1 hc0.2) hm.o rfl rfl (Nat.le_of_ble_eq_true rfl) (Nat.le_of_ble_eq_true rfl) (Nat.le_of_ble_eq_true rfl) rfl dX9_shift_64 (nx_I) (kx_I ?_)
            rw [hz3 (2 + k) (by omega) (by omega) (by omega), hzn.1]
            refine r_icmp_ge (tgt := 94) dX9_shift_67 (by decide) (by omega) (by omega) (fun h67 => ?_) (fun h67 => ?_)
            ·
              have hz : Zr z1 (uI n k (n k)) (uI F k (fun i => F k i + b)) g := hz.setK hc0.1 hc0.2 ⟨(hz3 (2 + k) (by omega) (by omega) (by omega)).trans hzn.1, hzn.2.1, hzn.2.2⟩ (fun p x y => ⟨hz1 p x (by omega), hso p x y⟩) (fun q x y z w => hz3 q x y w)
              refine r_aload_n dX9_shift_94 rfl ?_
              refine r_iload_n dX9_shift_95 rfl ?_
              refine r_callV1 okX9_leastOf ⟨by decide, by decide⟩ ml_X9_104 (mX9_leastOf hm hz hc0.1 hc0.2) hm.o rfl rfl (Nat.le_of_ble_eq_true rfl) (Nat.le_of_ble_eq_true rfl) (Nat.le_of_ble_eq_true rfl) rfl dX9_shift_96 (nx_I) (kx_I ?_)
              rw [uI_s, uI_s]
              refine e_ireturn dX9_shift_99 rfl (Nat.le_of_ble_eq_true rfl) (Nat.le_of_ble_eq_true rfl) ?_
              exact okUR ((e2_ok (eSet_t hc0)).trans ((e2_ok (eB_t hc1)).trans (eB_t hc2))) rfl ⟨_, _, _, _, _, _, _, _, _, hm.q, hz, hh, hm6, ht, hl⟩
            ·
              have hfi := (hz.f hc0.1 hc0.2 hi0 (by omega)).2
              refine r_aload_n dX9_shift_70 rfl ?_
              refine r_getfield clX9 0 (by decide) fl_X9_7 hm.o rfl dX9_shift_71 ?_
              refine r_bipush dX9_shift_74 (by decide) ?_
              refine r_bipush dX9_shift_76 (by decide) ?_
              refine r_iload_n dX9_shift_78 rfl ?_
              refine r_imul dX9_shift_79 ?_
              refine r_iadd dX9_shift_80 ?_
              refine r_iload_n dX9_shift_81 rfl ?_
              refine r_iadd dX9_shift_82 ?_
              refine r_dup2 dX9_shift_83 ?_
              refine r_iaload hm.z (by omega) (by omega) (by omega) dX9_shift_84 ?_
              refine r_iload_n dX9_shift_85 rfl ?_
              refine r_iadd dX9_shift_86 ?_
              refine r_iastore hm.z (by omega) (by omega) (by omega) dX9_shift_87 ?_
              refine hm.w_z hi (fun Mx hm => ?_)
              refine r_iinc dX9_shift_88 rfl rfl ?_
              refine r_goto (tgt := 61) dX9_shift_91 (by decide) ?_
              refine J.loc (lsub_cons rfl (lsub_cons rfl (lsub_cons rfl (lsub_cons rfl (lsub_nil))))) (ih61 _ _ (uI z1 (6 + 60 * k + i) (z1 (6 + 60 * k + i) + b)) ?_ ?_)
              · refine ⟨by omega, by omega, hm, fun p x y => ?_, fun p x y => (uI_n _ (by omega)).trans (hz2 p (by omega) y), fun q x y z => (uI_n _ (by omega)).trans (hz3 q x y z)⟩
                by_cases e : p = i
                · rw [e, uI_s, hz2 i (by omega) (by omega)]
                · rw [uI_n _ (by omega)]; exact hz1 p x (by omega)
              · omega
          · exact ⟨by omega, by omega, hm, fun p x y => by omega, fun p x y => (hz.f hc0.1 hc0.2 (by omega) y).1, fun q x y z => rfl⟩
        · omega
    · omega
  · omega

theorem mX9_shift {M0 M : Mem} {ad : Int → Nat} {n : Int → Int} {F : Int → Int → Int} {g : Int → Int} {m : Int} {S : Int → Sg3} {len : Int} {c : Int → Int} {th : Int} {k b : Int} (hR : RS M0 M ad (n, F, g) m S len c th) (hi : Inj ad) (hv : Vld (n, F, g)) (q0 : R32 k) (q1 : R32 b) : Ct KX9_shift [.ref (ad 112), vI k, vI b] M 0 0 (UR (e2 (eSet k) (e2 (eB (-9999 ≤ b ∧ b ≤ 9999) xA) (eB (n k = 0 ∨ (0 ≤ atF (n k) (F k) 0 + b ∧ atF (n k) (F k) (n k - 1) + b ≤ 9999)) xS))) (atF (n k) (fun i => F k i + b) 0) tc3 (fun M2 => RS M0 M2 ad (uI n k (n k), uI F k (fun i => F k i + b), g) (svM m) (svS m S (n, F, g)) len c 0) (fun t M2 => RS M0 M2 ad (n, F, g) m S len c t)) := by
  by_cases hc0 : 0 ≤ k ∧ k < 4
  · skip
    by_cases hc1 : -9999 ≤ b ∧ b ≤ 9999
    · skip
      by_cases hc2 : n k = 0 ∨ (0 ≤ atF (n k) (F k) 0 + b ∧ atF (n k) (F k) (n k - 1) + b ≤ 9999)
      · skip
        exact mX9_shift_ok hR hi hv q0 q1 hc0 hc1 hc2
      · exact mX9_shift_x2 hR hi hv q0 q1 hc0 hc1 hc2
    · exact mX9_shift_x1 hR hi hv q0 q1 hc0 hc1
  · exact mX9_shift_x0 hR hi hv q0 q1 hc0

set_option maxHeartbeats 4000000 in
theorem mX9_combine_x0 {M0 M : Mem} {ad : Int → Nat} {n : Int → Int} {F : Int → Int → Int} {g : Int → Int} {m : Int} {S : Int → Sg3} {len : Int} {c : Int → Int} {th : Int} {k k1 k2 how : Int} (hR : RS M0 M ad (n, F, g) m S len c th) (hi : Inj ad) (hv : Vld (n, F, g)) (q0 : R32 k) (q1 : R32 k1) (q2 : R32 k2) (q3 : R32 how) (hc0 : ¬ (0 ≤ k ∧ k < 4)) : Ct KX9_combine [.ref (ad 112), vI k, vI k1, vI k2, vI how] M 0 0 (UR (e2 (eSet k) (e2 (eSet k1) (e2 (eSet k2) (e2 (eB (0 ≤ how ∧ how ≤ 3) xA) (eB ((jnF (n k1) (F k1) (n k2) (F k2) how).1 ≤ 60) xS))))) ((jnF (n k1) (F k1) (n k2) (F k2) how).1) tc3 (fun M2 => RS M0 M2 ad (uI n k ((jnF (n k1) (F k1) (n k2) (F k2) how).1), uI F k ((jnF (n k1) (F k1) (n k2) (F k2) how).2), g) (svM m) (svS m S (n, F, g)) len c 0) (fun t M2 => RS M0 M2 ad (n, F, g) m S len c t)) := by
  refine Ct.of _ (by decide) rfl (Nat.le_of_ble_eq_true rfl) ?_
  obtain ⟨zA, hA, tA, pA, rd, nu, bd, sc, hs, ⟨rA, sA, bA, wA, rm, bk, hm⟩, hz, hh, hm6, ht, hl⟩ := hR
  change Zr zA n F g at hz
  obtain ⟨hvs, hv0, hv1, hv2, hv3⟩ := id hv
  dsimp only at hvs hv0 hv1 hv2 hv3
  have hg : (2 ≤ g 0 ∧ g 0 ≤ 16) ∧ 1 ≤ g 1 ∧ g 1 ≤ 9999 := ⟨⟨hv0, hv1⟩, hv2, hv3⟩
  refine r_aload_n dX9_combine_0 rfl ?_
  refine r_iload_n dX9_combine_1 rfl ?_
  refine r_callS1 okX9_isSet ⟨by decide, by decide⟩ ml_X9_81 (mX9_isSet (v := 0) (by omega) (by first | rw [if_pos (by omega)] | rw [if_neg (by omega)])) (Nat.le_of_ble_eq_true rfl) (Nat.le_of_ble_eq_true rfl) (Nat.le_of_ble_eq_true rfl) rfl dX9_combine_2 (nx_I) (kx_I ?_)
  refine r_if_eq (tgt := 22) dX9_combine_5 (by decide) (by omega) (fun h5 => ?_) (fun h5 => ?_)
  ·
    refine r_iconst dX9_combine_22 ?_
    refine r_goto (tgt := 41) dX9_combine_23 (by decide) ?_
    refine r_putfield clX9 5 (by decide) fl_X9_34 rfl hm.o rfl rfl (Nat.le_of_ble_eq_true rfl) dX9_combine_41 ?_
    refine hm.w_thrown hi (fun Mx hm => ?_)
    refine r_aload_n dX9_combine_44 rfl ?_
    refine r_getfield clX9 5 (by decide) fl_X9_34 hm.o rfl dX9_combine_45 ?_
    refine r_if_ne (tgt := 77) dX9_combine_48 (by decide) (by omega) (fun h48 => ?_) (fun h48 => ?_)
    ·
      refine r_aload_n dX9_combine_77 rfl ?_
      refine r_getfield clX9 5 (by decide) fl_X9_34 hm.o rfl dX9_combine_78 ?_
      refine r_if_le (tgt := 86) dX9_combine_81 (by decide) (by omega) (fun h81 => ?_) (fun h81 => ?_)
      · omega
      ·
        refine r_iconst dX9_combine_84 ?_
        refine e_ireturn dX9_combine_85 rfl (Nat.le_of_ble_eq_true rfl) (Nat.le_of_ble_eq_true rfl) ?_
        exact exUR (e2_x (eSet_f hc0) (by decide)) (by decide) (by decide) ⟨_, _, _, _, _, _, _, _, _, hm.q, hz, hh, hm6, ht, hl⟩
    · omega
  · omega

set_option maxHeartbeats 4000000 in
theorem mX9_combine_x1 {M0 M : Mem} {ad : Int → Nat} {n : Int → Int} {F : Int → Int → Int} {g : Int → Int} {m : Int} {S : Int → Sg3} {len : Int} {c : Int → Int} {th : Int} {k k1 k2 how : Int} (hR : RS M0 M ad (n, F, g) m S len c th) (hi : Inj ad) (hv : Vld (n, F, g)) (q0 : R32 k) (q1 : R32 k1) (q2 : R32 k2) (q3 : R32 how) (hc0 : 0 ≤ k ∧ k < 4) (hc1 : ¬ (0 ≤ k1 ∧ k1 < 4)) : Ct KX9_combine [.ref (ad 112), vI k, vI k1, vI k2, vI how] M 0 0 (UR (e2 (eSet k) (e2 (eSet k1) (e2 (eSet k2) (e2 (eB (0 ≤ how ∧ how ≤ 3) xA) (eB ((jnF (n k1) (F k1) (n k2) (F k2) how).1 ≤ 60) xS))))) ((jnF (n k1) (F k1) (n k2) (F k2) how).1) tc3 (fun M2 => RS M0 M2 ad (uI n k ((jnF (n k1) (F k1) (n k2) (F k2) how).1), uI F k ((jnF (n k1) (F k1) (n k2) (F k2) how).2), g) (svM m) (svS m S (n, F, g)) len c 0) (fun t M2 => RS M0 M2 ad (n, F, g) m S len c t)) := by
  refine Ct.of _ (by decide) rfl (Nat.le_of_ble_eq_true rfl) ?_
  obtain ⟨zA, hA, tA, pA, rd, nu, bd, sc, hs, ⟨rA, sA, bA, wA, rm, bk, hm⟩, hz, hh, hm6, ht, hl⟩ := hR
  change Zr zA n F g at hz
  obtain ⟨hvs, hv0, hv1, hv2, hv3⟩ := id hv
  dsimp only at hvs hv0 hv1 hv2 hv3
  have hg : (2 ≤ g 0 ∧ g 0 ≤ 16) ∧ 1 ≤ g 1 ∧ g 1 ≤ 9999 := ⟨⟨hv0, hv1⟩, hv2, hv3⟩
  refine r_aload_n dX9_combine_0 rfl ?_
  refine r_iload_n dX9_combine_1 rfl ?_
  refine r_callS1 okX9_isSet ⟨by decide, by decide⟩ ml_X9_81 (mX9_isSet (v := 1) (by omega) (by first | rw [if_pos (by omega)] | rw [if_neg (by omega)])) (Nat.le_of_ble_eq_true rfl) (Nat.le_of_ble_eq_true rfl) (Nat.le_of_ble_eq_true rfl) rfl dX9_combine_2 (nx_I) (kx_I ?_)
  refine r_if_eq (tgt := 22) dX9_combine_5 (by decide) (by omega) (fun h5 => ?_) (fun h5 => ?_)
  · omega
  ·
    refine r_iload_n dX9_combine_8 rfl ?_
    refine r_callS1 okX9_isSet ⟨by decide, by decide⟩ ml_X9_81 (mX9_isSet (v := 0) (by omega) (by first | rw [if_pos (by omega)] | rw [if_neg (by omega)])) (Nat.le_of_ble_eq_true rfl) (Nat.le_of_ble_eq_true rfl) (Nat.le_of_ble_eq_true rfl) rfl dX9_combine_9 (nx_I) (kx_I ?_)
    refine r_if_eq (tgt := 22) dX9_combine_12 (by decide) (by omega) (fun h12 => ?_) (fun h12 => ?_)
    ·
      refine r_iconst dX9_combine_22 ?_
      refine r_goto (tgt := 41) dX9_combine_23 (by decide) ?_
      refine r_putfield clX9 5 (by decide) fl_X9_34 rfl hm.o rfl rfl (Nat.le_of_ble_eq_true rfl) dX9_combine_41 ?_
      refine hm.w_thrown hi (fun Mx hm => ?_)
      refine r_aload_n dX9_combine_44 rfl ?_
      refine r_getfield clX9 5 (by decide) fl_X9_34 hm.o rfl dX9_combine_45 ?_
      refine r_if_ne (tgt := 77) dX9_combine_48 (by decide) (by omega) (fun h48 => ?_) (fun h48 => ?_)
      ·
        refine r_aload_n dX9_combine_77 rfl ?_
        refine r_getfield clX9 5 (by decide) fl_X9_34 hm.o rfl dX9_combine_78 ?_
        refine r_if_le (tgt := 86) dX9_combine_81 (by decide) (by omega) (fun h81 => ?_) (fun h81 => ?_)
        · omega
        ·
          refine r_iconst dX9_combine_84 ?_
          refine e_ireturn dX9_combine_85 rfl (Nat.le_of_ble_eq_true rfl) (Nat.le_of_ble_eq_true rfl) ?_
          exact exUR ((e2_ok (eSet_t hc0)).trans (e2_x (eSet_f hc1) (by decide))) (by decide) (by decide) ⟨_, _, _, _, _, _, _, _, _, hm.q, hz, hh, hm6, ht, hl⟩
      · omega
    · omega

set_option maxHeartbeats 4000000 in
theorem mX9_combine_x2 {M0 M : Mem} {ad : Int → Nat} {n : Int → Int} {F : Int → Int → Int} {g : Int → Int} {m : Int} {S : Int → Sg3} {len : Int} {c : Int → Int} {th : Int} {k k1 k2 how : Int} (hR : RS M0 M ad (n, F, g) m S len c th) (hi : Inj ad) (hv : Vld (n, F, g)) (q0 : R32 k) (q1 : R32 k1) (q2 : R32 k2) (q3 : R32 how) (hc0 : 0 ≤ k ∧ k < 4) (hc1 : 0 ≤ k1 ∧ k1 < 4) (hc2 : ¬ (0 ≤ k2 ∧ k2 < 4)) : Ct KX9_combine [.ref (ad 112), vI k, vI k1, vI k2, vI how] M 0 0 (UR (e2 (eSet k) (e2 (eSet k1) (e2 (eSet k2) (e2 (eB (0 ≤ how ∧ how ≤ 3) xA) (eB ((jnF (n k1) (F k1) (n k2) (F k2) how).1 ≤ 60) xS))))) ((jnF (n k1) (F k1) (n k2) (F k2) how).1) tc3 (fun M2 => RS M0 M2 ad (uI n k ((jnF (n k1) (F k1) (n k2) (F k2) how).1), uI F k ((jnF (n k1) (F k1) (n k2) (F k2) how).2), g) (svM m) (svS m S (n, F, g)) len c 0) (fun t M2 => RS M0 M2 ad (n, F, g) m S len c t)) := by
  refine Ct.of _ (by decide) rfl (Nat.le_of_ble_eq_true rfl) ?_
  obtain ⟨zA, hA, tA, pA, rd, nu, bd, sc, hs, ⟨rA, sA, bA, wA, rm, bk, hm⟩, hz, hh, hm6, ht, hl⟩ := hR
  change Zr zA n F g at hz
  obtain ⟨hvs, hv0, hv1, hv2, hv3⟩ := id hv
  dsimp only at hvs hv0 hv1 hv2 hv3
  have hg : (2 ≤ g 0 ∧ g 0 ≤ 16) ∧ 1 ≤ g 1 ∧ g 1 ≤ 9999 := ⟨⟨hv0, hv1⟩, hv2, hv3⟩
  refine r_aload_n dX9_combine_0 rfl ?_
  refine r_iload_n dX9_combine_1 rfl ?_
  refine r_callS1 okX9_isSet ⟨by decide, by decide⟩ ml_X9_81 (mX9_isSet (v := 1) (by omega) (by first | rw [if_pos (by omega)] | rw [if_neg (by omega)])) (Nat.le_of_ble_eq_true rfl) (Nat.le_of_ble_eq_true rfl) (Nat.le_of_ble_eq_true rfl) rfl dX9_combine_2 (nx_I) (kx_I ?_)
  refine r_if_eq (tgt := 22) dX9_combine_5 (by decide) (by omega) (fun h5 => ?_) (fun h5 => ?_)
  · omega
  ·
    refine r_iload_n dX9_combine_8 rfl ?_
    refine r_callS1 okX9_isSet ⟨by decide, by decide⟩ ml_X9_81 (mX9_isSet (v := 1) (by omega) (by first | rw [if_pos (by omega)] | rw [if_neg (by omega)])) (Nat.le_of_ble_eq_true rfl) (Nat.le_of_ble_eq_true rfl) (Nat.le_of_ble_eq_true rfl) rfl dX9_combine_9 (nx_I) (kx_I ?_)
    refine r_if_eq (tgt := 22) dX9_combine_12 (by decide) (by omega) (fun h12 => ?_) (fun h12 => ?_)
    · omega
    ·
      refine r_iload_n dX9_combine_15 rfl ?_
      refine r_callS1 okX9_isSet ⟨by decide, by decide⟩ ml_X9_81 (mX9_isSet (v := 0) (by omega) (by first | rw [if_pos (by omega)] | rw [if_neg (by omega)])) (Nat.le_of_ble_eq_true rfl) (Nat.le_of_ble_eq_true rfl) (Nat.le_of_ble_eq_true rfl) rfl dX9_combine_16 (nx_I) (kx_I ?_)
      refine r_if_ne (tgt := 26) dX9_combine_19 (by decide) (by omega) (fun h19 => ?_) (fun h19 => ?_)
      · omega
      ·
        refine r_iconst dX9_combine_22 ?_
        refine r_goto (tgt := 41) dX9_combine_23 (by decide) ?_
        refine r_putfield clX9 5 (by decide) fl_X9_34 rfl hm.o rfl rfl (Nat.le_of_ble_eq_true rfl) dX9_combine_41 ?_
        refine hm.w_thrown hi (fun Mx hm => ?_)
        refine r_aload_n dX9_combine_44 rfl ?_
        refine r_getfield clX9 5 (by decide) fl_X9_34 hm.o rfl dX9_combine_45 ?_
        refine r_if_ne (tgt := 77) dX9_combine_48 (by decide) (by omega) (fun h48 => ?_) (fun h48 => ?_)
        ·
          refine r_aload_n dX9_combine_77 rfl ?_
          refine r_getfield clX9 5 (by decide) fl_X9_34 hm.o rfl dX9_combine_78 ?_
          refine r_if_le (tgt := 86) dX9_combine_81 (by decide) (by omega) (fun h81 => ?_) (fun h81 => ?_)
          · omega
          ·
            refine r_iconst dX9_combine_84 ?_
            refine e_ireturn dX9_combine_85 rfl (Nat.le_of_ble_eq_true rfl) (Nat.le_of_ble_eq_true rfl) ?_
            exact exUR ((e2_ok (eSet_t hc0)).trans ((e2_ok (eSet_t hc1)).trans (e2_x (eSet_f hc2) (by decide)))) (by decide) (by decide) ⟨_, _, _, _, _, _, _, _, _, hm.q, hz, hh, hm6, ht, hl⟩
        · omega

set_option maxHeartbeats 4000000 in
theorem mX9_combine_x3 {M0 M : Mem} {ad : Int → Nat} {n : Int → Int} {F : Int → Int → Int} {g : Int → Int} {m : Int} {S : Int → Sg3} {len : Int} {c : Int → Int} {th : Int} {k k1 k2 how : Int} (hR : RS M0 M ad (n, F, g) m S len c th) (hi : Inj ad) (hv : Vld (n, F, g)) (q0 : R32 k) (q1 : R32 k1) (q2 : R32 k2) (q3 : R32 how) (hc0 : 0 ≤ k ∧ k < 4) (hc1 : 0 ≤ k1 ∧ k1 < 4) (hc2 : 0 ≤ k2 ∧ k2 < 4) (hc3 : ¬ (0 ≤ how ∧ how ≤ 3)) : Ct KX9_combine [.ref (ad 112), vI k, vI k1, vI k2, vI how] M 0 0 (UR (e2 (eSet k) (e2 (eSet k1) (e2 (eSet k2) (e2 (eB (0 ≤ how ∧ how ≤ 3) xA) (eB ((jnF (n k1) (F k1) (n k2) (F k2) how).1 ≤ 60) xS))))) ((jnF (n k1) (F k1) (n k2) (F k2) how).1) tc3 (fun M2 => RS M0 M2 ad (uI n k ((jnF (n k1) (F k1) (n k2) (F k2) how).1), uI F k ((jnF (n k1) (F k1) (n k2) (F k2) how).2), g) (svM m) (svS m S (n, F, g)) len c 0) (fun t M2 => RS M0 M2 ad (n, F, g) m S len c t)) := by
  refine Ct.of _ (by decide) rfl (Nat.le_of_ble_eq_true rfl) ?_
  obtain ⟨zA, hA, tA, pA, rd, nu, bd, sc, hs, ⟨rA, sA, bA, wA, rm, bk, hm⟩, hz, hh, hm6, ht, hl⟩ := hR
  change Zr zA n F g at hz
  obtain ⟨hvs, hv0, hv1, hv2, hv3⟩ := id hv
  dsimp only at hvs hv0 hv1 hv2 hv3
  have hg : (2 ≤ g 0 ∧ g 0 ≤ 16) ∧ 1 ≤ g 1 ∧ g 1 ≤ 9999 := ⟨⟨hv0, hv1⟩, hv2, hv3⟩
  refine r_aload_n dX9_combine_0 rfl ?_
  refine r_iload_n dX9_combine_1 rfl ?_
  refine r_callS1 okX9_isSet ⟨by decide, by decide⟩ ml_X9_81 (mX9_isSet (v := 1) (by omega) (by first | rw [if_pos (by omega)] | rw [if_neg (by omega)])) (Nat.le_of_ble_eq_true rfl) (Nat.le_of_ble_eq_true rfl) (Nat.le_of_ble_eq_true rfl) rfl dX9_combine_2 (nx_I) (kx_I ?_)
  refine r_if_eq (tgt := 22) dX9_combine_5 (by decide) (by omega) (fun h5 => ?_) (fun h5 => ?_)
  · omega
  ·
    refine r_iload_n dX9_combine_8 rfl ?_
    refine r_callS1 okX9_isSet ⟨by decide, by decide⟩ ml_X9_81 (mX9_isSet (v := 1) (by omega) (by first | rw [if_pos (by omega)] | rw [if_neg (by omega)])) (Nat.le_of_ble_eq_true rfl) (Nat.le_of_ble_eq_true rfl) (Nat.le_of_ble_eq_true rfl) rfl dX9_combine_9 (nx_I) (kx_I ?_)
    refine r_if_eq (tgt := 22) dX9_combine_12 (by decide) (by omega) (fun h12 => ?_) (fun h12 => ?_)
    · omega
    ·
      refine r_iload_n dX9_combine_15 rfl ?_
      refine r_callS1 okX9_isSet ⟨by decide, by decide⟩ ml_X9_81 (mX9_isSet (v := 1) (by omega) (by first | rw [if_pos (by omega)] | rw [if_neg (by omega)])) (Nat.le_of_ble_eq_true rfl) (Nat.le_of_ble_eq_true rfl) (Nat.le_of_ble_eq_true rfl) rfl dX9_combine_16 (nx_I) (kx_I ?_)
      refine r_if_ne (tgt := 26) dX9_combine_19 (by decide) (by omega) (fun h19 => ?_) (fun h19 => ?_)
      ·
        refine r_iload dX9_combine_26 rfl ?_
        refine r_iconst dX9_combine_28 ?_
        refine r_iconst dX9_combine_29 ?_
        refine r_callS3 okX9_within ⟨by decide, by decide⟩ ml_X9_41 (mX9_within (v := 0) (by omega) (by omega) (by omega) (by first | rw [if_pos (by omega)] | rw [if_neg (by omega)])) (Nat.le_of_ble_eq_true rfl) (Nat.le_of_ble_eq_true rfl) (Nat.le_of_ble_eq_true rfl) rfl dX9_combine_30 (nx_I) (kx_I ?_)
        refine r_if_eq (tgt := 40) dX9_combine_33 (by decide) (by omega) (fun h33 => ?_) (fun h33 => ?_)
        ·
          refine r_iconst dX9_combine_40 ?_
          refine r_putfield clX9 5 (by decide) fl_X9_34 rfl hm.o rfl rfl (Nat.le_of_ble_eq_true rfl) dX9_combine_41 ?_
          refine hm.w_thrown hi (fun Mx hm => ?_)
          refine r_aload_n dX9_combine_44 rfl ?_
          refine r_getfield clX9 5 (by decide) fl_X9_34 hm.o rfl dX9_combine_45 ?_
          refine r_if_ne (tgt := 77) dX9_combine_48 (by decide) (by omega) (fun h48 => ?_) (fun h48 => ?_)
          ·
            refine r_aload_n dX9_combine_77 rfl ?_
            refine r_getfield clX9 5 (by decide) fl_X9_34 hm.o rfl dX9_combine_78 ?_
            refine r_if_le (tgt := 86) dX9_combine_81 (by decide) (by omega) (fun h81 => ?_) (fun h81 => ?_)
            · omega
            ·
              refine r_iconst dX9_combine_84 ?_
              refine e_ireturn dX9_combine_85 rfl (Nat.le_of_ble_eq_true rfl) (Nat.le_of_ble_eq_true rfl) ?_
              exact exUR ((e2_ok (eSet_t hc0)).trans ((e2_ok (eSet_t hc1)).trans ((e2_ok (eSet_t hc2)).trans (e2_x (eB_f hc3) (by decide))))) (by decide) (by decide) ⟨_, _, _, _, _, _, _, _, _, hm.q, hz, hh, hm6, ht, hl⟩
          · omega
        · omega
      · omega

set_option maxHeartbeats 4000000 in
theorem mX9_combine_x4 {M0 M : Mem} {ad : Int → Nat} {n : Int → Int} {F : Int → Int → Int} {g : Int → Int} {m : Int} {S : Int → Sg3} {len : Int} {c : Int → Int} {th : Int} {k k1 k2 how : Int} (hR : RS M0 M ad (n, F, g) m S len c th) (hi : Inj ad) (hv : Vld (n, F, g)) (q0 : R32 k) (q1 : R32 k1) (q2 : R32 k2) (q3 : R32 how) (hc0 : 0 ≤ k ∧ k < 4) (hc1 : 0 ≤ k1 ∧ k1 < 4) (hc2 : 0 ≤ k2 ∧ k2 < 4) (hc3 : 0 ≤ how ∧ how ≤ 3) (hc4 : ¬ ((jnF (n k1) (F k1) (n k2) (F k2) how).1 ≤ 60)) : Ct KX9_combine [.ref (ad 112), vI k, vI k1, vI k2, vI how] M 0 0 (UR (e2 (eSet k) (e2 (eSet k1) (e2 (eSet k2) (e2 (eB (0 ≤ how ∧ how ≤ 3) xA) (eB ((jnF (n k1) (F k1) (n k2) (F k2) how).1 ≤ 60) xS))))) ((jnF (n k1) (F k1) (n k2) (F k2) how).1) tc3 (fun M2 => RS M0 M2 ad (uI n k ((jnF (n k1) (F k1) (n k2) (F k2) how).1), uI F k ((jnF (n k1) (F k1) (n k2) (F k2) how).2), g) (svM m) (svS m S (n, F, g)) len c 0) (fun t M2 => RS M0 M2 ad (n, F, g) m S len c t)) := by
  refine Ct.of _ (by decide) rfl (Nat.le_of_ble_eq_true rfl) ?_
  obtain ⟨zA, hA, tA, pA, rd, nu, bd, sc, hs, ⟨rA, sA, bA, wA, rm, bk, hm⟩, hz, hh, hm6, ht, hl⟩ := hR
  change Zr zA n F g at hz
  obtain ⟨hvs, hv0, hv1, hv2, hv3⟩ := id hv
  dsimp only at hvs hv0 hv1 hv2 hv3
  have hg : (2 ≤ g 0 ∧ g 0 ≤ 16) ∧ 1 ≤ g 1 ∧ g 1 ≤ 9999 := ⟨⟨hv0, hv1⟩, hv2, hv3⟩
  refine r_aload_n dX9_combine_0 rfl ?_
  refine r_iload_n dX9_combine_1 rfl ?_
  refine r_callS1 okX9_isSet ⟨by decide, by decide⟩ ml_X9_81 (mX9_isSet (v := 1) (by omega) (by first | rw [if_pos (by omega)] | rw [if_neg (by omega)])) (Nat.le_of_ble_eq_true rfl) (Nat.le_of_ble_eq_true rfl) (Nat.le_of_ble_eq_true rfl) rfl dX9_combine_2 (nx_I) (kx_I ?_)
  refine r_if_eq (tgt := 22) dX9_combine_5 (by decide) (by omega) (fun h5 => ?_) (fun h5 => ?_)
  · omega
  ·
    refine r_iload_n dX9_combine_8 rfl ?_
    refine r_callS1 okX9_isSet ⟨by decide, by decide⟩ ml_X9_81 (mX9_isSet (v := 1) (by omega) (by first | rw [if_pos (by omega)] | rw [if_neg (by omega)])) (Nat.le_of_ble_eq_true rfl) (Nat.le_of_ble_eq_true rfl) (Nat.le_of_ble_eq_true rfl) rfl dX9_combine_9 (nx_I) (kx_I ?_)
    refine r_if_eq (tgt := 22) dX9_combine_12 (by decide) (by omega) (fun h12 => ?_) (fun h12 => ?_)
    · omega
    ·
      refine r_iload_n dX9_combine_15 rfl ?_
      refine r_callS1 okX9_isSet ⟨by decide, by decide⟩ ml_X9_81 (mX9_isSet (v := 1) (by omega) (by first | rw [if_pos (by omega)] | rw [if_neg (by omega)])) (Nat.le_of_ble_eq_true rfl) (Nat.le_of_ble_eq_true rfl) (Nat.le_of_ble_eq_true rfl) rfl dX9_combine_16 (nx_I) (kx_I ?_)
      refine r_if_ne (tgt := 26) dX9_combine_19 (by decide) (by omega) (fun h19 => ?_) (fun h19 => ?_)
      ·
        refine r_iload dX9_combine_26 rfl ?_
        refine r_iconst dX9_combine_28 ?_
        refine r_iconst dX9_combine_29 ?_
        refine r_callS3 okX9_within ⟨by decide, by decide⟩ ml_X9_41 (mX9_within (v := 1) (by omega) (by omega) (by omega) (by first | rw [if_pos (by omega)] | rw [if_neg (by omega)])) (Nat.le_of_ble_eq_true rfl) (Nat.le_of_ble_eq_true rfl) (Nat.le_of_ble_eq_true rfl) rfl dX9_combine_30 (nx_I) (kx_I ?_)
        refine r_if_eq (tgt := 40) dX9_combine_33 (by decide) (by omega) (fun h33 => ?_) (fun h33 => ?_)
        · omega
        ·
          refine r_iconst dX9_combine_36 ?_
          refine r_goto (tgt := 41) dX9_combine_37 (by decide) ?_
          refine r_putfield clX9 5 (by decide) fl_X9_34 rfl hm.o rfl rfl (Nat.le_of_ble_eq_true rfl) dX9_combine_41 ?_
          refine hm.w_thrown hi (fun Mx hm => ?_)
          refine r_aload_n dX9_combine_44 rfl ?_
          refine r_getfield clX9 5 (by decide) fl_X9_34 hm.o rfl dX9_combine_45 ?_
          refine r_if_ne (tgt := 77) dX9_combine_48 (by decide) (by omega) (fun h48 => ?_) (fun h48 => ?_)
          · omega
          ·
            refine r_aload_n dX9_combine_51 rfl ?_
            refine r_iload_n dX9_combine_52 rfl ?_
            refine r_iload_n dX9_combine_53 rfl ?_
            refine r_iload dX9_combine_54 rfl ?_
            refine r_callV3 okX9_layCombined ⟨by decide, by decide⟩ ml_X9_117 (mX9_layCombined hm hi hz hc1.1 hc1.2 hc2.1 hc2.2 hv hc3) hm.o rfl rfl (Nat.le_of_ble_eq_true rfl) (Nat.le_of_ble_eq_true rfl) (Nat.le_of_ble_eq_true rfl) rfl dX9_combine_56 (nx_tV) (kx_tV ?_)
            intro Mx hM
            obtain ⟨rA, hm, hjb, hjr⟩ := hM
            refine r_aload_n dX9_combine_59 rfl ?_
            refine r_aload_n dX9_combine_60 rfl ?_
            refine r_getfield clX9 7 (by decide) fl_X9_56 hm.o rfl dX9_combine_61 ?_
            refine r_bipush dX9_combine_64 (by decide) ?_
            refine r_icmp_le (tgt := 73) dX9_combine_66 (by decide) (by omega) (by omega) (fun h66 => ?_) (fun h66 => ?_)
            · omega
            ·
              refine r_iconst dX9_combine_69 ?_
              refine r_goto (tgt := 74) dX9_combine_70 (by decide) ?_
              refine r_putfield clX9 5 (by decide) fl_X9_34 rfl hm.o rfl rfl (Nat.le_of_ble_eq_true rfl) dX9_combine_74 ?_
              refine hm.w_thrown hi (fun Mx hm => ?_)
              refine r_aload_n dX9_combine_77 rfl ?_
              refine r_getfield clX9 5 (by decide) fl_X9_34 hm.o rfl dX9_combine_78 ?_
              refine r_if_le (tgt := 86) dX9_combine_81 (by decide) (by omega) (fun h81 => ?_) (fun h81 => ?_)
              · omega
              ·
                refine r_iconst dX9_combine_84 ?_
                refine e_ireturn dX9_combine_85 rfl (Nat.le_of_ble_eq_true rfl) (Nat.le_of_ble_eq_true rfl) ?_
                exact exUR ((e2_ok (eSet_t hc0)).trans ((e2_ok (eSet_t hc1)).trans ((e2_ok (eSet_t hc2)).trans ((e2_ok (eB_t hc3)).trans (eB_f hc4))))) (by decide) (by decide) ⟨_, _, _, _, _, _, _, _, _, hm.q, hz, hh, hm6, ht, hl⟩
      · omega

set_option maxHeartbeats 4000000 in
theorem mX9_combine_ok {M0 M : Mem} {ad : Int → Nat} {n : Int → Int} {F : Int → Int → Int} {g : Int → Int} {m : Int} {S : Int → Sg3} {len : Int} {c : Int → Int} {th : Int} {k k1 k2 how : Int} (hR : RS M0 M ad (n, F, g) m S len c th) (hi : Inj ad) (hv : Vld (n, F, g)) (q0 : R32 k) (q1 : R32 k1) (q2 : R32 k2) (q3 : R32 how) (hc0 : 0 ≤ k ∧ k < 4) (hc1 : 0 ≤ k1 ∧ k1 < 4) (hc2 : 0 ≤ k2 ∧ k2 < 4) (hc3 : 0 ≤ how ∧ how ≤ 3) (hc4 : (jnF (n k1) (F k1) (n k2) (F k2) how).1 ≤ 60) : Ct KX9_combine [.ref (ad 112), vI k, vI k1, vI k2, vI how] M 0 0 (UR (e2 (eSet k) (e2 (eSet k1) (e2 (eSet k2) (e2 (eB (0 ≤ how ∧ how ≤ 3) xA) (eB ((jnF (n k1) (F k1) (n k2) (F k2) how).1 ≤ 60) xS))))) ((jnF (n k1) (F k1) (n k2) (F k2) how).1) tc3 (fun M2 => RS M0 M2 ad (uI n k ((jnF (n k1) (F k1) (n k2) (F k2) how).1), uI F k ((jnF (n k1) (F k1) (n k2) (F k2) how).2), g) (svM m) (svS m S (n, F, g)) len c 0) (fun t M2 => RS M0 M2 ad (n, F, g) m S len c t)) := by
  refine Ct.of _ (by decide) rfl (Nat.le_of_ble_eq_true rfl) ?_
  obtain ⟨zA, hA, tA, pA, rd, nu, bd, sc, hs, ⟨rA, sA, bA, wA, rm, bk, hm⟩, hz, hh, hm6, ht, hl⟩ := hR
  change Zr zA n F g at hz
  obtain ⟨hvs, hv0, hv1, hv2, hv3⟩ := id hv
  dsimp only at hvs hv0 hv1 hv2 hv3
  have hg : (2 ≤ g 0 ∧ g 0 ≤ 16) ∧ 1 ≤ g 1 ∧ g 1 ≤ 9999 := ⟨⟨hv0, hv1⟩, hv2, hv3⟩
  refine r_aload_n dX9_combine_0 rfl ?_
  refine r_iload_n dX9_combine_1 rfl ?_
  refine r_callS1 okX9_isSet ⟨by decide, by decide⟩ ml_X9_81 (mX9_isSet (v := 1) (by omega) (by first | rw [if_pos (by omega)] | rw [if_neg (by omega)])) (Nat.le_of_ble_eq_true rfl) (Nat.le_of_ble_eq_true rfl) (Nat.le_of_ble_eq_true rfl) rfl dX9_combine_2 (nx_I) (kx_I ?_)
  refine r_if_eq (tgt := 22) dX9_combine_5 (by decide) (by omega) (fun h5 => ?_) (fun h5 => ?_)
  · omega
  ·
    refine r_iload_n dX9_combine_8 rfl ?_
    refine r_callS1 okX9_isSet ⟨by decide, by decide⟩ ml_X9_81 (mX9_isSet (v := 1) (by omega) (by first | rw [if_pos (by omega)] | rw [if_neg (by omega)])) (Nat.le_of_ble_eq_true rfl) (Nat.le_of_ble_eq_true rfl) (Nat.le_of_ble_eq_true rfl) rfl dX9_combine_9 (nx_I) (kx_I ?_)
    refine r_if_eq (tgt := 22) dX9_combine_12 (by decide) (by omega) (fun h12 => ?_) (fun h12 => ?_)
    · omega
    ·
      refine r_iload_n dX9_combine_15 rfl ?_
      refine r_callS1 okX9_isSet ⟨by decide, by decide⟩ ml_X9_81 (mX9_isSet (v := 1) (by omega) (by first | rw [if_pos (by omega)] | rw [if_neg (by omega)])) (Nat.le_of_ble_eq_true rfl) (Nat.le_of_ble_eq_true rfl) (Nat.le_of_ble_eq_true rfl) rfl dX9_combine_16 (nx_I) (kx_I ?_)
      refine r_if_ne (tgt := 26) dX9_combine_19 (by decide) (by omega) (fun h19 => ?_) (fun h19 => ?_)
      ·
        refine r_iload dX9_combine_26 rfl ?_
        refine r_iconst dX9_combine_28 ?_
        refine r_iconst dX9_combine_29 ?_
        refine r_callS3 okX9_within ⟨by decide, by decide⟩ ml_X9_41 (mX9_within (v := 1) (by omega) (by omega) (by omega) (by first | rw [if_pos (by omega)] | rw [if_neg (by omega)])) (Nat.le_of_ble_eq_true rfl) (Nat.le_of_ble_eq_true rfl) (Nat.le_of_ble_eq_true rfl) rfl dX9_combine_30 (nx_I) (kx_I ?_)
        refine r_if_eq (tgt := 40) dX9_combine_33 (by decide) (by omega) (fun h33 => ?_) (fun h33 => ?_)
        · omega
        ·
          refine r_iconst dX9_combine_36 ?_
          refine r_goto (tgt := 41) dX9_combine_37 (by decide) ?_
          refine r_putfield clX9 5 (by decide) fl_X9_34 rfl hm.o rfl rfl (Nat.le_of_ble_eq_true rfl) dX9_combine_41 ?_
          refine hm.w_thrown hi (fun Mx hm => ?_)
          refine r_aload_n dX9_combine_44 rfl ?_
          refine r_getfield clX9 5 (by decide) fl_X9_34 hm.o rfl dX9_combine_45 ?_
          refine r_if_ne (tgt := 77) dX9_combine_48 (by decide) (by omega) (fun h48 => ?_) (fun h48 => ?_)
          · omega
          ·
            refine r_aload_n dX9_combine_51 rfl ?_
            refine r_iload_n dX9_combine_52 rfl ?_
            refine r_iload_n dX9_combine_53 rfl ?_
            refine r_iload dX9_combine_54 rfl ?_
            refine r_callV3 okX9_layCombined ⟨by decide, by decide⟩ ml_X9_117 (mX9_layCombined hm hi hz hc1.1 hc1.2 hc2.1 hc2.2 hv hc3) hm.o rfl rfl (Nat.le_of_ble_eq_true rfl) (Nat.le_of_ble_eq_true rfl) (Nat.le_of_ble_eq_true rfl) rfl dX9_combine_56 (nx_tV) (kx_tV ?_)
            intro Mx hM
            obtain ⟨rA, hm, hjb, hjr⟩ := hM
            refine r_aload_n dX9_combine_59 rfl ?_
            refine r_aload_n dX9_combine_60 rfl ?_
            refine r_getfield clX9 7 (by decide) fl_X9_56 hm.o rfl dX9_combine_61 ?_
            refine r_bipush dX9_combine_64 (by decide) ?_
            refine r_icmp_le (tgt := 73) dX9_combine_66 (by decide) (by omega) (by omega) (fun h66 => ?_) (fun h66 => ?_)
            ·
              refine r_iconst dX9_combine_73 ?_
              refine r_putfield clX9 5 (by decide) fl_X9_34 rfl hm.o rfl rfl (Nat.le_of_ble_eq_true rfl) dX9_combine_74 ?_
              refine hm.w_thrown hi (fun Mx hm => ?_)
              refine r_aload_n dX9_combine_77 rfl ?_
              refine r_getfield clX9 5 (by decide) fl_X9_34 hm.o rfl dX9_combine_78 ?_
              refine r_if_le (tgt := 86) dX9_combine_81 (by decide) (by omega) (fun h81 => ?_) (fun h81 => ?_)
              ·
                refine r_aload_n dX9_combine_86 rfl ?_
                refine r_callV0 okX9_save ⟨by decide, by decide⟩ ml_X9_92 (mX9_save (σ := (n, F, g)) (S := S) hm hi hz hh hm6) hm.o rfl rfl (Nat.le_of_ble_eq_true rfl) (Nat.le_of_ble_eq_true rfl) (Nat.le_of_ble_eq_true rfl) rfl dX9_combine_87 (nx_tV) (kx_tV ?_)
                intro Mx hM
                obtain ⟨hA, hm, hh⟩ := hM
                have hm6 : 0 ≤ svM m ∧ svM m ≤ 6 := by unfold svM; split <;> omega
                refine r_aload_n dX9_combine_90 rfl ?_
                refine r_iload_n dX9_combine_91 rfl ?_
                refine r_callV1 okX9_layRow ⟨by decide, by decide⟩ ml_X9_98 (mX9_layRow (R := (jnF (n k1) (F k1) (n k2) (F k2) how).2) hm hi hz hc0.1 hc0.2 ⟨hjb.1, hc4⟩ hjr) hm.o rfl rfl (Nat.le_of_ble_eq_true rfl) (Nat.le_of_ble_eq_true rfl) (Nat.le_of_ble_eq_true rfl) rfl dX9_combine_92 (nx_tV) (kx_tV ?_)
                intro Mx hM
                obtain ⟨zA, hm, hz⟩ := hM
                refine r_aload_n dX9_combine_95 rfl ?_
                refine r_getfield clX9 7 (by decide) fl_X9_56 hm.o rfl dX9_combine_96 ?_
                refine e_ireturn dX9_combine_99 rfl (Nat.le_of_ble_eq_true rfl) (Nat.le_of_ble_eq_true rfl) ?_
                exact okUR ((e2_ok (eSet_t hc0)).trans ((e2_ok (eSet_t hc1)).trans ((e2_ok (eSet_t hc2)).trans ((e2_ok (eB_t hc3)).trans (eB_t hc4))))) rfl ⟨_, _, _, _, _, _, _, _, _, hm.q, hz, hh, hm6, ht, hl⟩
              · omega
            · omega
      · omega

theorem mX9_combine {M0 M : Mem} {ad : Int → Nat} {n : Int → Int} {F : Int → Int → Int} {g : Int → Int} {m : Int} {S : Int → Sg3} {len : Int} {c : Int → Int} {th : Int} {k k1 k2 how : Int} (hR : RS M0 M ad (n, F, g) m S len c th) (hi : Inj ad) (hv : Vld (n, F, g)) (q0 : R32 k) (q1 : R32 k1) (q2 : R32 k2) (q3 : R32 how) : Ct KX9_combine [.ref (ad 112), vI k, vI k1, vI k2, vI how] M 0 0 (UR (e2 (eSet k) (e2 (eSet k1) (e2 (eSet k2) (e2 (eB (0 ≤ how ∧ how ≤ 3) xA) (eB ((jnF (n k1) (F k1) (n k2) (F k2) how).1 ≤ 60) xS))))) ((jnF (n k1) (F k1) (n k2) (F k2) how).1) tc3 (fun M2 => RS M0 M2 ad (uI n k ((jnF (n k1) (F k1) (n k2) (F k2) how).1), uI F k ((jnF (n k1) (F k1) (n k2) (F k2) how).2), g) (svM m) (svS m S (n, F, g)) len c 0) (fun t M2 => RS M0 M2 ad (n, F, g) m S len c t)) := by
  by_cases hc0 : 0 ≤ k ∧ k < 4
  · skip
    by_cases hc1 : 0 ≤ k1 ∧ k1 < 4
    · skip
      by_cases hc2 : 0 ≤ k2 ∧ k2 < 4
      · skip
        by_cases hc3 : 0 ≤ how ∧ how ≤ 3
        · skip
          by_cases hc4 : (jnF (n k1) (F k1) (n k2) (F k2) how).1 ≤ 60
          · skip
            exact mX9_combine_ok hR hi hv q0 q1 q2 q3 hc0 hc1 hc2 hc3 hc4
          · exact mX9_combine_x4 hR hi hv q0 q1 q2 q3 hc0 hc1 hc2 hc3 hc4
        · exact mX9_combine_x3 hR hi hv q0 q1 q2 q3 hc0 hc1 hc2 hc3
      · exact mX9_combine_x2 hR hi hv q0 q1 q2 q3 hc0 hc1 hc2
    · exact mX9_combine_x1 hR hi hv q0 q1 q2 q3 hc0 hc1
  · exact mX9_combine_x0 hR hi hv q0 q1 q2 q3 hc0

set_option maxHeartbeats 4000000 in
theorem mX9_set_x0 {M0 M : Mem} {ad : Int → Nat} {n : Int → Int} {F : Int → Int → Int} {g : Int → Int} {m : Int} {S : Int → Sg3} {len : Int} {c : Int → Int} {th : Int} {k v : Int} (hR : RS M0 M ad (n, F, g) m S len c th) (hi : Inj ad) (hv : Vld (n, F, g)) (q0 : R32 k) (q1 : R32 v) (hc0 : ¬ (0 ≤ k ∧ k < 2)) : Ct KX9_set [.ref (ad 112), vI k, vI v] M 0 0 (UR (e2 (eStg k) (eB ((k = 0 ∧ 2 ≤ v ∧ v ≤ 16) ∨ (k ≠ 0 ∧ 1 ≤ v ∧ v ≤ 9999)) xA)) (g k) tc3 (fun M2 => RS M0 M2 ad (n, F, uI g k v) (svM m) (svS m S (n, F, g)) len c 0) (fun t M2 => RS M0 M2 ad (n, F, g) m S len c t)) := by
  refine Ct.of _ (by decide) rfl (Nat.le_of_ble_eq_true rfl) ?_
  obtain ⟨zA, hA, tA, pA, rd, nu, bd, sc, hs, ⟨rA, sA, bA, wA, rm, bk, hm⟩, hz, hh, hm6, ht, hl⟩ := hR
  change Zr zA n F g at hz
  obtain ⟨hvs, hv0, hv1, hv2, hv3⟩ := id hv
  dsimp only at hvs hv0 hv1 hv2 hv3
  have hg : (2 ≤ g 0 ∧ g 0 ≤ 16) ∧ 1 ≤ g 1 ∧ g 1 ≤ 9999 := ⟨⟨hv0, hv1⟩, hv2, hv3⟩
  refine r_aload_n dX9_set_0 rfl ?_
  refine r_iload_n dX9_set_1 rfl ?_
  refine r_iconst dX9_set_2 ?_
  refine r_iconst dX9_set_3 ?_
  refine r_callS3 okX9_within ⟨by decide, by decide⟩ ml_X9_41 (mX9_within (v := 0) (by omega) (by omega) (by omega) (by first | rw [if_pos (by omega)] | rw [if_neg (by omega)])) (Nat.le_of_ble_eq_true rfl) (Nat.le_of_ble_eq_true rfl) (Nat.le_of_ble_eq_true rfl) rfl dX9_set_4 (nx_I) (kx_I ?_)
  refine r_if_ne (tgt := 14) dX9_set_7 (by decide) (by omega) (fun h7 => ?_) (fun h7 => ?_)
  · omega
  ·
    refine r_iconst dX9_set_10 ?_
    refine r_goto (tgt := 40) dX9_set_11 (by decide) ?_
    refine r_putfield clX9 5 (by decide) fl_X9_34 rfl hm.o rfl rfl (Nat.le_of_ble_eq_true rfl) dX9_set_40 ?_
    refine hm.w_thrown hi (fun Mx hm => ?_)
    refine r_aload_n dX9_set_43 rfl ?_
    refine r_getfield clX9 5 (by decide) fl_X9_34 hm.o rfl dX9_set_44 ?_
    refine r_if_le (tgt := 52) dX9_set_47 (by decide) (by omega) (fun h47 => ?_) (fun h47 => ?_)
    · omega
    ·
      refine r_iconst dX9_set_50 ?_
      refine e_ireturn dX9_set_51 rfl (Nat.le_of_ble_eq_true rfl) (Nat.le_of_ble_eq_true rfl) ?_
      exact exUR (e2_x (eStg_f hc0) (by decide)) (by decide) (by decide) ⟨_, _, _, _, _, _, _, _, _, hm.q, hz, hh, hm6, ht, hl⟩

set_option maxHeartbeats 4000000 in
theorem mX9_set_x1 {M0 M : Mem} {ad : Int → Nat} {n : Int → Int} {F : Int → Int → Int} {g : Int → Int} {m : Int} {S : Int → Sg3} {len : Int} {c : Int → Int} {th : Int} {k v : Int} (hR : RS M0 M ad (n, F, g) m S len c th) (hi : Inj ad) (hv : Vld (n, F, g)) (q0 : R32 k) (q1 : R32 v) (hc0 : 0 ≤ k ∧ k < 2) (hc1 : ¬ ((k = 0 ∧ 2 ≤ v ∧ v ≤ 16) ∨ (k ≠ 0 ∧ 1 ≤ v ∧ v ≤ 9999))) : Ct KX9_set [.ref (ad 112), vI k, vI v] M 0 0 (UR (e2 (eStg k) (eB ((k = 0 ∧ 2 ≤ v ∧ v ≤ 16) ∨ (k ≠ 0 ∧ 1 ≤ v ∧ v ≤ 9999)) xA)) (g k) tc3 (fun M2 => RS M0 M2 ad (n, F, uI g k v) (svM m) (svS m S (n, F, g)) len c 0) (fun t M2 => RS M0 M2 ad (n, F, g) m S len c t)) := by
  refine Ct.of _ (by decide) rfl (Nat.le_of_ble_eq_true rfl) ?_
  obtain ⟨zA, hA, tA, pA, rd, nu, bd, sc, hs, ⟨rA, sA, bA, wA, rm, bk, hm⟩, hz, hh, hm6, ht, hl⟩ := hR
  change Zr zA n F g at hz
  obtain ⟨hvs, hv0, hv1, hv2, hv3⟩ := id hv
  dsimp only at hvs hv0 hv1 hv2 hv3
  have hg : (2 ≤ g 0 ∧ g 0 ≤ 16) ∧ 1 ≤ g 1 ∧ g 1 ≤ 9999 := ⟨⟨hv0, hv1⟩, hv2, hv3⟩
  refine r_aload_n dX9_set_0 rfl ?_
  refine r_iload_n dX9_set_1 rfl ?_
  refine r_iconst dX9_set_2 ?_
  refine r_iconst dX9_set_3 ?_
  refine r_callS3 okX9_within ⟨by decide, by decide⟩ ml_X9_41 (mX9_within (v := 1) (by omega) (by omega) (by omega) (by first | rw [if_pos (by omega)] | rw [if_neg (by omega)])) (Nat.le_of_ble_eq_true rfl) (Nat.le_of_ble_eq_true rfl) (Nat.le_of_ble_eq_true rfl) rfl dX9_set_4 (nx_I) (kx_I ?_)
  refine r_if_ne (tgt := 14) dX9_set_7 (by decide) (by omega) (fun h7 => ?_) (fun h7 => ?_)
  ·
    refine r_iload_n dX9_set_14 rfl ?_
    refine r_if_ne (tgt := 28) dX9_set_15 (by decide) (by omega) (fun h15 => ?_) (fun h15 => ?_)
    ·
      refine r_iload_n dX9_set_28 rfl ?_
      refine r_callS1 okX9_isWidth ⟨by decide, by decide⟩ ml_X9_124 (mX9_isWidth (v := 0) (by omega) (by first | rw [if_pos (by omega)] | rw [if_neg (by omega)])) (Nat.le_of_ble_eq_true rfl) (Nat.le_of_ble_eq_true rfl) (Nat.le_of_ble_eq_true rfl) rfl dX9_set_29 (nx_I) (kx_I ?_)
      refine r_if_eq (tgt := 39) dX9_set_32 (by decide) (by omega) (fun h32 => ?_) (fun h32 => ?_)
      ·
        refine r_iconst dX9_set_39 ?_
        refine r_putfield clX9 5 (by decide) fl_X9_34 rfl hm.o rfl rfl (Nat.le_of_ble_eq_true rfl) dX9_set_40 ?_
        refine hm.w_thrown hi (fun Mx hm => ?_)
        refine r_aload_n dX9_set_43 rfl ?_
        refine r_getfield clX9 5 (by decide) fl_X9_34 hm.o rfl dX9_set_44 ?_
        refine r_if_le (tgt := 52) dX9_set_47 (by decide) (by omega) (fun h47 => ?_) (fun h47 => ?_)
        · omega
        ·
          refine r_iconst dX9_set_50 ?_
          refine e_ireturn dX9_set_51 rfl (Nat.le_of_ble_eq_true rfl) (Nat.le_of_ble_eq_true rfl) ?_
          exact exUR ((e2_ok (eStg_t hc0)).trans (eB_f hc1)) (by decide) (by decide) ⟨_, _, _, _, _, _, _, _, _, hm.q, hz, hh, hm6, ht, hl⟩
      · omega
    ·
      refine r_iload_n dX9_set_18 rfl ?_
      refine r_callS1 okX9_isMost ⟨by decide, by decide⟩ ml_X9_121 (mX9_isMost (v := 0) (by omega) (by first | rw [if_pos (by omega)] | rw [if_neg (by omega)])) (Nat.le_of_ble_eq_true rfl) (Nat.le_of_ble_eq_true rfl) (Nat.le_of_ble_eq_true rfl) rfl dX9_set_19 (nx_I) (kx_I ?_)
      refine r_if_eq (tgt := 39) dX9_set_22 (by decide) (by omega) (fun h22 => ?_) (fun h22 => ?_)
      ·
        refine r_iconst dX9_set_39 ?_
        refine r_putfield clX9 5 (by decide) fl_X9_34 rfl hm.o rfl rfl (Nat.le_of_ble_eq_true rfl) dX9_set_40 ?_
        refine hm.w_thrown hi (fun Mx hm => ?_)
        refine r_aload_n dX9_set_43 rfl ?_
        refine r_getfield clX9 5 (by decide) fl_X9_34 hm.o rfl dX9_set_44 ?_
        refine r_if_le (tgt := 52) dX9_set_47 (by decide) (by omega) (fun h47 => ?_) (fun h47 => ?_)
        · omega
        ·
          refine r_iconst dX9_set_50 ?_
          refine e_ireturn dX9_set_51 rfl (Nat.le_of_ble_eq_true rfl) (Nat.le_of_ble_eq_true rfl) ?_
          exact exUR ((e2_ok (eStg_t hc0)).trans (eB_f hc1)) (by decide) (by decide) ⟨_, _, _, _, _, _, _, _, _, hm.q, hz, hh, hm6, ht, hl⟩
      · omega
  · omega

set_option maxHeartbeats 4000000 in
theorem mX9_set_ok {M0 M : Mem} {ad : Int → Nat} {n : Int → Int} {F : Int → Int → Int} {g : Int → Int} {m : Int} {S : Int → Sg3} {len : Int} {c : Int → Int} {th : Int} {k v : Int} (hR : RS M0 M ad (n, F, g) m S len c th) (hi : Inj ad) (hv : Vld (n, F, g)) (q0 : R32 k) (q1 : R32 v) (hc0 : 0 ≤ k ∧ k < 2) (hc1 : (k = 0 ∧ 2 ≤ v ∧ v ≤ 16) ∨ (k ≠ 0 ∧ 1 ≤ v ∧ v ≤ 9999)) : Ct KX9_set [.ref (ad 112), vI k, vI v] M 0 0 (UR (e2 (eStg k) (eB ((k = 0 ∧ 2 ≤ v ∧ v ≤ 16) ∨ (k ≠ 0 ∧ 1 ≤ v ∧ v ≤ 9999)) xA)) (g k) tc3 (fun M2 => RS M0 M2 ad (n, F, uI g k v) (svM m) (svS m S (n, F, g)) len c 0) (fun t M2 => RS M0 M2 ad (n, F, g) m S len c t)) := by
  refine Ct.of _ (by decide) rfl (Nat.le_of_ble_eq_true rfl) ?_
  obtain ⟨zA, hA, tA, pA, rd, nu, bd, sc, hs, ⟨rA, sA, bA, wA, rm, bk, hm⟩, hz, hh, hm6, ht, hl⟩ := hR
  change Zr zA n F g at hz
  obtain ⟨hvs, hv0, hv1, hv2, hv3⟩ := id hv
  dsimp only at hvs hv0 hv1 hv2 hv3
  have hg : (2 ≤ g 0 ∧ g 0 ≤ 16) ∧ 1 ≤ g 1 ∧ g 1 ≤ 9999 := ⟨⟨hv0, hv1⟩, hv2, hv3⟩
  refine r_aload_n dX9_set_0 rfl ?_
  refine r_iload_n dX9_set_1 rfl ?_
  refine r_iconst dX9_set_2 ?_
  refine r_iconst dX9_set_3 ?_
  refine r_callS3 okX9_within ⟨by decide, by decide⟩ ml_X9_41 (mX9_within (v := 1) (by omega) (by omega) (by omega) (by first | rw [if_pos (by omega)] | rw [if_neg (by omega)])) (Nat.le_of_ble_eq_true rfl) (Nat.le_of_ble_eq_true rfl) (Nat.le_of_ble_eq_true rfl) rfl dX9_set_4 (nx_I) (kx_I ?_)
  refine r_if_ne (tgt := 14) dX9_set_7 (by decide) (by omega) (fun h7 => ?_) (fun h7 => ?_)
  ·
    refine r_iload_n dX9_set_14 rfl ?_
    refine r_if_ne (tgt := 28) dX9_set_15 (by decide) (by omega) (fun h15 => ?_) (fun h15 => ?_)
    ·
      refine r_iload_n dX9_set_28 rfl ?_
      refine r_callS1 okX9_isWidth ⟨by decide, by decide⟩ ml_X9_124 (mX9_isWidth (v := 1) (by omega) (by first | rw [if_pos (by omega)] | rw [if_neg (by omega)])) (Nat.le_of_ble_eq_true rfl) (Nat.le_of_ble_eq_true rfl) (Nat.le_of_ble_eq_true rfl) rfl dX9_set_29 (nx_I) (kx_I ?_)
      refine r_if_eq (tgt := 39) dX9_set_32 (by decide) (by omega) (fun h32 => ?_) (fun h32 => ?_)
      · omega
      ·
        refine r_iconst dX9_set_35 ?_
        refine r_goto (tgt := 40) dX9_set_36 (by decide) ?_
        refine r_putfield clX9 5 (by decide) fl_X9_34 rfl hm.o rfl rfl (Nat.le_of_ble_eq_true rfl) dX9_set_40 ?_
        refine hm.w_thrown hi (fun Mx hm => ?_)
        refine r_aload_n dX9_set_43 rfl ?_
        refine r_getfield clX9 5 (by decide) fl_X9_34 hm.o rfl dX9_set_44 ?_
        refine r_if_le (tgt := 52) dX9_set_47 (by decide) (by omega) (fun h47 => ?_) (fun h47 => ?_)
        ·
          refine r_aload_n dX9_set_52 rfl ?_
          refine r_callV0 okX9_save ⟨by decide, by decide⟩ ml_X9_92 (mX9_save (σ := (n, F, g)) (S := S) hm hi hz hh hm6) hm.o rfl rfl (Nat.le_of_ble_eq_true rfl) (Nat.le_of_ble_eq_true rfl) (Nat.le_of_ble_eq_true rfl) rfl dX9_set_53 (nx_tV) (kx_tV ?_)
          intro Mx hM
          obtain ⟨hA, hm, hh⟩ := hM
          have hm6 : 0 ≤ svM m ∧ svM m ≤ 6 := by unfold svM; split <;> omega
          refine r_aload_n dX9_set_56 rfl ?_
          refine r_getfield clX9 0 (by decide) fl_X9_7 hm.o rfl dX9_set_57 ?_
          refine r_iload_n dX9_set_60 rfl ?_
          refine r_iaload hm.z (by omega) (by omega) (by omega) dX9_set_61 ?_
          refine r_istore_n dX9_set_62 (by decide) rfl ?_
          refine r_aload_n dX9_set_63 rfl ?_
          refine r_getfield clX9 0 (by decide) fl_X9_7 hm.o rfl dX9_set_64 ?_
          refine r_iload_n dX9_set_67 rfl ?_
          refine r_iload_n dX9_set_68 rfl ?_
          refine r_iastore hm.z (by omega) (by omega) (by omega) dX9_set_69 ?_
          refine hm.w_z hi (fun Mx hm => ?_)
          refine r_iload_n dX9_set_70 rfl ?_
          refine e_ireturn dX9_set_71 rfl (Nat.le_of_ble_eq_true rfl) (Nat.le_of_ble_eq_true rfl) ?_
          have hzk : zA k = g k := by
            rcases (show k = 0 ∨ k = 1 by omega) with rfl | rfl
            · exact hz.1
            · exact hz.2.1
          exact okUR ((e2_ok (eStg_t hc0)).trans (eB_t hc1)) hzk ⟨_, _, _, _, _, _, _, _, _, hm.q, (Zr.setG hz hc0), hh, hm6, ht, hl⟩
        · omega
    ·
      refine r_iload_n dX9_set_18 rfl ?_
      refine r_callS1 okX9_isMost ⟨by decide, by decide⟩ ml_X9_121 (mX9_isMost (v := 1) (by omega) (by first | rw [if_pos (by omega)] | rw [if_neg (by omega)])) (Nat.le_of_ble_eq_true rfl) (Nat.le_of_ble_eq_true rfl) (Nat.le_of_ble_eq_true rfl) rfl dX9_set_19 (nx_I) (kx_I ?_)
      refine r_if_eq (tgt := 39) dX9_set_22 (by decide) (by omega) (fun h22 => ?_) (fun h22 => ?_)
      · omega
      ·
        refine r_goto (tgt := 35) dX9_set_25 (by decide) ?_
        refine r_iconst dX9_set_35 ?_
        refine r_goto (tgt := 40) dX9_set_36 (by decide) ?_
        refine r_putfield clX9 5 (by decide) fl_X9_34 rfl hm.o rfl rfl (Nat.le_of_ble_eq_true rfl) dX9_set_40 ?_
        refine hm.w_thrown hi (fun Mx hm => ?_)
        refine r_aload_n dX9_set_43 rfl ?_
        refine r_getfield clX9 5 (by decide) fl_X9_34 hm.o rfl dX9_set_44 ?_
        refine r_if_le (tgt := 52) dX9_set_47 (by decide) (by omega) (fun h47 => ?_) (fun h47 => ?_)
        ·
          refine r_aload_n dX9_set_52 rfl ?_
          refine r_callV0 okX9_save ⟨by decide, by decide⟩ ml_X9_92 (mX9_save (σ := (n, F, g)) (S := S) hm hi hz hh hm6) hm.o rfl rfl (Nat.le_of_ble_eq_true rfl) (Nat.le_of_ble_eq_true rfl) (Nat.le_of_ble_eq_true rfl) rfl dX9_set_53 (nx_tV) (kx_tV ?_)
          intro Mx hM
          obtain ⟨hA, hm, hh⟩ := hM
          have hm6 : 0 ≤ svM m ∧ svM m ≤ 6 := by unfold svM; split <;> omega
          refine r_aload_n dX9_set_56 rfl ?_
          refine r_getfield clX9 0 (by decide) fl_X9_7 hm.o rfl dX9_set_57 ?_
          refine r_iload_n dX9_set_60 rfl ?_
          refine r_iaload hm.z (by omega) (by omega) (by omega) dX9_set_61 ?_
          refine r_istore_n dX9_set_62 (by decide) rfl ?_
          refine r_aload_n dX9_set_63 rfl ?_
          refine r_getfield clX9 0 (by decide) fl_X9_7 hm.o rfl dX9_set_64 ?_
          refine r_iload_n dX9_set_67 rfl ?_
          refine r_iload_n dX9_set_68 rfl ?_
          refine r_iastore hm.z (by omega) (by omega) (by omega) dX9_set_69 ?_
          refine hm.w_z hi (fun Mx hm => ?_)
          refine r_iload_n dX9_set_70 rfl ?_
          refine e_ireturn dX9_set_71 rfl (Nat.le_of_ble_eq_true rfl) (Nat.le_of_ble_eq_true rfl) ?_
          have hzk : zA k = g k := by
            rcases (show k = 0 ∨ k = 1 by omega) with rfl | rfl
            · exact hz.1
            · exact hz.2.1
          exact okUR ((e2_ok (eStg_t hc0)).trans (eB_t hc1)) hzk ⟨_, _, _, _, _, _, _, _, _, hm.q, (Zr.setG hz hc0), hh, hm6, ht, hl⟩
        · omega
  · omega

theorem mX9_set {M0 M : Mem} {ad : Int → Nat} {n : Int → Int} {F : Int → Int → Int} {g : Int → Int} {m : Int} {S : Int → Sg3} {len : Int} {c : Int → Int} {th : Int} {k v : Int} (hR : RS M0 M ad (n, F, g) m S len c th) (hi : Inj ad) (hv : Vld (n, F, g)) (q0 : R32 k) (q1 : R32 v) : Ct KX9_set [.ref (ad 112), vI k, vI v] M 0 0 (UR (e2 (eStg k) (eB ((k = 0 ∧ 2 ≤ v ∧ v ≤ 16) ∨ (k ≠ 0 ∧ 1 ≤ v ∧ v ≤ 9999)) xA)) (g k) tc3 (fun M2 => RS M0 M2 ad (n, F, uI g k v) (svM m) (svS m S (n, F, g)) len c 0) (fun t M2 => RS M0 M2 ad (n, F, g) m S len c t)) := by
  by_cases hc0 : 0 ≤ k ∧ k < 2
  · skip
    by_cases hc1 : (k = 0 ∧ 2 ≤ v ∧ v ≤ 16) ∨ (k ≠ 0 ∧ 1 ≤ v ∧ v ≤ 9999)
    · skip
      exact mX9_set_ok hR hi hv q0 q1 hc0 hc1
    · exact mX9_set_x1 hR hi hv q0 q1 hc0 hc1
  · exact mX9_set_x0 hR hi hv q0 q1 hc0

set_option maxHeartbeats 4000000 in
theorem mX9_append_x0 {M0 M : Mem} {ad : Int → Nat} {n : Int → Int} {F : Int → Int → Int} {g : Int → Int} {m : Int} {S : Int → Sg3} {len : Int} {c : Int → Int} {th : Int} {x : Int} (hR : RS M0 M ad (n, F, g) m S len c th) (hi : Inj ad) (hv : Vld (n, F, g)) (q0 : R32 x) (hc0 : ¬ (33 ≤ x ∧ x ≤ 126)) : Ct KX9_append [.ref (ad 112), vI x] M 0 0 (UR (e2 (eB (33 ≤ x ∧ x ≤ 126) xA) (eB (len < 60) xS)) (len + 1) tcA (fun M2 => RS M0 M2 ad (n, F, g) m S (len + 1) (uI c len x) 0) (fun t M2 => RS M0 M2 ad (n, F, g) m S len c t)) := by
  refine Ct.of _ (by decide) rfl (Nat.le_of_ble_eq_true rfl) ?_
  obtain ⟨zA, hA, tA, pA, rd, nu, bd, sc, hs, ⟨rA, sA, bA, wA, rm, bk, hm⟩, hz, hh, hm6, ht, hl⟩ := hR
  change Zr zA n F g at hz
  obtain ⟨hvs, hv0, hv1, hv2, hv3⟩ := id hv
  dsimp only at hvs hv0 hv1 hv2 hv3
  have hg : (2 ≤ g 0 ∧ g 0 ≤ 16) ∧ 1 ≤ g 1 ∧ g 1 ≤ 9999 := ⟨⟨hv0, hv1⟩, hv2, hv3⟩
  refine r_aload_n dX9_append_0 rfl ?_
  refine r_iload_n dX9_append_1 rfl ?_
  refine r_bipush dX9_append_2 (by decide) ?_
  refine r_bipush dX9_append_4 (by decide) ?_
  refine r_callS3 okX9_within ⟨by decide, by decide⟩ ml_X9_41 (mX9_within (v := 0) (by omega) (by omega) (by omega) (by first | rw [if_pos (by omega)] | rw [if_neg (by omega)])) (Nat.le_of_ble_eq_true rfl) (Nat.le_of_ble_eq_true rfl) (Nat.le_of_ble_eq_true rfl) rfl dX9_append_6 (nx_I) (kx_I ?_)
  refine r_if_ne (tgt := 16) dX9_append_9 (by decide) (by omega) (fun h9 => ?_) (fun h9 => ?_)
  · omega
  ·
    refine r_iconst dX9_append_12 ?_
    refine r_goto (tgt := 30) dX9_append_13 (by decide) ?_
    refine r_putfield clX9 5 (by decide) fl_X9_34 rfl hm.o rfl rfl (Nat.le_of_ble_eq_true rfl) dX9_append_30 ?_
    refine hm.w_thrown hi (fun Mx hm => ?_)
    refine r_aload_n dX9_append_33 rfl ?_
    refine r_getfield clX9 5 (by decide) fl_X9_34 hm.o rfl dX9_append_34 ?_
    refine r_if_le (tgt := 42) dX9_append_37 (by decide) (by omega) (fun h37 => ?_) (fun h37 => ?_)
    · omega
    ·
      refine r_iconst dX9_append_40 ?_
      refine e_ireturn dX9_append_41 rfl (Nat.le_of_ble_eq_true rfl) (Nat.le_of_ble_eq_true rfl) ?_
      exact exUR (e2_x (eB_f hc0) (by decide)) (by decide) (by decide) ⟨_, _, _, _, _, _, _, _, _, hm.q, hz, hh, hm6, ht, hl⟩

set_option maxHeartbeats 4000000 in
theorem mX9_append_x1 {M0 M : Mem} {ad : Int → Nat} {n : Int → Int} {F : Int → Int → Int} {g : Int → Int} {m : Int} {S : Int → Sg3} {len : Int} {c : Int → Int} {th : Int} {x : Int} (hR : RS M0 M ad (n, F, g) m S len c th) (hi : Inj ad) (hv : Vld (n, F, g)) (q0 : R32 x) (hc0 : 33 ≤ x ∧ x ≤ 126) (hc1 : ¬ (len < 60)) : Ct KX9_append [.ref (ad 112), vI x] M 0 0 (UR (e2 (eB (33 ≤ x ∧ x ≤ 126) xA) (eB (len < 60) xS)) (len + 1) tcA (fun M2 => RS M0 M2 ad (n, F, g) m S (len + 1) (uI c len x) 0) (fun t M2 => RS M0 M2 ad (n, F, g) m S len c t)) := by
  refine Ct.of _ (by decide) rfl (Nat.le_of_ble_eq_true rfl) ?_
  obtain ⟨zA, hA, tA, pA, rd, nu, bd, sc, hs, ⟨rA, sA, bA, wA, rm, bk, hm⟩, hz, hh, hm6, ht, hl⟩ := hR
  change Zr zA n F g at hz
  obtain ⟨hvs, hv0, hv1, hv2, hv3⟩ := id hv
  dsimp only at hvs hv0 hv1 hv2 hv3
  have hg : (2 ≤ g 0 ∧ g 0 ≤ 16) ∧ 1 ≤ g 1 ∧ g 1 ≤ 9999 := ⟨⟨hv0, hv1⟩, hv2, hv3⟩
  refine r_aload_n dX9_append_0 rfl ?_
  refine r_iload_n dX9_append_1 rfl ?_
  refine r_bipush dX9_append_2 (by decide) ?_
  refine r_bipush dX9_append_4 (by decide) ?_
  refine r_callS3 okX9_within ⟨by decide, by decide⟩ ml_X9_41 (mX9_within (v := 1) (by omega) (by omega) (by omega) (by first | rw [if_pos (by omega)] | rw [if_neg (by omega)])) (Nat.le_of_ble_eq_true rfl) (Nat.le_of_ble_eq_true rfl) (Nat.le_of_ble_eq_true rfl) rfl dX9_append_6 (nx_I) (kx_I ?_)
  refine r_if_ne (tgt := 16) dX9_append_9 (by decide) (by omega) (fun h9 => ?_) (fun h9 => ?_)
  ·
    refine r_aload_n dX9_append_16 rfl ?_
    refine r_getfield clX9 3 (by decide) fl_X9_127 hm.o rfl dX9_append_17 ?_
    refine r_bipush dX9_append_20 (by decide) ?_
    refine r_icmp_ne (tgt := 29) dX9_append_22 (by decide) (by omega) (by omega) (fun h22 => ?_) (fun h22 => ?_)
    · omega
    ·
      refine r_iconst dX9_append_25 ?_
      refine r_goto (tgt := 30) dX9_append_26 (by decide) ?_
      refine r_putfield clX9 5 (by decide) fl_X9_34 rfl hm.o rfl rfl (Nat.le_of_ble_eq_true rfl) dX9_append_30 ?_
      refine hm.w_thrown hi (fun Mx hm => ?_)
      refine r_aload_n dX9_append_33 rfl ?_
      refine r_getfield clX9 5 (by decide) fl_X9_34 hm.o rfl dX9_append_34 ?_
      refine r_if_le (tgt := 42) dX9_append_37 (by decide) (by omega) (fun h37 => ?_) (fun h37 => ?_)
      · omega
      ·
        refine r_iconst dX9_append_40 ?_
        refine e_ireturn dX9_append_41 rfl (Nat.le_of_ble_eq_true rfl) (Nat.le_of_ble_eq_true rfl) ?_
        exact exUR ((e2_ok (eB_t hc0)).trans (eB_f hc1)) (by decide) (by decide) ⟨_, _, _, _, _, _, _, _, _, hm.q, hz, hh, hm6, ht, hl⟩
  · omega

set_option maxHeartbeats 4000000 in
theorem mX9_append_ok {M0 M : Mem} {ad : Int → Nat} {n : Int → Int} {F : Int → Int → Int} {g : Int → Int} {m : Int} {S : Int → Sg3} {len : Int} {c : Int → Int} {th : Int} {x : Int} (hR : RS M0 M ad (n, F, g) m S len c th) (hi : Inj ad) (hv : Vld (n, F, g)) (q0 : R32 x) (hc0 : 33 ≤ x ∧ x ≤ 126) (hc1 : len < 60) : Ct KX9_append [.ref (ad 112), vI x] M 0 0 (UR (e2 (eB (33 ≤ x ∧ x ≤ 126) xA) (eB (len < 60) xS)) (len + 1) tcA (fun M2 => RS M0 M2 ad (n, F, g) m S (len + 1) (uI c len x) 0) (fun t M2 => RS M0 M2 ad (n, F, g) m S len c t)) := by
  refine Ct.of _ (by decide) rfl (Nat.le_of_ble_eq_true rfl) ?_
  obtain ⟨zA, hA, tA, pA, rd, nu, bd, sc, hs, ⟨rA, sA, bA, wA, rm, bk, hm⟩, hz, hh, hm6, ht, hl⟩ := hR
  change Zr zA n F g at hz
  obtain ⟨hvs, hv0, hv1, hv2, hv3⟩ := id hv
  dsimp only at hvs hv0 hv1 hv2 hv3
  have hg : (2 ≤ g 0 ∧ g 0 ≤ 16) ∧ 1 ≤ g 1 ∧ g 1 ≤ 9999 := ⟨⟨hv0, hv1⟩, hv2, hv3⟩
  refine r_aload_n dX9_append_0 rfl ?_
  refine r_iload_n dX9_append_1 rfl ?_
  refine r_bipush dX9_append_2 (by decide) ?_
  refine r_bipush dX9_append_4 (by decide) ?_
  refine r_callS3 okX9_within ⟨by decide, by decide⟩ ml_X9_41 (mX9_within (v := 1) (by omega) (by omega) (by omega) (by first | rw [if_pos (by omega)] | rw [if_neg (by omega)])) (Nat.le_of_ble_eq_true rfl) (Nat.le_of_ble_eq_true rfl) (Nat.le_of_ble_eq_true rfl) rfl dX9_append_6 (nx_I) (kx_I ?_)
  refine r_if_ne (tgt := 16) dX9_append_9 (by decide) (by omega) (fun h9 => ?_) (fun h9 => ?_)
  ·
    refine r_aload_n dX9_append_16 rfl ?_
    refine r_getfield clX9 3 (by decide) fl_X9_127 hm.o rfl dX9_append_17 ?_
    refine r_bipush dX9_append_20 (by decide) ?_
    refine r_icmp_ne (tgt := 29) dX9_append_22 (by decide) (by omega) (by omega) (fun h22 => ?_) (fun h22 => ?_)
    ·
      refine r_iconst dX9_append_29 ?_
      refine r_putfield clX9 5 (by decide) fl_X9_34 rfl hm.o rfl rfl (Nat.le_of_ble_eq_true rfl) dX9_append_30 ?_
      refine hm.w_thrown hi (fun Mx hm => ?_)
      refine r_aload_n dX9_append_33 rfl ?_
      refine r_getfield clX9 5 (by decide) fl_X9_34 hm.o rfl dX9_append_34 ?_
      refine r_if_le (tgt := 42) dX9_append_37 (by decide) (by omega) (fun h37 => ?_) (fun h37 => ?_)
      ·
        refine r_aload_n dX9_append_42 rfl ?_
        refine r_getfield clX9 4 (by decide) fl_X9_16 hm.o rfl dX9_append_43 ?_
        refine r_aload_n dX9_append_46 rfl ?_
        refine r_getfield clX9 3 (by decide) fl_X9_127 hm.o rfl dX9_append_47 ?_
        refine r_iload_n dX9_append_50 rfl ?_
        refine r_iastore hm.t (by omega) (by omega) (by omega) dX9_append_51 ?_
        refine hm.w_t hi (fun Mx hm => ?_)
        refine r_aload_n dX9_append_52 rfl ?_
        refine r_dup dX9_append_53 ?_
        refine r_getfield clX9 3 (by decide) fl_X9_127 hm.o rfl dX9_append_54 ?_
        refine r_iconst dX9_append_57 ?_
        refine r_iadd dX9_append_58 ?_
        refine r_putfield clX9 3 (by decide) fl_X9_127 rfl hm.o rfl rfl (Nat.le_of_ble_eq_true rfl) dX9_append_59 ?_
        refine hm.w_length hi (fun Mx hm => ?_)
        refine r_aload_n dX9_append_62 rfl ?_
        refine r_getfield clX9 3 (by decide) fl_X9_127 hm.o rfl dX9_append_63 ?_
        refine e_ireturn dX9_append_66 rfl (Nat.le_of_ble_eq_true rfl) (Nat.le_of_ble_eq_true rfl) ?_
        exact okUR ((e2_ok (eB_t hc0)).trans (eB_t hc1)) rfl ⟨_, _, _, _, _, _, _, _, _, hm.q, hz, hh, hm6, fun j a b => by
          by_cases e : j = len
          · rw [e, uI_s, uI_s]; exact ⟨rfl, hc0⟩
          · rw [uI_n _ e, uI_n _ e]; exact ht j a (by omega), by omega, by omega⟩
      · omega
    · omega
  · omega

theorem mX9_append {M0 M : Mem} {ad : Int → Nat} {n : Int → Int} {F : Int → Int → Int} {g : Int → Int} {m : Int} {S : Int → Sg3} {len : Int} {c : Int → Int} {th : Int} {x : Int} (hR : RS M0 M ad (n, F, g) m S len c th) (hi : Inj ad) (hv : Vld (n, F, g)) (q0 : R32 x) : Ct KX9_append [.ref (ad 112), vI x] M 0 0 (UR (e2 (eB (33 ≤ x ∧ x ≤ 126) xA) (eB (len < 60) xS)) (len + 1) tcA (fun M2 => RS M0 M2 ad (n, F, g) m S (len + 1) (uI c len x) 0) (fun t M2 => RS M0 M2 ad (n, F, g) m S len c t)) := by
  by_cases hc0 : 33 ≤ x ∧ x ≤ 126
  · skip
    by_cases hc1 : len < 60
    · skip
      exact mX9_append_ok hR hi hv q0 hc0 hc1
    · exact mX9_append_x1 hR hi hv q0 hc0 hc1
  · exact mX9_append_x0 hR hi hv q0 hc0

set_option maxHeartbeats 4000000 in
theorem mX9_clearBuffer {M0 M : Mem} {ad : Int → Nat} {n : Int → Int} {F : Int → Int → Int} {g : Int → Int} {m : Int} {S : Int → Sg3} {len : Int} {c : Int → Int} {th : Int} (hR : RS M0 M ad (n, F, g) m S len c th) (hi : Inj ad) (hv : Vld (n, F, g)) : Ct KX9_clearBuffer [.ref (ad 112)] M 0 0 (atI len (fun M2 => RS M0 M2 ad (n, F, g) m S 0 c 0)) := by
  refine Ct.of _ (by decide) rfl (Nat.le_of_ble_eq_true rfl) ?_
  obtain ⟨zA, hA, tA, pA, rd, nu, bd, sc, hs, ⟨rA, sA, bA, wA, rm, bk, hm⟩, hz, hh, hm6, ht, hl⟩ := hR
  change Zr zA n F g at hz
  refine r_aload_n dX9_clearBuffer_0 rfl ?_
  refine r_iconst dX9_clearBuffer_1 ?_
  refine r_putfield clX9 5 (by decide) fl_X9_34 rfl hm.o rfl rfl (Nat.le_of_ble_eq_true rfl) dX9_clearBuffer_2 ?_
  refine hm.w_thrown hi (fun Mx hm => ?_)
  refine r_aload_n dX9_clearBuffer_5 rfl ?_
  refine r_getfield clX9 3 (by decide) fl_X9_127 hm.o rfl dX9_clearBuffer_6 ?_
  refine r_istore_n dX9_clearBuffer_9 (by decide) rfl ?_
  refine r_aload_n dX9_clearBuffer_10 rfl ?_
  refine r_iconst dX9_clearBuffer_11 ?_
  refine r_putfield clX9 3 (by decide) fl_X9_127 rfl hm.o rfl rfl (Nat.le_of_ble_eq_true rfl) dX9_clearBuffer_12 ?_
  refine hm.w_length hi (fun Mx hm => ?_)
  refine r_iload_n dX9_clearBuffer_15 rfl ?_
  refine e_ireturn dX9_clearBuffer_16 rfl (Nat.le_of_ble_eq_true rfl) (Nat.le_of_ble_eq_true rfl) ?_
  exact oktI rfl ⟨_, _, _, _, _, _, _, _, _, hm.q, hz, hh, hm6, fun j a b => by omega, by omega, by omega⟩

set_option maxHeartbeats 4000000 in
theorem mX9_firstError {M0 M : Mem} {ad : Int → Nat} {n : Int → Int} {F : Int → Int → Int} {g : Int → Int} {m : Int} {S : Int → Sg3} {len : Int} {c : Int → Int} {th : Int} (hR : RS M0 M ad (n, F, g) m S len c th) (hi : Inj ad) (hv : Vld (n, F, g)) : Ct KX9_firstError [.ref (ad 112)] M 0 0 (atI (prR len c).1 (fun M2 => RS M0 M2 ad (n, F, g) m S len c 0)) := by
  refine Ct.of _ (by decide) rfl (Nat.le_of_ble_eq_true rfl) ?_
  obtain ⟨zA, hA, tA, pA, rd, nu, bd, sc, hs, ⟨rA, sA, bA, wA, rm, bk, hm⟩, hz, hh, hm6, ht, hl⟩ := hR
  change Zr zA n F g at hz
  refine r_aload_n dX9_firstError_0 rfl ?_
  refine r_iconst dX9_firstError_1 ?_
  refine r_putfield clX9 5 (by decide) fl_X9_34 rfl hm.o rfl rfl (Nat.le_of_ble_eq_true rfl) dX9_firstError_2 ?_
  refine hm.w_thrown hi (fun Mx hm => ?_)
  refine r_aload_n dX9_firstError_5 rfl ?_
  refine r_callV0 okX9_rightUpTo ⟨by decide, by decide⟩ ml_X9_159 (mX9_rightUpTo hm hi ht hl) hm.o rfl rfl (Nat.le_of_ble_eq_true rfl) (Nat.le_of_ble_eq_true rfl) (Nat.le_of_ble_eq_true rfl) rfl dX9_firstError_6 (nx_tI) (kx_tI ?_)
  intro Mx hM
  obtain ⟨pA, rd, nu, bd, sc, hm, hp⟩ := hM
  refine e_ireturn dX9_firstError_9 rfl (Nat.le_of_ble_eq_true rfl) (Nat.le_of_ble_eq_true rfl) ?_
  exact oktI rfl ⟨_, _, _, _, _, _, _, _, _, hm.q, hz, hh, hm6, ht, hl⟩

set_option maxHeartbeats 4000000 in
theorem mX9_bestWidth {M0 M : Mem} {ad : Int → Nat} {n : Int → Int} {F : Int → Int → Int} {g : Int → Int} {m : Int} {S : Int → Sg3} {len : Int} {c : Int → Int} {th : Int} (hR : RS M0 M ad (n, F, g) m S len c th) (hi : Inj ad) (hv : Vld (n, F, g)) : Ct KX9_bestWidth [.ref (ad 112)] M 0 0 (atI (bwV n F g) (fun M2 => RS M0 M2 ad (n, F, g) m S len c 0)) := by
  refine Ct.of _ (by decide) rfl (Nat.le_of_ble_eq_true rfl) ?_
  obtain ⟨zA, hA, tA, pA, rd, nu, bd, sc, hs, ⟨rA, sA, bA, wA, rm, bk, hm⟩, hz, hh, hm6, ht, hl⟩ := hR
  change Zr zA n F g at hz
  refine r_aload_n dX9_bestWidth_0 rfl ?_
  refine r_iconst dX9_bestWidth_1 ?_
  refine r_putfield clX9 5 (by decide) fl_X9_34 rfl hm.o rfl rfl (Nat.le_of_ble_eq_true rfl) dX9_bestWidth_2 ?_
  refine hm.w_thrown hi (fun Mx hm => ?_)
  refine r_aload_n dX9_bestWidth_5 rfl ?_
  refine r_callV0 okX9_bestNow ⟨by decide, by decide⟩ ml_X9_235 (mX9_bestNow hm.q hi hz hv) hm.o rfl rfl (Nat.le_of_ble_eq_true rfl) (Nat.le_of_ble_eq_true rfl) (Nat.le_of_ble_eq_true rfl) rfl dX9_bestWidth_6 (nx_tI) (kx_tI ?_)
  intro Mx hq
  obtain ⟨rA, sA, bA, wA, rm, bk, hm⟩ := hq
  refine e_ireturn dX9_bestWidth_9 rfl (Nat.le_of_ble_eq_true rfl) (Nat.le_of_ble_eq_true rfl) ?_
  exact oktI rfl ⟨_, _, _, _, _, _, _, _, _, hm.q, hz, hh, hm6, ht, hl⟩

set_option maxHeartbeats 4000000 in
theorem mX9_read_x0 {M0 M : Mem} {ad : Int → Nat} {n : Int → Int} {F : Int → Int → Int} {g : Int → Int} {m : Int} {S : Int → Sg3} {len : Int} {c : Int → Int} {th : Int} {k : Int} (hR : RS M0 M ad (n, F, g) m S len c th) (hi : Inj ad) (hv : Vld (n, F, g)) (q0 : R32 k) (hc0 : ¬ (0 ≤ k ∧ k < 4)) : Ct KX9_read [.ref (ad 112), vI k] M 0 0 (UR (e2 (eSet k) (e2 (eB (pwF len c = true) xA) (eB (smF (cntP (ptA len c) (ptB len c)) (ptN len c).toNat 0 ≤ 60) xS))) (smF (cntP (ptA len c) (ptB len c)) (ptN len c).toNat 0) tc3 (fun M2 => RS M0 M2 ad (uI n k ((flF (ptA len c) (ptB len c) (ptN len c).toNat 0 0 (fun _ => 0)).1), uI F k ((flF (ptA len c) (ptB len c) (ptN len c).toNat 0 0 (fun _ => 0)).2), g) (svM m) (svS m S (n, F, g)) 0 c 0) (fun t M2 => RS M0 M2 ad (n, F, g) m S len c t)) := by
  refine Ct.of _ (by decide) rfl (Nat.le_of_ble_eq_true rfl) ?_
  obtain ⟨zA, hA, tA, pA, rd, nu, bd, sc, hs, ⟨rA, sA, bA, wA, rm, bk, hm⟩, hz, hh, hm6, ht, hl⟩ := hR
  change Zr zA n F g at hz
  obtain ⟨hvs, hv0, hv1, hv2, hv3⟩ := id hv
  dsimp only at hvs hv0 hv1 hv2 hv3
  have hg : (2 ≤ g 0 ∧ g 0 ≤ 16) ∧ 1 ≤ g 1 ∧ g 1 ≤ 9999 := ⟨⟨hv0, hv1⟩, hv2, hv3⟩
  have hpw := pw_iff hl.1 c
  refine r_aload_n dX9_read_0 rfl ?_
  refine r_callV0 okX9_rightUpTo ⟨by decide, by decide⟩ ml_X9_159 (mX9_rightUpTo hm hi ht hl) hm.o rfl rfl (Nat.le_of_ble_eq_true rfl) (Nat.le_of_ble_eq_true rfl) (Nat.le_of_ble_eq_true rfl) rfl dX9_read_1 (nx_tI) (kx_tI ?_)
  intro Mx hM
  obtain ⟨pA, rd, nu, bd, sc, hm, hp⟩ := hM
  have hrd := read_rd hl hp
  have hpr := prR_r hl.1 c
  have hbw := bI_r (whE len c)
  refine r_aload_n dX9_read_4 rfl ?_
  refine r_getfield clX9 3 (by decide) fl_X9_127 hm.o rfl dX9_read_5 ?_
  refine r_icmp_ne (tgt := 22) dX9_read_8 (by decide) (by omega) (by omega) (fun h8 => ?_) (fun h8 => ?_)
  ·
    refine r_iconst dX9_read_22 ?_
    refine r_istore_n dX9_read_23 (by decide) rfl ?_
    refine r_iload_n dX9_read_24 rfl ?_
    refine r_if_eq (tgt := 32) dX9_read_25 (by decide) (by omega) (fun h25 => ?_) (fun h25 => ?_)
    ·
      refine r_aload_n dX9_read_32 rfl ?_
      refine r_iload_n dX9_read_33 rfl ?_
      refine r_callS1 okX9_isSet ⟨by decide, by decide⟩ ml_X9_81 (mX9_isSet (v := 0) (by omega) (by first | rw [if_pos (by omega)] | rw [if_neg (by omega)])) (Nat.le_of_ble_eq_true rfl) (Nat.le_of_ble_eq_true rfl) (Nat.le_of_ble_eq_true rfl) rfl dX9_read_34 (nx_I) (kx_I ?_)
      refine r_if_ne (tgt := 44) dX9_read_37 (by decide) (by omega) (fun h37 => ?_) (fun h37 => ?_)
      · omega
      ·
        refine r_iconst dX9_read_40 ?_
        refine r_goto (tgt := 66) dX9_read_41 (by decide) ?_
        refine r_putfield clX9 5 (by decide) fl_X9_34 rfl hm.o rfl rfl (Nat.le_of_ble_eq_true rfl) dX9_read_66 ?_
        refine hm.w_thrown hi (fun Mx hm => ?_)
        refine r_aload_n dX9_read_69 rfl ?_
        refine r_getfield clX9 5 (by decide) fl_X9_34 hm.o rfl dX9_read_70 ?_
        refine r_if_le (tgt := 78) dX9_read_73 (by decide) (by omega) (fun h73 => ?_) (fun h73 => ?_)
        · omega
        ·
          refine r_iconst dX9_read_76 ?_
          refine e_ireturn dX9_read_77 rfl (Nat.le_of_ble_eq_true rfl) (Nat.le_of_ble_eq_true rfl) ?_
          exact exUR (e2_x (eSet_f hc0) (by decide)) (by decide) (by decide) ⟨_, _, _, _, _, _, _, _, _, hm.q, hz, hh, hm6, ht, hl⟩
    · omega
  ·
    refine r_aload_n dX9_read_11 rfl ?_
    refine r_callV0 okX9_isEnded ⟨by decide, by decide⟩ ml_X9_146 (read_end hm hp) hm.o rfl rfl (Nat.le_of_ble_eq_true rfl) (Nat.le_of_ble_eq_true rfl) (Nat.le_of_ble_eq_true rfl) rfl dX9_read_12 (nx_I) (kx_I ?_)
    refine r_if_eq (tgt := 22) dX9_read_15 (by decide) (by omega) (fun h15 => ?_) (fun h15 => ?_)
    ·
      refine r_iconst dX9_read_22 ?_
      refine r_istore_n dX9_read_23 (by decide) rfl ?_
      refine r_iload_n dX9_read_24 rfl ?_
      refine r_if_eq (tgt := 32) dX9_read_25 (by decide) (by omega) (fun h25 => ?_) (fun h25 => ?_)
      ·
        refine r_aload_n dX9_read_32 rfl ?_
        refine r_iload_n dX9_read_33 rfl ?_
        refine r_callS1 okX9_isSet ⟨by decide, by decide⟩ ml_X9_81 (mX9_isSet (v := 0) (by omega) (by first | rw [if_pos (by omega)] | rw [if_neg (by omega)])) (Nat.le_of_ble_eq_true rfl) (Nat.le_of_ble_eq_true rfl) (Nat.le_of_ble_eq_true rfl) rfl dX9_read_34 (nx_I) (kx_I ?_)
        refine r_if_ne (tgt := 44) dX9_read_37 (by decide) (by omega) (fun h37 => ?_) (fun h37 => ?_)
        · omega
        ·
          refine r_iconst dX9_read_40 ?_
          refine r_goto (tgt := 66) dX9_read_41 (by decide) ?_
          refine r_putfield clX9 5 (by decide) fl_X9_34 rfl hm.o rfl rfl (Nat.le_of_ble_eq_true rfl) dX9_read_66 ?_
          refine hm.w_thrown hi (fun Mx hm => ?_)
          refine r_aload_n dX9_read_69 rfl ?_
          refine r_getfield clX9 5 (by decide) fl_X9_34 hm.o rfl dX9_read_70 ?_
          refine r_if_le (tgt := 78) dX9_read_73 (by decide) (by omega) (fun h73 => ?_) (fun h73 => ?_)
          · omega
          ·
            refine r_iconst dX9_read_76 ?_
            refine e_ireturn dX9_read_77 rfl (Nat.le_of_ble_eq_true rfl) (Nat.le_of_ble_eq_true rfl) ?_
            exact exUR (e2_x (eSet_f hc0) (by decide)) (by decide) (by decide) ⟨_, _, _, _, _, _, _, _, _, hm.q, hz, hh, hm6, ht, hl⟩
      · omega
    ·
      refine r_iconst dX9_read_18 ?_
      refine r_goto (tgt := 23) dX9_read_19 (by decide) ?_
      refine r_istore_n dX9_read_23 (by decide) rfl ?_
      refine r_iload_n dX9_read_24 rfl ?_
      refine r_if_eq (tgt := 32) dX9_read_25 (by decide) (by omega) (fun h25 => ?_) (fun h25 => ?_)
      · omega
      ·
        refine r_aload_n dX9_read_28 rfl ?_
        refine r_callV0 okX9_endNumber ⟨by decide, by decide⟩ ml_X9_150 (mX9_endNumber hm hi hrd.1 hrd.2.1) hm.o rfl rfl (Nat.le_of_ble_eq_true rfl) (Nat.le_of_ble_eq_true rfl) (Nat.le_of_ble_eq_true rfl) rfl dX9_read_29 (nx_tV) (kx_tV ?_)
        intro Mx hm
        have hcl := fun h => read_close hp h
        refine r_aload_n dX9_read_32 rfl ?_
        refine r_iload_n dX9_read_33 rfl ?_
        refine r_callS1 okX9_isSet ⟨by decide, by decide⟩ ml_X9_81 (mX9_isSet (v := 0) (by omega) (by first | rw [if_pos (by omega)] | rw [if_neg (by omega)])) (Nat.le_of_ble_eq_true rfl) (Nat.le_of_ble_eq_true rfl) (Nat.le_of_ble_eq_true rfl) rfl dX9_read_34 (nx_I) (kx_I ?_)
        refine r_if_ne (tgt := 44) dX9_read_37 (by decide) (by omega) (fun h37 => ?_) (fun h37 => ?_)
        · omega
        ·
          refine r_iconst dX9_read_40 ?_
          refine r_goto (tgt := 66) dX9_read_41 (by decide) ?_
          refine r_putfield clX9 5 (by decide) fl_X9_34 rfl hm.o rfl rfl (Nat.le_of_ble_eq_true rfl) dX9_read_66 ?_
          refine hm.w_thrown hi (fun Mx hm => ?_)
          refine r_aload_n dX9_read_69 rfl ?_
          refine r_getfield clX9 5 (by decide) fl_X9_34 hm.o rfl dX9_read_70 ?_
          refine r_if_le (tgt := 78) dX9_read_73 (by decide) (by omega) (fun h73 => ?_) (fun h73 => ?_)
          · omega
          ·
            refine r_iconst dX9_read_76 ?_
            refine e_ireturn dX9_read_77 rfl (Nat.le_of_ble_eq_true rfl) (Nat.le_of_ble_eq_true rfl) ?_
            exact exUR (e2_x (eSet_f hc0) (by decide)) (by decide) (by decide) ⟨_, _, _, _, _, _, _, _, _, hm.q, hz, hh, hm6, ht, hl⟩

set_option maxHeartbeats 4000000 in
theorem mX9_read_x1 {M0 M : Mem} {ad : Int → Nat} {n : Int → Int} {F : Int → Int → Int} {g : Int → Int} {m : Int} {S : Int → Sg3} {len : Int} {c : Int → Int} {th : Int} {k : Int} (hR : RS M0 M ad (n, F, g) m S len c th) (hi : Inj ad) (hv : Vld (n, F, g)) (q0 : R32 k) (hc0 : 0 ≤ k ∧ k < 4) (hc1 : ¬ (pwF len c = true)) : Ct KX9_read [.ref (ad 112), vI k] M 0 0 (UR (e2 (eSet k) (e2 (eB (pwF len c = true) xA) (eB (smF (cntP (ptA len c) (ptB len c)) (ptN len c).toNat 0 ≤ 60) xS))) (smF (cntP (ptA len c) (ptB len c)) (ptN len c).toNat 0) tc3 (fun M2 => RS M0 M2 ad (uI n k ((flF (ptA len c) (ptB len c) (ptN len c).toNat 0 0 (fun _ => 0)).1), uI F k ((flF (ptA len c) (ptB len c) (ptN len c).toNat 0 0 (fun _ => 0)).2), g) (svM m) (svS m S (n, F, g)) 0 c 0) (fun t M2 => RS M0 M2 ad (n, F, g) m S len c t)) := by
  refine Ct.of _ (by decide) rfl (Nat.le_of_ble_eq_true rfl) ?_
  obtain ⟨zA, hA, tA, pA, rd, nu, bd, sc, hs, ⟨rA, sA, bA, wA, rm, bk, hm⟩, hz, hh, hm6, ht, hl⟩ := hR
  change Zr zA n F g at hz
  obtain ⟨hvs, hv0, hv1, hv2, hv3⟩ := id hv
  dsimp only at hvs hv0 hv1 hv2 hv3
  have hg : (2 ≤ g 0 ∧ g 0 ≤ 16) ∧ 1 ≤ g 1 ∧ g 1 ≤ 9999 := ⟨⟨hv0, hv1⟩, hv2, hv3⟩
  have hpw := pw_iff hl.1 c
  refine r_aload_n dX9_read_0 rfl ?_
  refine r_callV0 okX9_rightUpTo ⟨by decide, by decide⟩ ml_X9_159 (mX9_rightUpTo hm hi ht hl) hm.o rfl rfl (Nat.le_of_ble_eq_true rfl) (Nat.le_of_ble_eq_true rfl) (Nat.le_of_ble_eq_true rfl) rfl dX9_read_1 (nx_tI) (kx_tI ?_)
  intro Mx hM
  obtain ⟨pA, rd, nu, bd, sc, hm, hp⟩ := hM
  have hrd := read_rd hl hp
  have hpr := prR_r hl.1 c
  have hbw := bI_r (whE len c)
  refine r_aload_n dX9_read_4 rfl ?_
  refine r_getfield clX9 3 (by decide) fl_X9_127 hm.o rfl dX9_read_5 ?_
  refine r_icmp_ne (tgt := 22) dX9_read_8 (by decide) (by omega) (by omega) (fun h8 => ?_) (fun h8 => ?_)
  ·
    refine r_iconst dX9_read_22 ?_
    refine r_istore_n dX9_read_23 (by decide) rfl ?_
    refine r_iload_n dX9_read_24 rfl ?_
    refine r_if_eq (tgt := 32) dX9_read_25 (by decide) (by omega) (fun h25 => ?_) (fun h25 => ?_)
    ·
      refine r_aload_n dX9_read_32 rfl ?_
      refine r_iload_n dX9_read_33 rfl ?_
      refine r_callS1 okX9_isSet ⟨by decide, by decide⟩ ml_X9_81 (mX9_isSet (v := 1) (by omega) (by first | rw [if_pos (by omega)] | rw [if_neg (by omega)])) (Nat.le_of_ble_eq_true rfl) (Nat.le_of_ble_eq_true rfl) (Nat.le_of_ble_eq_true rfl) rfl dX9_read_34 (nx_I) (kx_I ?_)
      refine r_if_ne (tgt := 44) dX9_read_37 (by decide) (by omega) (fun h37 => ?_) (fun h37 => ?_)
      ·
        refine r_iload_n dX9_read_44 rfl ?_
        refine r_if_ne (tgt := 52) dX9_read_45 (by decide) (by omega) (fun h45 => ?_) (fun h45 => ?_)
        · omega
        ·
          refine r_iconst dX9_read_48 ?_
          refine r_goto (tgt := 66) dX9_read_49 (by decide) ?_
          refine r_putfield clX9 5 (by decide) fl_X9_34 rfl hm.o rfl rfl (Nat.le_of_ble_eq_true rfl) dX9_read_66 ?_
          refine hm.w_thrown hi (fun Mx hm => ?_)
          refine r_aload_n dX9_read_69 rfl ?_
          refine r_getfield clX9 5 (by decide) fl_X9_34 hm.o rfl dX9_read_70 ?_
          refine r_if_le (tgt := 78) dX9_read_73 (by decide) (by omega) (fun h73 => ?_) (fun h73 => ?_)
          · omega
          ·
            refine r_iconst dX9_read_76 ?_
            refine e_ireturn dX9_read_77 rfl (Nat.le_of_ble_eq_true rfl) (Nat.le_of_ble_eq_true rfl) ?_
            exact exUR ((e2_ok (eSet_t hc0)).trans (e2_x (eB_f hc1) (by decide))) (by decide) (by decide) ⟨_, _, _, _, _, _, _, _, _, hm.q, hz, hh, hm6, ht, hl⟩
      · omega
    · omega
  ·
    refine r_aload_n dX9_read_11 rfl ?_
    refine r_callV0 okX9_isEnded ⟨by decide, by decide⟩ ml_X9_146 (read_end hm hp) hm.o rfl rfl (Nat.le_of_ble_eq_true rfl) (Nat.le_of_ble_eq_true rfl) (Nat.le_of_ble_eq_true rfl) rfl dX9_read_12 (nx_I) (kx_I ?_)
    refine r_if_eq (tgt := 22) dX9_read_15 (by decide) (by omega) (fun h15 => ?_) (fun h15 => ?_)
    ·
      refine r_iconst dX9_read_22 ?_
      refine r_istore_n dX9_read_23 (by decide) rfl ?_
      refine r_iload_n dX9_read_24 rfl ?_
      refine r_if_eq (tgt := 32) dX9_read_25 (by decide) (by omega) (fun h25 => ?_) (fun h25 => ?_)
      ·
        refine r_aload_n dX9_read_32 rfl ?_
        refine r_iload_n dX9_read_33 rfl ?_
        refine r_callS1 okX9_isSet ⟨by decide, by decide⟩ ml_X9_81 (mX9_isSet (v := 1) (by omega) (by first | rw [if_pos (by omega)] | rw [if_neg (by omega)])) (Nat.le_of_ble_eq_true rfl) (Nat.le_of_ble_eq_true rfl) (Nat.le_of_ble_eq_true rfl) rfl dX9_read_34 (nx_I) (kx_I ?_)
        refine r_if_ne (tgt := 44) dX9_read_37 (by decide) (by omega) (fun h37 => ?_) (fun h37 => ?_)
        ·
          refine r_iload_n dX9_read_44 rfl ?_
          refine r_if_ne (tgt := 52) dX9_read_45 (by decide) (by omega) (fun h45 => ?_) (fun h45 => ?_)
          · omega
          ·
            refine r_iconst dX9_read_48 ?_
            refine r_goto (tgt := 66) dX9_read_49 (by decide) ?_
            refine r_putfield clX9 5 (by decide) fl_X9_34 rfl hm.o rfl rfl (Nat.le_of_ble_eq_true rfl) dX9_read_66 ?_
            refine hm.w_thrown hi (fun Mx hm => ?_)
            refine r_aload_n dX9_read_69 rfl ?_
            refine r_getfield clX9 5 (by decide) fl_X9_34 hm.o rfl dX9_read_70 ?_
            refine r_if_le (tgt := 78) dX9_read_73 (by decide) (by omega) (fun h73 => ?_) (fun h73 => ?_)
            · omega
            ·
              refine r_iconst dX9_read_76 ?_
              refine e_ireturn dX9_read_77 rfl (Nat.le_of_ble_eq_true rfl) (Nat.le_of_ble_eq_true rfl) ?_
              exact exUR ((e2_ok (eSet_t hc0)).trans (e2_x (eB_f hc1) (by decide))) (by decide) (by decide) ⟨_, _, _, _, _, _, _, _, _, hm.q, hz, hh, hm6, ht, hl⟩
        · omega
      · omega
    ·
      exfalso
      exact hc1 (hpw.mpr ⟨by omega, bI_t h15⟩)

set_option maxHeartbeats 4000000 in
theorem mX9_read_x2 {M0 M : Mem} {ad : Int → Nat} {n : Int → Int} {F : Int → Int → Int} {g : Int → Int} {m : Int} {S : Int → Sg3} {len : Int} {c : Int → Int} {th : Int} {k : Int} (hR : RS M0 M ad (n, F, g) m S len c th) (hi : Inj ad) (hv : Vld (n, F, g)) (q0 : R32 k) (hc0 : 0 ≤ k ∧ k < 4) (hc1 : pwF len c = true) (hc2 : ¬ (smF (cntP (ptA len c) (ptB len c)) (ptN len c).toNat 0 ≤ 60)) : Ct KX9_read [.ref (ad 112), vI k] M 0 0 (UR (e2 (eSet k) (e2 (eB (pwF len c = true) xA) (eB (smF (cntP (ptA len c) (ptB len c)) (ptN len c).toNat 0 ≤ 60) xS))) (smF (cntP (ptA len c) (ptB len c)) (ptN len c).toNat 0) tc3 (fun M2 => RS M0 M2 ad (uI n k ((flF (ptA len c) (ptB len c) (ptN len c).toNat 0 0 (fun _ => 0)).1), uI F k ((flF (ptA len c) (ptB len c) (ptN len c).toNat 0 0 (fun _ => 0)).2), g) (svM m) (svS m S (n, F, g)) 0 c 0) (fun t M2 => RS M0 M2 ad (n, F, g) m S len c t)) := by
  refine Ct.of _ (by decide) rfl (Nat.le_of_ble_eq_true rfl) ?_
  obtain ⟨zA, hA, tA, pA, rd, nu, bd, sc, hs, ⟨rA, sA, bA, wA, rm, bk, hm⟩, hz, hh, hm6, ht, hl⟩ := hR
  change Zr zA n F g at hz
  obtain ⟨hvs, hv0, hv1, hv2, hv3⟩ := id hv
  dsimp only at hvs hv0 hv1 hv2 hv3
  have hg : (2 ≤ g 0 ∧ g 0 ≤ 16) ∧ 1 ≤ g 1 ∧ g 1 ≤ 9999 := ⟨⟨hv0, hv1⟩, hv2, hv3⟩
  have hpw := pw_iff hl.1 c
  refine r_aload_n dX9_read_0 rfl ?_
  refine r_callV0 okX9_rightUpTo ⟨by decide, by decide⟩ ml_X9_159 (mX9_rightUpTo hm hi ht hl) hm.o rfl rfl (Nat.le_of_ble_eq_true rfl) (Nat.le_of_ble_eq_true rfl) (Nat.le_of_ble_eq_true rfl) rfl dX9_read_1 (nx_tI) (kx_tI ?_)
  intro Mx hM
  obtain ⟨pA, rd, nu, bd, sc, hm, hp⟩ := hM
  have hrd := read_rd hl hp
  have hpr := prR_r hl.1 c
  have hbw := bI_r (whE len c)
  refine r_aload_n dX9_read_4 rfl ?_
  refine r_getfield clX9 3 (by decide) fl_X9_127 hm.o rfl dX9_read_5 ?_
  refine r_icmp_ne (tgt := 22) dX9_read_8 (by decide) (by omega) (by omega) (fun h8 => ?_) (fun h8 => ?_)
  ·
    exfalso
    first | exact absurd (hpw.mp hc1).1 h8 | exact bI_f h15 (hpw.mp hc1).2
  ·
    refine r_aload_n dX9_read_11 rfl ?_
    refine r_callV0 okX9_isEnded ⟨by decide, by decide⟩ ml_X9_146 (read_end hm hp) hm.o rfl rfl (Nat.le_of_ble_eq_true rfl) (Nat.le_of_ble_eq_true rfl) (Nat.le_of_ble_eq_true rfl) rfl dX9_read_12 (nx_I) (kx_I ?_)
    refine r_if_eq (tgt := 22) dX9_read_15 (by decide) (by omega) (fun h15 => ?_) (fun h15 => ?_)
    ·
      exfalso
      first | exact absurd (hpw.mp hc1).1 h8 | exact bI_f h15 (hpw.mp hc1).2
    ·
      refine r_iconst dX9_read_18 ?_
      refine r_goto (tgt := 23) dX9_read_19 (by decide) ?_
      refine r_istore_n dX9_read_23 (by decide) rfl ?_
      refine r_iload_n dX9_read_24 rfl ?_
      refine r_if_eq (tgt := 32) dX9_read_25 (by decide) (by omega) (fun h25 => ?_) (fun h25 => ?_)
      · omega
      ·
        refine r_aload_n dX9_read_28 rfl ?_
        refine r_callV0 okX9_endNumber ⟨by decide, by decide⟩ ml_X9_150 (mX9_endNumber hm hi hrd.1 hrd.2.1) hm.o rfl rfl (Nat.le_of_ble_eq_true rfl) (Nat.le_of_ble_eq_true rfl) (Nat.le_of_ble_eq_true rfl) rfl dX9_read_29 (nx_tV) (kx_tV ?_)
        intro Mx hm
        have hcl := fun h => read_close hp h
        refine r_aload_n dX9_read_32 rfl ?_
        refine r_iload_n dX9_read_33 rfl ?_
        refine r_callS1 okX9_isSet ⟨by decide, by decide⟩ ml_X9_81 (mX9_isSet (v := 1) (by omega) (by first | rw [if_pos (by omega)] | rw [if_neg (by omega)])) (Nat.le_of_ble_eq_true rfl) (Nat.le_of_ble_eq_true rfl) (Nat.le_of_ble_eq_true rfl) rfl dX9_read_34 (nx_I) (kx_I ?_)
        refine r_if_ne (tgt := 44) dX9_read_37 (by decide) (by omega) (fun h37 => ?_) (fun h37 => ?_)
        ·
          refine r_iload_n dX9_read_44 rfl ?_
          refine r_if_ne (tgt := 52) dX9_read_45 (by decide) (by omega) (fun h45 => ?_) (fun h45 => ?_)
          ·
            refine r_aload_n dX9_read_52 rfl ?_
            refine r_callV0 okX9_toldMany ⟨by decide, by decide⟩ ml_X9_162 (mX9_toldMany hm hrd.1 (hcl (hpw.mp hc1).2)) hm.o rfl rfl (Nat.le_of_ble_eq_true rfl) (Nat.le_of_ble_eq_true rfl) (Nat.le_of_ble_eq_true rfl) rfl dX9_read_53 (nx_I) (kx_I ?_)
            rw [← hrd.2.2]
            have hpt := pt_asc hl.1 hc1
            have hsr := read_r hpt.1 (show 0 ≤ ptN len c ∧ ptN len c ≤ 60 by omega)
            refine r_bipush dX9_read_56 (by decide) ?_
            refine r_icmp_le (tgt := 65) dX9_read_58 (by decide) (by omega) (by omega) (fun h58 => ?_) (fun h58 => ?_)
            · omega
            ·
              refine r_iconst dX9_read_61 ?_
              refine r_goto (tgt := 66) dX9_read_62 (by decide) ?_
              refine r_putfield clX9 5 (by decide) fl_X9_34 rfl hm.o rfl rfl (Nat.le_of_ble_eq_true rfl) dX9_read_66 ?_
              refine hm.w_thrown hi (fun Mx hm => ?_)
              refine r_aload_n dX9_read_69 rfl ?_
              refine r_getfield clX9 5 (by decide) fl_X9_34 hm.o rfl dX9_read_70 ?_
              refine r_if_le (tgt := 78) dX9_read_73 (by decide) (by omega) (fun h73 => ?_) (fun h73 => ?_)
              · omega
              ·
                refine r_iconst dX9_read_76 ?_
                refine e_ireturn dX9_read_77 rfl (Nat.le_of_ble_eq_true rfl) (Nat.le_of_ble_eq_true rfl) ?_
                exact exUR ((e2_ok (eSet_t hc0)).trans ((e2_ok (eB_t hc1)).trans (eB_f hc2))) (by decide) (by decide) ⟨_, _, _, _, _, _, _, _, _, hm.q, hz, hh, hm6, ht, hl⟩
          · omega
        · omega

set_option maxHeartbeats 4000000 in
theorem mX9_read_ok {M0 M : Mem} {ad : Int → Nat} {n : Int → Int} {F : Int → Int → Int} {g : Int → Int} {m : Int} {S : Int → Sg3} {len : Int} {c : Int → Int} {th : Int} {k : Int} (hR : RS M0 M ad (n, F, g) m S len c th) (hi : Inj ad) (hv : Vld (n, F, g)) (q0 : R32 k) (hc0 : 0 ≤ k ∧ k < 4) (hc1 : pwF len c = true) (hc2 : smF (cntP (ptA len c) (ptB len c)) (ptN len c).toNat 0 ≤ 60) : Ct KX9_read [.ref (ad 112), vI k] M 0 0 (UR (e2 (eSet k) (e2 (eB (pwF len c = true) xA) (eB (smF (cntP (ptA len c) (ptB len c)) (ptN len c).toNat 0 ≤ 60) xS))) (smF (cntP (ptA len c) (ptB len c)) (ptN len c).toNat 0) tc3 (fun M2 => RS M0 M2 ad (uI n k ((flF (ptA len c) (ptB len c) (ptN len c).toNat 0 0 (fun _ => 0)).1), uI F k ((flF (ptA len c) (ptB len c) (ptN len c).toNat 0 0 (fun _ => 0)).2), g) (svM m) (svS m S (n, F, g)) 0 c 0) (fun t M2 => RS M0 M2 ad (n, F, g) m S len c t)) := by
  refine Ct.of _ (by decide) rfl (Nat.le_of_ble_eq_true rfl) ?_
  obtain ⟨zA, hA, tA, pA, rd, nu, bd, sc, hs, ⟨rA, sA, bA, wA, rm, bk, hm⟩, hz, hh, hm6, ht, hl⟩ := hR
  change Zr zA n F g at hz
  obtain ⟨hvs, hv0, hv1, hv2, hv3⟩ := id hv
  dsimp only at hvs hv0 hv1 hv2 hv3
  have hg : (2 ≤ g 0 ∧ g 0 ≤ 16) ∧ 1 ≤ g 1 ∧ g 1 ≤ 9999 := ⟨⟨hv0, hv1⟩, hv2, hv3⟩
  have hpw := pw_iff hl.1 c
  refine r_aload_n dX9_read_0 rfl ?_
  refine r_callV0 okX9_rightUpTo ⟨by decide, by decide⟩ ml_X9_159 (mX9_rightUpTo hm hi ht hl) hm.o rfl rfl (Nat.le_of_ble_eq_true rfl) (Nat.le_of_ble_eq_true rfl) (Nat.le_of_ble_eq_true rfl) rfl dX9_read_1 (nx_tI) (kx_tI ?_)
  intro Mx hM
  obtain ⟨pA, rd, nu, bd, sc, hm, hp⟩ := hM
  have hrd := read_rd hl hp
  have hpr := prR_r hl.1 c
  have hbw := bI_r (whE len c)
  refine r_aload_n dX9_read_4 rfl ?_
  refine r_getfield clX9 3 (by decide) fl_X9_127 hm.o rfl dX9_read_5 ?_
  refine r_icmp_ne (tgt := 22) dX9_read_8 (by decide) (by omega) (by omega) (fun h8 => ?_) (fun h8 => ?_)
  ·
    exfalso
    first | exact absurd (hpw.mp hc1).1 h8 | exact bI_f h15 (hpw.mp hc1).2
  ·
    refine r_aload_n dX9_read_11 rfl ?_
    refine r_callV0 okX9_isEnded ⟨by decide, by decide⟩ ml_X9_146 (read_end hm hp) hm.o rfl rfl (Nat.le_of_ble_eq_true rfl) (Nat.le_of_ble_eq_true rfl) (Nat.le_of_ble_eq_true rfl) rfl dX9_read_12 (nx_I) (kx_I ?_)
    refine r_if_eq (tgt := 22) dX9_read_15 (by decide) (by omega) (fun h15 => ?_) (fun h15 => ?_)
    ·
      exfalso
      first | exact absurd (hpw.mp hc1).1 h8 | exact bI_f h15 (hpw.mp hc1).2
    ·
      refine r_iconst dX9_read_18 ?_
      refine r_goto (tgt := 23) dX9_read_19 (by decide) ?_
      refine r_istore_n dX9_read_23 (by decide) rfl ?_
      refine r_iload_n dX9_read_24 rfl ?_
      refine r_if_eq (tgt := 32) dX9_read_25 (by decide) (by omega) (fun h25 => ?_) (fun h25 => ?_)
      · omega
      ·
        refine r_aload_n dX9_read_28 rfl ?_
        refine r_callV0 okX9_endNumber ⟨by decide, by decide⟩ ml_X9_150 (mX9_endNumber hm hi hrd.1 hrd.2.1) hm.o rfl rfl (Nat.le_of_ble_eq_true rfl) (Nat.le_of_ble_eq_true rfl) (Nat.le_of_ble_eq_true rfl) rfl dX9_read_29 (nx_tV) (kx_tV ?_)
        intro Mx hm
        have hcl := fun h => read_close hp h
        refine r_aload_n dX9_read_32 rfl ?_
        refine r_iload_n dX9_read_33 rfl ?_
        refine r_callS1 okX9_isSet ⟨by decide, by decide⟩ ml_X9_81 (mX9_isSet (v := 1) (by omega) (by first | rw [if_pos (by omega)] | rw [if_neg (by omega)])) (Nat.le_of_ble_eq_true rfl) (Nat.le_of_ble_eq_true rfl) (Nat.le_of_ble_eq_true rfl) rfl dX9_read_34 (nx_I) (kx_I ?_)
        refine r_if_ne (tgt := 44) dX9_read_37 (by decide) (by omega) (fun h37 => ?_) (fun h37 => ?_)
        ·
          refine r_iload_n dX9_read_44 rfl ?_
          refine r_if_ne (tgt := 52) dX9_read_45 (by decide) (by omega) (fun h45 => ?_) (fun h45 => ?_)
          ·
            refine r_aload_n dX9_read_52 rfl ?_
            refine r_callV0 okX9_toldMany ⟨by decide, by decide⟩ ml_X9_162 (mX9_toldMany hm hrd.1 (hcl (hpw.mp hc1).2)) hm.o rfl rfl (Nat.le_of_ble_eq_true rfl) (Nat.le_of_ble_eq_true rfl) (Nat.le_of_ble_eq_true rfl) rfl dX9_read_53 (nx_I) (kx_I ?_)
            rw [← hrd.2.2]
            have hpt := pt_asc hl.1 hc1
            have hsr := read_r hpt.1 (show 0 ≤ ptN len c ∧ ptN len c ≤ 60 by omega)
            refine r_bipush dX9_read_56 (by decide) ?_
            refine r_icmp_le (tgt := 65) dX9_read_58 (by decide) (by omega) (by omega) (fun h58 => ?_) (fun h58 => ?_)
            ·
              refine r_iconst dX9_read_65 ?_
              refine r_putfield clX9 5 (by decide) fl_X9_34 rfl hm.o rfl rfl (Nat.le_of_ble_eq_true rfl) dX9_read_66 ?_
              refine hm.w_thrown hi (fun Mx hm => ?_)
              refine r_aload_n dX9_read_69 rfl ?_
              refine r_getfield clX9 5 (by decide) fl_X9_34 hm.o rfl dX9_read_70 ?_
              refine r_if_le (tgt := 78) dX9_read_73 (by decide) (by omega) (fun h73 => ?_) (fun h73 => ?_)
              ·
                refine r_aload_n dX9_read_78 rfl ?_
                refine r_callV0 okX9_save ⟨by decide, by decide⟩ ml_X9_92 (mX9_save (σ := (n, F, g)) (S := S) hm hi hz hh hm6) hm.o rfl rfl (Nat.le_of_ble_eq_true rfl) (Nat.le_of_ble_eq_true rfl) (Nat.le_of_ble_eq_true rfl) rfl dX9_read_79 (nx_tV) (kx_tV ?_)
                intro Mx hM
                obtain ⟨hA, hm, hh⟩ := hM
                have hm6 : 0 ≤ svM m ∧ svM m ≤ 6 := by unfold svM; split <;> omega
                refine r_aload_n dX9_read_82 rfl ?_
                refine r_iconst dX9_read_83 ?_
                refine r_putfield clX9 3 (by decide) fl_X9_127 rfl hm.o rfl rfl (Nat.le_of_ble_eq_true rfl) dX9_read_84 ?_
                refine hm.w_length hi (fun Mx hm => ?_)
                refine r_aload_n dX9_read_87 rfl ?_
                refine r_iconst dX9_read_88 ?_
                refine r_putfield clX9 7 (by decide) fl_X9_56 rfl hm.o rfl rfl (Nat.le_of_ble_eq_true rfl) dX9_read_89 ?_
                refine hm.w_rowMany hi (fun Mx hm => ?_)
                refine r_iconst dX9_read_92 ?_
                refine r_istore_n dX9_read_93 (by decide) rfl ?_
                refine J.loc (L' := [(0, some _), (1, some _), (2, some _), (3, some _)]) (lsub_cons rfl (lsub_cons rfl (lsub_cons rfl (lsub_cons rfl (lsub_nil))))) (loop5 (fun (j : Int) (M1 : Mem) (r1 : Int → Int) (mm : Int) (G : Int → Int) => 0 ≤ j ∧ j ≤ ptN len c ∧ RM M0 M1 ad zA hA tA r1 sA (enP pA rd nu sc) bA wA (svM m) 0 0 mm bk rd nu bd sc hs ∧ 0 ≤ mm ∧ smF (cntP (ptA len c) (ptB len c)) (ptN len c).toNat 0 = mm + smF (cntP (ptA len c) (ptB len c)) (ptN len c - j).toNat j ∧ flF (ptA len c) (ptB len c) (ptN len c).toNat 0 0 (fun _ => 0) = flF (ptA len c) (ptB len c) (ptN len c - j).toNat j mm G ∧ ∀ p, 0 ≤ p → p < mm → r1 p = G p ∧ 0 ≤ G p ∧ G p ≤ 9999) (fun (j : Int) (M1 : Mem) (r1 : Int → Int) (mm : Int) (G : Int → Int) => (ptN len c - j).toNat) (fun (j : Int) (M1 : Mem) (r1 : Int → Int) (mm : Int) (G : Int → Int) => J KX9_read 0 0 _ 94 [(0, some (.ref (ad 112))), (1, some (vI k)), (2, some (vI 1)), (3, some (vI j))] [] M1 _ _) (fun j M1 r1 mm G hI94 ih94 => ?_) _ _ rA 0 (fun _ => 0) ?_)
                ·
                  obtain ⟨hj0, hj1, hm, hm0, hmm, hfl, hrG⟩ := hI94
                  refine r_iload_n dX9_read_94 rfl ?_
                  refine r_aload_n dX9_read_95 rfl ?_
                  refine r_getfield clX9 11 (by decide) fl_X9_139 hm.o rfl dX9_read_96 ?_
                  refine r_icmp_gt (tgt := 160) dX9_read_99 (by decide) (by omega) (by omega) (fun h99 => ?_) (fun h99 => ?_)
                  ·
                    have hflE : flF (ptA len c) (ptB len c) (ptN len c).toNat 0 0 (fun _ => 0) = (mm, G) := by rw [hfl, show (ptN len c - j).toNat = 0 by omega, flF]
                    have hrw : ∀ p, 0 ≤ p → p < mm → r1 p = (flF (ptA len c) (ptB len c) (ptN len c).toNat 0 0 (fun _ => 0)).2 p ∧ 0 ≤ (flF (ptA len c) (ptB len c) (ptN len c).toNat 0 0 (fun _ => 0)).2 p ∧ (flF (ptA len c) (ptB len c) (ptN len c).toNat 0 0 (fun _ => 0)).2 p ≤ 9999 := fun p x y => by rw [hflE]; exact hrG p x y
                    have hmE : (flF (ptA len c) (ptB len c) (ptN len c).toNat 0 0 (fun _ => 0)).1 = mm := by rw [hflE]
                    rw [show (ptN len c - j).toNat = 0 by omega, smF] at hmm
                    rw [← hmE] at hm hrw
                    refine r_aload_n dX9_read_160 rfl ?_
                    refine r_iload_n dX9_read_161 rfl ?_
                    refine r_callV1 okX9_layRow ⟨by decide, by decide⟩ ml_X9_98 (mX9_layRow (R := (flF (ptA len c) (ptB len c) (ptN len c).toNat 0 0 (fun _ => 0)).2) hm hi hz hc0.1 hc0.2 (by omega) hrw) hm.o rfl rfl (Nat.le_of_ble_eq_true rfl) (Nat.le_of_ble_eq_true rfl) (Nat.le_of_ble_eq_true rfl) rfl dX9_read_162 (nx_tV) (kx_tV ?_)
                    intro Mx hM
                    obtain ⟨zA, hm, hz⟩ := hM
                    refine r_aload_n dX9_read_165 rfl ?_
                    refine r_getfield clX9 7 (by decide) fl_X9_56 hm.o rfl dX9_read_166 ?_
                    refine e_ireturn dX9_read_169 rfl (Nat.le_of_ble_eq_true rfl) (Nat.le_of_ble_eq_true rfl) ?_
                    exact okUR ((e2_ok (eSet_t hc0)).trans ((e2_ok (eB_t hc1)).trans (eB_t hc2))) (by omega) ⟨_, _, _, _, _, _, _, _, _, hm.q, hz, hh, hm6, fun j a b => by omega, by omega, by omega⟩
                  ·
                    have hpj := hpt.1.1 j hj0 (by omega)
                    have hcj : cntP (ptA len c) (ptB len c) j = ptB len c j - ptA len c j + 1 := rfl
                    have hsj : smF (cntP (ptA len c) (ptB len c)) (ptN len c - j).toNat j = cntP (ptA len c) (ptB len c) j + smF (cntP (ptA len c) (ptB len c)) (ptN len c - (j + 1)).toNat (j + 1) := by rw [show (ptN len c - j).toNat = (ptN len c - (j + 1)).toNat + 1 by omega, smF]
                    have hcp := cnt_pos hpt.1 (ptN len c - (j + 1)).toNat (j + 1) (by omega) (by omega)
                    refine r_aload_n dX9_read_102 rfl ?_
                    refine r_getfield clX9 10 (by decide) fl_X9_25 hm.o rfl dX9_read_103 ?_
                    refine r_iconst dX9_read_106 ?_
                    refine r_iload_n dX9_read_107 rfl ?_
                    refine r_imul dX9_read_108 ?_
                    refine r_iaload hm.p (by omega) (by omega) (by omega) dX9_read_109 ?_
                    rw [(hcl (hpw.mp hc1).2 j (by omega) (by omega)).1]
                    refine r_istore dX9_read_110 (by decide) rfl ?_
                    refine J.loc (L' := [(0, some _), (1, some _), (2, some _), (3, some _), (4, some _)]) (lsub_cons rfl (lsub_cons rfl (lsub_cons rfl (lsub_cons rfl (lsub_cons rfl (lsub_nil)))))) (loop5 (fun (v : Int) (M2 : Mem) (r2 : Int → Int) (m2 : Int) (G2 : Int → Int) => ptA len c j ≤ v ∧ v ≤ ptB len c j + 1 ∧ RM M0 M2 ad zA hA tA r2 sA (enP pA rd nu sc) bA wA (svM m) 0 0 m2 bk rd nu bd sc hs ∧ m2 = mm + (v - ptA len c j) ∧ rgF (ptB len c j - ptA len c j + 1).toNat (ptA len c j) mm G = rgF (ptB len c j - v + 1).toNat v m2 G2 ∧ ∀ p, 0 ≤ p → p < m2 → r2 p = G2 p ∧ 0 ≤ G2 p ∧ G2 p ≤ 9999) (fun (v : Int) (M2 : Mem) (r2 : Int → Int) (m2 : Int) (G2 : Int → Int) => (ptB len c j + 1 - v).toNat) (fun (v : Int) (M2 : Mem) (r2 : Int → Int) (m2 : Int) (G2 : Int → Int) => J KX9_read 0 0 _ 112 [(0, some (.ref (ad 112))), (1, some (vI k)), (2, some (vI 1)), (3, some (vI j)), (4, some (vI v))] [] M2 _ _) (fun v M2 r2 m2 G2 hI112 ih112 => ?_) _ _ r1 mm G ?_)
                    ·
                      obtain ⟨hv0x, hv1x, hm, hm2, hrg, hr2⟩ := hI112
                      refine r_iload dX9_read_112 rfl ?_
                      refine r_aload_n dX9_read_114 rfl ?_
                      refine r_getfield clX9 10 (by decide) fl_X9_25 hm.o rfl dX9_read_115 ?_
                      refine r_iconst dX9_read_118 ?_
                      refine r_iload_n dX9_read_119 rfl ?_
                      refine r_imul dX9_read_120 ?_
                      refine r_iconst dX9_read_121 ?_
                      refine r_iadd dX9_read_122 ?_
                      refine r_iaload hm.p (by omega) (by omega) (by omega) dX9_read_123 ?_
                      rw [(hcl (hpw.mp hc1).2 j (by omega) (by omega)).2]
                      refine r_icmp_gt (tgt := 154) dX9_read_124 (by decide) (by omega) (by omega) (fun h124 => ?_) (fun h124 => ?_)
                      ·
                        refine r_iinc dX9_read_154 rfl rfl ?_
                        refine r_goto (tgt := 94) dX9_read_157 (by decide) ?_
                        refine J.loc (lsub_cons rfl (lsub_cons rfl (lsub_cons rfl (lsub_cons rfl (lsub_nil))))) (ih94 _ _ r2 m2 G2 ?_ ?_)
                        · rw [show ((ptB len c j) - v + 1).toNat = 0 by omega, rgF] at hrg
                          refine ⟨by omega, by omega, hm, by omega, by omega, ?_, hr2⟩
                          rw [hfl, show (ptN len c - j).toNat = (ptN len c - (j + 1)).toNat + 1 by omega, flF, hrg]
                        · omega
                      ·
                        refine r_aload_n dX9_read_127 rfl ?_
                        refine r_getfield clX9 6 (by decide) fl_X9_19 hm.o rfl dX9_read_128 ?_
                        refine r_aload_n dX9_read_131 rfl ?_
                        refine r_getfield clX9 7 (by decide) fl_X9_56 hm.o rfl dX9_read_132 ?_
                        refine r_iload dX9_read_135 rfl ?_
                        refine r_iastore hm.r (by omega) (by omega) (by omega) dX9_read_137 ?_
                        refine hm.w_r hi (fun Mx hm => ?_)
                        refine r_aload_n dX9_read_138 rfl ?_
                        refine r_dup dX9_read_139 ?_
                        refine r_getfield clX9 7 (by decide) fl_X9_56 hm.o rfl dX9_read_140 ?_
                        refine r_iconst dX9_read_143 ?_
                        refine r_iadd dX9_read_144 ?_
                        refine r_putfield clX9 7 (by decide) fl_X9_56 rfl hm.o rfl rfl (Nat.le_of_ble_eq_true rfl) dX9_read_145 ?_
                        refine hm.w_rowMany hi (fun Mx hm => ?_)
                        refine r_iinc dX9_read_148 rfl rfl ?_
                        refine r_goto (tgt := 112) dX9_read_151 (by decide) ?_
                        refine J.loc (lsub_cons rfl (lsub_cons rfl (lsub_cons rfl (lsub_cons rfl (lsub_cons rfl (lsub_nil)))))) (ih112 _ _ (uI r2 m2 v) (m2 + 1) (uI G2 m2 v) ?_ ?_)
                        · refine ⟨by omega, by omega, hm, by omega, ?_, fun p x y => ?_⟩
                          · rw [hrg, show (ptB len c j - v + 1).toNat = (ptB len c j - (v + 1) + 1).toNat + 1 by omega, rgF]
                          · by_cases e : p = m2
                            · rw [e, uI_s, uI_s]; omega
                            · rw [uI_n _ e, uI_n _ e]; exact hr2 p x (by omega)
                        · omega
                    · exact ⟨by omega, by omega, hm, by omega, rfl, hrG⟩
                · exact ⟨by omega, by omega, hm, by omega, by simp, by simp, fun p x y => by omega⟩
              · omega
            · omega
          · omega
        · omega

theorem mX9_read {M0 M : Mem} {ad : Int → Nat} {n : Int → Int} {F : Int → Int → Int} {g : Int → Int} {m : Int} {S : Int → Sg3} {len : Int} {c : Int → Int} {th : Int} {k : Int} (hR : RS M0 M ad (n, F, g) m S len c th) (hi : Inj ad) (hv : Vld (n, F, g)) (q0 : R32 k) : Ct KX9_read [.ref (ad 112), vI k] M 0 0 (UR (e2 (eSet k) (e2 (eB (pwF len c = true) xA) (eB (smF (cntP (ptA len c) (ptB len c)) (ptN len c).toNat 0 ≤ 60) xS))) (smF (cntP (ptA len c) (ptB len c)) (ptN len c).toNat 0) tc3 (fun M2 => RS M0 M2 ad (uI n k ((flF (ptA len c) (ptB len c) (ptN len c).toNat 0 0 (fun _ => 0)).1), uI F k ((flF (ptA len c) (ptB len c) (ptN len c).toNat 0 0 (fun _ => 0)).2), g) (svM m) (svS m S (n, F, g)) 0 c 0) (fun t M2 => RS M0 M2 ad (n, F, g) m S len c t)) := by
  by_cases hc0 : 0 ≤ k ∧ k < 4
  · skip
    by_cases hc1 : pwF len c = true
    · skip
      by_cases hc2 : smF (cntP (ptA len c) (ptB len c)) (ptN len c).toNat 0 ≤ 60
      · skip
        exact mX9_read_ok hR hi hv q0 hc0 hc1 hc2
      · exact mX9_read_x2 hR hi hv q0 hc0 hc1 hc2
    · exact mX9_read_x1 hR hi hv q0 hc0 hc1
  · exact mX9_read_x0 hR hi hv q0 hc0

set_option maxHeartbeats 4000000 in
theorem mX9_undo_x0 {M0 M : Mem} {ad : Int → Nat} {n : Int → Int} {F : Int → Int → Int} {g : Int → Int} {m : Int} {S : Int → Sg3} {len : Int} {c : Int → Int} {th : Int} (hR : RS M0 M ad (n, F, g) m S len c th) (hi : Inj ad) (hv : Vld (n, F, g)) (hc0 : ¬ (0 < m)) : Ct KX9_undo [.ref (ad 112)] M 0 0 (UR (eB (0 < m) xS) (m - 1) tc1 (fun M2 => RS M0 M2 ad (S (m - 1)) (m - 1) S len c 0) (fun t M2 => RS M0 M2 ad (n, F, g) m S len c t)) := by
  refine Ct.of _ (by decide) rfl (Nat.le_of_ble_eq_true rfl) ?_
  obtain ⟨zA, hA, tA, pA, rd, nu, bd, sc, hs, ⟨rA, sA, bA, wA, rm, bk, hm⟩, hz, hh, hm6, ht, hl⟩ := hR
  change Zr zA n F g at hz
  obtain ⟨hvs, hv0, hv1, hv2, hv3⟩ := id hv
  dsimp only at hvs hv0 hv1 hv2 hv3
  have hg : (2 ≤ g 0 ∧ g 0 ≤ 16) ∧ 1 ≤ g 1 ∧ g 1 ≤ 9999 := ⟨⟨hv0, hv1⟩, hv2, hv3⟩
  refine r_aload_n dX9_undo_0 rfl ?_
  refine r_aload_n dX9_undo_1 rfl ?_
  refine r_getfield clX9 1 (by decide) fl_X9_38 hm.o rfl dX9_undo_2 ?_
  refine r_if_le (tgt := 12) dX9_undo_5 (by decide) (by omega) (fun h5 => ?_) (fun h5 => ?_)
  ·
    refine r_iconst dX9_undo_12 ?_
    refine r_putfield clX9 5 (by decide) fl_X9_34 rfl hm.o rfl rfl (Nat.le_of_ble_eq_true rfl) dX9_undo_13 ?_
    refine hm.w_thrown hi (fun Mx hm => ?_)
    refine r_aload_n dX9_undo_16 rfl ?_
    refine r_getfield clX9 5 (by decide) fl_X9_34 hm.o rfl dX9_undo_17 ?_
    refine r_if_le (tgt := 25) dX9_undo_20 (by decide) (by omega) (fun h20 => ?_) (fun h20 => ?_)
    · omega
    ·
      refine r_iconst dX9_undo_23 ?_
      refine e_ireturn dX9_undo_24 rfl (Nat.le_of_ble_eq_true rfl) (Nat.le_of_ble_eq_true rfl) ?_
      exact exUR (eB_f hc0) (by decide) (by decide) ⟨_, _, _, _, _, _, _, _, _, hm.q, hz, hh, hm6, ht, hl⟩
  · omega

set_option maxHeartbeats 4000000 in
theorem mX9_undo_ok {M0 M : Mem} {ad : Int → Nat} {n : Int → Int} {F : Int → Int → Int} {g : Int → Int} {m : Int} {S : Int → Sg3} {len : Int} {c : Int → Int} {th : Int} (hR : RS M0 M ad (n, F, g) m S len c th) (hi : Inj ad) (hv : Vld (n, F, g)) (hc0 : 0 < m) : Ct KX9_undo [.ref (ad 112)] M 0 0 (UR (eB (0 < m) xS) (m - 1) tc1 (fun M2 => RS M0 M2 ad (S (m - 1)) (m - 1) S len c 0) (fun t M2 => RS M0 M2 ad (n, F, g) m S len c t)) := by
  refine Ct.of _ (by decide) rfl (Nat.le_of_ble_eq_true rfl) ?_
  obtain ⟨zA, hA, tA, pA, rd, nu, bd, sc, hs, ⟨rA, sA, bA, wA, rm, bk, hm⟩, hz, hh, hm6, ht, hl⟩ := hR
  change Zr zA n F g at hz
  obtain ⟨hvs, hv0, hv1, hv2, hv3⟩ := id hv
  dsimp only at hvs hv0 hv1 hv2 hv3
  have hg : (2 ≤ g 0 ∧ g 0 ≤ 16) ∧ 1 ≤ g 1 ∧ g 1 ≤ 9999 := ⟨⟨hv0, hv1⟩, hv2, hv3⟩
  refine r_aload_n dX9_undo_0 rfl ?_
  refine r_aload_n dX9_undo_1 rfl ?_
  refine r_getfield clX9 1 (by decide) fl_X9_38 hm.o rfl dX9_undo_2 ?_
  refine r_if_le (tgt := 12) dX9_undo_5 (by decide) (by omega) (fun h5 => ?_) (fun h5 => ?_)
  · omega
  ·
    refine r_iconst dX9_undo_8 ?_
    refine r_goto (tgt := 13) dX9_undo_9 (by decide) ?_
    refine r_putfield clX9 5 (by decide) fl_X9_34 rfl hm.o rfl rfl (Nat.le_of_ble_eq_true rfl) dX9_undo_13 ?_
    refine hm.w_thrown hi (fun Mx hm => ?_)
    refine r_aload_n dX9_undo_16 rfl ?_
    refine r_getfield clX9 5 (by decide) fl_X9_34 hm.o rfl dX9_undo_17 ?_
    refine r_if_le (tgt := 25) dX9_undo_20 (by decide) (by omega) (fun h20 => ?_) (fun h20 => ?_)
    ·
      refine r_aload_n dX9_undo_25 rfl ?_
      refine r_dup dX9_undo_26 ?_
      refine r_getfield clX9 1 (by decide) fl_X9_38 hm.o rfl dX9_undo_27 ?_
      refine r_iconst dX9_undo_30 ?_
      refine r_isub dX9_undo_31 ?_
      refine r_putfield clX9 1 (by decide) fl_X9_38 rfl hm.o rfl rfl (Nat.le_of_ble_eq_true rfl) dX9_undo_32 ?_
      refine hm.w_states hi (fun Mx hm => ?_)
      refine r_iconst dX9_undo_35 ?_
      refine r_istore_n dX9_undo_36 (by decide) rfl ?_
      refine J.loc (L' := [(0, some _), (1, some _)]) (lsub_cons rfl (lsub_cons rfl (lsub_nil))) (loop3 (fun (i : Int) (M1 : Mem) (z1 : Int → Int) => 0 ≤ i ∧ i ≤ 246 ∧ RM M0 M1 ad z1 hA tA rA sA pA bA wA (m - 1) len 0 rm bk rd nu bd sc hs ∧ ∀ q, 0 ≤ q → q < i → z1 q = hA (246 * (m - 1) + q)) (fun (i : Int) (M1 : Mem) (z1 : Int → Int) => (246 - i).toNat) (fun (i : Int) (M1 : Mem) (z1 : Int → Int) => J KX9_undo 0 0 _ 37 [(0, some (.ref (ad 112))), (1, some (vI i))] [] M1 _ _) (fun i M1 z1 hI37 ih37 => ?_) _ _ zA ?_)
      ·
        obtain ⟨hi0, hi1, hm, hz1⟩ := hI37
        refine r_iload_n dX9_undo_37 rfl ?_
        refine r_sipush dX9_undo_38 (by decide) ?_
        refine r_icmp_ge (tgt := 71) dX9_undo_41 (by decide) (by omega) (by omega) (fun h41 => ?_) (fun h41 => ?_)
        ·
          refine r_aload_n dX9_undo_71 rfl ?_
          refine r_getfield clX9 1 (by decide) fl_X9_38 hm.o rfl dX9_undo_72 ?_
          refine e_ireturn dX9_undo_75 rfl (Nat.le_of_ble_eq_true rfl) (Nat.le_of_ble_eq_true rfl) ?_
          exact okUR (eB_t hc0) rfl ⟨_, _, _, _, _, _, _, _, _, hm.q, (hh (m - 1) (by omega) (by omega)).cong (fun q x y => hz1 q x (by omega)), fun j x y => hh j x (by omega), by omega, ht, hl⟩
        ·
          refine r_aload_n dX9_undo_44 rfl ?_
          refine r_getfield clX9 0 (by decide) fl_X9_7 hm.o rfl dX9_undo_45 ?_
          refine r_iload_n dX9_undo_48 rfl ?_
          refine r_aload_n dX9_undo_49 rfl ?_
          refine r_getfield clX9 2 (by decide) fl_X9_13 hm.o rfl dX9_undo_50 ?_
          refine r_sipush dX9_undo_53 (by decide) ?_
          refine r_aload_n dX9_undo_56 rfl ?_
          refine r_getfield clX9 1 (by decide) fl_X9_38 hm.o rfl dX9_undo_57 ?_
          refine r_imul dX9_undo_60 ?_
          refine r_iload_n dX9_undo_61 rfl ?_
          refine r_iadd dX9_undo_62 ?_
          refine r_iaload hm.h (by omega) (by omega) (by omega) dX9_undo_63 ?_
          refine r_iastore hm.z (by omega) (by omega) (by omega) dX9_undo_64 ?_
          refine hm.w_z hi (fun Mx hm => ?_)
          refine r_iinc dX9_undo_65 rfl rfl ?_
          refine r_goto (tgt := 37) dX9_undo_68 (by decide) ?_
          refine J.loc (lsub_cons rfl (lsub_cons rfl (lsub_nil))) (ih37 _ _ (uI z1 i (hA (246 * (m - 1) + i))) ?_ ?_)
          · refine ⟨by omega, by omega, hm, fun q x y => ?_⟩
            by_cases e : q = i
            · rw [e, uI_s]
            · rw [uI_n _ e]; exact hz1 q x (by omega)
          · omega
      · exact ⟨by omega, by omega, hm, fun q x y => by omega⟩
    · omega

theorem mX9_undo {M0 M : Mem} {ad : Int → Nat} {n : Int → Int} {F : Int → Int → Int} {g : Int → Int} {m : Int} {S : Int → Sg3} {len : Int} {c : Int → Int} {th : Int} (hR : RS M0 M ad (n, F, g) m S len c th) (hi : Inj ad) (hv : Vld (n, F, g)) : Ct KX9_undo [.ref (ad 112)] M 0 0 (UR (eB (0 < m) xS) (m - 1) tc1 (fun M2 => RS M0 M2 ad (S (m - 1)) (m - 1) S len c 0) (fun t M2 => RS M0 M2 ad (n, F, g) m S len c t)) := by
  by_cases hc0 : 0 < m
  · skip
    exact mX9_undo_ok hR hi hv hc0
  · exact mX9_undo_x0 hR hi hv hc0
