/-! the model: its public methods -/
/-- the whole state of the model; th: what it says of throws -/
def RS (M0 M : Mem) (ad : Int → Nat) (σ : Sg3) (m : Int) (S : Int → Sg3) (len : Int) (c : Int → Int) (th : Int) : Prop := ∃ (zA hA tA pA : Int → Int) (rd nu bd sc : Int) (hs : Int64), RQ M0 M ad zA hA tA pA m len th rd nu bd sc hs ∧ Zq zA σ ∧ Hr hA m S ∧ (0 ≤ m ∧ m ≤ 6) ∧ (∀ j, 0 ≤ j → j < len → tA j = c j ∧ 33 ≤ c j ∧ c j ≤ 126) ∧ 0 ≤ len ∧ len ≤ 60
/-- answers z and P, or what is thrown stands in P0 -/
def UR (E : String) (z : Int) (tc : String → Int) (P : Mem → Prop) (P0 : Int → Mem → Prop) : Rs → Mem → Prop := fun r M' => ∃ v : Int, r = .inl (some (vI v)) ∧ (if E = "" then v = z ∧ P M' else P0 (tc E) M')
theorem okUR {E : String} {z v : Int} {tc : String → Int} {P : Mem → Prop} {P0 : Int → Mem → Prop} {M : Mem} (he : E = "") (hv : v = z) (hP : P M) : UR E z tc P P0 (.inl (some (vI v))) M := ⟨v, rfl, by rw [if_pos he]; exact ⟨hv, hP⟩⟩
theorem exUR {E E' : String} {z v t : Int} {tc : String → Int} {P : Mem → Prop} {P0 : Int → Mem → Prop} {M : Mem} (he : E = E') (hne : E' ≠ "") (ht : tc E' = t) (hP : P0 t M) : UR E z tc P P0 (.inl (some (vI v))) M := ⟨v, rfl, by rw [he, if_neg hne, ht]; exact hP⟩
theorem e2_ok {a b : String} (h : a = "") : e2 a b = b := by unfold e2; rw [if_pos h]
theorem e2_x {a b E : String} (h : a = E) (hE : E ≠ "") : e2 a b = E := by unfold e2; rw [h, if_neg hE]
theorem eB_t {b : Prop} [Decidable b] {E : String} (h : b) : eB b E = "" := by unfold eB; rw [if_pos h]
theorem eB_f {b : Prop} [Decidable b] {E : String} (h : ¬ b) : eB b E = E := by unfold eB; rw [if_neg h]
theorem eSet_t {k : Int} (h : 0 ≤ k ∧ k < 4) : eSet k = "" := by unfold eSet; rw [if_pos h]
theorem eSet_f {k : Int} (h : ¬ (0 ≤ k ∧ k < 4)) : eSet k = xI := by unfold eSet; rw [if_neg h]
theorem eStg_t {k : Int} (h : 0 ≤ k ∧ k < 2) : eStg k = "" := by unfold eStg; rw [if_pos h]
theorem eStg_f {k : Int} (h : ¬ (0 ≤ k ∧ k < 2)) : eStg k = xI := by unfold eStg; rw [if_neg h]
def tc3 (E : String) : Int := if E = "" then 0 else if E = xI then 1 else if E = xA then 2 else 3
def tcA (E : String) : Int := if E = "" then 0 else if E = xA then 1 else 2
def tc1 (E : String) : Int := if E = "" then 0 else 1
theorem uI_self {α : Type} (f : Int → α) (k : Int) : uI f k (f k) = f := by
  funext j
  by_cases e : j = k
  · rw [e, uI_s]
  · rw [uI_n _ e]
set_option maxHeartbeats 4000000 in
theorem mX9_has_x0 {M0 M : Mem} {ad : Int → Nat} {n : Int → Int} {F : Int → Int → Int} {g : Int → Int} {m : Int} {S : Int → Sg3} {len : Int} {c : Int → Int} {th : Int} {k x : Int} (hR : RS M0 M ad (n, F, g) m S len c th) (hi : Inj ad) (hv : Vld (n, F, g)) (q0 : R32 k) (q1 : R32 x) (hc0 : ¬ (0 ≤ k ∧ k < 4)) : Ct KX9_has [.ref (ad 112), vI k, vI x] M 0 0 (UR (e2 (eSet k) (eB (0 ≤ x ∧ x ≤ 9999) xA)) (bI (hasF (n k) (F k) x)) tc3 (fun M2 => RS M0 M2 ad (n, F, g) m S len c 0) (fun t M2 => RS M0 M2 ad (n, F, g) m S len c t)) := by
  refine Ct.of _ (by decide) rfl (Nat.le_of_ble_eq_true rfl) ?_
  obtain ⟨zA, hA, tA, pA, rd, nu, bd, sc, hs, ⟨rA, sA, bA, wA, rm, bk, hm⟩, hz, hh, hm6, ht, hl⟩ := hR
  change Zr zA n F g at hz
  obtain ⟨hvs, hv0, hv1, hv2, hv3⟩ := id hv
  dsimp only at hvs hv0 hv1 hv2 hv3
  have hg : (2 ≤ g 0 ∧ g 0 ≤ 16) ∧ 1 ≤ g 1 ∧ g 1 ≤ 9999 := ⟨⟨hv0, hv1⟩, hv2, hv3⟩
  refine r_aload_n dX9_has_0 rfl ?_
  refine r_iload_n dX9_has_1 rfl ?_
  refine r_callS1 okX9_isSet ⟨by decide, by decide⟩ ml_X9_81 (mX9_isSet (v := 0) (by omega) (by first | rw [if_pos (by omega)] | rw [if_neg (by omega)])) (Nat.le_of_ble_eq_true rfl) (Nat.le_of_ble_eq_true rfl) (Nat.le_of_ble_eq_true rfl) rfl dX9_has_2 (nx_I) (kx_I ?_)
  refine r_if_ne (tgt := 12) dX9_has_5 (by decide) (by omega) (fun h5 => ?_) (fun h5 => ?_)
  · omega
  ·
    refine r_iconst dX9_has_8 ?_
    refine r_goto (tgt := 24) dX9_has_9 (by decide) ?_
    refine r_putfield clX9 5 (by decide) fl_X9_34 rfl hm.o rfl rfl (Nat.le_of_ble_eq_true rfl) dX9_has_24 ?_
    refine hm.w_thrown hi (fun Mx hm => ?_)
    refine r_aload_n dX9_has_27 rfl ?_
    refine r_getfield clX9 5 (by decide) fl_X9_34 hm.o rfl dX9_has_28 ?_
    refine r_if_gt (tgt := 43) dX9_has_31 (by decide) (by omega) (fun h31 => ?_) (fun h31 => ?_)
    ·
      refine r_iconst dX9_has_43 ?_
      refine r_goto (tgt := 48) dX9_has_44 (by decide) ?_
      refine e_ireturn dX9_has_48 rfl (Nat.le_of_ble_eq_true rfl) (Nat.le_of_ble_eq_true rfl) ?_
      exact exUR (e2_x (eSet_f hc0) (by decide)) (by decide) (by decide) ⟨_, _, _, _, _, _, _, _, _, hm.q, hz, hh, hm6, ht, hl⟩
    · omega

set_option maxHeartbeats 4000000 in
theorem mX9_has_x1 {M0 M : Mem} {ad : Int → Nat} {n : Int → Int} {F : Int → Int → Int} {g : Int → Int} {m : Int} {S : Int → Sg3} {len : Int} {c : Int → Int} {th : Int} {k x : Int} (hR : RS M0 M ad (n, F, g) m S len c th) (hi : Inj ad) (hv : Vld (n, F, g)) (q0 : R32 k) (q1 : R32 x) (hc0 : 0 ≤ k ∧ k < 4) (hc1 : ¬ (0 ≤ x ∧ x ≤ 9999)) : Ct KX9_has [.ref (ad 112), vI k, vI x] M 0 0 (UR (e2 (eSet k) (eB (0 ≤ x ∧ x ≤ 9999) xA)) (bI (hasF (n k) (F k) x)) tc3 (fun M2 => RS M0 M2 ad (n, F, g) m S len c 0) (fun t M2 => RS M0 M2 ad (n, F, g) m S len c t)) := by
  refine Ct.of _ (by decide) rfl (Nat.le_of_ble_eq_true rfl) ?_
  obtain ⟨zA, hA, tA, pA, rd, nu, bd, sc, hs, ⟨rA, sA, bA, wA, rm, bk, hm⟩, hz, hh, hm6, ht, hl⟩ := hR
  change Zr zA n F g at hz
  obtain ⟨hvs, hv0, hv1, hv2, hv3⟩ := id hv
  dsimp only at hvs hv0 hv1 hv2 hv3
  have hg : (2 ≤ g 0 ∧ g 0 ≤ 16) ∧ 1 ≤ g 1 ∧ g 1 ≤ 9999 := ⟨⟨hv0, hv1⟩, hv2, hv3⟩
  refine r_aload_n dX9_has_0 rfl ?_
  refine r_iload_n dX9_has_1 rfl ?_
  refine r_callS1 okX9_isSet ⟨by decide, by decide⟩ ml_X9_81 (mX9_isSet (v := 1) (by omega) (by first | rw [if_pos (by omega)] | rw [if_neg (by omega)])) (Nat.le_of_ble_eq_true rfl) (Nat.le_of_ble_eq_true rfl) (Nat.le_of_ble_eq_true rfl) rfl dX9_has_2 (nx_I) (kx_I ?_)
  refine r_if_ne (tgt := 12) dX9_has_5 (by decide) (by omega) (fun h5 => ?_) (fun h5 => ?_)
  ·
    refine r_iload_n dX9_has_12 rfl ?_
    refine r_callS1 okX9_isNumber ⟨by decide, by decide⟩ ml_X9_85 (mX9_isNumber (v := 0) (by omega) (by first | rw [if_pos (by omega)] | rw [if_neg (by omega)])) (Nat.le_of_ble_eq_true rfl) (Nat.le_of_ble_eq_true rfl) (Nat.le_of_ble_eq_true rfl) rfl dX9_has_13 (nx_I) (kx_I ?_)
    refine r_if_eq (tgt := 23) dX9_has_16 (by decide) (by omega) (fun h16 => ?_) (fun h16 => ?_)
    ·
      refine r_iconst dX9_has_23 ?_
      refine r_putfield clX9 5 (by decide) fl_X9_34 rfl hm.o rfl rfl (Nat.le_of_ble_eq_true rfl) dX9_has_24 ?_
      refine hm.w_thrown hi (fun Mx hm => ?_)
      refine r_aload_n dX9_has_27 rfl ?_
      refine r_getfield clX9 5 (by decide) fl_X9_34 hm.o rfl dX9_has_28 ?_
      refine r_if_gt (tgt := 43) dX9_has_31 (by decide) (by omega) (fun h31 => ?_) (fun h31 => ?_)
      ·
        refine r_iconst dX9_has_43 ?_
        refine r_goto (tgt := 48) dX9_has_44 (by decide) ?_
        refine e_ireturn dX9_has_48 rfl (Nat.le_of_ble_eq_true rfl) (Nat.le_of_ble_eq_true rfl) ?_
        exact exUR ((e2_ok (eSet_t hc0)).trans (eB_f hc1)) (by decide) (by decide) ⟨_, _, _, _, _, _, _, _, _, hm.q, hz, hh, hm6, ht, hl⟩
      · omega
    · omega
  · omega

set_option maxHeartbeats 4000000 in
theorem mX9_has_ok {M0 M : Mem} {ad : Int → Nat} {n : Int → Int} {F : Int → Int → Int} {g : Int → Int} {m : Int} {S : Int → Sg3} {len : Int} {c : Int → Int} {th : Int} {k x : Int} (hR : RS M0 M ad (n, F, g) m S len c th) (hi : Inj ad) (hv : Vld (n, F, g)) (q0 : R32 k) (q1 : R32 x) (hc0 : 0 ≤ k ∧ k < 4) (hc1 : 0 ≤ x ∧ x ≤ 9999) : Ct KX9_has [.ref (ad 112), vI k, vI x] M 0 0 (UR (e2 (eSet k) (eB (0 ≤ x ∧ x ≤ 9999) xA)) (bI (hasF (n k) (F k) x)) tc3 (fun M2 => RS M0 M2 ad (n, F, g) m S len c 0) (fun t M2 => RS M0 M2 ad (n, F, g) m S len c t)) := by
  refine Ct.of _ (by decide) rfl (Nat.le_of_ble_eq_true rfl) ?_
  obtain ⟨zA, hA, tA, pA, rd, nu, bd, sc, hs, ⟨rA, sA, bA, wA, rm, bk, hm⟩, hz, hh, hm6, ht, hl⟩ := hR
  change Zr zA n F g at hz
  obtain ⟨hvs, hv0, hv1, hv2, hv3⟩ := id hv
  dsimp only at hvs hv0 hv1 hv2 hv3
  have hg : (2 ≤ g 0 ∧ g 0 ≤ 16) ∧ 1 ≤ g 1 ∧ g 1 ≤ 9999 := ⟨⟨hv0, hv1⟩, hv2, hv3⟩
  refine r_aload_n dX9_has_0 rfl ?_
  refine r_iload_n dX9_has_1 rfl ?_
  refine r_callS1 okX9_isSet ⟨by decide, by decide⟩ ml_X9_81 (mX9_isSet (v := 1) (by omega) (by first | rw [if_pos (by omega)] | rw [if_neg (by omega)])) (Nat.le_of_ble_eq_true rfl) (Nat.le_of_ble_eq_true rfl) (Nat.le_of_ble_eq_true rfl) rfl dX9_has_2 (nx_I) (kx_I ?_)
  refine r_if_ne (tgt := 12) dX9_has_5 (by decide) (by omega) (fun h5 => ?_) (fun h5 => ?_)
  ·
    refine r_iload_n dX9_has_12 rfl ?_
    refine r_callS1 okX9_isNumber ⟨by decide, by decide⟩ ml_X9_85 (mX9_isNumber (v := 1) (by omega) (by first | rw [if_pos (by omega)] | rw [if_neg (by omega)])) (Nat.le_of_ble_eq_true rfl) (Nat.le_of_ble_eq_true rfl) (Nat.le_of_ble_eq_true rfl) rfl dX9_has_13 (nx_I) (kx_I ?_)
    refine r_if_eq (tgt := 23) dX9_has_16 (by decide) (by omega) (fun h16 => ?_) (fun h16 => ?_)
    · omega
    ·
      refine r_iconst dX9_has_19 ?_
      refine r_goto (tgt := 24) dX9_has_20 (by decide) ?_
      refine r_putfield clX9 5 (by decide) fl_X9_34 rfl hm.o rfl rfl (Nat.le_of_ble_eq_true rfl) dX9_has_24 ?_
      refine hm.w_thrown hi (fun Mx hm => ?_)
      refine r_aload_n dX9_has_27 rfl ?_
      refine r_getfield clX9 5 (by decide) fl_X9_34 hm.o rfl dX9_has_28 ?_
      refine r_if_gt (tgt := 43) dX9_has_31 (by decide) (by omega) (fun h31 => ?_) (fun h31 => ?_)
      · omega
      ·
        refine r_aload_n dX9_has_34 rfl ?_
        refine r_iload_n dX9_has_35 rfl ?_
        refine r_iload_n dX9_has_36 rfl ?_
        refine r_callV2 okX9_isMember ⟨by decide, by decide⟩ ml_X9_88 (mX9_isMember hm hz (by omega) (by omega) (by omega) rfl) hm.o rfl rfl (Nat.le_of_ble_eq_true rfl) (Nat.le_of_ble_eq_true rfl) (Nat.le_of_ble_eq_true rfl) rfl dX9_has_37 (nx_I) (kx_I ?_)
        have hbb := bI_r (hasF (n k) (F k) x)
        refine r_if_ne (tgt := 47) dX9_has_40 (by decide) (by omega) (fun h40 => ?_) (fun h40 => ?_)
        ·
          refine r_iconst dX9_has_47 ?_
          refine e_ireturn dX9_has_48 rfl (Nat.le_of_ble_eq_true rfl) (Nat.le_of_ble_eq_true rfl) ?_
          exact okUR ((e2_ok (eSet_t hc0)).trans (eB_t hc1)) (by rw [bI_t h40]; rfl) ⟨_, _, _, _, _, _, _, _, _, hm.q, hz, hh, hm6, ht, hl⟩
        ·
          refine r_iconst dX9_has_43 ?_
          refine r_goto (tgt := 48) dX9_has_44 (by decide) ?_
          refine e_ireturn dX9_has_48 rfl (Nat.le_of_ble_eq_true rfl) (Nat.le_of_ble_eq_true rfl) ?_
          exact okUR ((e2_ok (eSet_t hc0)).trans (eB_t hc1)) h40.symm ⟨_, _, _, _, _, _, _, _, _, hm.q, hz, hh, hm6, ht, hl⟩
  · omega

theorem mX9_has {M0 M : Mem} {ad : Int → Nat} {n : Int → Int} {F : Int → Int → Int} {g : Int → Int} {m : Int} {S : Int → Sg3} {len : Int} {c : Int → Int} {th : Int} {k x : Int} (hR : RS M0 M ad (n, F, g) m S len c th) (hi : Inj ad) (hv : Vld (n, F, g)) (q0 : R32 k) (q1 : R32 x) : Ct KX9_has [.ref (ad 112), vI k, vI x] M 0 0 (UR (e2 (eSet k) (eB (0 ≤ x ∧ x ≤ 9999) xA)) (bI (hasF (n k) (F k) x)) tc3 (fun M2 => RS M0 M2 ad (n, F, g) m S len c 0) (fun t M2 => RS M0 M2 ad (n, F, g) m S len c t)) := by
  by_cases hc0 : 0 ≤ k ∧ k < 4
  · skip
    by_cases hc1 : 0 ≤ x ∧ x ≤ 9999
    · skip
      exact mX9_has_ok hR hi hv q0 q1 hc0 hc1
    · exact mX9_has_x1 hR hi hv q0 q1 hc0 hc1
  · exact mX9_has_x0 hR hi hv q0 q1 hc0

set_option maxHeartbeats 4000000 in
theorem mX9_member_x0 {M0 M : Mem} {ad : Int → Nat} {n : Int → Int} {F : Int → Int → Int} {g : Int → Int} {m : Int} {S : Int → Sg3} {len : Int} {c : Int → Int} {th : Int} {k p : Int} (hR : RS M0 M ad (n, F, g) m S len c th) (hi : Inj ad) (hv : Vld (n, F, g)) (q0 : R32 k) (q1 : R32 p) (hc0 : ¬ (0 ≤ k ∧ k < 4)) : Ct KX9_member [.ref (ad 112), vI k, vI p] M 0 0 (UR (e2 (eSet k) (eB (0 ≤ p) xA)) (atF (n k) (F k) p) tc3 (fun M2 => RS M0 M2 ad (n, F, g) m S len c 0) (fun t M2 => RS M0 M2 ad (n, F, g) m S len c t)) := by
  refine Ct.of _ (by decide) rfl (Nat.le_of_ble_eq_true rfl) ?_
  obtain ⟨zA, hA, tA, pA, rd, nu, bd, sc, hs, ⟨rA, sA, bA, wA, rm, bk, hm⟩, hz, hh, hm6, ht, hl⟩ := hR
  change Zr zA n F g at hz
  obtain ⟨hvs, hv0, hv1, hv2, hv3⟩ := id hv
  dsimp only at hvs hv0 hv1 hv2 hv3
  have hg : (2 ≤ g 0 ∧ g 0 ≤ 16) ∧ 1 ≤ g 1 ∧ g 1 ≤ 9999 := ⟨⟨hv0, hv1⟩, hv2, hv3⟩
  refine r_aload_n dX9_member_0 rfl ?_
  refine r_iload_n dX9_member_1 rfl ?_
  refine r_callS1 okX9_isSet ⟨by decide, by decide⟩ ml_X9_81 (mX9_isSet (v := 0) (by omega) (by first | rw [if_pos (by omega)] | rw [if_neg (by omega)])) (Nat.le_of_ble_eq_true rfl) (Nat.le_of_ble_eq_true rfl) (Nat.le_of_ble_eq_true rfl) rfl dX9_member_2 (nx_I) (kx_I ?_)
  refine r_if_ne (tgt := 12) dX9_member_5 (by decide) (by omega) (fun h5 => ?_) (fun h5 => ?_)
  · omega
  ·
    refine r_iconst dX9_member_8 ?_
    refine r_goto (tgt := 21) dX9_member_9 (by decide) ?_
    refine r_putfield clX9 5 (by decide) fl_X9_34 rfl hm.o rfl rfl (Nat.le_of_ble_eq_true rfl) dX9_member_21 ?_
    refine hm.w_thrown hi (fun Mx hm => ?_)
    refine r_aload_n dX9_member_24 rfl ?_
    refine r_getfield clX9 5 (by decide) fl_X9_34 hm.o rfl dX9_member_25 ?_
    refine r_if_le (tgt := 35) dX9_member_28 (by decide) (by omega) (fun h28 => ?_) (fun h28 => ?_)
    · omega
    ·
      refine r_iconst dX9_member_31 ?_
      refine r_goto (tgt := 54) dX9_member_32 (by decide) ?_
      refine e_ireturn dX9_member_54 rfl (Nat.le_of_ble_eq_true rfl) (Nat.le_of_ble_eq_true rfl) ?_
      exact exUR (e2_x (eSet_f hc0) (by decide)) (by decide) (by decide) ⟨_, _, _, _, _, _, _, _, _, hm.q, hz, hh, hm6, ht, hl⟩

set_option maxHeartbeats 4000000 in
theorem mX9_member_x1 {M0 M : Mem} {ad : Int → Nat} {n : Int → Int} {F : Int → Int → Int} {g : Int → Int} {m : Int} {S : Int → Sg3} {len : Int} {c : Int → Int} {th : Int} {k p : Int} (hR : RS M0 M ad (n, F, g) m S len c th) (hi : Inj ad) (hv : Vld (n, F, g)) (q0 : R32 k) (q1 : R32 p) (hc0 : 0 ≤ k ∧ k < 4) (hc1 : ¬ (0 ≤ p)) : Ct KX9_member [.ref (ad 112), vI k, vI p] M 0 0 (UR (e2 (eSet k) (eB (0 ≤ p) xA)) (atF (n k) (F k) p) tc3 (fun M2 => RS M0 M2 ad (n, F, g) m S len c 0) (fun t M2 => RS M0 M2 ad (n, F, g) m S len c t)) := by
  refine Ct.of _ (by decide) rfl (Nat.le_of_ble_eq_true rfl) ?_
  obtain ⟨zA, hA, tA, pA, rd, nu, bd, sc, hs, ⟨rA, sA, bA, wA, rm, bk, hm⟩, hz, hh, hm6, ht, hl⟩ := hR
  change Zr zA n F g at hz
  obtain ⟨hvs, hv0, hv1, hv2, hv3⟩ := id hv
  dsimp only at hvs hv0 hv1 hv2 hv3
  have hg : (2 ≤ g 0 ∧ g 0 ≤ 16) ∧ 1 ≤ g 1 ∧ g 1 ≤ 9999 := ⟨⟨hv0, hv1⟩, hv2, hv3⟩
  refine r_aload_n dX9_member_0 rfl ?_
  refine r_iload_n dX9_member_1 rfl ?_
  refine r_callS1 okX9_isSet ⟨by decide, by decide⟩ ml_X9_81 (mX9_isSet (v := 1) (by omega) (by first | rw [if_pos (by omega)] | rw [if_neg (by omega)])) (Nat.le_of_ble_eq_true rfl) (Nat.le_of_ble_eq_true rfl) (Nat.le_of_ble_eq_true rfl) rfl dX9_member_2 (nx_I) (kx_I ?_)
  refine r_if_ne (tgt := 12) dX9_member_5 (by decide) (by omega) (fun h5 => ?_) (fun h5 => ?_)
  ·
    refine r_iload_n dX9_member_12 rfl ?_
    refine r_if_ge (tgt := 20) dX9_member_13 (by decide) (by omega) (fun h13 => ?_) (fun h13 => ?_)
    · omega
    ·
      refine r_iconst dX9_member_16 ?_
      refine r_goto (tgt := 21) dX9_member_17 (by decide) ?_
      refine r_putfield clX9 5 (by decide) fl_X9_34 rfl hm.o rfl rfl (Nat.le_of_ble_eq_true rfl) dX9_member_21 ?_
      refine hm.w_thrown hi (fun Mx hm => ?_)
      refine r_aload_n dX9_member_24 rfl ?_
      refine r_getfield clX9 5 (by decide) fl_X9_34 hm.o rfl dX9_member_25 ?_
      refine r_if_le (tgt := 35) dX9_member_28 (by decide) (by omega) (fun h28 => ?_) (fun h28 => ?_)
      · omega
      ·
        refine r_iconst dX9_member_31 ?_
        refine r_goto (tgt := 54) dX9_member_32 (by decide) ?_
        refine e_ireturn dX9_member_54 rfl (Nat.le_of_ble_eq_true rfl) (Nat.le_of_ble_eq_true rfl) ?_
        exact exUR ((e2_ok (eSet_t hc0)).trans (eB_f hc1)) (by decide) (by decide) ⟨_, _, _, _, _, _, _, _, _, hm.q, hz, hh, hm6, ht, hl⟩
  · omega

set_option maxHeartbeats 4000000 in
theorem mX9_member_ok {M0 M : Mem} {ad : Int → Nat} {n : Int → Int} {F : Int → Int → Int} {g : Int → Int} {m : Int} {S : Int → Sg3} {len : Int} {c : Int → Int} {th : Int} {k p : Int} (hR : RS M0 M ad (n, F, g) m S len c th) (hi : Inj ad) (hv : Vld (n, F, g)) (q0 : R32 k) (q1 : R32 p) (hc0 : 0 ≤ k ∧ k < 4) (hc1 : 0 ≤ p) : Ct KX9_member [.ref (ad 112), vI k, vI p] M 0 0 (UR (e2 (eSet k) (eB (0 ≤ p) xA)) (atF (n k) (F k) p) tc3 (fun M2 => RS M0 M2 ad (n, F, g) m S len c 0) (fun t M2 => RS M0 M2 ad (n, F, g) m S len c t)) := by
  refine Ct.of _ (by decide) rfl (Nat.le_of_ble_eq_true rfl) ?_
  obtain ⟨zA, hA, tA, pA, rd, nu, bd, sc, hs, ⟨rA, sA, bA, wA, rm, bk, hm⟩, hz, hh, hm6, ht, hl⟩ := hR
  change Zr zA n F g at hz
  obtain ⟨hvs, hv0, hv1, hv2, hv3⟩ := id hv
  dsimp only at hvs hv0 hv1 hv2 hv3
  have hg : (2 ≤ g 0 ∧ g 0 ≤ 16) ∧ 1 ≤ g 1 ∧ g 1 ≤ 9999 := ⟨⟨hv0, hv1⟩, hv2, hv3⟩
  refine r_aload_n dX9_member_0 rfl ?_
  refine r_iload_n dX9_member_1 rfl ?_
  refine r_callS1 okX9_isSet ⟨by decide, by decide⟩ ml_X9_81 (mX9_isSet (v := 1) (by omega) (by first | rw [if_pos (by omega)] | rw [if_neg (by omega)])) (Nat.le_of_ble_eq_true rfl) (Nat.le_of_ble_eq_true rfl) (Nat.le_of_ble_eq_true rfl) rfl dX9_member_2 (nx_I) (kx_I ?_)
  refine r_if_ne (tgt := 12) dX9_member_5 (by decide) (by omega) (fun h5 => ?_) (fun h5 => ?_)
  ·
    refine r_iload_n dX9_member_12 rfl ?_
    refine r_if_ge (tgt := 20) dX9_member_13 (by decide) (by omega) (fun h13 => ?_) (fun h13 => ?_)
    ·
      refine r_iconst dX9_member_20 ?_
      refine r_putfield clX9 5 (by decide) fl_X9_34 rfl hm.o rfl rfl (Nat.le_of_ble_eq_true rfl) dX9_member_21 ?_
      refine hm.w_thrown hi (fun Mx hm => ?_)
      refine r_aload_n dX9_member_24 rfl ?_
      refine r_getfield clX9 5 (by decide) fl_X9_34 hm.o rfl dX9_member_25 ?_
      refine r_if_le (tgt := 35) dX9_member_28 (by decide) (by omega) (fun h28 => ?_) (fun h28 => ?_)
      ·
        refine r_iload_n dX9_member_35 rfl ?_
        refine r_aload_n dX9_member_36 rfl ?_
        refine r_iload_n dX9_member_37 rfl ?_
        refine r_callV1 okX9_many ⟨by decide, by decide⟩ ml_X9_45 (mX9_many hm hz (by omega) (by omega)) hm.o rfl rfl (Nat.le_of_ble_eq_true rfl) (Nat.le_of_ble_eq_true rfl) (Nat.le_of_ble_eq_true rfl) rfl dX9_member_38 (nx_I) (kx_I ?_)
        have hzn := hz.n hc0.1 hc0.2
        refine r_icmp_ge (tgt := 53) dX9_member_41 (by decide) (by omega) (by omega) (fun h41 => ?_) (fun h41 => ?_)
        ·
          refine r_iconst dX9_member_53 ?_
          refine e_ireturn dX9_member_54 rfl (Nat.le_of_ble_eq_true rfl) (Nat.le_of_ble_eq_true rfl) ?_
          exact okUR ((e2_ok (eSet_t hc0)).trans (eB_t hc1)) (atF_out (by omega)).symm ⟨_, _, _, _, _, _, _, _, _, hm.q, hz, hh, hm6, ht, hl⟩
        ·
          refine r_aload_n dX9_member_44 rfl ?_
          refine r_iload_n dX9_member_45 rfl ?_
          refine r_iload_n dX9_member_46 rfl ?_
          refine r_callV2 okX9_at ⟨by decide, by decide⟩ ml_X9_49 (mX9_at hm hz (by omega) (by omega) (by omega) (by omega)) hm.o rfl rfl (Nat.le_of_ble_eq_true rfl) (Nat.le_of_ble_eq_true rfl) (Nat.le_of_ble_eq_true rfl) rfl dX9_member_47 (nx_I) (kx_I ?_)
          refine r_goto (tgt := 54) dX9_member_50 (by decide) ?_
          refine e_ireturn dX9_member_54 rfl (Nat.le_of_ble_eq_true rfl) (Nat.le_of_ble_eq_true rfl) ?_
          exact okUR ((e2_ok (eSet_t hc0)).trans (eB_t hc1)) (atF_in (by omega) (by omega)).symm ⟨_, _, _, _, _, _, _, _, _, hm.q, hz, hh, hm6, ht, hl⟩
      · omega
    · omega
  · omega

theorem mX9_member {M0 M : Mem} {ad : Int → Nat} {n : Int → Int} {F : Int → Int → Int} {g : Int → Int} {m : Int} {S : Int → Sg3} {len : Int} {c : Int → Int} {th : Int} {k p : Int} (hR : RS M0 M ad (n, F, g) m S len c th) (hi : Inj ad) (hv : Vld (n, F, g)) (q0 : R32 k) (q1 : R32 p) : Ct KX9_member [.ref (ad 112), vI k, vI p] M 0 0 (UR (e2 (eSet k) (eB (0 ≤ p) xA)) (atF (n k) (F k) p) tc3 (fun M2 => RS M0 M2 ad (n, F, g) m S len c 0) (fun t M2 => RS M0 M2 ad (n, F, g) m S len c t)) := by
  by_cases hc0 : 0 ≤ k ∧ k < 4
  · skip
    by_cases hc1 : 0 ≤ p
    · skip
      exact mX9_member_ok hR hi hv q0 q1 hc0 hc1
    · exact mX9_member_x1 hR hi hv q0 q1 hc0 hc1
  · exact mX9_member_x0 hR hi hv q0 q1 hc0

set_option maxHeartbeats 4000000 in
theorem mX9_less_x0 {M0 M : Mem} {ad : Int → Nat} {n : Int → Int} {F : Int → Int → Int} {g : Int → Int} {m : Int} {S : Int → Sg3} {len : Int} {c : Int → Int} {th : Int} {k x : Int} (hR : RS M0 M ad (n, F, g) m S len c th) (hi : Inj ad) (hv : Vld (n, F, g)) (q0 : R32 k) (q1 : R32 x) (hc0 : ¬ (0 ≤ k ∧ k < 4)) : Ct KX9_less [.ref (ad 112), vI k, vI x] M 0 0 (UR (e2 (eSet k) (eB (0 ≤ x ∧ x ≤ 9999) xA)) (plc (n k) (F k) x) tc3 (fun M2 => RS M0 M2 ad (n, F, g) m S len c 0) (fun t M2 => RS M0 M2 ad (n, F, g) m S len c t)) := by
  refine Ct.of _ (by decide) rfl (Nat.le_of_ble_eq_true rfl) ?_
  obtain ⟨zA, hA, tA, pA, rd, nu, bd, sc, hs, ⟨rA, sA, bA, wA, rm, bk, hm⟩, hz, hh, hm6, ht, hl⟩ := hR
  change Zr zA n F g at hz
  obtain ⟨hvs, hv0, hv1, hv2, hv3⟩ := id hv
  dsimp only at hvs hv0 hv1 hv2 hv3
  have hg : (2 ≤ g 0 ∧ g 0 ≤ 16) ∧ 1 ≤ g 1 ∧ g 1 ≤ 9999 := ⟨⟨hv0, hv1⟩, hv2, hv3⟩
  refine r_aload_n dX9_less_0 rfl ?_
  refine r_iload_n dX9_less_1 rfl ?_
  refine r_callS1 okX9_isSet ⟨by decide, by decide⟩ ml_X9_81 (mX9_isSet (v := 0) (by omega) (by first | rw [if_pos (by omega)] | rw [if_neg (by omega)])) (Nat.le_of_ble_eq_true rfl) (Nat.le_of_ble_eq_true rfl) (Nat.le_of_ble_eq_true rfl) rfl dX9_less_2 (nx_I) (kx_I ?_)
  refine r_if_ne (tgt := 12) dX9_less_5 (by decide) (by omega) (fun h5 => ?_) (fun h5 => ?_)
  · omega
  ·
    refine r_iconst dX9_less_8 ?_
    refine r_goto (tgt := 24) dX9_less_9 (by decide) ?_
    refine r_putfield clX9 5 (by decide) fl_X9_34 rfl hm.o rfl rfl (Nat.le_of_ble_eq_true rfl) dX9_less_24 ?_
    refine hm.w_thrown hi (fun Mx hm => ?_)
    refine r_aload_n dX9_less_27 rfl ?_
    refine r_getfield clX9 5 (by decide) fl_X9_34 hm.o rfl dX9_less_28 ?_
    refine r_if_le (tgt := 38) dX9_less_31 (by decide) (by omega) (fun h31 => ?_) (fun h31 => ?_)
    · omega
    ·
      refine r_iconst dX9_less_34 ?_
      refine r_goto (tgt := 44) dX9_less_35 (by decide) ?_
      refine e_ireturn dX9_less_44 rfl (Nat.le_of_ble_eq_true rfl) (Nat.le_of_ble_eq_true rfl) ?_
      exact exUR (e2_x (eSet_f hc0) (by decide)) (by decide) (by decide) ⟨_, _, _, _, _, _, _, _, _, hm.q, hz, hh, hm6, ht, hl⟩

set_option maxHeartbeats 4000000 in
theorem mX9_less_x1 {M0 M : Mem} {ad : Int → Nat} {n : Int → Int} {F : Int → Int → Int} {g : Int → Int} {m : Int} {S : Int → Sg3} {len : Int} {c : Int → Int} {th : Int} {k x : Int} (hR : RS M0 M ad (n, F, g) m S len c th) (hi : Inj ad) (hv : Vld (n, F, g)) (q0 : R32 k) (q1 : R32 x) (hc0 : 0 ≤ k ∧ k < 4) (hc1 : ¬ (0 ≤ x ∧ x ≤ 9999)) : Ct KX9_less [.ref (ad 112), vI k, vI x] M 0 0 (UR (e2 (eSet k) (eB (0 ≤ x ∧ x ≤ 9999) xA)) (plc (n k) (F k) x) tc3 (fun M2 => RS M0 M2 ad (n, F, g) m S len c 0) (fun t M2 => RS M0 M2 ad (n, F, g) m S len c t)) := by
  refine Ct.of _ (by decide) rfl (Nat.le_of_ble_eq_true rfl) ?_
  obtain ⟨zA, hA, tA, pA, rd, nu, bd, sc, hs, ⟨rA, sA, bA, wA, rm, bk, hm⟩, hz, hh, hm6, ht, hl⟩ := hR
  change Zr zA n F g at hz
  obtain ⟨hvs, hv0, hv1, hv2, hv3⟩ := id hv
  dsimp only at hvs hv0 hv1 hv2 hv3
  have hg : (2 ≤ g 0 ∧ g 0 ≤ 16) ∧ 1 ≤ g 1 ∧ g 1 ≤ 9999 := ⟨⟨hv0, hv1⟩, hv2, hv3⟩
  refine r_aload_n dX9_less_0 rfl ?_
  refine r_iload_n dX9_less_1 rfl ?_
  refine r_callS1 okX9_isSet ⟨by decide, by decide⟩ ml_X9_81 (mX9_isSet (v := 1) (by omega) (by first | rw [if_pos (by omega)] | rw [if_neg (by omega)])) (Nat.le_of_ble_eq_true rfl) (Nat.le_of_ble_eq_true rfl) (Nat.le_of_ble_eq_true rfl) rfl dX9_less_2 (nx_I) (kx_I ?_)
  refine r_if_ne (tgt := 12) dX9_less_5 (by decide) (by omega) (fun h5 => ?_) (fun h5 => ?_)
  ·
    refine r_iload_n dX9_less_12 rfl ?_
    refine r_callS1 okX9_isNumber ⟨by decide, by decide⟩ ml_X9_85 (mX9_isNumber (v := 0) (by omega) (by first | rw [if_pos (by omega)] | rw [if_neg (by omega)])) (Nat.le_of_ble_eq_true rfl) (Nat.le_of_ble_eq_true rfl) (Nat.le_of_ble_eq_true rfl) rfl dX9_less_13 (nx_I) (kx_I ?_)
    refine r_if_eq (tgt := 23) dX9_less_16 (by decide) (by omega) (fun h16 => ?_) (fun h16 => ?_)
    ·
      refine r_iconst dX9_less_23 ?_
      refine r_putfield clX9 5 (by decide) fl_X9_34 rfl hm.o rfl rfl (Nat.le_of_ble_eq_true rfl) dX9_less_24 ?_
      refine hm.w_thrown hi (fun Mx hm => ?_)
      refine r_aload_n dX9_less_27 rfl ?_
      refine r_getfield clX9 5 (by decide) fl_X9_34 hm.o rfl dX9_less_28 ?_
      refine r_if_le (tgt := 38) dX9_less_31 (by decide) (by omega) (fun h31 => ?_) (fun h31 => ?_)
      · omega
      ·
        refine r_iconst dX9_less_34 ?_
        refine r_goto (tgt := 44) dX9_less_35 (by decide) ?_
        refine e_ireturn dX9_less_44 rfl (Nat.le_of_ble_eq_true rfl) (Nat.le_of_ble_eq_true rfl) ?_
        exact exUR ((e2_ok (eSet_t hc0)).trans (eB_f hc1)) (by decide) (by decide) ⟨_, _, _, _, _, _, _, _, _, hm.q, hz, hh, hm6, ht, hl⟩
    · omega
  · omega

set_option maxHeartbeats 4000000 in
theorem mX9_less_ok {M0 M : Mem} {ad : Int → Nat} {n : Int → Int} {F : Int → Int → Int} {g : Int → Int} {m : Int} {S : Int → Sg3} {len : Int} {c : Int → Int} {th : Int} {k x : Int} (hR : RS M0 M ad (n, F, g) m S len c th) (hi : Inj ad) (hv : Vld (n, F, g)) (q0 : R32 k) (q1 : R32 x) (hc0 : 0 ≤ k ∧ k < 4) (hc1 : 0 ≤ x ∧ x ≤ 9999) : Ct KX9_less [.ref (ad 112), vI k, vI x] M 0 0 (UR (e2 (eSet k) (eB (0 ≤ x ∧ x ≤ 9999) xA)) (plc (n k) (F k) x) tc3 (fun M2 => RS M0 M2 ad (n, F, g) m S len c 0) (fun t M2 => RS M0 M2 ad (n, F, g) m S len c t)) := by
  refine Ct.of _ (by decide) rfl (Nat.le_of_ble_eq_true rfl) ?_
  obtain ⟨zA, hA, tA, pA, rd, nu, bd, sc, hs, ⟨rA, sA, bA, wA, rm, bk, hm⟩, hz, hh, hm6, ht, hl⟩ := hR
  change Zr zA n F g at hz
  obtain ⟨hvs, hv0, hv1, hv2, hv3⟩ := id hv
  dsimp only at hvs hv0 hv1 hv2 hv3
  have hg : (2 ≤ g 0 ∧ g 0 ≤ 16) ∧ 1 ≤ g 1 ∧ g 1 ≤ 9999 := ⟨⟨hv0, hv1⟩, hv2, hv3⟩
  refine r_aload_n dX9_less_0 rfl ?_
  refine r_iload_n dX9_less_1 rfl ?_
  refine r_callS1 okX9_isSet ⟨by decide, by decide⟩ ml_X9_81 (mX9_isSet (v := 1) (by omega) (by first | rw [if_pos (by omega)] | rw [if_neg (by omega)])) (Nat.le_of_ble_eq_true rfl) (Nat.le_of_ble_eq_true rfl) (Nat.le_of_ble_eq_true rfl) rfl dX9_less_2 (nx_I) (kx_I ?_)
  refine r_if_ne (tgt := 12) dX9_less_5 (by decide) (by omega) (fun h5 => ?_) (fun h5 => ?_)
  ·
    refine r_iload_n dX9_less_12 rfl ?_
    refine r_callS1 okX9_isNumber ⟨by decide, by decide⟩ ml_X9_85 (mX9_isNumber (v := 1) (by omega) (by first | rw [if_pos (by omega)] | rw [if_neg (by omega)])) (Nat.le_of_ble_eq_true rfl) (Nat.le_of_ble_eq_true rfl) (Nat.le_of_ble_eq_true rfl) rfl dX9_less_13 (nx_I) (kx_I ?_)
    refine r_if_eq (tgt := 23) dX9_less_16 (by decide) (by omega) (fun h16 => ?_) (fun h16 => ?_)
    · omega
    ·
      refine r_iconst dX9_less_19 ?_
      refine r_goto (tgt := 24) dX9_less_20 (by decide) ?_
      refine r_putfield clX9 5 (by decide) fl_X9_34 rfl hm.o rfl rfl (Nat.le_of_ble_eq_true rfl) dX9_less_24 ?_
      refine hm.w_thrown hi (fun Mx hm => ?_)
      refine r_aload_n dX9_less_27 rfl ?_
      refine r_getfield clX9 5 (by decide) fl_X9_34 hm.o rfl dX9_less_28 ?_
      refine r_if_le (tgt := 38) dX9_less_31 (by decide) (by omega) (fun h31 => ?_) (fun h31 => ?_)
      ·
        refine r_aload_n dX9_less_38 rfl ?_
        refine r_iload_n dX9_less_39 rfl ?_
        refine r_iload_n dX9_less_40 rfl ?_
        refine r_callV2 okX9_lessThan ⟨by decide, by decide⟩ ml_X9_53 (mX9_lessThan hm hz (by omega) (by omega) (by omega)) hm.o rfl rfl (Nat.le_of_ble_eq_true rfl) (Nat.le_of_ble_eq_true rfl) (Nat.le_of_ble_eq_true rfl) rfl dX9_less_41 (nx_I) (kx_I ?_)
        refine e_ireturn dX9_less_44 rfl (Nat.le_of_ble_eq_true rfl) (Nat.le_of_ble_eq_true rfl) ?_
        exact okUR ((e2_ok (eSet_t hc0)).trans (eB_t hc1)) rfl ⟨_, _, _, _, _, _, _, _, _, hm.q, hz, hh, hm6, ht, hl⟩
      · omega
  · omega

theorem mX9_less {M0 M : Mem} {ad : Int → Nat} {n : Int → Int} {F : Int → Int → Int} {g : Int → Int} {m : Int} {S : Int → Sg3} {len : Int} {c : Int → Int} {th : Int} {k x : Int} (hR : RS M0 M ad (n, F, g) m S len c th) (hi : Inj ad) (hv : Vld (n, F, g)) (q0 : R32 k) (q1 : R32 x) : Ct KX9_less [.ref (ad 112), vI k, vI x] M 0 0 (UR (e2 (eSet k) (eB (0 ≤ x ∧ x ≤ 9999) xA)) (plc (n k) (F k) x) tc3 (fun M2 => RS M0 M2 ad (n, F, g) m S len c 0) (fun t M2 => RS M0 M2 ad (n, F, g) m S len c t)) := by
  by_cases hc0 : 0 ≤ k ∧ k < 4
  · skip
    by_cases hc1 : 0 ≤ x ∧ x ≤ 9999
    · skip
      exact mX9_less_ok hR hi hv q0 q1 hc0 hc1
    · exact mX9_less_x1 hR hi hv q0 q1 hc0 hc1
  · exact mX9_less_x0 hR hi hv q0 q1 hc0

set_option maxHeartbeats 4000000 in
theorem mX9_nearest_x0 {M0 M : Mem} {ad : Int → Nat} {n : Int → Int} {F : Int → Int → Int} {g : Int → Int} {m : Int} {S : Int → Sg3} {len : Int} {c : Int → Int} {th : Int} {k x : Int} (hR : RS M0 M ad (n, F, g) m S len c th) (hi : Inj ad) (hv : Vld (n, F, g)) (q0 : R32 k) (q1 : R32 x) (hc0 : ¬ (0 ≤ k ∧ k < 4)) : Ct KX9_nearest [.ref (ad 112), vI k, vI x] M 0 0 (UR (e2 (eSet k) (eB (0 ≤ x ∧ x ≤ 9999) xA)) (nrF (n k) (F k) x) tc3 (fun M2 => RS M0 M2 ad (n, F, g) m S len c 0) (fun t M2 => RS M0 M2 ad (n, F, g) m S len c t)) := by
  refine Ct.of _ (by decide) rfl (Nat.le_of_ble_eq_true rfl) ?_
  obtain ⟨zA, hA, tA, pA, rd, nu, bd, sc, hs, ⟨rA, sA, bA, wA, rm, bk, hm⟩, hz, hh, hm6, ht, hl⟩ := hR
  change Zr zA n F g at hz
  obtain ⟨hvs, hv0, hv1, hv2, hv3⟩ := id hv
  dsimp only at hvs hv0 hv1 hv2 hv3
  have hg : (2 ≤ g 0 ∧ g 0 ≤ 16) ∧ 1 ≤ g 1 ∧ g 1 ≤ 9999 := ⟨⟨hv0, hv1⟩, hv2, hv3⟩
  refine r_aload_n dX9_nearest_0 rfl ?_
  refine r_iload_n dX9_nearest_1 rfl ?_
  refine r_callS1 okX9_isSet ⟨by decide, by decide⟩ ml_X9_81 (mX9_isSet (v := 0) (by omega) (by first | rw [if_pos (by omega)] | rw [if_neg (by omega)])) (Nat.le_of_ble_eq_true rfl) (Nat.le_of_ble_eq_true rfl) (Nat.le_of_ble_eq_true rfl) rfl dX9_nearest_2 (nx_I) (kx_I ?_)
  refine r_if_ne (tgt := 12) dX9_nearest_5 (by decide) (by omega) (fun h5 => ?_) (fun h5 => ?_)
  · omega
  ·
    refine r_iconst dX9_nearest_8 ?_
    refine r_goto (tgt := 24) dX9_nearest_9 (by decide) ?_
    refine r_putfield clX9 5 (by decide) fl_X9_34 rfl hm.o rfl rfl (Nat.le_of_ble_eq_true rfl) dX9_nearest_24 ?_
    refine hm.w_thrown hi (fun Mx hm => ?_)
    refine r_aload_n dX9_nearest_27 rfl ?_
    refine r_getfield clX9 5 (by decide) fl_X9_34 hm.o rfl dX9_nearest_28 ?_
    refine r_if_le (tgt := 38) dX9_nearest_31 (by decide) (by omega) (fun h31 => ?_) (fun h31 => ?_)
    · omega
    ·
      refine r_iconst dX9_nearest_34 ?_
      refine r_goto (tgt := 44) dX9_nearest_35 (by decide) ?_
      refine e_ireturn dX9_nearest_44 rfl (Nat.le_of_ble_eq_true rfl) (Nat.le_of_ble_eq_true rfl) ?_
      exact exUR (e2_x (eSet_f hc0) (by decide)) (by decide) (by decide) ⟨_, _, _, _, _, _, _, _, _, hm.q, hz, hh, hm6, ht, hl⟩

set_option maxHeartbeats 4000000 in
theorem mX9_nearest_x1 {M0 M : Mem} {ad : Int → Nat} {n : Int → Int} {F : Int → Int → Int} {g : Int → Int} {m : Int} {S : Int → Sg3} {len : Int} {c : Int → Int} {th : Int} {k x : Int} (hR : RS M0 M ad (n, F, g) m S len c th) (hi : Inj ad) (hv : Vld (n, F, g)) (q0 : R32 k) (q1 : R32 x) (hc0 : 0 ≤ k ∧ k < 4) (hc1 : ¬ (0 ≤ x ∧ x ≤ 9999)) : Ct KX9_nearest [.ref (ad 112), vI k, vI x] M 0 0 (UR (e2 (eSet k) (eB (0 ≤ x ∧ x ≤ 9999) xA)) (nrF (n k) (F k) x) tc3 (fun M2 => RS M0 M2 ad (n, F, g) m S len c 0) (fun t M2 => RS M0 M2 ad (n, F, g) m S len c t)) := by
  refine Ct.of _ (by decide) rfl (Nat.le_of_ble_eq_true rfl) ?_
  obtain ⟨zA, hA, tA, pA, rd, nu, bd, sc, hs, ⟨rA, sA, bA, wA, rm, bk, hm⟩, hz, hh, hm6, ht, hl⟩ := hR
  change Zr zA n F g at hz
  obtain ⟨hvs, hv0, hv1, hv2, hv3⟩ := id hv
  dsimp only at hvs hv0 hv1 hv2 hv3
  have hg : (2 ≤ g 0 ∧ g 0 ≤ 16) ∧ 1 ≤ g 1 ∧ g 1 ≤ 9999 := ⟨⟨hv0, hv1⟩, hv2, hv3⟩
  refine r_aload_n dX9_nearest_0 rfl ?_
  refine r_iload_n dX9_nearest_1 rfl ?_
  refine r_callS1 okX9_isSet ⟨by decide, by decide⟩ ml_X9_81 (mX9_isSet (v := 1) (by omega) (by first | rw [if_pos (by omega)] | rw [if_neg (by omega)])) (Nat.le_of_ble_eq_true rfl) (Nat.le_of_ble_eq_true rfl) (Nat.le_of_ble_eq_true rfl) rfl dX9_nearest_2 (nx_I) (kx_I ?_)
  refine r_if_ne (tgt := 12) dX9_nearest_5 (by decide) (by omega) (fun h5 => ?_) (fun h5 => ?_)
  ·
    refine r_iload_n dX9_nearest_12 rfl ?_
    refine r_callS1 okX9_isNumber ⟨by decide, by decide⟩ ml_X9_85 (mX9_isNumber (v := 0) (by omega) (by first | rw [if_pos (by omega)] | rw [if_neg (by omega)])) (Nat.le_of_ble_eq_true rfl) (Nat.le_of_ble_eq_true rfl) (Nat.le_of_ble_eq_true rfl) rfl dX9_nearest_13 (nx_I) (kx_I ?_)
    refine r_if_eq (tgt := 23) dX9_nearest_16 (by decide) (by omega) (fun h16 => ?_) (fun h16 => ?_)
    ·
      refine r_iconst dX9_nearest_23 ?_
      refine r_putfield clX9 5 (by decide) fl_X9_34 rfl hm.o rfl rfl (Nat.le_of_ble_eq_true rfl) dX9_nearest_24 ?_
      refine hm.w_thrown hi (fun Mx hm => ?_)
      refine r_aload_n dX9_nearest_27 rfl ?_
      refine r_getfield clX9 5 (by decide) fl_X9_34 hm.o rfl dX9_nearest_28 ?_
      refine r_if_le (tgt := 38) dX9_nearest_31 (by decide) (by omega) (fun h31 => ?_) (fun h31 => ?_)
      · omega
      ·
        refine r_iconst dX9_nearest_34 ?_
        refine r_goto (tgt := 44) dX9_nearest_35 (by decide) ?_
        refine e_ireturn dX9_nearest_44 rfl (Nat.le_of_ble_eq_true rfl) (Nat.le_of_ble_eq_true rfl) ?_
        exact exUR ((e2_ok (eSet_t hc0)).trans (eB_f hc1)) (by decide) (by decide) ⟨_, _, _, _, _, _, _, _, _, hm.q, hz, hh, hm6, ht, hl⟩
    · omega
  · omega

set_option maxHeartbeats 4000000 in
theorem mX9_nearest_ok {M0 M : Mem} {ad : Int → Nat} {n : Int → Int} {F : Int → Int → Int} {g : Int → Int} {m : Int} {S : Int → Sg3} {len : Int} {c : Int → Int} {th : Int} {k x : Int} (hR : RS M0 M ad (n, F, g) m S len c th) (hi : Inj ad) (hv : Vld (n, F, g)) (q0 : R32 k) (q1 : R32 x) (hc0 : 0 ≤ k ∧ k < 4) (hc1 : 0 ≤ x ∧ x ≤ 9999) : Ct KX9_nearest [.ref (ad 112), vI k, vI x] M 0 0 (UR (e2 (eSet k) (eB (0 ≤ x ∧ x ≤ 9999) xA)) (nrF (n k) (F k) x) tc3 (fun M2 => RS M0 M2 ad (n, F, g) m S len c 0) (fun t M2 => RS M0 M2 ad (n, F, g) m S len c t)) := by
  refine Ct.of _ (by decide) rfl (Nat.le_of_ble_eq_true rfl) ?_
  obtain ⟨zA, hA, tA, pA, rd, nu, bd, sc, hs, ⟨rA, sA, bA, wA, rm, bk, hm⟩, hz, hh, hm6, ht, hl⟩ := hR
  change Zr zA n F g at hz
  obtain ⟨hvs, hv0, hv1, hv2, hv3⟩ := id hv
  dsimp only at hvs hv0 hv1 hv2 hv3
  have hg : (2 ≤ g 0 ∧ g 0 ≤ 16) ∧ 1 ≤ g 1 ∧ g 1 ≤ 9999 := ⟨⟨hv0, hv1⟩, hv2, hv3⟩
  refine r_aload_n dX9_nearest_0 rfl ?_
  refine r_iload_n dX9_nearest_1 rfl ?_
  refine r_callS1 okX9_isSet ⟨by decide, by decide⟩ ml_X9_81 (mX9_isSet (v := 1) (by omega) (by first | rw [if_pos (by omega)] | rw [if_neg (by omega)])) (Nat.le_of_ble_eq_true rfl) (Nat.le_of_ble_eq_true rfl) (Nat.le_of_ble_eq_true rfl) rfl dX9_nearest_2 (nx_I) (kx_I ?_)
  refine r_if_ne (tgt := 12) dX9_nearest_5 (by decide) (by omega) (fun h5 => ?_) (fun h5 => ?_)
  ·
    refine r_iload_n dX9_nearest_12 rfl ?_
    refine r_callS1 okX9_isNumber ⟨by decide, by decide⟩ ml_X9_85 (mX9_isNumber (v := 1) (by omega) (by first | rw [if_pos (by omega)] | rw [if_neg (by omega)])) (Nat.le_of_ble_eq_true rfl) (Nat.le_of_ble_eq_true rfl) (Nat.le_of_ble_eq_true rfl) rfl dX9_nearest_13 (nx_I) (kx_I ?_)
    refine r_if_eq (tgt := 23) dX9_nearest_16 (by decide) (by omega) (fun h16 => ?_) (fun h16 => ?_)
    · omega
    ·
      refine r_iconst dX9_nearest_19 ?_
      refine r_goto (tgt := 24) dX9_nearest_20 (by decide) ?_
      refine r_putfield clX9 5 (by decide) fl_X9_34 rfl hm.o rfl rfl (Nat.le_of_ble_eq_true rfl) dX9_nearest_24 ?_
      refine hm.w_thrown hi (fun Mx hm => ?_)
      refine r_aload_n dX9_nearest_27 rfl ?_
      refine r_getfield clX9 5 (by decide) fl_X9_34 hm.o rfl dX9_nearest_28 ?_
      refine r_if_le (tgt := 38) dX9_nearest_31 (by decide) (by omega) (fun h31 => ?_) (fun h31 => ?_)
      ·
        refine r_aload_n dX9_nearest_38 rfl ?_
        refine r_iload_n dX9_nearest_39 rfl ?_
        refine r_iload_n dX9_nearest_40 rfl ?_
        refine r_callV2 okX9_nearestTo ⟨by decide, by decide⟩ ml_X9_165 (mX9_nearestTo hm hz (by omega) (by omega) (hvs k (by omega) (by omega)) (by omega)) hm.o rfl rfl (Nat.le_of_ble_eq_true rfl) (Nat.le_of_ble_eq_true rfl) (Nat.le_of_ble_eq_true rfl) rfl dX9_nearest_41 (nx_I) (kx_I ?_)
        refine e_ireturn dX9_nearest_44 rfl (Nat.le_of_ble_eq_true rfl) (Nat.le_of_ble_eq_true rfl) ?_
        exact okUR ((e2_ok (eSet_t hc0)).trans (eB_t hc1)) rfl ⟨_, _, _, _, _, _, _, _, _, hm.q, hz, hh, hm6, ht, hl⟩
      · omega
  · omega

theorem mX9_nearest {M0 M : Mem} {ad : Int → Nat} {n : Int → Int} {F : Int → Int → Int} {g : Int → Int} {m : Int} {S : Int → Sg3} {len : Int} {c : Int → Int} {th : Int} {k x : Int} (hR : RS M0 M ad (n, F, g) m S len c th) (hi : Inj ad) (hv : Vld (n, F, g)) (q0 : R32 k) (q1 : R32 x) : Ct KX9_nearest [.ref (ad 112), vI k, vI x] M 0 0 (UR (e2 (eSet k) (eB (0 ≤ x ∧ x ≤ 9999) xA)) (nrF (n k) (F k) x) tc3 (fun M2 => RS M0 M2 ad (n, F, g) m S len c 0) (fun t M2 => RS M0 M2 ad (n, F, g) m S len c t)) := by
  by_cases hc0 : 0 ≤ k ∧ k < 4
  · skip
    by_cases hc1 : 0 ≤ x ∧ x ≤ 9999
    · skip
      exact mX9_nearest_ok hR hi hv q0 q1 hc0 hc1
    · exact mX9_nearest_x1 hR hi hv q0 q1 hc0 hc1
  · exact mX9_nearest_x0 hR hi hv q0 q1 hc0

set_option maxHeartbeats 4000000 in
theorem mX9_block_x0 {M0 M : Mem} {ad : Int → Nat} {n : Int → Int} {F : Int → Int → Int} {g : Int → Int} {m : Int} {S : Int → Sg3} {len : Int} {c : Int → Int} {th : Int} {k b w : Int} (hR : RS M0 M ad (n, F, g) m S len c th) (hi : Inj ad) (hv : Vld (n, F, g)) (q0 : R32 k) (q1 : R32 b) (q2 : R32 w) (hc0 : ¬ (0 ≤ k ∧ k < 4)) : Ct KX9_block [.ref (ad 112), vI k, vI b, vI w] M 0 0 (UR (e2 (eSet k) (eB (0 ≤ b ∧ (0 ≤ w ∧ w ≤ 5)) xA)) (blkV (n k) (F k) g b w) tc3 (fun M2 => RS M0 M2 ad (n, F, g) m S len c 0) (fun t M2 => RS M0 M2 ad (n, F, g) m S len c t)) := by
  refine Ct.of _ (by decide) rfl (Nat.le_of_ble_eq_true rfl) ?_
  obtain ⟨zA, hA, tA, pA, rd, nu, bd, sc, hs, ⟨rA, sA, bA, wA, rm, bk, hm⟩, hz, hh, hm6, ht, hl⟩ := hR
  change Zr zA n F g at hz
  obtain ⟨hvs, hv0, hv1, hv2, hv3⟩ := id hv
  dsimp only at hvs hv0 hv1 hv2 hv3
  have hg : (2 ≤ g 0 ∧ g 0 ≤ 16) ∧ 1 ≤ g 1 ∧ g 1 ≤ 9999 := ⟨⟨hv0, hv1⟩, hv2, hv3⟩
  refine r_aload_n dX9_block_0 rfl ?_
  refine r_iload_n dX9_block_1 rfl ?_
  refine r_callS1 okX9_isSet ⟨by decide, by decide⟩ ml_X9_81 (mX9_isSet (v := 0) (by omega) (by first | rw [if_pos (by omega)] | rw [if_neg (by omega)])) (Nat.le_of_ble_eq_true rfl) (Nat.le_of_ble_eq_true rfl) (Nat.le_of_ble_eq_true rfl) rfl dX9_block_2 (nx_I) (kx_I ?_)
  refine r_if_ne (tgt := 12) dX9_block_5 (by decide) (by omega) (fun h5 => ?_) (fun h5 => ?_)
  · omega
  ·
    refine r_iconst dX9_block_8 ?_
    refine r_goto (tgt := 30) dX9_block_9 (by decide) ?_
    refine r_putfield clX9 5 (by decide) fl_X9_34 rfl hm.o rfl rfl (Nat.le_of_ble_eq_true rfl) dX9_block_30 ?_
    refine hm.w_thrown hi (fun Mx hm => ?_)
    refine r_aload_n dX9_block_33 rfl ?_
    refine r_getfield clX9 5 (by decide) fl_X9_34 hm.o rfl dX9_block_34 ?_
    refine r_if_le (tgt := 44) dX9_block_37 (by decide) (by omega) (fun h37 => ?_) (fun h37 => ?_)
    · omega
    ·
      refine r_iconst dX9_block_40 ?_
      refine r_goto (tgt := 51) dX9_block_41 (by decide) ?_
      refine e_ireturn dX9_block_51 rfl (Nat.le_of_ble_eq_true rfl) (Nat.le_of_ble_eq_true rfl) ?_
      exact exUR (e2_x (eSet_f hc0) (by decide)) (by decide) (by decide) ⟨_, _, _, _, _, _, _, _, _, hm.q, hz, hh, hm6, ht, hl⟩

set_option maxHeartbeats 4000000 in
theorem mX9_block_x1 {M0 M : Mem} {ad : Int → Nat} {n : Int → Int} {F : Int → Int → Int} {g : Int → Int} {m : Int} {S : Int → Sg3} {len : Int} {c : Int → Int} {th : Int} {k b w : Int} (hR : RS M0 M ad (n, F, g) m S len c th) (hi : Inj ad) (hv : Vld (n, F, g)) (q0 : R32 k) (q1 : R32 b) (q2 : R32 w) (hc0 : 0 ≤ k ∧ k < 4) (hc1 : ¬ (0 ≤ b ∧ (0 ≤ w ∧ w ≤ 5))) : Ct KX9_block [.ref (ad 112), vI k, vI b, vI w] M 0 0 (UR (e2 (eSet k) (eB (0 ≤ b ∧ (0 ≤ w ∧ w ≤ 5)) xA)) (blkV (n k) (F k) g b w) tc3 (fun M2 => RS M0 M2 ad (n, F, g) m S len c 0) (fun t M2 => RS M0 M2 ad (n, F, g) m S len c t)) := by
  refine Ct.of _ (by decide) rfl (Nat.le_of_ble_eq_true rfl) ?_
  obtain ⟨zA, hA, tA, pA, rd, nu, bd, sc, hs, ⟨rA, sA, bA, wA, rm, bk, hm⟩, hz, hh, hm6, ht, hl⟩ := hR
  change Zr zA n F g at hz
  obtain ⟨hvs, hv0, hv1, hv2, hv3⟩ := id hv
  dsimp only at hvs hv0 hv1 hv2 hv3
  have hg : (2 ≤ g 0 ∧ g 0 ≤ 16) ∧ 1 ≤ g 1 ∧ g 1 ≤ 9999 := ⟨⟨hv0, hv1⟩, hv2, hv3⟩
  refine r_aload_n dX9_block_0 rfl ?_
  refine r_iload_n dX9_block_1 rfl ?_
  refine r_callS1 okX9_isSet ⟨by decide, by decide⟩ ml_X9_81 (mX9_isSet (v := 1) (by omega) (by first | rw [if_pos (by omega)] | rw [if_neg (by omega)])) (Nat.le_of_ble_eq_true rfl) (Nat.le_of_ble_eq_true rfl) (Nat.le_of_ble_eq_true rfl) rfl dX9_block_2 (nx_I) (kx_I ?_)
  refine r_if_ne (tgt := 12) dX9_block_5 (by decide) (by omega) (fun h5 => ?_) (fun h5 => ?_)
  ·
    refine r_iload_n dX9_block_12 rfl ?_
    refine r_if_lt (tgt := 29) dX9_block_13 (by decide) (by omega) (fun h13 => ?_) (fun h13 => ?_)
    ·
      refine r_iconst dX9_block_29 ?_
      refine r_putfield clX9 5 (by decide) fl_X9_34 rfl hm.o rfl rfl (Nat.le_of_ble_eq_true rfl) dX9_block_30 ?_
      refine hm.w_thrown hi (fun Mx hm => ?_)
      refine r_aload_n dX9_block_33 rfl ?_
      refine r_getfield clX9 5 (by decide) fl_X9_34 hm.o rfl dX9_block_34 ?_
      refine r_if_le (tgt := 44) dX9_block_37 (by decide) (by omega) (fun h37 => ?_) (fun h37 => ?_)
      · omega
      ·
        refine r_iconst dX9_block_40 ?_
        refine r_goto (tgt := 51) dX9_block_41 (by decide) ?_
        refine e_ireturn dX9_block_51 rfl (Nat.le_of_ble_eq_true rfl) (Nat.le_of_ble_eq_true rfl) ?_
        exact exUR ((e2_ok (eSet_t hc0)).trans (eB_f hc1)) (by decide) (by decide) ⟨_, _, _, _, _, _, _, _, _, hm.q, hz, hh, hm6, ht, hl⟩
    ·
      refine r_iload_n dX9_block_16 rfl ?_
      refine r_iconst dX9_block_17 ?_
      refine r_iconst dX9_block_18 ?_
      refine r_callS3 okX9_within ⟨by decide, by decide⟩ ml_X9_41 (mX9_within (v := 0) (by omega) (by omega) (by omega) (by first | rw [if_pos (by omega)] | rw [if_neg (by omega)])) (Nat.le_of_ble_eq_true rfl) (Nat.le_of_ble_eq_true rfl) (Nat.le_of_ble_eq_true rfl) rfl dX9_block_19 (nx_I) (kx_I ?_)
      refine r_if_eq (tgt := 29) dX9_block_22 (by decide) (by omega) (fun h22 => ?_) (fun h22 => ?_)
      ·
        refine r_iconst dX9_block_29 ?_
        refine r_putfield clX9 5 (by decide) fl_X9_34 rfl hm.o rfl rfl (Nat.le_of_ble_eq_true rfl) dX9_block_30 ?_
        refine hm.w_thrown hi (fun Mx hm => ?_)
        refine r_aload_n dX9_block_33 rfl ?_
        refine r_getfield clX9 5 (by decide) fl_X9_34 hm.o rfl dX9_block_34 ?_
        refine r_if_le (tgt := 44) dX9_block_37 (by decide) (by omega) (fun h37 => ?_) (fun h37 => ?_)
        · omega
        ·
          refine r_iconst dX9_block_40 ?_
          refine r_goto (tgt := 51) dX9_block_41 (by decide) ?_
          refine e_ireturn dX9_block_51 rfl (Nat.le_of_ble_eq_true rfl) (Nat.le_of_ble_eq_true rfl) ?_
          exact exUR ((e2_ok (eSet_t hc0)).trans (eB_f hc1)) (by decide) (by decide) ⟨_, _, _, _, _, _, _, _, _, hm.q, hz, hh, hm6, ht, hl⟩
      · omega
  · omega

set_option maxHeartbeats 4000000 in
theorem mX9_block_ok {M0 M : Mem} {ad : Int → Nat} {n : Int → Int} {F : Int → Int → Int} {g : Int → Int} {m : Int} {S : Int → Sg3} {len : Int} {c : Int → Int} {th : Int} {k b w : Int} (hR : RS M0 M ad (n, F, g) m S len c th) (hi : Inj ad) (hv : Vld (n, F, g)) (q0 : R32 k) (q1 : R32 b) (q2 : R32 w) (hc0 : 0 ≤ k ∧ k < 4) (hc1 : 0 ≤ b ∧ (0 ≤ w ∧ w ≤ 5)) : Ct KX9_block [.ref (ad 112), vI k, vI b, vI w] M 0 0 (UR (e2 (eSet k) (eB (0 ≤ b ∧ (0 ≤ w ∧ w ≤ 5)) xA)) (blkV (n k) (F k) g b w) tc3 (fun M2 => RS M0 M2 ad (n, F, g) m S len c 0) (fun t M2 => RS M0 M2 ad (n, F, g) m S len c t)) := by
  refine Ct.of _ (by decide) rfl (Nat.le_of_ble_eq_true rfl) ?_
  obtain ⟨zA, hA, tA, pA, rd, nu, bd, sc, hs, ⟨rA, sA, bA, wA, rm, bk, hm⟩, hz, hh, hm6, ht, hl⟩ := hR
  change Zr zA n F g at hz
  obtain ⟨hvs, hv0, hv1, hv2, hv3⟩ := id hv
  dsimp only at hvs hv0 hv1 hv2 hv3
  have hg : (2 ≤ g 0 ∧ g 0 ≤ 16) ∧ 1 ≤ g 1 ∧ g 1 ≤ 9999 := ⟨⟨hv0, hv1⟩, hv2, hv3⟩
  refine r_aload_n dX9_block_0 rfl ?_
  refine r_iload_n dX9_block_1 rfl ?_
  refine r_callS1 okX9_isSet ⟨by decide, by decide⟩ ml_X9_81 (mX9_isSet (v := 1) (by omega) (by first | rw [if_pos (by omega)] | rw [if_neg (by omega)])) (Nat.le_of_ble_eq_true rfl) (Nat.le_of_ble_eq_true rfl) (Nat.le_of_ble_eq_true rfl) rfl dX9_block_2 (nx_I) (kx_I ?_)
  refine r_if_ne (tgt := 12) dX9_block_5 (by decide) (by omega) (fun h5 => ?_) (fun h5 => ?_)
  ·
    refine r_iload_n dX9_block_12 rfl ?_
    refine r_if_lt (tgt := 29) dX9_block_13 (by decide) (by omega) (fun h13 => ?_) (fun h13 => ?_)
    · omega
    ·
      refine r_iload_n dX9_block_16 rfl ?_
      refine r_iconst dX9_block_17 ?_
      refine r_iconst dX9_block_18 ?_
      refine r_callS3 okX9_within ⟨by decide, by decide⟩ ml_X9_41 (mX9_within (v := 1) (by omega) (by omega) (by omega) (by first | rw [if_pos (by omega)] | rw [if_neg (by omega)])) (Nat.le_of_ble_eq_true rfl) (Nat.le_of_ble_eq_true rfl) (Nat.le_of_ble_eq_true rfl) rfl dX9_block_19 (nx_I) (kx_I ?_)
      refine r_if_eq (tgt := 29) dX9_block_22 (by decide) (by omega) (fun h22 => ?_) (fun h22 => ?_)
      · omega
      ·
        refine r_iconst dX9_block_25 ?_
        refine r_goto (tgt := 30) dX9_block_26 (by decide) ?_
        refine r_putfield clX9 5 (by decide) fl_X9_34 rfl hm.o rfl rfl (Nat.le_of_ble_eq_true rfl) dX9_block_30 ?_
        refine hm.w_thrown hi (fun Mx hm => ?_)
        refine r_aload_n dX9_block_33 rfl ?_
        refine r_getfield clX9 5 (by decide) fl_X9_34 hm.o rfl dX9_block_34 ?_
        refine r_if_le (tgt := 44) dX9_block_37 (by decide) (by omega) (fun h37 => ?_) (fun h37 => ?_)
        ·
          refine r_aload_n dX9_block_44 rfl ?_
          refine r_iload_n dX9_block_45 rfl ?_
          refine r_iload_n dX9_block_46 rfl ?_
          refine r_iload_n dX9_block_47 rfl ?_
          refine r_callV3 okX9_blockNow ⟨by decide, by decide⟩ ml_X9_174 (mX9_blockNow hm.q hi hz (by omega) (by omega) hg (by omega) (by omega)) hm.o rfl rfl (Nat.le_of_ble_eq_true rfl) (Nat.le_of_ble_eq_true rfl) (Nat.le_of_ble_eq_true rfl) rfl dX9_block_48 (nx_tI) (kx_tI ?_)
          intro Mx hq
          obtain ⟨rA, sA, bA, wA, rm, bk, hm⟩ := hq
          refine e_ireturn dX9_block_51 rfl (Nat.le_of_ble_eq_true rfl) (Nat.le_of_ble_eq_true rfl) ?_
          exact okUR ((e2_ok (eSet_t hc0)).trans (eB_t hc1)) rfl ⟨_, _, _, _, _, _, _, _, _, hm.q, hz, hh, hm6, ht, hl⟩
        · omega
  · omega

theorem mX9_block {M0 M : Mem} {ad : Int → Nat} {n : Int → Int} {F : Int → Int → Int} {g : Int → Int} {m : Int} {S : Int → Sg3} {len : Int} {c : Int → Int} {th : Int} {k b w : Int} (hR : RS M0 M ad (n, F, g) m S len c th) (hi : Inj ad) (hv : Vld (n, F, g)) (q0 : R32 k) (q1 : R32 b) (q2 : R32 w) : Ct KX9_block [.ref (ad 112), vI k, vI b, vI w] M 0 0 (UR (e2 (eSet k) (eB (0 ≤ b ∧ (0 ≤ w ∧ w ≤ 5)) xA)) (blkV (n k) (F k) g b w) tc3 (fun M2 => RS M0 M2 ad (n, F, g) m S len c 0) (fun t M2 => RS M0 M2 ad (n, F, g) m S len c t)) := by
  by_cases hc0 : 0 ≤ k ∧ k < 4
  · skip
    by_cases hc1 : 0 ≤ b ∧ (0 ≤ w ∧ w ≤ 5)
    · skip
      exact mX9_block_ok hR hi hv q0 q1 q2 hc0 hc1
    · exact mX9_block_x1 hR hi hv q0 q1 q2 hc0 hc1
  · exact mX9_block_x0 hR hi hv q0 q1 q2 hc0

set_option maxHeartbeats 4000000 in
theorem mX9_of_x0 {M0 M : Mem} {ad : Int → Nat} {n : Int → Int} {F : Int → Int → Int} {g : Int → Int} {m : Int} {S : Int → Sg3} {len : Int} {c : Int → Int} {th : Int} {k w : Int} (hR : RS M0 M ad (n, F, g) m S len c th) (hi : Inj ad) (hv : Vld (n, F, g)) (q0 : R32 k) (q1 : R32 w) (hc0 : ¬ (0 ≤ k ∧ k < 4)) : Ct KX9_of [.ref (ad 112), vI k, vI w] M 0 0 (UR (e2 (eSet k) (eB (0 ≤ w ∧ w ≤ 7) xA)) (ofV (n k) (F k) g w) tc3 (fun M2 => RS M0 M2 ad (n, F, g) m S len c 0) (fun t M2 => RS M0 M2 ad (n, F, g) m S len c t)) := by
  refine Ct.of _ (by decide) rfl (Nat.le_of_ble_eq_true rfl) ?_
  obtain ⟨zA, hA, tA, pA, rd, nu, bd, sc, hs, ⟨rA, sA, bA, wA, rm, bk, hm⟩, hz, hh, hm6, ht, hl⟩ := hR
  change Zr zA n F g at hz
  obtain ⟨hvs, hv0, hv1, hv2, hv3⟩ := id hv
  dsimp only at hvs hv0 hv1 hv2 hv3
  have hg : (2 ≤ g 0 ∧ g 0 ≤ 16) ∧ 1 ≤ g 1 ∧ g 1 ≤ 9999 := ⟨⟨hv0, hv1⟩, hv2, hv3⟩
  refine r_aload_n dX9_of_0 rfl ?_
  refine r_iload_n dX9_of_1 rfl ?_
  refine r_callS1 okX9_isSet ⟨by decide, by decide⟩ ml_X9_81 (mX9_isSet (v := 0) (by omega) (by first | rw [if_pos (by omega)] | rw [if_neg (by omega)])) (Nat.le_of_ble_eq_true rfl) (Nat.le_of_ble_eq_true rfl) (Nat.le_of_ble_eq_true rfl) rfl dX9_of_2 (nx_I) (kx_I ?_)
  refine r_if_ne (tgt := 12) dX9_of_5 (by decide) (by omega) (fun h5 => ?_) (fun h5 => ?_)
  · omega
  ·
    refine r_iconst dX9_of_8 ?_
    refine r_goto (tgt := 27) dX9_of_9 (by decide) ?_
    refine r_putfield clX9 5 (by decide) fl_X9_34 rfl hm.o rfl rfl (Nat.le_of_ble_eq_true rfl) dX9_of_27 ?_
    refine hm.w_thrown hi (fun Mx hm => ?_)
    refine r_aload_n dX9_of_30 rfl ?_
    refine r_getfield clX9 5 (by decide) fl_X9_34 hm.o rfl dX9_of_31 ?_
    refine r_if_le (tgt := 41) dX9_of_34 (by decide) (by omega) (fun h34 => ?_) (fun h34 => ?_)
    · omega
    ·
      refine r_iconst dX9_of_37 ?_
      refine r_goto (tgt := 47) dX9_of_38 (by decide) ?_
      refine e_ireturn dX9_of_47 rfl (Nat.le_of_ble_eq_true rfl) (Nat.le_of_ble_eq_true rfl) ?_
      exact exUR (e2_x (eSet_f hc0) (by decide)) (by decide) (by decide) ⟨_, _, _, _, _, _, _, _, _, hm.q, hz, hh, hm6, ht, hl⟩

set_option maxHeartbeats 4000000 in
theorem mX9_of_x1 {M0 M : Mem} {ad : Int → Nat} {n : Int → Int} {F : Int → Int → Int} {g : Int → Int} {m : Int} {S : Int → Sg3} {len : Int} {c : Int → Int} {th : Int} {k w : Int} (hR : RS M0 M ad (n, F, g) m S len c th) (hi : Inj ad) (hv : Vld (n, F, g)) (q0 : R32 k) (q1 : R32 w) (hc0 : 0 ≤ k ∧ k < 4) (hc1 : ¬ (0 ≤ w ∧ w ≤ 7)) : Ct KX9_of [.ref (ad 112), vI k, vI w] M 0 0 (UR (e2 (eSet k) (eB (0 ≤ w ∧ w ≤ 7) xA)) (ofV (n k) (F k) g w) tc3 (fun M2 => RS M0 M2 ad (n, F, g) m S len c 0) (fun t M2 => RS M0 M2 ad (n, F, g) m S len c t)) := by
  refine Ct.of _ (by decide) rfl (Nat.le_of_ble_eq_true rfl) ?_
  obtain ⟨zA, hA, tA, pA, rd, nu, bd, sc, hs, ⟨rA, sA, bA, wA, rm, bk, hm⟩, hz, hh, hm6, ht, hl⟩ := hR
  change Zr zA n F g at hz
  obtain ⟨hvs, hv0, hv1, hv2, hv3⟩ := id hv
  dsimp only at hvs hv0 hv1 hv2 hv3
  have hg : (2 ≤ g 0 ∧ g 0 ≤ 16) ∧ 1 ≤ g 1 ∧ g 1 ≤ 9999 := ⟨⟨hv0, hv1⟩, hv2, hv3⟩
  refine r_aload_n dX9_of_0 rfl ?_
  refine r_iload_n dX9_of_1 rfl ?_
  refine r_callS1 okX9_isSet ⟨by decide, by decide⟩ ml_X9_81 (mX9_isSet (v := 1) (by omega) (by first | rw [if_pos (by omega)] | rw [if_neg (by omega)])) (Nat.le_of_ble_eq_true rfl) (Nat.le_of_ble_eq_true rfl) (Nat.le_of_ble_eq_true rfl) rfl dX9_of_2 (nx_I) (kx_I ?_)
  refine r_if_ne (tgt := 12) dX9_of_5 (by decide) (by omega) (fun h5 => ?_) (fun h5 => ?_)
  ·
    refine r_iload_n dX9_of_12 rfl ?_
    refine r_iconst dX9_of_13 ?_
    refine r_bipush dX9_of_14 (by decide) ?_
    refine r_callS3 okX9_within ⟨by decide, by decide⟩ ml_X9_41 (mX9_within (v := 0) (by omega) (by omega) (by omega) (by first | rw [if_pos (by omega)] | rw [if_neg (by omega)])) (Nat.le_of_ble_eq_true rfl) (Nat.le_of_ble_eq_true rfl) (Nat.le_of_ble_eq_true rfl) rfl dX9_of_16 (nx_I) (kx_I ?_)
    refine r_if_eq (tgt := 26) dX9_of_19 (by decide) (by omega) (fun h19 => ?_) (fun h19 => ?_)
    ·
      refine r_iconst dX9_of_26 ?_
      refine r_putfield clX9 5 (by decide) fl_X9_34 rfl hm.o rfl rfl (Nat.le_of_ble_eq_true rfl) dX9_of_27 ?_
      refine hm.w_thrown hi (fun Mx hm => ?_)
      refine r_aload_n dX9_of_30 rfl ?_
      refine r_getfield clX9 5 (by decide) fl_X9_34 hm.o rfl dX9_of_31 ?_
      refine r_if_le (tgt := 41) dX9_of_34 (by decide) (by omega) (fun h34 => ?_) (fun h34 => ?_)
      · omega
      ·
        refine r_iconst dX9_of_37 ?_
        refine r_goto (tgt := 47) dX9_of_38 (by decide) ?_
        refine e_ireturn dX9_of_47 rfl (Nat.le_of_ble_eq_true rfl) (Nat.le_of_ble_eq_true rfl) ?_
        exact exUR ((e2_ok (eSet_t hc0)).trans (eB_f hc1)) (by decide) (by decide) ⟨_, _, _, _, _, _, _, _, _, hm.q, hz, hh, hm6, ht, hl⟩
    · omega
  · omega

set_option maxHeartbeats 4000000 in
theorem mX9_of_ok {M0 M : Mem} {ad : Int → Nat} {n : Int → Int} {F : Int → Int → Int} {g : Int → Int} {m : Int} {S : Int → Sg3} {len : Int} {c : Int → Int} {th : Int} {k w : Int} (hR : RS M0 M ad (n, F, g) m S len c th) (hi : Inj ad) (hv : Vld (n, F, g)) (q0 : R32 k) (q1 : R32 w) (hc0 : 0 ≤ k ∧ k < 4) (hc1 : 0 ≤ w ∧ w ≤ 7) : Ct KX9_of [.ref (ad 112), vI k, vI w] M 0 0 (UR (e2 (eSet k) (eB (0 ≤ w ∧ w ≤ 7) xA)) (ofV (n k) (F k) g w) tc3 (fun M2 => RS M0 M2 ad (n, F, g) m S len c 0) (fun t M2 => RS M0 M2 ad (n, F, g) m S len c t)) := by
  refine Ct.of _ (by decide) rfl (Nat.le_of_ble_eq_true rfl) ?_
  obtain ⟨zA, hA, tA, pA, rd, nu, bd, sc, hs, ⟨rA, sA, bA, wA, rm, bk, hm⟩, hz, hh, hm6, ht, hl⟩ := hR
  change Zr zA n F g at hz
  obtain ⟨hvs, hv0, hv1, hv2, hv3⟩ := id hv
  dsimp only at hvs hv0 hv1 hv2 hv3
  have hg : (2 ≤ g 0 ∧ g 0 ≤ 16) ∧ 1 ≤ g 1 ∧ g 1 ≤ 9999 := ⟨⟨hv0, hv1⟩, hv2, hv3⟩
  refine r_aload_n dX9_of_0 rfl ?_
  refine r_iload_n dX9_of_1 rfl ?_
  refine r_callS1 okX9_isSet ⟨by decide, by decide⟩ ml_X9_81 (mX9_isSet (v := 1) (by omega) (by first | rw [if_pos (by omega)] | rw [if_neg (by omega)])) (Nat.le_of_ble_eq_true rfl) (Nat.le_of_ble_eq_true rfl) (Nat.le_of_ble_eq_true rfl) rfl dX9_of_2 (nx_I) (kx_I ?_)
  refine r_if_ne (tgt := 12) dX9_of_5 (by decide) (by omega) (fun h5 => ?_) (fun h5 => ?_)
  ·
    refine r_iload_n dX9_of_12 rfl ?_
    refine r_iconst dX9_of_13 ?_
    refine r_bipush dX9_of_14 (by decide) ?_
    refine r_callS3 okX9_within ⟨by decide, by decide⟩ ml_X9_41 (mX9_within (v := 1) (by omega) (by omega) (by omega) (by first | rw [if_pos (by omega)] | rw [if_neg (by omega)])) (Nat.le_of_ble_eq_true rfl) (Nat.le_of_ble_eq_true rfl) (Nat.le_of_ble_eq_true rfl) rfl dX9_of_16 (nx_I) (kx_I ?_)
    refine r_if_eq (tgt := 26) dX9_of_19 (by decide) (by omega) (fun h19 => ?_) (fun h19 => ?_)
    · omega
    ·
      refine r_iconst dX9_of_22 ?_
      refine r_goto (tgt := 27) dX9_of_23 (by decide) ?_
      refine r_putfield clX9 5 (by decide) fl_X9_34 rfl hm.o rfl rfl (Nat.le_of_ble_eq_true rfl) dX9_of_27 ?_
      refine hm.w_thrown hi (fun Mx hm => ?_)
      refine r_aload_n dX9_of_30 rfl ?_
      refine r_getfield clX9 5 (by decide) fl_X9_34 hm.o rfl dX9_of_31 ?_
      refine r_if_le (tgt := 41) dX9_of_34 (by decide) (by omega) (fun h34 => ?_) (fun h34 => ?_)
      ·
        refine r_aload_n dX9_of_41 rfl ?_
        refine r_iload_n dX9_of_42 rfl ?_
        refine r_iload_n dX9_of_43 rfl ?_
        refine r_callV2 okX9_setNow ⟨by decide, by decide⟩ ml_X9_189 (mX9_setNow hm.q hi hz (by omega) (by omega) hg (by omega)) hm.o rfl rfl (Nat.le_of_ble_eq_true rfl) (Nat.le_of_ble_eq_true rfl) (Nat.le_of_ble_eq_true rfl) rfl dX9_of_44 (nx_tI) (kx_tI ?_)
        intro Mx hq
        obtain ⟨rA, sA, bA, wA, rm, bk, hm⟩ := hq
        refine e_ireturn dX9_of_47 rfl (Nat.le_of_ble_eq_true rfl) (Nat.le_of_ble_eq_true rfl) ?_
        exact okUR ((e2_ok (eSet_t hc0)).trans (eB_t hc1)) rfl ⟨_, _, _, _, _, _, _, _, _, hm.q, hz, hh, hm6, ht, hl⟩
      · omega
  · omega

theorem mX9_of {M0 M : Mem} {ad : Int → Nat} {n : Int → Int} {F : Int → Int → Int} {g : Int → Int} {m : Int} {S : Int → Sg3} {len : Int} {c : Int → Int} {th : Int} {k w : Int} (hR : RS M0 M ad (n, F, g) m S len c th) (hi : Inj ad) (hv : Vld (n, F, g)) (q0 : R32 k) (q1 : R32 w) : Ct KX9_of [.ref (ad 112), vI k, vI w] M 0 0 (UR (e2 (eSet k) (eB (0 ≤ w ∧ w ≤ 7) xA)) (ofV (n k) (F k) g w) tc3 (fun M2 => RS M0 M2 ad (n, F, g) m S len c 0) (fun t M2 => RS M0 M2 ad (n, F, g) m S len c t)) := by
  by_cases hc0 : 0 ≤ k ∧ k < 4
  · skip
    by_cases hc1 : 0 ≤ w ∧ w ≤ 7
    · skip
      exact mX9_of_ok hR hi hv q0 q1 hc0 hc1
    · exact mX9_of_x1 hR hi hv q0 q1 hc0 hc1
  · exact mX9_of_x0 hR hi hv q0 q1 hc0

set_option maxHeartbeats 4000000 in
theorem mX9_leaps_x0 {M0 M : Mem} {ad : Int → Nat} {n : Int → Int} {F : Int → Int → Int} {g : Int → Int} {m : Int} {S : Int → Sg3} {len : Int} {c : Int → Int} {th : Int} {k x w : Int} (hR : RS M0 M ad (n, F, g) m S len c th) (hi : Inj ad) (hv : Vld (n, F, g)) (q0 : R32 k) (q1 : R32 x) (q2 : R32 w) (hc0 : ¬ (0 ≤ k ∧ k < 4)) : Ct KX9_leaps [.ref (ad 112), vI k, vI x, vI w] M 0 0 (UR (e2 (eSet k) (e2 (eSet x) (eB (0 ≤ w ∧ w ≤ 3) xA))) (tolF (mtS n F g k x) w) tc3 (fun M2 => RS M0 M2 ad (n, F, g) m S len c 0) (fun t M2 => RS M0 M2 ad (n, F, g) m S len c t)) := by
  refine Ct.of _ (by decide) rfl (Nat.le_of_ble_eq_true rfl) ?_
  obtain ⟨zA, hA, tA, pA, rd, nu, bd, sc, hs, ⟨rA, sA, bA, wA, rm, bk, hm⟩, hz, hh, hm6, ht, hl⟩ := hR
  change Zr zA n F g at hz
  obtain ⟨hvs, hv0, hv1, hv2, hv3⟩ := id hv
  dsimp only at hvs hv0 hv1 hv2 hv3
  have hg : (2 ≤ g 0 ∧ g 0 ≤ 16) ∧ 1 ≤ g 1 ∧ g 1 ≤ 9999 := ⟨⟨hv0, hv1⟩, hv2, hv3⟩
  refine r_aload_n dX9_leaps_0 rfl ?_
  refine r_iload_n dX9_leaps_1 rfl ?_
  refine r_callS1 okX9_isSet ⟨by decide, by decide⟩ ml_X9_81 (mX9_isSet (v := 0) (by omega) (by first | rw [if_pos (by omega)] | rw [if_neg (by omega)])) (Nat.le_of_ble_eq_true rfl) (Nat.le_of_ble_eq_true rfl) (Nat.le_of_ble_eq_true rfl) rfl dX9_leaps_2 (nx_I) (kx_I ?_)
  refine r_if_eq (tgt := 15) dX9_leaps_5 (by decide) (by omega) (fun h5 => ?_) (fun h5 => ?_)
  ·
    refine r_iconst dX9_leaps_15 ?_
    refine r_goto (tgt := 33) dX9_leaps_16 (by decide) ?_
    refine r_putfield clX9 5 (by decide) fl_X9_34 rfl hm.o rfl rfl (Nat.le_of_ble_eq_true rfl) dX9_leaps_33 ?_
    refine hm.w_thrown hi (fun Mx hm => ?_)
    refine r_aload_n dX9_leaps_36 rfl ?_
    refine r_getfield clX9 5 (by decide) fl_X9_34 hm.o rfl dX9_leaps_37 ?_
    refine r_if_le (tgt := 47) dX9_leaps_40 (by decide) (by omega) (fun h40 => ?_) (fun h40 => ?_)
    · omega
    ·
      refine r_iconst dX9_leaps_43 ?_
      refine r_goto (tgt := 54) dX9_leaps_44 (by decide) ?_
      refine e_ireturn dX9_leaps_54 rfl (Nat.le_of_ble_eq_true rfl) (Nat.le_of_ble_eq_true rfl) ?_
      exact exUR (e2_x (eSet_f hc0) (by decide)) (by decide) (by decide) ⟨_, _, _, _, _, _, _, _, _, hm.q, hz, hh, hm6, ht, hl⟩
  · omega

set_option maxHeartbeats 4000000 in
theorem mX9_leaps_x1 {M0 M : Mem} {ad : Int → Nat} {n : Int → Int} {F : Int → Int → Int} {g : Int → Int} {m : Int} {S : Int → Sg3} {len : Int} {c : Int → Int} {th : Int} {k x w : Int} (hR : RS M0 M ad (n, F, g) m S len c th) (hi : Inj ad) (hv : Vld (n, F, g)) (q0 : R32 k) (q1 : R32 x) (q2 : R32 w) (hc0 : 0 ≤ k ∧ k < 4) (hc1 : ¬ (0 ≤ x ∧ x < 4)) : Ct KX9_leaps [.ref (ad 112), vI k, vI x, vI w] M 0 0 (UR (e2 (eSet k) (e2 (eSet x) (eB (0 ≤ w ∧ w ≤ 3) xA))) (tolF (mtS n F g k x) w) tc3 (fun M2 => RS M0 M2 ad (n, F, g) m S len c 0) (fun t M2 => RS M0 M2 ad (n, F, g) m S len c t)) := by
  refine Ct.of _ (by decide) rfl (Nat.le_of_ble_eq_true rfl) ?_
  obtain ⟨zA, hA, tA, pA, rd, nu, bd, sc, hs, ⟨rA, sA, bA, wA, rm, bk, hm⟩, hz, hh, hm6, ht, hl⟩ := hR
  change Zr zA n F g at hz
  obtain ⟨hvs, hv0, hv1, hv2, hv3⟩ := id hv
  dsimp only at hvs hv0 hv1 hv2 hv3
  have hg : (2 ≤ g 0 ∧ g 0 ≤ 16) ∧ 1 ≤ g 1 ∧ g 1 ≤ 9999 := ⟨⟨hv0, hv1⟩, hv2, hv3⟩
  refine r_aload_n dX9_leaps_0 rfl ?_
  refine r_iload_n dX9_leaps_1 rfl ?_
  refine r_callS1 okX9_isSet ⟨by decide, by decide⟩ ml_X9_81 (mX9_isSet (v := 1) (by omega) (by first | rw [if_pos (by omega)] | rw [if_neg (by omega)])) (Nat.le_of_ble_eq_true rfl) (Nat.le_of_ble_eq_true rfl) (Nat.le_of_ble_eq_true rfl) rfl dX9_leaps_2 (nx_I) (kx_I ?_)
  refine r_if_eq (tgt := 15) dX9_leaps_5 (by decide) (by omega) (fun h5 => ?_) (fun h5 => ?_)
  · omega
  ·
    refine r_iload_n dX9_leaps_8 rfl ?_
    refine r_callS1 okX9_isSet ⟨by decide, by decide⟩ ml_X9_81 (mX9_isSet (v := 0) (by omega) (by first | rw [if_pos (by omega)] | rw [if_neg (by omega)])) (Nat.le_of_ble_eq_true rfl) (Nat.le_of_ble_eq_true rfl) (Nat.le_of_ble_eq_true rfl) rfl dX9_leaps_9 (nx_I) (kx_I ?_)
    refine r_if_ne (tgt := 19) dX9_leaps_12 (by decide) (by omega) (fun h12 => ?_) (fun h12 => ?_)
    · omega
    ·
      refine r_iconst dX9_leaps_15 ?_
      refine r_goto (tgt := 33) dX9_leaps_16 (by decide) ?_
      refine r_putfield clX9 5 (by decide) fl_X9_34 rfl hm.o rfl rfl (Nat.le_of_ble_eq_true rfl) dX9_leaps_33 ?_
      refine hm.w_thrown hi (fun Mx hm => ?_)
      refine r_aload_n dX9_leaps_36 rfl ?_
      refine r_getfield clX9 5 (by decide) fl_X9_34 hm.o rfl dX9_leaps_37 ?_
      refine r_if_le (tgt := 47) dX9_leaps_40 (by decide) (by omega) (fun h40 => ?_) (fun h40 => ?_)
      · omega
      ·
        refine r_iconst dX9_leaps_43 ?_
        refine r_goto (tgt := 54) dX9_leaps_44 (by decide) ?_
        refine e_ireturn dX9_leaps_54 rfl (Nat.le_of_ble_eq_true rfl) (Nat.le_of_ble_eq_true rfl) ?_
        exact exUR ((e2_ok (eSet_t hc0)).trans (e2_x (eSet_f hc1) (by decide))) (by decide) (by decide) ⟨_, _, _, _, _, _, _, _, _, hm.q, hz, hh, hm6, ht, hl⟩

set_option maxHeartbeats 4000000 in
theorem mX9_leaps_x2 {M0 M : Mem} {ad : Int → Nat} {n : Int → Int} {F : Int → Int → Int} {g : Int → Int} {m : Int} {S : Int → Sg3} {len : Int} {c : Int → Int} {th : Int} {k x w : Int} (hR : RS M0 M ad (n, F, g) m S len c th) (hi : Inj ad) (hv : Vld (n, F, g)) (q0 : R32 k) (q1 : R32 x) (q2 : R32 w) (hc0 : 0 ≤ k ∧ k < 4) (hc1 : 0 ≤ x ∧ x < 4) (hc2 : ¬ (0 ≤ w ∧ w ≤ 3)) : Ct KX9_leaps [.ref (ad 112), vI k, vI x, vI w] M 0 0 (UR (e2 (eSet k) (e2 (eSet x) (eB (0 ≤ w ∧ w ≤ 3) xA))) (tolF (mtS n F g k x) w) tc3 (fun M2 => RS M0 M2 ad (n, F, g) m S len c 0) (fun t M2 => RS M0 M2 ad (n, F, g) m S len c t)) := by
  refine Ct.of _ (by decide) rfl (Nat.le_of_ble_eq_true rfl) ?_
  obtain ⟨zA, hA, tA, pA, rd, nu, bd, sc, hs, ⟨rA, sA, bA, wA, rm, bk, hm⟩, hz, hh, hm6, ht, hl⟩ := hR
  change Zr zA n F g at hz
  obtain ⟨hvs, hv0, hv1, hv2, hv3⟩ := id hv
  dsimp only at hvs hv0 hv1 hv2 hv3
  have hg : (2 ≤ g 0 ∧ g 0 ≤ 16) ∧ 1 ≤ g 1 ∧ g 1 ≤ 9999 := ⟨⟨hv0, hv1⟩, hv2, hv3⟩
  refine r_aload_n dX9_leaps_0 rfl ?_
  refine r_iload_n dX9_leaps_1 rfl ?_
  refine r_callS1 okX9_isSet ⟨by decide, by decide⟩ ml_X9_81 (mX9_isSet (v := 1) (by omega) (by first | rw [if_pos (by omega)] | rw [if_neg (by omega)])) (Nat.le_of_ble_eq_true rfl) (Nat.le_of_ble_eq_true rfl) (Nat.le_of_ble_eq_true rfl) rfl dX9_leaps_2 (nx_I) (kx_I ?_)
  refine r_if_eq (tgt := 15) dX9_leaps_5 (by decide) (by omega) (fun h5 => ?_) (fun h5 => ?_)
  · omega
  ·
    refine r_iload_n dX9_leaps_8 rfl ?_
    refine r_callS1 okX9_isSet ⟨by decide, by decide⟩ ml_X9_81 (mX9_isSet (v := 1) (by omega) (by first | rw [if_pos (by omega)] | rw [if_neg (by omega)])) (Nat.le_of_ble_eq_true rfl) (Nat.le_of_ble_eq_true rfl) (Nat.le_of_ble_eq_true rfl) rfl dX9_leaps_9 (nx_I) (kx_I ?_)
    refine r_if_ne (tgt := 19) dX9_leaps_12 (by decide) (by omega) (fun h12 => ?_) (fun h12 => ?_)
    ·
      refine r_iload_n dX9_leaps_19 rfl ?_
      refine r_iconst dX9_leaps_20 ?_
      refine r_iconst dX9_leaps_21 ?_
      refine r_callS3 okX9_within ⟨by decide, by decide⟩ ml_X9_41 (mX9_within (v := 0) (by omega) (by omega) (by omega) (by first | rw [if_pos (by omega)] | rw [if_neg (by omega)])) (Nat.le_of_ble_eq_true rfl) (Nat.le_of_ble_eq_true rfl) (Nat.le_of_ble_eq_true rfl) rfl dX9_leaps_22 (nx_I) (kx_I ?_)
      refine r_if_eq (tgt := 32) dX9_leaps_25 (by decide) (by omega) (fun h25 => ?_) (fun h25 => ?_)
      ·
        refine r_iconst dX9_leaps_32 ?_
        refine r_putfield clX9 5 (by decide) fl_X9_34 rfl hm.o rfl rfl (Nat.le_of_ble_eq_true rfl) dX9_leaps_33 ?_
        refine hm.w_thrown hi (fun Mx hm => ?_)
        refine r_aload_n dX9_leaps_36 rfl ?_
        refine r_getfield clX9 5 (by decide) fl_X9_34 hm.o rfl dX9_leaps_37 ?_
        refine r_if_le (tgt := 47) dX9_leaps_40 (by decide) (by omega) (fun h40 => ?_) (fun h40 => ?_)
        · omega
        ·
          refine r_iconst dX9_leaps_43 ?_
          refine r_goto (tgt := 54) dX9_leaps_44 (by decide) ?_
          refine e_ireturn dX9_leaps_54 rfl (Nat.le_of_ble_eq_true rfl) (Nat.le_of_ble_eq_true rfl) ?_
          exact exUR ((e2_ok (eSet_t hc0)).trans ((e2_ok (eSet_t hc1)).trans (eB_f hc2))) (by decide) (by decide) ⟨_, _, _, _, _, _, _, _, _, hm.q, hz, hh, hm6, ht, hl⟩
      · omega
    · omega

set_option maxHeartbeats 4000000 in
theorem mX9_leaps_ok {M0 M : Mem} {ad : Int → Nat} {n : Int → Int} {F : Int → Int → Int} {g : Int → Int} {m : Int} {S : Int → Sg3} {len : Int} {c : Int → Int} {th : Int} {k x w : Int} (hR : RS M0 M ad (n, F, g) m S len c th) (hi : Inj ad) (hv : Vld (n, F, g)) (q0 : R32 k) (q1 : R32 x) (q2 : R32 w) (hc0 : 0 ≤ k ∧ k < 4) (hc1 : 0 ≤ x ∧ x < 4) (hc2 : 0 ≤ w ∧ w ≤ 3) : Ct KX9_leaps [.ref (ad 112), vI k, vI x, vI w] M 0 0 (UR (e2 (eSet k) (e2 (eSet x) (eB (0 ≤ w ∧ w ≤ 3) xA))) (tolF (mtS n F g k x) w) tc3 (fun M2 => RS M0 M2 ad (n, F, g) m S len c 0) (fun t M2 => RS M0 M2 ad (n, F, g) m S len c t)) := by
  refine Ct.of _ (by decide) rfl (Nat.le_of_ble_eq_true rfl) ?_
  obtain ⟨zA, hA, tA, pA, rd, nu, bd, sc, hs, ⟨rA, sA, bA, wA, rm, bk, hm⟩, hz, hh, hm6, ht, hl⟩ := hR
  change Zr zA n F g at hz
  obtain ⟨hvs, hv0, hv1, hv2, hv3⟩ := id hv
  dsimp only at hvs hv0 hv1 hv2 hv3
  have hg : (2 ≤ g 0 ∧ g 0 ≤ 16) ∧ 1 ≤ g 1 ∧ g 1 ≤ 9999 := ⟨⟨hv0, hv1⟩, hv2, hv3⟩
  refine r_aload_n dX9_leaps_0 rfl ?_
  refine r_iload_n dX9_leaps_1 rfl ?_
  refine r_callS1 okX9_isSet ⟨by decide, by decide⟩ ml_X9_81 (mX9_isSet (v := 1) (by omega) (by first | rw [if_pos (by omega)] | rw [if_neg (by omega)])) (Nat.le_of_ble_eq_true rfl) (Nat.le_of_ble_eq_true rfl) (Nat.le_of_ble_eq_true rfl) rfl dX9_leaps_2 (nx_I) (kx_I ?_)
  refine r_if_eq (tgt := 15) dX9_leaps_5 (by decide) (by omega) (fun h5 => ?_) (fun h5 => ?_)
  · omega
  ·
    refine r_iload_n dX9_leaps_8 rfl ?_
    refine r_callS1 okX9_isSet ⟨by decide, by decide⟩ ml_X9_81 (mX9_isSet (v := 1) (by omega) (by first | rw [if_pos (by omega)] | rw [if_neg (by omega)])) (Nat.le_of_ble_eq_true rfl) (Nat.le_of_ble_eq_true rfl) (Nat.le_of_ble_eq_true rfl) rfl dX9_leaps_9 (nx_I) (kx_I ?_)
    refine r_if_ne (tgt := 19) dX9_leaps_12 (by decide) (by omega) (fun h12 => ?_) (fun h12 => ?_)
    ·
      refine r_iload_n dX9_leaps_19 rfl ?_
      refine r_iconst dX9_leaps_20 ?_
      refine r_iconst dX9_leaps_21 ?_
      refine r_callS3 okX9_within ⟨by decide, by decide⟩ ml_X9_41 (mX9_within (v := 1) (by omega) (by omega) (by omega) (by first | rw [if_pos (by omega)] | rw [if_neg (by omega)])) (Nat.le_of_ble_eq_true rfl) (Nat.le_of_ble_eq_true rfl) (Nat.le_of_ble_eq_true rfl) rfl dX9_leaps_22 (nx_I) (kx_I ?_)
      refine r_if_eq (tgt := 32) dX9_leaps_25 (by decide) (by omega) (fun h25 => ?_) (fun h25 => ?_)
      · omega
      ·
        refine r_iconst dX9_leaps_28 ?_
        refine r_goto (tgt := 33) dX9_leaps_29 (by decide) ?_
        refine r_putfield clX9 5 (by decide) fl_X9_34 rfl hm.o rfl rfl (Nat.le_of_ble_eq_true rfl) dX9_leaps_33 ?_
        refine hm.w_thrown hi (fun Mx hm => ?_)
        refine r_aload_n dX9_leaps_36 rfl ?_
        refine r_getfield clX9 5 (by decide) fl_X9_34 hm.o rfl dX9_leaps_37 ?_
        refine r_if_le (tgt := 47) dX9_leaps_40 (by decide) (by omega) (fun h40 => ?_) (fun h40 => ?_)
        ·
          refine r_aload_n dX9_leaps_47 rfl ?_
          refine r_iload_n dX9_leaps_48 rfl ?_
          refine r_iload_n dX9_leaps_49 rfl ?_
          refine r_iload_n dX9_leaps_50 rfl ?_
          refine r_callV3 okX9_leapsNow ⟨by decide, by decide⟩ ml_X9_201 (mX9_leapsNow hm.q hi hz (by omega) (by omega) (by omega) (by omega) hv (by omega)) hm.o rfl rfl (Nat.le_of_ble_eq_true rfl) (Nat.le_of_ble_eq_true rfl) (Nat.le_of_ble_eq_true rfl) rfl dX9_leaps_51 (nx_tI) (kx_tI ?_)
          intro Mx hq
          obtain ⟨rA, sA, bA, wA, rm, bk, hm⟩ := hq
          refine e_ireturn dX9_leaps_54 rfl (Nat.le_of_ble_eq_true rfl) (Nat.le_of_ble_eq_true rfl) ?_
          exact okUR ((e2_ok (eSet_t hc0)).trans ((e2_ok (eSet_t hc1)).trans (eB_t hc2))) rfl ⟨_, _, _, _, _, _, _, _, _, hm.q, hz, hh, hm6, ht, hl⟩
        · omega
    · omega

theorem mX9_leaps {M0 M : Mem} {ad : Int → Nat} {n : Int → Int} {F : Int → Int → Int} {g : Int → Int} {m : Int} {S : Int → Sg3} {len : Int} {c : Int → Int} {th : Int} {k x w : Int} (hR : RS M0 M ad (n, F, g) m S len c th) (hi : Inj ad) (hv : Vld (n, F, g)) (q0 : R32 k) (q1 : R32 x) (q2 : R32 w) : Ct KX9_leaps [.ref (ad 112), vI k, vI x, vI w] M 0 0 (UR (e2 (eSet k) (e2 (eSet x) (eB (0 ≤ w ∧ w ≤ 3) xA))) (tolF (mtS n F g k x) w) tc3 (fun M2 => RS M0 M2 ad (n, F, g) m S len c 0) (fun t M2 => RS M0 M2 ad (n, F, g) m S len c t)) := by
  by_cases hc0 : 0 ≤ k ∧ k < 4
  · skip
    by_cases hc1 : 0 ≤ x ∧ x < 4
    · skip
      by_cases hc2 : 0 ≤ w ∧ w ≤ 3
      · skip
        exact mX9_leaps_ok hR hi hv q0 q1 q2 hc0 hc1 hc2
      · exact mX9_leaps_x2 hR hi hv q0 q1 q2 hc0 hc1 hc2
    · exact mX9_leaps_x1 hR hi hv q0 q1 q2 hc0 hc1
  · exact mX9_leaps_x0 hR hi hv q0 q1 q2 hc0

set_option maxHeartbeats 4000000 in
theorem mX9_count_x0 {M0 M : Mem} {ad : Int → Nat} {n : Int → Int} {F : Int → Int → Int} {g : Int → Int} {m : Int} {S : Int → Sg3} {len : Int} {c : Int → Int} {th : Int} {w : Int} (hR : RS M0 M ad (n, F, g) m S len c th) (hi : Inj ad) (hv : Vld (n, F, g)) (q0 : R32 w) (hc0 : ¬ (0 ≤ w ∧ w ≤ 6)) : Ct KX9_count [.ref (ad 112), vI w] M 0 0 (UR (eB (0 ≤ w ∧ w ≤ 6) xA) (cntV n F g m w) tc1 (fun M2 => RS M0 M2 ad (n, F, g) m S len c 0) (fun t M2 => RS M0 M2 ad (n, F, g) m S len c t)) := by
  refine Ct.of _ (by decide) rfl (Nat.le_of_ble_eq_true rfl) ?_
  obtain ⟨zA, hA, tA, pA, rd, nu, bd, sc, hs, ⟨rA, sA, bA, wA, rm, bk, hm⟩, hz, hh, hm6, ht, hl⟩ := hR
  change Zr zA n F g at hz
  obtain ⟨hvs, hv0, hv1, hv2, hv3⟩ := id hv
  dsimp only at hvs hv0 hv1 hv2 hv3
  have hg : (2 ≤ g 0 ∧ g 0 ≤ 16) ∧ 1 ≤ g 1 ∧ g 1 ≤ 9999 := ⟨⟨hv0, hv1⟩, hv2, hv3⟩
  refine r_aload_n dX9_count_0 rfl ?_
  refine r_iload_n dX9_count_1 rfl ?_
  refine r_iconst dX9_count_2 ?_
  refine r_bipush dX9_count_3 (by decide) ?_
  refine r_callS3 okX9_within ⟨by decide, by decide⟩ ml_X9_41 (mX9_within (v := 0) (by omega) (by omega) (by omega) (by first | rw [if_pos (by omega)] | rw [if_neg (by omega)])) (Nat.le_of_ble_eq_true rfl) (Nat.le_of_ble_eq_true rfl) (Nat.le_of_ble_eq_true rfl) rfl dX9_count_5 (nx_I) (kx_I ?_)
  refine r_if_eq (tgt := 15) dX9_count_8 (by decide) (by omega) (fun h8 => ?_) (fun h8 => ?_)
  ·
    refine r_iconst dX9_count_15 ?_
    refine r_putfield clX9 5 (by decide) fl_X9_34 rfl hm.o rfl rfl (Nat.le_of_ble_eq_true rfl) dX9_count_16 ?_
    refine hm.w_thrown hi (fun Mx hm => ?_)
    refine r_aload_n dX9_count_19 rfl ?_
    refine r_getfield clX9 5 (by decide) fl_X9_34 hm.o rfl dX9_count_20 ?_
    refine r_if_le (tgt := 30) dX9_count_23 (by decide) (by omega) (fun h23 => ?_) (fun h23 => ?_)
    · omega
    ·
      refine r_iconst dX9_count_26 ?_
      refine r_goto (tgt := 35) dX9_count_27 (by decide) ?_
      refine e_ireturn dX9_count_35 rfl (Nat.le_of_ble_eq_true rfl) (Nat.le_of_ble_eq_true rfl) ?_
      exact exUR (eB_f hc0) (by decide) (by decide) ⟨_, _, _, _, _, _, _, _, _, hm.q, hz, hh, hm6, ht, hl⟩
  · omega

set_option maxHeartbeats 4000000 in
theorem mX9_count_ok {M0 M : Mem} {ad : Int → Nat} {n : Int → Int} {F : Int → Int → Int} {g : Int → Int} {m : Int} {S : Int → Sg3} {len : Int} {c : Int → Int} {th : Int} {w : Int} (hR : RS M0 M ad (n, F, g) m S len c th) (hi : Inj ad) (hv : Vld (n, F, g)) (q0 : R32 w) (hc0 : 0 ≤ w ∧ w ≤ 6) : Ct KX9_count [.ref (ad 112), vI w] M 0 0 (UR (eB (0 ≤ w ∧ w ≤ 6) xA) (cntV n F g m w) tc1 (fun M2 => RS M0 M2 ad (n, F, g) m S len c 0) (fun t M2 => RS M0 M2 ad (n, F, g) m S len c t)) := by
  refine Ct.of _ (by decide) rfl (Nat.le_of_ble_eq_true rfl) ?_
  obtain ⟨zA, hA, tA, pA, rd, nu, bd, sc, hs, ⟨rA, sA, bA, wA, rm, bk, hm⟩, hz, hh, hm6, ht, hl⟩ := hR
  change Zr zA n F g at hz
  obtain ⟨hvs, hv0, hv1, hv2, hv3⟩ := id hv
  dsimp only at hvs hv0 hv1 hv2 hv3
  have hg : (2 ≤ g 0 ∧ g 0 ≤ 16) ∧ 1 ≤ g 1 ∧ g 1 ≤ 9999 := ⟨⟨hv0, hv1⟩, hv2, hv3⟩
  refine r_aload_n dX9_count_0 rfl ?_
  refine r_iload_n dX9_count_1 rfl ?_
  refine r_iconst dX9_count_2 ?_
  refine r_bipush dX9_count_3 (by decide) ?_
  refine r_callS3 okX9_within ⟨by decide, by decide⟩ ml_X9_41 (mX9_within (v := 1) (by omega) (by omega) (by omega) (by first | rw [if_pos (by omega)] | rw [if_neg (by omega)])) (Nat.le_of_ble_eq_true rfl) (Nat.le_of_ble_eq_true rfl) (Nat.le_of_ble_eq_true rfl) rfl dX9_count_5 (nx_I) (kx_I ?_)
  refine r_if_eq (tgt := 15) dX9_count_8 (by decide) (by omega) (fun h8 => ?_) (fun h8 => ?_)
  · omega
  ·
    refine r_iconst dX9_count_11 ?_
    refine r_goto (tgt := 16) dX9_count_12 (by decide) ?_
    refine r_putfield clX9 5 (by decide) fl_X9_34 rfl hm.o rfl rfl (Nat.le_of_ble_eq_true rfl) dX9_count_16 ?_
    refine hm.w_thrown hi (fun Mx hm => ?_)
    refine r_aload_n dX9_count_19 rfl ?_
    refine r_getfield clX9 5 (by decide) fl_X9_34 hm.o rfl dX9_count_20 ?_
    refine r_if_le (tgt := 30) dX9_count_23 (by decide) (by omega) (fun h23 => ?_) (fun h23 => ?_)
    ·
      refine r_aload_n dX9_count_30 rfl ?_
      refine r_iload_n dX9_count_31 rfl ?_
      refine r_callV1 okX9_counted ⟨by decide, by decide⟩ ml_X9_220 (mX9_counted hm.q hi hz hv (by omega)) hm.o rfl rfl (Nat.le_of_ble_eq_true rfl) (Nat.le_of_ble_eq_true rfl) (Nat.le_of_ble_eq_true rfl) rfl dX9_count_32 (nx_tI) (kx_tI ?_)
      intro Mx hq
      obtain ⟨rA, sA, bA, wA, rm, bk, hm⟩ := hq
      refine e_ireturn dX9_count_35 rfl (Nat.le_of_ble_eq_true rfl) (Nat.le_of_ble_eq_true rfl) ?_
      exact okUR (eB_t hc0) rfl ⟨_, _, _, _, _, _, _, _, _, hm.q, hz, hh, hm6, ht, hl⟩
    · omega

theorem mX9_count {M0 M : Mem} {ad : Int → Nat} {n : Int → Int} {F : Int → Int → Int} {g : Int → Int} {m : Int} {S : Int → Sg3} {len : Int} {c : Int → Int} {th : Int} {w : Int} (hR : RS M0 M ad (n, F, g) m S len c th) (hi : Inj ad) (hv : Vld (n, F, g)) (q0 : R32 w) : Ct KX9_count [.ref (ad 112), vI w] M 0 0 (UR (eB (0 ≤ w ∧ w ≤ 6) xA) (cntV n F g m w) tc1 (fun M2 => RS M0 M2 ad (n, F, g) m S len c 0) (fun t M2 => RS M0 M2 ad (n, F, g) m S len c t)) := by
  by_cases hc0 : 0 ≤ w ∧ w ≤ 6
  · skip
    exact mX9_count_ok hR hi hv q0 hc0
  · exact mX9_count_x0 hR hi hv q0 hc0

set_option maxHeartbeats 4000000 in
theorem mX9_setting_x0 {M0 M : Mem} {ad : Int → Nat} {n : Int → Int} {F : Int → Int → Int} {g : Int → Int} {m : Int} {S : Int → Sg3} {len : Int} {c : Int → Int} {th : Int} {k : Int} (hR : RS M0 M ad (n, F, g) m S len c th) (hi : Inj ad) (hv : Vld (n, F, g)) (q0 : R32 k) (hc0 : ¬ (0 ≤ k ∧ k < 2)) : Ct KX9_setting [.ref (ad 112), vI k] M 0 0 (UR (eStg k) (g k) tc1 (fun M2 => RS M0 M2 ad (n, F, g) m S len c 0) (fun t M2 => RS M0 M2 ad (n, F, g) m S len c t)) := by
  refine Ct.of _ (by decide) rfl (Nat.le_of_ble_eq_true rfl) ?_
  obtain ⟨zA, hA, tA, pA, rd, nu, bd, sc, hs, ⟨rA, sA, bA, wA, rm, bk, hm⟩, hz, hh, hm6, ht, hl⟩ := hR
  change Zr zA n F g at hz
  obtain ⟨hvs, hv0, hv1, hv2, hv3⟩ := id hv
  dsimp only at hvs hv0 hv1 hv2 hv3
  have hg : (2 ≤ g 0 ∧ g 0 ≤ 16) ∧ 1 ≤ g 1 ∧ g 1 ≤ 9999 := ⟨⟨hv0, hv1⟩, hv2, hv3⟩
  refine r_aload_n dX9_setting_0 rfl ?_
  refine r_iload_n dX9_setting_1 rfl ?_
  refine r_iconst dX9_setting_2 ?_
  refine r_iconst dX9_setting_3 ?_
  refine r_callS3 okX9_within ⟨by decide, by decide⟩ ml_X9_41 (mX9_within (v := 0) (by omega) (by omega) (by omega) (by first | rw [if_pos (by omega)] | rw [if_neg (by omega)])) (Nat.le_of_ble_eq_true rfl) (Nat.le_of_ble_eq_true rfl) (Nat.le_of_ble_eq_true rfl) rfl dX9_setting_4 (nx_I) (kx_I ?_)
  refine r_if_eq (tgt := 14) dX9_setting_7 (by decide) (by omega) (fun h7 => ?_) (fun h7 => ?_)
  ·
    refine r_iconst dX9_setting_14 ?_
    refine r_putfield clX9 5 (by decide) fl_X9_34 rfl hm.o rfl rfl (Nat.le_of_ble_eq_true rfl) dX9_setting_15 ?_
    refine hm.w_thrown hi (fun Mx hm => ?_)
    refine r_aload_n dX9_setting_18 rfl ?_
    refine r_getfield clX9 5 (by decide) fl_X9_34 hm.o rfl dX9_setting_19 ?_
    refine r_if_le (tgt := 29) dX9_setting_22 (by decide) (by omega) (fun h22 => ?_) (fun h22 => ?_)
    · omega
    ·
      refine r_iconst dX9_setting_25 ?_
      refine r_goto (tgt := 35) dX9_setting_26 (by decide) ?_
      refine e_ireturn dX9_setting_35 rfl (Nat.le_of_ble_eq_true rfl) (Nat.le_of_ble_eq_true rfl) ?_
      exact exUR (eStg_f hc0) (by decide) (by decide) ⟨_, _, _, _, _, _, _, _, _, hm.q, hz, hh, hm6, ht, hl⟩
  · omega

set_option maxHeartbeats 4000000 in
theorem mX9_setting_ok {M0 M : Mem} {ad : Int → Nat} {n : Int → Int} {F : Int → Int → Int} {g : Int → Int} {m : Int} {S : Int → Sg3} {len : Int} {c : Int → Int} {th : Int} {k : Int} (hR : RS M0 M ad (n, F, g) m S len c th) (hi : Inj ad) (hv : Vld (n, F, g)) (q0 : R32 k) (hc0 : 0 ≤ k ∧ k < 2) : Ct KX9_setting [.ref (ad 112), vI k] M 0 0 (UR (eStg k) (g k) tc1 (fun M2 => RS M0 M2 ad (n, F, g) m S len c 0) (fun t M2 => RS M0 M2 ad (n, F, g) m S len c t)) := by
  refine Ct.of _ (by decide) rfl (Nat.le_of_ble_eq_true rfl) ?_
  obtain ⟨zA, hA, tA, pA, rd, nu, bd, sc, hs, ⟨rA, sA, bA, wA, rm, bk, hm⟩, hz, hh, hm6, ht, hl⟩ := hR
  change Zr zA n F g at hz
  obtain ⟨hvs, hv0, hv1, hv2, hv3⟩ := id hv
  dsimp only at hvs hv0 hv1 hv2 hv3
  have hg : (2 ≤ g 0 ∧ g 0 ≤ 16) ∧ 1 ≤ g 1 ∧ g 1 ≤ 9999 := ⟨⟨hv0, hv1⟩, hv2, hv3⟩
  refine r_aload_n dX9_setting_0 rfl ?_
  refine r_iload_n dX9_setting_1 rfl ?_
  refine r_iconst dX9_setting_2 ?_
  refine r_iconst dX9_setting_3 ?_
  refine r_callS3 okX9_within ⟨by decide, by decide⟩ ml_X9_41 (mX9_within (v := 1) (by omega) (by omega) (by omega) (by first | rw [if_pos (by omega)] | rw [if_neg (by omega)])) (Nat.le_of_ble_eq_true rfl) (Nat.le_of_ble_eq_true rfl) (Nat.le_of_ble_eq_true rfl) rfl dX9_setting_4 (nx_I) (kx_I ?_)
  refine r_if_eq (tgt := 14) dX9_setting_7 (by decide) (by omega) (fun h7 => ?_) (fun h7 => ?_)
  · omega
  ·
    refine r_iconst dX9_setting_10 ?_
    refine r_goto (tgt := 15) dX9_setting_11 (by decide) ?_
    refine r_putfield clX9 5 (by decide) fl_X9_34 rfl hm.o rfl rfl (Nat.le_of_ble_eq_true rfl) dX9_setting_15 ?_
    refine hm.w_thrown hi (fun Mx hm => ?_)
    refine r_aload_n dX9_setting_18 rfl ?_
    refine r_getfield clX9 5 (by decide) fl_X9_34 hm.o rfl dX9_setting_19 ?_
    refine r_if_le (tgt := 29) dX9_setting_22 (by decide) (by omega) (fun h22 => ?_) (fun h22 => ?_)
    ·
      refine r_aload_n dX9_setting_29 rfl ?_
      refine r_getfield clX9 0 (by decide) fl_X9_7 hm.o rfl dX9_setting_30 ?_
      refine r_iload_n dX9_setting_33 rfl ?_
      refine r_iaload hm.z (by omega) (by omega) (by omega) dX9_setting_34 ?_
      refine e_ireturn dX9_setting_35 rfl (Nat.le_of_ble_eq_true rfl) (Nat.le_of_ble_eq_true rfl) ?_
      exact okUR (eStg_t hc0) (by rcases (show k = 0 ∨ k = 1 by omega) with rfl | rfl; exact hz.1; exact hz.2.1) ⟨_, _, _, _, _, _, _, _, _, hm.q, hz, hh, hm6, ht, hl⟩
    · omega

theorem mX9_setting {M0 M : Mem} {ad : Int → Nat} {n : Int → Int} {F : Int → Int → Int} {g : Int → Int} {m : Int} {S : Int → Sg3} {len : Int} {c : Int → Int} {th : Int} {k : Int} (hR : RS M0 M ad (n, F, g) m S len c th) (hi : Inj ad) (hv : Vld (n, F, g)) (q0 : R32 k) : Ct KX9_setting [.ref (ad 112), vI k] M 0 0 (UR (eStg k) (g k) tc1 (fun M2 => RS M0 M2 ad (n, F, g) m S len c 0) (fun t M2 => RS M0 M2 ad (n, F, g) m S len c t)) := by
  by_cases hc0 : 0 ≤ k ∧ k < 2
  · skip
    exact mX9_setting_ok hR hi hv q0 hc0
  · exact mX9_setting_x0 hR hi hv q0 hc0

set_option maxHeartbeats 4000000 in
theorem mX9_ifSet_x0 {M0 M : Mem} {ad : Int → Nat} {n : Int → Int} {F : Int → Int → Int} {g : Int → Int} {m : Int} {S : Int → Sg3} {len : Int} {c : Int → Int} {th : Int} {k a b : Int} (hR : RS M0 M ad (n, F, g) m S len c th) (hi : Inj ad) (hv : Vld (n, F, g)) (q0 : R32 k) (q1 : R32 a) (q2 : R32 b) (hc0 : ¬ (0 ≤ k ∧ k < 4)) : Ct KX9_ifSet [.ref (ad 112), vI k, vI a, vI b] M 0 0 (UR (e2 (eSet k) (eB ((2 ≤ a ∧ a ≤ 16) ∧ (1 ≤ b ∧ b ≤ 9999)) xA)) (byF (n k) (F k) a b (n k).toNat 0 0) tc3 (fun M2 => RS M0 M2 ad (n, F, g) m S len c 0) (fun t M2 => RS M0 M2 ad (n, F, g) m S len c t)) := by
  refine Ct.of _ (by decide) rfl (Nat.le_of_ble_eq_true rfl) ?_
  obtain ⟨zA, hA, tA, pA, rd, nu, bd, sc, hs, ⟨rA, sA, bA, wA, rm, bk, hm⟩, hz, hh, hm6, ht, hl⟩ := hR
  change Zr zA n F g at hz
  obtain ⟨hvs, hv0, hv1, hv2, hv3⟩ := id hv
  dsimp only at hvs hv0 hv1 hv2 hv3
  have hg : (2 ≤ g 0 ∧ g 0 ≤ 16) ∧ 1 ≤ g 1 ∧ g 1 ≤ 9999 := ⟨⟨hv0, hv1⟩, hv2, hv3⟩
  refine r_aload_n dX9_ifSet_0 rfl ?_
  refine r_iload_n dX9_ifSet_1 rfl ?_
  refine r_callS1 okX9_isSet ⟨by decide, by decide⟩ ml_X9_81 (mX9_isSet (v := 0) (by omega) (by first | rw [if_pos (by omega)] | rw [if_neg (by omega)])) (Nat.le_of_ble_eq_true rfl) (Nat.le_of_ble_eq_true rfl) (Nat.le_of_ble_eq_true rfl) rfl dX9_ifSet_2 (nx_I) (kx_I ?_)
  refine r_if_ne (tgt := 12) dX9_ifSet_5 (by decide) (by omega) (fun h5 => ?_) (fun h5 => ?_)
  · omega
  ·
    refine r_iconst dX9_ifSet_8 ?_
    refine r_goto (tgt := 31) dX9_ifSet_9 (by decide) ?_
    refine r_putfield clX9 5 (by decide) fl_X9_34 rfl hm.o rfl rfl (Nat.le_of_ble_eq_true rfl) dX9_ifSet_31 ?_
    refine hm.w_thrown hi (fun Mx hm => ?_)
    refine r_aload_n dX9_ifSet_34 rfl ?_
    refine r_getfield clX9 5 (by decide) fl_X9_34 hm.o rfl dX9_ifSet_35 ?_
    refine r_if_le (tgt := 45) dX9_ifSet_38 (by decide) (by omega) (fun h38 => ?_) (fun h38 => ?_)
    · omega
    ·
      refine r_iconst dX9_ifSet_41 ?_
      refine r_goto (tgt := 52) dX9_ifSet_42 (by decide) ?_
      refine e_ireturn dX9_ifSet_52 rfl (Nat.le_of_ble_eq_true rfl) (Nat.le_of_ble_eq_true rfl) ?_
      exact exUR (e2_x (eSet_f hc0) (by decide)) (by decide) (by decide) ⟨_, _, _, _, _, _, _, _, _, hm.q, hz, hh, hm6, ht, hl⟩

set_option maxHeartbeats 4000000 in
theorem mX9_ifSet_x1 {M0 M : Mem} {ad : Int → Nat} {n : Int → Int} {F : Int → Int → Int} {g : Int → Int} {m : Int} {S : Int → Sg3} {len : Int} {c : Int → Int} {th : Int} {k a b : Int} (hR : RS M0 M ad (n, F, g) m S len c th) (hi : Inj ad) (hv : Vld (n, F, g)) (q0 : R32 k) (q1 : R32 a) (q2 : R32 b) (hc0 : 0 ≤ k ∧ k < 4) (hc1 : ¬ ((2 ≤ a ∧ a ≤ 16) ∧ (1 ≤ b ∧ b ≤ 9999))) : Ct KX9_ifSet [.ref (ad 112), vI k, vI a, vI b] M 0 0 (UR (e2 (eSet k) (eB ((2 ≤ a ∧ a ≤ 16) ∧ (1 ≤ b ∧ b ≤ 9999)) xA)) (byF (n k) (F k) a b (n k).toNat 0 0) tc3 (fun M2 => RS M0 M2 ad (n, F, g) m S len c 0) (fun t M2 => RS M0 M2 ad (n, F, g) m S len c t)) := by
  refine Ct.of _ (by decide) rfl (Nat.le_of_ble_eq_true rfl) ?_
  obtain ⟨zA, hA, tA, pA, rd, nu, bd, sc, hs, ⟨rA, sA, bA, wA, rm, bk, hm⟩, hz, hh, hm6, ht, hl⟩ := hR
  change Zr zA n F g at hz
  obtain ⟨hvs, hv0, hv1, hv2, hv3⟩ := id hv
  dsimp only at hvs hv0 hv1 hv2 hv3
  have hg : (2 ≤ g 0 ∧ g 0 ≤ 16) ∧ 1 ≤ g 1 ∧ g 1 ≤ 9999 := ⟨⟨hv0, hv1⟩, hv2, hv3⟩
  refine r_aload_n dX9_ifSet_0 rfl ?_
  refine r_iload_n dX9_ifSet_1 rfl ?_
  refine r_callS1 okX9_isSet ⟨by decide, by decide⟩ ml_X9_81 (mX9_isSet (v := 1) (by omega) (by first | rw [if_pos (by omega)] | rw [if_neg (by omega)])) (Nat.le_of_ble_eq_true rfl) (Nat.le_of_ble_eq_true rfl) (Nat.le_of_ble_eq_true rfl) rfl dX9_ifSet_2 (nx_I) (kx_I ?_)
  refine r_if_ne (tgt := 12) dX9_ifSet_5 (by decide) (by omega) (fun h5 => ?_) (fun h5 => ?_)
  ·
    rcases (show (¬ (2 ≤ a ∧ a ≤ 16)) ∨ ((2 ≤ a ∧ a ≤ 16) ∧ ¬ (1 ≤ b ∧ b ≤ 9999)) by omega) with hc12 | hc12
    ·
      refine r_iload_n dX9_ifSet_12 rfl ?_
      refine r_callS1 okX9_isMost ⟨by decide, by decide⟩ ml_X9_121 (mX9_isMost (v := if 2 ≤ a ∧ a ≤ 16 then 1 else 0) (by omega) rfl) (Nat.le_of_ble_eq_true rfl) (Nat.le_of_ble_eq_true rfl) (Nat.le_of_ble_eq_true rfl) rfl dX9_ifSet_13 (nx_I) (kx_I ?_)
      first | rw [if_pos (by omega)] | rw [if_neg (by omega)]
      refine r_if_eq (tgt := 30) dX9_ifSet_16 (by decide) (by omega) (fun h16 => ?_) (fun h16 => ?_)
      ·
        refine r_iconst dX9_ifSet_30 ?_
        refine r_putfield clX9 5 (by decide) fl_X9_34 rfl hm.o rfl rfl (Nat.le_of_ble_eq_true rfl) dX9_ifSet_31 ?_
        refine hm.w_thrown hi (fun Mx hm => ?_)
        refine r_aload_n dX9_ifSet_34 rfl ?_
        refine r_getfield clX9 5 (by decide) fl_X9_34 hm.o rfl dX9_ifSet_35 ?_
        refine r_if_le (tgt := 45) dX9_ifSet_38 (by decide) (by omega) (fun h38 => ?_) (fun h38 => ?_)
        · omega
        ·
          refine r_iconst dX9_ifSet_41 ?_
          refine r_goto (tgt := 52) dX9_ifSet_42 (by decide) ?_
          refine e_ireturn dX9_ifSet_52 rfl (Nat.le_of_ble_eq_true rfl) (Nat.le_of_ble_eq_true rfl) ?_
          exact exUR ((e2_ok (eSet_t hc0)).trans (eB_f hc1)) (by decide) (by decide) ⟨_, _, _, _, _, _, _, _, _, hm.q, hz, hh, hm6, ht, hl⟩
      · omega
    ·
      refine r_iload_n dX9_ifSet_12 rfl ?_
      refine r_callS1 okX9_isMost ⟨by decide, by decide⟩ ml_X9_121 (mX9_isMost (v := if 2 ≤ a ∧ a ≤ 16 then 1 else 0) (by omega) rfl) (Nat.le_of_ble_eq_true rfl) (Nat.le_of_ble_eq_true rfl) (Nat.le_of_ble_eq_true rfl) rfl dX9_ifSet_13 (nx_I) (kx_I ?_)
      first | rw [if_pos (by omega)] | rw [if_neg (by omega)]
      refine r_if_eq (tgt := 30) dX9_ifSet_16 (by decide) (by omega) (fun h16 => ?_) (fun h16 => ?_)
      · omega
      ·
        refine r_iload_n dX9_ifSet_19 rfl ?_
        refine r_callS1 okX9_isWidth ⟨by decide, by decide⟩ ml_X9_124 (mX9_isWidth (v := if 1 ≤ b ∧ b ≤ 9999 then 1 else 0) (by omega) rfl) (Nat.le_of_ble_eq_true rfl) (Nat.le_of_ble_eq_true rfl) (Nat.le_of_ble_eq_true rfl) rfl dX9_ifSet_20 (nx_I) (kx_I ?_)
        first | rw [if_pos (by omega)] | rw [if_neg (by omega)]
        refine r_if_eq (tgt := 30) dX9_ifSet_23 (by decide) (by omega) (fun h23 => ?_) (fun h23 => ?_)
        ·
          refine r_iconst dX9_ifSet_30 ?_
          refine r_putfield clX9 5 (by decide) fl_X9_34 rfl hm.o rfl rfl (Nat.le_of_ble_eq_true rfl) dX9_ifSet_31 ?_
          refine hm.w_thrown hi (fun Mx hm => ?_)
          refine r_aload_n dX9_ifSet_34 rfl ?_
          refine r_getfield clX9 5 (by decide) fl_X9_34 hm.o rfl dX9_ifSet_35 ?_
          refine r_if_le (tgt := 45) dX9_ifSet_38 (by decide) (by omega) (fun h38 => ?_) (fun h38 => ?_)
          · omega
          ·
            refine r_iconst dX9_ifSet_41 ?_
            refine r_goto (tgt := 52) dX9_ifSet_42 (by decide) ?_
            refine e_ireturn dX9_ifSet_52 rfl (Nat.le_of_ble_eq_true rfl) (Nat.le_of_ble_eq_true rfl) ?_
            exact exUR ((e2_ok (eSet_t hc0)).trans (eB_f hc1)) (by decide) (by decide) ⟨_, _, _, _, _, _, _, _, _, hm.q, hz, hh, hm6, ht, hl⟩
        · omega
  · omega

set_option maxHeartbeats 4000000 in
theorem mX9_ifSet_ok {M0 M : Mem} {ad : Int → Nat} {n : Int → Int} {F : Int → Int → Int} {g : Int → Int} {m : Int} {S : Int → Sg3} {len : Int} {c : Int → Int} {th : Int} {k a b : Int} (hR : RS M0 M ad (n, F, g) m S len c th) (hi : Inj ad) (hv : Vld (n, F, g)) (q0 : R32 k) (q1 : R32 a) (q2 : R32 b) (hc0 : 0 ≤ k ∧ k < 4) (hc1 : (2 ≤ a ∧ a ≤ 16) ∧ (1 ≤ b ∧ b ≤ 9999)) : Ct KX9_ifSet [.ref (ad 112), vI k, vI a, vI b] M 0 0 (UR (e2 (eSet k) (eB ((2 ≤ a ∧ a ≤ 16) ∧ (1 ≤ b ∧ b ≤ 9999)) xA)) (byF (n k) (F k) a b (n k).toNat 0 0) tc3 (fun M2 => RS M0 M2 ad (n, F, g) m S len c 0) (fun t M2 => RS M0 M2 ad (n, F, g) m S len c t)) := by
  refine Ct.of _ (by decide) rfl (Nat.le_of_ble_eq_true rfl) ?_
  obtain ⟨zA, hA, tA, pA, rd, nu, bd, sc, hs, ⟨rA, sA, bA, wA, rm, bk, hm⟩, hz, hh, hm6, ht, hl⟩ := hR
  change Zr zA n F g at hz
  obtain ⟨hvs, hv0, hv1, hv2, hv3⟩ := id hv
  dsimp only at hvs hv0 hv1 hv2 hv3
  have hg : (2 ≤ g 0 ∧ g 0 ≤ 16) ∧ 1 ≤ g 1 ∧ g 1 ≤ 9999 := ⟨⟨hv0, hv1⟩, hv2, hv3⟩
  refine r_aload_n dX9_ifSet_0 rfl ?_
  refine r_iload_n dX9_ifSet_1 rfl ?_
  refine r_callS1 okX9_isSet ⟨by decide, by decide⟩ ml_X9_81 (mX9_isSet (v := 1) (by omega) (by first | rw [if_pos (by omega)] | rw [if_neg (by omega)])) (Nat.le_of_ble_eq_true rfl) (Nat.le_of_ble_eq_true rfl) (Nat.le_of_ble_eq_true rfl) rfl dX9_ifSet_2 (nx_I) (kx_I ?_)
  refine r_if_ne (tgt := 12) dX9_ifSet_5 (by decide) (by omega) (fun h5 => ?_) (fun h5 => ?_)
  ·
    refine r_iload_n dX9_ifSet_12 rfl ?_
    refine r_callS1 okX9_isMost ⟨by decide, by decide⟩ ml_X9_121 (mX9_isMost (v := if 2 ≤ a ∧ a ≤ 16 then 1 else 0) (by omega) rfl) (Nat.le_of_ble_eq_true rfl) (Nat.le_of_ble_eq_true rfl) (Nat.le_of_ble_eq_true rfl) rfl dX9_ifSet_13 (nx_I) (kx_I ?_)
    first | rw [if_pos (by omega)] | rw [if_neg (by omega)]
    refine r_if_eq (tgt := 30) dX9_ifSet_16 (by decide) (by omega) (fun h16 => ?_) (fun h16 => ?_)
    · omega
    ·
      refine r_iload_n dX9_ifSet_19 rfl ?_
      refine r_callS1 okX9_isWidth ⟨by decide, by decide⟩ ml_X9_124 (mX9_isWidth (v := if 1 ≤ b ∧ b ≤ 9999 then 1 else 0) (by omega) rfl) (Nat.le_of_ble_eq_true rfl) (Nat.le_of_ble_eq_true rfl) (Nat.le_of_ble_eq_true rfl) rfl dX9_ifSet_20 (nx_I) (kx_I ?_)
      first | rw [if_pos (by omega)] | rw [if_neg (by omega)]
      refine r_if_eq (tgt := 30) dX9_ifSet_23 (by decide) (by omega) (fun h23 => ?_) (fun h23 => ?_)
      · omega
      ·
        refine r_iconst dX9_ifSet_26 ?_
        refine r_goto (tgt := 31) dX9_ifSet_27 (by decide) ?_
        refine r_putfield clX9 5 (by decide) fl_X9_34 rfl hm.o rfl rfl (Nat.le_of_ble_eq_true rfl) dX9_ifSet_31 ?_
        refine hm.w_thrown hi (fun Mx hm => ?_)
        refine r_aload_n dX9_ifSet_34 rfl ?_
        refine r_getfield clX9 5 (by decide) fl_X9_34 hm.o rfl dX9_ifSet_35 ?_
        refine r_if_le (tgt := 45) dX9_ifSet_38 (by decide) (by omega) (fun h38 => ?_) (fun h38 => ?_)
        ·
          refine r_aload_n dX9_ifSet_45 rfl ?_
          refine r_iload_n dX9_ifSet_46 rfl ?_
          refine r_iload_n dX9_ifSet_47 rfl ?_
          refine r_iload_n dX9_ifSet_48 rfl ?_
          refine r_callV3 okX9_sizeBy ⟨by decide, by decide⟩ ml_X9_77 (mX9_sizeBy hm.q hi hz (by omega) (by omega) (by omega) (by omega)) hm.o rfl rfl (Nat.le_of_ble_eq_true rfl) (Nat.le_of_ble_eq_true rfl) (Nat.le_of_ble_eq_true rfl) rfl dX9_ifSet_49 (nx_tI) (kx_tI ?_)
          intro Mx hq
          obtain ⟨rA, sA, bA, wA, rm, bk, hm⟩ := hq
          refine e_ireturn dX9_ifSet_52 rfl (Nat.le_of_ble_eq_true rfl) (Nat.le_of_ble_eq_true rfl) ?_
          exact okUR ((e2_ok (eSet_t hc0)).trans (eB_t hc1)) rfl ⟨_, _, _, _, _, _, _, _, _, hm.q, hz, hh, hm6, ht, hl⟩
        · omega
  · omega

theorem mX9_ifSet {M0 M : Mem} {ad : Int → Nat} {n : Int → Int} {F : Int → Int → Int} {g : Int → Int} {m : Int} {S : Int → Sg3} {len : Int} {c : Int → Int} {th : Int} {k a b : Int} (hR : RS M0 M ad (n, F, g) m S len c th) (hi : Inj ad) (hv : Vld (n, F, g)) (q0 : R32 k) (q1 : R32 a) (q2 : R32 b) : Ct KX9_ifSet [.ref (ad 112), vI k, vI a, vI b] M 0 0 (UR (e2 (eSet k) (eB ((2 ≤ a ∧ a ≤ 16) ∧ (1 ≤ b ∧ b ≤ 9999)) xA)) (byF (n k) (F k) a b (n k).toNat 0 0) tc3 (fun M2 => RS M0 M2 ad (n, F, g) m S len c 0) (fun t M2 => RS M0 M2 ad (n, F, g) m S len c t)) := by
  by_cases hc0 : 0 ≤ k ∧ k < 4
  · skip
    by_cases hc1 : (2 ≤ a ∧ a ≤ 16) ∧ (1 ≤ b ∧ b ≤ 9999)
    · skip
      exact mX9_ifSet_ok hR hi hv q0 q1 q2 hc0 hc1
    · exact mX9_ifSet_x1 hR hi hv q0 q1 q2 hc0 hc1
  · exact mX9_ifSet_x0 hR hi hv q0 q1 q2 hc0

set_option maxHeartbeats 4000000 in
theorem mX9_ifAdded_x0 {M0 M : Mem} {ad : Int → Nat} {n : Int → Int} {F : Int → Int → Int} {g : Int → Int} {m : Int} {S : Int → Sg3} {len : Int} {c : Int → Int} {th : Int} {k x : Int} (hR : RS M0 M ad (n, F, g) m S len c th) (hi : Inj ad) (hv : Vld (n, F, g)) (q0 : R32 k) (q1 : R32 x) (hc0 : ¬ (0 ≤ k ∧ k < 4)) : Ct KX9_ifAdded [.ref (ad 112), vI k, vI x] M 0 0 (UR (e2 (eSet k) (eB (0 ≤ x ∧ x ≤ 9999) xA)) (iaV (n k) (F k) g x) tc3 (fun M2 => RS M0 M2 ad (n, F, g) m S len c 0) (fun t M2 => RS M0 M2 ad (n, F, g) m S len c t)) := by
  refine Ct.of _ (by decide) rfl (Nat.le_of_ble_eq_true rfl) ?_
  obtain ⟨zA, hA, tA, pA, rd, nu, bd, sc, hs, ⟨rA, sA, bA, wA, rm, bk, hm⟩, hz, hh, hm6, ht, hl⟩ := hR
  change Zr zA n F g at hz
  obtain ⟨hvs, hv0, hv1, hv2, hv3⟩ := id hv
  dsimp only at hvs hv0 hv1 hv2 hv3
  have hg : (2 ≤ g 0 ∧ g 0 ≤ 16) ∧ 1 ≤ g 1 ∧ g 1 ≤ 9999 := ⟨⟨hv0, hv1⟩, hv2, hv3⟩
  refine r_aload_n dX9_ifAdded_0 rfl ?_
  refine r_iload_n dX9_ifAdded_1 rfl ?_
  refine r_callS1 okX9_isSet ⟨by decide, by decide⟩ ml_X9_81 (mX9_isSet (v := 0) (by omega) (by first | rw [if_pos (by omega)] | rw [if_neg (by omega)])) (Nat.le_of_ble_eq_true rfl) (Nat.le_of_ble_eq_true rfl) (Nat.le_of_ble_eq_true rfl) rfl dX9_ifAdded_2 (nx_I) (kx_I ?_)
  refine r_if_ne (tgt := 12) dX9_ifAdded_5 (by decide) (by omega) (fun h5 => ?_) (fun h5 => ?_)
  · omega
  ·
    refine r_iconst dX9_ifAdded_8 ?_
    refine r_goto (tgt := 24) dX9_ifAdded_9 (by decide) ?_
    refine r_putfield clX9 5 (by decide) fl_X9_34 rfl hm.o rfl rfl (Nat.le_of_ble_eq_true rfl) dX9_ifAdded_24 ?_
    refine hm.w_thrown hi (fun Mx hm => ?_)
    refine r_aload_n dX9_ifAdded_27 rfl ?_
    refine r_getfield clX9 5 (by decide) fl_X9_34 hm.o rfl dX9_ifAdded_28 ?_
    refine r_if_le (tgt := 38) dX9_ifAdded_31 (by decide) (by omega) (fun h31 => ?_) (fun h31 => ?_)
    · omega
    ·
      refine r_iconst dX9_ifAdded_34 ?_
      refine r_goto (tgt := 44) dX9_ifAdded_35 (by decide) ?_
      refine e_ireturn dX9_ifAdded_44 rfl (Nat.le_of_ble_eq_true rfl) (Nat.le_of_ble_eq_true rfl) ?_
      exact exUR (e2_x (eSet_f hc0) (by decide)) (by decide) (by decide) ⟨_, _, _, _, _, _, _, _, _, hm.q, hz, hh, hm6, ht, hl⟩

set_option maxHeartbeats 4000000 in
theorem mX9_ifAdded_x1 {M0 M : Mem} {ad : Int → Nat} {n : Int → Int} {F : Int → Int → Int} {g : Int → Int} {m : Int} {S : Int → Sg3} {len : Int} {c : Int → Int} {th : Int} {k x : Int} (hR : RS M0 M ad (n, F, g) m S len c th) (hi : Inj ad) (hv : Vld (n, F, g)) (q0 : R32 k) (q1 : R32 x) (hc0 : 0 ≤ k ∧ k < 4) (hc1 : ¬ (0 ≤ x ∧ x ≤ 9999)) : Ct KX9_ifAdded [.ref (ad 112), vI k, vI x] M 0 0 (UR (e2 (eSet k) (eB (0 ≤ x ∧ x ≤ 9999) xA)) (iaV (n k) (F k) g x) tc3 (fun M2 => RS M0 M2 ad (n, F, g) m S len c 0) (fun t M2 => RS M0 M2 ad (n, F, g) m S len c t)) := by
  refine Ct.of _ (by decide) rfl (Nat.le_of_ble_eq_true rfl) ?_
  obtain ⟨zA, hA, tA, pA, rd, nu, bd, sc, hs, ⟨rA, sA, bA, wA, rm, bk, hm⟩, hz, hh, hm6, ht, hl⟩ := hR
  change Zr zA n F g at hz
  obtain ⟨hvs, hv0, hv1, hv2, hv3⟩ := id hv
  dsimp only at hvs hv0 hv1 hv2 hv3
  have hg : (2 ≤ g 0 ∧ g 0 ≤ 16) ∧ 1 ≤ g 1 ∧ g 1 ≤ 9999 := ⟨⟨hv0, hv1⟩, hv2, hv3⟩
  refine r_aload_n dX9_ifAdded_0 rfl ?_
  refine r_iload_n dX9_ifAdded_1 rfl ?_
  refine r_callS1 okX9_isSet ⟨by decide, by decide⟩ ml_X9_81 (mX9_isSet (v := 1) (by omega) (by first | rw [if_pos (by omega)] | rw [if_neg (by omega)])) (Nat.le_of_ble_eq_true rfl) (Nat.le_of_ble_eq_true rfl) (Nat.le_of_ble_eq_true rfl) rfl dX9_ifAdded_2 (nx_I) (kx_I ?_)
  refine r_if_ne (tgt := 12) dX9_ifAdded_5 (by decide) (by omega) (fun h5 => ?_) (fun h5 => ?_)
  ·
    refine r_iload_n dX9_ifAdded_12 rfl ?_
    refine r_callS1 okX9_isNumber ⟨by decide, by decide⟩ ml_X9_85 (mX9_isNumber (v := 0) (by omega) (by first | rw [if_pos (by omega)] | rw [if_neg (by omega)])) (Nat.le_of_ble_eq_true rfl) (Nat.le_of_ble_eq_true rfl) (Nat.le_of_ble_eq_true rfl) rfl dX9_ifAdded_13 (nx_I) (kx_I ?_)
    refine r_if_eq (tgt := 23) dX9_ifAdded_16 (by decide) (by omega) (fun h16 => ?_) (fun h16 => ?_)
    ·
      refine r_iconst dX9_ifAdded_23 ?_
      refine r_putfield clX9 5 (by decide) fl_X9_34 rfl hm.o rfl rfl (Nat.le_of_ble_eq_true rfl) dX9_ifAdded_24 ?_
      refine hm.w_thrown hi (fun Mx hm => ?_)
      refine r_aload_n dX9_ifAdded_27 rfl ?_
      refine r_getfield clX9 5 (by decide) fl_X9_34 hm.o rfl dX9_ifAdded_28 ?_
      refine r_if_le (tgt := 38) dX9_ifAdded_31 (by decide) (by omega) (fun h31 => ?_) (fun h31 => ?_)
      · omega
      ·
        refine r_iconst dX9_ifAdded_34 ?_
        refine r_goto (tgt := 44) dX9_ifAdded_35 (by decide) ?_
        refine e_ireturn dX9_ifAdded_44 rfl (Nat.le_of_ble_eq_true rfl) (Nat.le_of_ble_eq_true rfl) ?_
        exact exUR ((e2_ok (eSet_t hc0)).trans (eB_f hc1)) (by decide) (by decide) ⟨_, _, _, _, _, _, _, _, _, hm.q, hz, hh, hm6, ht, hl⟩
    · omega
  · omega

set_option maxHeartbeats 4000000 in
theorem mX9_ifAdded_ok {M0 M : Mem} {ad : Int → Nat} {n : Int → Int} {F : Int → Int → Int} {g : Int → Int} {m : Int} {S : Int → Sg3} {len : Int} {c : Int → Int} {th : Int} {k x : Int} (hR : RS M0 M ad (n, F, g) m S len c th) (hi : Inj ad) (hv : Vld (n, F, g)) (q0 : R32 k) (q1 : R32 x) (hc0 : 0 ≤ k ∧ k < 4) (hc1 : 0 ≤ x ∧ x ≤ 9999) : Ct KX9_ifAdded [.ref (ad 112), vI k, vI x] M 0 0 (UR (e2 (eSet k) (eB (0 ≤ x ∧ x ≤ 9999) xA)) (iaV (n k) (F k) g x) tc3 (fun M2 => RS M0 M2 ad (n, F, g) m S len c 0) (fun t M2 => RS M0 M2 ad (n, F, g) m S len c t)) := by
  refine Ct.of _ (by decide) rfl (Nat.le_of_ble_eq_true rfl) ?_
  obtain ⟨zA, hA, tA, pA, rd, nu, bd, sc, hs, ⟨rA, sA, bA, wA, rm, bk, hm⟩, hz, hh, hm6, ht, hl⟩ := hR
  change Zr zA n F g at hz
  obtain ⟨hvs, hv0, hv1, hv2, hv3⟩ := id hv
  dsimp only at hvs hv0 hv1 hv2 hv3
  have hg : (2 ≤ g 0 ∧ g 0 ≤ 16) ∧ 1 ≤ g 1 ∧ g 1 ≤ 9999 := ⟨⟨hv0, hv1⟩, hv2, hv3⟩
  refine r_aload_n dX9_ifAdded_0 rfl ?_
  refine r_iload_n dX9_ifAdded_1 rfl ?_
  refine r_callS1 okX9_isSet ⟨by decide, by decide⟩ ml_X9_81 (mX9_isSet (v := 1) (by omega) (by first | rw [if_pos (by omega)] | rw [if_neg (by omega)])) (Nat.le_of_ble_eq_true rfl) (Nat.le_of_ble_eq_true rfl) (Nat.le_of_ble_eq_true rfl) rfl dX9_ifAdded_2 (nx_I) (kx_I ?_)
  refine r_if_ne (tgt := 12) dX9_ifAdded_5 (by decide) (by omega) (fun h5 => ?_) (fun h5 => ?_)
  ·
    refine r_iload_n dX9_ifAdded_12 rfl ?_
    refine r_callS1 okX9_isNumber ⟨by decide, by decide⟩ ml_X9_85 (mX9_isNumber (v := 1) (by omega) (by first | rw [if_pos (by omega)] | rw [if_neg (by omega)])) (Nat.le_of_ble_eq_true rfl) (Nat.le_of_ble_eq_true rfl) (Nat.le_of_ble_eq_true rfl) rfl dX9_ifAdded_13 (nx_I) (kx_I ?_)
    refine r_if_eq (tgt := 23) dX9_ifAdded_16 (by decide) (by omega) (fun h16 => ?_) (fun h16 => ?_)
    · omega
    ·
      refine r_iconst dX9_ifAdded_19 ?_
      refine r_goto (tgt := 24) dX9_ifAdded_20 (by decide) ?_
      refine r_putfield clX9 5 (by decide) fl_X9_34 rfl hm.o rfl rfl (Nat.le_of_ble_eq_true rfl) dX9_ifAdded_24 ?_
      refine hm.w_thrown hi (fun Mx hm => ?_)
      refine r_aload_n dX9_ifAdded_27 rfl ?_
      refine r_getfield clX9 5 (by decide) fl_X9_34 hm.o rfl dX9_ifAdded_28 ?_
      refine r_if_le (tgt := 38) dX9_ifAdded_31 (by decide) (by omega) (fun h31 => ?_) (fun h31 => ?_)
      ·
        refine r_aload_n dX9_ifAdded_38 rfl ?_
        refine r_iload_n dX9_ifAdded_39 rfl ?_
        refine r_iload_n dX9_ifAdded_40 rfl ?_
        refine r_callV2 okX9_addedThen ⟨by decide, by decide⟩ ml_X9_223 (mX9_addedThen hm.q hi hz (by omega) (by omega) hv (by omega)) hm.o rfl rfl (Nat.le_of_ble_eq_true rfl) (Nat.le_of_ble_eq_true rfl) (Nat.le_of_ble_eq_true rfl) rfl dX9_ifAdded_41 (nx_tI) (kx_tI ?_)
        intro Mx hq
        obtain ⟨rA, sA, bA, wA, rm, bk, hm⟩ := hq
        refine e_ireturn dX9_ifAdded_44 rfl (Nat.le_of_ble_eq_true rfl) (Nat.le_of_ble_eq_true rfl) ?_
        exact okUR ((e2_ok (eSet_t hc0)).trans (eB_t hc1)) rfl ⟨_, _, _, _, _, _, _, _, _, hm.q, hz, hh, hm6, ht, hl⟩
      · omega
  · omega

theorem mX9_ifAdded {M0 M : Mem} {ad : Int → Nat} {n : Int → Int} {F : Int → Int → Int} {g : Int → Int} {m : Int} {S : Int → Sg3} {len : Int} {c : Int → Int} {th : Int} {k x : Int} (hR : RS M0 M ad (n, F, g) m S len c th) (hi : Inj ad) (hv : Vld (n, F, g)) (q0 : R32 k) (q1 : R32 x) : Ct KX9_ifAdded [.ref (ad 112), vI k, vI x] M 0 0 (UR (e2 (eSet k) (eB (0 ≤ x ∧ x ≤ 9999) xA)) (iaV (n k) (F k) g x) tc3 (fun M2 => RS M0 M2 ad (n, F, g) m S len c 0) (fun t M2 => RS M0 M2 ad (n, F, g) m S len c t)) := by
  by_cases hc0 : 0 ≤ k ∧ k < 4
  · skip
    by_cases hc1 : 0 ≤ x ∧ x ≤ 9999
    · skip
      exact mX9_ifAdded_ok hR hi hv q0 q1 hc0 hc1
    · exact mX9_ifAdded_x1 hR hi hv q0 q1 hc0 hc1
  · exact mX9_ifAdded_x0 hR hi hv q0 q1 hc0

set_option maxHeartbeats 4000000 in
theorem mX9_dearest_x0 {M0 M : Mem} {ad : Int → Nat} {n : Int → Int} {F : Int → Int → Int} {g : Int → Int} {m : Int} {S : Int → Sg3} {len : Int} {c : Int → Int} {th : Int} {k w : Int} (hR : RS M0 M ad (n, F, g) m S len c th) (hi : Inj ad) (hv : Vld (n, F, g)) (q0 : R32 k) (q1 : R32 w) (hc0 : ¬ (0 ≤ k ∧ k < 4)) : Ct KX9_dearest [.ref (ad 112), vI k, vI w] M 0 0 (UR (e2 (eSet k) (eB (w = 0 ∨ w = 1) xA)) (drV (n k) (F k) g w) tc3 (fun M2 => RS M0 M2 ad (n, F, g) m S len c 0) (fun t M2 => RS M0 M2 ad (n, F, g) m S len c t)) := by
  refine Ct.of _ (by decide) rfl (Nat.le_of_ble_eq_true rfl) ?_
  obtain ⟨zA, hA, tA, pA, rd, nu, bd, sc, hs, ⟨rA, sA, bA, wA, rm, bk, hm⟩, hz, hh, hm6, ht, hl⟩ := hR
  change Zr zA n F g at hz
  obtain ⟨hvs, hv0, hv1, hv2, hv3⟩ := id hv
  dsimp only at hvs hv0 hv1 hv2 hv3
  have hg : (2 ≤ g 0 ∧ g 0 ≤ 16) ∧ 1 ≤ g 1 ∧ g 1 ≤ 9999 := ⟨⟨hv0, hv1⟩, hv2, hv3⟩
  refine r_aload_n dX9_dearest_0 rfl ?_
  refine r_iload_n dX9_dearest_1 rfl ?_
  refine r_callS1 okX9_isSet ⟨by decide, by decide⟩ ml_X9_81 (mX9_isSet (v := 0) (by omega) (by first | rw [if_pos (by omega)] | rw [if_neg (by omega)])) (Nat.le_of_ble_eq_true rfl) (Nat.le_of_ble_eq_true rfl) (Nat.le_of_ble_eq_true rfl) rfl dX9_dearest_2 (nx_I) (kx_I ?_)
  refine r_if_ne (tgt := 12) dX9_dearest_5 (by decide) (by omega) (fun h5 => ?_) (fun h5 => ?_)
  · omega
  ·
    refine r_iconst dX9_dearest_8 ?_
    refine r_goto (tgt := 26) dX9_dearest_9 (by decide) ?_
    refine r_putfield clX9 5 (by decide) fl_X9_34 rfl hm.o rfl rfl (Nat.le_of_ble_eq_true rfl) dX9_dearest_26 ?_
    refine hm.w_thrown hi (fun Mx hm => ?_)
    refine r_aload_n dX9_dearest_29 rfl ?_
    refine r_getfield clX9 5 (by decide) fl_X9_34 hm.o rfl dX9_dearest_30 ?_
    refine r_if_le (tgt := 40) dX9_dearest_33 (by decide) (by omega) (fun h33 => ?_) (fun h33 => ?_)
    · omega
    ·
      refine r_iconst dX9_dearest_36 ?_
      refine r_goto (tgt := 46) dX9_dearest_37 (by decide) ?_
      refine e_ireturn dX9_dearest_46 rfl (Nat.le_of_ble_eq_true rfl) (Nat.le_of_ble_eq_true rfl) ?_
      exact exUR (e2_x (eSet_f hc0) (by decide)) (by decide) (by decide) ⟨_, _, _, _, _, _, _, _, _, hm.q, hz, hh, hm6, ht, hl⟩

set_option maxHeartbeats 4000000 in
theorem mX9_dearest_x1 {M0 M : Mem} {ad : Int → Nat} {n : Int → Int} {F : Int → Int → Int} {g : Int → Int} {m : Int} {S : Int → Sg3} {len : Int} {c : Int → Int} {th : Int} {k w : Int} (hR : RS M0 M ad (n, F, g) m S len c th) (hi : Inj ad) (hv : Vld (n, F, g)) (q0 : R32 k) (q1 : R32 w) (hc0 : 0 ≤ k ∧ k < 4) (hc1 : ¬ (w = 0 ∨ w = 1)) : Ct KX9_dearest [.ref (ad 112), vI k, vI w] M 0 0 (UR (e2 (eSet k) (eB (w = 0 ∨ w = 1) xA)) (drV (n k) (F k) g w) tc3 (fun M2 => RS M0 M2 ad (n, F, g) m S len c 0) (fun t M2 => RS M0 M2 ad (n, F, g) m S len c t)) := by
  refine Ct.of _ (by decide) rfl (Nat.le_of_ble_eq_true rfl) ?_
  obtain ⟨zA, hA, tA, pA, rd, nu, bd, sc, hs, ⟨rA, sA, bA, wA, rm, bk, hm⟩, hz, hh, hm6, ht, hl⟩ := hR
  change Zr zA n F g at hz
  obtain ⟨hvs, hv0, hv1, hv2, hv3⟩ := id hv
  dsimp only at hvs hv0 hv1 hv2 hv3
  have hg : (2 ≤ g 0 ∧ g 0 ≤ 16) ∧ 1 ≤ g 1 ∧ g 1 ≤ 9999 := ⟨⟨hv0, hv1⟩, hv2, hv3⟩
  refine r_aload_n dX9_dearest_0 rfl ?_
  refine r_iload_n dX9_dearest_1 rfl ?_
  refine r_callS1 okX9_isSet ⟨by decide, by decide⟩ ml_X9_81 (mX9_isSet (v := 1) (by omega) (by first | rw [if_pos (by omega)] | rw [if_neg (by omega)])) (Nat.le_of_ble_eq_true rfl) (Nat.le_of_ble_eq_true rfl) (Nat.le_of_ble_eq_true rfl) rfl dX9_dearest_2 (nx_I) (kx_I ?_)
  refine r_if_ne (tgt := 12) dX9_dearest_5 (by decide) (by omega) (fun h5 => ?_) (fun h5 => ?_)
  ·
    refine r_iload_n dX9_dearest_12 rfl ?_
    refine r_iconst dX9_dearest_13 ?_
    refine r_iconst dX9_dearest_14 ?_
    refine r_callS3 okX9_within ⟨by decide, by decide⟩ ml_X9_41 (mX9_within (v := 0) (by omega) (by omega) (by omega) (by first | rw [if_pos (by omega)] | rw [if_neg (by omega)])) (Nat.le_of_ble_eq_true rfl) (Nat.le_of_ble_eq_true rfl) (Nat.le_of_ble_eq_true rfl) rfl dX9_dearest_15 (nx_I) (kx_I ?_)
    refine r_if_eq (tgt := 25) dX9_dearest_18 (by decide) (by omega) (fun h18 => ?_) (fun h18 => ?_)
    ·
      refine r_iconst dX9_dearest_25 ?_
      refine r_putfield clX9 5 (by decide) fl_X9_34 rfl hm.o rfl rfl (Nat.le_of_ble_eq_true rfl) dX9_dearest_26 ?_
      refine hm.w_thrown hi (fun Mx hm => ?_)
      refine r_aload_n dX9_dearest_29 rfl ?_
      refine r_getfield clX9 5 (by decide) fl_X9_34 hm.o rfl dX9_dearest_30 ?_
      refine r_if_le (tgt := 40) dX9_dearest_33 (by decide) (by omega) (fun h33 => ?_) (fun h33 => ?_)
      · omega
      ·
        refine r_iconst dX9_dearest_36 ?_
        refine r_goto (tgt := 46) dX9_dearest_37 (by decide) ?_
        refine e_ireturn dX9_dearest_46 rfl (Nat.le_of_ble_eq_true rfl) (Nat.le_of_ble_eq_true rfl) ?_
        exact exUR ((e2_ok (eSet_t hc0)).trans (eB_f hc1)) (by decide) (by decide) ⟨_, _, _, _, _, _, _, _, _, hm.q, hz, hh, hm6, ht, hl⟩
    · omega
  · omega

set_option maxHeartbeats 4000000 in
theorem mX9_dearest_ok {M0 M : Mem} {ad : Int → Nat} {n : Int → Int} {F : Int → Int → Int} {g : Int → Int} {m : Int} {S : Int → Sg3} {len : Int} {c : Int → Int} {th : Int} {k w : Int} (hR : RS M0 M ad (n, F, g) m S len c th) (hi : Inj ad) (hv : Vld (n, F, g)) (q0 : R32 k) (q1 : R32 w) (hc0 : 0 ≤ k ∧ k < 4) (hc1 : w = 0 ∨ w = 1) : Ct KX9_dearest [.ref (ad 112), vI k, vI w] M 0 0 (UR (e2 (eSet k) (eB (w = 0 ∨ w = 1) xA)) (drV (n k) (F k) g w) tc3 (fun M2 => RS M0 M2 ad (n, F, g) m S len c 0) (fun t M2 => RS M0 M2 ad (n, F, g) m S len c t)) := by
  refine Ct.of _ (by decide) rfl (Nat.le_of_ble_eq_true rfl) ?_
  obtain ⟨zA, hA, tA, pA, rd, nu, bd, sc, hs, ⟨rA, sA, bA, wA, rm, bk, hm⟩, hz, hh, hm6, ht, hl⟩ := hR
  change Zr zA n F g at hz
  obtain ⟨hvs, hv0, hv1, hv2, hv3⟩ := id hv
  dsimp only at hvs hv0 hv1 hv2 hv3
  have hg : (2 ≤ g 0 ∧ g 0 ≤ 16) ∧ 1 ≤ g 1 ∧ g 1 ≤ 9999 := ⟨⟨hv0, hv1⟩, hv2, hv3⟩
  refine r_aload_n dX9_dearest_0 rfl ?_
  refine r_iload_n dX9_dearest_1 rfl ?_
  refine r_callS1 okX9_isSet ⟨by decide, by decide⟩ ml_X9_81 (mX9_isSet (v := 1) (by omega) (by first | rw [if_pos (by omega)] | rw [if_neg (by omega)])) (Nat.le_of_ble_eq_true rfl) (Nat.le_of_ble_eq_true rfl) (Nat.le_of_ble_eq_true rfl) rfl dX9_dearest_2 (nx_I) (kx_I ?_)
  refine r_if_ne (tgt := 12) dX9_dearest_5 (by decide) (by omega) (fun h5 => ?_) (fun h5 => ?_)
  ·
    refine r_iload_n dX9_dearest_12 rfl ?_
    refine r_iconst dX9_dearest_13 ?_
    refine r_iconst dX9_dearest_14 ?_
    refine r_callS3 okX9_within ⟨by decide, by decide⟩ ml_X9_41 (mX9_within (v := 1) (by omega) (by omega) (by omega) (by first | rw [if_pos (by omega)] | rw [if_neg (by omega)])) (Nat.le_of_ble_eq_true rfl) (Nat.le_of_ble_eq_true rfl) (Nat.le_of_ble_eq_true rfl) rfl dX9_dearest_15 (nx_I) (kx_I ?_)
    refine r_if_eq (tgt := 25) dX9_dearest_18 (by decide) (by omega) (fun h18 => ?_) (fun h18 => ?_)
    · omega
    ·
      refine r_iconst dX9_dearest_21 ?_
      refine r_goto (tgt := 26) dX9_dearest_22 (by decide) ?_
      refine r_putfield clX9 5 (by decide) fl_X9_34 rfl hm.o rfl rfl (Nat.le_of_ble_eq_true rfl) dX9_dearest_26 ?_
      refine hm.w_thrown hi (fun Mx hm => ?_)
      refine r_aload_n dX9_dearest_29 rfl ?_
      refine r_getfield clX9 5 (by decide) fl_X9_34 hm.o rfl dX9_dearest_30 ?_
      refine r_if_le (tgt := 40) dX9_dearest_33 (by decide) (by omega) (fun h33 => ?_) (fun h33 => ?_)
      ·
        refine r_aload_n dX9_dearest_40 rfl ?_
        refine r_iload_n dX9_dearest_41 rfl ?_
        refine r_iload_n dX9_dearest_42 rfl ?_
        refine r_callV2 okX9_dearestNow ⟨by decide, by decide⟩ ml_X9_229 (mX9_dearestNow hm.q hi hz (by omega) (by omega) hv (by omega)) hm.o rfl rfl (Nat.le_of_ble_eq_true rfl) (Nat.le_of_ble_eq_true rfl) (Nat.le_of_ble_eq_true rfl) rfl dX9_dearest_43 (nx_tI) (kx_tI ?_)
        intro Mx hq
        obtain ⟨rA, sA, bA, wA, rm, bk, hm⟩ := hq
        refine e_ireturn dX9_dearest_46 rfl (Nat.le_of_ble_eq_true rfl) (Nat.le_of_ble_eq_true rfl) ?_
        exact okUR ((e2_ok (eSet_t hc0)).trans (eB_t hc1)) rfl ⟨_, _, _, _, _, _, _, _, _, hm.q, hz, hh, hm6, ht, hl⟩
      · omega
  · omega

theorem mX9_dearest {M0 M : Mem} {ad : Int → Nat} {n : Int → Int} {F : Int → Int → Int} {g : Int → Int} {m : Int} {S : Int → Sg3} {len : Int} {c : Int → Int} {th : Int} {k w : Int} (hR : RS M0 M ad (n, F, g) m S len c th) (hi : Inj ad) (hv : Vld (n, F, g)) (q0 : R32 k) (q1 : R32 w) : Ct KX9_dearest [.ref (ad 112), vI k, vI w] M 0 0 (UR (e2 (eSet k) (eB (w = 0 ∨ w = 1) xA)) (drV (n k) (F k) g w) tc3 (fun M2 => RS M0 M2 ad (n, F, g) m S len c 0) (fun t M2 => RS M0 M2 ad (n, F, g) m S len c t)) := by
  by_cases hc0 : 0 ≤ k ∧ k < 4
  · skip
    by_cases hc1 : w = 0 ∨ w = 1
    · skip
      exact mX9_dearest_ok hR hi hv q0 q1 hc0 hc1
    · exact mX9_dearest_x1 hR hi hv q0 q1 hc0 hc1
  · exact mX9_dearest_x0 hR hi hv q0 q1 hc0
