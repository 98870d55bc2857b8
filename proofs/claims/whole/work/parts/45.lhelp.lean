/-! the law's own methods: each calls one of the class, catches what it throws, and says which by a number -/
def UL (ad : Int → Nat) (E : String) (z : Int) (tc : String → Int) (P P0 : Mem → Prop) : Rs → Mem → Prop := fun r M' => ∃ v : Int, r = .inl (some (vI v)) ∧ if E = "" then v = 0 ∧ ∃ (M1 : Mem) (f : Int → Int64), P M1 ∧ M' = up M1 (ad 121) (aL 1 f) ∧ f 0 = (iN z).toInt64 else v = tc E ∧ P0 M'
theorem UL.ok {ad : Int → Nat} {E : String} {z : Int} {tc : String → Int} {P P0 : Mem → Prop} {M1 M' : Mem} {f : Int → Int64} (hE : E = "") (h : P M1) (hM : M' = up M1 (ad 121) (aL 1 f)) (hf : f 0 = (iN z).toInt64) : UL ad E z tc P P0 (.inl (some (vI 0))) M' :=
  ⟨0, rfl, by rw [if_pos hE]; exact ⟨rfl, M1, f, h, hM, hf⟩⟩
theorem UL.no {ad : Int → Nat} {E : String} {z v : Int} {tc : String → Int} {P P0 : Mem → Prop} {M' : Mem} (hE : E ≠ "") (hv : v = tc E) (h : P0 M') : UL ad E z tc P P0 (.inl (some (vI v))) M' :=
  ⟨v, rfl, by rw [if_neg hE]; exact ⟨hv, h⟩⟩
theorem UY.thr {E E2 : String} {z : Int} {P P0 : Mem → Prop} {M' : Mem} (h : UY E z P P0 (.inr E2) M') : E = E2 ∧ E ≠ "" ∧ P0 M' := by
  unfold UY at h
  by_cases e : E = ""
  · rw [if_pos e] at h; exact nomatch h.1
  · rw [if_neg e] at h; obtain ⟨h1, h2⟩ := h; cases h1; exact ⟨rfl, e, h2⟩
theorem UY.ret {E : String} {z : Int} {P P0 : Mem → Prop} {M' : Mem} {v : Option Value} (h : UY E z P P0 (.inl v) M') : some (vI z) = v ∧ E = "" ∧ P M' := by
  unfold UY at h
  by_cases e : E = ""
  · rw [if_pos e] at h; obtain ⟨h1, h2⟩ := h; cases h1; exact ⟨rfl, e, h2⟩
  · rw [if_neg e] at h; exact nomatch h.1
/-- none of the exceptions but these -/
def inL (l : List String) (E : String) : Prop := E = "" ∨ E ∈ l
theorem in_e2 {l : List String} {a b : String} (h1 : inL l a) (h2 : inL l b) : inL l (e2 a b) := by unfold e2; split <;> assumption
theorem in_eSet {l : List String} {k : Int} (h : xI ∈ l) : inL l (eSet k) := by unfold eSet; split; exact Or.inl rfl; exact Or.inr h
theorem in_eStg {l : List String} {k : Int} (h : xI ∈ l) : inL l (eStg k) := by unfold eStg; split; exact Or.inl rfl; exact Or.inr h
theorem in_eB {l : List String} {c : Prop} [Decidable c] {x : String} (h : x ∈ l) : inL l (eB c x) := by unfold eB; split; exact Or.inl rfl; exact Or.inr h
set_option maxHeartbeats 4000000 in
theorem mL_add {M : Mem} {ad : Int → Nat} {n : Int → Int} {F : Int → Int → Int} {g : Int → Int} {m : Int} {S : Int → Sg3} {len : Int} {c : Int → Int} {k x : Int} (hx : XSt M ad (n, F, g) m S len c) (hv : Vld (n, F, g)) (hi : Inj ad) (q0 : R32 k) (q1 : R32 x) {f9 : Int → Int64} (ho : M (ad 121) = some (aL 1 f9)) : Ct KL_add [.ref (ad 0), vI k, vI x, .ref (ad 121)] M 6 36 (UL ad (e2 (eSet k) (e2 (eB (0 ≤ x ∧ x ≤ 9999) xA) (eB (hasF (n k) (F k) x = true ∨ n k < 60) xS))) (1 - bI (hasF (n k) (F k) x)) tc3 (fun M2 => XSt M2 ad (uI n k (putN 60 (n k) (F k) x), uI F k (putF 60 (n k) (F k) x), g) (svM m) (svS m S (n, F, g)) len c ∧ FrI ad 0 112 M M2) (fun M2 => XSt M2 ad (n, F, g) m S len c ∧ FrI ad 0 112 M M2)) := by
  refine Ct.ofH _ (by decide) rfl (Nat.le_of_ble_eq_true rfl) ?_
  refine r_aload_n dL_add_0 rfl ?_
  refine r_iconst dL_add_1 ?_
  refine r_aload_n dL_add_2 rfl ?_
  refine r_iload_n dL_add_3 rfl ?_
  refine r_iload_n dL_add_4 rfl ?_
  refine r_catchV2 okX8_add ⟨by decide, by decide⟩ ml_L_7 (mX8_add hx hv hi q0 q1) hx.1 rfl rfl (Nat.le_of_ble_eq_true rfl) (Nat.le_of_ble_eq_true rfl) (Nat.le_of_ble_eq_true rfl) dL_add_5 (fun E2 M2 hq => ?_) (fun v M2 hq => ?_)
  · obtain ⟨rfl, hne, hq⟩ := UY.thr (UX.y (P0 := fun M2 => XSt M2 ad (n, F, g) m S len c ∧ FrI ad 0 112 M M2) ⟨hx, FrI.rf⟩ hq)
    have hin : inL [xI, xA, xS] (e2 (eSet k) (e2 (eB (0 ≤ x ∧ x ≤ 9999) xA) (eB (hasF (n k) (F k) x = true ∨ n k < 60) xS))) := by repeat' (first | exact in_eSet (by simp) | exact in_eStg (by simp) | exact in_eB (by simp) | refine in_e2 ?_ ?_)
    rcases hin with hin | hin
    · exact absurd hin hne
    · simp only [List.mem_cons, List.not_mem_nil, or_false] at hin
      rcases hin with hin | hin | hin
      · refine ⟨13, by rw [hin]; exact ⟨[], [(0, 10, 17, 15), (0, 10, 21, 17)], 0, 10, 13, _, rfl, (fun _ h => nomatch h), rfl, by decide, cn_L_13, zc_xI⟩, fun q => ?_⟩
        refine r_astoreT dL_add_13 (by decide) rfl ?_
        refine r_iconst dL_add_15 ?_
        refine e_ireturn dL_add_16 rfl (Nat.le_of_ble_eq_true rfl) (Nat.le_of_ble_eq_true rfl) ?_
        exact UL.no hne (by rw [hin]; decide +kernel) hq
      · refine ⟨17, by rw [hin]; exact ⟨[(0, 10, 13, 13)], [(0, 10, 21, 17)], 0, 10, 15, _, rfl, List.forall_mem_cons.mpr ⟨⟨by decide, _, cn_L_13, zn_xAxI⟩, fun _ h => nomatch h⟩, rfl, by decide, cn_L_15, zc_xA⟩, fun q => ?_⟩
        refine r_astoreT dL_add_17 (by decide) rfl ?_
        refine r_iconst dL_add_19 ?_
        refine e_ireturn dL_add_20 rfl (Nat.le_of_ble_eq_true rfl) (Nat.le_of_ble_eq_true rfl) ?_
        exact UL.no hne (by rw [hin]; decide +kernel) hq
      · refine ⟨21, by rw [hin]; exact ⟨[(0, 10, 13, 13), (0, 10, 17, 15)], [], 0, 10, 17, _, rfl, List.forall_mem_cons.mpr ⟨⟨by decide, _, cn_L_13, zn_xSxI⟩, List.forall_mem_cons.mpr ⟨⟨by decide, _, cn_L_15, zn_xSxA⟩, fun _ h => nomatch h⟩⟩, rfl, by decide, cn_L_17, zc_xS⟩, fun q => ?_⟩
        refine r_astoreT dL_add_21 (by decide) rfl ?_
        refine r_iconst dL_add_23 ?_
        refine e_ireturn dL_add_24 rfl (Nat.le_of_ble_eq_true rfl) (Nat.le_of_ble_eq_true rfl) ?_
        exact UL.no hne (by rw [hin]; decide +kernel) hq
  obtain ⟨rfl, hE, hq⟩ := UY.ret (UX.y (P0 := fun M2 => XSt M2 ad (n, F, g) m S len c ∧ FrI ad 0 112 M M2) ⟨hx, FrI.rf⟩ hq)
  have hou := (hq.2.at hi ⟨by omega, by omega⟩ ⟨by omega, by omega⟩ (j := 121) (by omega)).trans ho
  refine r_i2l dL_add_8 ?_
  refine r_lastore hou (by omega) (by omega) (by omega) dL_add_9 ?_
  refine r_goto (tgt := 25) dL_add_10 (by decide) ?_
  refine r_iconst dL_add_25 ?_
  refine e_ireturn dL_add_26 rfl (Nat.le_of_ble_eq_true rfl) (Nat.le_of_ble_eq_true rfl) ?_
  exact UL.ok hE hq rfl (uI_s _ _ _)

set_option maxHeartbeats 4000000 in
theorem mL_remove {M : Mem} {ad : Int → Nat} {n : Int → Int} {F : Int → Int → Int} {g : Int → Int} {m : Int} {S : Int → Sg3} {len : Int} {c : Int → Int} {k x : Int} (hx : XSt M ad (n, F, g) m S len c) (hv : Vld (n, F, g)) (hi : Inj ad) (q0 : R32 k) (q1 : R32 x) {f9 : Int → Int64} (ho : M (ad 121) = some (aL 1 f9)) : Ct KL_remove [.ref (ad 0), vI k, vI x, .ref (ad 121)] M 6 36 (UL ad (e2 (eSet k) (eB (0 ≤ x ∧ x ≤ 9999) xA)) (n k - (cutP (n k) (F k) x x).1) tc3 (fun M2 => XSt M2 ad (uI n k ((cutP (n k) (F k) x x).1), uI F k ((cutP (n k) (F k) x x).2), g) (svM m) (svS m S (n, F, g)) len c ∧ FrI ad 0 112 M M2) (fun M2 => XSt M2 ad (n, F, g) m S len c ∧ FrI ad 0 112 M M2)) := by
  refine Ct.ofH _ (by decide) rfl (Nat.le_of_ble_eq_true rfl) ?_
  refine r_aload_n dL_remove_0 rfl ?_
  refine r_iconst dL_remove_1 ?_
  refine r_aload_n dL_remove_2 rfl ?_
  refine r_iload_n dL_remove_3 rfl ?_
  refine r_iload_n dL_remove_4 rfl ?_
  refine r_catchV2 okX8_remove ⟨by decide, by decide⟩ ml_L_19 (mX8_remove hx hv hi q0 q1) hx.1 rfl rfl (Nat.le_of_ble_eq_true rfl) (Nat.le_of_ble_eq_true rfl) (Nat.le_of_ble_eq_true rfl) dL_remove_5 (fun E2 M2 hq => ?_) (fun v M2 hq => ?_)
  · obtain ⟨rfl, hne, hq⟩ := UY.thr (UX.y (P0 := fun M2 => XSt M2 ad (n, F, g) m S len c ∧ FrI ad 0 112 M M2) ⟨hx, FrI.rf⟩ hq)
    have hin : inL [xI, xA] (e2 (eSet k) (eB (0 ≤ x ∧ x ≤ 9999) xA)) := by repeat' (first | exact in_eSet (by simp) | exact in_eStg (by simp) | exact in_eB (by simp) | refine in_e2 ?_ ?_)
    rcases hin with hin | hin
    · exact absurd hin hne
    · simp only [List.mem_cons, List.not_mem_nil, or_false] at hin
      rcases hin with hin | hin
      · refine ⟨13, by rw [hin]; exact ⟨[], [(0, 10, 17, 15)], 0, 10, 13, _, rfl, (fun _ h => nomatch h), rfl, by decide, cn_L_13, zc_xI⟩, fun q => ?_⟩
        refine r_astoreT dL_remove_13 (by decide) rfl ?_
        refine r_iconst dL_remove_15 ?_
        refine e_ireturn dL_remove_16 rfl (Nat.le_of_ble_eq_true rfl) (Nat.le_of_ble_eq_true rfl) ?_
        exact UL.no hne (by rw [hin]; decide +kernel) hq
      · refine ⟨17, by rw [hin]; exact ⟨[(0, 10, 13, 13)], [], 0, 10, 15, _, rfl, List.forall_mem_cons.mpr ⟨⟨by decide, _, cn_L_13, zn_xAxI⟩, fun _ h => nomatch h⟩, rfl, by decide, cn_L_15, zc_xA⟩, fun q => ?_⟩
        refine r_astoreT dL_remove_17 (by decide) rfl ?_
        refine r_iconst dL_remove_19 ?_
        refine e_ireturn dL_remove_20 rfl (Nat.le_of_ble_eq_true rfl) (Nat.le_of_ble_eq_true rfl) ?_
        exact UL.no hne (by rw [hin]; decide +kernel) hq
  obtain ⟨rfl, hE, hq⟩ := UY.ret (UX.y (P0 := fun M2 => XSt M2 ad (n, F, g) m S len c ∧ FrI ad 0 112 M M2) ⟨hx, FrI.rf⟩ hq)
  have hou := (hq.2.at hi ⟨by omega, by omega⟩ ⟨by omega, by omega⟩ (j := 121) (by omega)).trans ho
  refine r_i2l dL_remove_8 ?_
  refine r_lastore hou (by omega) (by omega) (by omega) dL_remove_9 ?_
  refine r_goto (tgt := 21) dL_remove_10 (by decide) ?_
  refine r_iconst dL_remove_21 ?_
  refine e_ireturn dL_remove_22 rfl (Nat.le_of_ble_eq_true rfl) (Nat.le_of_ble_eq_true rfl) ?_
  exact UL.ok hE hq rfl (uI_s _ _ _)

set_option maxHeartbeats 4000000 in
theorem mL_removeRange {M : Mem} {ad : Int → Nat} {n : Int → Int} {F : Int → Int → Int} {g : Int → Int} {m : Int} {S : Int → Sg3} {len : Int} {c : Int → Int} {k x y : Int} (hx : XSt M ad (n, F, g) m S len c) (hv : Vld (n, F, g)) (hi : Inj ad) (q0 : R32 k) (q1 : R32 x) (q2 : R32 y) {f9 : Int → Int64} (ho : M (ad 121) = some (aL 1 f9)) : Ct KL_removeRange [.ref (ad 0), vI k, vI x, vI y, .ref (ad 121)] M 6 36 (UL ad (e2 (eSet k) (e2 (eB (0 ≤ x ∧ x ≤ 9999) xA) (e2 (eB (0 ≤ y ∧ y ≤ 9999) xA) (eB (x ≤ y) xA)))) (n k - (cutP (n k) (F k) x y).1) tc3 (fun M2 => XSt M2 ad (uI n k ((cutP (n k) (F k) x y).1), uI F k ((cutP (n k) (F k) x y).2), g) (svM m) (svS m S (n, F, g)) len c ∧ FrI ad 0 112 M M2) (fun M2 => XSt M2 ad (n, F, g) m S len c ∧ FrI ad 0 112 M M2)) := by
  refine Ct.ofH _ (by decide) rfl (Nat.le_of_ble_eq_true rfl) ?_
  refine r_aload dL_removeRange_0 rfl ?_
  refine r_iconst dL_removeRange_2 ?_
  refine r_aload_n dL_removeRange_3 rfl ?_
  refine r_iload_n dL_removeRange_4 rfl ?_
  refine r_iload_n dL_removeRange_5 rfl ?_
  refine r_iload_n dL_removeRange_6 rfl ?_
  refine r_catchV3 okX8_removeRange ⟨by decide, by decide⟩ ml_L_22 (mX8_removeRange hx hv hi q0 q1 q2) hx.1 rfl rfl (Nat.le_of_ble_eq_true rfl) (Nat.le_of_ble_eq_true rfl) (Nat.le_of_ble_eq_true rfl) dL_removeRange_7 (fun E2 M2 hq => ?_) (fun v M2 hq => ?_)
  · obtain ⟨rfl, hne, hq⟩ := UY.thr (UX.y (P0 := fun M2 => XSt M2 ad (n, F, g) m S len c ∧ FrI ad 0 112 M M2) ⟨hx, FrI.rf⟩ hq)
    have hin : inL [xI, xA] (e2 (eSet k) (e2 (eB (0 ≤ x ∧ x ≤ 9999) xA) (e2 (eB (0 ≤ y ∧ y ≤ 9999) xA) (eB (x ≤ y) xA)))) := by repeat' (first | exact in_eSet (by simp) | exact in_eStg (by simp) | exact in_eB (by simp) | refine in_e2 ?_ ?_)
    rcases hin with hin | hin
    · exact absurd hin hne
    · simp only [List.mem_cons, List.not_mem_nil, or_false] at hin
      rcases hin with hin | hin
      · refine ⟨15, by rw [hin]; exact ⟨[], [(0, 12, 19, 15)], 0, 12, 13, _, rfl, (fun _ h => nomatch h), rfl, by decide, cn_L_13, zc_xI⟩, fun q => ?_⟩
        refine r_astoreT dL_removeRange_15 (by decide) rfl ?_
        refine r_iconst dL_removeRange_17 ?_
        refine e_ireturn dL_removeRange_18 rfl (Nat.le_of_ble_eq_true rfl) (Nat.le_of_ble_eq_true rfl) ?_
        exact UL.no hne (by rw [hin]; decide +kernel) hq
      · refine ⟨19, by rw [hin]; exact ⟨[(0, 12, 15, 13)], [], 0, 12, 15, _, rfl, List.forall_mem_cons.mpr ⟨⟨by decide, _, cn_L_13, zn_xAxI⟩, fun _ h => nomatch h⟩, rfl, by decide, cn_L_15, zc_xA⟩, fun q => ?_⟩
        refine r_astoreT dL_removeRange_19 (by decide) rfl ?_
        refine r_iconst dL_removeRange_21 ?_
        refine e_ireturn dL_removeRange_22 rfl (Nat.le_of_ble_eq_true rfl) (Nat.le_of_ble_eq_true rfl) ?_
        exact UL.no hne (by rw [hin]; decide +kernel) hq
  obtain ⟨rfl, hE, hq⟩ := UY.ret (UX.y (P0 := fun M2 => XSt M2 ad (n, F, g) m S len c ∧ FrI ad 0 112 M M2) ⟨hx, FrI.rf⟩ hq)
  have hou := (hq.2.at hi ⟨by omega, by omega⟩ ⟨by omega, by omega⟩ (j := 121) (by omega)).trans ho
  refine r_i2l dL_removeRange_10 ?_
  refine r_lastore hou (by omega) (by omega) (by omega) dL_removeRange_11 ?_
  refine r_goto (tgt := 23) dL_removeRange_12 (by decide) ?_
  refine r_iconst dL_removeRange_23 ?_
  refine e_ireturn dL_removeRange_24 rfl (Nat.le_of_ble_eq_true rfl) (Nat.le_of_ble_eq_true rfl) ?_
  exact UL.ok hE hq rfl (uI_s _ _ _)

set_option maxHeartbeats 4000000 in
theorem mL_shift {M : Mem} {ad : Int → Nat} {n : Int → Int} {F : Int → Int → Int} {g : Int → Int} {m : Int} {S : Int → Sg3} {len : Int} {c : Int → Int} {k b : Int} (hx : XSt M ad (n, F, g) m S len c) (hv : Vld (n, F, g)) (hi : Inj ad) (q0 : R32 k) (q1 : R32 b) {f9 : Int → Int64} (ho : M (ad 121) = some (aL 1 f9)) : Ct KL_shift [.ref (ad 0), vI k, vI b, .ref (ad 121)] M 6 36 (UL ad (e2 (eSet k) (e2 (eB (-9999 ≤ b ∧ b ≤ 9999) xA) (eB (n k = 0 ∨ (0 ≤ atF (n k) (F k) 0 + b ∧ atF (n k) (F k) (n k - 1) + b ≤ 9999)) xS))) (atF (n k) (fun i => F k i + b) 0) tc3 (fun M2 => XSt M2 ad (uI n k (n k), uI F k (fun i => F k i + b), g) (svM m) (svS m S (n, F, g)) len c ∧ FrI ad 0 112 M M2) (fun M2 => XSt M2 ad (n, F, g) m S len c ∧ FrI ad 0 112 M M2)) := by
  refine Ct.ofH _ (by decide) rfl (Nat.le_of_ble_eq_true rfl) ?_
  refine r_aload_n dL_shift_0 rfl ?_
  refine r_iconst dL_shift_1 ?_
  refine r_aload_n dL_shift_2 rfl ?_
  refine r_iload_n dL_shift_3 rfl ?_
  refine r_iload_n dL_shift_4 rfl ?_
  refine r_catchV2 okX8_shift ⟨by decide, by decide⟩ ml_L_26 (mX8_shift hx hv hi q0 q1) hx.1 rfl rfl (Nat.le_of_ble_eq_true rfl) (Nat.le_of_ble_eq_true rfl) (Nat.le_of_ble_eq_true rfl) dL_shift_5 (fun E2 M2 hq => ?_) (fun v M2 hq => ?_)
  · obtain ⟨rfl, hne, hq⟩ := UY.thr (UX.y (P0 := fun M2 => XSt M2 ad (n, F, g) m S len c ∧ FrI ad 0 112 M M2) ⟨hx, FrI.rf⟩ hq)
    have hin : inL [xI, xA, xS] (e2 (eSet k) (e2 (eB (-9999 ≤ b ∧ b ≤ 9999) xA) (eB (n k = 0 ∨ (0 ≤ atF (n k) (F k) 0 + b ∧ atF (n k) (F k) (n k - 1) + b ≤ 9999)) xS))) := by repeat' (first | exact in_eSet (by simp) | exact in_eStg (by simp) | exact in_eB (by simp) | refine in_e2 ?_ ?_)
    rcases hin with hin | hin
    · exact absurd hin hne
    · simp only [List.mem_cons, List.not_mem_nil, or_false] at hin
      rcases hin with hin | hin | hin
      · refine ⟨13, by rw [hin]; exact ⟨[], [(0, 10, 17, 15), (0, 10, 21, 17)], 0, 10, 13, _, rfl, (fun _ h => nomatch h), rfl, by decide, cn_L_13, zc_xI⟩, fun q => ?_⟩
        refine r_astoreT dL_shift_13 (by decide) rfl ?_
        refine r_iconst dL_shift_15 ?_
        refine e_ireturn dL_shift_16 rfl (Nat.le_of_ble_eq_true rfl) (Nat.le_of_ble_eq_true rfl) ?_
        exact UL.no hne (by rw [hin]; decide +kernel) hq
      · refine ⟨17, by rw [hin]; exact ⟨[(0, 10, 13, 13)], [(0, 10, 21, 17)], 0, 10, 15, _, rfl, List.forall_mem_cons.mpr ⟨⟨by decide, _, cn_L_13, zn_xAxI⟩, fun _ h => nomatch h⟩, rfl, by decide, cn_L_15, zc_xA⟩, fun q => ?_⟩
        refine r_astoreT dL_shift_17 (by decide) rfl ?_
        refine r_iconst dL_shift_19 ?_
        refine e_ireturn dL_shift_20 rfl (Nat.le_of_ble_eq_true rfl) (Nat.le_of_ble_eq_true rfl) ?_
        exact UL.no hne (by rw [hin]; decide +kernel) hq
      · refine ⟨21, by rw [hin]; exact ⟨[(0, 10, 13, 13), (0, 10, 17, 15)], [], 0, 10, 17, _, rfl, List.forall_mem_cons.mpr ⟨⟨by decide, _, cn_L_13, zn_xSxI⟩, List.forall_mem_cons.mpr ⟨⟨by decide, _, cn_L_15, zn_xSxA⟩, fun _ h => nomatch h⟩⟩, rfl, by decide, cn_L_17, zc_xS⟩, fun q => ?_⟩
        refine r_astoreT dL_shift_21 (by decide) rfl ?_
        refine r_iconst dL_shift_23 ?_
        refine e_ireturn dL_shift_24 rfl (Nat.le_of_ble_eq_true rfl) (Nat.le_of_ble_eq_true rfl) ?_
        exact UL.no hne (by rw [hin]; decide +kernel) hq
  obtain ⟨rfl, hE, hq⟩ := UY.ret (UX.y (P0 := fun M2 => XSt M2 ad (n, F, g) m S len c ∧ FrI ad 0 112 M M2) ⟨hx, FrI.rf⟩ hq)
  have hou := (hq.2.at hi ⟨by omega, by omega⟩ ⟨by omega, by omega⟩ (j := 121) (by omega)).trans ho
  refine r_i2l dL_shift_8 ?_
  refine r_lastore hou (by omega) (by omega) (by omega) dL_shift_9 ?_
  refine r_goto (tgt := 25) dL_shift_10 (by decide) ?_
  refine r_iconst dL_shift_25 ?_
  refine e_ireturn dL_shift_26 rfl (Nat.le_of_ble_eq_true rfl) (Nat.le_of_ble_eq_true rfl) ?_
  exact UL.ok hE hq rfl (uI_s _ _ _)

set_option maxHeartbeats 4000000 in
theorem mL_combine {M : Mem} {ad : Int → Nat} {n : Int → Int} {F : Int → Int → Int} {g : Int → Int} {m : Int} {S : Int → Sg3} {len : Int} {c : Int → Int} {k k1 k2 how : Int} (hx : XSt M ad (n, F, g) m S len c) (hv : Vld (n, F, g)) (hi : Inj ad) (q0 : R32 k) (q1 : R32 k1) (q2 : R32 k2) (q3 : R32 how) {f9 : Int → Int64} (ho : M (ad 121) = some (aL 1 f9)) : Ct KL_combine [.ref (ad 0), vI k, vI k1, vI k2, vI how, .ref (ad 121)] M 6 36 (UL ad (e2 (eSet k) (e2 (eSet k1) (e2 (eSet k2) (e2 (eB (0 ≤ how ∧ how ≤ 3) xA) (eB ((jnF (n k1) (F k1) (n k2) (F k2) how).1 ≤ 60) xS))))) ((jnF (n k1) (F k1) (n k2) (F k2) how).1) tc3 (fun M2 => XSt M2 ad (uI n k ((jnF (n k1) (F k1) (n k2) (F k2) how).1), uI F k ((jnF (n k1) (F k1) (n k2) (F k2) how).2), g) (svM m) (svS m S (n, F, g)) len c ∧ FrI ad 0 112 M M2) (fun M2 => XSt M2 ad (n, F, g) m S len c ∧ FrI ad 0 112 M M2)) := by
  refine Ct.ofH _ (by decide) rfl (Nat.le_of_ble_eq_true rfl) ?_
  refine r_aload dL_combine_0 rfl ?_
  refine r_iconst dL_combine_2 ?_
  refine r_aload_n dL_combine_3 rfl ?_
  refine r_iload_n dL_combine_4 rfl ?_
  refine r_iload_n dL_combine_5 rfl ?_
  refine r_iload_n dL_combine_6 rfl ?_
  refine r_iload dL_combine_7 rfl ?_
  refine r_catchV4 okX8_combine ⟨by decide, by decide⟩ ml_L_29 (mX8_combine hx hv hi q0 q1 q2 q3) hx.1 rfl rfl (Nat.le_of_ble_eq_true rfl) (Nat.le_of_ble_eq_true rfl) (Nat.le_of_ble_eq_true rfl) dL_combine_9 (fun E2 M2 hq => ?_) (fun v M2 hq => ?_)
  · obtain ⟨rfl, hne, hq⟩ := UY.thr hq
    have hin : inL [xI, xA, xS] (e2 (eSet k) (e2 (eSet k1) (e2 (eSet k2) (e2 (eB (0 ≤ how ∧ how ≤ 3) xA) (eB ((jnF (n k1) (F k1) (n k2) (F k2) how).1 ≤ 60) xS))))) := by repeat' (first | exact in_eSet (by simp) | exact in_eStg (by simp) | exact in_eB (by simp) | refine in_e2 ?_ ?_)
    rcases hin with hin | hin
    · exact absurd hin hne
    · simp only [List.mem_cons, List.not_mem_nil, or_false] at hin
      rcases hin with hin | hin | hin
      · refine ⟨17, by rw [hin]; exact ⟨[], [(0, 14, 21, 15), (0, 14, 25, 17)], 0, 14, 13, _, rfl, (fun _ h => nomatch h), rfl, by decide, cn_L_13, zc_xI⟩, fun q => ?_⟩
        refine r_astoreT dL_combine_17 (by decide) rfl ?_
        refine r_iconst dL_combine_19 ?_
        refine e_ireturn dL_combine_20 rfl (Nat.le_of_ble_eq_true rfl) (Nat.le_of_ble_eq_true rfl) ?_
        exact UL.no hne (by rw [hin]; decide +kernel) hq
      · refine ⟨21, by rw [hin]; exact ⟨[(0, 14, 17, 13)], [(0, 14, 25, 17)], 0, 14, 15, _, rfl, List.forall_mem_cons.mpr ⟨⟨by decide, _, cn_L_13, zn_xAxI⟩, fun _ h => nomatch h⟩, rfl, by decide, cn_L_15, zc_xA⟩, fun q => ?_⟩
        refine r_astoreT dL_combine_21 (by decide) rfl ?_
        refine r_iconst dL_combine_23 ?_
        refine e_ireturn dL_combine_24 rfl (Nat.le_of_ble_eq_true rfl) (Nat.le_of_ble_eq_true rfl) ?_
        exact UL.no hne (by rw [hin]; decide +kernel) hq
      · refine ⟨25, by rw [hin]; exact ⟨[(0, 14, 17, 13), (0, 14, 21, 15)], [], 0, 14, 17, _, rfl, List.forall_mem_cons.mpr ⟨⟨by decide, _, cn_L_13, zn_xSxI⟩, List.forall_mem_cons.mpr ⟨⟨by decide, _, cn_L_15, zn_xSxA⟩, fun _ h => nomatch h⟩⟩, rfl, by decide, cn_L_17, zc_xS⟩, fun q => ?_⟩
        refine r_astoreT dL_combine_25 (by decide) rfl ?_
        refine r_iconst dL_combine_27 ?_
        refine e_ireturn dL_combine_28 rfl (Nat.le_of_ble_eq_true rfl) (Nat.le_of_ble_eq_true rfl) ?_
        exact UL.no hne (by rw [hin]; decide +kernel) hq
  obtain ⟨rfl, hE, hq⟩ := UY.ret hq
  have hou := (hq.2.at hi ⟨by omega, by omega⟩ ⟨by omega, by omega⟩ (j := 121) (by omega)).trans ho
  refine r_i2l dL_combine_12 ?_
  refine r_lastore hou (by omega) (by omega) (by omega) dL_combine_13 ?_
  refine r_goto (tgt := 29) dL_combine_14 (by decide) ?_
  refine r_iconst dL_combine_29 ?_
  refine e_ireturn dL_combine_30 rfl (Nat.le_of_ble_eq_true rfl) (Nat.le_of_ble_eq_true rfl) ?_
  exact UL.ok hE hq rfl (uI_s _ _ _)

set_option maxHeartbeats 4000000 in
theorem mL_set {M : Mem} {ad : Int → Nat} {n : Int → Int} {F : Int → Int → Int} {g : Int → Int} {m : Int} {S : Int → Sg3} {len : Int} {c : Int → Int} {k v : Int} (hx : XSt M ad (n, F, g) m S len c) (hv : Vld (n, F, g)) (hi : Inj ad) (q0 : R32 k) (q1 : R32 v) {f9 : Int → Int64} (ho : M (ad 121) = some (aL 1 f9)) : Ct KL_set [.ref (ad 0), vI k, vI v, .ref (ad 121)] M 6 36 (UL ad (e2 (eStg k) (eB ((k = 0 ∧ 2 ≤ v ∧ v ≤ 16) ∨ (k ≠ 0 ∧ 1 ≤ v ∧ v ≤ 9999)) xA)) (g k) tc3 (fun M2 => XSt M2 ad (n, F, uI g k v) (svM m) (svS m S (n, F, g)) len c ∧ FrI ad 0 112 M M2) (fun M2 => XSt M2 ad (n, F, g) m S len c ∧ FrI ad 0 112 M M2)) := by
  refine Ct.ofH _ (by decide) rfl (Nat.le_of_ble_eq_true rfl) ?_
  refine r_aload_n dL_set_0 rfl ?_
  refine r_iconst dL_set_1 ?_
  refine r_aload_n dL_set_2 rfl ?_
  refine r_iload_n dL_set_3 rfl ?_
  refine r_iload_n dL_set_4 rfl ?_
  refine r_catchV2 okX8_set ⟨by decide, by decide⟩ ml_L_33 (mX8_set hx hv hi q0 q1) hx.1 rfl rfl (Nat.le_of_ble_eq_true rfl) (Nat.le_of_ble_eq_true rfl) (Nat.le_of_ble_eq_true rfl) dL_set_5 (fun E2 M2 hq => ?_) (fun v M2 hq => ?_)
  · obtain ⟨rfl, hne, hq⟩ := UY.thr (UX.y (P0 := fun M2 => XSt M2 ad (n, F, g) m S len c ∧ FrI ad 0 112 M M2) ⟨hx, FrI.rf⟩ hq)
    have hin : inL [xI, xA] (e2 (eStg k) (eB ((k = 0 ∧ 2 ≤ v ∧ v ≤ 16) ∨ (k ≠ 0 ∧ 1 ≤ v ∧ v ≤ 9999)) xA)) := by repeat' (first | exact in_eSet (by simp) | exact in_eStg (by simp) | exact in_eB (by simp) | refine in_e2 ?_ ?_)
    rcases hin with hin | hin
    · exact absurd hin hne
    · simp only [List.mem_cons, List.not_mem_nil, or_false] at hin
      rcases hin with hin | hin
      · refine ⟨13, by rw [hin]; exact ⟨[], [(0, 10, 17, 15)], 0, 10, 13, _, rfl, (fun _ h => nomatch h), rfl, by decide, cn_L_13, zc_xI⟩, fun q => ?_⟩
        refine r_astoreT dL_set_13 (by decide) rfl ?_
        refine r_iconst dL_set_15 ?_
        refine e_ireturn dL_set_16 rfl (Nat.le_of_ble_eq_true rfl) (Nat.le_of_ble_eq_true rfl) ?_
        exact UL.no hne (by rw [hin]; decide +kernel) hq
      · refine ⟨17, by rw [hin]; exact ⟨[(0, 10, 13, 13)], [], 0, 10, 15, _, rfl, List.forall_mem_cons.mpr ⟨⟨by decide, _, cn_L_13, zn_xAxI⟩, fun _ h => nomatch h⟩, rfl, by decide, cn_L_15, zc_xA⟩, fun q => ?_⟩
        refine r_astoreT dL_set_17 (by decide) rfl ?_
        refine r_iconst dL_set_19 ?_
        refine e_ireturn dL_set_20 rfl (Nat.le_of_ble_eq_true rfl) (Nat.le_of_ble_eq_true rfl) ?_
        exact UL.no hne (by rw [hin]; decide +kernel) hq
  obtain ⟨rfl, hE, hq⟩ := UY.ret (UX.y (P0 := fun M2 => XSt M2 ad (n, F, g) m S len c ∧ FrI ad 0 112 M M2) ⟨hx, FrI.rf⟩ hq)
  have hou := (hq.2.at hi ⟨by omega, by omega⟩ ⟨by omega, by omega⟩ (j := 121) (by omega)).trans ho
  refine r_i2l dL_set_8 ?_
  refine r_lastore hou (by omega) (by omega) (by omega) dL_set_9 ?_
  refine r_goto (tgt := 21) dL_set_10 (by decide) ?_
  refine r_iconst dL_set_21 ?_
  refine e_ireturn dL_set_22 rfl (Nat.le_of_ble_eq_true rfl) (Nat.le_of_ble_eq_true rfl) ?_
  exact UL.ok hE hq rfl (uI_s _ _ _)

set_option maxHeartbeats 4000000 in
theorem mL_append {M : Mem} {ad : Int → Nat} {n : Int → Int} {F : Int → Int → Int} {g : Int → Int} {m : Int} {S : Int → Sg3} {len : Int} {c : Int → Int} {x : Int} (hx : XSt M ad (n, F, g) m S len c) (hv : Vld (n, F, g)) (hi : Inj ad) (q0 : R32 x) {f9 : Int → Int64} (ho : M (ad 121) = some (aL 1 f9)) : Ct KL_append [.ref (ad 0), vI x, .ref (ad 121)] M 6 36 (UL ad (e2 (eB (33 ≤ x ∧ x ≤ 126) xA) (eB (len < 60) xS)) (len + 1) tcA (fun M2 => XSt M2 ad (n, F, g) m S (len + 1) (uI c len x) ∧ FrI ad 0 112 M M2) (fun M2 => XSt M2 ad (n, F, g) m S len c ∧ FrI ad 0 112 M M2)) := by
  refine Ct.ofH _ (by decide) rfl (Nat.le_of_ble_eq_true rfl) ?_
  refine r_aload_n dL_append_0 rfl ?_
  refine r_iconst dL_append_1 ?_
  refine r_aload_n dL_append_2 rfl ?_
  refine r_iload_n dL_append_3 rfl ?_
  refine r_catchV1 okX8_append ⟨by decide, by decide⟩ ml_L_36 (mX8_append hx hv hi q0) hx.1 rfl rfl (Nat.le_of_ble_eq_true rfl) (Nat.le_of_ble_eq_true rfl) (Nat.le_of_ble_eq_true rfl) dL_append_4 (fun E2 M2 hq => ?_) (fun v M2 hq => ?_)
  · obtain ⟨rfl, hne, hq⟩ := UY.thr (UX.y (P0 := fun M2 => XSt M2 ad (n, F, g) m S len c ∧ FrI ad 0 112 M M2) ⟨hx, FrI.rf⟩ hq)
    have hin : inL [xA, xS] (e2 (eB (33 ≤ x ∧ x ≤ 126) xA) (eB (len < 60) xS)) := by repeat' (first | exact in_eSet (by simp) | exact in_eStg (by simp) | exact in_eB (by simp) | refine in_e2 ?_ ?_)
    rcases hin with hin | hin
    · exact absurd hin hne
    · simp only [List.mem_cons, List.not_mem_nil, or_false] at hin
      rcases hin with hin | hin
      · refine ⟨12, by rw [hin]; exact ⟨[], [(0, 9, 15, 17)], 0, 9, 15, _, rfl, (fun _ h => nomatch h), rfl, by decide, cn_L_15, zc_xA⟩, fun q => ?_⟩
        refine r_astore_nT dL_append_12 (by decide) rfl ?_
        refine r_iconst dL_append_13 ?_
        refine e_ireturn dL_append_14 rfl (Nat.le_of_ble_eq_true rfl) (Nat.le_of_ble_eq_true rfl) ?_
        exact UL.no hne (by rw [hin]; decide +kernel) hq
      · refine ⟨15, by rw [hin]; exact ⟨[(0, 9, 12, 15)], [], 0, 9, 17, _, rfl, List.forall_mem_cons.mpr ⟨⟨by decide, _, cn_L_15, zn_xSxA⟩, fun _ h => nomatch h⟩, rfl, by decide, cn_L_17, zc_xS⟩, fun q => ?_⟩
        refine r_astore_nT dL_append_15 (by decide) rfl ?_
        refine r_iconst dL_append_16 ?_
        refine e_ireturn dL_append_17 rfl (Nat.le_of_ble_eq_true rfl) (Nat.le_of_ble_eq_true rfl) ?_
        exact UL.no hne (by rw [hin]; decide +kernel) hq
  obtain ⟨rfl, hE, hq⟩ := UY.ret (UX.y (P0 := fun M2 => XSt M2 ad (n, F, g) m S len c ∧ FrI ad 0 112 M M2) ⟨hx, FrI.rf⟩ hq)
  have hou := (hq.2.at hi ⟨by omega, by omega⟩ ⟨by omega, by omega⟩ (j := 121) (by omega)).trans ho
  refine r_i2l dL_append_7 ?_
  refine r_lastore hou (by omega) (by omega) (by omega) dL_append_8 ?_
  refine r_goto (tgt := 18) dL_append_9 (by decide) ?_
  refine r_iconst dL_append_18 ?_
  refine e_ireturn dL_append_19 rfl (Nat.le_of_ble_eq_true rfl) (Nat.le_of_ble_eq_true rfl) ?_
  exact UL.ok hE hq rfl (uI_s _ _ _)

set_option maxHeartbeats 4000000 in
theorem mL_read {M : Mem} {ad : Int → Nat} {n : Int → Int} {F : Int → Int → Int} {g : Int → Int} {m : Int} {S : Int → Sg3} {len : Int} {c : Int → Int} {k : Int} (hx : XSt M ad (n, F, g) m S len c) (hv : Vld (n, F, g)) (hi : Inj ad) (q0 : R32 k) {f9 : Int → Int64} (ho : M (ad 121) = some (aL 1 f9)) : Ct KL_read [.ref (ad 0), vI k, .ref (ad 121)] M 6 36 (UL ad (e2 (eSet k) (e2 (eB (pwF len c = true) xA) (eB (smF (cntP (ptA len c) (ptB len c)) (ptN len c).toNat 0 ≤ 60) xS))) (smF (cntP (ptA len c) (ptB len c)) (ptN len c).toNat 0) tc3 (fun M2 => XSt M2 ad (uI n k ((flF (ptA len c) (ptB len c) (ptN len c).toNat 0 0 (fun _ => 0)).1), uI F k ((flF (ptA len c) (ptB len c) (ptN len c).toNat 0 0 (fun _ => 0)).2), g) (svM m) (svS m S (n, F, g)) 0 c ∧ FrI ad 0 112 M M2) (fun M2 => XSt M2 ad (n, F, g) m S len c ∧ FrI ad 0 112 M M2)) := by
  refine Ct.ofH _ (by decide) rfl (Nat.le_of_ble_eq_true rfl) ?_
  refine r_aload_n dL_read_0 rfl ?_
  refine r_iconst dL_read_1 ?_
  refine r_aload_n dL_read_2 rfl ?_
  refine r_iload_n dL_read_3 rfl ?_
  refine r_catchV1 okX8_read ⟨by decide, by decide⟩ ml_L_40 (mX8_read hx hv hi q0) hx.1 rfl rfl (Nat.le_of_ble_eq_true rfl) (Nat.le_of_ble_eq_true rfl) (Nat.le_of_ble_eq_true rfl) dL_read_4 (fun E2 M2 hq => ?_) (fun v M2 hq => ?_)
  · obtain ⟨rfl, hne, hq⟩ := UY.thr hq
    have hin : inL [xI, xA, xS] (e2 (eSet k) (e2 (eB (pwF len c = true) xA) (eB (smF (cntP (ptA len c) (ptB len c)) (ptN len c).toNat 0 ≤ 60) xS))) := by repeat' (first | exact in_eSet (by simp) | exact in_eStg (by simp) | exact in_eB (by simp) | refine in_e2 ?_ ?_)
    rcases hin with hin | hin
    · exact absurd hin hne
    · simp only [List.mem_cons, List.not_mem_nil, or_false] at hin
      rcases hin with hin | hin | hin
      · refine ⟨12, by rw [hin]; exact ⟨[], [(0, 9, 15, 15), (0, 9, 18, 17)], 0, 9, 13, _, rfl, (fun _ h => nomatch h), rfl, by decide, cn_L_13, zc_xI⟩, fun q => ?_⟩
        refine r_astore_nT dL_read_12 (by decide) rfl ?_
        refine r_iconst dL_read_13 ?_
        refine e_ireturn dL_read_14 rfl (Nat.le_of_ble_eq_true rfl) (Nat.le_of_ble_eq_true rfl) ?_
        exact UL.no hne (by rw [hin]; decide +kernel) hq
      · refine ⟨15, by rw [hin]; exact ⟨[(0, 9, 12, 13)], [(0, 9, 18, 17)], 0, 9, 15, _, rfl, List.forall_mem_cons.mpr ⟨⟨by decide, _, cn_L_13, zn_xAxI⟩, fun _ h => nomatch h⟩, rfl, by decide, cn_L_15, zc_xA⟩, fun q => ?_⟩
        refine r_astore_nT dL_read_15 (by decide) rfl ?_
        refine r_iconst dL_read_16 ?_
        refine e_ireturn dL_read_17 rfl (Nat.le_of_ble_eq_true rfl) (Nat.le_of_ble_eq_true rfl) ?_
        exact UL.no hne (by rw [hin]; decide +kernel) hq
      · refine ⟨18, by rw [hin]; exact ⟨[(0, 9, 12, 13), (0, 9, 15, 15)], [], 0, 9, 17, _, rfl, List.forall_mem_cons.mpr ⟨⟨by decide, _, cn_L_13, zn_xSxI⟩, List.forall_mem_cons.mpr ⟨⟨by decide, _, cn_L_15, zn_xSxA⟩, fun _ h => nomatch h⟩⟩, rfl, by decide, cn_L_17, zc_xS⟩, fun q => ?_⟩
        refine r_astore_nT dL_read_18 (by decide) rfl ?_
        refine r_iconst dL_read_19 ?_
        refine e_ireturn dL_read_20 rfl (Nat.le_of_ble_eq_true rfl) (Nat.le_of_ble_eq_true rfl) ?_
        exact UL.no hne (by rw [hin]; decide +kernel) hq
  obtain ⟨rfl, hE, hq⟩ := UY.ret hq
  have hou := (hq.2.at hi ⟨by omega, by omega⟩ ⟨by omega, by omega⟩ (j := 121) (by omega)).trans ho
  refine r_i2l dL_read_7 ?_
  refine r_lastore hou (by omega) (by omega) (by omega) dL_read_8 ?_
  refine r_goto (tgt := 21) dL_read_9 (by decide) ?_
  refine r_iconst dL_read_21 ?_
  refine e_ireturn dL_read_22 rfl (Nat.le_of_ble_eq_true rfl) (Nat.le_of_ble_eq_true rfl) ?_
  exact UL.ok hE hq rfl (uI_s _ _ _)

set_option maxHeartbeats 4000000 in
theorem mL_undo {M : Mem} {ad : Int → Nat} {n : Int → Int} {F : Int → Int → Int} {g : Int → Int} {m : Int} {S : Int → Sg3} {len : Int} {c : Int → Int} (hx : XSt M ad (n, F, g) m S len c) (hv : Vld (n, F, g)) (hi : Inj ad) {f9 : Int → Int64} (ho : M (ad 121) = some (aL 1 f9)) : Ct KL_undo [.ref (ad 0), .ref (ad 121)] M 6 36 (UL ad (eB (0 < m) xS) (m - 1) tc1 (fun M2 => XSt M2 ad (S (m - 1)) (m - 1) S len c ∧ FrI ad 0 112 M M2) (fun M2 => XSt M2 ad (n, F, g) m S len c ∧ FrI ad 0 112 M M2)) := by
  refine Ct.ofH _ (by decide) rfl (Nat.le_of_ble_eq_true rfl) ?_
  refine r_aload_n dL_undo_0 rfl ?_
  refine r_iconst dL_undo_1 ?_
  refine r_aload_n dL_undo_2 rfl ?_
  refine r_catchV0 okX8_undo ⟨by decide, by decide⟩ ml_L_43 (mX8_undo hx hv hi) hx.1 rfl rfl (Nat.le_of_ble_eq_true rfl) (Nat.le_of_ble_eq_true rfl) (Nat.le_of_ble_eq_true rfl) dL_undo_3 (fun E2 M2 hq => ?_) (fun v M2 hq => ?_)
  · obtain ⟨rfl, hne, hq⟩ := UY.thr (UX.y (P0 := fun M2 => XSt M2 ad (n, F, g) m S len c ∧ FrI ad 0 112 M M2) ⟨hx, FrI.rf⟩ hq)
    have hin : inL [xS] (eB (0 < m) xS) := by repeat' (first | exact in_eSet (by simp) | exact in_eStg (by simp) | exact in_eB (by simp) | refine in_e2 ?_ ?_)
    rcases hin with hin | hin
    · exact absurd hin hne
    · simp only [List.mem_cons, List.not_mem_nil, or_false] at hin
      refine ⟨11, by rw [hin]; exact ⟨[], [], 0, 8, 17, _, rfl, (fun _ h => nomatch h), rfl, by decide, cn_L_17, zc_xS⟩, fun q => ?_⟩
      refine r_astore_nT dL_undo_11 (by decide) rfl ?_
      refine r_iconst dL_undo_12 ?_
      refine e_ireturn dL_undo_13 rfl (Nat.le_of_ble_eq_true rfl) (Nat.le_of_ble_eq_true rfl) ?_
      exact UL.no hne (by rw [hin]; decide +kernel) hq
  obtain ⟨rfl, hE, hq⟩ := UY.ret (UX.y (P0 := fun M2 => XSt M2 ad (n, F, g) m S len c ∧ FrI ad 0 112 M M2) ⟨hx, FrI.rf⟩ hq)
  have hou := (hq.2.at hi ⟨by omega, by omega⟩ ⟨by omega, by omega⟩ (j := 121) (by omega)).trans ho
  refine r_i2l dL_undo_6 ?_
  refine r_lastore hou (by omega) (by omega) (by omega) dL_undo_7 ?_
  refine r_goto (tgt := 14) dL_undo_8 (by decide) ?_
  refine r_iconst dL_undo_14 ?_
  refine e_ireturn dL_undo_15 rfl (Nat.le_of_ble_eq_true rfl) (Nat.le_of_ble_eq_true rfl) ?_
  exact UL.ok hE hq rfl (uI_s _ _ _)

set_option maxHeartbeats 4000000 in
theorem mL_has {M : Mem} {ad : Int → Nat} {n : Int → Int} {F : Int → Int → Int} {g : Int → Int} {m : Int} {S : Int → Sg3} {len : Int} {c : Int → Int} {k x : Int} (hx : XSt M ad (n, F, g) m S len c) (hv : Vld (n, F, g)) (hi : Inj ad) (q0 : R32 k) (q1 : R32 x) {f9 : Int → Int64} (ho : M (ad 121) = some (aL 1 f9)) : Ct KL_has [.ref (ad 0), vI k, vI x, .ref (ad 121)] M 6 36 (UL ad (e2 (eSet k) (eB (0 ≤ x ∧ x ≤ 9999) xA)) (bI (hasF (n k) (F k) x)) tc3 (fun M2 => XSt M2 ad (n, F, g) m S len c ∧ FrI ad 0 112 M M2) (fun M2 => XSt M2 ad (n, F, g) m S len c ∧ FrI ad 0 112 M M2)) := by
  refine Ct.ofH _ (by decide) rfl (Nat.le_of_ble_eq_true rfl) ?_
  refine r_aload_n dL_has_0 rfl ?_
  refine r_iconst dL_has_1 ?_
  refine r_aload_n dL_has_2 rfl ?_
  refine r_iload_n dL_has_3 rfl ?_
  refine r_iload_n dL_has_4 rfl ?_
  refine r_catchV2 okX8_has ⟨by decide, by decide⟩ ml_L_47 (mX8_has hx hv hi q0 q1) hx.1 rfl rfl (Nat.le_of_ble_eq_true rfl) (Nat.le_of_ble_eq_true rfl) (Nat.le_of_ble_eq_true rfl) dL_has_5 (fun E2 M2 hq => ?_) (fun v M2 hq => ?_)
  · obtain ⟨rfl, hne, hq⟩ := UY.thr (UX.y (P0 := fun M2 => XSt M2 ad (n, F, g) m S len c ∧ FrI ad 0 112 M M2) ⟨hx, FrI.rf⟩ hq)
    have hin : inL [xI, xA] (e2 (eSet k) (eB (0 ≤ x ∧ x ≤ 9999) xA)) := by repeat' (first | exact in_eSet (by simp) | exact in_eStg (by simp) | exact in_eB (by simp) | refine in_e2 ?_ ?_)
    rcases hin with hin | hin
    · exact absurd hin hne
    · simp only [List.mem_cons, List.not_mem_nil, or_false] at hin
      rcases hin with hin | hin
      · refine ⟨13, by rw [hin]; exact ⟨[], [(0, 10, 17, 15)], 0, 10, 13, _, rfl, (fun _ h => nomatch h), rfl, by decide, cn_L_13, zc_xI⟩, fun q => ?_⟩
        refine r_astoreT dL_has_13 (by decide) rfl ?_
        refine r_iconst dL_has_15 ?_
        refine e_ireturn dL_has_16 rfl (Nat.le_of_ble_eq_true rfl) (Nat.le_of_ble_eq_true rfl) ?_
        exact UL.no hne (by rw [hin]; decide +kernel) hq
      · refine ⟨17, by rw [hin]; exact ⟨[(0, 10, 13, 13)], [], 0, 10, 15, _, rfl, List.forall_mem_cons.mpr ⟨⟨by decide, _, cn_L_13, zn_xAxI⟩, fun _ h => nomatch h⟩, rfl, by decide, cn_L_15, zc_xA⟩, fun q => ?_⟩
        refine r_astoreT dL_has_17 (by decide) rfl ?_
        refine r_iconst dL_has_19 ?_
        refine e_ireturn dL_has_20 rfl (Nat.le_of_ble_eq_true rfl) (Nat.le_of_ble_eq_true rfl) ?_
        exact UL.no hne (by rw [hin]; decide +kernel) hq
  obtain ⟨rfl, hE, hq⟩ := UY.ret (UX.y (P0 := fun M2 => XSt M2 ad (n, F, g) m S len c ∧ FrI ad 0 112 M M2) ⟨hx, FrI.rf⟩ hq)
  have hou := (hq.2.at hi ⟨by omega, by omega⟩ ⟨by omega, by omega⟩ (j := 121) (by omega)).trans ho
  refine r_i2l dL_has_8 ?_
  refine r_lastore hou (by omega) (by omega) (by omega) dL_has_9 ?_
  refine r_goto (tgt := 21) dL_has_10 (by decide) ?_
  refine r_iconst dL_has_21 ?_
  refine e_ireturn dL_has_22 rfl (Nat.le_of_ble_eq_true rfl) (Nat.le_of_ble_eq_true rfl) ?_
  exact UL.ok hE hq rfl (uI_s _ _ _)

set_option maxHeartbeats 4000000 in
theorem mL_member {M : Mem} {ad : Int → Nat} {n : Int → Int} {F : Int → Int → Int} {g : Int → Int} {m : Int} {S : Int → Sg3} {len : Int} {c : Int → Int} {k p : Int} (hx : XSt M ad (n, F, g) m S len c) (hv : Vld (n, F, g)) (hi : Inj ad) (q0 : R32 k) (q1 : R32 p) {f9 : Int → Int64} (ho : M (ad 121) = some (aL 1 f9)) : Ct KL_member [.ref (ad 0), vI k, vI p, .ref (ad 121)] M 6 36 (UL ad (e2 (eSet k) (eB (0 ≤ p) xA)) (atF (n k) (F k) p) tc3 (fun M2 => XSt M2 ad (n, F, g) m S len c ∧ FrI ad 0 112 M M2) (fun M2 => XSt M2 ad (n, F, g) m S len c ∧ FrI ad 0 112 M M2)) := by
  refine Ct.ofH _ (by decide) rfl (Nat.le_of_ble_eq_true rfl) ?_
  refine r_aload_n dL_member_0 rfl ?_
  refine r_iconst dL_member_1 ?_
  refine r_aload_n dL_member_2 rfl ?_
  refine r_iload_n dL_member_3 rfl ?_
  refine r_iload_n dL_member_4 rfl ?_
  refine r_catchV2 okX8_member ⟨by decide, by decide⟩ ml_L_50 (mX8_member hx hv hi q0 q1) hx.1 rfl rfl (Nat.le_of_ble_eq_true rfl) (Nat.le_of_ble_eq_true rfl) (Nat.le_of_ble_eq_true rfl) dL_member_5 (fun E2 M2 hq => ?_) (fun v M2 hq => ?_)
  · obtain ⟨rfl, hne, hq⟩ := UY.thr (UX.y (P0 := fun M2 => XSt M2 ad (n, F, g) m S len c ∧ FrI ad 0 112 M M2) ⟨hx, FrI.rf⟩ hq)
    have hin : inL [xI, xA] (e2 (eSet k) (eB (0 ≤ p) xA)) := by repeat' (first | exact in_eSet (by simp) | exact in_eStg (by simp) | exact in_eB (by simp) | refine in_e2 ?_ ?_)
    rcases hin with hin | hin
    · exact absurd hin hne
    · simp only [List.mem_cons, List.not_mem_nil, or_false] at hin
      rcases hin with hin | hin
      · refine ⟨13, by rw [hin]; exact ⟨[], [(0, 10, 17, 15)], 0, 10, 13, _, rfl, (fun _ h => nomatch h), rfl, by decide, cn_L_13, zc_xI⟩, fun q => ?_⟩
        refine r_astoreT dL_member_13 (by decide) rfl ?_
        refine r_iconst dL_member_15 ?_
        refine e_ireturn dL_member_16 rfl (Nat.le_of_ble_eq_true rfl) (Nat.le_of_ble_eq_true rfl) ?_
        exact UL.no hne (by rw [hin]; decide +kernel) hq
      · refine ⟨17, by rw [hin]; exact ⟨[(0, 10, 13, 13)], [], 0, 10, 15, _, rfl, List.forall_mem_cons.mpr ⟨⟨by decide, _, cn_L_13, zn_xAxI⟩, fun _ h => nomatch h⟩, rfl, by decide, cn_L_15, zc_xA⟩, fun q => ?_⟩
        refine r_astoreT dL_member_17 (by decide) rfl ?_
        refine r_iconst dL_member_19 ?_
        refine e_ireturn dL_member_20 rfl (Nat.le_of_ble_eq_true rfl) (Nat.le_of_ble_eq_true rfl) ?_
        exact UL.no hne (by rw [hin]; decide +kernel) hq
  obtain ⟨rfl, hE, hq⟩ := UY.ret (UX.y (P0 := fun M2 => XSt M2 ad (n, F, g) m S len c ∧ FrI ad 0 112 M M2) ⟨hx, FrI.rf⟩ hq)
  have hou := (hq.2.at hi ⟨by omega, by omega⟩ ⟨by omega, by omega⟩ (j := 121) (by omega)).trans ho
  refine r_i2l dL_member_8 ?_
  refine r_lastore hou (by omega) (by omega) (by omega) dL_member_9 ?_
  refine r_goto (tgt := 21) dL_member_10 (by decide) ?_
  refine r_iconst dL_member_21 ?_
  refine e_ireturn dL_member_22 rfl (Nat.le_of_ble_eq_true rfl) (Nat.le_of_ble_eq_true rfl) ?_
  exact UL.ok hE hq rfl (uI_s _ _ _)

set_option maxHeartbeats 4000000 in
theorem mL_less {M : Mem} {ad : Int → Nat} {n : Int → Int} {F : Int → Int → Int} {g : Int → Int} {m : Int} {S : Int → Sg3} {len : Int} {c : Int → Int} {k x : Int} (hx : XSt M ad (n, F, g) m S len c) (hv : Vld (n, F, g)) (hi : Inj ad) (q0 : R32 k) (q1 : R32 x) {f9 : Int → Int64} (ho : M (ad 121) = some (aL 1 f9)) : Ct KL_less [.ref (ad 0), vI k, vI x, .ref (ad 121)] M 6 36 (UL ad (e2 (eSet k) (eB (0 ≤ x ∧ x ≤ 9999) xA)) (plc (n k) (F k) x) tc3 (fun M2 => XSt M2 ad (n, F, g) m S len c ∧ FrI ad 0 112 M M2) (fun M2 => XSt M2 ad (n, F, g) m S len c ∧ FrI ad 0 112 M M2)) := by
  refine Ct.ofH _ (by decide) rfl (Nat.le_of_ble_eq_true rfl) ?_
  refine r_aload_n dL_less_0 rfl ?_
  refine r_iconst dL_less_1 ?_
  refine r_aload_n dL_less_2 rfl ?_
  refine r_iload_n dL_less_3 rfl ?_
  refine r_iload_n dL_less_4 rfl ?_
  refine r_catchV2 okX8_less ⟨by decide, by decide⟩ ml_L_53 (mX8_less hx hv hi q0 q1) hx.1 rfl rfl (Nat.le_of_ble_eq_true rfl) (Nat.le_of_ble_eq_true rfl) (Nat.le_of_ble_eq_true rfl) dL_less_5 (fun E2 M2 hq => ?_) (fun v M2 hq => ?_)
  · obtain ⟨rfl, hne, hq⟩ := UY.thr (UX.y (P0 := fun M2 => XSt M2 ad (n, F, g) m S len c ∧ FrI ad 0 112 M M2) ⟨hx, FrI.rf⟩ hq)
    have hin : inL [xI, xA] (e2 (eSet k) (eB (0 ≤ x ∧ x ≤ 9999) xA)) := by repeat' (first | exact in_eSet (by simp) | exact in_eStg (by simp) | exact in_eB (by simp) | refine in_e2 ?_ ?_)
    rcases hin with hin | hin
    · exact absurd hin hne
    · simp only [List.mem_cons, List.not_mem_nil, or_false] at hin
      rcases hin with hin | hin
      · refine ⟨13, by rw [hin]; exact ⟨[], [(0, 10, 17, 15)], 0, 10, 13, _, rfl, (fun _ h => nomatch h), rfl, by decide, cn_L_13, zc_xI⟩, fun q => ?_⟩
        refine r_astoreT dL_less_13 (by decide) rfl ?_
        refine r_iconst dL_less_15 ?_
        refine e_ireturn dL_less_16 rfl (Nat.le_of_ble_eq_true rfl) (Nat.le_of_ble_eq_true rfl) ?_
        exact UL.no hne (by rw [hin]; decide +kernel) hq
      · refine ⟨17, by rw [hin]; exact ⟨[(0, 10, 13, 13)], [], 0, 10, 15, _, rfl, List.forall_mem_cons.mpr ⟨⟨by decide, _, cn_L_13, zn_xAxI⟩, fun _ h => nomatch h⟩, rfl, by decide, cn_L_15, zc_xA⟩, fun q => ?_⟩
        refine r_astoreT dL_less_17 (by decide) rfl ?_
        refine r_iconst dL_less_19 ?_
        refine e_ireturn dL_less_20 rfl (Nat.le_of_ble_eq_true rfl) (Nat.le_of_ble_eq_true rfl) ?_
        exact UL.no hne (by rw [hin]; decide +kernel) hq
  obtain ⟨rfl, hE, hq⟩ := UY.ret (UX.y (P0 := fun M2 => XSt M2 ad (n, F, g) m S len c ∧ FrI ad 0 112 M M2) ⟨hx, FrI.rf⟩ hq)
  have hou := (hq.2.at hi ⟨by omega, by omega⟩ ⟨by omega, by omega⟩ (j := 121) (by omega)).trans ho
  refine r_i2l dL_less_8 ?_
  refine r_lastore hou (by omega) (by omega) (by omega) dL_less_9 ?_
  refine r_goto (tgt := 21) dL_less_10 (by decide) ?_
  refine r_iconst dL_less_21 ?_
  refine e_ireturn dL_less_22 rfl (Nat.le_of_ble_eq_true rfl) (Nat.le_of_ble_eq_true rfl) ?_
  exact UL.ok hE hq rfl (uI_s _ _ _)

set_option maxHeartbeats 4000000 in
theorem mL_nearest {M : Mem} {ad : Int → Nat} {n : Int → Int} {F : Int → Int → Int} {g : Int → Int} {m : Int} {S : Int → Sg3} {len : Int} {c : Int → Int} {k x : Int} (hx : XSt M ad (n, F, g) m S len c) (hv : Vld (n, F, g)) (hi : Inj ad) (q0 : R32 k) (q1 : R32 x) {f9 : Int → Int64} (ho : M (ad 121) = some (aL 1 f9)) : Ct KL_nearest [.ref (ad 0), vI k, vI x, .ref (ad 121)] M 6 36 (UL ad (e2 (eSet k) (eB (0 ≤ x ∧ x ≤ 9999) xA)) (nrF (n k) (F k) x) tc3 (fun M2 => XSt M2 ad (n, F, g) m S len c ∧ FrI ad 0 112 M M2) (fun M2 => XSt M2 ad (n, F, g) m S len c ∧ FrI ad 0 112 M M2)) := by
  refine Ct.ofH _ (by decide) rfl (Nat.le_of_ble_eq_true rfl) ?_
  refine r_aload_n dL_nearest_0 rfl ?_
  refine r_iconst dL_nearest_1 ?_
  refine r_aload_n dL_nearest_2 rfl ?_
  refine r_iload_n dL_nearest_3 rfl ?_
  refine r_iload_n dL_nearest_4 rfl ?_
  refine r_catchV2 okX8_nearest ⟨by decide, by decide⟩ ml_L_56 (mX8_nearest hx hv hi q0 q1) hx.1 rfl rfl (Nat.le_of_ble_eq_true rfl) (Nat.le_of_ble_eq_true rfl) (Nat.le_of_ble_eq_true rfl) dL_nearest_5 (fun E2 M2 hq => ?_) (fun v M2 hq => ?_)
  · obtain ⟨rfl, hne, hq⟩ := UY.thr (UX.y (P0 := fun M2 => XSt M2 ad (n, F, g) m S len c ∧ FrI ad 0 112 M M2) ⟨hx, FrI.rf⟩ hq)
    have hin : inL [xI, xA] (e2 (eSet k) (eB (0 ≤ x ∧ x ≤ 9999) xA)) := by repeat' (first | exact in_eSet (by simp) | exact in_eStg (by simp) | exact in_eB (by simp) | refine in_e2 ?_ ?_)
    rcases hin with hin | hin
    · exact absurd hin hne
    · simp only [List.mem_cons, List.not_mem_nil, or_false] at hin
      rcases hin with hin | hin
      · refine ⟨13, by rw [hin]; exact ⟨[], [(0, 10, 17, 15)], 0, 10, 13, _, rfl, (fun _ h => nomatch h), rfl, by decide, cn_L_13, zc_xI⟩, fun q => ?_⟩
        refine r_astoreT dL_nearest_13 (by decide) rfl ?_
        refine r_iconst dL_nearest_15 ?_
        refine e_ireturn dL_nearest_16 rfl (Nat.le_of_ble_eq_true rfl) (Nat.le_of_ble_eq_true rfl) ?_
        exact UL.no hne (by rw [hin]; decide +kernel) hq
      · refine ⟨17, by rw [hin]; exact ⟨[(0, 10, 13, 13)], [], 0, 10, 15, _, rfl, List.forall_mem_cons.mpr ⟨⟨by decide, _, cn_L_13, zn_xAxI⟩, fun _ h => nomatch h⟩, rfl, by decide, cn_L_15, zc_xA⟩, fun q => ?_⟩
        refine r_astoreT dL_nearest_17 (by decide) rfl ?_
        refine r_iconst dL_nearest_19 ?_
        refine e_ireturn dL_nearest_20 rfl (Nat.le_of_ble_eq_true rfl) (Nat.le_of_ble_eq_true rfl) ?_
        exact UL.no hne (by rw [hin]; decide +kernel) hq
  obtain ⟨rfl, hE, hq⟩ := UY.ret (UX.y (P0 := fun M2 => XSt M2 ad (n, F, g) m S len c ∧ FrI ad 0 112 M M2) ⟨hx, FrI.rf⟩ hq)
  have hou := (hq.2.at hi ⟨by omega, by omega⟩ ⟨by omega, by omega⟩ (j := 121) (by omega)).trans ho
  refine r_i2l dL_nearest_8 ?_
  refine r_lastore hou (by omega) (by omega) (by omega) dL_nearest_9 ?_
  refine r_goto (tgt := 21) dL_nearest_10 (by decide) ?_
  refine r_iconst dL_nearest_21 ?_
  refine e_ireturn dL_nearest_22 rfl (Nat.le_of_ble_eq_true rfl) (Nat.le_of_ble_eq_true rfl) ?_
  exact UL.ok hE hq rfl (uI_s _ _ _)

set_option maxHeartbeats 4000000 in
theorem mL_block {M : Mem} {ad : Int → Nat} {n : Int → Int} {F : Int → Int → Int} {g : Int → Int} {m : Int} {S : Int → Sg3} {len : Int} {c : Int → Int} {k b w : Int} (hx : XSt M ad (n, F, g) m S len c) (hv : Vld (n, F, g)) (hi : Inj ad) (q0 : R32 k) (q1 : R32 b) (q2 : R32 w) {f9 : Int → Int64} (ho : M (ad 121) = some (aL 1 f9)) : Ct KL_block [.ref (ad 0), vI k, vI b, vI w, .ref (ad 121)] M 6 36 (UL ad (e2 (eSet k) (eB (0 ≤ b ∧ (0 ≤ w ∧ w ≤ 5)) xA)) (blkV (n k) (F k) g b w) tc3 (fun M2 => XSt M2 ad (n, F, g) m S len c ∧ FrI ad 0 112 M M2) (fun M2 => XSt M2 ad (n, F, g) m S len c ∧ FrI ad 0 112 M M2)) := by
  refine Ct.ofH _ (by decide) rfl (Nat.le_of_ble_eq_true rfl) ?_
  refine r_aload dL_block_0 rfl ?_
  refine r_iconst dL_block_2 ?_
  refine r_aload_n dL_block_3 rfl ?_
  refine r_iload_n dL_block_4 rfl ?_
  refine r_iload_n dL_block_5 rfl ?_
  refine r_iload_n dL_block_6 rfl ?_
  refine r_catchV3 okX8_block ⟨by decide, by decide⟩ ml_L_59 (mX8_block hx hv hi q0 q1 q2) hx.1 rfl rfl (Nat.le_of_ble_eq_true rfl) (Nat.le_of_ble_eq_true rfl) (Nat.le_of_ble_eq_true rfl) dL_block_7 (fun E2 M2 hq => ?_) (fun v M2 hq => ?_)
  · obtain ⟨rfl, hne, hq⟩ := UY.thr (UX.y (P0 := fun M2 => XSt M2 ad (n, F, g) m S len c ∧ FrI ad 0 112 M M2) ⟨hx, FrI.rf⟩ hq)
    have hin : inL [xI, xA] (e2 (eSet k) (eB (0 ≤ b ∧ (0 ≤ w ∧ w ≤ 5)) xA)) := by repeat' (first | exact in_eSet (by simp) | exact in_eStg (by simp) | exact in_eB (by simp) | refine in_e2 ?_ ?_)
    rcases hin with hin | hin
    · exact absurd hin hne
    · simp only [List.mem_cons, List.not_mem_nil, or_false] at hin
      rcases hin with hin | hin
      · refine ⟨15, by rw [hin]; exact ⟨[], [(0, 12, 19, 15)], 0, 12, 13, _, rfl, (fun _ h => nomatch h), rfl, by decide, cn_L_13, zc_xI⟩, fun q => ?_⟩
        refine r_astoreT dL_block_15 (by decide) rfl ?_
        refine r_iconst dL_block_17 ?_
        refine e_ireturn dL_block_18 rfl (Nat.le_of_ble_eq_true rfl) (Nat.le_of_ble_eq_true rfl) ?_
        exact UL.no hne (by rw [hin]; decide +kernel) hq
      · refine ⟨19, by rw [hin]; exact ⟨[(0, 12, 15, 13)], [], 0, 12, 15, _, rfl, List.forall_mem_cons.mpr ⟨⟨by decide, _, cn_L_13, zn_xAxI⟩, fun _ h => nomatch h⟩, rfl, by decide, cn_L_15, zc_xA⟩, fun q => ?_⟩
        refine r_astoreT dL_block_19 (by decide) rfl ?_
        refine r_iconst dL_block_21 ?_
        refine e_ireturn dL_block_22 rfl (Nat.le_of_ble_eq_true rfl) (Nat.le_of_ble_eq_true rfl) ?_
        exact UL.no hne (by rw [hin]; decide +kernel) hq
  obtain ⟨rfl, hE, hq⟩ := UY.ret (UX.y (P0 := fun M2 => XSt M2 ad (n, F, g) m S len c ∧ FrI ad 0 112 M M2) ⟨hx, FrI.rf⟩ hq)
  have hou := (hq.2.at hi ⟨by omega, by omega⟩ ⟨by omega, by omega⟩ (j := 121) (by omega)).trans ho
  refine r_i2l dL_block_10 ?_
  refine r_lastore hou (by omega) (by omega) (by omega) dL_block_11 ?_
  refine r_goto (tgt := 23) dL_block_12 (by decide) ?_
  refine r_iconst dL_block_23 ?_
  refine e_ireturn dL_block_24 rfl (Nat.le_of_ble_eq_true rfl) (Nat.le_of_ble_eq_true rfl) ?_
  exact UL.ok hE hq rfl (uI_s _ _ _)

set_option maxHeartbeats 4000000 in
theorem mL_of {M : Mem} {ad : Int → Nat} {n : Int → Int} {F : Int → Int → Int} {g : Int → Int} {m : Int} {S : Int → Sg3} {len : Int} {c : Int → Int} {k w : Int} (hx : XSt M ad (n, F, g) m S len c) (hv : Vld (n, F, g)) (hi : Inj ad) (q0 : R32 k) (q1 : R32 w) {f9 : Int → Int64} (ho : M (ad 121) = some (aL 1 f9)) : Ct KL_of [.ref (ad 0), vI k, vI w, .ref (ad 121)] M 6 36 (UL ad (e2 (eSet k) (eB (0 ≤ w ∧ w ≤ 7) xA)) (ofV (n k) (F k) g w) tc3 (fun M2 => XSt M2 ad (n, F, g) m S len c ∧ FrI ad 0 112 M M2) (fun M2 => XSt M2 ad (n, F, g) m S len c ∧ FrI ad 0 112 M M2)) := by
  refine Ct.ofH _ (by decide) rfl (Nat.le_of_ble_eq_true rfl) ?_
  refine r_aload_n dL_of_0 rfl ?_
  refine r_iconst dL_of_1 ?_
  refine r_aload_n dL_of_2 rfl ?_
  refine r_iload_n dL_of_3 rfl ?_
  refine r_iload_n dL_of_4 rfl ?_
  refine r_catchV2 okX8_of ⟨by decide, by decide⟩ ml_L_62 (mX8_of hx hv hi q0 q1) hx.1 rfl rfl (Nat.le_of_ble_eq_true rfl) (Nat.le_of_ble_eq_true rfl) (Nat.le_of_ble_eq_true rfl) dL_of_5 (fun E2 M2 hq => ?_) (fun v M2 hq => ?_)
  · obtain ⟨rfl, hne, hq⟩ := UY.thr (UX.y (P0 := fun M2 => XSt M2 ad (n, F, g) m S len c ∧ FrI ad 0 112 M M2) ⟨hx, FrI.rf⟩ hq)
    have hin : inL [xI, xA] (e2 (eSet k) (eB (0 ≤ w ∧ w ≤ 7) xA)) := by repeat' (first | exact in_eSet (by simp) | exact in_eStg (by simp) | exact in_eB (by simp) | refine in_e2 ?_ ?_)
    rcases hin with hin | hin
    · exact absurd hin hne
    · simp only [List.mem_cons, List.not_mem_nil, or_false] at hin
      rcases hin with hin | hin
      · refine ⟨13, by rw [hin]; exact ⟨[], [(0, 10, 17, 15)], 0, 10, 13, _, rfl, (fun _ h => nomatch h), rfl, by decide, cn_L_13, zc_xI⟩, fun q => ?_⟩
        refine r_astoreT dL_of_13 (by decide) rfl ?_
        refine r_iconst dL_of_15 ?_
        refine e_ireturn dL_of_16 rfl (Nat.le_of_ble_eq_true rfl) (Nat.le_of_ble_eq_true rfl) ?_
        exact UL.no hne (by rw [hin]; decide +kernel) hq
      · refine ⟨17, by rw [hin]; exact ⟨[(0, 10, 13, 13)], [], 0, 10, 15, _, rfl, List.forall_mem_cons.mpr ⟨⟨by decide, _, cn_L_13, zn_xAxI⟩, fun _ h => nomatch h⟩, rfl, by decide, cn_L_15, zc_xA⟩, fun q => ?_⟩
        refine r_astoreT dL_of_17 (by decide) rfl ?_
        refine r_iconst dL_of_19 ?_
        refine e_ireturn dL_of_20 rfl (Nat.le_of_ble_eq_true rfl) (Nat.le_of_ble_eq_true rfl) ?_
        exact UL.no hne (by rw [hin]; decide +kernel) hq
  obtain ⟨rfl, hE, hq⟩ := UY.ret (UX.y (P0 := fun M2 => XSt M2 ad (n, F, g) m S len c ∧ FrI ad 0 112 M M2) ⟨hx, FrI.rf⟩ hq)
  have hou := (hq.2.at hi ⟨by omega, by omega⟩ ⟨by omega, by omega⟩ (j := 121) (by omega)).trans ho
  refine r_i2l dL_of_8 ?_
  refine r_lastore hou (by omega) (by omega) (by omega) dL_of_9 ?_
  refine r_goto (tgt := 21) dL_of_10 (by decide) ?_
  refine r_iconst dL_of_21 ?_
  refine e_ireturn dL_of_22 rfl (Nat.le_of_ble_eq_true rfl) (Nat.le_of_ble_eq_true rfl) ?_
  exact UL.ok hE hq rfl (uI_s _ _ _)

set_option maxHeartbeats 4000000 in
theorem mL_leaps {M : Mem} {ad : Int → Nat} {n : Int → Int} {F : Int → Int → Int} {g : Int → Int} {m : Int} {S : Int → Sg3} {len : Int} {c : Int → Int} {k x w : Int} (hx : XSt M ad (n, F, g) m S len c) (hv : Vld (n, F, g)) (hi : Inj ad) (q0 : R32 k) (q1 : R32 x) (q2 : R32 w) {f9 : Int → Int64} (ho : M (ad 121) = some (aL 1 f9)) : Ct KL_leaps [.ref (ad 0), vI k, vI x, vI w, .ref (ad 121)] M 6 36 (UL ad (e2 (eSet k) (e2 (eSet x) (eB (0 ≤ w ∧ w ≤ 3) xA))) (tolF (mtS n F g k x) w) tc3 (fun M2 => XSt M2 ad (n, F, g) m S len c ∧ FrI ad 0 112 M M2) (fun M2 => XSt M2 ad (n, F, g) m S len c ∧ FrI ad 0 112 M M2)) := by
  refine Ct.ofH _ (by decide) rfl (Nat.le_of_ble_eq_true rfl) ?_
  refine r_aload dL_leaps_0 rfl ?_
  refine r_iconst dL_leaps_2 ?_
  refine r_aload_n dL_leaps_3 rfl ?_
  refine r_iload_n dL_leaps_4 rfl ?_
  refine r_iload_n dL_leaps_5 rfl ?_
  refine r_iload_n dL_leaps_6 rfl ?_
  refine r_catchV3 okX8_leaps ⟨by decide, by decide⟩ ml_L_65 (mX8_leaps hx hv hi q0 q1 q2) hx.1 rfl rfl (Nat.le_of_ble_eq_true rfl) (Nat.le_of_ble_eq_true rfl) (Nat.le_of_ble_eq_true rfl) dL_leaps_7 (fun E2 M2 hq => ?_) (fun v M2 hq => ?_)
  · obtain ⟨rfl, hne, hq⟩ := UY.thr (UX.y (P0 := fun M2 => XSt M2 ad (n, F, g) m S len c ∧ FrI ad 0 112 M M2) ⟨hx, FrI.rf⟩ hq)
    have hin : inL [xI, xA] (e2 (eSet k) (e2 (eSet x) (eB (0 ≤ w ∧ w ≤ 3) xA))) := by repeat' (first | exact in_eSet (by simp) | exact in_eStg (by simp) | exact in_eB (by simp) | refine in_e2 ?_ ?_)
    rcases hin with hin | hin
    · exact absurd hin hne
    · simp only [List.mem_cons, List.not_mem_nil, or_false] at hin
      rcases hin with hin | hin
      · refine ⟨15, by rw [hin]; exact ⟨[], [(0, 12, 19, 15)], 0, 12, 13, _, rfl, (fun _ h => nomatch h), rfl, by decide, cn_L_13, zc_xI⟩, fun q => ?_⟩
        refine r_astoreT dL_leaps_15 (by decide) rfl ?_
        refine r_iconst dL_leaps_17 ?_
        refine e_ireturn dL_leaps_18 rfl (Nat.le_of_ble_eq_true rfl) (Nat.le_of_ble_eq_true rfl) ?_
        exact UL.no hne (by rw [hin]; decide +kernel) hq
      · refine ⟨19, by rw [hin]; exact ⟨[(0, 12, 15, 13)], [], 0, 12, 15, _, rfl, List.forall_mem_cons.mpr ⟨⟨by decide, _, cn_L_13, zn_xAxI⟩, fun _ h => nomatch h⟩, rfl, by decide, cn_L_15, zc_xA⟩, fun q => ?_⟩
        refine r_astoreT dL_leaps_19 (by decide) rfl ?_
        refine r_iconst dL_leaps_21 ?_
        refine e_ireturn dL_leaps_22 rfl (Nat.le_of_ble_eq_true rfl) (Nat.le_of_ble_eq_true rfl) ?_
        exact UL.no hne (by rw [hin]; decide +kernel) hq
  obtain ⟨rfl, hE, hq⟩ := UY.ret (UX.y (P0 := fun M2 => XSt M2 ad (n, F, g) m S len c ∧ FrI ad 0 112 M M2) ⟨hx, FrI.rf⟩ hq)
  have hou := (hq.2.at hi ⟨by omega, by omega⟩ ⟨by omega, by omega⟩ (j := 121) (by omega)).trans ho
  refine r_i2l dL_leaps_10 ?_
  refine r_lastore hou (by omega) (by omega) (by omega) dL_leaps_11 ?_
  refine r_goto (tgt := 23) dL_leaps_12 (by decide) ?_
  refine r_iconst dL_leaps_23 ?_
  refine e_ireturn dL_leaps_24 rfl (Nat.le_of_ble_eq_true rfl) (Nat.le_of_ble_eq_true rfl) ?_
  exact UL.ok hE hq rfl (uI_s _ _ _)

set_option maxHeartbeats 4000000 in
theorem mL_count {M : Mem} {ad : Int → Nat} {n : Int → Int} {F : Int → Int → Int} {g : Int → Int} {m : Int} {S : Int → Sg3} {len : Int} {c : Int → Int} {w : Int} (hx : XSt M ad (n, F, g) m S len c) (hv : Vld (n, F, g)) (hi : Inj ad) (q0 : R32 w) {f9 : Int → Int64} (ho : M (ad 121) = some (aL 1 f9)) : Ct KL_count [.ref (ad 0), vI w, .ref (ad 121)] M 6 36 (UL ad (eB (0 ≤ w ∧ w ≤ 6) xA) (cntV n F g m w) tc1 (fun M2 => XSt M2 ad (n, F, g) m S len c ∧ FrI ad 0 112 M M2) (fun M2 => XSt M2 ad (n, F, g) m S len c ∧ FrI ad 0 112 M M2)) := by
  refine Ct.ofH _ (by decide) rfl (Nat.le_of_ble_eq_true rfl) ?_
  refine r_aload_n dL_count_0 rfl ?_
  refine r_iconst dL_count_1 ?_
  refine r_aload_n dL_count_2 rfl ?_
  refine r_iload_n dL_count_3 rfl ?_
  refine r_catchV1 okX8_count ⟨by decide, by decide⟩ ml_L_68 (mX8_count hx hv hi q0) hx.1 rfl rfl (Nat.le_of_ble_eq_true rfl) (Nat.le_of_ble_eq_true rfl) (Nat.le_of_ble_eq_true rfl) dL_count_4 (fun E2 M2 hq => ?_) (fun v M2 hq => ?_)
  · obtain ⟨rfl, hne, hq⟩ := UY.thr (UX.y (P0 := fun M2 => XSt M2 ad (n, F, g) m S len c ∧ FrI ad 0 112 M M2) ⟨hx, FrI.rf⟩ hq)
    have hin : inL [xA] (eB (0 ≤ w ∧ w ≤ 6) xA) := by repeat' (first | exact in_eSet (by simp) | exact in_eStg (by simp) | exact in_eB (by simp) | refine in_e2 ?_ ?_)
    rcases hin with hin | hin
    · exact absurd hin hne
    · simp only [List.mem_cons, List.not_mem_nil, or_false] at hin
      refine ⟨12, by rw [hin]; exact ⟨[], [], 0, 9, 15, _, rfl, (fun _ h => nomatch h), rfl, by decide, cn_L_15, zc_xA⟩, fun q => ?_⟩
      refine r_astore_nT dL_count_12 (by decide) rfl ?_
      refine r_iconst dL_count_13 ?_
      refine e_ireturn dL_count_14 rfl (Nat.le_of_ble_eq_true rfl) (Nat.le_of_ble_eq_true rfl) ?_
      exact UL.no hne (by rw [hin]; decide +kernel) hq
  obtain ⟨rfl, hE, hq⟩ := UY.ret (UX.y (P0 := fun M2 => XSt M2 ad (n, F, g) m S len c ∧ FrI ad 0 112 M M2) ⟨hx, FrI.rf⟩ hq)
  have hou := (hq.2.at hi ⟨by omega, by omega⟩ ⟨by omega, by omega⟩ (j := 121) (by omega)).trans ho
  refine r_i2l dL_count_7 ?_
  refine r_lastore hou (by omega) (by omega) (by omega) dL_count_8 ?_
  refine r_goto (tgt := 15) dL_count_9 (by decide) ?_
  refine r_iconst dL_count_15 ?_
  refine e_ireturn dL_count_16 rfl (Nat.le_of_ble_eq_true rfl) (Nat.le_of_ble_eq_true rfl) ?_
  exact UL.ok hE hq rfl (uI_s _ _ _)

set_option maxHeartbeats 4000000 in
theorem mL_setting {M : Mem} {ad : Int → Nat} {n : Int → Int} {F : Int → Int → Int} {g : Int → Int} {m : Int} {S : Int → Sg3} {len : Int} {c : Int → Int} {k : Int} (hx : XSt M ad (n, F, g) m S len c) (hv : Vld (n, F, g)) (hi : Inj ad) (q0 : R32 k) {f9 : Int → Int64} (ho : M (ad 121) = some (aL 1 f9)) : Ct KL_setting [.ref (ad 0), vI k, .ref (ad 121)] M 6 36 (UL ad (eStg k) (g k) tc1 (fun M2 => XSt M2 ad (n, F, g) m S len c ∧ FrI ad 0 112 M M2) (fun M2 => XSt M2 ad (n, F, g) m S len c ∧ FrI ad 0 112 M M2)) := by
  refine Ct.ofH _ (by decide) rfl (Nat.le_of_ble_eq_true rfl) ?_
  refine r_aload_n dL_setting_0 rfl ?_
  refine r_iconst dL_setting_1 ?_
  refine r_aload_n dL_setting_2 rfl ?_
  refine r_iload_n dL_setting_3 rfl ?_
  refine r_catchV1 okX8_setting ⟨by decide, by decide⟩ ml_L_71 (mX8_setting hx hv hi q0) hx.1 rfl rfl (Nat.le_of_ble_eq_true rfl) (Nat.le_of_ble_eq_true rfl) (Nat.le_of_ble_eq_true rfl) dL_setting_4 (fun E2 M2 hq => ?_) (fun v M2 hq => ?_)
  · obtain ⟨rfl, hne, hq⟩ := UY.thr (UX.y (P0 := fun M2 => XSt M2 ad (n, F, g) m S len c ∧ FrI ad 0 112 M M2) ⟨hx, FrI.rf⟩ hq)
    have hin : inL [xI] (eStg k) := by repeat' (first | exact in_eSet (by simp) | exact in_eStg (by simp) | exact in_eB (by simp) | refine in_e2 ?_ ?_)
    rcases hin with hin | hin
    · exact absurd hin hne
    · simp only [List.mem_cons, List.not_mem_nil, or_false] at hin
      refine ⟨12, by rw [hin]; exact ⟨[], [], 0, 9, 13, _, rfl, (fun _ h => nomatch h), rfl, by decide, cn_L_13, zc_xI⟩, fun q => ?_⟩
      refine r_astore_nT dL_setting_12 (by decide) rfl ?_
      refine r_iconst dL_setting_13 ?_
      refine e_ireturn dL_setting_14 rfl (Nat.le_of_ble_eq_true rfl) (Nat.le_of_ble_eq_true rfl) ?_
      exact UL.no hne (by rw [hin]; decide +kernel) hq
  obtain ⟨rfl, hE, hq⟩ := UY.ret (UX.y (P0 := fun M2 => XSt M2 ad (n, F, g) m S len c ∧ FrI ad 0 112 M M2) ⟨hx, FrI.rf⟩ hq)
  have hou := (hq.2.at hi ⟨by omega, by omega⟩ ⟨by omega, by omega⟩ (j := 121) (by omega)).trans ho
  refine r_i2l dL_setting_7 ?_
  refine r_lastore hou (by omega) (by omega) (by omega) dL_setting_8 ?_
  refine r_goto (tgt := 15) dL_setting_9 (by decide) ?_
  refine r_iconst dL_setting_15 ?_
  refine e_ireturn dL_setting_16 rfl (Nat.le_of_ble_eq_true rfl) (Nat.le_of_ble_eq_true rfl) ?_
  exact UL.ok hE hq rfl (uI_s _ _ _)

set_option maxHeartbeats 4000000 in
theorem mL_ifSet {M : Mem} {ad : Int → Nat} {n : Int → Int} {F : Int → Int → Int} {g : Int → Int} {m : Int} {S : Int → Sg3} {len : Int} {c : Int → Int} {k a b : Int} (hx : XSt M ad (n, F, g) m S len c) (hv : Vld (n, F, g)) (hi : Inj ad) (q0 : R32 k) (q1 : R32 a) (q2 : R32 b) {f9 : Int → Int64} (ho : M (ad 121) = some (aL 1 f9)) : Ct KL_ifSet [.ref (ad 0), vI k, vI a, vI b, .ref (ad 121)] M 6 36 (UL ad (e2 (eSet k) (eB ((2 ≤ a ∧ a ≤ 16) ∧ (1 ≤ b ∧ b ≤ 9999)) xA)) (byF (n k) (F k) a b (n k).toNat 0 0) tc3 (fun M2 => XSt M2 ad (n, F, g) m S len c ∧ FrI ad 0 112 M M2) (fun M2 => XSt M2 ad (n, F, g) m S len c ∧ FrI ad 0 112 M M2)) := by
  refine Ct.ofH _ (by decide) rfl (Nat.le_of_ble_eq_true rfl) ?_
  refine r_aload dL_ifSet_0 rfl ?_
  refine r_iconst dL_ifSet_2 ?_
  refine r_aload_n dL_ifSet_3 rfl ?_
  refine r_iload_n dL_ifSet_4 rfl ?_
  refine r_iload_n dL_ifSet_5 rfl ?_
  refine r_iload_n dL_ifSet_6 rfl ?_
  refine r_catchV3 okX8_ifSet ⟨by decide, by decide⟩ ml_L_74 (mX8_ifSet hx hv hi q0 q1 q2) hx.1 rfl rfl (Nat.le_of_ble_eq_true rfl) (Nat.le_of_ble_eq_true rfl) (Nat.le_of_ble_eq_true rfl) dL_ifSet_7 (fun E2 M2 hq => ?_) (fun v M2 hq => ?_)
  · obtain ⟨rfl, hne, hq⟩ := UY.thr (UX.y (P0 := fun M2 => XSt M2 ad (n, F, g) m S len c ∧ FrI ad 0 112 M M2) ⟨hx, FrI.rf⟩ hq)
    have hin : inL [xI, xA] (e2 (eSet k) (eB ((2 ≤ a ∧ a ≤ 16) ∧ (1 ≤ b ∧ b ≤ 9999)) xA)) := by repeat' (first | exact in_eSet (by simp) | exact in_eStg (by simp) | exact in_eB (by simp) | refine in_e2 ?_ ?_)
    rcases hin with hin | hin
    · exact absurd hin hne
    · simp only [List.mem_cons, List.not_mem_nil, or_false] at hin
      rcases hin with hin | hin
      · refine ⟨15, by rw [hin]; exact ⟨[], [(0, 12, 19, 15)], 0, 12, 13, _, rfl, (fun _ h => nomatch h), rfl, by decide, cn_L_13, zc_xI⟩, fun q => ?_⟩
        refine r_astoreT dL_ifSet_15 (by decide) rfl ?_
        refine r_iconst dL_ifSet_17 ?_
        refine e_ireturn dL_ifSet_18 rfl (Nat.le_of_ble_eq_true rfl) (Nat.le_of_ble_eq_true rfl) ?_
        exact UL.no hne (by rw [hin]; decide +kernel) hq
      · refine ⟨19, by rw [hin]; exact ⟨[(0, 12, 15, 13)], [], 0, 12, 15, _, rfl, List.forall_mem_cons.mpr ⟨⟨by decide, _, cn_L_13, zn_xAxI⟩, fun _ h => nomatch h⟩, rfl, by decide, cn_L_15, zc_xA⟩, fun q => ?_⟩
        refine r_astoreT dL_ifSet_19 (by decide) rfl ?_
        refine r_iconst dL_ifSet_21 ?_
        refine e_ireturn dL_ifSet_22 rfl (Nat.le_of_ble_eq_true rfl) (Nat.le_of_ble_eq_true rfl) ?_
        exact UL.no hne (by rw [hin]; decide +kernel) hq
  obtain ⟨rfl, hE, hq⟩ := UY.ret (UX.y (P0 := fun M2 => XSt M2 ad (n, F, g) m S len c ∧ FrI ad 0 112 M M2) ⟨hx, FrI.rf⟩ hq)
  have hou := (hq.2.at hi ⟨by omega, by omega⟩ ⟨by omega, by omega⟩ (j := 121) (by omega)).trans ho
  refine r_i2l dL_ifSet_10 ?_
  refine r_lastore hou (by omega) (by omega) (by omega) dL_ifSet_11 ?_
  refine r_goto (tgt := 23) dL_ifSet_12 (by decide) ?_
  refine r_iconst dL_ifSet_23 ?_
  refine e_ireturn dL_ifSet_24 rfl (Nat.le_of_ble_eq_true rfl) (Nat.le_of_ble_eq_true rfl) ?_
  exact UL.ok hE hq rfl (uI_s _ _ _)

set_option maxHeartbeats 4000000 in
theorem mL_ifAdded {M : Mem} {ad : Int → Nat} {n : Int → Int} {F : Int → Int → Int} {g : Int → Int} {m : Int} {S : Int → Sg3} {len : Int} {c : Int → Int} {k x : Int} (hx : XSt M ad (n, F, g) m S len c) (hv : Vld (n, F, g)) (hi : Inj ad) (q0 : R32 k) (q1 : R32 x) {f9 : Int → Int64} (ho : M (ad 121) = some (aL 1 f9)) : Ct KL_ifAdded [.ref (ad 0), vI k, vI x, .ref (ad 121)] M 6 36 (UL ad (e2 (eSet k) (eB (0 ≤ x ∧ x ≤ 9999) xA)) (iaV (n k) (F k) g x) tc3 (fun M2 => XSt M2 ad (n, F, g) m S len c ∧ FrI ad 0 112 M M2) (fun M2 => XSt M2 ad (n, F, g) m S len c ∧ FrI ad 0 112 M M2)) := by
  refine Ct.ofH _ (by decide) rfl (Nat.le_of_ble_eq_true rfl) ?_
  refine r_aload_n dL_ifAdded_0 rfl ?_
  refine r_iconst dL_ifAdded_1 ?_
  refine r_aload_n dL_ifAdded_2 rfl ?_
  refine r_iload_n dL_ifAdded_3 rfl ?_
  refine r_iload_n dL_ifAdded_4 rfl ?_
  refine r_catchV2 okX8_ifAdded ⟨by decide, by decide⟩ ml_L_77 (mX8_ifAdded hx hv hi q0 q1) hx.1 rfl rfl (Nat.le_of_ble_eq_true rfl) (Nat.le_of_ble_eq_true rfl) (Nat.le_of_ble_eq_true rfl) dL_ifAdded_5 (fun E2 M2 hq => ?_) (fun v M2 hq => ?_)
  · obtain ⟨rfl, hne, hq⟩ := UY.thr (UX.y (P0 := fun M2 => XSt M2 ad (n, F, g) m S len c ∧ FrI ad 0 112 M M2) ⟨hx, FrI.rf⟩ hq)
    have hin : inL [xI, xA] (e2 (eSet k) (eB (0 ≤ x ∧ x ≤ 9999) xA)) := by repeat' (first | exact in_eSet (by simp) | exact in_eStg (by simp) | exact in_eB (by simp) | refine in_e2 ?_ ?_)
    rcases hin with hin | hin
    · exact absurd hin hne
    · simp only [List.mem_cons, List.not_mem_nil, or_false] at hin
      rcases hin with hin | hin
      · refine ⟨13, by rw [hin]; exact ⟨[], [(0, 10, 17, 15)], 0, 10, 13, _, rfl, (fun _ h => nomatch h), rfl, by decide, cn_L_13, zc_xI⟩, fun q => ?_⟩
        refine r_astoreT dL_ifAdded_13 (by decide) rfl ?_
        refine r_iconst dL_ifAdded_15 ?_
        refine e_ireturn dL_ifAdded_16 rfl (Nat.le_of_ble_eq_true rfl) (Nat.le_of_ble_eq_true rfl) ?_
        exact UL.no hne (by rw [hin]; decide +kernel) hq
      · refine ⟨17, by rw [hin]; exact ⟨[(0, 10, 13, 13)], [], 0, 10, 15, _, rfl, List.forall_mem_cons.mpr ⟨⟨by decide, _, cn_L_13, zn_xAxI⟩, fun _ h => nomatch h⟩, rfl, by decide, cn_L_15, zc_xA⟩, fun q => ?_⟩
        refine r_astoreT dL_ifAdded_17 (by decide) rfl ?_
        refine r_iconst dL_ifAdded_19 ?_
        refine e_ireturn dL_ifAdded_20 rfl (Nat.le_of_ble_eq_true rfl) (Nat.le_of_ble_eq_true rfl) ?_
        exact UL.no hne (by rw [hin]; decide +kernel) hq
  obtain ⟨rfl, hE, hq⟩ := UY.ret (UX.y (P0 := fun M2 => XSt M2 ad (n, F, g) m S len c ∧ FrI ad 0 112 M M2) ⟨hx, FrI.rf⟩ hq)
  have hou := (hq.2.at hi ⟨by omega, by omega⟩ ⟨by omega, by omega⟩ (j := 121) (by omega)).trans ho
  refine r_i2l dL_ifAdded_8 ?_
  refine r_lastore hou (by omega) (by omega) (by omega) dL_ifAdded_9 ?_
  refine r_goto (tgt := 21) dL_ifAdded_10 (by decide) ?_
  refine r_iconst dL_ifAdded_21 ?_
  refine e_ireturn dL_ifAdded_22 rfl (Nat.le_of_ble_eq_true rfl) (Nat.le_of_ble_eq_true rfl) ?_
  exact UL.ok hE hq rfl (uI_s _ _ _)

set_option maxHeartbeats 4000000 in
theorem mL_dearest {M : Mem} {ad : Int → Nat} {n : Int → Int} {F : Int → Int → Int} {g : Int → Int} {m : Int} {S : Int → Sg3} {len : Int} {c : Int → Int} {k w : Int} (hx : XSt M ad (n, F, g) m S len c) (hv : Vld (n, F, g)) (hi : Inj ad) (q0 : R32 k) (q1 : R32 w) {f9 : Int → Int64} (ho : M (ad 121) = some (aL 1 f9)) : Ct KL_dearest [.ref (ad 0), vI k, vI w, .ref (ad 121)] M 6 36 (UL ad (e2 (eSet k) (eB (w = 0 ∨ w = 1) xA)) (drV (n k) (F k) g w) tc3 (fun M2 => XSt M2 ad (n, F, g) m S len c ∧ FrI ad 0 112 M M2) (fun M2 => XSt M2 ad (n, F, g) m S len c ∧ FrI ad 0 112 M M2)) := by
  refine Ct.ofH _ (by decide) rfl (Nat.le_of_ble_eq_true rfl) ?_
  refine r_aload_n dL_dearest_0 rfl ?_
  refine r_iconst dL_dearest_1 ?_
  refine r_aload_n dL_dearest_2 rfl ?_
  refine r_iload_n dL_dearest_3 rfl ?_
  refine r_iload_n dL_dearest_4 rfl ?_
  refine r_catchV2 okX8_dearest ⟨by decide, by decide⟩ ml_L_80 (mX8_dearest hx hv hi q0 q1) hx.1 rfl rfl (Nat.le_of_ble_eq_true rfl) (Nat.le_of_ble_eq_true rfl) (Nat.le_of_ble_eq_true rfl) dL_dearest_5 (fun E2 M2 hq => ?_) (fun v M2 hq => ?_)
  · obtain ⟨rfl, hne, hq⟩ := UY.thr (UX.y (P0 := fun M2 => XSt M2 ad (n, F, g) m S len c ∧ FrI ad 0 112 M M2) ⟨hx, FrI.rf⟩ hq)
    have hin : inL [xI, xA] (e2 (eSet k) (eB (w = 0 ∨ w = 1) xA)) := by repeat' (first | exact in_eSet (by simp) | exact in_eStg (by simp) | exact in_eB (by simp) | refine in_e2 ?_ ?_)
    rcases hin with hin | hin
    · exact absurd hin hne
    · simp only [List.mem_cons, List.not_mem_nil, or_false] at hin
      rcases hin with hin | hin
      · refine ⟨13, by rw [hin]; exact ⟨[], [(0, 10, 17, 15)], 0, 10, 13, _, rfl, (fun _ h => nomatch h), rfl, by decide, cn_L_13, zc_xI⟩, fun q => ?_⟩
        refine r_astoreT dL_dearest_13 (by decide) rfl ?_
        refine r_iconst dL_dearest_15 ?_
        refine e_ireturn dL_dearest_16 rfl (Nat.le_of_ble_eq_true rfl) (Nat.le_of_ble_eq_true rfl) ?_
        exact UL.no hne (by rw [hin]; decide +kernel) hq
      · refine ⟨17, by rw [hin]; exact ⟨[(0, 10, 13, 13)], [], 0, 10, 15, _, rfl, List.forall_mem_cons.mpr ⟨⟨by decide, _, cn_L_13, zn_xAxI⟩, fun _ h => nomatch h⟩, rfl, by decide, cn_L_15, zc_xA⟩, fun q => ?_⟩
        refine r_astoreT dL_dearest_17 (by decide) rfl ?_
        refine r_iconst dL_dearest_19 ?_
        refine e_ireturn dL_dearest_20 rfl (Nat.le_of_ble_eq_true rfl) (Nat.le_of_ble_eq_true rfl) ?_
        exact UL.no hne (by rw [hin]; decide +kernel) hq
  obtain ⟨rfl, hE, hq⟩ := UY.ret (UX.y (P0 := fun M2 => XSt M2 ad (n, F, g) m S len c ∧ FrI ad 0 112 M M2) ⟨hx, FrI.rf⟩ hq)
  have hou := (hq.2.at hi ⟨by omega, by omega⟩ ⟨by omega, by omega⟩ (j := 121) (by omega)).trans ho
  refine r_i2l dL_dearest_8 ?_
  refine r_lastore hou (by omega) (by omega) (by omega) dL_dearest_9 ?_
  refine r_goto (tgt := 21) dL_dearest_10 (by decide) ?_
  refine r_iconst dL_dearest_21 ?_
  refine e_ireturn dL_dearest_22 rfl (Nat.le_of_ble_eq_true rfl) (Nat.le_of_ble_eq_true rfl) ?_
  exact UL.ok hE hq rfl (uI_s _ _ _)
