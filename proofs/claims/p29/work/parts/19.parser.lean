/-! Parser -/
abbrev Ps : Type := Int × (Int × (Int × (Int × (Int × (Int × ((Int → Int) × (Int → Int)))))))
def PrP (M : Mem) (ad : Int → Nat) (s : Ps) : Prop :=
  M (ad 96) = some (oC 6 [.ref (ad 97), .ref (ad 98), vI s.1, vI s.2.1, vI s.2.2.1, vI s.2.2.2.1, vI s.2.2.2.2.1, vI s.2.2.2.2.2.1]) ∧
  (∃ f : Int → Int, M (ad 97) = some (aI 60 f) ∧ ∀ j, 0 ≤ j → j < s.1 → f j = s.2.2.2.2.2.2.1 j) ∧ ∃ f : Int → Int, M (ad 98) = some (aI 60 f) ∧ ∀ j, 0 ≤ j → j < s.1 → f j = s.2.2.2.2.2.2.2 j
/-- a Parser that stands for nothing yet -/
def PrW (M : Mem) (ad : Int → Nat) : Prop := (∃ a b c d e f : Int, M (ad 96) = some (oC 6 [.ref (ad 97), .ref (ad 98), vI a, vI b, vI c, vI d, vI e, vI f])) ∧ (∃ f : Int → Int, M (ad 97) = some (aI 60 f)) ∧ ∃ f : Int → Int, M (ad 98) = some (aI 60 f)
theorem PrP.w {M : Mem} {ad : Int → Nat} {s : Ps} (h : PrP M ad s) : PrW M ad := by
  obtain ⟨h1, ⟨f, h2, -⟩, ⟨g, h3, -⟩⟩ := h
  exact ⟨⟨_, _, _, _, _, _, h1⟩, ⟨f, h2⟩, ⟨g, h3⟩⟩
theorem PrW.frame {M M1 : Mem} {ad : Int → Nat} (h : PrW M ad) (hq : ∀ i, 96 ≤ i → i < 99 → M1 (ad i) = M (ad i)) : PrW M1 ad := by
  obtain ⟨⟨a, b, c, d, e, f, h1⟩, ⟨f1, h2⟩, ⟨f2, h3⟩⟩ := h
  exact ⟨⟨a, b, c, d, e, f, (hq _ (by omega) (by omega)).trans h1⟩, ⟨f1, (hq _ (by omega) (by omega)).trans h2⟩, ⟨f2, (hq _ (by omega) (by omega)).trans h3⟩⟩
theorem PrP.frame {M M1 : Mem} {ad : Int → Nat} {s : Ps} (h : PrP M ad s) (hq : ∀ i, 96 ≤ i → i < 99 → M1 (ad i) = M (ad i)) : PrP M1 ad s := by
  obtain ⟨h1, ⟨f1, h2, h2'⟩, ⟨f2, h3, h3'⟩⟩ := h
  exact ⟨(hq _ (by omega) (by omega)).trans h1, ⟨f1, (hq _ (by omega) (by omega)).trans h2, h2'⟩, ⟨f2, (hq _ (by omega) (by omega)).trans h3, h3'⟩⟩
/-- the numbers of the object anew -/
theorem PrP.up {M : Mem} {ad : Int → Nat} {pa ir fi le va di : Int} {A B : Int → Int} (h : PrP M ad (pa, ir, fi, le, va, di, A, B)) (hi : Inj ad) (ir' fi' le' va' di' : Int) : PrP (up M (ad 96) (oC 6 [.ref (ad 97), .ref (ad 98), vI pa, vI ir', vI fi', vI le', vI va', vI di'])) ad (pa, ir', fi', le', va', di', A, B) := by
  obtain ⟨h1, ⟨f1, h2, h2'⟩, ⟨f2, h3, h3'⟩⟩ := h
  exact ⟨up_s _ _ _, ⟨f1, (up_n _ (hi.ne ⟨by omega, by omega⟩ ⟨by omega, by omega⟩ (by omega))).trans h2, h2'⟩, ⟨f2, (up_n _ (hi.ne ⟨by omega, by omega⟩ ⟨by omega, by omega⟩ (by omega))).trans h3, h3'⟩⟩
/-- what the numbers keep to, with i characters read -/
def PsOk (s : Ps) (i : Int) : Prop := 0 ≤ s.1 ∧ 2 * s.1 + (if 0 < s.2.2.2.2.2.1 then 1 else 0) ≤ i ∧ (s.2.1 = 0 ∨ s.2.1 = 1) ∧ 0 ≤ s.2.2.1 ∧ s.2.2.1 ≤ 9999 ∧ 0 ≤ s.2.2.2.1 ∧ s.2.2.2.1 ≤ 9999 ∧ 0 ≤ s.2.2.2.2.1 ∧ s.2.2.2.2.1 ≤ 9999 ∧ 0 ≤ s.2.2.2.2.2.1 ∧ s.2.2.2.2.2.1 ≤ 4 ∧
  (s.2.2.2.2.2.1 = 0 → s.2.2.2.2.1 = 0) ∧ (s.2.2.2.2.2.1 = 1 → s.2.2.2.2.1 ≤ 9) ∧ (s.2.2.2.2.2.1 = 2 → 10 ≤ s.2.2.2.2.1 ∧ s.2.2.2.2.1 ≤ 99) ∧ (s.2.2.2.2.2.1 = 3 → 100 ≤ s.2.2.2.2.1 ∧ s.2.2.2.2.1 ≤ 999) ∧ (s.2.2.2.2.2.1 = 4 → 1000 ≤ s.2.2.2.2.1)
def padF : Nat → Int → Int
  | 0, g => g
  | k + 1, g => padF k (10 * g + 9)
def gfF (v d : Int) : Int := if v = 0 then 0 else padF (4 - d).toNat v
def whF (le va di : Int) : Bool := decide (0 < di) && decide (le ≤ va)
def psC (s : Ps) : Option Ps := match s with
  | (pa, ir, fi, le, va, di, A, B) => if whF le va di = true ∧ va < 9999 then some (pa + 1, 0, fi, va + 1, 0, 0, uI A pa (if ir = 0 then va else fi), uI B pa va) else none
def psD (s : Ps) : Option Ps := match s with
  | (pa, ir, _, le, va, di, A, B) => if whF le va di = true ∧ ir = 0 then some (pa, 1, va, va, 0, 0, A, B) else none
def psG (d : Int) (s : Ps) : Option Ps := match s with
  | (pa, ir, fi, le, va, di, A, B) => if (0 < di ∧ va = 0) ∨ 4 ≤ di then none else if gfF (10 * va + d) (di + 1) < le then none else some (pa, ir, fi, le, 10 * va + d, di + 1, A, B)
def psT (c : Int) (s : Ps) : Option Ps := if c = 44 then psC s else if c = 45 then psD s else if 48 ≤ c ∧ c ≤ 57 then psG (c - 48) s else none
def psR (c : Int → Int) : Nat → Int → Ps → Int × Ps
  | 0, i, s => (i, s)
  | k + 1, i, s => match psT (c i) s with
    | none => (i, s)
    | some s' => psR c k (i + 1) s'
def ps0 : Ps := (0, 0, 0, 0, 0, 0, fun _ => 0, fun _ => 0)
def tn (m : Int) : Int := if m ≤ 0 then 1 else if m = 1 then 10 else if m = 2 then 100 else if m = 3 then 1000 else 10000
theorem PsOk.comma {pa ir fi le va di i : Int} {A B : Int → Int} (h : PsOk (pa, ir, fi, le, va, di, A, B) i) (hw : whF le va di = true) (hv : va < 9999) (A' B' : Int → Int) : PsOk (pa + 1, 0, fi, va + 1, 0, 0, A', B') (i + 1) := by
  unfold PsOk at h ⊢
  unfold whF at hw
  simp at hw
  dsimp only at h ⊢
  rw [if_pos hw.1] at h
  rw [if_neg (by omega)]
  omega
theorem PsOk.dash {pa ir fi le va di i : Int} {A B : Int → Int} (h : PsOk (pa, ir, fi, le, va, di, A, B) i) : PsOk (pa, 1, va, va, 0, 0, A, B) (i + 1) := by
  unfold PsOk at h ⊢
  dsimp only at h ⊢
  rw [if_neg (by omega)]
  split at h <;> omega
theorem PsOk.digit {pa ir fi le va di i d : Int} {A B : Int → Int} (h : PsOk (pa, ir, fi, le, va, di, A, B) i) (hd : 0 ≤ d ∧ d ≤ 9) (h1 : ¬ ((0 < di ∧ va = 0) ∨ 4 ≤ di)) : PsOk (pa, ir, fi, le, 10 * va + d, di + 1, A, B) (i + 1) := by
  unfold PsOk at h ⊢
  dsimp only at h ⊢
  rw [if_pos (by omega)]
  split at h <;> omega
theorem psT_ok {c i : Int} {s s' : Ps} (h : PsOk s i) (ht : psT c s = some s') : PsOk s' (i + 1) := by
  obtain ⟨pa, ir, fi, le, va, di, A, B⟩ := s
  unfold psT at ht
  split at ht
  · unfold psC at ht
    dsimp only at ht
    split at ht
    · next q => cases ht; exact h.comma q.1 q.2 _ _
    · cases ht
  · split at ht
    · unfold psD at ht
      dsimp only at ht
      split at ht
      · next q => cases ht; exact h.dash
      · cases ht
    · split at ht
      · next q =>
        unfold psG at ht
        dsimp only at ht
        split at ht
        · cases ht
        · next q2 =>
          split at ht
          · cases ht
          · cases ht; exact h.digit ⟨by omega, by omega⟩ q2
      · cases ht
set_option maxHeartbeats 4000000 in
theorem mX6_beginNumber {M : Mem} {ad : Int → Nat} {pa ir fi le va di : Int} {A B : Int → Int} {x : Int} (hp : PrP M ad (pa, ir, fi, le, va, di, A, B)) (hi : Inj ad) : Ct KX6_beginNumber [.ref (ad 96), vI x] M 0 0 (atV (fun M2 => PrP M2 ad (pa, ir, fi, x, 0, 0, A, B) ∧ FrI ad 96 99 M M2)) := by
  refine Ct.of _ (by decide) rfl (Nat.le_of_ble_eq_true rfl) ?_
  obtain ⟨hpo, ⟨fa, hfa, hfa2⟩, ⟨fb, hfb, hfb2⟩⟩ := id hp
  dsimp only at hpo hfa2 hfb2
  refine r_aload_n dX6_beginNumber_0 rfl ?_
  refine r_iload_n dX6_beginNumber_1 rfl ?_
  refine r_putfield clX6 5 (by decide) fl_X6_69 rfl (by first | assumption | exact up_s _ _ _ | exact (up_n _ (by assumption)).trans (by assumption) | exact (up_n _ (by assumption)).trans (up_s _ _ _) | exact (up_n _ (by assumption)).trans ((up_n _ (by assumption)).trans (by assumption))) rfl rfl (Nat.le_of_ble_eq_true rfl) dX6_beginNumber_2 ?_
  refine r_aload_n dX6_beginNumber_5 rfl ?_
  refine r_iconst dX6_beginNumber_6 ?_
  refine r_putfield clX6 6 (by decide) fl_X6_72 rfl (by first | assumption | exact up_s _ _ _ | exact (up_n _ (by assumption)).trans (by assumption) | exact (up_n _ (by assumption)).trans (up_s _ _ _) | exact (up_n _ (by assumption)).trans ((up_n _ (by assumption)).trans (by assumption))) rfl rfl (Nat.le_of_ble_eq_true rfl) dX6_beginNumber_7 ?_
  refine r_aload_n dX6_beginNumber_10 rfl ?_
  refine r_iconst dX6_beginNumber_11 ?_
  refine r_putfield clX6 7 (by decide) fl_X6_75 rfl (by first | assumption | exact up_s _ _ _ | exact (up_n _ (by assumption)).trans (by assumption) | exact (up_n _ (by assumption)).trans (up_s _ _ _) | exact (up_n _ (by assumption)).trans ((up_n _ (by assumption)).trans (by assumption))) rfl rfl (Nat.le_of_ble_eq_true rfl) dX6_beginNumber_12 ?_
  refine e_return dX6_beginNumber_15 rfl (Nat.le_of_ble_eq_true rfl) (Nat.le_of_ble_eq_true rfl) ?_
  exact oktV ⟨((hp.up hi ir fi x va di).up hi ir fi x 0 di).up hi ir fi x 0 0, ((FrI.rf.up ⟨by omega, by omega⟩).up ⟨by omega, by omega⟩).up ⟨by omega, by omega⟩⟩

set_option maxHeartbeats 4000000 in
theorem mX6_restart {M : Mem} {ad : Int → Nat} (hw : PrW M ad) (hi : Inj ad) : Ct KX6_restart [.ref (ad 96)] M 0 0 (atV (fun M2 => PrP M2 ad ps0 ∧ FrI ad 96 99 M M2)) := by
  refine Ct.of _ (by decide) rfl (Nat.le_of_ble_eq_true rfl) ?_
  obtain ⟨⟨a, b, c, d, e, f, hpo⟩, ⟨fa, hfa⟩, ⟨fb, hfb⟩⟩ := id hw
  have h76 := hi.ne (i := 97) (j := 96) ⟨by omega, by omega⟩ ⟨by omega, by omega⟩ (by omega)
  have h86 := hi.ne (i := 98) (j := 96) ⟨by omega, by omega⟩ ⟨by omega, by omega⟩ (by omega)
  have hp1 : PrP (up M (ad 96) (oC 6 [.ref (ad 97), .ref (ad 98), vI 0, vI b, vI c, vI d, vI e, vI f])) ad (0, b, c, d, e, f, fun _ => 0, fun _ => 0) := ⟨up_s _ _ _, ⟨fa, (up_n _ h76).trans hfa, fun j x y => by dsimp only at y; omega⟩, ⟨fb, (up_n _ h86).trans hfb, fun j x y => by dsimp only at y; omega⟩⟩
  have hp2 := (hp1.up hi 0 c d e f).up hi 0 0 d e f
  refine r_aload_n dX6_restart_0 rfl ?_
  refine r_iconst dX6_restart_1 ?_
  refine r_putfield clX6 2 (by decide) fl_X6_46 rfl (by first | assumption | exact up_s _ _ _ | exact (up_n _ (by assumption)).trans (by assumption) | exact (up_n _ (by assumption)).trans (up_s _ _ _) | exact (up_n _ (by assumption)).trans ((up_n _ (by assumption)).trans (by assumption))) rfl rfl (Nat.le_of_ble_eq_true rfl) dX6_restart_2 ?_
  refine r_aload_n dX6_restart_5 rfl ?_
  refine r_iconst dX6_restart_6 ?_
  refine r_putfield clX6 3 (by decide) fl_X6_59 rfl (by first | assumption | exact up_s _ _ _ | exact (up_n _ (by assumption)).trans (by assumption) | exact (up_n _ (by assumption)).trans (up_s _ _ _) | exact (up_n _ (by assumption)).trans ((up_n _ (by assumption)).trans (by assumption))) rfl rfl (Nat.le_of_ble_eq_true rfl) dX6_restart_7 ?_
  refine r_aload_n dX6_restart_10 rfl ?_
  refine r_iconst dX6_restart_11 ?_
  refine r_putfield clX6 4 (by decide) fl_X6_63 rfl (by first | assumption | exact up_s _ _ _ | exact (up_n _ (by assumption)).trans (by assumption) | exact (up_n _ (by assumption)).trans (up_s _ _ _) | exact (up_n _ (by assumption)).trans ((up_n _ (by assumption)).trans (by assumption))) rfl rfl (Nat.le_of_ble_eq_true rfl) dX6_restart_12 ?_
  refine r_aload_n dX6_restart_15 rfl ?_
  refine r_iconst dX6_restart_16 ?_
  refine r_callV1 okX6_beginNumber ⟨by decide, by decide⟩ ml_X6_66 (mX6_beginNumber hp2 hi) hp2.1 rfl rfl (Nat.le_of_ble_eq_true rfl) (Nat.le_of_ble_eq_true rfl) (Nat.le_of_ble_eq_true rfl) rfl dX6_restart_17 (nx_tV) (kx_tV ?_)
  intro M2 hM2
  refine e_return dX6_restart_20 rfl (Nat.le_of_ble_eq_true rfl) (Nat.le_of_ble_eq_true rfl) ?_
  exact oktV ⟨hM2.1, (((FrI.rf.up ⟨by omega, by omega⟩).up ⟨by omega, by omega⟩).up ⟨by omega, by omega⟩).trans hM2.2⟩







