/-! Parser -/
abbrev Ps : Type := Int × (Int × (Int × (Int × (Int × (Int × ((Int → Int) × (Int → Int)))))))
def PrP (M : Mem) (ad : Int → Nat) (s : Ps) : Prop :=
  M (ad 96) = some (oC 6 [.ref (ad 97), .ref (ad 98), vI s.1, vI s.2.1, vI s.2.2.1, vI s.2.2.2.1, vI s.2.2.2.2.1, vI s.2.2.2.2.2.1]) ∧
  (∃ f : Int → Int, M (ad 97) = some (aI 60 f) ∧ ∀ j, 0 ≤ j → j < s.1 → f j = s.2.2.2.2.2.2.1 j) ∧ ∃ f : Int → Int, M (ad 98) = some (aI 60 f) ∧ ∀ j, 0 ≤ j → j < s.1 → f j = s.2.2.2.2.2.2.2 j
/-- a Parser that stands for nothing yet -/
def PrW (M : Mem) (ad : Int → Nat) : Prop := (∃ a b c d e f : Int, M (ad 96) = some (oC 6 [.ref (ad 97), .ref (ad 98), vI a, vI b, vI c, vI d, vI e, vI f])) ∧ (∃ f : Int → Int, M (ad 97) = some (aI 60 f)) ∧ ∃ f : Int → Int, M (ad 98) = some (aI 60 f)
theorem PrP.w {M : Mem} {ad : Int → Nat} {s : Ps} (h : PrP M ad s) : PrW M ad := by
  obtain ⟨h1, ⟨f, h2, -⟩, ⟨g, h3, -⟩⟩ := h
  exact ⟨⟨_, _, _, _, _, _, h1⟩, ⟨f, h2⟩, ⟨g, h3⟩⟩
theorem PrW.frame {M M1 : Mem} {ad : Int → Nat} (h : PrW M ad) (hq : ∀ i, 96 ≤ i → i < 99 → M1 (ad i) = M (ad i)) : PrW M1 ad := by
  obtain ⟨⟨a, b, c, d, e, f, h1⟩, ⟨f1, h2⟩, ⟨f2, h3⟩⟩ := h
  exact ⟨⟨a, b, c, d, e, f, (hq _ (by omega) (by omega)).trans h1⟩, ⟨f1, (hq _ (by omega) (by omega)).trans h2⟩, ⟨f2, (hq _ (by omega) (by omega)).trans h3⟩⟩
theorem PrP.frame {M M1 : Mem} {ad : Int → Nat} {s : Ps} (h : PrP M ad s) (hq : ∀ i, 96 ≤ i → i < 99 → M1 (ad i) = M (ad i)) : PrP M1 ad s := by
  obtain ⟨h1, ⟨f1, h2, h2'⟩, ⟨f2, h3, h3'⟩⟩ := h
  exact ⟨(hq _ (by omega) (by omega)).trans h1, ⟨f1, (hq _ (by omega) (by omega)).trans h2, h2'⟩, ⟨f2, (hq _ (by omega) (by omega)).trans h3, h3'⟩⟩
/-- the numbers of the object anew -/
theorem PrP.up {M : Mem} {ad : Int → Nat} {pa ir fi le va di : Int} {A B : Int → Int} (h : PrP M ad (pa, ir, fi, le, va, di, A, B)) (hi : Inj ad) (ir' fi' le' va' di' : Int) : PrP (up M (ad 96) (oC 6 [.ref (ad 97), .ref (ad 98), vI pa, vI ir', vI fi', vI le', vI va', vI di'])) ad (pa, ir', fi', le', va', di', A, B) := by
  obtain ⟨h1, ⟨f1, h2, h2'⟩, ⟨f2, h3, h3'⟩⟩ := h
  exact ⟨up_s _ _ _, ⟨f1, (up_n _ (hi.ne ⟨by omega, by omega⟩ ⟨by omega, by omega⟩ (by omega))).trans h2, h2'⟩, ⟨f2, (up_n _ (hi.ne ⟨by omega, by omega⟩ ⟨by omega, by omega⟩ (by omega))).trans h3, h3'⟩⟩
/-- what the numbers keep to, with i characters read -/
def PsOk (s : Ps) (i : Int) : Prop := 0 ≤ s.1 ∧ 2 * s.1 + (if 0 < s.2.2.2.2.2.1 then 1 else 0) ≤ i ∧ (s.2.1 = 0 ∨ s.2.1 = 1) ∧ 0 ≤ s.2.2.1 ∧ s.2.2.1 ≤ 9999 ∧ 0 ≤ s.2.2.2.1 ∧ s.2.2.2.1 ≤ 9999 ∧ 0 ≤ s.2.2.2.2.1 ∧ s.2.2.2.2.1 ≤ 9999 ∧ 0 ≤ s.2.2.2.2.2.1 ∧ s.2.2.2.2.2.1 ≤ 4 ∧
  (s.2.2.2.2.2.1 = 0 → s.2.2.2.2.1 = 0) ∧ (s.2.2.2.2.2.1 = 1 → s.2.2.2.2.1 ≤ 9) ∧ (s.2.2.2.2.2.1 = 2 → 10 ≤ s.2.2.2.2.1 ∧ s.2.2.2.2.1 ≤ 99) ∧ (s.2.2.2.2.2.1 = 3 → 100 ≤ s.2.2.2.2.1 ∧ s.2.2.2.2.1 ≤ 999) ∧ (s.2.2.2.2.2.1 = 4 → 1000 ≤ s.2.2.2.2.1)
def padF : Nat → Int → Int
  | 0, g => g
  | k + 1, g => padF k (10 * g + 9)
def gfF (v d : Int) : Int := if v = 0 then 0 else padF (4 - d).toNat v
def whF (le va di : Int) : Bool := decide (0 < di) && decide (le ≤ va)
def psC (s : Ps) : Option Ps := match s with
  | (pa, ir, fi, le, va, di, A, B) => if whF le va di = true ∧ va < 9999 then some (pa + 1, 0, fi, va + 1, 0, 0, uI A pa (if ir = 0 then va else fi), uI B pa va) else none
def psD (s : Ps) : Option Ps := match s with
  | (pa, ir, _, le, va, di, A, B) => if whF le va di = true ∧ ir = 0 then some (pa, 1, va, va, 0, 0, A, B) else none
def psG (d : Int) (s : Ps) : Option Ps := match s with
  | (pa, ir, fi, le, va, di, A, B) => if (0 < di ∧ va = 0) ∨ 4 ≤ di then none else if gfF (10 * va + d) (di + 1) < le then none else some (pa, ir, fi, le, 10 * va + d, di + 1, A, B)
def psT (c : Int) (s : Ps) : Option Ps := if c = 44 then psC s else if c = 45 then psD s else if 48 ≤ c ∧ c ≤ 57 then psG (c - 48) s else none
def psR (c : Int → Int) : Nat → Int → Ps → Int × Ps
  | 0, i, s => (i, s)
  | k + 1, i, s => match psT (c i) s with
    | none => (i, s)
    | some s' => psR c k (i + 1) s'
def ps0 : Ps := (0, 0, 0, 0, 0, 0, fun _ => 0, fun _ => 0)
def tn (m : Int) : Int := if m ≤ 0 then 1 else if m = 1 then 10 else if m = 2 then 100 else if m = 3 then 1000 else 10000
theorem PsOk.comma {pa ir fi le va di i : Int} {A B : Int → Int} (h : PsOk (pa, ir, fi, le, va, di, A, B) i) (hw : whF le va di = true) (hv : va < 9999) (A' B' : Int → Int) : PsOk (pa + 1, 0, fi, va + 1, 0, 0, A', B') (i + 1) := by
  unfold PsOk at h ⊢
  unfold whF at hw
  simp at hw
  dsimp only at h ⊢
  rw [if_pos hw.1] at h
  rw [if_neg (by omega)]
  omega
theorem PsOk.dash {pa ir fi le va di i : Int} {A B : Int → Int} (h : PsOk (pa, ir, fi, le, va, di, A, B) i) : PsOk (pa, 1, va, va, 0, 0, A, B) (i + 1) := by
  unfold PsOk at h ⊢
  dsimp only at h ⊢
  rw [if_neg (by omega)]
  split at h <;> omega
theorem PsOk.digit {pa ir fi le va di i d : Int} {A B : Int → Int} (h : PsOk (pa, ir, fi, le, va, di, A, B) i) (hd : 0 ≤ d ∧ d ≤ 9) (h1 : ¬ ((0 < di ∧ va = 0) ∨ 4 ≤ di)) : PsOk (pa, ir, fi, le, 10 * va + d, di + 1, A, B) (i + 1) := by
  unfold PsOk at h ⊢
  dsimp only at h ⊢
  rw [if_pos (by omega)]
  split at h <;> omega
theorem psT_ok {c i : Int} {s s' : Ps} (h : PsOk s i) (ht : psT c s = some s') : PsOk s' (i + 1) := by
  obtain ⟨pa, ir, fi, le, va, di, A, B⟩ := s
  unfold psT at ht
  split at ht
  · unfold psC at ht
    dsimp only at ht
    split at ht
    · next q => cases ht; exact h.comma q.1 q.2 _ _
    · cases ht
  · split at ht
    · unfold psD at ht
      dsimp only at ht
      split at ht
      · next q => cases ht; exact h.dash
      · cases ht
    · split at ht
      · next q =>
        unfold psG at ht
        dsimp only at ht
        split at ht
        · cases ht
        · next q2 =>
          split at ht
          · cases ht
          · cases ht; exact h.digit ⟨by omega, by omega⟩ q2
      · cases ht
set_option maxHeartbeats 4000000 in
theorem mX6_beginNumber {M : Mem} {ad : Int → Nat} {pa ir fi le va di : Int} {A B : Int → Int} {x : Int} (hp : PrP M ad (pa, ir, fi, le, va, di, A, B)) (hi : Inj ad) : Ct KX6_beginNumber [.ref (ad 96), vI x] M 0 0 (atV (fun M2 => PrP M2 ad (pa, ir, fi, x, 0, 0, A, B) ∧ FrI ad 96 99 M M2)) := by
  refine Ct.of _ (by decide) rfl (Nat.le_of_ble_eq_true rfl) ?_
  obtain ⟨hpo, ⟨fa, hfa, hfa2⟩, ⟨fb, hfb, hfb2⟩⟩ := id hp
  dsimp only at hpo hfa2 hfb2
  refine r_aload_n dX6_beginNumber_0 rfl ?_
  refine r_iload_n dX6_beginNumber_1 rfl ?_
  refine r_putfield clX6 5 (by decide) fl_X6_69 rfl (by first | assumption | exact up_s _ _ _ | exact (up_n _ (by assumption)).trans (by assumption) | exact (up_n _ (by assumption)).trans (up_s _ _ _) | exact (up_n _ (by assumption)).trans ((up_n _ (by assumption)).trans (by assumption))) rfl rfl (Nat.le_of_ble_eq_true rfl) dX6_beginNumber_2 ?_
  refine r_aload_n dX6_beginNumber_5 rfl ?_
  refine r_iconst dX6_beginNumber_6 ?_
  refine r_putfield clX6 6 (by decide) fl_X6_72 rfl (by first | assumption | exact up_s _ _ _ | exact (up_n _ (by assumption)).trans (by assumption) | exact (up_n _ (by assumption)).trans (up_s _ _ _) | exact (up_n _ (by assumption)).trans ((up_n _ (by assumption)).trans (by assumption))) rfl rfl (Nat.le_of_ble_eq_true rfl) dX6_beginNumber_7 ?_
  refine r_aload_n dX6_beginNumber_10 rfl ?_
  refine r_iconst dX6_beginNumber_11 ?_
  refine r_putfield clX6 7 (by decide) fl_X6_75 rfl (by first | assumption | exact up_s _ _ _ | exact (up_n _ (by assumption)).trans (by assumption) | exact (up_n _ (by assumption)).trans (up_s _ _ _) | exact (up_n _ (by assumption)).trans ((up_n _ (by assumption)).trans (by assumption))) rfl rfl (Nat.le_of_ble_eq_true rfl) dX6_beginNumber_12 ?_
  refine e_return dX6_beginNumber_15 rfl (Nat.le_of_ble_eq_true rfl) (Nat.le_of_ble_eq_true rfl) ?_
  exact oktV ⟨((hp.up hi ir fi x va di).up hi ir fi x 0 di).up hi ir fi x 0 0, ((FrI.rf.up ⟨by omega, by omega⟩).up ⟨by omega, by omega⟩).up ⟨by omega, by omega⟩⟩

set_option maxHeartbeats 4000000 in
theorem mX6_restart {M : Mem} {ad : Int → Nat} (hw : PrW M ad) (hi : Inj ad) : Ct KX6_restart [.ref (ad 96)] M 0 0 (atV (fun M2 => PrP M2 ad ps0 ∧ FrI ad 96 99 M M2)) := by
  refine Ct.of _ (by decide) rfl (Nat.le_of_ble_eq_true rfl) ?_
  obtain ⟨⟨a, b, c, d, e, f, hpo⟩, ⟨fa, hfa⟩, ⟨fb, hfb⟩⟩ := id hw
  have h76 := hi.ne (i := 97) (j := 96) ⟨by omega, by omega⟩ ⟨by omega, by omega⟩ (by omega)
  have h86 := hi.ne (i := 98) (j := 96) ⟨by omega, by omega⟩ ⟨by omega, by omega⟩ (by omega)
  have hp1 : PrP (up M (ad 96) (oC 6 [.ref (ad 97), .ref (ad 98), vI 0, vI b, vI c, vI d, vI e, vI f])) ad (0, b, c, d, e, f, fun _ => 0, fun _ => 0) := ⟨up_s _ _ _, ⟨fa, (up_n _ h76).trans hfa, fun j x y => by dsimp only at y; omega⟩, ⟨fb, (up_n _ h86).trans hfb, fun j x y => by dsimp only at y; omega⟩⟩
  have hp2 := (hp1.up hi 0 c d e f).up hi 0 0 d e f
  refine r_aload_n dX6_restart_0 rfl ?_
  refine r_iconst dX6_restart_1 ?_
  refine r_putfield clX6 2 (by decide) fl_X6_46 rfl (by first | assumption | exact up_s _ _ _ | exact (up_n _ (by assumption)).trans (by assumption) | exact (up_n _ (by assumption)).trans (up_s _ _ _) | exact (up_n _ (by assumption)).trans ((up_n _ (by assumption)).trans (by assumption))) rfl rfl (Nat.le_of_ble_eq_true rfl) dX6_restart_2 ?_
  refine r_aload_n dX6_restart_5 rfl ?_
  refine r_iconst dX6_restart_6 ?_
  refine r_putfield clX6 3 (by decide) fl_X6_59 rfl (by first | assumption | exact up_s _ _ _ | exact (up_n _ (by assumption)).trans (by assumption) | exact (up_n _ (by assumption)).trans (up_s _ _ _) | exact (up_n _ (by assumption)).trans ((up_n _ (by assumption)).trans (by assumption))) rfl rfl (Nat.le_of_ble_eq_true rfl) dX6_restart_7 ?_
  refine r_aload_n dX6_restart_10 rfl ?_
  refine r_iconst dX6_restart_11 ?_
  refine r_putfield clX6 4 (by decide) fl_X6_63 rfl (by first | assumption | exact up_s _ _ _ | exact (up_n _ (by assumption)).trans (by assumption) | exact (up_n _ (by assumption)).trans (up_s _ _ _) | exact (up_n _ (by assumption)).trans ((up_n _ (by assumption)).trans (by assumption))) rfl rfl (Nat.le_of_ble_eq_true rfl) dX6_restart_12 ?_
  refine r_aload_n dX6_restart_15 rfl ?_
  refine r_iconst dX6_restart_16 ?_
  refine r_callV1 okX6_beginNumber ⟨by decide, by decide⟩ ml_X6_66 (mX6_beginNumber hp2 hi) hp2.1 rfl rfl (Nat.le_of_ble_eq_true rfl) (Nat.le_of_ble_eq_true rfl) (Nat.le_of_ble_eq_true rfl) rfl dX6_restart_17 (nx_tV) (kx_tV ?_)
  intro M2 hM2
  refine e_return dX6_restart_20 rfl (Nat.le_of_ble_eq_true rfl) (Nat.le_of_ble_eq_true rfl) ?_
  exact oktV ⟨hM2.1, (((FrI.rf.up ⟨by omega, by omega⟩).up ⟨by omega, by omega⟩).up ⟨by omega, by omega⟩).trans hM2.2⟩

set_option maxHeartbeats 4000000 in
theorem mX6_isWhole {M : Mem} {ad : Int → Nat} {pa ir fi le va di : Int} {A B : Int → Int} {i : Int} (hp : PrP M ad (pa, ir, fi, le, va, di, A, B)) (hi : Inj ad) (hok : PsOk (pa, ir, fi, le, va, di, A, B) i) : Ct KX6_isWhole [.ref (ad 96)] M 0 0 (rtI (bI (whF le va di)) M) := by
  refine Ct.of _ (by decide) rfl (Nat.le_of_ble_eq_true rfl) ?_
  obtain ⟨hpo, ⟨fa, hfa, hfa2⟩, ⟨fb, hfb, hfb2⟩⟩ := id hp
  dsimp only at hpo hfa2 hfb2
  have hok9 := hok
  unfold PsOk at hok9
  dsimp only at hok9
  have h78 := hi.ne (i := 97) (j := 98) ⟨by omega, by omega⟩ ⟨by omega, by omega⟩ (by omega)
  have h87 := h78.symm
  have h67 := hi.ne (i := 96) (j := 97) ⟨by omega, by omega⟩ ⟨by omega, by omega⟩ (by omega)
  have h76 := h67.symm
  have h68 := hi.ne (i := 96) (j := 98) ⟨by omega, by omega⟩ ⟨by omega, by omega⟩ (by omega)
  have h86 := h68.symm
  refine r_aload_n dX6_isWhole_0 rfl ?_
  refine r_getfield clX6 7 (by decide) fl_X6_75 (by first | assumption | exact up_s _ _ _ | exact (up_n _ (by assumption)).trans (by assumption) | exact (up_n _ (by assumption)).trans (up_s _ _ _) | exact (up_n _ (by assumption)).trans ((up_n _ (by assumption)).trans (by assumption))) rfl dX6_isWhole_1 ?_
  refine r_if_le (tgt := 22) dX6_isWhole_4 (by decide) (by omega) (fun h4 => ?_) (fun h4 => ?_)
  ·
    refine r_iconst dX6_isWhole_22 ?_
    refine e_zreturn dX6_isWhole_23 rfl (by omega) (Nat.le_of_ble_eq_true rfl) (Nat.le_of_ble_eq_true rfl) ?_
    exact okI (by unfold whF bI; simp <;> omega)
  ·
    refine r_aload_n dX6_isWhole_7 rfl ?_
    refine r_getfield clX6 6 (by decide) fl_X6_72 (by first | assumption | exact up_s _ _ _ | exact (up_n _ (by assumption)).trans (by assumption) | exact (up_n _ (by assumption)).trans (up_s _ _ _) | exact (up_n _ (by assumption)).trans ((up_n _ (by assumption)).trans (by assumption))) rfl dX6_isWhole_8 ?_
    refine r_aload_n dX6_isWhole_11 rfl ?_
    refine r_getfield clX6 5 (by decide) fl_X6_69 (by first | assumption | exact up_s _ _ _ | exact (up_n _ (by assumption)).trans (by assumption) | exact (up_n _ (by assumption)).trans (up_s _ _ _) | exact (up_n _ (by assumption)).trans ((up_n _ (by assumption)).trans (by assumption))) rfl dX6_isWhole_12 ?_
    refine r_icmp_lt (tgt := 22) dX6_isWhole_15 (by decide) (by omega) (by omega) (fun h15 => ?_) (fun h15 => ?_)
    ·
      refine r_iconst dX6_isWhole_22 ?_
      refine e_zreturn dX6_isWhole_23 rfl (by omega) (Nat.le_of_ble_eq_true rfl) (Nat.le_of_ble_eq_true rfl) ?_
      exact okI (by unfold whF bI; simp <;> omega)
    ·
      refine r_iconst dX6_isWhole_18 ?_
      refine r_goto (tgt := 23) dX6_isWhole_19 (by decide) ?_
      refine e_zreturn dX6_isWhole_23 rfl (by omega) (Nat.le_of_ble_eq_true rfl) (Nat.le_of_ble_eq_true rfl) ?_
      exact okI (by unfold whF bI; simp <;> omega)

set_option maxHeartbeats 4000000 in
theorem mX6_closePart {M : Mem} {ad : Int → Nat} {pa ir fi le va di : Int} {A B : Int → Int} {i : Int} (hp : PrP M ad (pa, ir, fi, le, va, di, A, B)) (hi : Inj ad) (hok : PsOk (pa, ir, fi, le, va, di, A, B) i) (q1 : pa < 60) : Ct KX6_closePart [.ref (ad 96)] M 0 0 (atV (fun M2 => PrP M2 ad (pa + 1, ir, fi, le, va, di, uI A pa (if ir = 0 then va else fi), uI B pa va) ∧ FrI ad 96 99 M M2)) := by
  refine Ct.of _ (by decide) rfl (Nat.le_of_ble_eq_true rfl) ?_
  obtain ⟨hpo, ⟨fa, hfa, hfa2⟩, ⟨fb, hfb, hfb2⟩⟩ := id hp
  dsimp only at hpo hfa2 hfb2
  have hok9 := hok
  unfold PsOk at hok9
  dsimp only at hok9
  have h78 := hi.ne (i := 97) (j := 98) ⟨by omega, by omega⟩ ⟨by omega, by omega⟩ (by omega)
  have h87 := h78.symm
  have h67 := hi.ne (i := 96) (j := 97) ⟨by omega, by omega⟩ ⟨by omega, by omega⟩ (by omega)
  have h76 := h67.symm
  have h68 := hi.ne (i := 96) (j := 98) ⟨by omega, by omega⟩ ⟨by omega, by omega⟩ (by omega)
  have h86 := h68.symm
  refine r_aload_n dX6_closePart_0 rfl ?_
  refine r_getfield clX6 2 (by decide) fl_X6_46 (by first | assumption | exact up_s _ _ _ | exact (up_n _ (by assumption)).trans (by assumption) | exact (up_n _ (by assumption)).trans (up_s _ _ _) | exact (up_n _ (by assumption)).trans ((up_n _ (by assumption)).trans (by assumption))) rfl dX6_closePart_1 ?_
  refine r_if_lt (tgt := 81) dX6_closePart_4 (by decide) (by omega) (fun h4 => ?_) (fun h4 => ?_)
  · omega
  ·
    refine r_aload_n dX6_closePart_7 rfl ?_
    refine r_getfield clX6 2 (by decide) fl_X6_46 (by first | assumption | exact up_s _ _ _ | exact (up_n _ (by assumption)).trans (by assumption) | exact (up_n _ (by assumption)).trans (up_s _ _ _) | exact (up_n _ (by assumption)).trans ((up_n _ (by assumption)).trans (by assumption))) rfl dX6_closePart_8 ?_
    refine r_aload_n dX6_closePart_11 rfl ?_
    refine r_getfield clX6 0 (by decide) fl_X6_9 (by first | assumption | exact up_s _ _ _ | exact (up_n _ (by assumption)).trans (by assumption) | exact (up_n _ (by assumption)).trans (up_s _ _ _) | exact (up_n _ (by assumption)).trans ((up_n _ (by assumption)).trans (by assumption))) rfl dX6_closePart_12 ?_
    refine r_alenI (by first | assumption | exact up_s _ _ _ | exact (up_n _ (by assumption)).trans (by assumption) | exact (up_n _ (by assumption)).trans (up_s _ _ _) | exact (up_n _ (by assumption)).trans ((up_n _ (by assumption)).trans (by assumption))) dX6_closePart_15 ?_
    refine r_icmp_ge (tgt := 81) dX6_closePart_16 (by decide) (by omega) (by omega) (fun h16 => ?_) (fun h16 => ?_)
    · omega
    ·
      refine r_aload_n dX6_closePart_19 rfl ?_
      refine r_getfield clX6 2 (by decide) fl_X6_46 (by first | assumption | exact up_s _ _ _ | exact (up_n _ (by assumption)).trans (by assumption) | exact (up_n _ (by assumption)).trans (up_s _ _ _) | exact (up_n _ (by assumption)).trans ((up_n _ (by assumption)).trans (by assumption))) rfl dX6_closePart_20 ?_
      refine r_aload_n dX6_closePart_23 rfl ?_
      refine r_getfield clX6 1 (by decide) fl_X6_15 (by first | assumption | exact up_s _ _ _ | exact (up_n _ (by assumption)).trans (by assumption) | exact (up_n _ (by assumption)).trans (up_s _ _ _) | exact (up_n _ (by assumption)).trans ((up_n _ (by assumption)).trans (by assumption))) rfl dX6_closePart_24 ?_
      refine r_alenI (by first | assumption | exact up_s _ _ _ | exact (up_n _ (by assumption)).trans (by assumption) | exact (up_n _ (by assumption)).trans (up_s _ _ _) | exact (up_n _ (by assumption)).trans ((up_n _ (by assumption)).trans (by assumption))) dX6_closePart_27 ?_
      refine r_icmp_ge (tgt := 81) dX6_closePart_28 (by decide) (by omega) (by omega) (fun h28 => ?_) (fun h28 => ?_)
      · omega
      ·
        refine r_aload_n dX6_closePart_31 rfl ?_
        refine r_getfield clX6 0 (by decide) fl_X6_9 (by first | assumption | exact up_s _ _ _ | exact (up_n _ (by assumption)).trans (by assumption) | exact (up_n _ (by assumption)).trans (up_s _ _ _) | exact (up_n _ (by assumption)).trans ((up_n _ (by assumption)).trans (by assumption))) rfl dX6_closePart_32 ?_
        refine r_aload_n dX6_closePart_35 rfl ?_
        refine r_getfield clX6 2 (by decide) fl_X6_46 (by first | assumption | exact up_s _ _ _ | exact (up_n _ (by assumption)).trans (by assumption) | exact (up_n _ (by assumption)).trans (up_s _ _ _) | exact (up_n _ (by assumption)).trans ((up_n _ (by assumption)).trans (by assumption))) rfl dX6_closePart_36 ?_
        refine r_aload_n dX6_closePart_39 rfl ?_
        refine r_getfield clX6 3 (by decide) fl_X6_59 (by first | assumption | exact up_s _ _ _ | exact (up_n _ (by assumption)).trans (by assumption) | exact (up_n _ (by assumption)).trans (up_s _ _ _) | exact (up_n _ (by assumption)).trans ((up_n _ (by assumption)).trans (by assumption))) rfl dX6_closePart_40 ?_
        refine r_if_eq (tgt := 53) dX6_closePart_43 (by decide) (by omega) (fun h43 => ?_) (fun h43 => ?_)
        ·
          refine r_aload_n dX6_closePart_53 rfl ?_
          refine r_getfield clX6 6 (by decide) fl_X6_72 (by first | assumption | exact up_s _ _ _ | exact (up_n _ (by assumption)).trans (by assumption) | exact (up_n _ (by assumption)).trans (up_s _ _ _) | exact (up_n _ (by assumption)).trans ((up_n _ (by assumption)).trans (by assumption))) rfl dX6_closePart_54 ?_
          refine r_iastore (by first | assumption | exact up_s _ _ _ | exact (up_n _ (by assumption)).trans (by assumption) | exact (up_n _ (by assumption)).trans (up_s _ _ _) | exact (up_n _ (by assumption)).trans ((up_n _ (by assumption)).trans (by assumption))) (by omega) (by omega) (by omega) dX6_closePart_57 ?_
          refine r_aload_n dX6_closePart_58 rfl ?_
          refine r_getfield clX6 1 (by decide) fl_X6_15 (by first | assumption | exact up_s _ _ _ | exact (up_n _ (by assumption)).trans (by assumption) | exact (up_n _ (by assumption)).trans (up_s _ _ _) | exact (up_n _ (by assumption)).trans ((up_n _ (by assumption)).trans (by assumption))) rfl dX6_closePart_59 ?_
          refine r_aload_n dX6_closePart_62 rfl ?_
          refine r_getfield clX6 2 (by decide) fl_X6_46 (by first | assumption | exact up_s _ _ _ | exact (up_n _ (by assumption)).trans (by assumption) | exact (up_n _ (by assumption)).trans (up_s _ _ _) | exact (up_n _ (by assumption)).trans ((up_n _ (by assumption)).trans (by assumption))) rfl dX6_closePart_63 ?_
          refine r_aload_n dX6_closePart_66 rfl ?_
          refine r_getfield clX6 6 (by decide) fl_X6_72 (by first | assumption | exact up_s _ _ _ | exact (up_n _ (by assumption)).trans (by assumption) | exact (up_n _ (by assumption)).trans (up_s _ _ _) | exact (up_n _ (by assumption)).trans ((up_n _ (by assumption)).trans (by assumption))) rfl dX6_closePart_67 ?_
          refine r_iastore (by first | assumption | exact up_s _ _ _ | exact (up_n _ (by assumption)).trans (by assumption) | exact (up_n _ (by assumption)).trans (up_s _ _ _) | exact (up_n _ (by assumption)).trans ((up_n _ (by assumption)).trans (by assumption))) (by omega) (by omega) (by omega) dX6_closePart_70 ?_
          refine r_aload_n dX6_closePart_71 rfl ?_
          refine r_dup dX6_closePart_72 ?_
          refine r_getfield clX6 2 (by decide) fl_X6_46 (by first | assumption | exact up_s _ _ _ | exact (up_n _ (by assumption)).trans (by assumption) | exact (up_n _ (by assumption)).trans (up_s _ _ _) | exact (up_n _ (by assumption)).trans ((up_n _ (by assumption)).trans (by assumption))) rfl dX6_closePart_73 ?_
          refine r_iconst dX6_closePart_76 ?_
          refine r_iadd dX6_closePart_77 ?_
          refine r_putfield clX6 2 (by decide) fl_X6_46 rfl (by first | assumption | exact up_s _ _ _ | exact (up_n _ (by assumption)).trans (by assumption) | exact (up_n _ (by assumption)).trans (up_s _ _ _) | exact (up_n _ (by assumption)).trans ((up_n _ (by assumption)).trans (by assumption))) rfl rfl (Nat.le_of_ble_eq_true rfl) dX6_closePart_78 ?_
          refine e_return dX6_closePart_81 rfl (Nat.le_of_ble_eq_true rfl) (Nat.le_of_ble_eq_true rfl) ?_
          refine oktV ⟨⟨up_s _ _ _, ⟨_, (up_n _ h76).trans ((up_n _ h78).trans (up_s _ _ _)), fun j x y => ?_⟩, ⟨_, (up_n _ h86).trans (up_s _ _ _), fun j x y => ?_⟩⟩, ((FrI.rf.up ⟨by omega, by omega⟩).up ⟨by omega, by omega⟩).up ⟨by omega, by omega⟩⟩
          · dsimp only at y ⊢
            by_cases e : j = pa
            · rw [e, uI_s, uI_s]; first | rw [if_pos (by omega)] | rw [if_neg (by omega)]
            · rw [uI_n _ e, uI_n _ e]; exact hfa2 j x (by omega)
          · dsimp only at y ⊢
            by_cases e : j = pa
            · rw [e, uI_s, uI_s]
            · rw [uI_n _ e, uI_n _ e]; exact hfb2 j x (by omega)
        ·
          refine r_aload_n dX6_closePart_46 rfl ?_
          refine r_getfield clX6 4 (by decide) fl_X6_63 (by first | assumption | exact up_s _ _ _ | exact (up_n _ (by assumption)).trans (by assumption) | exact (up_n _ (by assumption)).trans (up_s _ _ _) | exact (up_n _ (by assumption)).trans ((up_n _ (by assumption)).trans (by assumption))) rfl dX6_closePart_47 ?_
          refine r_goto (tgt := 57) dX6_closePart_50 (by decide) ?_
          refine r_iastore (by first | assumption | exact up_s _ _ _ | exact (up_n _ (by assumption)).trans (by assumption) | exact (up_n _ (by assumption)).trans (up_s _ _ _) | exact (up_n _ (by assumption)).trans ((up_n _ (by assumption)).trans (by assumption))) (by omega) (by omega) (by omega) dX6_closePart_57 ?_
          refine r_aload_n dX6_closePart_58 rfl ?_
          refine r_getfield clX6 1 (by decide) fl_X6_15 (by first | assumption | exact up_s _ _ _ | exact (up_n _ (by assumption)).trans (by assumption) | exact (up_n _ (by assumption)).trans (up_s _ _ _) | exact (up_n _ (by assumption)).trans ((up_n _ (by assumption)).trans (by assumption))) rfl dX6_closePart_59 ?_
          refine r_aload_n dX6_closePart_62 rfl ?_
          refine r_getfield clX6 2 (by decide) fl_X6_46 (by first | assumption | exact up_s _ _ _ | exact (up_n _ (by assumption)).trans (by assumption) | exact (up_n _ (by assumption)).trans (up_s _ _ _) | exact (up_n _ (by assumption)).trans ((up_n _ (by assumption)).trans (by assumption))) rfl dX6_closePart_63 ?_
          refine r_aload_n dX6_closePart_66 rfl ?_
          refine r_getfield clX6 6 (by decide) fl_X6_72 (by first | assumption | exact up_s _ _ _ | exact (up_n _ (by assumption)).trans (by assumption) | exact (up_n _ (by assumption)).trans (up_s _ _ _) | exact (up_n _ (by assumption)).trans ((up_n _ (by assumption)).trans (by assumption))) rfl dX6_closePart_67 ?_
          refine r_iastore (by first | assumption | exact up_s _ _ _ | exact (up_n _ (by assumption)).trans (by assumption) | exact (up_n _ (by assumption)).trans (up_s _ _ _) | exact (up_n _ (by assumption)).trans ((up_n _ (by assumption)).trans (by assumption))) (by omega) (by omega) (by omega) dX6_closePart_70 ?_
          refine r_aload_n dX6_closePart_71 rfl ?_
          refine r_dup dX6_closePart_72 ?_
          refine r_getfield clX6 2 (by decide) fl_X6_46 (by first | assumption | exact up_s _ _ _ | exact (up_n _ (by assumption)).trans (by assumption) | exact (up_n _ (by assumption)).trans (up_s _ _ _) | exact (up_n _ (by assumption)).trans ((up_n _ (by assumption)).trans (by assumption))) rfl dX6_closePart_73 ?_
          refine r_iconst dX6_closePart_76 ?_
          refine r_iadd dX6_closePart_77 ?_
          refine r_putfield clX6 2 (by decide) fl_X6_46 rfl (by first | assumption | exact up_s _ _ _ | exact (up_n _ (by assumption)).trans (by assumption) | exact (up_n _ (by assumption)).trans (up_s _ _ _) | exact (up_n _ (by assumption)).trans ((up_n _ (by assumption)).trans (by assumption))) rfl rfl (Nat.le_of_ble_eq_true rfl) dX6_closePart_78 ?_
          refine e_return dX6_closePart_81 rfl (Nat.le_of_ble_eq_true rfl) (Nat.le_of_ble_eq_true rfl) ?_
          refine oktV ⟨⟨up_s _ _ _, ⟨_, (up_n _ h76).trans ((up_n _ h78).trans (up_s _ _ _)), fun j x y => ?_⟩, ⟨_, (up_n _ h86).trans (up_s _ _ _), fun j x y => ?_⟩⟩, ((FrI.rf.up ⟨by omega, by omega⟩).up ⟨by omega, by omega⟩).up ⟨by omega, by omega⟩⟩
          · dsimp only at y ⊢
            by_cases e : j = pa
            · rw [e, uI_s, uI_s]; first | rw [if_pos (by omega)] | rw [if_neg (by omega)]
            · rw [uI_n _ e, uI_n _ e]; exact hfa2 j x (by omega)
          · dsimp only at y ⊢
            by_cases e : j = pa
            · rw [e, uI_s, uI_s]
            · rw [uI_n _ e, uI_n _ e]; exact hfb2 j x (by omega)

set_option maxHeartbeats 4000000 in
theorem mX6_greatestFrom {M : Mem} {v d : Int} (q0 : 0 ≤ v ∧ v ≤ 99999) (q1 : 0 ≤ d ∧ d ≤ 4) : Ct KX6_greatestFrom [vI v, vI d] M 0 0 (rtI (gfF v d) M) := by
  refine Ct.of _ (by decide) rfl (Nat.le_of_ble_eq_true rfl) ?_
  refine r_iload_n dX6_greatestFrom_0 rfl ?_
  refine r_if_ne (tgt := 6) dX6_greatestFrom_1 (by decide) (by omega) (fun h1 => ?_) (fun h1 => ?_)
  ·
    refine r_iload_n dX6_greatestFrom_6 rfl ?_
    refine r_istore_n dX6_greatestFrom_7 (by decide) rfl ?_
    refine r_iload_n dX6_greatestFrom_8 rfl ?_
    refine r_istore_n dX6_greatestFrom_9 (by decide) rfl ?_
    refine J.loc (L' := [(0, some _), (1, some _), (2, some _), (3, some _)]) (lsub_cons rfl (lsub_cons rfl (lsub_cons rfl (lsub_cons rfl (lsub_nil))))) (loop2 (fun (m : Int) (g : Int) => d ≤ m ∧ m ≤ 4 ∧ 0 ≤ g ∧ g + 1 ≤ 100000 * tn m ∧ ¬ v = 0 ∧ gfF v d = padF (4 - m).toNat g) (fun (m : Int) (g : Int) => (4 - m).toNat) (fun (m : Int) (g : Int) => J KX6_greatestFrom 0 0 _ 10 [(0, some (vI v)), (1, some (vI d)), (2, some (vI g)), (3, some (vI m))] [] M _ _) (fun m g hI10 ih10 => ?_) _ _ ?_)
    ·
      obtain ⟨hm0, hm1, hg0, hg1, hv, hg2⟩ := hI10
      have htn : tn m ≤ 10000 ∧ (m < 4 → tn (m + 1) = 10 * tn m) := by rcases (show m = 0 ∨ m = 1 ∨ m = 2 ∨ m = 3 ∨ m = 4 by omega) with rfl | rfl | rfl | rfl | rfl <;> exact ⟨by decide, fun _ => by first | rfl | omega⟩
      refine r_iload_n dX6_greatestFrom_10 rfl ?_
      refine r_iconst dX6_greatestFrom_11 ?_
      refine r_icmp_ge (tgt := 29) dX6_greatestFrom_12 (by decide) (by omega) (by omega) (fun h12 => ?_) (fun h12 => ?_)
      ·
        refine r_iload_n dX6_greatestFrom_29 rfl ?_
        refine e_ireturn dX6_greatestFrom_30 rfl (Nat.le_of_ble_eq_true rfl) (Nat.le_of_ble_eq_true rfl) ?_
        exact okI (by rw [hg2, show (4 - m).toNat = 0 by omega, padF])
      ·
        refine r_bipush dX6_greatestFrom_15 (by decide) ?_
        refine r_iload_n dX6_greatestFrom_17 rfl ?_
        refine r_imul dX6_greatestFrom_18 ?_
        refine r_bipush dX6_greatestFrom_19 (by decide) ?_
        refine r_iadd dX6_greatestFrom_21 ?_
        refine r_istore_n dX6_greatestFrom_22 (by decide) rfl ?_
        refine r_iinc dX6_greatestFrom_23 rfl rfl ?_
        refine r_goto (tgt := 10) dX6_greatestFrom_26 (by decide) ?_
        refine J.loc (lsub_cons rfl (lsub_cons rfl (lsub_cons rfl (lsub_cons rfl (lsub_nil))))) (ih10 _ _ ?_ ?_)
        · refine ⟨by omega, by omega, by omega, ?_, hv, ?_⟩
          · have := htn.2 (by omega); omega
          · rw [hg2, show (4 - m).toNat = (4 - (m + 1)).toNat + 1 by omega, padF]
        · omega
    · refine ⟨by omega, by omega, by omega, ?_, h1, by unfold gfF; rw [if_neg h1]⟩
      rcases (show d = 0 ∨ d = 1 ∨ d = 2 ∨ d = 3 ∨ d = 4 by omega) with rfl | rfl | rfl | rfl | rfl <;> simp [tn] <;> omega
  ·
    refine r_iconst dX6_greatestFrom_4 ?_
    refine e_ireturn dX6_greatestFrom_5 rfl (Nat.le_of_ble_eq_true rfl) (Nat.le_of_ble_eq_true rfl) ?_
    exact okI (by unfold gfF; rw [if_pos h1])

set_option maxHeartbeats 4000000 in
theorem mX6_takesComma {M : Mem} {ad : Int → Nat} {pa ir fi le va di : Int} {A B : Int → Int} {i : Int} (hp : PrP M ad (pa, ir, fi, le, va, di, A, B)) (hi : Inj ad) (hok : PsOk (pa, ir, fi, le, va, di, A, B) i) (q1 : i < 60) : Ct KX6_takesComma [.ref (ad 96)] M 0 0 (atI (bI (psC (pa, ir, fi, le, va, di, A, B)).isSome) (fun M2 => PrP M2 ad ((psC (pa, ir, fi, le, va, di, A, B)).getD (pa, ir, fi, le, va, di, A, B)) ∧ FrI ad 96 99 M M2)) := by
  refine Ct.of _ (by decide) rfl (Nat.le_of_ble_eq_true rfl) ?_
  obtain ⟨hpo, ⟨fa, hfa, hfa2⟩, ⟨fb, hfb, hfb2⟩⟩ := id hp
  dsimp only at hpo hfa2 hfb2
  have hok9 := hok
  unfold PsOk at hok9
  dsimp only at hok9
  have h78 := hi.ne (i := 97) (j := 98) ⟨by omega, by omega⟩ ⟨by omega, by omega⟩ (by omega)
  have h87 := h78.symm
  have h67 := hi.ne (i := 96) (j := 97) ⟨by omega, by omega⟩ ⟨by omega, by omega⟩ (by omega)
  have h76 := h67.symm
  have h68 := hi.ne (i := 96) (j := 98) ⟨by omega, by omega⟩ ⟨by omega, by omega⟩ (by omega)
  have h86 := h68.symm
  have hbw := bI_r (whF le va di)
  refine r_aload_n dX6_takesComma_0 rfl ?_
  refine r_callV0 okX6_isWhole ⟨by decide, by decide⟩ ml_X6_39 (mX6_isWhole hp hi hok) hpo rfl rfl (Nat.le_of_ble_eq_true rfl) (Nat.le_of_ble_eq_true rfl) (Nat.le_of_ble_eq_true rfl) rfl dX6_takesComma_1 (nx_I) (kx_I ?_)
  refine r_if_eq (tgt := 17) dX6_takesComma_4 (by decide) (by omega) (fun h4 => ?_) (fun h4 => ?_)
  ·
    refine r_iconst dX6_takesComma_17 ?_
    refine e_zreturn dX6_takesComma_18 rfl (by omega) (Nat.le_of_ble_eq_true rfl) (Nat.le_of_ble_eq_true rfl) ?_
    have he : psC (pa, ir, fi, le, va, di, A, B) = none := if_neg (fun h => by first | exact bI_f h4 h.1 | omega)
    rw [he]
    exact oktI rfl ⟨hp, FrI.rf⟩
  ·
    refine r_aload_n dX6_takesComma_7 rfl ?_
    refine r_getfield clX6 6 (by decide) fl_X6_72 hpo rfl dX6_takesComma_8 ?_
    refine r_sipush dX6_takesComma_11 (by decide) ?_
    refine r_icmp_lt (tgt := 19) dX6_takesComma_14 (by decide) (by omega) (by omega) (fun h14 => ?_) (fun h14 => ?_)
    ·
      have hwt := bI_t h4
      have hdi : 0 < di := by unfold whF at hwt; simp at hwt; exact hwt.1
      rw [if_pos hdi] at hok9
      have he : psC (pa, ir, fi, le, va, di, A, B) = some (pa + 1, 0, fi, va + 1, 0, 0, uI A pa (if ir = 0 then va else fi), uI B pa va) := if_pos ⟨hwt, h14⟩
      refine r_aload_n dX6_takesComma_19 rfl ?_
      refine r_callV0 okX6_closePart ⟨by decide, by decide⟩ ml_X6_43 (mX6_closePart hp hi hok (by omega)) hpo rfl rfl (Nat.le_of_ble_eq_true rfl) (Nat.le_of_ble_eq_true rfl) (Nat.le_of_ble_eq_true rfl) rfl dX6_takesComma_20 (nx_tV) (kx_tV ?_)
      intro M2 hM2
      have hp3 := hM2.1
      refine r_aload_n dX6_takesComma_23 rfl ?_
      refine r_iconst dX6_takesComma_24 ?_
      refine r_putfield clX6 3 (by decide) fl_X6_59 rfl hM2.1.1 rfl rfl (Nat.le_of_ble_eq_true rfl) dX6_takesComma_25 ?_
      refine r_aload_n dX6_takesComma_28 rfl ?_
      refine r_aload_n dX6_takesComma_29 rfl ?_
      refine r_getfield clX6 6 (by decide) fl_X6_72 (up_s _ _ _) rfl dX6_takesComma_30 ?_
      refine r_iconst dX6_takesComma_33 ?_
      refine r_iadd dX6_takesComma_34 ?_
      refine r_callV1 okX6_beginNumber ⟨by decide, by decide⟩ ml_X6_66 (mX6_beginNumber (hp3.up hi 0 fi le va di) hi) (hp3.up hi 0 fi le va di).1 rfl rfl (Nat.le_of_ble_eq_true rfl) (Nat.le_of_ble_eq_true rfl) (Nat.le_of_ble_eq_true rfl) rfl dX6_takesComma_35 (nx_tV) (kx_tV ?_)
      intro M3 hM3
      refine r_iconst dX6_takesComma_38 ?_
      refine e_zreturn dX6_takesComma_39 rfl (by omega) (Nat.le_of_ble_eq_true rfl) (Nat.le_of_ble_eq_true rfl) ?_
      rw [he]
      exact oktI rfl ⟨hM3.1, (hM2.2.up ⟨by omega, by omega⟩).trans hM3.2⟩
    ·
      refine r_iconst dX6_takesComma_17 ?_
      refine e_zreturn dX6_takesComma_18 rfl (by omega) (Nat.le_of_ble_eq_true rfl) (Nat.le_of_ble_eq_true rfl) ?_
      have he : psC (pa, ir, fi, le, va, di, A, B) = none := if_neg (fun h => by first | exact bI_f h4 h.1 | omega)
      rw [he]
      exact oktI rfl ⟨hp, FrI.rf⟩

set_option maxHeartbeats 4000000 in
theorem mX6_takesDash {M : Mem} {ad : Int → Nat} {pa ir fi le va di : Int} {A B : Int → Int} {i : Int} (hp : PrP M ad (pa, ir, fi, le, va, di, A, B)) (hi : Inj ad) (hok : PsOk (pa, ir, fi, le, va, di, A, B) i) : Ct KX6_takesDash [.ref (ad 96)] M 0 0 (atI (bI (psD (pa, ir, fi, le, va, di, A, B)).isSome) (fun M2 => PrP M2 ad ((psD (pa, ir, fi, le, va, di, A, B)).getD (pa, ir, fi, le, va, di, A, B)) ∧ FrI ad 96 99 M M2)) := by
  refine Ct.of _ (by decide) rfl (Nat.le_of_ble_eq_true rfl) ?_
  obtain ⟨hpo, ⟨fa, hfa, hfa2⟩, ⟨fb, hfb, hfb2⟩⟩ := id hp
  dsimp only at hpo hfa2 hfb2
  have hok9 := hok
  unfold PsOk at hok9
  dsimp only at hok9
  have h78 := hi.ne (i := 97) (j := 98) ⟨by omega, by omega⟩ ⟨by omega, by omega⟩ (by omega)
  have h87 := h78.symm
  have h67 := hi.ne (i := 96) (j := 97) ⟨by omega, by omega⟩ ⟨by omega, by omega⟩ (by omega)
  have h76 := h67.symm
  have h68 := hi.ne (i := 96) (j := 98) ⟨by omega, by omega⟩ ⟨by omega, by omega⟩ (by omega)
  have h86 := h68.symm
  have hbw := bI_r (whF le va di)
  refine r_aload_n dX6_takesDash_0 rfl ?_
  refine r_callV0 okX6_isWhole ⟨by decide, by decide⟩ ml_X6_39 (mX6_isWhole hp hi hok) hpo rfl rfl (Nat.le_of_ble_eq_true rfl) (Nat.le_of_ble_eq_true rfl) (Nat.le_of_ble_eq_true rfl) rfl dX6_takesDash_1 (nx_I) (kx_I ?_)
  refine r_if_eq (tgt := 14) dX6_takesDash_4 (by decide) (by omega) (fun h4 => ?_) (fun h4 => ?_)
  ·
    refine r_iconst dX6_takesDash_14 ?_
    refine e_zreturn dX6_takesDash_15 rfl (by omega) (Nat.le_of_ble_eq_true rfl) (Nat.le_of_ble_eq_true rfl) ?_
    have he : psD (pa, ir, fi, le, va, di, A, B) = none := if_neg (fun h => by first | exact bI_f h4 h.1 | omega)
    rw [he]
    exact oktI rfl ⟨hp, FrI.rf⟩
  ·
    refine r_aload_n dX6_takesDash_7 rfl ?_
    refine r_getfield clX6 3 (by decide) fl_X6_59 hpo rfl dX6_takesDash_8 ?_
    refine r_if_eq (tgt := 16) dX6_takesDash_11 (by decide) (by omega) (fun h11 => ?_) (fun h11 => ?_)
    ·
      have hwt := bI_t h4
      have he : psD (pa, ir, fi, le, va, di, A, B) = some (pa, 1, va, va, 0, 0, A, B) := if_pos ⟨hwt, h11⟩
      refine r_aload_n dX6_takesDash_16 rfl ?_
      refine r_aload_n dX6_takesDash_17 rfl ?_
      refine r_getfield clX6 6 (by decide) fl_X6_72 (by first | assumption | exact up_s _ _ _ | exact (up_n _ (by assumption)).trans (by assumption) | exact (up_n _ (by assumption)).trans (up_s _ _ _) | exact (up_n _ (by assumption)).trans ((up_n _ (by assumption)).trans (by assumption))) rfl dX6_takesDash_18 ?_
      refine r_putfield clX6 4 (by decide) fl_X6_63 rfl (by first | assumption | exact up_s _ _ _ | exact (up_n _ (by assumption)).trans (by assumption) | exact (up_n _ (by assumption)).trans (up_s _ _ _) | exact (up_n _ (by assumption)).trans ((up_n _ (by assumption)).trans (by assumption))) rfl rfl (Nat.le_of_ble_eq_true rfl) dX6_takesDash_21 ?_
      refine r_aload_n dX6_takesDash_24 rfl ?_
      refine r_iconst dX6_takesDash_25 ?_
      refine r_putfield clX6 3 (by decide) fl_X6_59 rfl (by first | assumption | exact up_s _ _ _ | exact (up_n _ (by assumption)).trans (by assumption) | exact (up_n _ (by assumption)).trans (up_s _ _ _) | exact (up_n _ (by assumption)).trans ((up_n _ (by assumption)).trans (by assumption))) rfl rfl (Nat.le_of_ble_eq_true rfl) dX6_takesDash_26 ?_
      refine r_aload_n dX6_takesDash_29 rfl ?_
      refine r_aload_n dX6_takesDash_30 rfl ?_
      refine r_getfield clX6 6 (by decide) fl_X6_72 (by first | assumption | exact up_s _ _ _ | exact (up_n _ (by assumption)).trans (by assumption) | exact (up_n _ (by assumption)).trans (up_s _ _ _) | exact (up_n _ (by assumption)).trans ((up_n _ (by assumption)).trans (by assumption))) rfl dX6_takesDash_31 ?_
      refine r_callV1 okX6_beginNumber ⟨by decide, by decide⟩ ml_X6_66 (mX6_beginNumber ((hp.up hi ir va le va di).up hi 1 va le va di) hi) ((hp.up hi ir va le va di).up hi 1 va le va di).1 rfl rfl (Nat.le_of_ble_eq_true rfl) (Nat.le_of_ble_eq_true rfl) (Nat.le_of_ble_eq_true rfl) rfl dX6_takesDash_34 (nx_tV) (kx_tV ?_)
      intro M3 hM3
      refine r_iconst dX6_takesDash_37 ?_
      refine e_zreturn dX6_takesDash_38 rfl (by omega) (Nat.le_of_ble_eq_true rfl) (Nat.le_of_ble_eq_true rfl) ?_
      rw [he]
      exact oktI rfl ⟨hM3.1, ((FrI.rf.up ⟨by omega, by omega⟩).up ⟨by omega, by omega⟩).trans hM3.2⟩
    ·
      refine r_iconst dX6_takesDash_14 ?_
      refine e_zreturn dX6_takesDash_15 rfl (by omega) (Nat.le_of_ble_eq_true rfl) (Nat.le_of_ble_eq_true rfl) ?_
      have he : psD (pa, ir, fi, le, va, di, A, B) = none := if_neg (fun h => by first | exact bI_f h4 h.1 | omega)
      rw [he]
      exact oktI rfl ⟨hp, FrI.rf⟩

set_option maxHeartbeats 4000000 in
theorem mX6_takesDigit {M : Mem} {ad : Int → Nat} {pa ir fi le va di : Int} {A B : Int → Int} {i d : Int} (hp : PrP M ad (pa, ir, fi, le, va, di, A, B)) (hi : Inj ad) (hok : PsOk (pa, ir, fi, le, va, di, A, B) i) (q1 : 0 ≤ d ∧ d ≤ 9) : Ct KX6_takesDigit [.ref (ad 96), vI d] M 0 0 (atI (bI (psG d (pa, ir, fi, le, va, di, A, B)).isSome) (fun M2 => PrP M2 ad ((psG d (pa, ir, fi, le, va, di, A, B)).getD (pa, ir, fi, le, va, di, A, B)) ∧ FrI ad 96 99 M M2)) := by
  refine Ct.of _ (by decide) rfl (Nat.le_of_ble_eq_true rfl) ?_
  obtain ⟨hpo, ⟨fa, hfa, hfa2⟩, ⟨fb, hfb, hfb2⟩⟩ := id hp
  dsimp only at hpo hfa2 hfb2
  have hok9 := hok
  unfold PsOk at hok9
  dsimp only at hok9
  have h78 := hi.ne (i := 97) (j := 98) ⟨by omega, by omega⟩ ⟨by omega, by omega⟩ (by omega)
  have h87 := h78.symm
  have h67 := hi.ne (i := 96) (j := 97) ⟨by omega, by omega⟩ ⟨by omega, by omega⟩ (by omega)
  have h76 := h67.symm
  have h68 := hi.ne (i := 96) (j := 98) ⟨by omega, by omega⟩ ⟨by omega, by omega⟩ (by omega)
  have h86 := h68.symm
  have hgf : 0 ≤ di → di ≤ 3 → gfF (10 * va + d) (di + 1) ≤ 2000000000 ∧ 0 ≤ gfF (10 * va + d) (di + 1) := fun h h2 => by
    unfold gfF
    split
    · omega
    · rcases (show di = 0 ∨ di = 1 ∨ di = 2 ∨ di = 3 by omega) with rfl | rfl | rfl | rfl <;> simp [padF] <;> omega
  refine r_aload_n dX6_takesDigit_0 rfl ?_
  refine r_getfield clX6 7 (by decide) fl_X6_75 (by first | assumption | exact up_s _ _ _ | exact (up_n _ (by assumption)).trans (by assumption) | exact (up_n _ (by assumption)).trans (up_s _ _ _) | exact (up_n _ (by assumption)).trans ((up_n _ (by assumption)).trans (by assumption))) rfl dX6_takesDigit_1 ?_
  refine r_if_le (tgt := 18) dX6_takesDigit_4 (by decide) (by omega) (fun h4 => ?_) (fun h4 => ?_)
  ·
    refine r_iconst dX6_takesDigit_18 ?_
    refine r_istore_n dX6_takesDigit_19 (by decide) rfl ?_
    refine r_iload_n dX6_takesDigit_20 rfl ?_
    refine r_if_ne (tgt := 32) dX6_takesDigit_21 (by decide) (by omega) (fun h21 => ?_) (fun h21 => ?_)
    · omega
    ·
      refine r_aload_n dX6_takesDigit_24 rfl ?_
      refine r_getfield clX6 7 (by decide) fl_X6_75 (by first | assumption | exact up_s _ _ _ | exact (up_n _ (by assumption)).trans (by assumption) | exact (up_n _ (by assumption)).trans (up_s _ _ _) | exact (up_n _ (by assumption)).trans ((up_n _ (by assumption)).trans (by assumption))) rfl dX6_takesDigit_25 ?_
      refine r_iconst dX6_takesDigit_28 ?_
      refine r_icmp_lt (tgt := 34) dX6_takesDigit_29 (by decide) (by omega) (by omega) (fun h29 => ?_) (fun h29 => ?_)
      ·
        refine r_bipush dX6_takesDigit_34 (by decide) ?_
        refine r_aload_n dX6_takesDigit_36 rfl ?_
        refine r_getfield clX6 6 (by decide) fl_X6_72 (by first | assumption | exact up_s _ _ _ | exact (up_n _ (by assumption)).trans (by assumption) | exact (up_n _ (by assumption)).trans (up_s _ _ _) | exact (up_n _ (by assumption)).trans ((up_n _ (by assumption)).trans (by assumption))) rfl dX6_takesDigit_37 ?_
        refine r_imul dX6_takesDigit_40 ?_
        refine r_iload_n dX6_takesDigit_41 rfl ?_
        refine r_iadd dX6_takesDigit_42 ?_
        refine r_istore_n dX6_takesDigit_43 (by decide) rfl ?_
        refine r_iload_n dX6_takesDigit_44 rfl ?_
        refine r_aload_n dX6_takesDigit_45 rfl ?_
        refine r_getfield clX6 7 (by decide) fl_X6_75 (by first | assumption | exact up_s _ _ _ | exact (up_n _ (by assumption)).trans (by assumption) | exact (up_n _ (by assumption)).trans (up_s _ _ _) | exact (up_n _ (by assumption)).trans ((up_n _ (by assumption)).trans (by assumption))) rfl dX6_takesDigit_46 ?_
        refine r_iconst dX6_takesDigit_49 ?_
        refine r_iadd dX6_takesDigit_50 ?_
        refine r_callS2 okX6_greatestFrom ⟨by decide, by decide⟩ ml_X6_87 (mX6_greatestFrom (by omega) (by omega)) (Nat.le_of_ble_eq_true rfl) (Nat.le_of_ble_eq_true rfl) (Nat.le_of_ble_eq_true rfl) rfl dX6_takesDigit_51 (nx_I) (kx_I ?_)
        have hgf2 := hgf (by omega) (by omega)
        refine r_aload_n dX6_takesDigit_54 rfl ?_
        refine r_getfield clX6 5 (by decide) fl_X6_69 (by first | assumption | exact up_s _ _ _ | exact (up_n _ (by assumption)).trans (by assumption) | exact (up_n _ (by assumption)).trans (up_s _ _ _) | exact (up_n _ (by assumption)).trans ((up_n _ (by assumption)).trans (by assumption))) rfl dX6_takesDigit_55 ?_
        refine r_icmp_ge (tgt := 63) dX6_takesDigit_58 (by decide) (by omega) (by omega) (fun h58 => ?_) (fun h58 => ?_)
        ·
          refine r_aload_n dX6_takesDigit_63 rfl ?_
          refine r_iload_n dX6_takesDigit_64 rfl ?_
          refine r_putfield clX6 6 (by decide) fl_X6_72 rfl (by first | assumption | exact up_s _ _ _ | exact (up_n _ (by assumption)).trans (by assumption) | exact (up_n _ (by assumption)).trans (up_s _ _ _) | exact (up_n _ (by assumption)).trans ((up_n _ (by assumption)).trans (by assumption))) rfl rfl (Nat.le_of_ble_eq_true rfl) dX6_takesDigit_65 ?_
          refine r_aload_n dX6_takesDigit_68 rfl ?_
          refine r_dup dX6_takesDigit_69 ?_
          refine r_getfield clX6 7 (by decide) fl_X6_75 (by first | assumption | exact up_s _ _ _ | exact (up_n _ (by assumption)).trans (by assumption) | exact (up_n _ (by assumption)).trans (up_s _ _ _) | exact (up_n _ (by assumption)).trans ((up_n _ (by assumption)).trans (by assumption))) rfl dX6_takesDigit_70 ?_
          refine r_iconst dX6_takesDigit_73 ?_
          refine r_iadd dX6_takesDigit_74 ?_
          refine r_putfield clX6 7 (by decide) fl_X6_75 rfl (by first | assumption | exact up_s _ _ _ | exact (up_n _ (by assumption)).trans (by assumption) | exact (up_n _ (by assumption)).trans (up_s _ _ _) | exact (up_n _ (by assumption)).trans ((up_n _ (by assumption)).trans (by assumption))) rfl rfl (Nat.le_of_ble_eq_true rfl) dX6_takesDigit_75 ?_
          refine r_iconst dX6_takesDigit_78 ?_
          refine e_zreturn dX6_takesDigit_79 rfl (by omega) (Nat.le_of_ble_eq_true rfl) (Nat.le_of_ble_eq_true rfl) ?_
          have he : psG d (pa, ir, fi, le, va, di, A, B) = some (pa, ir, fi, le, 10 * va + d, di + 1, A, B) := (if_neg (by omega)).trans (if_neg (by omega))
          rw [he]
          exact oktI rfl ⟨(hp.up hi ir fi le (10 * va + d) di).up hi ir fi le (10 * va + d) (di + 1), (FrI.rf.up ⟨by omega, by omega⟩).up ⟨by omega, by omega⟩⟩
        ·
          refine r_iconst dX6_takesDigit_61 ?_
          refine e_zreturn dX6_takesDigit_62 rfl (by omega) (Nat.le_of_ble_eq_true rfl) (Nat.le_of_ble_eq_true rfl) ?_
          have he : psG d (pa, ir, fi, le, va, di, A, B) = none := (if_neg (by omega)).trans (if_pos (by omega))
          rw [he]
          exact oktI rfl ⟨hp, FrI.rf⟩
      ·
        refine r_iconst dX6_takesDigit_32 ?_
        refine e_zreturn dX6_takesDigit_33 rfl (by omega) (Nat.le_of_ble_eq_true rfl) (Nat.le_of_ble_eq_true rfl) ?_
        have he : psG d (pa, ir, fi, le, va, di, A, B) = none := if_pos (by omega)
        rw [he]
        exact oktI rfl ⟨hp, FrI.rf⟩
  ·
    refine r_aload_n dX6_takesDigit_7 rfl ?_
    refine r_getfield clX6 6 (by decide) fl_X6_72 (by first | assumption | exact up_s _ _ _ | exact (up_n _ (by assumption)).trans (by assumption) | exact (up_n _ (by assumption)).trans (up_s _ _ _) | exact (up_n _ (by assumption)).trans ((up_n _ (by assumption)).trans (by assumption))) rfl dX6_takesDigit_8 ?_
    refine r_if_ne (tgt := 18) dX6_takesDigit_11 (by decide) (by omega) (fun h11 => ?_) (fun h11 => ?_)
    ·
      refine r_iconst dX6_takesDigit_18 ?_
      refine r_istore_n dX6_takesDigit_19 (by decide) rfl ?_
      refine r_iload_n dX6_takesDigit_20 rfl ?_
      refine r_if_ne (tgt := 32) dX6_takesDigit_21 (by decide) (by omega) (fun h21 => ?_) (fun h21 => ?_)
      · omega
      ·
        refine r_aload_n dX6_takesDigit_24 rfl ?_
        refine r_getfield clX6 7 (by decide) fl_X6_75 (by first | assumption | exact up_s _ _ _ | exact (up_n _ (by assumption)).trans (by assumption) | exact (up_n _ (by assumption)).trans (up_s _ _ _) | exact (up_n _ (by assumption)).trans ((up_n _ (by assumption)).trans (by assumption))) rfl dX6_takesDigit_25 ?_
        refine r_iconst dX6_takesDigit_28 ?_
        refine r_icmp_lt (tgt := 34) dX6_takesDigit_29 (by decide) (by omega) (by omega) (fun h29 => ?_) (fun h29 => ?_)
        ·
          refine r_bipush dX6_takesDigit_34 (by decide) ?_
          refine r_aload_n dX6_takesDigit_36 rfl ?_
          refine r_getfield clX6 6 (by decide) fl_X6_72 (by first | assumption | exact up_s _ _ _ | exact (up_n _ (by assumption)).trans (by assumption) | exact (up_n _ (by assumption)).trans (up_s _ _ _) | exact (up_n _ (by assumption)).trans ((up_n _ (by assumption)).trans (by assumption))) rfl dX6_takesDigit_37 ?_
          refine r_imul dX6_takesDigit_40 ?_
          refine r_iload_n dX6_takesDigit_41 rfl ?_
          refine r_iadd dX6_takesDigit_42 ?_
          refine r_istore_n dX6_takesDigit_43 (by decide) rfl ?_
          refine r_iload_n dX6_takesDigit_44 rfl ?_
          refine r_aload_n dX6_takesDigit_45 rfl ?_
          refine r_getfield clX6 7 (by decide) fl_X6_75 (by first | assumption | exact up_s _ _ _ | exact (up_n _ (by assumption)).trans (by assumption) | exact (up_n _ (by assumption)).trans (up_s _ _ _) | exact (up_n _ (by assumption)).trans ((up_n _ (by assumption)).trans (by assumption))) rfl dX6_takesDigit_46 ?_
          refine r_iconst dX6_takesDigit_49 ?_
          refine r_iadd dX6_takesDigit_50 ?_
          refine r_callS2 okX6_greatestFrom ⟨by decide, by decide⟩ ml_X6_87 (mX6_greatestFrom (by omega) (by omega)) (Nat.le_of_ble_eq_true rfl) (Nat.le_of_ble_eq_true rfl) (Nat.le_of_ble_eq_true rfl) rfl dX6_takesDigit_51 (nx_I) (kx_I ?_)
          have hgf2 := hgf (by omega) (by omega)
          refine r_aload_n dX6_takesDigit_54 rfl ?_
          refine r_getfield clX6 5 (by decide) fl_X6_69 (by first | assumption | exact up_s _ _ _ | exact (up_n _ (by assumption)).trans (by assumption) | exact (up_n _ (by assumption)).trans (up_s _ _ _) | exact (up_n _ (by assumption)).trans ((up_n _ (by assumption)).trans (by assumption))) rfl dX6_takesDigit_55 ?_
          refine r_icmp_ge (tgt := 63) dX6_takesDigit_58 (by decide) (by omega) (by omega) (fun h58 => ?_) (fun h58 => ?_)
          ·
            refine r_aload_n dX6_takesDigit_63 rfl ?_
            refine r_iload_n dX6_takesDigit_64 rfl ?_
            refine r_putfield clX6 6 (by decide) fl_X6_72 rfl (by first | assumption | exact up_s _ _ _ | exact (up_n _ (by assumption)).trans (by assumption) | exact (up_n _ (by assumption)).trans (up_s _ _ _) | exact (up_n _ (by assumption)).trans ((up_n _ (by assumption)).trans (by assumption))) rfl rfl (Nat.le_of_ble_eq_true rfl) dX6_takesDigit_65 ?_
            refine r_aload_n dX6_takesDigit_68 rfl ?_
            refine r_dup dX6_takesDigit_69 ?_
            refine r_getfield clX6 7 (by decide) fl_X6_75 (by first | assumption | exact up_s _ _ _ | exact (up_n _ (by assumption)).trans (by assumption) | exact (up_n _ (by assumption)).trans (up_s _ _ _) | exact (up_n _ (by assumption)).trans ((up_n _ (by assumption)).trans (by assumption))) rfl dX6_takesDigit_70 ?_
            refine r_iconst dX6_takesDigit_73 ?_
            refine r_iadd dX6_takesDigit_74 ?_
            refine r_putfield clX6 7 (by decide) fl_X6_75 rfl (by first | assumption | exact up_s _ _ _ | exact (up_n _ (by assumption)).trans (by assumption) | exact (up_n _ (by assumption)).trans (up_s _ _ _) | exact (up_n _ (by assumption)).trans ((up_n _ (by assumption)).trans (by assumption))) rfl rfl (Nat.le_of_ble_eq_true rfl) dX6_takesDigit_75 ?_
            refine r_iconst dX6_takesDigit_78 ?_
            refine e_zreturn dX6_takesDigit_79 rfl (by omega) (Nat.le_of_ble_eq_true rfl) (Nat.le_of_ble_eq_true rfl) ?_
            have he : psG d (pa, ir, fi, le, va, di, A, B) = some (pa, ir, fi, le, 10 * va + d, di + 1, A, B) := (if_neg (by omega)).trans (if_neg (by omega))
            rw [he]
            exact oktI rfl ⟨(hp.up hi ir fi le (10 * va + d) di).up hi ir fi le (10 * va + d) (di + 1), (FrI.rf.up ⟨by omega, by omega⟩).up ⟨by omega, by omega⟩⟩
          ·
            refine r_iconst dX6_takesDigit_61 ?_
            refine e_zreturn dX6_takesDigit_62 rfl (by omega) (Nat.le_of_ble_eq_true rfl) (Nat.le_of_ble_eq_true rfl) ?_
            have he : psG d (pa, ir, fi, le, va, di, A, B) = none := (if_neg (by omega)).trans (if_pos (by omega))
            rw [he]
            exact oktI rfl ⟨hp, FrI.rf⟩
        ·
          refine r_iconst dX6_takesDigit_32 ?_
          refine e_zreturn dX6_takesDigit_33 rfl (by omega) (Nat.le_of_ble_eq_true rfl) (Nat.le_of_ble_eq_true rfl) ?_
          have he : psG d (pa, ir, fi, le, va, di, A, B) = none := if_pos (by omega)
          rw [he]
          exact oktI rfl ⟨hp, FrI.rf⟩
    ·
      refine r_iconst dX6_takesDigit_14 ?_
      refine r_goto (tgt := 19) dX6_takesDigit_15 (by decide) ?_
      refine r_istore_n dX6_takesDigit_19 (by decide) rfl ?_
      refine r_iload_n dX6_takesDigit_20 rfl ?_
      refine r_if_ne (tgt := 32) dX6_takesDigit_21 (by decide) (by omega) (fun h21 => ?_) (fun h21 => ?_)
      ·
        refine r_iconst dX6_takesDigit_32 ?_
        refine e_zreturn dX6_takesDigit_33 rfl (by omega) (Nat.le_of_ble_eq_true rfl) (Nat.le_of_ble_eq_true rfl) ?_
        have he : psG d (pa, ir, fi, le, va, di, A, B) = none := if_pos (by omega)
        rw [he]
        exact oktI rfl ⟨hp, FrI.rf⟩
      · omega

set_option maxHeartbeats 4000000 in
theorem mX6_takes {M : Mem} {ad : Int → Nat} {pa ir fi le va di : Int} {A B : Int → Int} {i c : Int} (hp : PrP M ad (pa, ir, fi, le, va, di, A, B)) (hi : Inj ad) (hok : PsOk (pa, ir, fi, le, va, di, A, B) i) (q1 : i < 60) (q2 : 0 ≤ c ∧ c ≤ 126) : Ct KX6_takes [.ref (ad 96), vI c] M 0 0 (atI (bI (psT c (pa, ir, fi, le, va, di, A, B)).isSome) (fun M2 => PrP M2 ad ((psT c (pa, ir, fi, le, va, di, A, B)).getD (pa, ir, fi, le, va, di, A, B)) ∧ FrI ad 96 99 M M2)) := by
  refine Ct.of _ (by decide) rfl (Nat.le_of_ble_eq_true rfl) ?_
  obtain ⟨hpo, ⟨fa, hfa, hfa2⟩, ⟨fb, hfb, hfb2⟩⟩ := id hp
  dsimp only at hpo hfa2 hfb2
  have hok9 := hok
  unfold PsOk at hok9
  dsimp only at hok9
  have h78 := hi.ne (i := 97) (j := 98) ⟨by omega, by omega⟩ ⟨by omega, by omega⟩ (by omega)
  have h87 := h78.symm
  have h67 := hi.ne (i := 96) (j := 97) ⟨by omega, by omega⟩ ⟨by omega, by omega⟩ (by omega)
  have h76 := h67.symm
  have h68 := hi.ne (i := 96) (j := 98) ⟨by omega, by omega⟩ ⟨by omega, by omega⟩ (by omega)
  have h86 := h68.symm
  refine r_iload_n dX6_takes_0 rfl ?_
  refine r_bipush dX6_takes_1 (by decide) ?_
  refine r_icmp_ne (tgt := 11) dX6_takes_3 (by decide) (by omega) (by omega) (fun h3 => ?_) (fun h3 => ?_)
  ·
    refine r_iload_n dX6_takes_11 rfl ?_
    refine r_bipush dX6_takes_12 (by decide) ?_
    refine r_icmp_ne (tgt := 22) dX6_takes_14 (by decide) (by omega) (by omega) (fun h14 => ?_) (fun h14 => ?_)
    ·
      refine r_iload_n dX6_takes_22 rfl ?_
      refine r_bipush dX6_takes_23 (by decide) ?_
      refine r_icmp_lt (tgt := 49) dX6_takes_25 (by decide) (by omega) (by omega) (fun h25 => ?_) (fun h25 => ?_)
      ·
        refine r_iconst dX6_takes_49 ?_
        refine e_zreturn dX6_takes_50 rfl (by omega) (Nat.le_of_ble_eq_true rfl) (Nat.le_of_ble_eq_true rfl) ?_
        have he : psT c (pa, ir, fi, le, va, di, A, B) = none := (if_neg (by omega)).trans ((if_neg (by omega)).trans (if_neg (by omega)))
        rw [he]
        exact oktI rfl ⟨hp, FrI.rf⟩
      ·
        refine r_iload_n dX6_takes_28 rfl ?_
        refine r_bipush dX6_takes_29 (by decide) ?_
        refine r_icmp_gt (tgt := 49) dX6_takes_31 (by decide) (by omega) (by omega) (fun h31 => ?_) (fun h31 => ?_)
        ·
          refine r_iconst dX6_takes_49 ?_
          refine e_zreturn dX6_takes_50 rfl (by omega) (Nat.le_of_ble_eq_true rfl) (Nat.le_of_ble_eq_true rfl) ?_
          have he : psT c (pa, ir, fi, le, va, di, A, B) = none := (if_neg (by omega)).trans ((if_neg (by omega)).trans (if_neg (by omega)))
          rw [he]
          exact oktI rfl ⟨hp, FrI.rf⟩
        ·
          refine r_aload_n dX6_takes_34 rfl ?_
          refine r_iload_n dX6_takes_35 rfl ?_
          refine r_bipush dX6_takes_36 (by decide) ?_
          refine r_isub dX6_takes_38 ?_
          refine r_callV1 okX6_takesDigit ⟨by decide, by decide⟩ ml_X6_84 (mX6_takesDigit hp hi hok (by omega)) hpo rfl rfl (Nat.le_of_ble_eq_true rfl) (Nat.le_of_ble_eq_true rfl) (Nat.le_of_ble_eq_true rfl) rfl dX6_takes_39 (nx_tI) (kx_tI ?_)
          intro M2 hM2
          have he : psT c (pa, ir, fi, le, va, di, A, B) = psG (c - 48) (pa, ir, fi, le, va, di, A, B) := (if_neg (by omega)).trans ((if_neg (by omega)).trans (if_pos (by omega)))
          have hbg := bI_r (psG (c - 48) (pa, ir, fi, le, va, di, A, B)).isSome
          refine r_if_eq (tgt := 49) dX6_takes_42 (by decide) (by omega) (fun h42 => ?_) (fun h42 => ?_)
          ·
            refine r_iconst dX6_takes_49 ?_
            refine e_zreturn dX6_takes_50 rfl (by omega) (Nat.le_of_ble_eq_true rfl) (Nat.le_of_ble_eq_true rfl) ?_
            rw [he]
            exact oktI h42.symm hM2
          ·
            refine r_iconst dX6_takes_45 ?_
            refine r_goto (tgt := 50) dX6_takes_46 (by decide) ?_
            refine e_zreturn dX6_takes_50 rfl (by omega) (Nat.le_of_ble_eq_true rfl) (Nat.le_of_ble_eq_true rfl) ?_
            rw [he]
            exact oktI (by rw [bI_t h42]; rfl) hM2
    ·
      refine r_aload_n dX6_takes_17 rfl ?_
      refine r_callV0 okX6_takesDash ⟨by decide, by decide⟩ ml_X6_81 (mX6_takesDash hp hi hok) hpo rfl rfl (Nat.le_of_ble_eq_true rfl) (Nat.le_of_ble_eq_true rfl) (Nat.le_of_ble_eq_true rfl) rfl dX6_takes_18 (nx_tI) (kx_tI ?_)
      intro M2 hM2
      have he : psT c (pa, ir, fi, le, va, di, A, B) = psD (pa, ir, fi, le, va, di, A, B) := (if_neg (by omega)).trans (if_pos (by omega))
      refine e_zreturn dX6_takes_21 rfl (bI_01 _) (Nat.le_of_ble_eq_true rfl) (Nat.le_of_ble_eq_true rfl) ?_
      rw [he]
      exact oktI rfl hM2
  ·
    refine r_aload_n dX6_takes_6 rfl ?_
    refine r_callV0 okX6_takesComma ⟨by decide, by decide⟩ ml_X6_78 (mX6_takesComma hp hi hok q1) hpo rfl rfl (Nat.le_of_ble_eq_true rfl) (Nat.le_of_ble_eq_true rfl) (Nat.le_of_ble_eq_true rfl) rfl dX6_takes_7 (nx_tI) (kx_tI ?_)
    intro M2 hM2
    have he : psT c (pa, ir, fi, le, va, di, A, B) = psC (pa, ir, fi, le, va, di, A, B) := if_pos (by omega)
    refine e_zreturn dX6_takes_10 rfl (bI_01 _) (Nat.le_of_ble_eq_true rfl) (Nat.le_of_ble_eq_true rfl) ?_
    rw [he]
    exact oktI rfl hM2
