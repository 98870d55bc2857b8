/-! the class: its whole state -/
def XSt (M : Mem) (ad : Int → Nat) (σ : Sg3) (m : Int) (S : Int → Sg3) (len : Int) (c : Int → Int) : Prop :=
  M (ad 0) = some (oC 8 [.ref (ad 1), .ref (ad 14), .ref (ad 94), .ref (ad 96), .ref (ad 99), .ref (ad 101), .ref (ad 108), .ref (ad 110)]) ∧ StQ M ad 1 σ ∧ HsP M ad m S ∧ BfP M ad len c ∧ PrW M ad ∧ BlW M ad 99 ∧ MtW M ad ∧ (∃ (tn : Int) (tF : Int → Int), Mb M (ad 108) (ad 109) 120 tn tF) ∧ ∃ (wn : Int) (wF : Int → Int), Mb M (ad 110) (ad 111) 241 wn wF
def Vld (σ : Sg3) : Prop := (∀ k, 0 ≤ k → k < 4 → Srt (σ.1 k) (σ.2.1 k)) ∧ 2 ≤ σ.2.2 0 ∧ σ.2.2 0 ≤ 16 ∧ 1 ≤ σ.2.2 1 ∧ σ.2.2 1 ≤ 9999
/-- the sets, the saved ones and the buffer have changed, at most -/
theorem XSt.go {M M2 : Mem} {ad : Int → Nat} {σ σ' : Sg3} {m m' : Int} {S S' : Int → Sg3} {len len' : Int} {c c' : Int → Int} (h : XSt M ad σ m S len c) (hi : Inj ad) (h1 : StQ M2 ad 1 σ') (h2 : HsP M2 ad m' S') (h3 : BfP M2 ad len' c') (hf : FrI ad 1 96 M M2) : XSt M2 ad σ' m' S' len' c' ∧ FrI ad 0 112 M M2 := by
  obtain ⟨a0, -, -, -, a4, a5, a6, ⟨tn, tF, a7⟩, ⟨wn, wF, a8⟩⟩ := h
  have hk : ∀ i, 0 ≤ i ∧ i < 122 → (i < 1 ∨ 96 ≤ i) → M2 (ad i) = M (ad i) := fun i a b => hf.at hi ⟨by omega, by omega⟩ a b
  exact ⟨⟨(hk 0 ⟨by omega, by omega⟩ (by omega)).trans a0, h1, h2, h3, a4.frame (fun i a b => hk i ⟨by omega, by omega⟩ (by omega)), a5.frame (hk _ ⟨by omega, by omega⟩ (by omega)) (hk _ ⟨by omega, by omega⟩ (by omega)), a6.frame (fun i a b => hk i ⟨by omega, by omega⟩ (by omega)), ⟨tn, tF, a7.frame (hk _ ⟨by omega, by omega⟩ (by omega)) (hk _ ⟨by omega, by omega⟩ (by omega))⟩, ⟨wn, wF, a8.frame (hk _ ⟨by omega, by omega⟩ (by omega)) (hk _ ⟨by omega, by omega⟩ (by omega))⟩⟩, hf.mono (by omega) (by omega)⟩
/-- rows of the parser have changed -/
theorem XSt.goP {M M2 : Mem} {ad : Int → Nat} {σ : Sg3} {m : Int} {S : Int → Sg3} {len : Int} {c : Int → Int} (h : XSt M ad σ m S len c) (hi : Inj ad) (h1 : PrW M2 ad) (hf : FrI ad 96 99 M M2) : XSt M2 ad σ m S len c ∧ FrI ad 0 112 M M2 := by
  obtain ⟨a0, a1, a2, a3, a4, a5, a6, ⟨tn, tF, a7⟩, ⟨wn, wF, a8⟩⟩ := h
  have hk : ∀ i, 0 ≤ i ∧ i < 122 → (i < 96 ∨ 99 ≤ i) → M2 (ad i) = M (ad i) := fun i a b => hf.at hi ⟨by omega, by omega⟩ a b
  exact ⟨⟨(hk 0 ⟨by omega, by omega⟩ (by omega)).trans a0, a1.frame (fun i a b => hk i ⟨by omega, by omega⟩ (by omega)), a2.frame (fun i a b => hk i ⟨by omega, by omega⟩ (by omega)), a3.frame (hk _ ⟨by omega, by omega⟩ (by omega)) (hk _ ⟨by omega, by omega⟩ (by omega)), h1, a5.frame (hk _ ⟨by omega, by omega⟩ (by omega)) (hk _ ⟨by omega, by omega⟩ (by omega)), a6.frame (fun i a b => hk i ⟨by omega, by omega⟩ (by omega)), ⟨tn, tF, a7.frame (hk _ ⟨by omega, by omega⟩ (by omega)) (hk _ ⟨by omega, by omega⟩ (by omega))⟩, ⟨wn, wF, a8.frame (hk _ ⟨by omega, by omega⟩ (by omega)) (hk _ ⟨by omega, by omega⟩ (by omega))⟩⟩, hf.mono (by omega) (by omega)⟩
/-- the blocks have changed -/
theorem XSt.goB {M M2 : Mem} {ad : Int → Nat} {σ : Sg3} {m : Int} {S : Int → Sg3} {len : Int} {c : Int → Int} (h : XSt M ad σ m S len c) (hi : Inj ad) (h1 : BlW M2 ad 99) (hf : FrI ad 99 101 M M2) : XSt M2 ad σ m S len c ∧ FrI ad 0 112 M M2 := by
  obtain ⟨a0, a1, a2, a3, a4, a5, a6, ⟨tn, tF, a7⟩, ⟨wn, wF, a8⟩⟩ := h
  have hk : ∀ i, 0 ≤ i ∧ i < 122 → (i < 99 ∨ 101 ≤ i) → M2 (ad i) = M (ad i) := fun i a b => hf.at hi ⟨by omega, by omega⟩ a b
  exact ⟨⟨(hk 0 ⟨by omega, by omega⟩ (by omega)).trans a0, a1.frame (fun i a b => hk i ⟨by omega, by omega⟩ (by omega)), a2.frame (fun i a b => hk i ⟨by omega, by omega⟩ (by omega)), a3.frame (hk _ ⟨by omega, by omega⟩ (by omega)) (hk _ ⟨by omega, by omega⟩ (by omega)), a4.frame (fun i a b => hk i ⟨by omega, by omega⟩ (by omega)), h1, a6.frame (fun i a b => hk i ⟨by omega, by omega⟩ (by omega)), ⟨tn, tF, a7.frame (hk _ ⟨by omega, by omega⟩ (by omega)) (hk _ ⟨by omega, by omega⟩ (by omega))⟩, ⟨wn, wF, a8.frame (hk _ ⟨by omega, by omega⟩ (by omega)) (hk _ ⟨by omega, by omega⟩ (by omega))⟩⟩, hf.mono (by omega) (by omega)⟩
/-- the meeting has changed -/
theorem XSt.goM {M M2 : Mem} {ad : Int → Nat} {σ : Sg3} {m : Int} {S : Int → Sg3} {len : Int} {c : Int → Int} (h : XSt M ad σ m S len c) (hi : Inj ad) (h1 : MtW M2 ad) (hf : FrI ad 101 108 M M2) : XSt M2 ad σ m S len c ∧ FrI ad 0 112 M M2 := by
  obtain ⟨a0, a1, a2, a3, a4, a5, a6, ⟨tn, tF, a7⟩, ⟨wn, wF, a8⟩⟩ := h
  have hk : ∀ i, 0 ≤ i ∧ i < 122 → (i < 101 ∨ 108 ≤ i) → M2 (ad i) = M (ad i) := fun i a b => hf.at hi ⟨by omega, by omega⟩ a b
  exact ⟨⟨(hk 0 ⟨by omega, by omega⟩ (by omega)).trans a0, a1.frame (fun i a b => hk i ⟨by omega, by omega⟩ (by omega)), a2.frame (fun i a b => hk i ⟨by omega, by omega⟩ (by omega)), a3.frame (hk _ ⟨by omega, by omega⟩ (by omega)) (hk _ ⟨by omega, by omega⟩ (by omega)), a4.frame (fun i a b => hk i ⟨by omega, by omega⟩ (by omega)), a5.frame (hk _ ⟨by omega, by omega⟩ (by omega)) (hk _ ⟨by omega, by omega⟩ (by omega)), h1, ⟨tn, tF, a7.frame (hk _ ⟨by omega, by omega⟩ (by omega)) (hk _ ⟨by omega, by omega⟩ (by omega))⟩, ⟨wn, wF, a8.frame (hk _ ⟨by omega, by omega⟩ (by omega)) (hk _ ⟨by omega, by omega⟩ (by omega))⟩⟩, hf.mono (by omega) (by omega)⟩
/-- trial has changed -/
theorem XSt.goT {M M2 : Mem} {ad : Int → Nat} {σ : Sg3} {m : Int} {S : Int → Sg3} {len : Int} {c : Int → Int} (h : XSt M ad σ m S len c) (hi : Inj ad) {tn : Int} {tF : Int → Int} (h1 : Mb M2 (ad 108) (ad 109) 120 tn tF) (hf : Fr2 (ad 108) (ad 109) M M2) : XSt M2 ad σ m S len c ∧ FrI ad 0 112 M M2 := by
  obtain ⟨a0, a1, a2, a3, a4, a5, a6, -, ⟨wn, wF, a8⟩⟩ := h
  have hk : ∀ i, 0 ≤ i ∧ i < 122 → (i < 108 ∨ 110 ≤ i) → M2 (ad i) = M (ad i) := fun i a b => hf.at hi ⟨by omega, by omega⟩ ⟨by omega, by omega⟩ a ⟨by omega, by omega⟩
  exact ⟨⟨(hk 0 ⟨by omega, by omega⟩ (by omega)).trans a0, a1.frame (fun i a b => hk i ⟨by omega, by omega⟩ (by omega)), a2.frame (fun i a b => hk i ⟨by omega, by omega⟩ (by omega)), a3.frame (hk _ ⟨by omega, by omega⟩ (by omega)) (hk _ ⟨by omega, by omega⟩ (by omega)), a4.frame (fun i a b => hk i ⟨by omega, by omega⟩ (by omega)), a5.frame (hk _ ⟨by omega, by omega⟩ (by omega)) (hk _ ⟨by omega, by omega⟩ (by omega)), a6.frame (fun i a b => hk i ⟨by omega, by omega⟩ (by omega)), ⟨tn, tF, h1⟩, ⟨wn, wF, a8.frame (hk _ ⟨by omega, by omega⟩ (by omega)) (hk _ ⟨by omega, by omega⟩ (by omega))⟩⟩, FrI.of2 hf ⟨by omega, by omega⟩ ⟨by omega, by omega⟩⟩
/-- widths has changed -/
theorem XSt.goW {M M2 : Mem} {ad : Int → Nat} {σ : Sg3} {m : Int} {S : Int → Sg3} {len : Int} {c : Int → Int} (h : XSt M ad σ m S len c) (hi : Inj ad) {wn : Int} {wF : Int → Int} (h1 : Mb M2 (ad 110) (ad 111) 241 wn wF) (hf : Fr2 (ad 110) (ad 111) M M2) : XSt M2 ad σ m S len c ∧ FrI ad 0 112 M M2 := by
  obtain ⟨a0, a1, a2, a3, a4, a5, a6, ⟨tn, tF, a7⟩, -⟩ := h
  have hk : ∀ i, 0 ≤ i ∧ i < 122 → (i < 110 ∨ 112 ≤ i) → M2 (ad i) = M (ad i) := fun i a b => hf.at hi ⟨by omega, by omega⟩ ⟨by omega, by omega⟩ a ⟨by omega, by omega⟩
  exact ⟨⟨(hk 0 ⟨by omega, by omega⟩ (by omega)).trans a0, a1.frame (fun i a b => hk i ⟨by omega, by omega⟩ (by omega)), a2.frame (fun i a b => hk i ⟨by omega, by omega⟩ (by omega)), a3.frame (hk _ ⟨by omega, by omega⟩ (by omega)) (hk _ ⟨by omega, by omega⟩ (by omega)), a4.frame (fun i a b => hk i ⟨by omega, by omega⟩ (by omega)), a5.frame (hk _ ⟨by omega, by omega⟩ (by omega)) (hk _ ⟨by omega, by omega⟩ (by omega)), a6.frame (fun i a b => hk i ⟨by omega, by omega⟩ (by omega)), ⟨tn, tF, a7.frame (hk _ ⟨by omega, by omega⟩ (by omega)) (hk _ ⟨by omega, by omega⟩ (by omega))⟩, ⟨wn, wF, h1⟩⟩, FrI.of2 hf ⟨by omega, by omega⟩ ⟨by omega, by omega⟩⟩
/-- the size of a set by the settings -/
def szF (n : Int) (F : Int → Int) (g : Int → Int) : Int := byF n F (g 0) (g 1) n.toNat 0 0
def blkV (n : Int) (F : Int → Int) (g : Int → Int) (b w : Int) : Int :=
  if nbF n F (g 0) (g 1) ≤ b then -1 else if w = 0 then atF n F (stF n F (g 0) (g 1) b) else if w = 1 then stF n F (g 0) (g 1) (b + 1) - stF n F (g 0) (g 1) b else if w = 2 then atF n F (stF n F (g 0) (g 1) (b + 1) - 1) else if w = 3 then bbyF n F (stF n F (g 0) (g 1)) b else if w = 4 then bgpF n F (stF n F (g 0) (g 1)) b else stF n F (g 0) (g 1) b
def ofV (n : Int) (F : Int → Int) (g : Int → Int) (w : Int) : Int :=
  if w = 0 then n else if w = 1 then nbF n F (g 0) (g 1) else if w = 2 then szF n F g else if w = 3 then 2 * n else if w = 4 then atF n F 0 else if w = 5 then atF n F (n - 1) else if w = 6 then lrF n F n.toNat 0 0 0 else smF (widF n F (stF n F (g 0) (g 1))) (nbF n F (g 0) (g 1)).toNat 0
set_option maxHeartbeats 4000000 in
theorem mX8_has {M : Mem} {ad : Int → Nat} {n : Int → Int} {F : Int → Int → Int} {g : Int → Int} {m : Int} {S : Int → Sg3} {len : Int} {c : Int → Int} {k x : Int} (hx : XSt M ad (n, F, g) m S len c) (hv : Vld (n, F, g)) (hi : Inj ad) (q0 : R32 k) (q1 : R32 x) : Ct KX8_has [.ref (ad 0), vI k, vI x] M 6 36 (UX (e2 (eSet k) (eB (0 ≤ x ∧ x ≤ 9999) xA)) (bI (hasF (n k) (F k) x)) (fun M2 => XSt M2 ad (n, F, g) m S len c ∧ FrI ad 0 112 M M2) M) := by
  refine Ct.of _ (by decide) rfl (Nat.le_of_ble_eq_true rfl) ?_
  obtain ⟨h00, hst, hhs, hbf, hpw, hbw, hmw, ⟨tn, tF, htr⟩, ⟨wn, wF, hwi⟩⟩ := id hx
  obtain ⟨hvs, hv0, hv1, hv2, hv3⟩ := id hv
  change StP _ ad 1 n F g at hst
  dsimp only at hvs hv0 hv1 hv2 hv3
  have hob1 := hst.1
  obtain ⟨hh_1, hh_2, hh_3, hh_4, hh_5, hho, -⟩ := id hhs
  have hob94 := hbf.1
  obtain ⟨⟨y1, y2, y3, y4, y5, y6, hob96⟩, -, -⟩ := id hpw
  obtain ⟨z1, z2, z3, hob99, -⟩ := id hbw
  obtain ⟨⟨u1, hob101⟩, -, -⟩ := id hmw
  have hob108 := htr.1
  have hob110 := hwi.1
  refine r_iload_n dX8_has_0 rfl ?_
  refine r_callS1 okX8_requireSet ⟨by decide, by decide⟩ ml_X8_63 (mX8_requireSet (by omega)) (Nat.le_of_ble_eq_true rfl) (Nat.le_of_ble_eq_true rfl) (Nat.le_of_ble_eq_true rfl) rfl dX8_has_1 (tUX (fun hne => by unfold e2; rw [if_neg hne])) (kx_U ?_)
  intro hE1
  have hk9 := eSet_ok hE1
  refine r_iload_n dX8_has_4 rfl ?_
  refine r_callS1 okX8_requireNumber ⟨by decide, by decide⟩ ml_X8_66 (mX8_requireNumber (by omega)) (Nat.le_of_ble_eq_true rfl) (Nat.le_of_ble_eq_true rfl) (Nat.le_of_ble_eq_true rfl) rfl dX8_has_5 (tUX (fun hne => by unfold e2; rw [if_pos hE1])) (kx_U ?_)
  intro hE2
  have hx9 := eA_ok hE2
  refine r_aload_n dX8_has_8 rfl ?_
  refine r_getfield clX8 0 (by decide) fl_X8_10 (by first | assumption | exact up_s _ _ _ | exact (up_n _ (by assumption)).trans (by assumption) | exact (up_n _ (by assumption)).trans (up_s _ _ _) | exact (up_n _ (by assumption)).trans ((up_n _ (by assumption)).trans (by assumption))) rfl dX8_has_9 ?_
  refine r_iload_n dX8_has_12 rfl ?_
  refine r_callV1 okX7_members ⟨by decide, by decide⟩ ml_X8_69 (mX7_members hst (by omega) (by omega)) (by first | assumption | exact up_s _ _ _ | exact (up_n _ (by assumption)).trans (by assumption) | exact (up_n _ (by assumption)).trans (up_s _ _ _) | exact (up_n _ (by assumption)).trans ((up_n _ (by assumption)).trans (by assumption))) rfl rfl (Nat.le_of_ble_eq_true rfl) (Nat.le_of_ble_eq_true rfl) (Nat.le_of_ble_eq_true rfl) rfl dX8_has_13 (nx_A) (kx_A ?_)
  have hmk := hst.mb (k := k) (by omega) (by omega)
  have hmo := hmk.1
  have hmn := hmk.n0
  refine r_iload_n dX8_has_16 rfl ?_
  refine r_callV1 okX5_holds ⟨by decide, by decide⟩ ml_X8_73 (mX5_holds hmk (by omega)) (by first | assumption | exact up_s _ _ _ | exact (up_n _ (by assumption)).trans (by assumption) | exact (up_n _ (by assumption)).trans (up_s _ _ _) | exact (up_n _ (by assumption)).trans ((up_n _ (by assumption)).trans (by assumption))) rfl rfl (Nat.le_of_ble_eq_true rfl) (Nat.le_of_ble_eq_true rfl) (Nat.le_of_ble_eq_true rfl) rfl dX8_has_17 (nx_I) (kx_I ?_)
  have hbb := bI_r (hasF (n k) (F k) x)
  refine r_if_eq (tgt := 27) dX8_has_20 (by decide) (by omega) (fun h20 => ?_) (fun h20 => ?_)
  ·
    refine r_iconst dX8_has_27 ?_
    refine e_ireturn dX8_has_28 rfl (Nat.le_of_ble_eq_true rfl) (Nat.le_of_ble_eq_true rfl) ?_
    exact okUX (by unfold e2; rw [if_pos hE1]; exact hE2) (by rw [h20]) ⟨hx, FrI.rf⟩
  ·
    refine r_iconst dX8_has_23 ?_
    refine r_goto (tgt := 28) dX8_has_24 (by decide) ?_
    refine e_ireturn dX8_has_28 rfl (Nat.le_of_ble_eq_true rfl) (Nat.le_of_ble_eq_true rfl) ?_
    exact okUX (by unfold e2; rw [if_pos hE1]; exact hE2) (by rw [bI_t h20]; rfl) ⟨hx, FrI.rf⟩




set_option maxHeartbeats 4000000 in
theorem mX8_member {M : Mem} {ad : Int → Nat} {n : Int → Int} {F : Int → Int → Int} {g : Int → Int} {m : Int} {S : Int → Sg3} {len : Int} {c : Int → Int} {k p : Int} (hx : XSt M ad (n, F, g) m S len c) (hv : Vld (n, F, g)) (hi : Inj ad) (q0 : R32 k) (q1 : R32 p) : Ct KX8_member [.ref (ad 0), vI k, vI p] M 6 36 (UX (e2 (eSet k) (eB (0 ≤ p) xA)) (atF (n k) (F k) p) (fun M2 => XSt M2 ad (n, F, g) m S len c ∧ FrI ad 0 112 M M2) M) := by
  refine Ct.of _ (by decide) rfl (Nat.le_of_ble_eq_true rfl) ?_
  obtain ⟨h00, hst, hhs, hbf, hpw, hbw, hmw, ⟨tn, tF, htr⟩, ⟨wn, wF, hwi⟩⟩ := id hx
  obtain ⟨hvs, hv0, hv1, hv2, hv3⟩ := id hv
  change StP _ ad 1 n F g at hst
  dsimp only at hvs hv0 hv1 hv2 hv3
  have hob1 := hst.1
  obtain ⟨hh_1, hh_2, hh_3, hh_4, hh_5, hho, -⟩ := id hhs
  have hob94 := hbf.1
  obtain ⟨⟨y1, y2, y3, y4, y5, y6, hob96⟩, -, -⟩ := id hpw
  obtain ⟨z1, z2, z3, hob99, -⟩ := id hbw
  obtain ⟨⟨u1, hob101⟩, -, -⟩ := id hmw
  have hob108 := htr.1
  have hob110 := hwi.1
  refine r_iload_n dX8_member_0 rfl ?_
  refine r_callS1 okX8_requireSet ⟨by decide, by decide⟩ ml_X8_63 (mX8_requireSet (by omega)) (Nat.le_of_ble_eq_true rfl) (Nat.le_of_ble_eq_true rfl) (Nat.le_of_ble_eq_true rfl) rfl dX8_member_1 (tUX (fun hne => by unfold e2; rw [if_neg hne])) (kx_U ?_)
  intro hE1
  have hk9 := eSet_ok hE1
  refine r_iload_n dX8_member_4 rfl ?_
  refine r_if_lt (tgt := 12) dX8_member_5 (by decide) (by omega) (fun h5 => ?_) (fun h5 => ?_)
  ·
    refine r_iconst dX8_member_12 ?_
    refine r_callS1 okX8_requireArgument ⟨by decide, by decide⟩ ml_X8_96 (mX8_requireArgument (b := 0 ≤ p) (by first | (rw [if_pos (by omega)]; done) | (rw [if_neg (by omega)]; done))) (Nat.le_of_ble_eq_true rfl) (Nat.le_of_ble_eq_true rfl) (Nat.le_of_ble_eq_true rfl) rfl dX8_member_13 (tUX (fun hne => by unfold e2; rw [if_pos hE1])) (kx_U ?_)
    intro hE2
    have hq9 := eA_ok hE2
    refine r_aload_n dX8_member_16 rfl ?_
    refine r_getfield clX8 0 (by decide) fl_X8_10 (by first | assumption | exact up_s _ _ _ | exact (up_n _ (by assumption)).trans (by assumption) | exact (up_n _ (by assumption)).trans (up_s _ _ _) | exact (up_n _ (by assumption)).trans ((up_n _ (by assumption)).trans (by assumption))) rfl dX8_member_17 ?_
    refine r_iload_n dX8_member_20 rfl ?_
    refine r_callV1 okX7_members ⟨by decide, by decide⟩ ml_X8_69 (mX7_members hst (by omega) (by omega)) (by first | assumption | exact up_s _ _ _ | exact (up_n _ (by assumption)).trans (by assumption) | exact (up_n _ (by assumption)).trans (up_s _ _ _) | exact (up_n _ (by assumption)).trans ((up_n _ (by assumption)).trans (by assumption))) rfl rfl (Nat.le_of_ble_eq_true rfl) (Nat.le_of_ble_eq_true rfl) (Nat.le_of_ble_eq_true rfl) rfl dX8_member_21 (nx_A) (kx_A ?_)
    have hmk := hst.mb (k := k) (by omega) (by omega)
    have hmo := hmk.1
    have hmn := hmk.n0
    refine r_iload_n dX8_member_24 rfl ?_
    refine r_callV1 okX5_at ⟨by decide, by decide⟩ ml_X8_160 (mX5_at hmk (by omega)) (by first | assumption | exact up_s _ _ _ | exact (up_n _ (by assumption)).trans (by assumption) | exact (up_n _ (by assumption)).trans (up_s _ _ _) | exact (up_n _ (by assumption)).trans ((up_n _ (by assumption)).trans (by assumption))) rfl rfl (Nat.le_of_ble_eq_true rfl) (Nat.le_of_ble_eq_true rfl) (Nat.le_of_ble_eq_true rfl) rfl dX8_member_25 (nx_I) (kx_I ?_)
    refine e_ireturn dX8_member_28 rfl (Nat.le_of_ble_eq_true rfl) (Nat.le_of_ble_eq_true rfl) ?_
    exact okUX (by unfold e2; rw [if_pos hE1]; exact hE2) rfl ⟨hx, FrI.rf⟩
  ·
    refine r_iconst dX8_member_8 ?_
    refine r_goto (tgt := 13) dX8_member_9 (by decide) ?_
    refine r_callS1 okX8_requireArgument ⟨by decide, by decide⟩ ml_X8_96 (mX8_requireArgument (b := 0 ≤ p) (by first | (rw [if_pos (by omega)]; done) | (rw [if_neg (by omega)]; done))) (Nat.le_of_ble_eq_true rfl) (Nat.le_of_ble_eq_true rfl) (Nat.le_of_ble_eq_true rfl) rfl dX8_member_13 (tUX (fun hne => by unfold e2; rw [if_pos hE1])) (kx_U ?_)
    intro hE2
    have hq9 := eA_ok hE2
    refine r_aload_n dX8_member_16 rfl ?_
    refine r_getfield clX8 0 (by decide) fl_X8_10 (by first | assumption | exact up_s _ _ _ | exact (up_n _ (by assumption)).trans (by assumption) | exact (up_n _ (by assumption)).trans (up_s _ _ _) | exact (up_n _ (by assumption)).trans ((up_n _ (by assumption)).trans (by assumption))) rfl dX8_member_17 ?_
    refine r_iload_n dX8_member_20 rfl ?_
    refine r_callV1 okX7_members ⟨by decide, by decide⟩ ml_X8_69 (mX7_members hst (by omega) (by omega)) (by first | assumption | exact up_s _ _ _ | exact (up_n _ (by assumption)).trans (by assumption) | exact (up_n _ (by assumption)).trans (up_s _ _ _) | exact (up_n _ (by assumption)).trans ((up_n _ (by assumption)).trans (by assumption))) rfl rfl (Nat.le_of_ble_eq_true rfl) (Nat.le_of_ble_eq_true rfl) (Nat.le_of_ble_eq_true rfl) rfl dX8_member_21 (nx_A) (kx_A ?_)
    have hmk := hst.mb (k := k) (by omega) (by omega)
    have hmo := hmk.1
    have hmn := hmk.n0
    refine r_iload_n dX8_member_24 rfl ?_
    refine r_callV1 okX5_at ⟨by decide, by decide⟩ ml_X8_160 (mX5_at hmk (by omega)) (by first | assumption | exact up_s _ _ _ | exact (up_n _ (by assumption)).trans (by assumption) | exact (up_n _ (by assumption)).trans (up_s _ _ _) | exact (up_n _ (by assumption)).trans ((up_n _ (by assumption)).trans (by assumption))) rfl rfl (Nat.le_of_ble_eq_true rfl) (Nat.le_of_ble_eq_true rfl) (Nat.le_of_ble_eq_true rfl) rfl dX8_member_25 (nx_I) (kx_I ?_)
    refine e_ireturn dX8_member_28 rfl (Nat.le_of_ble_eq_true rfl) (Nat.le_of_ble_eq_true rfl) ?_
    exact okUX (by unfold e2; rw [if_pos hE1]; exact hE2) rfl ⟨hx, FrI.rf⟩



set_option maxHeartbeats 4000000 in
theorem mX8_leaps {M : Mem} {ad : Int → Nat} {n : Int → Int} {F : Int → Int → Int} {g : Int → Int} {m : Int} {S : Int → Sg3} {len : Int} {c : Int → Int} {k x w : Int} (hx : XSt M ad (n, F, g) m S len c) (hv : Vld (n, F, g)) (hi : Inj ad) (q0 : R32 k) (q1 : R32 x) (q2 : R32 w) : Ct KX8_leaps [.ref (ad 0), vI k, vI x, vI w] M 6 36 (UX (e2 (eSet k) (e2 (eSet x) (eB (0 ≤ w ∧ w ≤ 3) xA))) (tolF (mtS n F g k x) w) (fun M2 => XSt M2 ad (n, F, g) m S len c ∧ FrI ad 0 112 M M2) M) := by
  refine Ct.of _ (by decide) rfl (Nat.le_of_ble_eq_true rfl) ?_
  obtain ⟨h00, hst, hhs, hbf, hpw, hbw, hmw, ⟨tn, tF, htr⟩, ⟨wn, wF, hwi⟩⟩ := id hx
  obtain ⟨hvs, hv0, hv1, hv2, hv3⟩ := id hv
  change StP _ ad 1 n F g at hst
  dsimp only at hvs hv0 hv1 hv2 hv3
  have hob1 := hst.1
  obtain ⟨hh_1, hh_2, hh_3, hh_4, hh_5, hho, -⟩ := id hhs
  have hob94 := hbf.1
  obtain ⟨⟨y1, y2, y3, y4, y5, y6, hob96⟩, -, -⟩ := id hpw
  obtain ⟨z1, z2, z3, hob99, -⟩ := id hbw
  obtain ⟨⟨u1, hob101⟩, -, -⟩ := id hmw
  have hob108 := htr.1
  have hob110 := hwi.1
  refine r_iload_n dX8_leaps_0 rfl ?_
  refine r_callS1 okX8_requireSet ⟨by decide, by decide⟩ ml_X8_63 (mX8_requireSet (by omega)) (Nat.le_of_ble_eq_true rfl) (Nat.le_of_ble_eq_true rfl) (Nat.le_of_ble_eq_true rfl) rfl dX8_leaps_1 (tUX (fun hne => by unfold e2; rw [if_neg hne])) (kx_U ?_)
  intro hE1
  have hk9 := eSet_ok hE1
  refine r_iload_n dX8_leaps_4 rfl ?_
  refine r_callS1 okX8_requireSet ⟨by decide, by decide⟩ ml_X8_63 (mX8_requireSet (by omega)) (Nat.le_of_ble_eq_true rfl) (Nat.le_of_ble_eq_true rfl) (Nat.le_of_ble_eq_true rfl) rfl dX8_leaps_5 (tUX (fun hne => by unfold e2; rw [if_pos hE1, if_neg hne])) (kx_U ?_)
  intro hE2
  have hx9 := eSet_ok hE2
  refine r_iload_n dX8_leaps_8 rfl ?_
  refine r_if_lt (tgt := 21) dX8_leaps_9 (by decide) (by omega) (fun h9 => ?_) (fun h9 => ?_)
  ·
    refine r_iconst dX8_leaps_21 ?_
    refine r_callS1 okX8_requireArgument ⟨by decide, by decide⟩ ml_X8_96 (mX8_requireArgument (b := 0 ≤ w ∧ w ≤ 3) (by first | (rw [if_pos (by omega)]; done) | (rw [if_neg (by omega)]; done))) (Nat.le_of_ble_eq_true rfl) (Nat.le_of_ble_eq_true rfl) (Nat.le_of_ble_eq_true rfl) rfl dX8_leaps_22 (tUX (fun hne => by unfold e2; rw [if_pos hE1, if_pos hE2])) (kx_U ?_)
    intro hE3
    have hq9 := eA_ok hE3
    refine r_aload_n dX8_leaps_25 rfl ?_
    refine r_getfield clX8 5 (by decide) fl_X8_47 (by first | assumption | exact up_s _ _ _ | exact (up_n _ (by assumption)).trans (by assumption) | exact (up_n _ (by assumption)).trans (up_s _ _ _) | exact (up_n _ (by assumption)).trans ((up_n _ (by assumption)).trans (by assumption))) rfl dX8_leaps_26 ?_
    refine r_aload_n dX8_leaps_29 rfl ?_
    refine r_getfield clX8 0 (by decide) fl_X8_10 (by first | assumption | exact up_s _ _ _ | exact (up_n _ (by assumption)).trans (by assumption) | exact (up_n _ (by assumption)).trans (up_s _ _ _) | exact (up_n _ (by assumption)).trans ((up_n _ (by assumption)).trans (by assumption))) rfl dX8_leaps_30 ?_
    refine r_iload_n dX8_leaps_33 rfl ?_
    refine r_iload_n dX8_leaps_34 rfl ?_
    refine r_callV3 okX4_run ⟨by decide, by decide⟩ ml_X8_201 (mX4_run hmw hst hi hk9 hx9 ⟨hv0, hv1⟩ ⟨hv2, hv3⟩ (hvs k hk9.1 hk9.2)) (by first | assumption | exact up_s _ _ _ | exact (up_n _ (by assumption)).trans (by assumption) | exact (up_n _ (by assumption)).trans (up_s _ _ _) | exact (up_n _ (by assumption)).trans ((up_n _ (by assumption)).trans (by assumption))) rfl rfl (Nat.le_of_ble_eq_true rfl) (Nat.le_of_ble_eq_true rfl) (Nat.le_of_ble_eq_true rfl) rfl dX8_leaps_35 (nx_tV) (kx_tV ?_)
    intro M2 hM2
    obtain ⟨hmd, hmw2, hfr2⟩ := hM2
    have hx2 := hx.goM hi hmw2 hfr2
    have h002 := hx2.1.1
    have hob2 := hmw2.1.choose_spec
    refine r_aload_n dX8_leaps_38 rfl ?_
    refine r_getfield clX8 5 (by decide) fl_X8_47 (by first | assumption | exact up_s _ _ _ | exact (up_n _ (by assumption)).trans (by assumption) | exact (up_n _ (by assumption)).trans (up_s _ _ _) | exact (up_n _ (by assumption)).trans ((up_n _ (by assumption)).trans (by assumption))) rfl dX8_leaps_39 ?_
    refine r_iload_n dX8_leaps_42 rfl ?_
    refine r_callV1 okX4_result ⟨by decide, by decide⟩ ml_X8_205 (mX4_result hmd (by omega)) (by first | assumption | exact up_s _ _ _ | exact (up_n _ (by assumption)).trans (by assumption) | exact (up_n _ (by assumption)).trans (up_s _ _ _) | exact (up_n _ (by assumption)).trans ((up_n _ (by assumption)).trans (by assumption))) rfl rfl (Nat.le_of_ble_eq_true rfl) (Nat.le_of_ble_eq_true rfl) (Nat.le_of_ble_eq_true rfl) rfl dX8_leaps_43 (nx_I) (kx_I ?_)
    refine e_ireturn dX8_leaps_46 rfl (Nat.le_of_ble_eq_true rfl) (Nat.le_of_ble_eq_true rfl) ?_
    exact okUX (by unfold e2; rw [if_pos hE1, if_pos hE2]; exact hE3) rfl hx2
  ·
    refine r_iload_n dX8_leaps_12 rfl ?_
    refine r_iconst dX8_leaps_13 ?_
    refine r_icmp_gt (tgt := 21) dX8_leaps_14 (by decide) (by omega) (by omega) (fun h14 => ?_) (fun h14 => ?_)
    ·
      refine r_iconst dX8_leaps_21 ?_
      refine r_callS1 okX8_requireArgument ⟨by decide, by decide⟩ ml_X8_96 (mX8_requireArgument (b := 0 ≤ w ∧ w ≤ 3) (by first | (rw [if_pos (by omega)]; done) | (rw [if_neg (by omega)]; done))) (Nat.le_of_ble_eq_true rfl) (Nat.le_of_ble_eq_true rfl) (Nat.le_of_ble_eq_true rfl) rfl dX8_leaps_22 (tUX (fun hne => by unfold e2; rw [if_pos hE1, if_pos hE2])) (kx_U ?_)
      intro hE3
      have hq9 := eA_ok hE3
      refine r_aload_n dX8_leaps_25 rfl ?_
      refine r_getfield clX8 5 (by decide) fl_X8_47 (by first | assumption | exact up_s _ _ _ | exact (up_n _ (by assumption)).trans (by assumption) | exact (up_n _ (by assumption)).trans (up_s _ _ _) | exact (up_n _ (by assumption)).trans ((up_n _ (by assumption)).trans (by assumption))) rfl dX8_leaps_26 ?_
      refine r_aload_n dX8_leaps_29 rfl ?_
      refine r_getfield clX8 0 (by decide) fl_X8_10 (by first | assumption | exact up_s _ _ _ | exact (up_n _ (by assumption)).trans (by assumption) | exact (up_n _ (by assumption)).trans (up_s _ _ _) | exact (up_n _ (by assumption)).trans ((up_n _ (by assumption)).trans (by assumption))) rfl dX8_leaps_30 ?_
      refine r_iload_n dX8_leaps_33 rfl ?_
      refine r_iload_n dX8_leaps_34 rfl ?_
      refine r_callV3 okX4_run ⟨by decide, by decide⟩ ml_X8_201 (mX4_run hmw hst hi hk9 hx9 ⟨hv0, hv1⟩ ⟨hv2, hv3⟩ (hvs k hk9.1 hk9.2)) (by first | assumption | exact up_s _ _ _ | exact (up_n _ (by assumption)).trans (by assumption) | exact (up_n _ (by assumption)).trans (up_s _ _ _) | exact (up_n _ (by assumption)).trans ((up_n _ (by assumption)).trans (by assumption))) rfl rfl (Nat.le_of_ble_eq_true rfl) (Nat.le_of_ble_eq_true rfl) (Nat.le_of_ble_eq_true rfl) rfl dX8_leaps_35 (nx_tV) (kx_tV ?_)
      intro M2 hM2
      obtain ⟨hmd, hmw2, hfr2⟩ := hM2
      have hx2 := hx.goM hi hmw2 hfr2
      have h002 := hx2.1.1
      have hob2 := hmw2.1.choose_spec
      refine r_aload_n dX8_leaps_38 rfl ?_
      refine r_getfield clX8 5 (by decide) fl_X8_47 (by first | assumption | exact up_s _ _ _ | exact (up_n _ (by assumption)).trans (by assumption) | exact (up_n _ (by assumption)).trans (up_s _ _ _) | exact (up_n _ (by assumption)).trans ((up_n _ (by assumption)).trans (by assumption))) rfl dX8_leaps_39 ?_
      refine r_iload_n dX8_leaps_42 rfl ?_
      refine r_callV1 okX4_result ⟨by decide, by decide⟩ ml_X8_205 (mX4_result hmd (by omega)) (by first | assumption | exact up_s _ _ _ | exact (up_n _ (by assumption)).trans (by assumption) | exact (up_n _ (by assumption)).trans (up_s _ _ _) | exact (up_n _ (by assumption)).trans ((up_n _ (by assumption)).trans (by assumption))) rfl rfl (Nat.le_of_ble_eq_true rfl) (Nat.le_of_ble_eq_true rfl) (Nat.le_of_ble_eq_true rfl) rfl dX8_leaps_43 (nx_I) (kx_I ?_)
      refine e_ireturn dX8_leaps_46 rfl (Nat.le_of_ble_eq_true rfl) (Nat.le_of_ble_eq_true rfl) ?_
      exact okUX (by unfold e2; rw [if_pos hE1, if_pos hE2]; exact hE3) rfl hx2
    ·
      refine r_iconst dX8_leaps_17 ?_
      refine r_goto (tgt := 22) dX8_leaps_18 (by decide) ?_
      refine r_callS1 okX8_requireArgument ⟨by decide, by decide⟩ ml_X8_96 (mX8_requireArgument (b := 0 ≤ w ∧ w ≤ 3) (by first | (rw [if_pos (by omega)]; done) | (rw [if_neg (by omega)]; done))) (Nat.le_of_ble_eq_true rfl) (Nat.le_of_ble_eq_true rfl) (Nat.le_of_ble_eq_true rfl) rfl dX8_leaps_22 (tUX (fun hne => by unfold e2; rw [if_pos hE1, if_pos hE2])) (kx_U ?_)
      intro hE3
      have hq9 := eA_ok hE3
      refine r_aload_n dX8_leaps_25 rfl ?_
      refine r_getfield clX8 5 (by decide) fl_X8_47 (by first | assumption | exact up_s _ _ _ | exact (up_n _ (by assumption)).trans (by assumption) | exact (up_n _ (by assumption)).trans (up_s _ _ _) | exact (up_n _ (by assumption)).trans ((up_n _ (by assumption)).trans (by assumption))) rfl dX8_leaps_26 ?_
      refine r_aload_n dX8_leaps_29 rfl ?_
      refine r_getfield clX8 0 (by decide) fl_X8_10 (by first | assumption | exact up_s _ _ _ | exact (up_n _ (by assumption)).trans (by assumption) | exact (up_n _ (by assumption)).trans (up_s _ _ _) | exact (up_n _ (by assumption)).trans ((up_n _ (by assumption)).trans (by assumption))) rfl dX8_leaps_30 ?_
      refine r_iload_n dX8_leaps_33 rfl ?_
      refine r_iload_n dX8_leaps_34 rfl ?_
      refine r_callV3 okX4_run ⟨by decide, by decide⟩ ml_X8_201 (mX4_run hmw hst hi hk9 hx9 ⟨hv0, hv1⟩ ⟨hv2, hv3⟩ (hvs k hk9.1 hk9.2)) (by first | assumption | exact up_s _ _ _ | exact (up_n _ (by assumption)).trans (by assumption) | exact (up_n _ (by assumption)).trans (up_s _ _ _) | exact (up_n _ (by assumption)).trans ((up_n _ (by assumption)).trans (by assumption))) rfl rfl (Nat.le_of_ble_eq_true rfl) (Nat.le_of_ble_eq_true rfl) (Nat.le_of_ble_eq_true rfl) rfl dX8_leaps_35 (nx_tV) (kx_tV ?_)
      intro M2 hM2
      obtain ⟨hmd, hmw2, hfr2⟩ := hM2
      have hx2 := hx.goM hi hmw2 hfr2
      have h002 := hx2.1.1
      have hob2 := hmw2.1.choose_spec
      refine r_aload_n dX8_leaps_38 rfl ?_
      refine r_getfield clX8 5 (by decide) fl_X8_47 (by first | assumption | exact up_s _ _ _ | exact (up_n _ (by assumption)).trans (by assumption) | exact (up_n _ (by assumption)).trans (up_s _ _ _) | exact (up_n _ (by assumption)).trans ((up_n _ (by assumption)).trans (by assumption))) rfl dX8_leaps_39 ?_
      refine r_iload_n dX8_leaps_42 rfl ?_
      refine r_callV1 okX4_result ⟨by decide, by decide⟩ ml_X8_205 (mX4_result hmd (by omega)) (by first | assumption | exact up_s _ _ _ | exact (up_n _ (by assumption)).trans (by assumption) | exact (up_n _ (by assumption)).trans (up_s _ _ _) | exact (up_n _ (by assumption)).trans ((up_n _ (by assumption)).trans (by assumption))) rfl rfl (Nat.le_of_ble_eq_true rfl) (Nat.le_of_ble_eq_true rfl) (Nat.le_of_ble_eq_true rfl) rfl dX8_leaps_43 (nx_I) (kx_I ?_)
      refine e_ireturn dX8_leaps_46 rfl (Nat.le_of_ble_eq_true rfl) (Nat.le_of_ble_eq_true rfl) ?_
      exact okUX (by unfold e2; rw [if_pos hE1, if_pos hE2]; exact hE3) rfl hx2

set_option maxHeartbeats 4000000 in
theorem mX8_sizeOf {M : Mem} {ad : Int → Nat} {n : Int → Int} {F : Int → Int → Int} {g : Int → Int} {m : Int} {S : Int → Sg3} {len : Int} {c : Int → Int} {o a N : Nat} {nn : Int} {FF : Int → Int} (hx : XSt M ad (n, F, g) m S len c) (hv : Vld (n, F, g)) (hi : Inj ad) (hm : Mb M o a N nn FF) : Ct KX8_sizeOf [.ref (ad 0), .ref o] M 0 0 (rtI (szF nn FF g) M) := by
  refine Ct.of _ (by decide) rfl (Nat.le_of_ble_eq_true rfl) ?_
  obtain ⟨h00, hst, hhs, hbf, hpw, hbw, hmw, ⟨tn, tF, htr⟩, ⟨wn, wF, hwi⟩⟩ := id hx
  obtain ⟨hvs, hv0, hv1, hv2, hv3⟩ := id hv
  change StP _ ad 1 n F g at hst
  dsimp only at hvs hv0 hv1 hv2 hv3
  have hob1 := hst.1
  obtain ⟨hh_1, hh_2, hh_3, hh_4, hh_5, hho, -⟩ := id hhs
  have hob94 := hbf.1
  obtain ⟨⟨y1, y2, y3, y4, y5, y6, hob96⟩, -, -⟩ := id hpw
  obtain ⟨z1, z2, z3, hob99, -⟩ := id hbw
  obtain ⟨⟨u1, hob101⟩, -, -⟩ := id hmw
  have hob108 := htr.1
  have hob110 := hwi.1
  have hmo := hm.1
  refine r_aload_n dX8_sizeOf_0 rfl ?_
  refine r_aload_n dX8_sizeOf_1 rfl ?_
  refine r_getfield clX8 0 (by decide) fl_X8_10 (by first | assumption | exact up_s _ _ _ | exact (up_n _ (by assumption)).trans (by assumption) | exact (up_n _ (by assumption)).trans (up_s _ _ _) | exact (up_n _ (by assumption)).trans ((up_n _ (by assumption)).trans (by assumption))) rfl dX8_sizeOf_2 ?_
  refine r_iconst dX8_sizeOf_5 ?_
  refine r_callV1 okX7_valueOf ⟨by decide, by decide⟩ ml_X8_129 (mX7_valueOf hst (by omega)) (by first | assumption | exact up_s _ _ _ | exact (up_n _ (by assumption)).trans (by assumption) | exact (up_n _ (by assumption)).trans (up_s _ _ _) | exact (up_n _ (by assumption)).trans ((up_n _ (by assumption)).trans (by assumption))) rfl rfl (Nat.le_of_ble_eq_true rfl) (Nat.le_of_ble_eq_true rfl) (Nat.le_of_ble_eq_true rfl) rfl dX8_sizeOf_6 (nx_I) (kx_I ?_)
  rw [show valG g 0 = g 0 from rfl]
  refine r_aload_n dX8_sizeOf_9 rfl ?_
  refine r_getfield clX8 0 (by decide) fl_X8_10 (by first | assumption | exact up_s _ _ _ | exact (up_n _ (by assumption)).trans (by assumption) | exact (up_n _ (by assumption)).trans (up_s _ _ _) | exact (up_n _ (by assumption)).trans ((up_n _ (by assumption)).trans (by assumption))) rfl dX8_sizeOf_10 ?_
  refine r_iconst dX8_sizeOf_13 ?_
  refine r_callV1 okX7_valueOf ⟨by decide, by decide⟩ ml_X8_129 (mX7_valueOf hst (by omega)) (by first | assumption | exact up_s _ _ _ | exact (up_n _ (by assumption)).trans (by assumption) | exact (up_n _ (by assumption)).trans (up_s _ _ _) | exact (up_n _ (by assumption)).trans ((up_n _ (by assumption)).trans (by assumption))) rfl rfl (Nat.le_of_ble_eq_true rfl) (Nat.le_of_ble_eq_true rfl) (Nat.le_of_ble_eq_true rfl) rfl dX8_sizeOf_14 (nx_I) (kx_I ?_)
  rw [show valG g 1 = g 1 from rfl]
  refine r_callV2 okX5_bytes ⟨by decide, by decide⟩ ml_X8_226 (mX5_bytes hm (by omega) (by omega)) (by first | assumption | exact up_s _ _ _ | exact (up_n _ (by assumption)).trans (by assumption) | exact (up_n _ (by assumption)).trans (up_s _ _ _) | exact (up_n _ (by assumption)).trans ((up_n _ (by assumption)).trans (by assumption))) rfl rfl (Nat.le_of_ble_eq_true rfl) (Nat.le_of_ble_eq_true rfl) (Nat.le_of_ble_eq_true rfl) rfl dX8_sizeOf_17 (nx_I) (kx_I ?_)
  refine e_ireturn dX8_sizeOf_20 rfl (Nat.le_of_ble_eq_true rfl) (Nat.le_of_ble_eq_true rfl) ?_
  exact okI rfl

set_option maxHeartbeats 4000000 in
theorem mX8_block {M : Mem} {ad : Int → Nat} {n : Int → Int} {F : Int → Int → Int} {g : Int → Int} {m : Int} {S : Int → Sg3} {len : Int} {c : Int → Int} {k b w : Int} (hx : XSt M ad (n, F, g) m S len c) (hv : Vld (n, F, g)) (hi : Inj ad) (q0 : R32 k) (q1 : R32 b) (q2 : R32 w) : Ct KX8_block [.ref (ad 0), vI k, vI b, vI w] M 6 36 (UX (e2 (eSet k) (eB (0 ≤ b ∧ (0 ≤ w ∧ w ≤ 5)) xA)) (blkV (n k) (F k) g b w) (fun M2 => XSt M2 ad (n, F, g) m S len c ∧ FrI ad 0 112 M M2) M) := by
  refine Ct.of _ (by decide) rfl (Nat.le_of_ble_eq_true rfl) ?_
  obtain ⟨h00, hst, hhs, hbf, hpw, hbw, hmw, ⟨tn, tF, htr⟩, ⟨wn, wF, hwi⟩⟩ := id hx
  obtain ⟨hvs, hv0, hv1, hv2, hv3⟩ := id hv
  change StP _ ad 1 n F g at hst
  dsimp only at hvs hv0 hv1 hv2 hv3
  have hob1 := hst.1
  obtain ⟨hh_1, hh_2, hh_3, hh_4, hh_5, hho, -⟩ := id hhs
  have hob94 := hbf.1
  obtain ⟨⟨y1, y2, y3, y4, y5, y6, hob96⟩, -, -⟩ := id hpw
  obtain ⟨z1, z2, z3, hob99, -⟩ := id hbw
  obtain ⟨⟨u1, hob101⟩, -, -⟩ := id hmw
  have hob108 := htr.1
  have hob110 := hwi.1
  refine r_iload_n dX8_block_0 rfl ?_
  refine r_callS1 okX8_requireSet ⟨by decide, by decide⟩ ml_X8_63 (mX8_requireSet (by omega)) (Nat.le_of_ble_eq_true rfl) (Nat.le_of_ble_eq_true rfl) (Nat.le_of_ble_eq_true rfl) rfl dX8_block_1 (tUX (fun hne => by unfold e2; rw [if_neg hne])) (kx_U ?_)
  intro hE1
  have hk9 := eSet_ok hE1
  refine r_iload_n dX8_block_4 rfl ?_
  refine r_if_lt (tgt := 21) dX8_block_5 (by decide) (by omega) (fun h5 => ?_) (fun h5 => ?_)
  ·
    refine r_iconst dX8_block_21 ?_
    refine r_callS1 okX8_requireArgument ⟨by decide, by decide⟩ ml_X8_96 (mX8_requireArgument (b := 0 ≤ b ∧ (0 ≤ w ∧ w ≤ 5)) (by first | (rw [if_pos (by omega)]; done) | (rw [if_neg (by omega)]; done))) (Nat.le_of_ble_eq_true rfl) (Nat.le_of_ble_eq_true rfl) (Nat.le_of_ble_eq_true rfl) rfl dX8_block_22 (tUX (fun hne => by unfold e2; rw [if_pos hE1])) (kx_U ?_)
    intro hE2
    have hq9 := eA_ok hE2
    refine r_iload_n dX8_block_25 rfl ?_
    refine r_aload_n dX8_block_26 rfl ?_
    refine r_getfield clX8 4 (by decide) fl_X8_40 (by first | assumption | exact up_s _ _ _ | exact (up_n _ (by assumption)).trans (by assumption) | exact (up_n _ (by assumption)).trans (up_s _ _ _) | exact (up_n _ (by assumption)).trans ((up_n _ (by assumption)).trans (by assumption))) rfl dX8_block_27 ?_
    refine r_aload_n dX8_block_30 rfl ?_
    refine r_getfield clX8 0 (by decide) fl_X8_10 (by first | assumption | exact up_s _ _ _ | exact (up_n _ (by assumption)).trans (by assumption) | exact (up_n _ (by assumption)).trans (up_s _ _ _) | exact (up_n _ (by assumption)).trans ((up_n _ (by assumption)).trans (by assumption))) rfl dX8_block_31 ?_
    refine r_iload_n dX8_block_34 rfl ?_
    refine r_callV2 okX0_cut ⟨by decide, by decide⟩ ml_X8_169 (mX0_cut hbw hst hi (by omega) (by omega) (by omega) ⟨hv0, hv1⟩ ⟨hv2, hv3⟩) (by first | assumption | exact up_s _ _ _ | exact (up_n _ (by assumption)).trans (by assumption) | exact (up_n _ (by assumption)).trans (up_s _ _ _) | exact (up_n _ (by assumption)).trans ((up_n _ (by assumption)).trans (by assumption))) rfl rfl (Nat.le_of_ble_eq_true rfl) (Nat.le_of_ble_eq_true rfl) (Nat.le_of_ble_eq_true rfl) rfl dX8_block_35 (nx_tI) (kx_tI ?_)
    intro M2 hM2
    have hx2 := hx.goB hi hM2.1.w hM2.2
    have h002 := hx2.1.1
    have hob2 := hM2.1.1
    have hst2 : StP M2 ad 1 n F g := hx2.1.2.1
    have hmk := hst.mb (k := k) (by omega) (by omega)
    have hmk2 := hst2.mb (k := k) (by omega) (by omega)
    have hmn := hmk.n0
    have hbs := BkS.of hmk.2.2.1 hmk.2.2.2.1 (F k) (g 0) (g 1)
    have hnb1 := hbs.2.2.1
    have hnb2 := hbs.2.2.2.1
    refine r_icmp_lt (tgt := 43) dX8_block_38 (by decide) (by omega) (by omega) (fun h38 => ?_) (fun h38 => ?_)
    ·
      refine r_iload_n dX8_block_43 rfl ?_
      by_cases hw44 : w < 0 ∨ 4 < w
      · refine r_tableOut (tgt := 125) dX8_block_44 (by omega) hw44 (by decide) ?_
        refine r_aload_n dX8_block_125 rfl ?_
        refine r_getfield clX8 4 (by decide) fl_X8_40 (by first | assumption | exact up_s _ _ _ | exact (up_n _ (by assumption)).trans (by assumption) | exact (up_n _ (by assumption)).trans (up_s _ _ _) | exact (up_n _ (by assumption)).trans ((up_n _ (by assumption)).trans (by assumption))) rfl dX8_block_126 ?_
        refine r_iload_n dX8_block_129 rfl ?_
        refine r_callV1 okX0_start ⟨by decide, by decide⟩ ml_X8_188 (mX0_start hM2.1 (by omega)) (by first | assumption | exact up_s _ _ _ | exact (up_n _ (by assumption)).trans (by assumption) | exact (up_n _ (by assumption)).trans (up_s _ _ _) | exact (up_n _ (by assumption)).trans ((up_n _ (by assumption)).trans (by assumption))) rfl rfl (Nat.le_of_ble_eq_true rfl) (Nat.le_of_ble_eq_true rfl) (Nat.le_of_ble_eq_true rfl) rfl dX8_block_130 (nx_I) (kx_I ?_)
        rw [staF_in (by omega) (by omega)]
        refine e_ireturn dX8_block_133 rfl (Nat.le_of_ble_eq_true rfl) (Nat.le_of_ble_eq_true rfl) ?_
        exact okUX (by unfold e2; rw [if_pos hE1]; exact hE2) (by unfold blkV; rw [if_neg (by omega), if_neg (by omega), if_neg (by omega), if_neg (by omega), if_neg (by omega), if_neg (by omega)]) hx2
      · rcases (show w = 0 ∨ w = 1 ∨ w = 2 ∨ w = 3 ∨ w = 4 by omega) with e44 | e44 | e44 | e44 | e44
        · refine r_tableIn (off := 36) (tgt := 80) dX8_block_44 (by omega) (by omega) (by omega) (by rw [e44]; rfl) (by decide) ?_
          refine r_aload_n dX8_block_80 rfl ?_
          refine r_getfield clX8 4 (by decide) fl_X8_40 (by first | assumption | exact up_s _ _ _ | exact (up_n _ (by assumption)).trans (by assumption) | exact (up_n _ (by assumption)).trans (up_s _ _ _) | exact (up_n _ (by assumption)).trans ((up_n _ (by assumption)).trans (by assumption))) rfl dX8_block_81 ?_
          refine r_iload_n dX8_block_84 rfl ?_
          refine r_callV1 okX0_base ⟨by decide, by decide⟩ ml_X8_173 (mX0_base hM2.1 hmk2 (by omega) (by omega)) (by first | assumption | exact up_s _ _ _ | exact (up_n _ (by assumption)).trans (by assumption) | exact (up_n _ (by assumption)).trans (up_s _ _ _) | exact (up_n _ (by assumption)).trans ((up_n _ (by assumption)).trans (by assumption))) rfl rfl (Nat.le_of_ble_eq_true rfl) (Nat.le_of_ble_eq_true rfl) (Nat.le_of_ble_eq_true rfl) rfl dX8_block_85 (nx_I) (kx_I ?_)
          refine e_ireturn dX8_block_88 rfl (Nat.le_of_ble_eq_true rfl) (Nat.le_of_ble_eq_true rfl) ?_
          exact okUX (by unfold e2; rw [if_pos hE1]; exact hE2) (by unfold blkV; rw [if_neg (by omega), if_pos (by omega)]) hx2
        · refine r_tableIn (off := 45) (tgt := 89) dX8_block_44 (by omega) (by omega) (by omega) (by rw [e44]; rfl) (by decide) ?_
          refine r_aload_n dX8_block_89 rfl ?_
          refine r_getfield clX8 4 (by decide) fl_X8_40 (by first | assumption | exact up_s _ _ _ | exact (up_n _ (by assumption)).trans (by assumption) | exact (up_n _ (by assumption)).trans (up_s _ _ _) | exact (up_n _ (by assumption)).trans ((up_n _ (by assumption)).trans (by assumption))) rfl dX8_block_90 ?_
          refine r_iload_n dX8_block_93 rfl ?_
          refine r_callV1 okX0_membersIn ⟨by decide, by decide⟩ ml_X8_176 (mX0_membersIn hM2.1 (by omega) (by omega)) (by first | assumption | exact up_s _ _ _ | exact (up_n _ (by assumption)).trans (by assumption) | exact (up_n _ (by assumption)).trans (up_s _ _ _) | exact (up_n _ (by assumption)).trans ((up_n _ (by assumption)).trans (by assumption))) rfl rfl (Nat.le_of_ble_eq_true rfl) (Nat.le_of_ble_eq_true rfl) (Nat.le_of_ble_eq_true rfl) rfl dX8_block_94 (nx_I) (kx_I ?_)
          refine e_ireturn dX8_block_97 rfl (Nat.le_of_ble_eq_true rfl) (Nat.le_of_ble_eq_true rfl) ?_
          exact okUX (by unfold e2; rw [if_pos hE1]; exact hE2) (by unfold blkV; rw [if_neg (by omega), if_neg (by omega), if_pos (by omega)]) hx2
        · refine r_tableIn (off := 54) (tgt := 98) dX8_block_44 (by omega) (by omega) (by omega) (by rw [e44]; rfl) (by decide) ?_
          refine r_aload_n dX8_block_98 rfl ?_
          refine r_getfield clX8 4 (by decide) fl_X8_40 (by first | assumption | exact up_s _ _ _ | exact (up_n _ (by assumption)).trans (by assumption) | exact (up_n _ (by assumption)).trans (up_s _ _ _) | exact (up_n _ (by assumption)).trans ((up_n _ (by assumption)).trans (by assumption))) rfl dX8_block_99 ?_
          refine r_iload_n dX8_block_102 rfl ?_
          refine r_callV1 okX0_greatestIn ⟨by decide, by decide⟩ ml_X8_179 (mX0_greatestIn hM2.1 hmk2 (by omega) (by omega)) (by first | assumption | exact up_s _ _ _ | exact (up_n _ (by assumption)).trans (by assumption) | exact (up_n _ (by assumption)).trans (up_s _ _ _) | exact (up_n _ (by assumption)).trans ((up_n _ (by assumption)).trans (by assumption))) rfl rfl (Nat.le_of_ble_eq_true rfl) (Nat.le_of_ble_eq_true rfl) (Nat.le_of_ble_eq_true rfl) rfl dX8_block_103 (nx_I) (kx_I ?_)
          refine e_ireturn dX8_block_106 rfl (Nat.le_of_ble_eq_true rfl) (Nat.le_of_ble_eq_true rfl) ?_
          exact okUX (by unfold e2; rw [if_pos hE1]; exact hE2) (by unfold blkV; rw [if_neg (by omega), if_neg (by omega), if_neg (by omega), if_pos (by omega)]) hx2
        · refine r_tableIn (off := 63) (tgt := 107) dX8_block_44 (by omega) (by omega) (by omega) (by rw [e44]; rfl) (by decide) ?_
          refine r_aload_n dX8_block_107 rfl ?_
          refine r_getfield clX8 4 (by decide) fl_X8_40 (by first | assumption | exact up_s _ _ _ | exact (up_n _ (by assumption)).trans (by assumption) | exact (up_n _ (by assumption)).trans (up_s _ _ _) | exact (up_n _ (by assumption)).trans ((up_n _ (by assumption)).trans (by assumption))) rfl dX8_block_108 ?_
          refine r_iload_n dX8_block_111 rfl ?_
          refine r_callV1 okX0_bytesOf ⟨by decide, by decide⟩ ml_X8_182 (mX0_bytesOf hM2.1 hmk2 (by omega) (by omega)) (by first | assumption | exact up_s _ _ _ | exact (up_n _ (by assumption)).trans (by assumption) | exact (up_n _ (by assumption)).trans (up_s _ _ _) | exact (up_n _ (by assumption)).trans ((up_n _ (by assumption)).trans (by assumption))) rfl rfl (Nat.le_of_ble_eq_true rfl) (Nat.le_of_ble_eq_true rfl) (Nat.le_of_ble_eq_true rfl) rfl dX8_block_112 (nx_I) (kx_I ?_)
          refine e_ireturn dX8_block_115 rfl (Nat.le_of_ble_eq_true rfl) (Nat.le_of_ble_eq_true rfl) ?_
          exact okUX (by unfold e2; rw [if_pos hE1]; exact hE2) (by unfold blkV; rw [if_neg (by omega), if_neg (by omega), if_neg (by omega), if_neg (by omega), if_pos (by omega)]) hx2
        · refine r_tableIn (off := 72) (tgt := 116) dX8_block_44 (by omega) (by omega) (by omega) (by rw [e44]; rfl) (by decide) ?_
          refine r_aload_n dX8_block_116 rfl ?_
          refine r_getfield clX8 4 (by decide) fl_X8_40 (by first | assumption | exact up_s _ _ _ | exact (up_n _ (by assumption)).trans (by assumption) | exact (up_n _ (by assumption)).trans (up_s _ _ _) | exact (up_n _ (by assumption)).trans ((up_n _ (by assumption)).trans (by assumption))) rfl dX8_block_117 ?_
          refine r_iload_n dX8_block_120 rfl ?_
          refine r_callV1 okX0_greatestGapIn ⟨by decide, by decide⟩ ml_X8_185 (mX0_greatestGapIn hM2.1 hmk2 (by omega) (by omega)) (by first | assumption | exact up_s _ _ _ | exact (up_n _ (by assumption)).trans (by assumption) | exact (up_n _ (by assumption)).trans (up_s _ _ _) | exact (up_n _ (by assumption)).trans ((up_n _ (by assumption)).trans (by assumption))) rfl rfl (Nat.le_of_ble_eq_true rfl) (Nat.le_of_ble_eq_true rfl) (Nat.le_of_ble_eq_true rfl) rfl dX8_block_121 (nx_I) (kx_I ?_)
          refine e_ireturn dX8_block_124 rfl (Nat.le_of_ble_eq_true rfl) (Nat.le_of_ble_eq_true rfl) ?_
          exact okUX (by unfold e2; rw [if_pos hE1]; exact hE2) (by unfold blkV; rw [if_neg (by omega), if_neg (by omega), if_neg (by omega), if_neg (by omega), if_neg (by omega), if_pos (by omega)]) hx2
    ·
      refine r_iconst dX8_block_41 ?_
      refine e_ireturn dX8_block_42 rfl (Nat.le_of_ble_eq_true rfl) (Nat.le_of_ble_eq_true rfl) ?_
      exact okUX (by unfold e2; rw [if_pos hE1]; exact hE2) (by unfold blkV; rw [if_pos (by omega)]) hx2
  ·
    refine r_iload_n dX8_block_8 rfl ?_
    refine r_if_lt (tgt := 21) dX8_block_9 (by decide) (by omega) (fun h9 => ?_) (fun h9 => ?_)
    ·
      refine r_iconst dX8_block_21 ?_
      refine r_callS1 okX8_requireArgument ⟨by decide, by decide⟩ ml_X8_96 (mX8_requireArgument (b := 0 ≤ b ∧ (0 ≤ w ∧ w ≤ 5)) (by first | (rw [if_pos (by omega)]; done) | (rw [if_neg (by omega)]; done))) (Nat.le_of_ble_eq_true rfl) (Nat.le_of_ble_eq_true rfl) (Nat.le_of_ble_eq_true rfl) rfl dX8_block_22 (tUX (fun hne => by unfold e2; rw [if_pos hE1])) (kx_U ?_)
      intro hE2
      have hq9 := eA_ok hE2
      refine r_iload_n dX8_block_25 rfl ?_
      refine r_aload_n dX8_block_26 rfl ?_
      refine r_getfield clX8 4 (by decide) fl_X8_40 (by first | assumption | exact up_s _ _ _ | exact (up_n _ (by assumption)).trans (by assumption) | exact (up_n _ (by assumption)).trans (up_s _ _ _) | exact (up_n _ (by assumption)).trans ((up_n _ (by assumption)).trans (by assumption))) rfl dX8_block_27 ?_
      refine r_aload_n dX8_block_30 rfl ?_
      refine r_getfield clX8 0 (by decide) fl_X8_10 (by first | assumption | exact up_s _ _ _ | exact (up_n _ (by assumption)).trans (by assumption) | exact (up_n _ (by assumption)).trans (up_s _ _ _) | exact (up_n _ (by assumption)).trans ((up_n _ (by assumption)).trans (by assumption))) rfl dX8_block_31 ?_
      refine r_iload_n dX8_block_34 rfl ?_
      refine r_callV2 okX0_cut ⟨by decide, by decide⟩ ml_X8_169 (mX0_cut hbw hst hi (by omega) (by omega) (by omega) ⟨hv0, hv1⟩ ⟨hv2, hv3⟩) (by first | assumption | exact up_s _ _ _ | exact (up_n _ (by assumption)).trans (by assumption) | exact (up_n _ (by assumption)).trans (up_s _ _ _) | exact (up_n _ (by assumption)).trans ((up_n _ (by assumption)).trans (by assumption))) rfl rfl (Nat.le_of_ble_eq_true rfl) (Nat.le_of_ble_eq_true rfl) (Nat.le_of_ble_eq_true rfl) rfl dX8_block_35 (nx_tI) (kx_tI ?_)
      intro M2 hM2
      have hx2 := hx.goB hi hM2.1.w hM2.2
      have h002 := hx2.1.1
      have hob2 := hM2.1.1
      have hst2 : StP M2 ad 1 n F g := hx2.1.2.1
      have hmk := hst.mb (k := k) (by omega) (by omega)
      have hmk2 := hst2.mb (k := k) (by omega) (by omega)
      have hmn := hmk.n0
      have hbs := BkS.of hmk.2.2.1 hmk.2.2.2.1 (F k) (g 0) (g 1)
      have hnb1 := hbs.2.2.1
      have hnb2 := hbs.2.2.2.1
      refine r_icmp_lt (tgt := 43) dX8_block_38 (by decide) (by omega) (by omega) (fun h38 => ?_) (fun h38 => ?_)
      ·
        refine r_iload_n dX8_block_43 rfl ?_
        by_cases hw44 : w < 0 ∨ 4 < w
        · refine r_tableOut (tgt := 125) dX8_block_44 (by omega) hw44 (by decide) ?_
          refine r_aload_n dX8_block_125 rfl ?_
          refine r_getfield clX8 4 (by decide) fl_X8_40 (by first | assumption | exact up_s _ _ _ | exact (up_n _ (by assumption)).trans (by assumption) | exact (up_n _ (by assumption)).trans (up_s _ _ _) | exact (up_n _ (by assumption)).trans ((up_n _ (by assumption)).trans (by assumption))) rfl dX8_block_126 ?_
          refine r_iload_n dX8_block_129 rfl ?_
          refine r_callV1 okX0_start ⟨by decide, by decide⟩ ml_X8_188 (mX0_start hM2.1 (by omega)) (by first | assumption | exact up_s _ _ _ | exact (up_n _ (by assumption)).trans (by assumption) | exact (up_n _ (by assumption)).trans (up_s _ _ _) | exact (up_n _ (by assumption)).trans ((up_n _ (by assumption)).trans (by assumption))) rfl rfl (Nat.le_of_ble_eq_true rfl) (Nat.le_of_ble_eq_true rfl) (Nat.le_of_ble_eq_true rfl) rfl dX8_block_130 (nx_I) (kx_I ?_)
          rw [staF_in (by omega) (by omega)]
          refine e_ireturn dX8_block_133 rfl (Nat.le_of_ble_eq_true rfl) (Nat.le_of_ble_eq_true rfl) ?_
          exact okUX (by unfold e2; rw [if_pos hE1]; exact hE2) (by unfold blkV; rw [if_neg (by omega), if_neg (by omega), if_neg (by omega), if_neg (by omega), if_neg (by omega), if_neg (by omega)]) hx2
        · rcases (show w = 0 ∨ w = 1 ∨ w = 2 ∨ w = 3 ∨ w = 4 by omega) with e44 | e44 | e44 | e44 | e44
          · refine r_tableIn (off := 36) (tgt := 80) dX8_block_44 (by omega) (by omega) (by omega) (by rw [e44]; rfl) (by decide) ?_
            refine r_aload_n dX8_block_80 rfl ?_
            refine r_getfield clX8 4 (by decide) fl_X8_40 (by first | assumption | exact up_s _ _ _ | exact (up_n _ (by assumption)).trans (by assumption) | exact (up_n _ (by assumption)).trans (up_s _ _ _) | exact (up_n _ (by assumption)).trans ((up_n _ (by assumption)).trans (by assumption))) rfl dX8_block_81 ?_
            refine r_iload_n dX8_block_84 rfl ?_
            refine r_callV1 okX0_base ⟨by decide, by decide⟩ ml_X8_173 (mX0_base hM2.1 hmk2 (by omega) (by omega)) (by first | assumption | exact up_s _ _ _ | exact (up_n _ (by assumption)).trans (by assumption) | exact (up_n _ (by assumption)).trans (up_s _ _ _) | exact (up_n _ (by assumption)).trans ((up_n _ (by assumption)).trans (by assumption))) rfl rfl (Nat.le_of_ble_eq_true rfl) (Nat.le_of_ble_eq_true rfl) (Nat.le_of_ble_eq_true rfl) rfl dX8_block_85 (nx_I) (kx_I ?_)
            refine e_ireturn dX8_block_88 rfl (Nat.le_of_ble_eq_true rfl) (Nat.le_of_ble_eq_true rfl) ?_
            exact okUX (by unfold e2; rw [if_pos hE1]; exact hE2) (by unfold blkV; rw [if_neg (by omega), if_pos (by omega)]) hx2
          · refine r_tableIn (off := 45) (tgt := 89) dX8_block_44 (by omega) (by omega) (by omega) (by rw [e44]; rfl) (by decide) ?_
            refine r_aload_n dX8_block_89 rfl ?_
            refine r_getfield clX8 4 (by decide) fl_X8_40 (by first | assumption | exact up_s _ _ _ | exact (up_n _ (by assumption)).trans (by assumption) | exact (up_n _ (by assumption)).trans (up_s _ _ _) | exact (up_n _ (by assumption)).trans ((up_n _ (by assumption)).trans (by assumption))) rfl dX8_block_90 ?_
            refine r_iload_n dX8_block_93 rfl ?_
            refine r_callV1 okX0_membersIn ⟨by decide, by decide⟩ ml_X8_176 (mX0_membersIn hM2.1 (by omega) (by omega)) (by first | assumption | exact up_s _ _ _ | exact (up_n _ (by assumption)).trans (by assumption) | exact (up_n _ (by assumption)).trans (up_s _ _ _) | exact (up_n _ (by assumption)).trans ((up_n _ (by assumption)).trans (by assumption))) rfl rfl (Nat.le_of_ble_eq_true rfl) (Nat.le_of_ble_eq_true rfl) (Nat.le_of_ble_eq_true rfl) rfl dX8_block_94 (nx_I) (kx_I ?_)
            refine e_ireturn dX8_block_97 rfl (Nat.le_of_ble_eq_true rfl) (Nat.le_of_ble_eq_true rfl) ?_
            exact okUX (by unfold e2; rw [if_pos hE1]; exact hE2) (by unfold blkV; rw [if_neg (by omega), if_neg (by omega), if_pos (by omega)]) hx2
          · refine r_tableIn (off := 54) (tgt := 98) dX8_block_44 (by omega) (by omega) (by omega) (by rw [e44]; rfl) (by decide) ?_
            refine r_aload_n dX8_block_98 rfl ?_
            refine r_getfield clX8 4 (by decide) fl_X8_40 (by first | assumption | exact up_s _ _ _ | exact (up_n _ (by assumption)).trans (by assumption) | exact (up_n _ (by assumption)).trans (up_s _ _ _) | exact (up_n _ (by assumption)).trans ((up_n _ (by assumption)).trans (by assumption))) rfl dX8_block_99 ?_
            refine r_iload_n dX8_block_102 rfl ?_
            refine r_callV1 okX0_greatestIn ⟨by decide, by decide⟩ ml_X8_179 (mX0_greatestIn hM2.1 hmk2 (by omega) (by omega)) (by first | assumption | exact up_s _ _ _ | exact (up_n _ (by assumption)).trans (by assumption) | exact (up_n _ (by assumption)).trans (up_s _ _ _) | exact (up_n _ (by assumption)).trans ((up_n _ (by assumption)).trans (by assumption))) rfl rfl (Nat.le_of_ble_eq_true rfl) (Nat.le_of_ble_eq_true rfl) (Nat.le_of_ble_eq_true rfl) rfl dX8_block_103 (nx_I) (kx_I ?_)
            refine e_ireturn dX8_block_106 rfl (Nat.le_of_ble_eq_true rfl) (Nat.le_of_ble_eq_true rfl) ?_
            exact okUX (by unfold e2; rw [if_pos hE1]; exact hE2) (by unfold blkV; rw [if_neg (by omega), if_neg (by omega), if_neg (by omega), if_pos (by omega)]) hx2
          · refine r_tableIn (off := 63) (tgt := 107) dX8_block_44 (by omega) (by omega) (by omega) (by rw [e44]; rfl) (by decide) ?_
            refine r_aload_n dX8_block_107 rfl ?_
            refine r_getfield clX8 4 (by decide) fl_X8_40 (by first | assumption | exact up_s _ _ _ | exact (up_n _ (by assumption)).trans (by assumption) | exact (up_n _ (by assumption)).trans (up_s _ _ _) | exact (up_n _ (by assumption)).trans ((up_n _ (by assumption)).trans (by assumption))) rfl dX8_block_108 ?_
            refine r_iload_n dX8_block_111 rfl ?_
            refine r_callV1 okX0_bytesOf ⟨by decide, by decide⟩ ml_X8_182 (mX0_bytesOf hM2.1 hmk2 (by omega) (by omega)) (by first | assumption | exact up_s _ _ _ | exact (up_n _ (by assumption)).trans (by assumption) | exact (up_n _ (by assumption)).trans (up_s _ _ _) | exact (up_n _ (by assumption)).trans ((up_n _ (by assumption)).trans (by assumption))) rfl rfl (Nat.le_of_ble_eq_true rfl) (Nat.le_of_ble_eq_true rfl) (Nat.le_of_ble_eq_true rfl) rfl dX8_block_112 (nx_I) (kx_I ?_)
            refine e_ireturn dX8_block_115 rfl (Nat.le_of_ble_eq_true rfl) (Nat.le_of_ble_eq_true rfl) ?_
            exact okUX (by unfold e2; rw [if_pos hE1]; exact hE2) (by unfold blkV; rw [if_neg (by omega), if_neg (by omega), if_neg (by omega), if_neg (by omega), if_pos (by omega)]) hx2
          · refine r_tableIn (off := 72) (tgt := 116) dX8_block_44 (by omega) (by omega) (by omega) (by rw [e44]; rfl) (by decide) ?_
            refine r_aload_n dX8_block_116 rfl ?_
            refine r_getfield clX8 4 (by decide) fl_X8_40 (by first | assumption | exact up_s _ _ _ | exact (up_n _ (by assumption)).trans (by assumption) | exact (up_n _ (by assumption)).trans (up_s _ _ _) | exact (up_n _ (by assumption)).trans ((up_n _ (by assumption)).trans (by assumption))) rfl dX8_block_117 ?_
            refine r_iload_n dX8_block_120 rfl ?_
            refine r_callV1 okX0_greatestGapIn ⟨by decide, by decide⟩ ml_X8_185 (mX0_greatestGapIn hM2.1 hmk2 (by omega) (by omega)) (by first | assumption | exact up_s _ _ _ | exact (up_n _ (by assumption)).trans (by assumption) | exact (up_n _ (by assumption)).trans (up_s _ _ _) | exact (up_n _ (by assumption)).trans ((up_n _ (by assumption)).trans (by assumption))) rfl rfl (Nat.le_of_ble_eq_true rfl) (Nat.le_of_ble_eq_true rfl) (Nat.le_of_ble_eq_true rfl) rfl dX8_block_121 (nx_I) (kx_I ?_)
            refine e_ireturn dX8_block_124 rfl (Nat.le_of_ble_eq_true rfl) (Nat.le_of_ble_eq_true rfl) ?_
            exact okUX (by unfold e2; rw [if_pos hE1]; exact hE2) (by unfold blkV; rw [if_neg (by omega), if_neg (by omega), if_neg (by omega), if_neg (by omega), if_neg (by omega), if_pos (by omega)]) hx2
      ·
        refine r_iconst dX8_block_41 ?_
        refine e_ireturn dX8_block_42 rfl (Nat.le_of_ble_eq_true rfl) (Nat.le_of_ble_eq_true rfl) ?_
        exact okUX (by unfold e2; rw [if_pos hE1]; exact hE2) (by unfold blkV; rw [if_pos (by omega)]) hx2
    ·
      refine r_iload_n dX8_block_12 rfl ?_
      refine r_iconst dX8_block_13 ?_
      refine r_icmp_gt (tgt := 21) dX8_block_14 (by decide) (by omega) (by omega) (fun h14 => ?_) (fun h14 => ?_)
      ·
        refine r_iconst dX8_block_21 ?_
        refine r_callS1 okX8_requireArgument ⟨by decide, by decide⟩ ml_X8_96 (mX8_requireArgument (b := 0 ≤ b ∧ (0 ≤ w ∧ w ≤ 5)) (by first | (rw [if_pos (by omega)]; done) | (rw [if_neg (by omega)]; done))) (Nat.le_of_ble_eq_true rfl) (Nat.le_of_ble_eq_true rfl) (Nat.le_of_ble_eq_true rfl) rfl dX8_block_22 (tUX (fun hne => by unfold e2; rw [if_pos hE1])) (kx_U ?_)
        intro hE2
        have hq9 := eA_ok hE2
        refine r_iload_n dX8_block_25 rfl ?_
        refine r_aload_n dX8_block_26 rfl ?_
        refine r_getfield clX8 4 (by decide) fl_X8_40 (by first | assumption | exact up_s _ _ _ | exact (up_n _ (by assumption)).trans (by assumption) | exact (up_n _ (by assumption)).trans (up_s _ _ _) | exact (up_n _ (by assumption)).trans ((up_n _ (by assumption)).trans (by assumption))) rfl dX8_block_27 ?_
        refine r_aload_n dX8_block_30 rfl ?_
        refine r_getfield clX8 0 (by decide) fl_X8_10 (by first | assumption | exact up_s _ _ _ | exact (up_n _ (by assumption)).trans (by assumption) | exact (up_n _ (by assumption)).trans (up_s _ _ _) | exact (up_n _ (by assumption)).trans ((up_n _ (by assumption)).trans (by assumption))) rfl dX8_block_31 ?_
        refine r_iload_n dX8_block_34 rfl ?_
        refine r_callV2 okX0_cut ⟨by decide, by decide⟩ ml_X8_169 (mX0_cut hbw hst hi (by omega) (by omega) (by omega) ⟨hv0, hv1⟩ ⟨hv2, hv3⟩) (by first | assumption | exact up_s _ _ _ | exact (up_n _ (by assumption)).trans (by assumption) | exact (up_n _ (by assumption)).trans (up_s _ _ _) | exact (up_n _ (by assumption)).trans ((up_n _ (by assumption)).trans (by assumption))) rfl rfl (Nat.le_of_ble_eq_true rfl) (Nat.le_of_ble_eq_true rfl) (Nat.le_of_ble_eq_true rfl) rfl dX8_block_35 (nx_tI) (kx_tI ?_)
        intro M2 hM2
        have hx2 := hx.goB hi hM2.1.w hM2.2
        have h002 := hx2.1.1
        have hob2 := hM2.1.1
        have hst2 : StP M2 ad 1 n F g := hx2.1.2.1
        have hmk := hst.mb (k := k) (by omega) (by omega)
        have hmk2 := hst2.mb (k := k) (by omega) (by omega)
        have hmn := hmk.n0
        have hbs := BkS.of hmk.2.2.1 hmk.2.2.2.1 (F k) (g 0) (g 1)
        have hnb1 := hbs.2.2.1
        have hnb2 := hbs.2.2.2.1
        refine r_icmp_lt (tgt := 43) dX8_block_38 (by decide) (by omega) (by omega) (fun h38 => ?_) (fun h38 => ?_)
        ·
          refine r_iload_n dX8_block_43 rfl ?_
          by_cases hw44 : w < 0 ∨ 4 < w
          · refine r_tableOut (tgt := 125) dX8_block_44 (by omega) hw44 (by decide) ?_
            refine r_aload_n dX8_block_125 rfl ?_
            refine r_getfield clX8 4 (by decide) fl_X8_40 (by first | assumption | exact up_s _ _ _ | exact (up_n _ (by assumption)).trans (by assumption) | exact (up_n _ (by assumption)).trans (up_s _ _ _) | exact (up_n _ (by assumption)).trans ((up_n _ (by assumption)).trans (by assumption))) rfl dX8_block_126 ?_
            refine r_iload_n dX8_block_129 rfl ?_
            refine r_callV1 okX0_start ⟨by decide, by decide⟩ ml_X8_188 (mX0_start hM2.1 (by omega)) (by first | assumption | exact up_s _ _ _ | exact (up_n _ (by assumption)).trans (by assumption) | exact (up_n _ (by assumption)).trans (up_s _ _ _) | exact (up_n _ (by assumption)).trans ((up_n _ (by assumption)).trans (by assumption))) rfl rfl (Nat.le_of_ble_eq_true rfl) (Nat.le_of_ble_eq_true rfl) (Nat.le_of_ble_eq_true rfl) rfl dX8_block_130 (nx_I) (kx_I ?_)
            rw [staF_in (by omega) (by omega)]
            refine e_ireturn dX8_block_133 rfl (Nat.le_of_ble_eq_true rfl) (Nat.le_of_ble_eq_true rfl) ?_
            exact okUX (by unfold e2; rw [if_pos hE1]; exact hE2) (by unfold blkV; rw [if_neg (by omega), if_neg (by omega), if_neg (by omega), if_neg (by omega), if_neg (by omega), if_neg (by omega)]) hx2
          · rcases (show w = 0 ∨ w = 1 ∨ w = 2 ∨ w = 3 ∨ w = 4 by omega) with e44 | e44 | e44 | e44 | e44
            · refine r_tableIn (off := 36) (tgt := 80) dX8_block_44 (by omega) (by omega) (by omega) (by rw [e44]; rfl) (by decide) ?_
              refine r_aload_n dX8_block_80 rfl ?_
              refine r_getfield clX8 4 (by decide) fl_X8_40 (by first | assumption | exact up_s _ _ _ | exact (up_n _ (by assumption)).trans (by assumption) | exact (up_n _ (by assumption)).trans (up_s _ _ _) | exact (up_n _ (by assumption)).trans ((up_n _ (by assumption)).trans (by assumption))) rfl dX8_block_81 ?_
              refine r_iload_n dX8_block_84 rfl ?_
              refine r_callV1 okX0_base ⟨by decide, by decide⟩ ml_X8_173 (mX0_base hM2.1 hmk2 (by omega) (by omega)) (by first | assumption | exact up_s _ _ _ | exact (up_n _ (by assumption)).trans (by assumption) | exact (up_n _ (by assumption)).trans (up_s _ _ _) | exact (up_n _ (by assumption)).trans ((up_n _ (by assumption)).trans (by assumption))) rfl rfl (Nat.le_of_ble_eq_true rfl) (Nat.le_of_ble_eq_true rfl) (Nat.le_of_ble_eq_true rfl) rfl dX8_block_85 (nx_I) (kx_I ?_)
              refine e_ireturn dX8_block_88 rfl (Nat.le_of_ble_eq_true rfl) (Nat.le_of_ble_eq_true rfl) ?_
              exact okUX (by unfold e2; rw [if_pos hE1]; exact hE2) (by unfold blkV; rw [if_neg (by omega), if_pos (by omega)]) hx2
            · refine r_tableIn (off := 45) (tgt := 89) dX8_block_44 (by omega) (by omega) (by omega) (by rw [e44]; rfl) (by decide) ?_
              refine r_aload_n dX8_block_89 rfl ?_
              refine r_getfield clX8 4 (by decide) fl_X8_40 (by first | assumption | exact up_s _ _ _ | exact (up_n _ (by assumption)).trans (by assumption) | exact (up_n _ (by assumption)).trans (up_s _ _ _) | exact (up_n _ (by assumption)).trans ((up_n _ (by assumption)).trans (by assumption))) rfl dX8_block_90 ?_
              refine r_iload_n dX8_block_93 rfl ?_
              refine r_callV1 okX0_membersIn ⟨by decide, by decide⟩ ml_X8_176 (mX0_membersIn hM2.1 (by omega) (by omega)) (by first | assumption | exact up_s _ _ _ | exact (up_n _ (by assumption)).trans (by assumption) | exact (up_n _ (by assumption)).trans (up_s _ _ _) | exact (up_n _ (by assumption)).trans ((up_n _ (by assumption)).trans (by assumption))) rfl rfl (Nat.le_of_ble_eq_true rfl) (Nat.le_of_ble_eq_true rfl) (Nat.le_of_ble_eq_true rfl) rfl dX8_block_94 (nx_I) (kx_I ?_)
              refine e_ireturn dX8_block_97 rfl (Nat.le_of_ble_eq_true rfl) (Nat.le_of_ble_eq_true rfl) ?_
              exact okUX (by unfold e2; rw [if_pos hE1]; exact hE2) (by unfold blkV; rw [if_neg (by omega), if_neg (by omega), if_pos (by omega)]) hx2
            · refine r_tableIn (off := 54) (tgt := 98) dX8_block_44 (by omega) (by omega) (by omega) (by rw [e44]; rfl) (by decide) ?_
              refine r_aload_n dX8_block_98 rfl ?_
              refine r_getfield clX8 4 (by decide) fl_X8_40 (by first | assumption | exact up_s _ _ _ | exact (up_n _ (by assumption)).trans (by assumption) | exact (up_n _ (by assumption)).trans (up_s _ _ _) | exact (up_n _ (by assumption)).trans ((up_n _ (by assumption)).trans (by assumption))) rfl dX8_block_99 ?_
              refine r_iload_n dX8_block_102 rfl ?_
              refine r_callV1 okX0_greatestIn ⟨by decide, by decide⟩ ml_X8_179 (mX0_greatestIn hM2.1 hmk2 (by omega) (by omega)) (by first | assumption | exact up_s _ _ _ | exact (up_n _ (by assumption)).trans (by assumption) | exact (up_n _ (by assumption)).trans (up_s _ _ _) | exact (up_n _ (by assumption)).trans ((up_n _ (by assumption)).trans (by assumption))) rfl rfl (Nat.le_of_ble_eq_true rfl) (Nat.le_of_ble_eq_true rfl) (Nat.le_of_ble_eq_true rfl) rfl dX8_block_103 (nx_I) (kx_I ?_)
              refine e_ireturn dX8_block_106 rfl (Nat.le_of_ble_eq_true rfl) (Nat.le_of_ble_eq_true rfl) ?_
              exact okUX (by unfold e2; rw [if_pos hE1]; exact hE2) (by unfold blkV; rw [if_neg (by omega), if_neg (by omega), if_neg (by omega), if_pos (by omega)]) hx2
            · refine r_tableIn (off := 63) (tgt := 107) dX8_block_44 (by omega) (by omega) (by omega) (by rw [e44]; rfl) (by decide) ?_
              refine r_aload_n dX8_block_107 rfl ?_
              refine r_getfield clX8 4 (by decide) fl_X8_40 (by first | assumption | exact up_s _ _ _ | exact (up_n _ (by assumption)).trans (by assumption) | exact (up_n _ (by assumption)).trans (up_s _ _ _) | exact (up_n _ (by assumption)).trans ((up_n _ (by assumption)).trans (by assumption))) rfl dX8_block_108 ?_
              refine r_iload_n dX8_block_111 rfl ?_
              refine r_callV1 okX0_bytesOf ⟨by decide, by decide⟩ ml_X8_182 (mX0_bytesOf hM2.1 hmk2 (by omega) (by omega)) (by first | assumption | exact up_s _ _ _ | exact (up_n _ (by assumption)).trans (by assumption) | exact (up_n _ (by assumption)).trans (up_s _ _ _) | exact (up_n _ (by assumption)).trans ((up_n _ (by assumption)).trans (by assumption))) rfl rfl (Nat.le_of_ble_eq_true rfl) (Nat.le_of_ble_eq_true rfl) (Nat.le_of_ble_eq_true rfl) rfl dX8_block_112 (nx_I) (kx_I ?_)
              refine e_ireturn dX8_block_115 rfl (Nat.le_of_ble_eq_true rfl) (Nat.le_of_ble_eq_true rfl) ?_
              exact okUX (by unfold e2; rw [if_pos hE1]; exact hE2) (by unfold blkV; rw [if_neg (by omega), if_neg (by omega), if_neg (by omega), if_neg (by omega), if_pos (by omega)]) hx2
            · refine r_tableIn (off := 72) (tgt := 116) dX8_block_44 (by omega) (by omega) (by omega) (by rw [e44]; rfl) (by decide) ?_
              refine r_aload_n dX8_block_116 rfl ?_
              refine r_getfield clX8 4 (by decide) fl_X8_40 (by first | assumption | exact up_s _ _ _ | exact (up_n _ (by assumption)).trans (by assumption) | exact (up_n _ (by assumption)).trans (up_s _ _ _) | exact (up_n _ (by assumption)).trans ((up_n _ (by assumption)).trans (by assumption))) rfl dX8_block_117 ?_
              refine r_iload_n dX8_block_120 rfl ?_
              refine r_callV1 okX0_greatestGapIn ⟨by decide, by decide⟩ ml_X8_185 (mX0_greatestGapIn hM2.1 hmk2 (by omega) (by omega)) (by first | assumption | exact up_s _ _ _ | exact (up_n _ (by assumption)).trans (by assumption) | exact (up_n _ (by assumption)).trans (up_s _ _ _) | exact (up_n _ (by assumption)).trans ((up_n _ (by assumption)).trans (by assumption))) rfl rfl (Nat.le_of_ble_eq_true rfl) (Nat.le_of_ble_eq_true rfl) (Nat.le_of_ble_eq_true rfl) rfl dX8_block_121 (nx_I) (kx_I ?_)
              refine e_ireturn dX8_block_124 rfl (Nat.le_of_ble_eq_true rfl) (Nat.le_of_ble_eq_true rfl) ?_
              exact okUX (by unfold e2; rw [if_pos hE1]; exact hE2) (by unfold blkV; rw [if_neg (by omega), if_neg (by omega), if_neg (by omega), if_neg (by omega), if_neg (by omega), if_pos (by omega)]) hx2
        ·
          refine r_iconst dX8_block_41 ?_
          refine e_ireturn dX8_block_42 rfl (Nat.le_of_ble_eq_true rfl) (Nat.le_of_ble_eq_true rfl) ?_
          exact okUX (by unfold e2; rw [if_pos hE1]; exact hE2) (by unfold blkV; rw [if_pos (by omega)]) hx2
      ·
        refine r_iconst dX8_block_17 ?_
        refine r_goto (tgt := 22) dX8_block_18 (by decide) ?_
        refine r_callS1 okX8_requireArgument ⟨by decide, by decide⟩ ml_X8_96 (mX8_requireArgument (b := 0 ≤ b ∧ (0 ≤ w ∧ w ≤ 5)) (by first | (rw [if_pos (by omega)]; done) | (rw [if_neg (by omega)]; done))) (Nat.le_of_ble_eq_true rfl) (Nat.le_of_ble_eq_true rfl) (Nat.le_of_ble_eq_true rfl) rfl dX8_block_22 (tUX (fun hne => by unfold e2; rw [if_pos hE1])) (kx_U ?_)
        intro hE2
        have hq9 := eA_ok hE2
        refine r_iload_n dX8_block_25 rfl ?_
        refine r_aload_n dX8_block_26 rfl ?_
        refine r_getfield clX8 4 (by decide) fl_X8_40 (by first | assumption | exact up_s _ _ _ | exact (up_n _ (by assumption)).trans (by assumption) | exact (up_n _ (by assumption)).trans (up_s _ _ _) | exact (up_n _ (by assumption)).trans ((up_n _ (by assumption)).trans (by assumption))) rfl dX8_block_27 ?_
        refine r_aload_n dX8_block_30 rfl ?_
        refine r_getfield clX8 0 (by decide) fl_X8_10 (by first | assumption | exact up_s _ _ _ | exact (up_n _ (by assumption)).trans (by assumption) | exact (up_n _ (by assumption)).trans (up_s _ _ _) | exact (up_n _ (by assumption)).trans ((up_n _ (by assumption)).trans (by assumption))) rfl dX8_block_31 ?_
        refine r_iload_n dX8_block_34 rfl ?_
        refine r_callV2 okX0_cut ⟨by decide, by decide⟩ ml_X8_169 (mX0_cut hbw hst hi (by omega) (by omega) (by omega) ⟨hv0, hv1⟩ ⟨hv2, hv3⟩) (by first | assumption | exact up_s _ _ _ | exact (up_n _ (by assumption)).trans (by assumption) | exact (up_n _ (by assumption)).trans (up_s _ _ _) | exact (up_n _ (by assumption)).trans ((up_n _ (by assumption)).trans (by assumption))) rfl rfl (Nat.le_of_ble_eq_true rfl) (Nat.le_of_ble_eq_true rfl) (Nat.le_of_ble_eq_true rfl) rfl dX8_block_35 (nx_tI) (kx_tI ?_)
        intro M2 hM2
        have hx2 := hx.goB hi hM2.1.w hM2.2
        have h002 := hx2.1.1
        have hob2 := hM2.1.1
        have hst2 : StP M2 ad 1 n F g := hx2.1.2.1
        have hmk := hst.mb (k := k) (by omega) (by omega)
        have hmk2 := hst2.mb (k := k) (by omega) (by omega)
        have hmn := hmk.n0
        have hbs := BkS.of hmk.2.2.1 hmk.2.2.2.1 (F k) (g 0) (g 1)
        have hnb1 := hbs.2.2.1
        have hnb2 := hbs.2.2.2.1
        refine r_icmp_lt (tgt := 43) dX8_block_38 (by decide) (by omega) (by omega) (fun h38 => ?_) (fun h38 => ?_)
        ·
          refine r_iload_n dX8_block_43 rfl ?_
          by_cases hw44 : w < 0 ∨ 4 < w
          · refine r_tableOut (tgt := 125) dX8_block_44 (by omega) hw44 (by decide) ?_
            refine r_aload_n dX8_block_125 rfl ?_
            refine r_getfield clX8 4 (by decide) fl_X8_40 (by first | assumption | exact up_s _ _ _ | exact (up_n _ (by assumption)).trans (by assumption) | exact (up_n _ (by assumption)).trans (up_s _ _ _) | exact (up_n _ (by assumption)).trans ((up_n _ (by assumption)).trans (by assumption))) rfl dX8_block_126 ?_
            refine r_iload_n dX8_block_129 rfl ?_
            refine r_callV1 okX0_start ⟨by decide, by decide⟩ ml_X8_188 (mX0_start hM2.1 (by omega)) (by first | assumption | exact up_s _ _ _ | exact (up_n _ (by assumption)).trans (by assumption) | exact (up_n _ (by assumption)).trans (up_s _ _ _) | exact (up_n _ (by assumption)).trans ((up_n _ (by assumption)).trans (by assumption))) rfl rfl (Nat.le_of_ble_eq_true rfl) (Nat.le_of_ble_eq_true rfl) (Nat.le_of_ble_eq_true rfl) rfl dX8_block_130 (nx_I) (kx_I ?_)
            rw [staF_in (by omega) (by omega)]
            refine e_ireturn dX8_block_133 rfl (Nat.le_of_ble_eq_true rfl) (Nat.le_of_ble_eq_true rfl) ?_
            exact okUX (by unfold e2; rw [if_pos hE1]; exact hE2) (by unfold blkV; rw [if_neg (by omega), if_neg (by omega), if_neg (by omega), if_neg (by omega), if_neg (by omega), if_neg (by omega)]) hx2
          · rcases (show w = 0 ∨ w = 1 ∨ w = 2 ∨ w = 3 ∨ w = 4 by omega) with e44 | e44 | e44 | e44 | e44
            · refine r_tableIn (off := 36) (tgt := 80) dX8_block_44 (by omega) (by omega) (by omega) (by rw [e44]; rfl) (by decide) ?_
              refine r_aload_n dX8_block_80 rfl ?_
              refine r_getfield clX8 4 (by decide) fl_X8_40 (by first | assumption | exact up_s _ _ _ | exact (up_n _ (by assumption)).trans (by assumption) | exact (up_n _ (by assumption)).trans (up_s _ _ _) | exact (up_n _ (by assumption)).trans ((up_n _ (by assumption)).trans (by assumption))) rfl dX8_block_81 ?_
              refine r_iload_n dX8_block_84 rfl ?_
              refine r_callV1 okX0_base ⟨by decide, by decide⟩ ml_X8_173 (mX0_base hM2.1 hmk2 (by omega) (by omega)) (by first | assumption | exact up_s _ _ _ | exact (up_n _ (by assumption)).trans (by assumption) | exact (up_n _ (by assumption)).trans (up_s _ _ _) | exact (up_n _ (by assumption)).trans ((up_n _ (by assumption)).trans (by assumption))) rfl rfl (Nat.le_of_ble_eq_true rfl) (Nat.le_of_ble_eq_true rfl) (Nat.le_of_ble_eq_true rfl) rfl dX8_block_85 (nx_I) (kx_I ?_)
              refine e_ireturn dX8_block_88 rfl (Nat.le_of_ble_eq_true rfl) (Nat.le_of_ble_eq_true rfl) ?_
              exact okUX (by unfold e2; rw [if_pos hE1]; exact hE2) (by unfold blkV; rw [if_neg (by omega), if_pos (by omega)]) hx2
            · refine r_tableIn (off := 45) (tgt := 89) dX8_block_44 (by omega) (by omega) (by omega) (by rw [e44]; rfl) (by decide) ?_
              refine r_aload_n dX8_block_89 rfl ?_
              refine r_getfield clX8 4 (by decide) fl_X8_40 (by first | assumption | exact up_s _ _ _ | exact (up_n _ (by assumption)).trans (by assumption) | exact (up_n _ (by assumption)).trans (up_s _ _ _) | exact (up_n _ (by assumption)).trans ((up_n _ (by assumption)).trans (by assumption))) rfl dX8_block_90 ?_
              refine r_iload_n dX8_block_93 rfl ?_
              refine r_callV1 okX0_membersIn ⟨by decide, by decide⟩ ml_X8_176 (mX0_membersIn hM2.1 (by omega) (by omega)) (by first | assumption | exact up_s _ _ _ | exact (up_n _ (by assumption)).trans (by assumption) | exact (up_n _ (by assumption)).trans (up_s _ _ _) | exact (up_n _ (by assumption)).trans ((up_n _ (by assumption)).trans (by assumption))) rfl rfl (Nat.le_of_ble_eq_true rfl) (Nat.le_of_ble_eq_true rfl) (Nat.le_of_ble_eq_true rfl) rfl dX8_block_94 (nx_I) (kx_I ?_)
              refine e_ireturn dX8_block_97 rfl (Nat.le_of_ble_eq_true rfl) (Nat.le_of_ble_eq_true rfl) ?_
              exact okUX (by unfold e2; rw [if_pos hE1]; exact hE2) (by unfold blkV; rw [if_neg (by omega), if_neg (by omega), if_pos (by omega)]) hx2
            · refine r_tableIn (off := 54) (tgt := 98) dX8_block_44 (by omega) (by omega) (by omega) (by rw [e44]; rfl) (by decide) ?_
              refine r_aload_n dX8_block_98 rfl ?_
              refine r_getfield clX8 4 (by decide) fl_X8_40 (by first | assumption | exact up_s _ _ _ | exact (up_n _ (by assumption)).trans (by assumption) | exact (up_n _ (by assumption)).trans (up_s _ _ _) | exact (up_n _ (by assumption)).trans ((up_n _ (by assumption)).trans (by assumption))) rfl dX8_block_99 ?_
              refine r_iload_n dX8_block_102 rfl ?_
              refine r_callV1 okX0_greatestIn ⟨by decide, by decide⟩ ml_X8_179 (mX0_greatestIn hM2.1 hmk2 (by omega) (by omega)) (by first | assumption | exact up_s _ _ _ | exact (up_n _ (by assumption)).trans (by assumption) | exact (up_n _ (by assumption)).trans (up_s _ _ _) | exact (up_n _ (by assumption)).trans ((up_n _ (by assumption)).trans (by assumption))) rfl rfl (Nat.le_of_ble_eq_true rfl) (Nat.le_of_ble_eq_true rfl) (Nat.le_of_ble_eq_true rfl) rfl dX8_block_103 (nx_I) (kx_I ?_)
              refine e_ireturn dX8_block_106 rfl (Nat.le_of_ble_eq_true rfl) (Nat.le_of_ble_eq_true rfl) ?_
              exact okUX (by unfold e2; rw [if_pos hE1]; exact hE2) (by unfold blkV; rw [if_neg (by omega), if_neg (by omega), if_neg (by omega), if_pos (by omega)]) hx2
            · refine r_tableIn (off := 63) (tgt := 107) dX8_block_44 (by omega) (by omega) (by omega) (by rw [e44]; rfl) (by decide) ?_
              refine r_aload_n dX8_block_107 rfl ?_
              refine r_getfield clX8 4 (by decide) fl_X8_40 (by first | assumption | exact up_s _ _ _ | exact (up_n _ (by assumption)).trans (by assumption) | exact (up_n _ (by assumption)).trans (up_s _ _ _) | exact (up_n _ (by assumption)).trans ((up_n _ (by assumption)).trans (by assumption))) rfl dX8_block_108 ?_
              refine r_iload_n dX8_block_111 rfl ?_
              refine r_callV1 okX0_bytesOf ⟨by decide, by decide⟩ ml_X8_182 (mX0_bytesOf hM2.1 hmk2 (by omega) (by omega)) (by first | assumption | exact up_s _ _ _ | exact (up_n _ (by assumption)).trans (by assumption) | exact (up_n _ (by assumption)).trans (up_s _ _ _) | exact (up_n _ (by assumption)).trans ((up_n _ (by assumption)).trans (by assumption))) rfl rfl (Nat.le_of_ble_eq_true rfl) (Nat.le_of_ble_eq_true rfl) (Nat.le_of_ble_eq_true rfl) rfl dX8_block_112 (nx_I) (kx_I ?_)
              refine e_ireturn dX8_block_115 rfl (Nat.le_of_ble_eq_true rfl) (Nat.le_of_ble_eq_true rfl) ?_
              exact okUX (by unfold e2; rw [if_pos hE1]; exact hE2) (by unfold blkV; rw [if_neg (by omega), if_neg (by omega), if_neg (by omega), if_neg (by omega), if_pos (by omega)]) hx2
            · refine r_tableIn (off := 72) (tgt := 116) dX8_block_44 (by omega) (by omega) (by omega) (by rw [e44]; rfl) (by decide) ?_
              refine r_aload_n dX8_block_116 rfl ?_
              refine r_getfield clX8 4 (by decide) fl_X8_40 (by first | assumption | exact up_s _ _ _ | exact (up_n _ (by assumption)).trans (by assumption) | exact (up_n _ (by assumption)).trans (up_s _ _ _) | exact (up_n _ (by assumption)).trans ((up_n _ (by assumption)).trans (by assumption))) rfl dX8_block_117 ?_
              refine r_iload_n dX8_block_120 rfl ?_
              refine r_callV1 okX0_greatestGapIn ⟨by decide, by decide⟩ ml_X8_185 (mX0_greatestGapIn hM2.1 hmk2 (by omega) (by omega)) (by first | assumption | exact up_s _ _ _ | exact (up_n _ (by assumption)).trans (by assumption) | exact (up_n _ (by assumption)).trans (up_s _ _ _) | exact (up_n _ (by assumption)).trans ((up_n _ (by assumption)).trans (by assumption))) rfl rfl (Nat.le_of_ble_eq_true rfl) (Nat.le_of_ble_eq_true rfl) (Nat.le_of_ble_eq_true rfl) rfl dX8_block_121 (nx_I) (kx_I ?_)
              refine e_ireturn dX8_block_124 rfl (Nat.le_of_ble_eq_true rfl) (Nat.le_of_ble_eq_true rfl) ?_
              exact okUX (by unfold e2; rw [if_pos hE1]; exact hE2) (by unfold blkV; rw [if_neg (by omega), if_neg (by omega), if_neg (by omega), if_neg (by omega), if_neg (by omega), if_pos (by omega)]) hx2
        ·
          refine r_iconst dX8_block_41 ?_
          refine e_ireturn dX8_block_42 rfl (Nat.le_of_ble_eq_true rfl) (Nat.le_of_ble_eq_true rfl) ?_
          exact okUX (by unfold e2; rw [if_pos hE1]; exact hE2) (by unfold blkV; rw [if_pos (by omega)]) hx2

set_option maxHeartbeats 4000000 in
theorem mX8_block_ok {M : Mem} {ad : Int → Nat} {n : Int → Int} {F : Int → Int → Int} {g : Int → Int} {m : Int} {S : Int → Sg3} {len : Int} {c : Int → Int} {k b w : Int} {bc bs : Nat} (hx : XSt M ad (n, F, g) m S len c) (hv : Vld (n, F, g)) (hi : Inj ad) (q0 : R32 k) (q1 : R32 b) (q2 : R32 w) (hk9 : 0 ≤ k ∧ k < 4) (hq9 : 0 ≤ b ∧ (0 ≤ w ∧ w ≤ 5)) : Ct KX8_block [.ref (ad 0), vI k, vI b, vI w] M bc bs (atI (blkV (n k) (F k) g b w) (fun M2 => XSt M2 ad (n, F, g) m S len c ∧ FrI ad 0 112 M M2)) := by
  refine Ct.of _ (by decide) rfl (Nat.le_of_ble_eq_true rfl) ?_
  obtain ⟨h00, hst, hhs, hbf, hpw, hbw, hmw, ⟨tn, tF, htr⟩, ⟨wn, wF, hwi⟩⟩ := id hx
  obtain ⟨hvs, hv0, hv1, hv2, hv3⟩ := id hv
  change StP _ ad 1 n F g at hst
  dsimp only at hvs hv0 hv1 hv2 hv3
  have hob1 := hst.1
  obtain ⟨hh_1, hh_2, hh_3, hh_4, hh_5, hho, -⟩ := id hhs
  have hob94 := hbf.1
  obtain ⟨⟨y1, y2, y3, y4, y5, y6, hob96⟩, -, -⟩ := id hpw
  obtain ⟨z1, z2, z3, hob99, -⟩ := id hbw
  obtain ⟨⟨u1, hob101⟩, -, -⟩ := id hmw
  have hob108 := htr.1
  have hob110 := hwi.1
  refine r_iload_n dX8_block_0 rfl ?_
  refine r_callS1 okX8_requireSet ⟨by decide, by decide⟩ ml_X8_63 (mX8_requireSet_ok (bc := 0) (bs := 0) (by omega)) (Nat.le_of_ble_eq_true rfl) (by omega) (by omega) rfl dX8_block_1 (nx_V) (kx_V ?_)
  refine r_iload_n dX8_block_4 rfl ?_
  refine r_if_lt (tgt := 21) dX8_block_5 (by decide) (by omega) (fun h5 => ?_) (fun h5 => ?_)
  ·
    refine r_iconst dX8_block_21 ?_
    refine r_callS1 okX8_requireArgument ⟨by decide, by decide⟩ ml_X8_96 (mX8_requireArgument_ok (bc := 0) (bs := 0) (by omega)) (Nat.le_of_ble_eq_true rfl) (by omega) (by omega) rfl dX8_block_22 (nx_V) (kx_V ?_)
    refine r_iload_n dX8_block_25 rfl ?_
    refine r_aload_n dX8_block_26 rfl ?_
    refine r_getfield clX8 4 (by decide) fl_X8_40 (by first | assumption | exact up_s _ _ _ | exact (up_n _ (by assumption)).trans (by assumption) | exact (up_n _ (by assumption)).trans (up_s _ _ _) | exact (up_n _ (by assumption)).trans ((up_n _ (by assumption)).trans (by assumption))) rfl dX8_block_27 ?_
    refine r_aload_n dX8_block_30 rfl ?_
    refine r_getfield clX8 0 (by decide) fl_X8_10 (by first | assumption | exact up_s _ _ _ | exact (up_n _ (by assumption)).trans (by assumption) | exact (up_n _ (by assumption)).trans (up_s _ _ _) | exact (up_n _ (by assumption)).trans ((up_n _ (by assumption)).trans (by assumption))) rfl dX8_block_31 ?_
    refine r_iload_n dX8_block_34 rfl ?_
    refine r_callV2 okX0_cut ⟨by decide, by decide⟩ ml_X8_169 (mX0_cut hbw hst hi (by omega) (by omega) (by omega) ⟨hv0, hv1⟩ ⟨hv2, hv3⟩) (by first | assumption | exact up_s _ _ _ | exact (up_n _ (by assumption)).trans (by assumption) | exact (up_n _ (by assumption)).trans (up_s _ _ _) | exact (up_n _ (by assumption)).trans ((up_n _ (by assumption)).trans (by assumption))) rfl rfl (Nat.le_of_ble_eq_true rfl) (by omega) (by omega) rfl dX8_block_35 (nx_tI) (kx_tI ?_)
    intro M2 hM2
    have hx2 := hx.goB hi hM2.1.w hM2.2
    have h002 := hx2.1.1
    have hob2 := hM2.1.1
    have hst2 : StP M2 ad 1 n F g := hx2.1.2.1
    have hmk := hst.mb (k := k) (by omega) (by omega)
    have hmk2 := hst2.mb (k := k) (by omega) (by omega)
    have hmn := hmk.n0
    have hbs := BkS.of hmk.2.2.1 hmk.2.2.2.1 (F k) (g 0) (g 1)
    have hnb1 := hbs.2.2.1
    have hnb2 := hbs.2.2.2.1
    refine r_icmp_lt (tgt := 43) dX8_block_38 (by decide) (by omega) (by omega) (fun h38 => ?_) (fun h38 => ?_)
    ·
      refine r_iload_n dX8_block_43 rfl ?_
      by_cases hw44 : w < 0 ∨ 4 < w
      · refine r_tableOut (tgt := 125) dX8_block_44 (by omega) hw44 (by decide) ?_
        refine r_aload_n dX8_block_125 rfl ?_
        refine r_getfield clX8 4 (by decide) fl_X8_40 (by first | assumption | exact up_s _ _ _ | exact (up_n _ (by assumption)).trans (by assumption) | exact (up_n _ (by assumption)).trans (up_s _ _ _) | exact (up_n _ (by assumption)).trans ((up_n _ (by assumption)).trans (by assumption))) rfl dX8_block_126 ?_
        refine r_iload_n dX8_block_129 rfl ?_
        refine r_callV1 okX0_start ⟨by decide, by decide⟩ ml_X8_188 (mX0_start hM2.1 (by omega)) (by first | assumption | exact up_s _ _ _ | exact (up_n _ (by assumption)).trans (by assumption) | exact (up_n _ (by assumption)).trans (up_s _ _ _) | exact (up_n _ (by assumption)).trans ((up_n _ (by assumption)).trans (by assumption))) rfl rfl (Nat.le_of_ble_eq_true rfl) (by omega) (by omega) rfl dX8_block_130 (nx_I) (kx_I ?_)
        rw [staF_in (by omega) (by omega)]
        refine e_ireturn dX8_block_133 rfl (by omega) (by omega) ?_
        exact oktI (by unfold blkV; rw [if_neg (by omega), if_neg (by omega), if_neg (by omega), if_neg (by omega), if_neg (by omega), if_neg (by omega)]) hx2
      · rcases (show w = 0 ∨ w = 1 ∨ w = 2 ∨ w = 3 ∨ w = 4 by omega) with e44 | e44 | e44 | e44 | e44
        · refine r_tableIn (off := 36) (tgt := 80) dX8_block_44 (by omega) (by omega) (by omega) (by rw [e44]; rfl) (by decide) ?_
          refine r_aload_n dX8_block_80 rfl ?_
          refine r_getfield clX8 4 (by decide) fl_X8_40 (by first | assumption | exact up_s _ _ _ | exact (up_n _ (by assumption)).trans (by assumption) | exact (up_n _ (by assumption)).trans (up_s _ _ _) | exact (up_n _ (by assumption)).trans ((up_n _ (by assumption)).trans (by assumption))) rfl dX8_block_81 ?_
          refine r_iload_n dX8_block_84 rfl ?_
          refine r_callV1 okX0_base ⟨by decide, by decide⟩ ml_X8_173 (mX0_base hM2.1 hmk2 (by omega) (by omega)) (by first | assumption | exact up_s _ _ _ | exact (up_n _ (by assumption)).trans (by assumption) | exact (up_n _ (by assumption)).trans (up_s _ _ _) | exact (up_n _ (by assumption)).trans ((up_n _ (by assumption)).trans (by assumption))) rfl rfl (Nat.le_of_ble_eq_true rfl) (by omega) (by omega) rfl dX8_block_85 (nx_I) (kx_I ?_)
          refine e_ireturn dX8_block_88 rfl (by omega) (by omega) ?_
          exact oktI (by unfold blkV; rw [if_neg (by omega), if_pos (by omega)]) hx2
        · refine r_tableIn (off := 45) (tgt := 89) dX8_block_44 (by omega) (by omega) (by omega) (by rw [e44]; rfl) (by decide) ?_
          refine r_aload_n dX8_block_89 rfl ?_
          refine r_getfield clX8 4 (by decide) fl_X8_40 (by first | assumption | exact up_s _ _ _ | exact (up_n _ (by assumption)).trans (by assumption) | exact (up_n _ (by assumption)).trans (up_s _ _ _) | exact (up_n _ (by assumption)).trans ((up_n _ (by assumption)).trans (by assumption))) rfl dX8_block_90 ?_
          refine r_iload_n dX8_block_93 rfl ?_
          refine r_callV1 okX0_membersIn ⟨by decide, by decide⟩ ml_X8_176 (mX0_membersIn hM2.1 (by omega) (by omega)) (by first | assumption | exact up_s _ _ _ | exact (up_n _ (by assumption)).trans (by assumption) | exact (up_n _ (by assumption)).trans (up_s _ _ _) | exact (up_n _ (by assumption)).trans ((up_n _ (by assumption)).trans (by assumption))) rfl rfl (Nat.le_of_ble_eq_true rfl) (by omega) (by omega) rfl dX8_block_94 (nx_I) (kx_I ?_)
          refine e_ireturn dX8_block_97 rfl (by omega) (by omega) ?_
          exact oktI (by unfold blkV; rw [if_neg (by omega), if_neg (by omega), if_pos (by omega)]) hx2
        · refine r_tableIn (off := 54) (tgt := 98) dX8_block_44 (by omega) (by omega) (by omega) (by rw [e44]; rfl) (by decide) ?_
          refine r_aload_n dX8_block_98 rfl ?_
          refine r_getfield clX8 4 (by decide) fl_X8_40 (by first | assumption | exact up_s _ _ _ | exact (up_n _ (by assumption)).trans (by assumption) | exact (up_n _ (by assumption)).trans (up_s _ _ _) | exact (up_n _ (by assumption)).trans ((up_n _ (by assumption)).trans (by assumption))) rfl dX8_block_99 ?_
          refine r_iload_n dX8_block_102 rfl ?_
          refine r_callV1 okX0_greatestIn ⟨by decide, by decide⟩ ml_X8_179 (mX0_greatestIn hM2.1 hmk2 (by omega) (by omega)) (by first | assumption | exact up_s _ _ _ | exact (up_n _ (by assumption)).trans (by assumption) | exact (up_n _ (by assumption)).trans (up_s _ _ _) | exact (up_n _ (by assumption)).trans ((up_n _ (by assumption)).trans (by assumption))) rfl rfl (Nat.le_of_ble_eq_true rfl) (by omega) (by omega) rfl dX8_block_103 (nx_I) (kx_I ?_)
          refine e_ireturn dX8_block_106 rfl (by omega) (by omega) ?_
          exact oktI (by unfold blkV; rw [if_neg (by omega), if_neg (by omega), if_neg (by omega), if_pos (by omega)]) hx2
        · refine r_tableIn (off := 63) (tgt := 107) dX8_block_44 (by omega) (by omega) (by omega) (by rw [e44]; rfl) (by decide) ?_
          refine r_aload_n dX8_block_107 rfl ?_
          refine r_getfield clX8 4 (by decide) fl_X8_40 (by first | assumption | exact up_s _ _ _ | exact (up_n _ (by assumption)).trans (by assumption) | exact (up_n _ (by assumption)).trans (up_s _ _ _) | exact (up_n _ (by assumption)).trans ((up_n _ (by assumption)).trans (by assumption))) rfl dX8_block_108 ?_
          refine r_iload_n dX8_block_111 rfl ?_
          refine r_callV1 okX0_bytesOf ⟨by decide, by decide⟩ ml_X8_182 (mX0_bytesOf hM2.1 hmk2 (by omega) (by omega)) (by first | assumption | exact up_s _ _ _ | exact (up_n _ (by assumption)).trans (by assumption) | exact (up_n _ (by assumption)).trans (up_s _ _ _) | exact (up_n _ (by assumption)).trans ((up_n _ (by assumption)).trans (by assumption))) rfl rfl (Nat.le_of_ble_eq_true rfl) (by omega) (by omega) rfl dX8_block_112 (nx_I) (kx_I ?_)
          refine e_ireturn dX8_block_115 rfl (by omega) (by omega) ?_
          exact oktI (by unfold blkV; rw [if_neg (by omega), if_neg (by omega), if_neg (by omega), if_neg (by omega), if_pos (by omega)]) hx2
        · refine r_tableIn (off := 72) (tgt := 116) dX8_block_44 (by omega) (by omega) (by omega) (by rw [e44]; rfl) (by decide) ?_
          refine r_aload_n dX8_block_116 rfl ?_
          refine r_getfield clX8 4 (by decide) fl_X8_40 (by first | assumption | exact up_s _ _ _ | exact (up_n _ (by assumption)).trans (by assumption) | exact (up_n _ (by assumption)).trans (up_s _ _ _) | exact (up_n _ (by assumption)).trans ((up_n _ (by assumption)).trans (by assumption))) rfl dX8_block_117 ?_
          refine r_iload_n dX8_block_120 rfl ?_
          refine r_callV1 okX0_greatestGapIn ⟨by decide, by decide⟩ ml_X8_185 (mX0_greatestGapIn hM2.1 hmk2 (by omega) (by omega)) (by first | assumption | exact up_s _ _ _ | exact (up_n _ (by assumption)).trans (by assumption) | exact (up_n _ (by assumption)).trans (up_s _ _ _) | exact (up_n _ (by assumption)).trans ((up_n _ (by assumption)).trans (by assumption))) rfl rfl (Nat.le_of_ble_eq_true rfl) (by omega) (by omega) rfl dX8_block_121 (nx_I) (kx_I ?_)
          refine e_ireturn dX8_block_124 rfl (by omega) (by omega) ?_
          exact oktI (by unfold blkV; rw [if_neg (by omega), if_neg (by omega), if_neg (by omega), if_neg (by omega), if_neg (by omega), if_pos (by omega)]) hx2
    ·
      refine r_iconst dX8_block_41 ?_
      refine e_ireturn dX8_block_42 rfl (by omega) (by omega) ?_
      exact oktI (by unfold blkV; rw [if_pos (by omega)]) hx2
  ·
    refine r_iload_n dX8_block_8 rfl ?_
    refine r_if_lt (tgt := 21) dX8_block_9 (by decide) (by omega) (fun h9 => ?_) (fun h9 => ?_)
    ·
      refine r_iconst dX8_block_21 ?_
      refine r_callS1 okX8_requireArgument ⟨by decide, by decide⟩ ml_X8_96 (mX8_requireArgument_ok (bc := 0) (bs := 0) (by omega)) (Nat.le_of_ble_eq_true rfl) (by omega) (by omega) rfl dX8_block_22 (nx_V) (kx_V ?_)
      refine r_iload_n dX8_block_25 rfl ?_
      refine r_aload_n dX8_block_26 rfl ?_
      refine r_getfield clX8 4 (by decide) fl_X8_40 (by first | assumption | exact up_s _ _ _ | exact (up_n _ (by assumption)).trans (by assumption) | exact (up_n _ (by assumption)).trans (up_s _ _ _) | exact (up_n _ (by assumption)).trans ((up_n _ (by assumption)).trans (by assumption))) rfl dX8_block_27 ?_
      refine r_aload_n dX8_block_30 rfl ?_
      refine r_getfield clX8 0 (by decide) fl_X8_10 (by first | assumption | exact up_s _ _ _ | exact (up_n _ (by assumption)).trans (by assumption) | exact (up_n _ (by assumption)).trans (up_s _ _ _) | exact (up_n _ (by assumption)).trans ((up_n _ (by assumption)).trans (by assumption))) rfl dX8_block_31 ?_
      refine r_iload_n dX8_block_34 rfl ?_
      refine r_callV2 okX0_cut ⟨by decide, by decide⟩ ml_X8_169 (mX0_cut hbw hst hi (by omega) (by omega) (by omega) ⟨hv0, hv1⟩ ⟨hv2, hv3⟩) (by first | assumption | exact up_s _ _ _ | exact (up_n _ (by assumption)).trans (by assumption) | exact (up_n _ (by assumption)).trans (up_s _ _ _) | exact (up_n _ (by assumption)).trans ((up_n _ (by assumption)).trans (by assumption))) rfl rfl (Nat.le_of_ble_eq_true rfl) (by omega) (by omega) rfl dX8_block_35 (nx_tI) (kx_tI ?_)
      intro M2 hM2
      have hx2 := hx.goB hi hM2.1.w hM2.2
      have h002 := hx2.1.1
      have hob2 := hM2.1.1
      have hst2 : StP M2 ad 1 n F g := hx2.1.2.1
      have hmk := hst.mb (k := k) (by omega) (by omega)
      have hmk2 := hst2.mb (k := k) (by omega) (by omega)
      have hmn := hmk.n0
      have hbs := BkS.of hmk.2.2.1 hmk.2.2.2.1 (F k) (g 0) (g 1)
      have hnb1 := hbs.2.2.1
      have hnb2 := hbs.2.2.2.1
      refine r_icmp_lt (tgt := 43) dX8_block_38 (by decide) (by omega) (by omega) (fun h38 => ?_) (fun h38 => ?_)
      ·
        refine r_iload_n dX8_block_43 rfl ?_
        by_cases hw44 : w < 0 ∨ 4 < w
        · refine r_tableOut (tgt := 125) dX8_block_44 (by omega) hw44 (by decide) ?_
          refine r_aload_n dX8_block_125 rfl ?_
          refine r_getfield clX8 4 (by decide) fl_X8_40 (by first | assumption | exact up_s _ _ _ | exact (up_n _ (by assumption)).trans (by assumption) | exact (up_n _ (by assumption)).trans (up_s _ _ _) | exact (up_n _ (by assumption)).trans ((up_n _ (by assumption)).trans (by assumption))) rfl dX8_block_126 ?_
          refine r_iload_n dX8_block_129 rfl ?_
          refine r_callV1 okX0_start ⟨by decide, by decide⟩ ml_X8_188 (mX0_start hM2.1 (by omega)) (by first | assumption | exact up_s _ _ _ | exact (up_n _ (by assumption)).trans (by assumption) | exact (up_n _ (by assumption)).trans (up_s _ _ _) | exact (up_n _ (by assumption)).trans ((up_n _ (by assumption)).trans (by assumption))) rfl rfl (Nat.le_of_ble_eq_true rfl) (by omega) (by omega) rfl dX8_block_130 (nx_I) (kx_I ?_)
          rw [staF_in (by omega) (by omega)]
          refine e_ireturn dX8_block_133 rfl (by omega) (by omega) ?_
          exact oktI (by unfold blkV; rw [if_neg (by omega), if_neg (by omega), if_neg (by omega), if_neg (by omega), if_neg (by omega), if_neg (by omega)]) hx2
        · rcases (show w = 0 ∨ w = 1 ∨ w = 2 ∨ w = 3 ∨ w = 4 by omega) with e44 | e44 | e44 | e44 | e44
          · refine r_tableIn (off := 36) (tgt := 80) dX8_block_44 (by omega) (by omega) (by omega) (by rw [e44]; rfl) (by decide) ?_
            refine r_aload_n dX8_block_80 rfl ?_
            refine r_getfield clX8 4 (by decide) fl_X8_40 (by first | assumption | exact up_s _ _ _ | exact (up_n _ (by assumption)).trans (by assumption) | exact (up_n _ (by assumption)).trans (up_s _ _ _) | exact (up_n _ (by assumption)).trans ((up_n _ (by assumption)).trans (by assumption))) rfl dX8_block_81 ?_
            refine r_iload_n dX8_block_84 rfl ?_
            refine r_callV1 okX0_base ⟨by decide, by decide⟩ ml_X8_173 (mX0_base hM2.1 hmk2 (by omega) (by omega)) (by first | assumption | exact up_s _ _ _ | exact (up_n _ (by assumption)).trans (by assumption) | exact (up_n _ (by assumption)).trans (up_s _ _ _) | exact (up_n _ (by assumption)).trans ((up_n _ (by assumption)).trans (by assumption))) rfl rfl (Nat.le_of_ble_eq_true rfl) (by omega) (by omega) rfl dX8_block_85 (nx_I) (kx_I ?_)
            refine e_ireturn dX8_block_88 rfl (by omega) (by omega) ?_
            exact oktI (by unfold blkV; rw [if_neg (by omega), if_pos (by omega)]) hx2
          · refine r_tableIn (off := 45) (tgt := 89) dX8_block_44 (by omega) (by omega) (by omega) (by rw [e44]; rfl) (by decide) ?_
            refine r_aload_n dX8_block_89 rfl ?_
            refine r_getfield clX8 4 (by decide) fl_X8_40 (by first | assumption | exact up_s _ _ _ | exact (up_n _ (by assumption)).trans (by assumption) | exact (up_n _ (by assumption)).trans (up_s _ _ _) | exact (up_n _ (by assumption)).trans ((up_n _ (by assumption)).trans (by assumption))) rfl dX8_block_90 ?_
            refine r_iload_n dX8_block_93 rfl ?_
            refine r_callV1 okX0_membersIn ⟨by decide, by decide⟩ ml_X8_176 (mX0_membersIn hM2.1 (by omega) (by omega)) (by first | assumption | exact up_s _ _ _ | exact (up_n _ (by assumption)).trans (by assumption) | exact (up_n _ (by assumption)).trans (up_s _ _ _) | exact (up_n _ (by assumption)).trans ((up_n _ (by assumption)).trans (by assumption))) rfl rfl (Nat.le_of_ble_eq_true rfl) (by omega) (by omega) rfl dX8_block_94 (nx_I) (kx_I ?_)
            refine e_ireturn dX8_block_97 rfl (by omega) (by omega) ?_
            exact oktI (by unfold blkV; rw [if_neg (by omega), if_neg (by omega), if_pos (by omega)]) hx2
          · refine r_tableIn (off := 54) (tgt := 98) dX8_block_44 (by omega) (by omega) (by omega) (by rw [e44]; rfl) (by decide) ?_
            refine r_aload_n dX8_block_98 rfl ?_
            refine r_getfield clX8 4 (by decide) fl_X8_40 (by first | assumption | exact up_s _ _ _ | exact (up_n _ (by assumption)).trans (by assumption) | exact (up_n _ (by assumption)).trans (up_s _ _ _) | exact (up_n _ (by assumption)).trans ((up_n _ (by assumption)).trans (by assumption))) rfl dX8_block_99 ?_
            refine r_iload_n dX8_block_102 rfl ?_
            refine r_callV1 okX0_greatestIn ⟨by decide, by decide⟩ ml_X8_179 (mX0_greatestIn hM2.1 hmk2 (by omega) (by omega)) (by first | assumption | exact up_s _ _ _ | exact (up_n _ (by assumption)).trans (by assumption) | exact (up_n _ (by assumption)).trans (up_s _ _ _) | exact (up_n _ (by assumption)).trans ((up_n _ (by assumption)).trans (by assumption))) rfl rfl (Nat.le_of_ble_eq_true rfl) (by omega) (by omega) rfl dX8_block_103 (nx_I) (kx_I ?_)
            refine e_ireturn dX8_block_106 rfl (by omega) (by omega) ?_
            exact oktI (by unfold blkV; rw [if_neg (by omega), if_neg (by omega), if_neg (by omega), if_pos (by omega)]) hx2
          · refine r_tableIn (off := 63) (tgt := 107) dX8_block_44 (by omega) (by omega) (by omega) (by rw [e44]; rfl) (by decide) ?_
            refine r_aload_n dX8_block_107 rfl ?_
            refine r_getfield clX8 4 (by decide) fl_X8_40 (by first | assumption | exact up_s _ _ _ | exact (up_n _ (by assumption)).trans (by assumption) | exact (up_n _ (by assumption)).trans (up_s _ _ _) | exact (up_n _ (by assumption)).trans ((up_n _ (by assumption)).trans (by assumption))) rfl dX8_block_108 ?_
            refine r_iload_n dX8_block_111 rfl ?_
            refine r_callV1 okX0_bytesOf ⟨by decide, by decide⟩ ml_X8_182 (mX0_bytesOf hM2.1 hmk2 (by omega) (by omega)) (by first | assumption | exact up_s _ _ _ | exact (up_n _ (by assumption)).trans (by assumption) | exact (up_n _ (by assumption)).trans (up_s _ _ _) | exact (up_n _ (by assumption)).trans ((up_n _ (by assumption)).trans (by assumption))) rfl rfl (Nat.le_of_ble_eq_true rfl) (by omega) (by omega) rfl dX8_block_112 (nx_I) (kx_I ?_)
            refine e_ireturn dX8_block_115 rfl (by omega) (by omega) ?_
            exact oktI (by unfold blkV; rw [if_neg (by omega), if_neg (by omega), if_neg (by omega), if_neg (by omega), if_pos (by omega)]) hx2
          · refine r_tableIn (off := 72) (tgt := 116) dX8_block_44 (by omega) (by omega) (by omega) (by rw [e44]; rfl) (by decide) ?_
            refine r_aload_n dX8_block_116 rfl ?_
            refine r_getfield clX8 4 (by decide) fl_X8_40 (by first | assumption | exact up_s _ _ _ | exact (up_n _ (by assumption)).trans (by assumption) | exact (up_n _ (by assumption)).trans (up_s _ _ _) | exact (up_n _ (by assumption)).trans ((up_n _ (by assumption)).trans (by assumption))) rfl dX8_block_117 ?_
            refine r_iload_n dX8_block_120 rfl ?_
            refine r_callV1 okX0_greatestGapIn ⟨by decide, by decide⟩ ml_X8_185 (mX0_greatestGapIn hM2.1 hmk2 (by omega) (by omega)) (by first | assumption | exact up_s _ _ _ | exact (up_n _ (by assumption)).trans (by assumption) | exact (up_n _ (by assumption)).trans (up_s _ _ _) | exact (up_n _ (by assumption)).trans ((up_n _ (by assumption)).trans (by assumption))) rfl rfl (Nat.le_of_ble_eq_true rfl) (by omega) (by omega) rfl dX8_block_121 (nx_I) (kx_I ?_)
            refine e_ireturn dX8_block_124 rfl (by omega) (by omega) ?_
            exact oktI (by unfold blkV; rw [if_neg (by omega), if_neg (by omega), if_neg (by omega), if_neg (by omega), if_neg (by omega), if_pos (by omega)]) hx2
      ·
        refine r_iconst dX8_block_41 ?_
        refine e_ireturn dX8_block_42 rfl (by omega) (by omega) ?_
        exact oktI (by unfold blkV; rw [if_pos (by omega)]) hx2
    ·
      refine r_iload_n dX8_block_12 rfl ?_
      refine r_iconst dX8_block_13 ?_
      refine r_icmp_gt (tgt := 21) dX8_block_14 (by decide) (by omega) (by omega) (fun h14 => ?_) (fun h14 => ?_)
      ·
        refine r_iconst dX8_block_21 ?_
        refine r_callS1 okX8_requireArgument ⟨by decide, by decide⟩ ml_X8_96 (mX8_requireArgument_ok (bc := 0) (bs := 0) (by omega)) (Nat.le_of_ble_eq_true rfl) (by omega) (by omega) rfl dX8_block_22 (nx_V) (kx_V ?_)
        refine r_iload_n dX8_block_25 rfl ?_
        refine r_aload_n dX8_block_26 rfl ?_
        refine r_getfield clX8 4 (by decide) fl_X8_40 (by first | assumption | exact up_s _ _ _ | exact (up_n _ (by assumption)).trans (by assumption) | exact (up_n _ (by assumption)).trans (up_s _ _ _) | exact (up_n _ (by assumption)).trans ((up_n _ (by assumption)).trans (by assumption))) rfl dX8_block_27 ?_
        refine r_aload_n dX8_block_30 rfl ?_
        refine r_getfield clX8 0 (by decide) fl_X8_10 (by first | assumption | exact up_s _ _ _ | exact (up_n _ (by assumption)).trans (by assumption) | exact (up_n _ (by assumption)).trans (up_s _ _ _) | exact (up_n _ (by assumption)).trans ((up_n _ (by assumption)).trans (by assumption))) rfl dX8_block_31 ?_
        refine r_iload_n dX8_block_34 rfl ?_
        refine r_callV2 okX0_cut ⟨by decide, by decide⟩ ml_X8_169 (mX0_cut hbw hst hi (by omega) (by omega) (by omega) ⟨hv0, hv1⟩ ⟨hv2, hv3⟩) (by first | assumption | exact up_s _ _ _ | exact (up_n _ (by assumption)).trans (by assumption) | exact (up_n _ (by assumption)).trans (up_s _ _ _) | exact (up_n _ (by assumption)).trans ((up_n _ (by assumption)).trans (by assumption))) rfl rfl (Nat.le_of_ble_eq_true rfl) (by omega) (by omega) rfl dX8_block_35 (nx_tI) (kx_tI ?_)
        intro M2 hM2
        have hx2 := hx.goB hi hM2.1.w hM2.2
        have h002 := hx2.1.1
        have hob2 := hM2.1.1
        have hst2 : StP M2 ad 1 n F g := hx2.1.2.1
        have hmk := hst.mb (k := k) (by omega) (by omega)
        have hmk2 := hst2.mb (k := k) (by omega) (by omega)
        have hmn := hmk.n0
        have hbs := BkS.of hmk.2.2.1 hmk.2.2.2.1 (F k) (g 0) (g 1)
        have hnb1 := hbs.2.2.1
        have hnb2 := hbs.2.2.2.1
        refine r_icmp_lt (tgt := 43) dX8_block_38 (by decide) (by omega) (by omega) (fun h38 => ?_) (fun h38 => ?_)
        ·
          refine r_iload_n dX8_block_43 rfl ?_
          by_cases hw44 : w < 0 ∨ 4 < w
          · refine r_tableOut (tgt := 125) dX8_block_44 (by omega) hw44 (by decide) ?_
            refine r_aload_n dX8_block_125 rfl ?_
            refine r_getfield clX8 4 (by decide) fl_X8_40 (by first | assumption | exact up_s _ _ _ | exact (up_n _ (by assumption)).trans (by assumption) | exact (up_n _ (by assumption)).trans (up_s _ _ _) | exact (up_n _ (by assumption)).trans ((up_n _ (by assumption)).trans (by assumption))) rfl dX8_block_126 ?_
            refine r_iload_n dX8_block_129 rfl ?_
            refine r_callV1 okX0_start ⟨by decide, by decide⟩ ml_X8_188 (mX0_start hM2.1 (by omega)) (by first | assumption | exact up_s _ _ _ | exact (up_n _ (by assumption)).trans (by assumption) | exact (up_n _ (by assumption)).trans (up_s _ _ _) | exact (up_n _ (by assumption)).trans ((up_n _ (by assumption)).trans (by assumption))) rfl rfl (Nat.le_of_ble_eq_true rfl) (by omega) (by omega) rfl dX8_block_130 (nx_I) (kx_I ?_)
            rw [staF_in (by omega) (by omega)]
            refine e_ireturn dX8_block_133 rfl (by omega) (by omega) ?_
            exact oktI (by unfold blkV; rw [if_neg (by omega), if_neg (by omega), if_neg (by omega), if_neg (by omega), if_neg (by omega), if_neg (by omega)]) hx2
          · rcases (show w = 0 ∨ w = 1 ∨ w = 2 ∨ w = 3 ∨ w = 4 by omega) with e44 | e44 | e44 | e44 | e44
            · refine r_tableIn (off := 36) (tgt := 80) dX8_block_44 (by omega) (by omega) (by omega) (by rw [e44]; rfl) (by decide) ?_
              refine r_aload_n dX8_block_80 rfl ?_
              refine r_getfield clX8 4 (by decide) fl_X8_40 (by first | assumption | exact up_s _ _ _ | exact (up_n _ (by assumption)).trans (by assumption) | exact (up_n _ (by assumption)).trans (up_s _ _ _) | exact (up_n _ (by assumption)).trans ((up_n _ (by assumption)).trans (by assumption))) rfl dX8_block_81 ?_
              refine r_iload_n dX8_block_84 rfl ?_
              refine r_callV1 okX0_base ⟨by decide, by decide⟩ ml_X8_173 (mX0_base hM2.1 hmk2 (by omega) (by omega)) (by first | assumption | exact up_s _ _ _ | exact (up_n _ (by assumption)).trans (by assumption) | exact (up_n _ (by assumption)).trans (up_s _ _ _) | exact (up_n _ (by assumption)).trans ((up_n _ (by assumption)).trans (by assumption))) rfl rfl (Nat.le_of_ble_eq_true rfl) (by omega) (by omega) rfl dX8_block_85 (nx_I) (kx_I ?_)
              refine e_ireturn dX8_block_88 rfl (by omega) (by omega) ?_
              exact oktI (by unfold blkV; rw [if_neg (by omega), if_pos (by omega)]) hx2
            · refine r_tableIn (off := 45) (tgt := 89) dX8_block_44 (by omega) (by omega) (by omega) (by rw [e44]; rfl) (by decide) ?_
              refine r_aload_n dX8_block_89 rfl ?_
              refine r_getfield clX8 4 (by decide) fl_X8_40 (by first | assumption | exact up_s _ _ _ | exact (up_n _ (by assumption)).trans (by assumption) | exact (up_n _ (by assumption)).trans (up_s _ _ _) | exact (up_n _ (by assumption)).trans ((up_n _ (by assumption)).trans (by assumption))) rfl dX8_block_90 ?_
              refine r_iload_n dX8_block_93 rfl ?_
              refine r_callV1 okX0_membersIn ⟨by decide, by decide⟩ ml_X8_176 (mX0_membersIn hM2.1 (by omega) (by omega)) (by first | assumption | exact up_s _ _ _ | exact (up_n _ (by assumption)).trans (by assumption) | exact (up_n _ (by assumption)).trans (up_s _ _ _) | exact (up_n _ (by assumption)).trans ((up_n _ (by assumption)).trans (by assumption))) rfl rfl (Nat.le_of_ble_eq_true rfl) (by omega) (by omega) rfl dX8_block_94 (nx_I) (kx_I ?_)
              refine e_ireturn dX8_block_97 rfl (by omega) (by omega) ?_
              exact oktI (by unfold blkV; rw [if_neg (by omega), if_neg (by omega), if_pos (by omega)]) hx2
            · refine r_tableIn (off := 54) (tgt := 98) dX8_block_44 (by omega) (by omega) (by omega) (by rw [e44]; rfl) (by decide) ?_
              refine r_aload_n dX8_block_98 rfl ?_
              refine r_getfield clX8 4 (by decide) fl_X8_40 (by first | assumption | exact up_s _ _ _ | exact (up_n _ (by assumption)).trans (by assumption) | exact (up_n _ (by assumption)).trans (up_s _ _ _) | exact (up_n _ (by assumption)).trans ((up_n _ (by assumption)).trans (by assumption))) rfl dX8_block_99 ?_
              refine r_iload_n dX8_block_102 rfl ?_
              refine r_callV1 okX0_greatestIn ⟨by decide, by decide⟩ ml_X8_179 (mX0_greatestIn hM2.1 hmk2 (by omega) (by omega)) (by first | assumption | exact up_s _ _ _ | exact (up_n _ (by assumption)).trans (by assumption) | exact (up_n _ (by assumption)).trans (up_s _ _ _) | exact (up_n _ (by assumption)).trans ((up_n _ (by assumption)).trans (by assumption))) rfl rfl (Nat.le_of_ble_eq_true rfl) (by omega) (by omega) rfl dX8_block_103 (nx_I) (kx_I ?_)
              refine e_ireturn dX8_block_106 rfl (by omega) (by omega) ?_
              exact oktI (by unfold blkV; rw [if_neg (by omega), if_neg (by omega), if_neg (by omega), if_pos (by omega)]) hx2
            · refine r_tableIn (off := 63) (tgt := 107) dX8_block_44 (by omega) (by omega) (by omega) (by rw [e44]; rfl) (by decide) ?_
              refine r_aload_n dX8_block_107 rfl ?_
              refine r_getfield clX8 4 (by decide) fl_X8_40 (by first | assumption | exact up_s _ _ _ | exact (up_n _ (by assumption)).trans (by assumption) | exact (up_n _ (by assumption)).trans (up_s _ _ _) | exact (up_n _ (by assumption)).trans ((up_n _ (by assumption)).trans (by assumption))) rfl dX8_block_108 ?_
              refine r_iload_n dX8_block_111 rfl ?_
              refine r_callV1 okX0_bytesOf ⟨by decide, by decide⟩ ml_X8_182 (mX0_bytesOf hM2.1 hmk2 (by omega) (by omega)) (by first | assumption | exact up_s _ _ _ | exact (up_n _ (by assumption)).trans (by assumption) | exact (up_n _ (by assumption)).trans (up_s _ _ _) | exact (up_n _ (by assumption)).trans ((up_n _ (by assumption)).trans (by assumption))) rfl rfl (Nat.le_of_ble_eq_true rfl) (by omega) (by omega) rfl dX8_block_112 (nx_I) (kx_I ?_)
              refine e_ireturn dX8_block_115 rfl (by omega) (by omega) ?_
              exact oktI (by unfold blkV; rw [if_neg (by omega), if_neg (by omega), if_neg (by omega), if_neg (by omega), if_pos (by omega)]) hx2
            · refine r_tableIn (off := 72) (tgt := 116) dX8_block_44 (by omega) (by omega) (by omega) (by rw [e44]; rfl) (by decide) ?_
              refine r_aload_n dX8_block_116 rfl ?_
              refine r_getfield clX8 4 (by decide) fl_X8_40 (by first | assumption | exact up_s _ _ _ | exact (up_n _ (by assumption)).trans (by assumption) | exact (up_n _ (by assumption)).trans (up_s _ _ _) | exact (up_n _ (by assumption)).trans ((up_n _ (by assumption)).trans (by assumption))) rfl dX8_block_117 ?_
              refine r_iload_n dX8_block_120 rfl ?_
              refine r_callV1 okX0_greatestGapIn ⟨by decide, by decide⟩ ml_X8_185 (mX0_greatestGapIn hM2.1 hmk2 (by omega) (by omega)) (by first | assumption | exact up_s _ _ _ | exact (up_n _ (by assumption)).trans (by assumption) | exact (up_n _ (by assumption)).trans (up_s _ _ _) | exact (up_n _ (by assumption)).trans ((up_n _ (by assumption)).trans (by assumption))) rfl rfl (Nat.le_of_ble_eq_true rfl) (by omega) (by omega) rfl dX8_block_121 (nx_I) (kx_I ?_)
              refine e_ireturn dX8_block_124 rfl (by omega) (by omega) ?_
              exact oktI (by unfold blkV; rw [if_neg (by omega), if_neg (by omega), if_neg (by omega), if_neg (by omega), if_neg (by omega), if_pos (by omega)]) hx2
        ·
          refine r_iconst dX8_block_41 ?_
          refine e_ireturn dX8_block_42 rfl (by omega) (by omega) ?_
          exact oktI (by unfold blkV; rw [if_pos (by omega)]) hx2
      ·
        refine r_iconst dX8_block_17 ?_
        refine r_goto (tgt := 22) dX8_block_18 (by decide) ?_
        refine r_callS1 okX8_requireArgument ⟨by decide, by decide⟩ ml_X8_96 (mX8_requireArgument_ok (bc := 0) (bs := 0) (by omega)) (Nat.le_of_ble_eq_true rfl) (by omega) (by omega) rfl dX8_block_22 (nx_V) (kx_V ?_)
        refine r_iload_n dX8_block_25 rfl ?_
        refine r_aload_n dX8_block_26 rfl ?_
        refine r_getfield clX8 4 (by decide) fl_X8_40 (by first | assumption | exact up_s _ _ _ | exact (up_n _ (by assumption)).trans (by assumption) | exact (up_n _ (by assumption)).trans (up_s _ _ _) | exact (up_n _ (by assumption)).trans ((up_n _ (by assumption)).trans (by assumption))) rfl dX8_block_27 ?_
        refine r_aload_n dX8_block_30 rfl ?_
        refine r_getfield clX8 0 (by decide) fl_X8_10 (by first | assumption | exact up_s _ _ _ | exact (up_n _ (by assumption)).trans (by assumption) | exact (up_n _ (by assumption)).trans (up_s _ _ _) | exact (up_n _ (by assumption)).trans ((up_n _ (by assumption)).trans (by assumption))) rfl dX8_block_31 ?_
        refine r_iload_n dX8_block_34 rfl ?_
        refine r_callV2 okX0_cut ⟨by decide, by decide⟩ ml_X8_169 (mX0_cut hbw hst hi (by omega) (by omega) (by omega) ⟨hv0, hv1⟩ ⟨hv2, hv3⟩) (by first | assumption | exact up_s _ _ _ | exact (up_n _ (by assumption)).trans (by assumption) | exact (up_n _ (by assumption)).trans (up_s _ _ _) | exact (up_n _ (by assumption)).trans ((up_n _ (by assumption)).trans (by assumption))) rfl rfl (Nat.le_of_ble_eq_true rfl) (by omega) (by omega) rfl dX8_block_35 (nx_tI) (kx_tI ?_)
        intro M2 hM2
        have hx2 := hx.goB hi hM2.1.w hM2.2
        have h002 := hx2.1.1
        have hob2 := hM2.1.1
        have hst2 : StP M2 ad 1 n F g := hx2.1.2.1
        have hmk := hst.mb (k := k) (by omega) (by omega)
        have hmk2 := hst2.mb (k := k) (by omega) (by omega)
        have hmn := hmk.n0
        have hbs := BkS.of hmk.2.2.1 hmk.2.2.2.1 (F k) (g 0) (g 1)
        have hnb1 := hbs.2.2.1
        have hnb2 := hbs.2.2.2.1
        refine r_icmp_lt (tgt := 43) dX8_block_38 (by decide) (by omega) (by omega) (fun h38 => ?_) (fun h38 => ?_)
        ·
          refine r_iload_n dX8_block_43 rfl ?_
          by_cases hw44 : w < 0 ∨ 4 < w
          · refine r_tableOut (tgt := 125) dX8_block_44 (by omega) hw44 (by decide) ?_
            refine r_aload_n dX8_block_125 rfl ?_
            refine r_getfield clX8 4 (by decide) fl_X8_40 (by first | assumption | exact up_s _ _ _ | exact (up_n _ (by assumption)).trans (by assumption) | exact (up_n _ (by assumption)).trans (up_s _ _ _) | exact (up_n _ (by assumption)).trans ((up_n _ (by assumption)).trans (by assumption))) rfl dX8_block_126 ?_
            refine r_iload_n dX8_block_129 rfl ?_
            refine r_callV1 okX0_start ⟨by decide, by decide⟩ ml_X8_188 (mX0_start hM2.1 (by omega)) (by first | assumption | exact up_s _ _ _ | exact (up_n _ (by assumption)).trans (by assumption) | exact (up_n _ (by assumption)).trans (up_s _ _ _) | exact (up_n _ (by assumption)).trans ((up_n _ (by assumption)).trans (by assumption))) rfl rfl (Nat.le_of_ble_eq_true rfl) (by omega) (by omega) rfl dX8_block_130 (nx_I) (kx_I ?_)
            rw [staF_in (by omega) (by omega)]
            refine e_ireturn dX8_block_133 rfl (by omega) (by omega) ?_
            exact oktI (by unfold blkV; rw [if_neg (by omega), if_neg (by omega), if_neg (by omega), if_neg (by omega), if_neg (by omega), if_neg (by omega)]) hx2
          · rcases (show w = 0 ∨ w = 1 ∨ w = 2 ∨ w = 3 ∨ w = 4 by omega) with e44 | e44 | e44 | e44 | e44
            · refine r_tableIn (off := 36) (tgt := 80) dX8_block_44 (by omega) (by omega) (by omega) (by rw [e44]; rfl) (by decide) ?_
              refine r_aload_n dX8_block_80 rfl ?_
              refine r_getfield clX8 4 (by decide) fl_X8_40 (by first | assumption | exact up_s _ _ _ | exact (up_n _ (by assumption)).trans (by assumption) | exact (up_n _ (by assumption)).trans (up_s _ _ _) | exact (up_n _ (by assumption)).trans ((up_n _ (by assumption)).trans (by assumption))) rfl dX8_block_81 ?_
              refine r_iload_n dX8_block_84 rfl ?_
              refine r_callV1 okX0_base ⟨by decide, by decide⟩ ml_X8_173 (mX0_base hM2.1 hmk2 (by omega) (by omega)) (by first | assumption | exact up_s _ _ _ | exact (up_n _ (by assumption)).trans (by assumption) | exact (up_n _ (by assumption)).trans (up_s _ _ _) | exact (up_n _ (by assumption)).trans ((up_n _ (by assumption)).trans (by assumption))) rfl rfl (Nat.le_of_ble_eq_true rfl) (by omega) (by omega) rfl dX8_block_85 (nx_I) (kx_I ?_)
              refine e_ireturn dX8_block_88 rfl (by omega) (by omega) ?_
              exact oktI (by unfold blkV; rw [if_neg (by omega), if_pos (by omega)]) hx2
            · refine r_tableIn (off := 45) (tgt := 89) dX8_block_44 (by omega) (by omega) (by omega) (by rw [e44]; rfl) (by decide) ?_
              refine r_aload_n dX8_block_89 rfl ?_
              refine r_getfield clX8 4 (by decide) fl_X8_40 (by first | assumption | exact up_s _ _ _ | exact (up_n _ (by assumption)).trans (by assumption) | exact (up_n _ (by assumption)).trans (up_s _ _ _) | exact (up_n _ (by assumption)).trans ((up_n _ (by assumption)).trans (by assumption))) rfl dX8_block_90 ?_
              refine r_iload_n dX8_block_93 rfl ?_
              refine r_callV1 okX0_membersIn ⟨by decide, by decide⟩ ml_X8_176 (mX0_membersIn hM2.1 (by omega) (by omega)) (by first | assumption | exact up_s _ _ _ | exact (up_n _ (by assumption)).trans (by assumption) | exact (up_n _ (by assumption)).trans (up_s _ _ _) | exact (up_n _ (by assumption)).trans ((up_n _ (by assumption)).trans (by assumption))) rfl rfl (Nat.le_of_ble_eq_true rfl) (by omega) (by omega) rfl dX8_block_94 (nx_I) (kx_I ?_)
              refine e_ireturn dX8_block_97 rfl (by omega) (by omega) ?_
              exact oktI (by unfold blkV; rw [if_neg (by omega), if_neg (by omega), if_pos (by omega)]) hx2
            · refine r_tableIn (off := 54) (tgt := 98) dX8_block_44 (by omega) (by omega) (by omega) (by rw [e44]; rfl) (by decide) ?_
              refine r_aload_n dX8_block_98 rfl ?_
              refine r_getfield clX8 4 (by decide) fl_X8_40 (by first | assumption | exact up_s _ _ _ | exact (up_n _ (by assumption)).trans (by assumption) | exact (up_n _ (by assumption)).trans (up_s _ _ _) | exact (up_n _ (by assumption)).trans ((up_n _ (by assumption)).trans (by assumption))) rfl dX8_block_99 ?_
              refine r_iload_n dX8_block_102 rfl ?_
              refine r_callV1 okX0_greatestIn ⟨by decide, by decide⟩ ml_X8_179 (mX0_greatestIn hM2.1 hmk2 (by omega) (by omega)) (by first | assumption | exact up_s _ _ _ | exact (up_n _ (by assumption)).trans (by assumption) | exact (up_n _ (by assumption)).trans (up_s _ _ _) | exact (up_n _ (by assumption)).trans ((up_n _ (by assumption)).trans (by assumption))) rfl rfl (Nat.le_of_ble_eq_true rfl) (by omega) (by omega) rfl dX8_block_103 (nx_I) (kx_I ?_)
              refine e_ireturn dX8_block_106 rfl (by omega) (by omega) ?_
              exact oktI (by unfold blkV; rw [if_neg (by omega), if_neg (by omega), if_neg (by omega), if_pos (by omega)]) hx2
            · refine r_tableIn (off := 63) (tgt := 107) dX8_block_44 (by omega) (by omega) (by omega) (by rw [e44]; rfl) (by decide) ?_
              refine r_aload_n dX8_block_107 rfl ?_
              refine r_getfield clX8 4 (by decide) fl_X8_40 (by first | assumption | exact up_s _ _ _ | exact (up_n _ (by assumption)).trans (by assumption) | exact (up_n _ (by assumption)).trans (up_s _ _ _) | exact (up_n _ (by assumption)).trans ((up_n _ (by assumption)).trans (by assumption))) rfl dX8_block_108 ?_
              refine r_iload_n dX8_block_111 rfl ?_
              refine r_callV1 okX0_bytesOf ⟨by decide, by decide⟩ ml_X8_182 (mX0_bytesOf hM2.1 hmk2 (by omega) (by omega)) (by first | assumption | exact up_s _ _ _ | exact (up_n _ (by assumption)).trans (by assumption) | exact (up_n _ (by assumption)).trans (up_s _ _ _) | exact (up_n _ (by assumption)).trans ((up_n _ (by assumption)).trans (by assumption))) rfl rfl (Nat.le_of_ble_eq_true rfl) (by omega) (by omega) rfl dX8_block_112 (nx_I) (kx_I ?_)
              refine e_ireturn dX8_block_115 rfl (by omega) (by omega) ?_
              exact oktI (by unfold blkV; rw [if_neg (by omega), if_neg (by omega), if_neg (by omega), if_neg (by omega), if_pos (by omega)]) hx2
            · refine r_tableIn (off := 72) (tgt := 116) dX8_block_44 (by omega) (by omega) (by omega) (by rw [e44]; rfl) (by decide) ?_
              refine r_aload_n dX8_block_116 rfl ?_
              refine r_getfield clX8 4 (by decide) fl_X8_40 (by first | assumption | exact up_s _ _ _ | exact (up_n _ (by assumption)).trans (by assumption) | exact (up_n _ (by assumption)).trans (up_s _ _ _) | exact (up_n _ (by assumption)).trans ((up_n _ (by assumption)).trans (by assumption))) rfl dX8_block_117 ?_
              refine r_iload_n dX8_block_120 rfl ?_
              refine r_callV1 okX0_greatestGapIn ⟨by decide, by decide⟩ ml_X8_185 (mX0_greatestGapIn hM2.1 hmk2 (by omega) (by omega)) (by first | assumption | exact up_s _ _ _ | exact (up_n _ (by assumption)).trans (by assumption) | exact (up_n _ (by assumption)).trans (up_s _ _ _) | exact (up_n _ (by assumption)).trans ((up_n _ (by assumption)).trans (by assumption))) rfl rfl (Nat.le_of_ble_eq_true rfl) (by omega) (by omega) rfl dX8_block_121 (nx_I) (kx_I ?_)
              refine e_ireturn dX8_block_124 rfl (by omega) (by omega) ?_
              exact oktI (by unfold blkV; rw [if_neg (by omega), if_neg (by omega), if_neg (by omega), if_neg (by omega), if_neg (by omega), if_pos (by omega)]) hx2
        ·
          refine r_iconst dX8_block_41 ?_
          refine e_ireturn dX8_block_42 rfl (by omega) (by omega) ?_
          exact oktI (by unfold blkV; rw [if_pos (by omega)]) hx2

set_option maxHeartbeats 4000000 in
theorem mX8_of {M : Mem} {ad : Int → Nat} {n : Int → Int} {F : Int → Int → Int} {g : Int → Int} {m : Int} {S : Int → Sg3} {len : Int} {c : Int → Int} {k w : Int} (hx : XSt M ad (n, F, g) m S len c) (hv : Vld (n, F, g)) (hi : Inj ad) (q0 : R32 k) (q1 : R32 w) : Ct KX8_of [.ref (ad 0), vI k, vI w] M 6 36 (UX (e2 (eSet k) (eB (0 ≤ w ∧ w ≤ 7) xA)) (ofV (n k) (F k) g w) (fun M2 => XSt M2 ad (n, F, g) m S len c ∧ FrI ad 0 112 M M2) M) := by
  refine Ct.of _ (by decide) rfl (Nat.le_of_ble_eq_true rfl) ?_
  obtain ⟨h00, hst, hhs, hbf, hpw, hbw, hmw, ⟨tn, tF, htr⟩, ⟨wn, wF, hwi⟩⟩ := id hx
  obtain ⟨hvs, hv0, hv1, hv2, hv3⟩ := id hv
  change StP _ ad 1 n F g at hst
  dsimp only at hvs hv0 hv1 hv2 hv3
  have hob1 := hst.1
  obtain ⟨hh_1, hh_2, hh_3, hh_4, hh_5, hho, -⟩ := id hhs
  have hob94 := hbf.1
  obtain ⟨⟨y1, y2, y3, y4, y5, y6, hob96⟩, -, -⟩ := id hpw
  obtain ⟨z1, z2, z3, hob99, -⟩ := id hbw
  obtain ⟨⟨u1, hob101⟩, -, -⟩ := id hmw
  have hob108 := htr.1
  have hob110 := hwi.1
  refine r_iload_n dX8_of_0 rfl ?_
  refine r_callS1 okX8_requireSet ⟨by decide, by decide⟩ ml_X8_63 (mX8_requireSet (by omega)) (Nat.le_of_ble_eq_true rfl) (Nat.le_of_ble_eq_true rfl) (Nat.le_of_ble_eq_true rfl) rfl dX8_of_1 (tUX (fun hne => by unfold e2; rw [if_neg hne])) (kx_U ?_)
  intro hE1
  have hk9 := eSet_ok hE1
  refine r_iload_n dX8_of_4 rfl ?_
  refine r_if_lt (tgt := 18) dX8_of_5 (by decide) (by omega) (fun h5 => ?_) (fun h5 => ?_)
  ·
    refine r_iconst dX8_of_18 ?_
    refine r_callS1 okX8_requireArgument ⟨by decide, by decide⟩ ml_X8_96 (mX8_requireArgument (b := 0 ≤ w ∧ w ≤ 7) (by first | (rw [if_pos (by omega)]; done) | (rw [if_neg (by omega)]; done))) (Nat.le_of_ble_eq_true rfl) (Nat.le_of_ble_eq_true rfl) (Nat.le_of_ble_eq_true rfl) rfl dX8_of_19 (tUX (fun hne => by unfold e2; rw [if_pos hE1])) (kx_U ?_)
    intro hE2
    have hq9 := eA_ok hE2
    refine r_aload_n dX8_of_22 rfl ?_
    refine r_getfield clX8 0 (by decide) fl_X8_10 (by first | assumption | exact up_s _ _ _ | exact (up_n _ (by assumption)).trans (by assumption) | exact (up_n _ (by assumption)).trans (up_s _ _ _) | exact (up_n _ (by assumption)).trans ((up_n _ (by assumption)).trans (by assumption))) rfl dX8_of_23 ?_
    refine r_iload_n dX8_of_26 rfl ?_
    refine r_callV1 okX7_members ⟨by decide, by decide⟩ ml_X8_69 (mX7_members hst (by omega) (by omega)) (by first | assumption | exact up_s _ _ _ | exact (up_n _ (by assumption)).trans (by assumption) | exact (up_n _ (by assumption)).trans (up_s _ _ _) | exact (up_n _ (by assumption)).trans ((up_n _ (by assumption)).trans (by assumption))) rfl rfl (Nat.le_of_ble_eq_true rfl) (Nat.le_of_ble_eq_true rfl) (Nat.le_of_ble_eq_true rfl) rfl dX8_of_27 (nx_A) (kx_A ?_)
    have hmk := hst.mb (k := k) (by omega) (by omega)
    have hmo := hmk.1
    have hmn := hmk.n0
    refine r_astore_n dX8_of_30 (by decide) rfl ?_
    refine r_iload_n dX8_of_31 rfl ?_
    by_cases hw32 : w < 0 ∨ 6 < w
    · refine r_tableOut (tgt := 122) dX8_of_32 (by omega) hw32 (by decide) ?_
      refine r_aload_n dX8_of_122 rfl ?_
      refine r_getfield clX8 4 (by decide) fl_X8_40 (by first | assumption | exact up_s _ _ _ | exact (up_n _ (by assumption)).trans (by assumption) | exact (up_n _ (by assumption)).trans (up_s _ _ _) | exact (up_n _ (by assumption)).trans ((up_n _ (by assumption)).trans (by assumption))) rfl dX8_of_123 ?_
      refine r_aload_n dX8_of_126 rfl ?_
      refine r_getfield clX8 0 (by decide) fl_X8_10 (by first | assumption | exact up_s _ _ _ | exact (up_n _ (by assumption)).trans (by assumption) | exact (up_n _ (by assumption)).trans (up_s _ _ _) | exact (up_n _ (by assumption)).trans ((up_n _ (by assumption)).trans (by assumption))) rfl dX8_of_127 ?_
      refine r_iload_n dX8_of_130 rfl ?_
      refine r_callV2 okX0_cut ⟨by decide, by decide⟩ ml_X8_169 (mX0_cut hbw hst hi (by omega) (by omega) (by omega) ⟨hv0, hv1⟩ ⟨hv2, hv3⟩) (by first | assumption | exact up_s _ _ _ | exact (up_n _ (by assumption)).trans (by assumption) | exact (up_n _ (by assumption)).trans (up_s _ _ _) | exact (up_n _ (by assumption)).trans ((up_n _ (by assumption)).trans (by assumption))) rfl rfl (Nat.le_of_ble_eq_true rfl) (Nat.le_of_ble_eq_true rfl) (Nat.le_of_ble_eq_true rfl) rfl dX8_of_131 (nx_tI) (kx_tI ?_)
      intro M2 hM2
      have hx2 := hx.goB hi hM2.1.w hM2.2
      have h002 := hx2.1.1
      have hob2 := hM2.1.1
      have hst2 : StP M2 ad 1 n F g := hx2.1.2.1
      have hmk := hst.mb (k := k) (by omega) (by omega)
      have hmk2 := hst2.mb (k := k) (by omega) (by omega)
      have hmn := hmk.n0
      have hbs := BkS.of hmk.2.2.1 hmk.2.2.2.1 (F k) (g 0) (g 1)
      have hnb1 := hbs.2.2.1
      have hnb2 := hbs.2.2.2.1
      refine r_popI dX8_of_134 ?_
      refine r_aload_n dX8_of_135 rfl ?_
      refine r_getfield clX8 4 (by decide) fl_X8_40 (by first | assumption | exact up_s _ _ _ | exact (up_n _ (by assumption)).trans (by assumption) | exact (up_n _ (by assumption)).trans (up_s _ _ _) | exact (up_n _ (by assumption)).trans ((up_n _ (by assumption)).trans (by assumption))) rfl dX8_of_136 ?_
      refine r_callV0 okX0_wideGaps ⟨by decide, by decide⟩ ml_X8_198 (mX0_wideGaps hM2.1 hmk2) (by first | assumption | exact up_s _ _ _ | exact (up_n _ (by assumption)).trans (by assumption) | exact (up_n _ (by assumption)).trans (up_s _ _ _) | exact (up_n _ (by assumption)).trans ((up_n _ (by assumption)).trans (by assumption))) rfl rfl (Nat.le_of_ble_eq_true rfl) (Nat.le_of_ble_eq_true rfl) (Nat.le_of_ble_eq_true rfl) rfl dX8_of_139 (nx_I) (kx_I ?_)
      refine e_ireturn dX8_of_142 rfl (Nat.le_of_ble_eq_true rfl) (Nat.le_of_ble_eq_true rfl) ?_
      exact okUX (by unfold e2; rw [if_pos hE1]; exact hE2) (by unfold ofV; rw [if_neg (by omega), if_neg (by omega), if_neg (by omega), if_neg (by omega), if_neg (by omega), if_neg (by omega), if_neg (by omega)]) hx2
    · rcases (show w = 0 ∨ w = 1 ∨ w = 2 ∨ w = 3 ∨ w = 4 ∨ w = 5 ∨ w = 6 by omega) with e32 | e32 | e32 | e32 | e32 | e32 | e32
      · refine r_tableIn (off := 44) (tgt := 76) dX8_of_32 (by omega) (by omega) (by omega) (by rw [e32]; rfl) (by decide) ?_
        refine r_aload_n dX8_of_76 rfl ?_
        refine r_callV0 okX5_amount ⟨by decide, by decide⟩ ml_X8_77 (mX5_amount hmk) (by first | assumption | exact up_s _ _ _ | exact (up_n _ (by assumption)).trans (by assumption) | exact (up_n _ (by assumption)).trans (up_s _ _ _) | exact (up_n _ (by assumption)).trans ((up_n _ (by assumption)).trans (by assumption))) rfl rfl (Nat.le_of_ble_eq_true rfl) (Nat.le_of_ble_eq_true rfl) (Nat.le_of_ble_eq_true rfl) rfl dX8_of_77 (nx_I) (kx_I ?_)
        refine e_ireturn dX8_of_80 rfl (Nat.le_of_ble_eq_true rfl) (Nat.le_of_ble_eq_true rfl) ?_
        exact okUX (by unfold e2; rw [if_pos hE1]; exact hE2) (by unfold ofV; rw [if_pos (by omega)]) ⟨hx, FrI.rf⟩
      · refine r_tableIn (off := 49) (tgt := 81) dX8_of_32 (by omega) (by omega) (by omega) (by rw [e32]; rfl) (by decide) ?_
        refine r_aload_n dX8_of_81 rfl ?_
        refine r_getfield clX8 4 (by decide) fl_X8_40 (by first | assumption | exact up_s _ _ _ | exact (up_n _ (by assumption)).trans (by assumption) | exact (up_n _ (by assumption)).trans (up_s _ _ _) | exact (up_n _ (by assumption)).trans ((up_n _ (by assumption)).trans (by assumption))) rfl dX8_of_82 ?_
        refine r_aload_n dX8_of_85 rfl ?_
        refine r_getfield clX8 0 (by decide) fl_X8_10 (by first | assumption | exact up_s _ _ _ | exact (up_n _ (by assumption)).trans (by assumption) | exact (up_n _ (by assumption)).trans (up_s _ _ _) | exact (up_n _ (by assumption)).trans ((up_n _ (by assumption)).trans (by assumption))) rfl dX8_of_86 ?_
        refine r_iload_n dX8_of_89 rfl ?_
        refine r_callV2 okX0_cut ⟨by decide, by decide⟩ ml_X8_169 (mX0_cut hbw hst hi (by omega) (by omega) (by omega) ⟨hv0, hv1⟩ ⟨hv2, hv3⟩) (by first | assumption | exact up_s _ _ _ | exact (up_n _ (by assumption)).trans (by assumption) | exact (up_n _ (by assumption)).trans (up_s _ _ _) | exact (up_n _ (by assumption)).trans ((up_n _ (by assumption)).trans (by assumption))) rfl rfl (Nat.le_of_ble_eq_true rfl) (Nat.le_of_ble_eq_true rfl) (Nat.le_of_ble_eq_true rfl) rfl dX8_of_90 (nx_tI) (kx_tI ?_)
        intro M2 hM2
        have hx2 := hx.goB hi hM2.1.w hM2.2
        have h002 := hx2.1.1
        have hob2 := hM2.1.1
        have hst2 : StP M2 ad 1 n F g := hx2.1.2.1
        have hmk := hst.mb (k := k) (by omega) (by omega)
        have hmk2 := hst2.mb (k := k) (by omega) (by omega)
        have hmn := hmk.n0
        have hbs := BkS.of hmk.2.2.1 hmk.2.2.2.1 (F k) (g 0) (g 1)
        have hnb1 := hbs.2.2.1
        have hnb2 := hbs.2.2.2.1
        refine e_ireturn dX8_of_93 rfl (Nat.le_of_ble_eq_true rfl) (Nat.le_of_ble_eq_true rfl) ?_
        exact okUX (by unfold e2; rw [if_pos hE1]; exact hE2) (by unfold ofV; rw [if_neg (by omega), if_pos (by omega)]) hx2
      · refine r_tableIn (off := 62) (tgt := 94) dX8_of_32 (by omega) (by omega) (by omega) (by rw [e32]; rfl) (by decide) ?_
        refine r_aload_n dX8_of_94 rfl ?_
        refine r_aload_n dX8_of_95 rfl ?_
        refine r_callV1 okX8_sizeOf ⟨by decide, by decide⟩ ml_X8_191 (mX8_sizeOf hx hv hi hmk) (by first | assumption | exact up_s _ _ _ | exact (up_n _ (by assumption)).trans (by assumption) | exact (up_n _ (by assumption)).trans (up_s _ _ _) | exact (up_n _ (by assumption)).trans ((up_n _ (by assumption)).trans (by assumption))) rfl rfl (Nat.le_of_ble_eq_true rfl) (Nat.le_of_ble_eq_true rfl) (Nat.le_of_ble_eq_true rfl) rfl dX8_of_96 (nx_I) (kx_I ?_)
        refine e_ireturn dX8_of_99 rfl (Nat.le_of_ble_eq_true rfl) (Nat.le_of_ble_eq_true rfl) ?_
        exact okUX (by unfold e2; rw [if_pos hE1]; exact hE2) (by unfold ofV; rw [if_neg (by omega), if_neg (by omega), if_pos (by omega)]) ⟨hx, FrI.rf⟩
      · refine r_tableIn (off := 68) (tgt := 100) dX8_of_32 (by omega) (by omega) (by omega) (by rw [e32]; rfl) (by decide) ?_
        refine r_iconst dX8_of_100 ?_
        refine r_aload_n dX8_of_101 rfl ?_
        refine r_callV0 okX5_amount ⟨by decide, by decide⟩ ml_X8_77 (mX5_amount hmk) (by first | assumption | exact up_s _ _ _ | exact (up_n _ (by assumption)).trans (by assumption) | exact (up_n _ (by assumption)).trans (up_s _ _ _) | exact (up_n _ (by assumption)).trans ((up_n _ (by assumption)).trans (by assumption))) rfl rfl (Nat.le_of_ble_eq_true rfl) (Nat.le_of_ble_eq_true rfl) (Nat.le_of_ble_eq_true rfl) rfl dX8_of_102 (nx_I) (kx_I ?_)
        refine r_imul dX8_of_105 ?_
        refine e_ireturn dX8_of_106 rfl (Nat.le_of_ble_eq_true rfl) (Nat.le_of_ble_eq_true rfl) ?_
        exact okUX (by unfold e2; rw [if_pos hE1]; exact hE2) (by unfold ofV; rw [if_neg (by omega), if_neg (by omega), if_neg (by omega), if_pos (by omega)]) ⟨hx, FrI.rf⟩
      · refine r_tableIn (off := 75) (tgt := 107) dX8_of_32 (by omega) (by omega) (by omega) (by rw [e32]; rfl) (by decide) ?_
        refine r_aload_n dX8_of_107 rfl ?_
        refine r_callV0 okX5_least ⟨by decide, by decide⟩ ml_X8_103 (mX5_least hmk) (by first | assumption | exact up_s _ _ _ | exact (up_n _ (by assumption)).trans (by assumption) | exact (up_n _ (by assumption)).trans (up_s _ _ _) | exact (up_n _ (by assumption)).trans ((up_n _ (by assumption)).trans (by assumption))) rfl rfl (Nat.le_of_ble_eq_true rfl) (Nat.le_of_ble_eq_true rfl) (Nat.le_of_ble_eq_true rfl) rfl dX8_of_108 (nx_I) (kx_I ?_)
        refine e_ireturn dX8_of_111 rfl (Nat.le_of_ble_eq_true rfl) (Nat.le_of_ble_eq_true rfl) ?_
        exact okUX (by unfold e2; rw [if_pos hE1]; exact hE2) (by unfold ofV; rw [if_neg (by omega), if_neg (by omega), if_neg (by omega), if_neg (by omega), if_pos (by omega)]) ⟨hx, FrI.rf⟩
      · refine r_tableIn (off := 80) (tgt := 112) dX8_of_32 (by omega) (by omega) (by omega) (by rw [e32]; rfl) (by decide) ?_
        refine r_aload_n dX8_of_112 rfl ?_
        refine r_callV0 okX5_greatest ⟨by decide, by decide⟩ ml_X8_106 (mX5_greatest hmk) (by first | assumption | exact up_s _ _ _ | exact (up_n _ (by assumption)).trans (by assumption) | exact (up_n _ (by assumption)).trans (up_s _ _ _) | exact (up_n _ (by assumption)).trans ((up_n _ (by assumption)).trans (by assumption))) rfl rfl (Nat.le_of_ble_eq_true rfl) (Nat.le_of_ble_eq_true rfl) (Nat.le_of_ble_eq_true rfl) rfl dX8_of_113 (nx_I) (kx_I ?_)
        refine e_ireturn dX8_of_116 rfl (Nat.le_of_ble_eq_true rfl) (Nat.le_of_ble_eq_true rfl) ?_
        exact okUX (by unfold e2; rw [if_pos hE1]; exact hE2) (by unfold ofV; rw [if_neg (by omega), if_neg (by omega), if_neg (by omega), if_neg (by omega), if_neg (by omega), if_pos (by omega)]) ⟨hx, FrI.rf⟩
      · refine r_tableIn (off := 85) (tgt := 117) dX8_of_32 (by omega) (by omega) (by omega) (by rw [e32]; rfl) (by decide) ?_
        refine r_aload_n dX8_of_117 rfl ?_
        refine r_callV0 okX5_longestRow ⟨by decide, by decide⟩ ml_X8_195 (mX5_longestRow hmk) (by first | assumption | exact up_s _ _ _ | exact (up_n _ (by assumption)).trans (by assumption) | exact (up_n _ (by assumption)).trans (up_s _ _ _) | exact (up_n _ (by assumption)).trans ((up_n _ (by assumption)).trans (by assumption))) rfl rfl (Nat.le_of_ble_eq_true rfl) (Nat.le_of_ble_eq_true rfl) (Nat.le_of_ble_eq_true rfl) rfl dX8_of_118 (nx_I) (kx_I ?_)
        refine e_ireturn dX8_of_121 rfl (Nat.le_of_ble_eq_true rfl) (Nat.le_of_ble_eq_true rfl) ?_
        exact okUX (by unfold e2; rw [if_pos hE1]; exact hE2) (by unfold ofV; rw [if_neg (by omega), if_neg (by omega), if_neg (by omega), if_neg (by omega), if_neg (by omega), if_neg (by omega), if_pos (by omega)]) ⟨hx, FrI.rf⟩
  ·
    refine r_iload_n dX8_of_8 rfl ?_
    refine r_bipush dX8_of_9 (by decide) ?_
    refine r_icmp_gt (tgt := 18) dX8_of_11 (by decide) (by omega) (by omega) (fun h11 => ?_) (fun h11 => ?_)
    ·
      refine r_iconst dX8_of_18 ?_
      refine r_callS1 okX8_requireArgument ⟨by decide, by decide⟩ ml_X8_96 (mX8_requireArgument (b := 0 ≤ w ∧ w ≤ 7) (by first | (rw [if_pos (by omega)]; done) | (rw [if_neg (by omega)]; done))) (Nat.le_of_ble_eq_true rfl) (Nat.le_of_ble_eq_true rfl) (Nat.le_of_ble_eq_true rfl) rfl dX8_of_19 (tUX (fun hne => by unfold e2; rw [if_pos hE1])) (kx_U ?_)
      intro hE2
      have hq9 := eA_ok hE2
      refine r_aload_n dX8_of_22 rfl ?_
      refine r_getfield clX8 0 (by decide) fl_X8_10 (by first | assumption | exact up_s _ _ _ | exact (up_n _ (by assumption)).trans (by assumption) | exact (up_n _ (by assumption)).trans (up_s _ _ _) | exact (up_n _ (by assumption)).trans ((up_n _ (by assumption)).trans (by assumption))) rfl dX8_of_23 ?_
      refine r_iload_n dX8_of_26 rfl ?_
      refine r_callV1 okX7_members ⟨by decide, by decide⟩ ml_X8_69 (mX7_members hst (by omega) (by omega)) (by first | assumption | exact up_s _ _ _ | exact (up_n _ (by assumption)).trans (by assumption) | exact (up_n _ (by assumption)).trans (up_s _ _ _) | exact (up_n _ (by assumption)).trans ((up_n _ (by assumption)).trans (by assumption))) rfl rfl (Nat.le_of_ble_eq_true rfl) (Nat.le_of_ble_eq_true rfl) (Nat.le_of_ble_eq_true rfl) rfl dX8_of_27 (nx_A) (kx_A ?_)
      have hmk := hst.mb (k := k) (by omega) (by omega)
      have hmo := hmk.1
      have hmn := hmk.n0
      refine r_astore_n dX8_of_30 (by decide) rfl ?_
      refine r_iload_n dX8_of_31 rfl ?_
      by_cases hw32 : w < 0 ∨ 6 < w
      · refine r_tableOut (tgt := 122) dX8_of_32 (by omega) hw32 (by decide) ?_
        refine r_aload_n dX8_of_122 rfl ?_
        refine r_getfield clX8 4 (by decide) fl_X8_40 (by first | assumption | exact up_s _ _ _ | exact (up_n _ (by assumption)).trans (by assumption) | exact (up_n _ (by assumption)).trans (up_s _ _ _) | exact (up_n _ (by assumption)).trans ((up_n _ (by assumption)).trans (by assumption))) rfl dX8_of_123 ?_
        refine r_aload_n dX8_of_126 rfl ?_
        refine r_getfield clX8 0 (by decide) fl_X8_10 (by first | assumption | exact up_s _ _ _ | exact (up_n _ (by assumption)).trans (by assumption) | exact (up_n _ (by assumption)).trans (up_s _ _ _) | exact (up_n _ (by assumption)).trans ((up_n _ (by assumption)).trans (by assumption))) rfl dX8_of_127 ?_
        refine r_iload_n dX8_of_130 rfl ?_
        refine r_callV2 okX0_cut ⟨by decide, by decide⟩ ml_X8_169 (mX0_cut hbw hst hi (by omega) (by omega) (by omega) ⟨hv0, hv1⟩ ⟨hv2, hv3⟩) (by first | assumption | exact up_s _ _ _ | exact (up_n _ (by assumption)).trans (by assumption) | exact (up_n _ (by assumption)).trans (up_s _ _ _) | exact (up_n _ (by assumption)).trans ((up_n _ (by assumption)).trans (by assumption))) rfl rfl (Nat.le_of_ble_eq_true rfl) (Nat.le_of_ble_eq_true rfl) (Nat.le_of_ble_eq_true rfl) rfl dX8_of_131 (nx_tI) (kx_tI ?_)
        intro M2 hM2
        have hx2 := hx.goB hi hM2.1.w hM2.2
        have h002 := hx2.1.1
        have hob2 := hM2.1.1
        have hst2 : StP M2 ad 1 n F g := hx2.1.2.1
        have hmk := hst.mb (k := k) (by omega) (by omega)
        have hmk2 := hst2.mb (k := k) (by omega) (by omega)
        have hmn := hmk.n0
        have hbs := BkS.of hmk.2.2.1 hmk.2.2.2.1 (F k) (g 0) (g 1)
        have hnb1 := hbs.2.2.1
        have hnb2 := hbs.2.2.2.1
        refine r_popI dX8_of_134 ?_
        refine r_aload_n dX8_of_135 rfl ?_
        refine r_getfield clX8 4 (by decide) fl_X8_40 (by first | assumption | exact up_s _ _ _ | exact (up_n _ (by assumption)).trans (by assumption) | exact (up_n _ (by assumption)).trans (up_s _ _ _) | exact (up_n _ (by assumption)).trans ((up_n _ (by assumption)).trans (by assumption))) rfl dX8_of_136 ?_
        refine r_callV0 okX0_wideGaps ⟨by decide, by decide⟩ ml_X8_198 (mX0_wideGaps hM2.1 hmk2) (by first | assumption | exact up_s _ _ _ | exact (up_n _ (by assumption)).trans (by assumption) | exact (up_n _ (by assumption)).trans (up_s _ _ _) | exact (up_n _ (by assumption)).trans ((up_n _ (by assumption)).trans (by assumption))) rfl rfl (Nat.le_of_ble_eq_true rfl) (Nat.le_of_ble_eq_true rfl) (Nat.le_of_ble_eq_true rfl) rfl dX8_of_139 (nx_I) (kx_I ?_)
        refine e_ireturn dX8_of_142 rfl (Nat.le_of_ble_eq_true rfl) (Nat.le_of_ble_eq_true rfl) ?_
        exact okUX (by unfold e2; rw [if_pos hE1]; exact hE2) (by unfold ofV; rw [if_neg (by omega), if_neg (by omega), if_neg (by omega), if_neg (by omega), if_neg (by omega), if_neg (by omega), if_neg (by omega)]) hx2
      · rcases (show w = 0 ∨ w = 1 ∨ w = 2 ∨ w = 3 ∨ w = 4 ∨ w = 5 ∨ w = 6 by omega) with e32 | e32 | e32 | e32 | e32 | e32 | e32
        · refine r_tableIn (off := 44) (tgt := 76) dX8_of_32 (by omega) (by omega) (by omega) (by rw [e32]; rfl) (by decide) ?_
          refine r_aload_n dX8_of_76 rfl ?_
          refine r_callV0 okX5_amount ⟨by decide, by decide⟩ ml_X8_77 (mX5_amount hmk) (by first | assumption | exact up_s _ _ _ | exact (up_n _ (by assumption)).trans (by assumption) | exact (up_n _ (by assumption)).trans (up_s _ _ _) | exact (up_n _ (by assumption)).trans ((up_n _ (by assumption)).trans (by assumption))) rfl rfl (Nat.le_of_ble_eq_true rfl) (Nat.le_of_ble_eq_true rfl) (Nat.le_of_ble_eq_true rfl) rfl dX8_of_77 (nx_I) (kx_I ?_)
          refine e_ireturn dX8_of_80 rfl (Nat.le_of_ble_eq_true rfl) (Nat.le_of_ble_eq_true rfl) ?_
          exact okUX (by unfold e2; rw [if_pos hE1]; exact hE2) (by unfold ofV; rw [if_pos (by omega)]) ⟨hx, FrI.rf⟩
        · refine r_tableIn (off := 49) (tgt := 81) dX8_of_32 (by omega) (by omega) (by omega) (by rw [e32]; rfl) (by decide) ?_
          refine r_aload_n dX8_of_81 rfl ?_
          refine r_getfield clX8 4 (by decide) fl_X8_40 (by first | assumption | exact up_s _ _ _ | exact (up_n _ (by assumption)).trans (by assumption) | exact (up_n _ (by assumption)).trans (up_s _ _ _) | exact (up_n _ (by assumption)).trans ((up_n _ (by assumption)).trans (by assumption))) rfl dX8_of_82 ?_
          refine r_aload_n dX8_of_85 rfl ?_
          refine r_getfield clX8 0 (by decide) fl_X8_10 (by first | assumption | exact up_s _ _ _ | exact (up_n _ (by assumption)).trans (by assumption) | exact (up_n _ (by assumption)).trans (up_s _ _ _) | exact (up_n _ (by assumption)).trans ((up_n _ (by assumption)).trans (by assumption))) rfl dX8_of_86 ?_
          refine r_iload_n dX8_of_89 rfl ?_
          refine r_callV2 okX0_cut ⟨by decide, by decide⟩ ml_X8_169 (mX0_cut hbw hst hi (by omega) (by omega) (by omega) ⟨hv0, hv1⟩ ⟨hv2, hv3⟩) (by first | assumption | exact up_s _ _ _ | exact (up_n _ (by assumption)).trans (by assumption) | exact (up_n _ (by assumption)).trans (up_s _ _ _) | exact (up_n _ (by assumption)).trans ((up_n _ (by assumption)).trans (by assumption))) rfl rfl (Nat.le_of_ble_eq_true rfl) (Nat.le_of_ble_eq_true rfl) (Nat.le_of_ble_eq_true rfl) rfl dX8_of_90 (nx_tI) (kx_tI ?_)
          intro M2 hM2
          have hx2 := hx.goB hi hM2.1.w hM2.2
          have h002 := hx2.1.1
          have hob2 := hM2.1.1
          have hst2 : StP M2 ad 1 n F g := hx2.1.2.1
          have hmk := hst.mb (k := k) (by omega) (by omega)
          have hmk2 := hst2.mb (k := k) (by omega) (by omega)
          have hmn := hmk.n0
          have hbs := BkS.of hmk.2.2.1 hmk.2.2.2.1 (F k) (g 0) (g 1)
          have hnb1 := hbs.2.2.1
          have hnb2 := hbs.2.2.2.1
          refine e_ireturn dX8_of_93 rfl (Nat.le_of_ble_eq_true rfl) (Nat.le_of_ble_eq_true rfl) ?_
          exact okUX (by unfold e2; rw [if_pos hE1]; exact hE2) (by unfold ofV; rw [if_neg (by omega), if_pos (by omega)]) hx2
        · refine r_tableIn (off := 62) (tgt := 94) dX8_of_32 (by omega) (by omega) (by omega) (by rw [e32]; rfl) (by decide) ?_
          refine r_aload_n dX8_of_94 rfl ?_
          refine r_aload_n dX8_of_95 rfl ?_
          refine r_callV1 okX8_sizeOf ⟨by decide, by decide⟩ ml_X8_191 (mX8_sizeOf hx hv hi hmk) (by first | assumption | exact up_s _ _ _ | exact (up_n _ (by assumption)).trans (by assumption) | exact (up_n _ (by assumption)).trans (up_s _ _ _) | exact (up_n _ (by assumption)).trans ((up_n _ (by assumption)).trans (by assumption))) rfl rfl (Nat.le_of_ble_eq_true rfl) (Nat.le_of_ble_eq_true rfl) (Nat.le_of_ble_eq_true rfl) rfl dX8_of_96 (nx_I) (kx_I ?_)
          refine e_ireturn dX8_of_99 rfl (Nat.le_of_ble_eq_true rfl) (Nat.le_of_ble_eq_true rfl) ?_
          exact okUX (by unfold e2; rw [if_pos hE1]; exact hE2) (by unfold ofV; rw [if_neg (by omega), if_neg (by omega), if_pos (by omega)]) ⟨hx, FrI.rf⟩
        · refine r_tableIn (off := 68) (tgt := 100) dX8_of_32 (by omega) (by omega) (by omega) (by rw [e32]; rfl) (by decide) ?_
          refine r_iconst dX8_of_100 ?_
          refine r_aload_n dX8_of_101 rfl ?_
          refine r_callV0 okX5_amount ⟨by decide, by decide⟩ ml_X8_77 (mX5_amount hmk) (by first | assumption | exact up_s _ _ _ | exact (up_n _ (by assumption)).trans (by assumption) | exact (up_n _ (by assumption)).trans (up_s _ _ _) | exact (up_n _ (by assumption)).trans ((up_n _ (by assumption)).trans (by assumption))) rfl rfl (Nat.le_of_ble_eq_true rfl) (Nat.le_of_ble_eq_true rfl) (Nat.le_of_ble_eq_true rfl) rfl dX8_of_102 (nx_I) (kx_I ?_)
          refine r_imul dX8_of_105 ?_
          refine e_ireturn dX8_of_106 rfl (Nat.le_of_ble_eq_true rfl) (Nat.le_of_ble_eq_true rfl) ?_
          exact okUX (by unfold e2; rw [if_pos hE1]; exact hE2) (by unfold ofV; rw [if_neg (by omega), if_neg (by omega), if_neg (by omega), if_pos (by omega)]) ⟨hx, FrI.rf⟩
        · refine r_tableIn (off := 75) (tgt := 107) dX8_of_32 (by omega) (by omega) (by omega) (by rw [e32]; rfl) (by decide) ?_
          refine r_aload_n dX8_of_107 rfl ?_
          refine r_callV0 okX5_least ⟨by decide, by decide⟩ ml_X8_103 (mX5_least hmk) (by first | assumption | exact up_s _ _ _ | exact (up_n _ (by assumption)).trans (by assumption) | exact (up_n _ (by assumption)).trans (up_s _ _ _) | exact (up_n _ (by assumption)).trans ((up_n _ (by assumption)).trans (by assumption))) rfl rfl (Nat.le_of_ble_eq_true rfl) (Nat.le_of_ble_eq_true rfl) (Nat.le_of_ble_eq_true rfl) rfl dX8_of_108 (nx_I) (kx_I ?_)
          refine e_ireturn dX8_of_111 rfl (Nat.le_of_ble_eq_true rfl) (Nat.le_of_ble_eq_true rfl) ?_
          exact okUX (by unfold e2; rw [if_pos hE1]; exact hE2) (by unfold ofV; rw [if_neg (by omega), if_neg (by omega), if_neg (by omega), if_neg (by omega), if_pos (by omega)]) ⟨hx, FrI.rf⟩
        · refine r_tableIn (off := 80) (tgt := 112) dX8_of_32 (by omega) (by omega) (by omega) (by rw [e32]; rfl) (by decide) ?_
          refine r_aload_n dX8_of_112 rfl ?_
          refine r_callV0 okX5_greatest ⟨by decide, by decide⟩ ml_X8_106 (mX5_greatest hmk) (by first | assumption | exact up_s _ _ _ | exact (up_n _ (by assumption)).trans (by assumption) | exact (up_n _ (by assumption)).trans (up_s _ _ _) | exact (up_n _ (by assumption)).trans ((up_n _ (by assumption)).trans (by assumption))) rfl rfl (Nat.le_of_ble_eq_true rfl) (Nat.le_of_ble_eq_true rfl) (Nat.le_of_ble_eq_true rfl) rfl dX8_of_113 (nx_I) (kx_I ?_)
          refine e_ireturn dX8_of_116 rfl (Nat.le_of_ble_eq_true rfl) (Nat.le_of_ble_eq_true rfl) ?_
          exact okUX (by unfold e2; rw [if_pos hE1]; exact hE2) (by unfold ofV; rw [if_neg (by omega), if_neg (by omega), if_neg (by omega), if_neg (by omega), if_neg (by omega), if_pos (by omega)]) ⟨hx, FrI.rf⟩
        · refine r_tableIn (off := 85) (tgt := 117) dX8_of_32 (by omega) (by omega) (by omega) (by rw [e32]; rfl) (by decide) ?_
          refine r_aload_n dX8_of_117 rfl ?_
          refine r_callV0 okX5_longestRow ⟨by decide, by decide⟩ ml_X8_195 (mX5_longestRow hmk) (by first | assumption | exact up_s _ _ _ | exact (up_n _ (by assumption)).trans (by assumption) | exact (up_n _ (by assumption)).trans (up_s _ _ _) | exact (up_n _ (by assumption)).trans ((up_n _ (by assumption)).trans (by assumption))) rfl rfl (Nat.le_of_ble_eq_true rfl) (Nat.le_of_ble_eq_true rfl) (Nat.le_of_ble_eq_true rfl) rfl dX8_of_118 (nx_I) (kx_I ?_)
          refine e_ireturn dX8_of_121 rfl (Nat.le_of_ble_eq_true rfl) (Nat.le_of_ble_eq_true rfl) ?_
          exact okUX (by unfold e2; rw [if_pos hE1]; exact hE2) (by unfold ofV; rw [if_neg (by omega), if_neg (by omega), if_neg (by omega), if_neg (by omega), if_neg (by omega), if_neg (by omega), if_pos (by omega)]) ⟨hx, FrI.rf⟩
    ·
      refine r_iconst dX8_of_14 ?_
      refine r_goto (tgt := 19) dX8_of_15 (by decide) ?_
      refine r_callS1 okX8_requireArgument ⟨by decide, by decide⟩ ml_X8_96 (mX8_requireArgument (b := 0 ≤ w ∧ w ≤ 7) (by first | (rw [if_pos (by omega)]; done) | (rw [if_neg (by omega)]; done))) (Nat.le_of_ble_eq_true rfl) (Nat.le_of_ble_eq_true rfl) (Nat.le_of_ble_eq_true rfl) rfl dX8_of_19 (tUX (fun hne => by unfold e2; rw [if_pos hE1])) (kx_U ?_)
      intro hE2
      have hq9 := eA_ok hE2
      refine r_aload_n dX8_of_22 rfl ?_
      refine r_getfield clX8 0 (by decide) fl_X8_10 (by first | assumption | exact up_s _ _ _ | exact (up_n _ (by assumption)).trans (by assumption) | exact (up_n _ (by assumption)).trans (up_s _ _ _) | exact (up_n _ (by assumption)).trans ((up_n _ (by assumption)).trans (by assumption))) rfl dX8_of_23 ?_
      refine r_iload_n dX8_of_26 rfl ?_
      refine r_callV1 okX7_members ⟨by decide, by decide⟩ ml_X8_69 (mX7_members hst (by omega) (by omega)) (by first | assumption | exact up_s _ _ _ | exact (up_n _ (by assumption)).trans (by assumption) | exact (up_n _ (by assumption)).trans (up_s _ _ _) | exact (up_n _ (by assumption)).trans ((up_n _ (by assumption)).trans (by assumption))) rfl rfl (Nat.le_of_ble_eq_true rfl) (Nat.le_of_ble_eq_true rfl) (Nat.le_of_ble_eq_true rfl) rfl dX8_of_27 (nx_A) (kx_A ?_)
      have hmk := hst.mb (k := k) (by omega) (by omega)
      have hmo := hmk.1
      have hmn := hmk.n0
      refine r_astore_n dX8_of_30 (by decide) rfl ?_
      refine r_iload_n dX8_of_31 rfl ?_
      by_cases hw32 : w < 0 ∨ 6 < w
      · refine r_tableOut (tgt := 122) dX8_of_32 (by omega) hw32 (by decide) ?_
        refine r_aload_n dX8_of_122 rfl ?_
        refine r_getfield clX8 4 (by decide) fl_X8_40 (by first | assumption | exact up_s _ _ _ | exact (up_n _ (by assumption)).trans (by assumption) | exact (up_n _ (by assumption)).trans (up_s _ _ _) | exact (up_n _ (by assumption)).trans ((up_n _ (by assumption)).trans (by assumption))) rfl dX8_of_123 ?_
        refine r_aload_n dX8_of_126 rfl ?_
        refine r_getfield clX8 0 (by decide) fl_X8_10 (by first | assumption | exact up_s _ _ _ | exact (up_n _ (by assumption)).trans (by assumption) | exact (up_n _ (by assumption)).trans (up_s _ _ _) | exact (up_n _ (by assumption)).trans ((up_n _ (by assumption)).trans (by assumption))) rfl dX8_of_127 ?_
        refine r_iload_n dX8_of_130 rfl ?_
        refine r_callV2 okX0_cut ⟨by decide, by decide⟩ ml_X8_169 (mX0_cut hbw hst hi (by omega) (by omega) (by omega) ⟨hv0, hv1⟩ ⟨hv2, hv3⟩) (by first | assumption | exact up_s _ _ _ | exact (up_n _ (by assumption)).trans (by assumption) | exact (up_n _ (by assumption)).trans (up_s _ _ _) | exact (up_n _ (by assumption)).trans ((up_n _ (by assumption)).trans (by assumption))) rfl rfl (Nat.le_of_ble_eq_true rfl) (Nat.le_of_ble_eq_true rfl) (Nat.le_of_ble_eq_true rfl) rfl dX8_of_131 (nx_tI) (kx_tI ?_)
        intro M2 hM2
        have hx2 := hx.goB hi hM2.1.w hM2.2
        have h002 := hx2.1.1
        have hob2 := hM2.1.1
        have hst2 : StP M2 ad 1 n F g := hx2.1.2.1
        have hmk := hst.mb (k := k) (by omega) (by omega)
        have hmk2 := hst2.mb (k := k) (by omega) (by omega)
        have hmn := hmk.n0
        have hbs := BkS.of hmk.2.2.1 hmk.2.2.2.1 (F k) (g 0) (g 1)
        have hnb1 := hbs.2.2.1
        have hnb2 := hbs.2.2.2.1
        refine r_popI dX8_of_134 ?_
        refine r_aload_n dX8_of_135 rfl ?_
        refine r_getfield clX8 4 (by decide) fl_X8_40 (by first | assumption | exact up_s _ _ _ | exact (up_n _ (by assumption)).trans (by assumption) | exact (up_n _ (by assumption)).trans (up_s _ _ _) | exact (up_n _ (by assumption)).trans ((up_n _ (by assumption)).trans (by assumption))) rfl dX8_of_136 ?_
        refine r_callV0 okX0_wideGaps ⟨by decide, by decide⟩ ml_X8_198 (mX0_wideGaps hM2.1 hmk2) (by first | assumption | exact up_s _ _ _ | exact (up_n _ (by assumption)).trans (by assumption) | exact (up_n _ (by assumption)).trans (up_s _ _ _) | exact (up_n _ (by assumption)).trans ((up_n _ (by assumption)).trans (by assumption))) rfl rfl (Nat.le_of_ble_eq_true rfl) (Nat.le_of_ble_eq_true rfl) (Nat.le_of_ble_eq_true rfl) rfl dX8_of_139 (nx_I) (kx_I ?_)
        refine e_ireturn dX8_of_142 rfl (Nat.le_of_ble_eq_true rfl) (Nat.le_of_ble_eq_true rfl) ?_
        exact okUX (by unfold e2; rw [if_pos hE1]; exact hE2) (by unfold ofV; rw [if_neg (by omega), if_neg (by omega), if_neg (by omega), if_neg (by omega), if_neg (by omega), if_neg (by omega), if_neg (by omega)]) hx2
      · rcases (show w = 0 ∨ w = 1 ∨ w = 2 ∨ w = 3 ∨ w = 4 ∨ w = 5 ∨ w = 6 by omega) with e32 | e32 | e32 | e32 | e32 | e32 | e32
        · refine r_tableIn (off := 44) (tgt := 76) dX8_of_32 (by omega) (by omega) (by omega) (by rw [e32]; rfl) (by decide) ?_
          refine r_aload_n dX8_of_76 rfl ?_
          refine r_callV0 okX5_amount ⟨by decide, by decide⟩ ml_X8_77 (mX5_amount hmk) (by first | assumption | exact up_s _ _ _ | exact (up_n _ (by assumption)).trans (by assumption) | exact (up_n _ (by assumption)).trans (up_s _ _ _) | exact (up_n _ (by assumption)).trans ((up_n _ (by assumption)).trans (by assumption))) rfl rfl (Nat.le_of_ble_eq_true rfl) (Nat.le_of_ble_eq_true rfl) (Nat.le_of_ble_eq_true rfl) rfl dX8_of_77 (nx_I) (kx_I ?_)
          refine e_ireturn dX8_of_80 rfl (Nat.le_of_ble_eq_true rfl) (Nat.le_of_ble_eq_true rfl) ?_
          exact okUX (by unfold e2; rw [if_pos hE1]; exact hE2) (by unfold ofV; rw [if_pos (by omega)]) ⟨hx, FrI.rf⟩
        · refine r_tableIn (off := 49) (tgt := 81) dX8_of_32 (by omega) (by omega) (by omega) (by rw [e32]; rfl) (by decide) ?_
          refine r_aload_n dX8_of_81 rfl ?_
          refine r_getfield clX8 4 (by decide) fl_X8_40 (by first | assumption | exact up_s _ _ _ | exact (up_n _ (by assumption)).trans (by assumption) | exact (up_n _ (by assumption)).trans (up_s _ _ _) | exact (up_n _ (by assumption)).trans ((up_n _ (by assumption)).trans (by assumption))) rfl dX8_of_82 ?_
          refine r_aload_n dX8_of_85 rfl ?_
          refine r_getfield clX8 0 (by decide) fl_X8_10 (by first | assumption | exact up_s _ _ _ | exact (up_n _ (by assumption)).trans (by assumption) | exact (up_n _ (by assumption)).trans (up_s _ _ _) | exact (up_n _ (by assumption)).trans ((up_n _ (by assumption)).trans (by assumption))) rfl dX8_of_86 ?_
          refine r_iload_n dX8_of_89 rfl ?_
          refine r_callV2 okX0_cut ⟨by decide, by decide⟩ ml_X8_169 (mX0_cut hbw hst hi (by omega) (by omega) (by omega) ⟨hv0, hv1⟩ ⟨hv2, hv3⟩) (by first | assumption | exact up_s _ _ _ | exact (up_n _ (by assumption)).trans (by assumption) | exact (up_n _ (by assumption)).trans (up_s _ _ _) | exact (up_n _ (by assumption)).trans ((up_n _ (by assumption)).trans (by assumption))) rfl rfl (Nat.le_of_ble_eq_true rfl) (Nat.le_of_ble_eq_true rfl) (Nat.le_of_ble_eq_true rfl) rfl dX8_of_90 (nx_tI) (kx_tI ?_)
          intro M2 hM2
          have hx2 := hx.goB hi hM2.1.w hM2.2
          have h002 := hx2.1.1
          have hob2 := hM2.1.1
          have hst2 : StP M2 ad 1 n F g := hx2.1.2.1
          have hmk := hst.mb (k := k) (by omega) (by omega)
          have hmk2 := hst2.mb (k := k) (by omega) (by omega)
          have hmn := hmk.n0
          have hbs := BkS.of hmk.2.2.1 hmk.2.2.2.1 (F k) (g 0) (g 1)
          have hnb1 := hbs.2.2.1
          have hnb2 := hbs.2.2.2.1
          refine e_ireturn dX8_of_93 rfl (Nat.le_of_ble_eq_true rfl) (Nat.le_of_ble_eq_true rfl) ?_
          exact okUX (by unfold e2; rw [if_pos hE1]; exact hE2) (by unfold ofV; rw [if_neg (by omega), if_pos (by omega)]) hx2
        · refine r_tableIn (off := 62) (tgt := 94) dX8_of_32 (by omega) (by omega) (by omega) (by rw [e32]; rfl) (by decide) ?_
          refine r_aload_n dX8_of_94 rfl ?_
          refine r_aload_n dX8_of_95 rfl ?_
          refine r_callV1 okX8_sizeOf ⟨by decide, by decide⟩ ml_X8_191 (mX8_sizeOf hx hv hi hmk) (by first | assumption | exact up_s _ _ _ | exact (up_n _ (by assumption)).trans (by assumption) | exact (up_n _ (by assumption)).trans (up_s _ _ _) | exact (up_n _ (by assumption)).trans ((up_n _ (by assumption)).trans (by assumption))) rfl rfl (Nat.le_of_ble_eq_true rfl) (Nat.le_of_ble_eq_true rfl) (Nat.le_of_ble_eq_true rfl) rfl dX8_of_96 (nx_I) (kx_I ?_)
          refine e_ireturn dX8_of_99 rfl (Nat.le_of_ble_eq_true rfl) (Nat.le_of_ble_eq_true rfl) ?_
          exact okUX (by unfold e2; rw [if_pos hE1]; exact hE2) (by unfold ofV; rw [if_neg (by omega), if_neg (by omega), if_pos (by omega)]) ⟨hx, FrI.rf⟩
        · refine r_tableIn (off := 68) (tgt := 100) dX8_of_32 (by omega) (by omega) (by omega) (by rw [e32]; rfl) (by decide) ?_
          refine r_iconst dX8_of_100 ?_
          refine r_aload_n dX8_of_101 rfl ?_
          refine r_callV0 okX5_amount ⟨by decide, by decide⟩ ml_X8_77 (mX5_amount hmk) (by first | assumption | exact up_s _ _ _ | exact (up_n _ (by assumption)).trans (by assumption) | exact (up_n _ (by assumption)).trans (up_s _ _ _) | exact (up_n _ (by assumption)).trans ((up_n _ (by assumption)).trans (by assumption))) rfl rfl (Nat.le_of_ble_eq_true rfl) (Nat.le_of_ble_eq_true rfl) (Nat.le_of_ble_eq_true rfl) rfl dX8_of_102 (nx_I) (kx_I ?_)
          refine r_imul dX8_of_105 ?_
          refine e_ireturn dX8_of_106 rfl (Nat.le_of_ble_eq_true rfl) (Nat.le_of_ble_eq_true rfl) ?_
          exact okUX (by unfold e2; rw [if_pos hE1]; exact hE2) (by unfold ofV; rw [if_neg (by omega), if_neg (by omega), if_neg (by omega), if_pos (by omega)]) ⟨hx, FrI.rf⟩
        · refine r_tableIn (off := 75) (tgt := 107) dX8_of_32 (by omega) (by omega) (by omega) (by rw [e32]; rfl) (by decide) ?_
          refine r_aload_n dX8_of_107 rfl ?_
          refine r_callV0 okX5_least ⟨by decide, by decide⟩ ml_X8_103 (mX5_least hmk) (by first | assumption | exact up_s _ _ _ | exact (up_n _ (by assumption)).trans (by assumption) | exact (up_n _ (by assumption)).trans (up_s _ _ _) | exact (up_n _ (by assumption)).trans ((up_n _ (by assumption)).trans (by assumption))) rfl rfl (Nat.le_of_ble_eq_true rfl) (Nat.le_of_ble_eq_true rfl) (Nat.le_of_ble_eq_true rfl) rfl dX8_of_108 (nx_I) (kx_I ?_)
          refine e_ireturn dX8_of_111 rfl (Nat.le_of_ble_eq_true rfl) (Nat.le_of_ble_eq_true rfl) ?_
          exact okUX (by unfold e2; rw [if_pos hE1]; exact hE2) (by unfold ofV; rw [if_neg (by omega), if_neg (by omega), if_neg (by omega), if_neg (by omega), if_pos (by omega)]) ⟨hx, FrI.rf⟩
        · refine r_tableIn (off := 80) (tgt := 112) dX8_of_32 (by omega) (by omega) (by omega) (by rw [e32]; rfl) (by decide) ?_
          refine r_aload_n dX8_of_112 rfl ?_
          refine r_callV0 okX5_greatest ⟨by decide, by decide⟩ ml_X8_106 (mX5_greatest hmk) (by first | assumption | exact up_s _ _ _ | exact (up_n _ (by assumption)).trans (by assumption) | exact (up_n _ (by assumption)).trans (up_s _ _ _) | exact (up_n _ (by assumption)).trans ((up_n _ (by assumption)).trans (by assumption))) rfl rfl (Nat.le_of_ble_eq_true rfl) (Nat.le_of_ble_eq_true rfl) (Nat.le_of_ble_eq_true rfl) rfl dX8_of_113 (nx_I) (kx_I ?_)
          refine e_ireturn dX8_of_116 rfl (Nat.le_of_ble_eq_true rfl) (Nat.le_of_ble_eq_true rfl) ?_
          exact okUX (by unfold e2; rw [if_pos hE1]; exact hE2) (by unfold ofV; rw [if_neg (by omega), if_neg (by omega), if_neg (by omega), if_neg (by omega), if_neg (by omega), if_pos (by omega)]) ⟨hx, FrI.rf⟩
        · refine r_tableIn (off := 85) (tgt := 117) dX8_of_32 (by omega) (by omega) (by omega) (by rw [e32]; rfl) (by decide) ?_
          refine r_aload_n dX8_of_117 rfl ?_
          refine r_callV0 okX5_longestRow ⟨by decide, by decide⟩ ml_X8_195 (mX5_longestRow hmk) (by first | assumption | exact up_s _ _ _ | exact (up_n _ (by assumption)).trans (by assumption) | exact (up_n _ (by assumption)).trans (up_s _ _ _) | exact (up_n _ (by assumption)).trans ((up_n _ (by assumption)).trans (by assumption))) rfl rfl (Nat.le_of_ble_eq_true rfl) (Nat.le_of_ble_eq_true rfl) (Nat.le_of_ble_eq_true rfl) rfl dX8_of_118 (nx_I) (kx_I ?_)
          refine e_ireturn dX8_of_121 rfl (Nat.le_of_ble_eq_true rfl) (Nat.le_of_ble_eq_true rfl) ?_
          exact okUX (by unfold e2; rw [if_pos hE1]; exact hE2) (by unfold ofV; rw [if_neg (by omega), if_neg (by omega), if_neg (by omega), if_neg (by omega), if_neg (by omega), if_neg (by omega), if_pos (by omega)]) ⟨hx, FrI.rf⟩

set_option maxHeartbeats 4000000 in
theorem mX8_of_ok {M : Mem} {ad : Int → Nat} {n : Int → Int} {F : Int → Int → Int} {g : Int → Int} {m : Int} {S : Int → Sg3} {len : Int} {c : Int → Int} {k w : Int} {bc bs : Nat} (hx : XSt M ad (n, F, g) m S len c) (hv : Vld (n, F, g)) (hi : Inj ad) (q0 : R32 k) (q1 : R32 w) (hk9 : 0 ≤ k ∧ k < 4) (hq9 : 0 ≤ w ∧ w ≤ 7) : Ct KX8_of [.ref (ad 0), vI k, vI w] M bc bs (atI (ofV (n k) (F k) g w) (fun M2 => XSt M2 ad (n, F, g) m S len c ∧ FrI ad 0 112 M M2)) := by
  refine Ct.of _ (by decide) rfl (Nat.le_of_ble_eq_true rfl) ?_
  obtain ⟨h00, hst, hhs, hbf, hpw, hbw, hmw, ⟨tn, tF, htr⟩, ⟨wn, wF, hwi⟩⟩ := id hx
  obtain ⟨hvs, hv0, hv1, hv2, hv3⟩ := id hv
  change StP _ ad 1 n F g at hst
  dsimp only at hvs hv0 hv1 hv2 hv3
  have hob1 := hst.1
  obtain ⟨hh_1, hh_2, hh_3, hh_4, hh_5, hho, -⟩ := id hhs
  have hob94 := hbf.1
  obtain ⟨⟨y1, y2, y3, y4, y5, y6, hob96⟩, -, -⟩ := id hpw
  obtain ⟨z1, z2, z3, hob99, -⟩ := id hbw
  obtain ⟨⟨u1, hob101⟩, -, -⟩ := id hmw
  have hob108 := htr.1
  have hob110 := hwi.1
  refine r_iload_n dX8_of_0 rfl ?_
  refine r_callS1 okX8_requireSet ⟨by decide, by decide⟩ ml_X8_63 (mX8_requireSet_ok (bc := 0) (bs := 0) (by omega)) (Nat.le_of_ble_eq_true rfl) (by omega) (by omega) rfl dX8_of_1 (nx_V) (kx_V ?_)
  refine r_iload_n dX8_of_4 rfl ?_
  refine r_if_lt (tgt := 18) dX8_of_5 (by decide) (by omega) (fun h5 => ?_) (fun h5 => ?_)
  ·
    refine r_iconst dX8_of_18 ?_
    refine r_callS1 okX8_requireArgument ⟨by decide, by decide⟩ ml_X8_96 (mX8_requireArgument_ok (bc := 0) (bs := 0) (by omega)) (Nat.le_of_ble_eq_true rfl) (by omega) (by omega) rfl dX8_of_19 (nx_V) (kx_V ?_)
    refine r_aload_n dX8_of_22 rfl ?_
    refine r_getfield clX8 0 (by decide) fl_X8_10 (by first | assumption | exact up_s _ _ _ | exact (up_n _ (by assumption)).trans (by assumption) | exact (up_n _ (by assumption)).trans (up_s _ _ _) | exact (up_n _ (by assumption)).trans ((up_n _ (by assumption)).trans (by assumption))) rfl dX8_of_23 ?_
    refine r_iload_n dX8_of_26 rfl ?_
    refine r_callV1 okX7_members ⟨by decide, by decide⟩ ml_X8_69 (mX7_members hst (by omega) (by omega)) (by first | assumption | exact up_s _ _ _ | exact (up_n _ (by assumption)).trans (by assumption) | exact (up_n _ (by assumption)).trans (up_s _ _ _) | exact (up_n _ (by assumption)).trans ((up_n _ (by assumption)).trans (by assumption))) rfl rfl (Nat.le_of_ble_eq_true rfl) (by omega) (by omega) rfl dX8_of_27 (nx_A) (kx_A ?_)
    have hmk := hst.mb (k := k) (by omega) (by omega)
    have hmo := hmk.1
    have hmn := hmk.n0
    refine r_astore_n dX8_of_30 (by decide) rfl ?_
    refine r_iload_n dX8_of_31 rfl ?_
    by_cases hw32 : w < 0 ∨ 6 < w
    · refine r_tableOut (tgt := 122) dX8_of_32 (by omega) hw32 (by decide) ?_
      refine r_aload_n dX8_of_122 rfl ?_
      refine r_getfield clX8 4 (by decide) fl_X8_40 (by first | assumption | exact up_s _ _ _ | exact (up_n _ (by assumption)).trans (by assumption) | exact (up_n _ (by assumption)).trans (up_s _ _ _) | exact (up_n _ (by assumption)).trans ((up_n _ (by assumption)).trans (by assumption))) rfl dX8_of_123 ?_
      refine r_aload_n dX8_of_126 rfl ?_
      refine r_getfield clX8 0 (by decide) fl_X8_10 (by first | assumption | exact up_s _ _ _ | exact (up_n _ (by assumption)).trans (by assumption) | exact (up_n _ (by assumption)).trans (up_s _ _ _) | exact (up_n _ (by assumption)).trans ((up_n _ (by assumption)).trans (by assumption))) rfl dX8_of_127 ?_
      refine r_iload_n dX8_of_130 rfl ?_
      refine r_callV2 okX0_cut ⟨by decide, by decide⟩ ml_X8_169 (mX0_cut hbw hst hi (by omega) (by omega) (by omega) ⟨hv0, hv1⟩ ⟨hv2, hv3⟩) (by first | assumption | exact up_s _ _ _ | exact (up_n _ (by assumption)).trans (by assumption) | exact (up_n _ (by assumption)).trans (up_s _ _ _) | exact (up_n _ (by assumption)).trans ((up_n _ (by assumption)).trans (by assumption))) rfl rfl (Nat.le_of_ble_eq_true rfl) (by omega) (by omega) rfl dX8_of_131 (nx_tI) (kx_tI ?_)
      intro M2 hM2
      have hx2 := hx.goB hi hM2.1.w hM2.2
      have h002 := hx2.1.1
      have hob2 := hM2.1.1
      have hst2 : StP M2 ad 1 n F g := hx2.1.2.1
      have hmk := hst.mb (k := k) (by omega) (by omega)
      have hmk2 := hst2.mb (k := k) (by omega) (by omega)
      have hmn := hmk.n0
      have hbs := BkS.of hmk.2.2.1 hmk.2.2.2.1 (F k) (g 0) (g 1)
      have hnb1 := hbs.2.2.1
      have hnb2 := hbs.2.2.2.1
      refine r_popI dX8_of_134 ?_
      refine r_aload_n dX8_of_135 rfl ?_
      refine r_getfield clX8 4 (by decide) fl_X8_40 (by first | assumption | exact up_s _ _ _ | exact (up_n _ (by assumption)).trans (by assumption) | exact (up_n _ (by assumption)).trans (up_s _ _ _) | exact (up_n _ (by assumption)).trans ((up_n _ (by assumption)).trans (by assumption))) rfl dX8_of_136 ?_
      refine r_callV0 okX0_wideGaps ⟨by decide, by decide⟩ ml_X8_198 (mX0_wideGaps hM2.1 hmk2) (by first | assumption | exact up_s _ _ _ | exact (up_n _ (by assumption)).trans (by assumption) | exact (up_n _ (by assumption)).trans (up_s _ _ _) | exact (up_n _ (by assumption)).trans ((up_n _ (by assumption)).trans (by assumption))) rfl rfl (Nat.le_of_ble_eq_true rfl) (by omega) (by omega) rfl dX8_of_139 (nx_I) (kx_I ?_)
      refine e_ireturn dX8_of_142 rfl (by omega) (by omega) ?_
      exact oktI (by unfold ofV; rw [if_neg (by omega), if_neg (by omega), if_neg (by omega), if_neg (by omega), if_neg (by omega), if_neg (by omega), if_neg (by omega)]) hx2
    · rcases (show w = 0 ∨ w = 1 ∨ w = 2 ∨ w = 3 ∨ w = 4 ∨ w = 5 ∨ w = 6 by omega) with e32 | e32 | e32 | e32 | e32 | e32 | e32
      · refine r_tableIn (off := 44) (tgt := 76) dX8_of_32 (by omega) (by omega) (by omega) (by rw [e32]; rfl) (by decide) ?_
        refine r_aload_n dX8_of_76 rfl ?_
        refine r_callV0 okX5_amount ⟨by decide, by decide⟩ ml_X8_77 (mX5_amount hmk) (by first | assumption | exact up_s _ _ _ | exact (up_n _ (by assumption)).trans (by assumption) | exact (up_n _ (by assumption)).trans (up_s _ _ _) | exact (up_n _ (by assumption)).trans ((up_n _ (by assumption)).trans (by assumption))) rfl rfl (Nat.le_of_ble_eq_true rfl) (by omega) (by omega) rfl dX8_of_77 (nx_I) (kx_I ?_)
        refine e_ireturn dX8_of_80 rfl (by omega) (by omega) ?_
        exact oktI (by unfold ofV; rw [if_pos (by omega)]) ⟨hx, FrI.rf⟩
      · refine r_tableIn (off := 49) (tgt := 81) dX8_of_32 (by omega) (by omega) (by omega) (by rw [e32]; rfl) (by decide) ?_
        refine r_aload_n dX8_of_81 rfl ?_
        refine r_getfield clX8 4 (by decide) fl_X8_40 (by first | assumption | exact up_s _ _ _ | exact (up_n _ (by assumption)).trans (by assumption) | exact (up_n _ (by assumption)).trans (up_s _ _ _) | exact (up_n _ (by assumption)).trans ((up_n _ (by assumption)).trans (by assumption))) rfl dX8_of_82 ?_
        refine r_aload_n dX8_of_85 rfl ?_
        refine r_getfield clX8 0 (by decide) fl_X8_10 (by first | assumption | exact up_s _ _ _ | exact (up_n _ (by assumption)).trans (by assumption) | exact (up_n _ (by assumption)).trans (up_s _ _ _) | exact (up_n _ (by assumption)).trans ((up_n _ (by assumption)).trans (by assumption))) rfl dX8_of_86 ?_
        refine r_iload_n dX8_of_89 rfl ?_
        refine r_callV2 okX0_cut ⟨by decide, by decide⟩ ml_X8_169 (mX0_cut hbw hst hi (by omega) (by omega) (by omega) ⟨hv0, hv1⟩ ⟨hv2, hv3⟩) (by first | assumption | exact up_s _ _ _ | exact (up_n _ (by assumption)).trans (by assumption) | exact (up_n _ (by assumption)).trans (up_s _ _ _) | exact (up_n _ (by assumption)).trans ((up_n _ (by assumption)).trans (by assumption))) rfl rfl (Nat.le_of_ble_eq_true rfl) (by omega) (by omega) rfl dX8_of_90 (nx_tI) (kx_tI ?_)
        intro M2 hM2
        have hx2 := hx.goB hi hM2.1.w hM2.2
        have h002 := hx2.1.1
        have hob2 := hM2.1.1
        have hst2 : StP M2 ad 1 n F g := hx2.1.2.1
        have hmk := hst.mb (k := k) (by omega) (by omega)
        have hmk2 := hst2.mb (k := k) (by omega) (by omega)
        have hmn := hmk.n0
        have hbs := BkS.of hmk.2.2.1 hmk.2.2.2.1 (F k) (g 0) (g 1)
        have hnb1 := hbs.2.2.1
        have hnb2 := hbs.2.2.2.1
        refine e_ireturn dX8_of_93 rfl (by omega) (by omega) ?_
        exact oktI (by unfold ofV; rw [if_neg (by omega), if_pos (by omega)]) hx2
      · refine r_tableIn (off := 62) (tgt := 94) dX8_of_32 (by omega) (by omega) (by omega) (by rw [e32]; rfl) (by decide) ?_
        refine r_aload_n dX8_of_94 rfl ?_
        refine r_aload_n dX8_of_95 rfl ?_
        refine r_callV1 okX8_sizeOf ⟨by decide, by decide⟩ ml_X8_191 (mX8_sizeOf hx hv hi hmk) (by first | assumption | exact up_s _ _ _ | exact (up_n _ (by assumption)).trans (by assumption) | exact (up_n _ (by assumption)).trans (up_s _ _ _) | exact (up_n _ (by assumption)).trans ((up_n _ (by assumption)).trans (by assumption))) rfl rfl (Nat.le_of_ble_eq_true rfl) (by omega) (by omega) rfl dX8_of_96 (nx_I) (kx_I ?_)
        refine e_ireturn dX8_of_99 rfl (by omega) (by omega) ?_
        exact oktI (by unfold ofV; rw [if_neg (by omega), if_neg (by omega), if_pos (by omega)]) ⟨hx, FrI.rf⟩
      · refine r_tableIn (off := 68) (tgt := 100) dX8_of_32 (by omega) (by omega) (by omega) (by rw [e32]; rfl) (by decide) ?_
        refine r_iconst dX8_of_100 ?_
        refine r_aload_n dX8_of_101 rfl ?_
        refine r_callV0 okX5_amount ⟨by decide, by decide⟩ ml_X8_77 (mX5_amount hmk) (by first | assumption | exact up_s _ _ _ | exact (up_n _ (by assumption)).trans (by assumption) | exact (up_n _ (by assumption)).trans (up_s _ _ _) | exact (up_n _ (by assumption)).trans ((up_n _ (by assumption)).trans (by assumption))) rfl rfl (Nat.le_of_ble_eq_true rfl) (by omega) (by omega) rfl dX8_of_102 (nx_I) (kx_I ?_)
        refine r_imul dX8_of_105 ?_
        refine e_ireturn dX8_of_106 rfl (by omega) (by omega) ?_
        exact oktI (by unfold ofV; rw [if_neg (by omega), if_neg (by omega), if_neg (by omega), if_pos (by omega)]) ⟨hx, FrI.rf⟩
      · refine r_tableIn (off := 75) (tgt := 107) dX8_of_32 (by omega) (by omega) (by omega) (by rw [e32]; rfl) (by decide) ?_
        refine r_aload_n dX8_of_107 rfl ?_
        refine r_callV0 okX5_least ⟨by decide, by decide⟩ ml_X8_103 (mX5_least hmk) (by first | assumption | exact up_s _ _ _ | exact (up_n _ (by assumption)).trans (by assumption) | exact (up_n _ (by assumption)).trans (up_s _ _ _) | exact (up_n _ (by assumption)).trans ((up_n _ (by assumption)).trans (by assumption))) rfl rfl (Nat.le_of_ble_eq_true rfl) (by omega) (by omega) rfl dX8_of_108 (nx_I) (kx_I ?_)
        refine e_ireturn dX8_of_111 rfl (by omega) (by omega) ?_
        exact oktI (by unfold ofV; rw [if_neg (by omega), if_neg (by omega), if_neg (by omega), if_neg (by omega), if_pos (by omega)]) ⟨hx, FrI.rf⟩
      · refine r_tableIn (off := 80) (tgt := 112) dX8_of_32 (by omega) (by omega) (by omega) (by rw [e32]; rfl) (by decide) ?_
        refine r_aload_n dX8_of_112 rfl ?_
        refine r_callV0 okX5_greatest ⟨by decide, by decide⟩ ml_X8_106 (mX5_greatest hmk) (by first | assumption | exact up_s _ _ _ | exact (up_n _ (by assumption)).trans (by assumption) | exact (up_n _ (by assumption)).trans (up_s _ _ _) | exact (up_n _ (by assumption)).trans ((up_n _ (by assumption)).trans (by assumption))) rfl rfl (Nat.le_of_ble_eq_true rfl) (by omega) (by omega) rfl dX8_of_113 (nx_I) (kx_I ?_)
        refine e_ireturn dX8_of_116 rfl (by omega) (by omega) ?_
        exact oktI (by unfold ofV; rw [if_neg (by omega), if_neg (by omega), if_neg (by omega), if_neg (by omega), if_neg (by omega), if_pos (by omega)]) ⟨hx, FrI.rf⟩
      · refine r_tableIn (off := 85) (tgt := 117) dX8_of_32 (by omega) (by omega) (by omega) (by rw [e32]; rfl) (by decide) ?_
        refine r_aload_n dX8_of_117 rfl ?_
        refine r_callV0 okX5_longestRow ⟨by decide, by decide⟩ ml_X8_195 (mX5_longestRow hmk) (by first | assumption | exact up_s _ _ _ | exact (up_n _ (by assumption)).trans (by assumption) | exact (up_n _ (by assumption)).trans (up_s _ _ _) | exact (up_n _ (by assumption)).trans ((up_n _ (by assumption)).trans (by assumption))) rfl rfl (Nat.le_of_ble_eq_true rfl) (by omega) (by omega) rfl dX8_of_118 (nx_I) (kx_I ?_)
        refine e_ireturn dX8_of_121 rfl (by omega) (by omega) ?_
        exact oktI (by unfold ofV; rw [if_neg (by omega), if_neg (by omega), if_neg (by omega), if_neg (by omega), if_neg (by omega), if_neg (by omega), if_pos (by omega)]) ⟨hx, FrI.rf⟩
  ·
    refine r_iload_n dX8_of_8 rfl ?_
    refine r_bipush dX8_of_9 (by decide) ?_
    refine r_icmp_gt (tgt := 18) dX8_of_11 (by decide) (by omega) (by omega) (fun h11 => ?_) (fun h11 => ?_)
    ·
      refine r_iconst dX8_of_18 ?_
      refine r_callS1 okX8_requireArgument ⟨by decide, by decide⟩ ml_X8_96 (mX8_requireArgument_ok (bc := 0) (bs := 0) (by omega)) (Nat.le_of_ble_eq_true rfl) (by omega) (by omega) rfl dX8_of_19 (nx_V) (kx_V ?_)
      refine r_aload_n dX8_of_22 rfl ?_
      refine r_getfield clX8 0 (by decide) fl_X8_10 (by first | assumption | exact up_s _ _ _ | exact (up_n _ (by assumption)).trans (by assumption) | exact (up_n _ (by assumption)).trans (up_s _ _ _) | exact (up_n _ (by assumption)).trans ((up_n _ (by assumption)).trans (by assumption))) rfl dX8_of_23 ?_
      refine r_iload_n dX8_of_26 rfl ?_
      refine r_callV1 okX7_members ⟨by decide, by decide⟩ ml_X8_69 (mX7_members hst (by omega) (by omega)) (by first | assumption | exact up_s _ _ _ | exact (up_n _ (by assumption)).trans (by assumption) | exact (up_n _ (by assumption)).trans (up_s _ _ _) | exact (up_n _ (by assumption)).trans ((up_n _ (by assumption)).trans (by assumption))) rfl rfl (Nat.le_of_ble_eq_true rfl) (by omega) (by omega) rfl dX8_of_27 (nx_A) (kx_A ?_)
      have hmk := hst.mb (k := k) (by omega) (by omega)
      have hmo := hmk.1
      have hmn := hmk.n0
      refine r_astore_n dX8_of_30 (by decide) rfl ?_
      refine r_iload_n dX8_of_31 rfl ?_
      by_cases hw32 : w < 0 ∨ 6 < w
      · refine r_tableOut (tgt := 122) dX8_of_32 (by omega) hw32 (by decide) ?_
        refine r_aload_n dX8_of_122 rfl ?_
        refine r_getfield clX8 4 (by decide) fl_X8_40 (by first | assumption | exact up_s _ _ _ | exact (up_n _ (by assumption)).trans (by assumption) | exact (up_n _ (by assumption)).trans (up_s _ _ _) | exact (up_n _ (by assumption)).trans ((up_n _ (by assumption)).trans (by assumption))) rfl dX8_of_123 ?_
        refine r_aload_n dX8_of_126 rfl ?_
        refine r_getfield clX8 0 (by decide) fl_X8_10 (by first | assumption | exact up_s _ _ _ | exact (up_n _ (by assumption)).trans (by assumption) | exact (up_n _ (by assumption)).trans (up_s _ _ _) | exact (up_n _ (by assumption)).trans ((up_n _ (by assumption)).trans (by assumption))) rfl dX8_of_127 ?_
        refine r_iload_n dX8_of_130 rfl ?_
        refine r_callV2 okX0_cut ⟨by decide, by decide⟩ ml_X8_169 (mX0_cut hbw hst hi (by omega) (by omega) (by omega) ⟨hv0, hv1⟩ ⟨hv2, hv3⟩) (by first | assumption | exact up_s _ _ _ | exact (up_n _ (by assumption)).trans (by assumption) | exact (up_n _ (by assumption)).trans (up_s _ _ _) | exact (up_n _ (by assumption)).trans ((up_n _ (by assumption)).trans (by assumption))) rfl rfl (Nat.le_of_ble_eq_true rfl) (by omega) (by omega) rfl dX8_of_131 (nx_tI) (kx_tI ?_)
        intro M2 hM2
        have hx2 := hx.goB hi hM2.1.w hM2.2
        have h002 := hx2.1.1
        have hob2 := hM2.1.1
        have hst2 : StP M2 ad 1 n F g := hx2.1.2.1
        have hmk := hst.mb (k := k) (by omega) (by omega)
        have hmk2 := hst2.mb (k := k) (by omega) (by omega)
        have hmn := hmk.n0
        have hbs := BkS.of hmk.2.2.1 hmk.2.2.2.1 (F k) (g 0) (g 1)
        have hnb1 := hbs.2.2.1
        have hnb2 := hbs.2.2.2.1
        refine r_popI dX8_of_134 ?_
        refine r_aload_n dX8_of_135 rfl ?_
        refine r_getfield clX8 4 (by decide) fl_X8_40 (by first | assumption | exact up_s _ _ _ | exact (up_n _ (by assumption)).trans (by assumption) | exact (up_n _ (by assumption)).trans (up_s _ _ _) | exact (up_n _ (by assumption)).trans ((up_n _ (by assumption)).trans (by assumption))) rfl dX8_of_136 ?_
        refine r_callV0 okX0_wideGaps ⟨by decide, by decide⟩ ml_X8_198 (mX0_wideGaps hM2.1 hmk2) (by first | assumption | exact up_s _ _ _ | exact (up_n _ (by assumption)).trans (by assumption) | exact (up_n _ (by assumption)).trans (up_s _ _ _) | exact (up_n _ (by assumption)).trans ((up_n _ (by assumption)).trans (by assumption))) rfl rfl (Nat.le_of_ble_eq_true rfl) (by omega) (by omega) rfl dX8_of_139 (nx_I) (kx_I ?_)
        refine e_ireturn dX8_of_142 rfl (by omega) (by omega) ?_
        exact oktI (by unfold ofV; rw [if_neg (by omega), if_neg (by omega), if_neg (by omega), if_neg (by omega), if_neg (by omega), if_neg (by omega), if_neg (by omega)]) hx2
      · rcases (show w = 0 ∨ w = 1 ∨ w = 2 ∨ w = 3 ∨ w = 4 ∨ w = 5 ∨ w = 6 by omega) with e32 | e32 | e32 | e32 | e32 | e32 | e32
        · refine r_tableIn (off := 44) (tgt := 76) dX8_of_32 (by omega) (by omega) (by omega) (by rw [e32]; rfl) (by decide) ?_
          refine r_aload_n dX8_of_76 rfl ?_
          refine r_callV0 okX5_amount ⟨by decide, by decide⟩ ml_X8_77 (mX5_amount hmk) (by first | assumption | exact up_s _ _ _ | exact (up_n _ (by assumption)).trans (by assumption) | exact (up_n _ (by assumption)).trans (up_s _ _ _) | exact (up_n _ (by assumption)).trans ((up_n _ (by assumption)).trans (by assumption))) rfl rfl (Nat.le_of_ble_eq_true rfl) (by omega) (by omega) rfl dX8_of_77 (nx_I) (kx_I ?_)
          refine e_ireturn dX8_of_80 rfl (by omega) (by omega) ?_
          exact oktI (by unfold ofV; rw [if_pos (by omega)]) ⟨hx, FrI.rf⟩
        · refine r_tableIn (off := 49) (tgt := 81) dX8_of_32 (by omega) (by omega) (by omega) (by rw [e32]; rfl) (by decide) ?_
          refine r_aload_n dX8_of_81 rfl ?_
          refine r_getfield clX8 4 (by decide) fl_X8_40 (by first | assumption | exact up_s _ _ _ | exact (up_n _ (by assumption)).trans (by assumption) | exact (up_n _ (by assumption)).trans (up_s _ _ _) | exact (up_n _ (by assumption)).trans ((up_n _ (by assumption)).trans (by assumption))) rfl dX8_of_82 ?_
          refine r_aload_n dX8_of_85 rfl ?_
          refine r_getfield clX8 0 (by decide) fl_X8_10 (by first | assumption | exact up_s _ _ _ | exact (up_n _ (by assumption)).trans (by assumption) | exact (up_n _ (by assumption)).trans (up_s _ _ _) | exact (up_n _ (by assumption)).trans ((up_n _ (by assumption)).trans (by assumption))) rfl dX8_of_86 ?_
          refine r_iload_n dX8_of_89 rfl ?_
          refine r_callV2 okX0_cut ⟨by decide, by decide⟩ ml_X8_169 (mX0_cut hbw hst hi (by omega) (by omega) (by omega) ⟨hv0, hv1⟩ ⟨hv2, hv3⟩) (by first | assumption | exact up_s _ _ _ | exact (up_n _ (by assumption)).trans (by assumption) | exact (up_n _ (by assumption)).trans (up_s _ _ _) | exact (up_n _ (by assumption)).trans ((up_n _ (by assumption)).trans (by assumption))) rfl rfl (Nat.le_of_ble_eq_true rfl) (by omega) (by omega) rfl dX8_of_90 (nx_tI) (kx_tI ?_)
          intro M2 hM2
          have hx2 := hx.goB hi hM2.1.w hM2.2
          have h002 := hx2.1.1
          have hob2 := hM2.1.1
          have hst2 : StP M2 ad 1 n F g := hx2.1.2.1
          have hmk := hst.mb (k := k) (by omega) (by omega)
          have hmk2 := hst2.mb (k := k) (by omega) (by omega)
          have hmn := hmk.n0
          have hbs := BkS.of hmk.2.2.1 hmk.2.2.2.1 (F k) (g 0) (g 1)
          have hnb1 := hbs.2.2.1
          have hnb2 := hbs.2.2.2.1
          refine e_ireturn dX8_of_93 rfl (by omega) (by omega) ?_
          exact oktI (by unfold ofV; rw [if_neg (by omega), if_pos (by omega)]) hx2
        · refine r_tableIn (off := 62) (tgt := 94) dX8_of_32 (by omega) (by omega) (by omega) (by rw [e32]; rfl) (by decide) ?_
          refine r_aload_n dX8_of_94 rfl ?_
          refine r_aload_n dX8_of_95 rfl ?_
          refine r_callV1 okX8_sizeOf ⟨by decide, by decide⟩ ml_X8_191 (mX8_sizeOf hx hv hi hmk) (by first | assumption | exact up_s _ _ _ | exact (up_n _ (by assumption)).trans (by assumption) | exact (up_n _ (by assumption)).trans (up_s _ _ _) | exact (up_n _ (by assumption)).trans ((up_n _ (by assumption)).trans (by assumption))) rfl rfl (Nat.le_of_ble_eq_true rfl) (by omega) (by omega) rfl dX8_of_96 (nx_I) (kx_I ?_)
          refine e_ireturn dX8_of_99 rfl (by omega) (by omega) ?_
          exact oktI (by unfold ofV; rw [if_neg (by omega), if_neg (by omega), if_pos (by omega)]) ⟨hx, FrI.rf⟩
        · refine r_tableIn (off := 68) (tgt := 100) dX8_of_32 (by omega) (by omega) (by omega) (by rw [e32]; rfl) (by decide) ?_
          refine r_iconst dX8_of_100 ?_
          refine r_aload_n dX8_of_101 rfl ?_
          refine r_callV0 okX5_amount ⟨by decide, by decide⟩ ml_X8_77 (mX5_amount hmk) (by first | assumption | exact up_s _ _ _ | exact (up_n _ (by assumption)).trans (by assumption) | exact (up_n _ (by assumption)).trans (up_s _ _ _) | exact (up_n _ (by assumption)).trans ((up_n _ (by assumption)).trans (by assumption))) rfl rfl (Nat.le_of_ble_eq_true rfl) (by omega) (by omega) rfl dX8_of_102 (nx_I) (kx_I ?_)
          refine r_imul dX8_of_105 ?_
          refine e_ireturn dX8_of_106 rfl (by omega) (by omega) ?_
          exact oktI (by unfold ofV; rw [if_neg (by omega), if_neg (by omega), if_neg (by omega), if_pos (by omega)]) ⟨hx, FrI.rf⟩
        · refine r_tableIn (off := 75) (tgt := 107) dX8_of_32 (by omega) (by omega) (by omega) (by rw [e32]; rfl) (by decide) ?_
          refine r_aload_n dX8_of_107 rfl ?_
          refine r_callV0 okX5_least ⟨by decide, by decide⟩ ml_X8_103 (mX5_least hmk) (by first | assumption | exact up_s _ _ _ | exact (up_n _ (by assumption)).trans (by assumption) | exact (up_n _ (by assumption)).trans (up_s _ _ _) | exact (up_n _ (by assumption)).trans ((up_n _ (by assumption)).trans (by assumption))) rfl rfl (Nat.le_of_ble_eq_true rfl) (by omega) (by omega) rfl dX8_of_108 (nx_I) (kx_I ?_)
          refine e_ireturn dX8_of_111 rfl (by omega) (by omega) ?_
          exact oktI (by unfold ofV; rw [if_neg (by omega), if_neg (by omega), if_neg (by omega), if_neg (by omega), if_pos (by omega)]) ⟨hx, FrI.rf⟩
        · refine r_tableIn (off := 80) (tgt := 112) dX8_of_32 (by omega) (by omega) (by omega) (by rw [e32]; rfl) (by decide) ?_
          refine r_aload_n dX8_of_112 rfl ?_
          refine r_callV0 okX5_greatest ⟨by decide, by decide⟩ ml_X8_106 (mX5_greatest hmk) (by first | assumption | exact up_s _ _ _ | exact (up_n _ (by assumption)).trans (by assumption) | exact (up_n _ (by assumption)).trans (up_s _ _ _) | exact (up_n _ (by assumption)).trans ((up_n _ (by assumption)).trans (by assumption))) rfl rfl (Nat.le_of_ble_eq_true rfl) (by omega) (by omega) rfl dX8_of_113 (nx_I) (kx_I ?_)
          refine e_ireturn dX8_of_116 rfl (by omega) (by omega) ?_
          exact oktI (by unfold ofV; rw [if_neg (by omega), if_neg (by omega), if_neg (by omega), if_neg (by omega), if_neg (by omega), if_pos (by omega)]) ⟨hx, FrI.rf⟩
        · refine r_tableIn (off := 85) (tgt := 117) dX8_of_32 (by omega) (by omega) (by omega) (by rw [e32]; rfl) (by decide) ?_
          refine r_aload_n dX8_of_117 rfl ?_
          refine r_callV0 okX5_longestRow ⟨by decide, by decide⟩ ml_X8_195 (mX5_longestRow hmk) (by first | assumption | exact up_s _ _ _ | exact (up_n _ (by assumption)).trans (by assumption) | exact (up_n _ (by assumption)).trans (up_s _ _ _) | exact (up_n _ (by assumption)).trans ((up_n _ (by assumption)).trans (by assumption))) rfl rfl (Nat.le_of_ble_eq_true rfl) (by omega) (by omega) rfl dX8_of_118 (nx_I) (kx_I ?_)
          refine e_ireturn dX8_of_121 rfl (by omega) (by omega) ?_
          exact oktI (by unfold ofV; rw [if_neg (by omega), if_neg (by omega), if_neg (by omega), if_neg (by omega), if_neg (by omega), if_neg (by omega), if_pos (by omega)]) ⟨hx, FrI.rf⟩
    ·
      refine r_iconst dX8_of_14 ?_
      refine r_goto (tgt := 19) dX8_of_15 (by decide) ?_
      refine r_callS1 okX8_requireArgument ⟨by decide, by decide⟩ ml_X8_96 (mX8_requireArgument_ok (bc := 0) (bs := 0) (by omega)) (Nat.le_of_ble_eq_true rfl) (by omega) (by omega) rfl dX8_of_19 (nx_V) (kx_V ?_)
      refine r_aload_n dX8_of_22 rfl ?_
      refine r_getfield clX8 0 (by decide) fl_X8_10 (by first | assumption | exact up_s _ _ _ | exact (up_n _ (by assumption)).trans (by assumption) | exact (up_n _ (by assumption)).trans (up_s _ _ _) | exact (up_n _ (by assumption)).trans ((up_n _ (by assumption)).trans (by assumption))) rfl dX8_of_23 ?_
      refine r_iload_n dX8_of_26 rfl ?_
      refine r_callV1 okX7_members ⟨by decide, by decide⟩ ml_X8_69 (mX7_members hst (by omega) (by omega)) (by first | assumption | exact up_s _ _ _ | exact (up_n _ (by assumption)).trans (by assumption) | exact (up_n _ (by assumption)).trans (up_s _ _ _) | exact (up_n _ (by assumption)).trans ((up_n _ (by assumption)).trans (by assumption))) rfl rfl (Nat.le_of_ble_eq_true rfl) (by omega) (by omega) rfl dX8_of_27 (nx_A) (kx_A ?_)
      have hmk := hst.mb (k := k) (by omega) (by omega)
      have hmo := hmk.1
      have hmn := hmk.n0
      refine r_astore_n dX8_of_30 (by decide) rfl ?_
      refine r_iload_n dX8_of_31 rfl ?_
      by_cases hw32 : w < 0 ∨ 6 < w
      · refine r_tableOut (tgt := 122) dX8_of_32 (by omega) hw32 (by decide) ?_
        refine r_aload_n dX8_of_122 rfl ?_
        refine r_getfield clX8 4 (by decide) fl_X8_40 (by first | assumption | exact up_s _ _ _ | exact (up_n _ (by assumption)).trans (by assumption) | exact (up_n _ (by assumption)).trans (up_s _ _ _) | exact (up_n _ (by assumption)).trans ((up_n _ (by assumption)).trans (by assumption))) rfl dX8_of_123 ?_
        refine r_aload_n dX8_of_126 rfl ?_
        refine r_getfield clX8 0 (by decide) fl_X8_10 (by first | assumption | exact up_s _ _ _ | exact (up_n _ (by assumption)).trans (by assumption) | exact (up_n _ (by assumption)).trans (up_s _ _ _) | exact (up_n _ (by assumption)).trans ((up_n _ (by assumption)).trans (by assumption))) rfl dX8_of_127 ?_
        refine r_iload_n dX8_of_130 rfl ?_
        refine r_callV2 okX0_cut ⟨by decide, by decide⟩ ml_X8_169 (mX0_cut hbw hst hi (by omega) (by omega) (by omega) ⟨hv0, hv1⟩ ⟨hv2, hv3⟩) (by first | assumption | exact up_s _ _ _ | exact (up_n _ (by assumption)).trans (by assumption) | exact (up_n _ (by assumption)).trans (up_s _ _ _) | exact (up_n _ (by assumption)).trans ((up_n _ (by assumption)).trans (by assumption))) rfl rfl (Nat.le_of_ble_eq_true rfl) (by omega) (by omega) rfl dX8_of_131 (nx_tI) (kx_tI ?_)
        intro M2 hM2
        have hx2 := hx.goB hi hM2.1.w hM2.2
        have h002 := hx2.1.1
        have hob2 := hM2.1.1
        have hst2 : StP M2 ad 1 n F g := hx2.1.2.1
        have hmk := hst.mb (k := k) (by omega) (by omega)
        have hmk2 := hst2.mb (k := k) (by omega) (by omega)
        have hmn := hmk.n0
        have hbs := BkS.of hmk.2.2.1 hmk.2.2.2.1 (F k) (g 0) (g 1)
        have hnb1 := hbs.2.2.1
        have hnb2 := hbs.2.2.2.1
        refine r_popI dX8_of_134 ?_
        refine r_aload_n dX8_of_135 rfl ?_
        refine r_getfield clX8 4 (by decide) fl_X8_40 (by first | assumption | exact up_s _ _ _ | exact (up_n _ (by assumption)).trans (by assumption) | exact (up_n _ (by assumption)).trans (up_s _ _ _) | exact (up_n _ (by assumption)).trans ((up_n _ (by assumption)).trans (by assumption))) rfl dX8_of_136 ?_
        refine r_callV0 okX0_wideGaps ⟨by decide, by decide⟩ ml_X8_198 (mX0_wideGaps hM2.1 hmk2) (by first | assumption | exact up_s _ _ _ | exact (up_n _ (by assumption)).trans (by assumption) | exact (up_n _ (by assumption)).trans (up_s _ _ _) | exact (up_n _ (by assumption)).trans ((up_n _ (by assumption)).trans (by assumption))) rfl rfl (Nat.le_of_ble_eq_true rfl) (by omega) (by omega) rfl dX8_of_139 (nx_I) (kx_I ?_)
        refine e_ireturn dX8_of_142 rfl (by omega) (by omega) ?_
        exact oktI (by unfold ofV; rw [if_neg (by omega), if_neg (by omega), if_neg (by omega), if_neg (by omega), if_neg (by omega), if_neg (by omega), if_neg (by omega)]) hx2
      · rcases (show w = 0 ∨ w = 1 ∨ w = 2 ∨ w = 3 ∨ w = 4 ∨ w = 5 ∨ w = 6 by omega) with e32 | e32 | e32 | e32 | e32 | e32 | e32
        · refine r_tableIn (off := 44) (tgt := 76) dX8_of_32 (by omega) (by omega) (by omega) (by rw [e32]; rfl) (by decide) ?_
          refine r_aload_n dX8_of_76 rfl ?_
          refine r_callV0 okX5_amount ⟨by decide, by decide⟩ ml_X8_77 (mX5_amount hmk) (by first | assumption | exact up_s _ _ _ | exact (up_n _ (by assumption)).trans (by assumption) | exact (up_n _ (by assumption)).trans (up_s _ _ _) | exact (up_n _ (by assumption)).trans ((up_n _ (by assumption)).trans (by assumption))) rfl rfl (Nat.le_of_ble_eq_true rfl) (by omega) (by omega) rfl dX8_of_77 (nx_I) (kx_I ?_)
          refine e_ireturn dX8_of_80 rfl (by omega) (by omega) ?_
          exact oktI (by unfold ofV; rw [if_pos (by omega)]) ⟨hx, FrI.rf⟩
        · refine r_tableIn (off := 49) (tgt := 81) dX8_of_32 (by omega) (by omega) (by omega) (by rw [e32]; rfl) (by decide) ?_
          refine r_aload_n dX8_of_81 rfl ?_
          refine r_getfield clX8 4 (by decide) fl_X8_40 (by first | assumption | exact up_s _ _ _ | exact (up_n _ (by assumption)).trans (by assumption) | exact (up_n _ (by assumption)).trans (up_s _ _ _) | exact (up_n _ (by assumption)).trans ((up_n _ (by assumption)).trans (by assumption))) rfl dX8_of_82 ?_
          refine r_aload_n dX8_of_85 rfl ?_
          refine r_getfield clX8 0 (by decide) fl_X8_10 (by first | assumption | exact up_s _ _ _ | exact (up_n _ (by assumption)).trans (by assumption) | exact (up_n _ (by assumption)).trans (up_s _ _ _) | exact (up_n _ (by assumption)).trans ((up_n _ (by assumption)).trans (by assumption))) rfl dX8_of_86 ?_
          refine r_iload_n dX8_of_89 rfl ?_
          refine r_callV2 okX0_cut ⟨by decide, by decide⟩ ml_X8_169 (mX0_cut hbw hst hi (by omega) (by omega) (by omega) ⟨hv0, hv1⟩ ⟨hv2, hv3⟩) (by first | assumption | exact up_s _ _ _ | exact (up_n _ (by assumption)).trans (by assumption) | exact (up_n _ (by assumption)).trans (up_s _ _ _) | exact (up_n _ (by assumption)).trans ((up_n _ (by assumption)).trans (by assumption))) rfl rfl (Nat.le_of_ble_eq_true rfl) (by omega) (by omega) rfl dX8_of_90 (nx_tI) (kx_tI ?_)
          intro M2 hM2
          have hx2 := hx.goB hi hM2.1.w hM2.2
          have h002 := hx2.1.1
          have hob2 := hM2.1.1
          have hst2 : StP M2 ad 1 n F g := hx2.1.2.1
          have hmk := hst.mb (k := k) (by omega) (by omega)
          have hmk2 := hst2.mb (k := k) (by omega) (by omega)
          have hmn := hmk.n0
          have hbs := BkS.of hmk.2.2.1 hmk.2.2.2.1 (F k) (g 0) (g 1)
          have hnb1 := hbs.2.2.1
          have hnb2 := hbs.2.2.2.1
          refine e_ireturn dX8_of_93 rfl (by omega) (by omega) ?_
          exact oktI (by unfold ofV; rw [if_neg (by omega), if_pos (by omega)]) hx2
        · refine r_tableIn (off := 62) (tgt := 94) dX8_of_32 (by omega) (by omega) (by omega) (by rw [e32]; rfl) (by decide) ?_
          refine r_aload_n dX8_of_94 rfl ?_
          refine r_aload_n dX8_of_95 rfl ?_
          refine r_callV1 okX8_sizeOf ⟨by decide, by decide⟩ ml_X8_191 (mX8_sizeOf hx hv hi hmk) (by first | assumption | exact up_s _ _ _ | exact (up_n _ (by assumption)).trans (by assumption) | exact (up_n _ (by assumption)).trans (up_s _ _ _) | exact (up_n _ (by assumption)).trans ((up_n _ (by assumption)).trans (by assumption))) rfl rfl (Nat.le_of_ble_eq_true rfl) (by omega) (by omega) rfl dX8_of_96 (nx_I) (kx_I ?_)
          refine e_ireturn dX8_of_99 rfl (by omega) (by omega) ?_
          exact oktI (by unfold ofV; rw [if_neg (by omega), if_neg (by omega), if_pos (by omega)]) ⟨hx, FrI.rf⟩
        · refine r_tableIn (off := 68) (tgt := 100) dX8_of_32 (by omega) (by omega) (by omega) (by rw [e32]; rfl) (by decide) ?_
          refine r_iconst dX8_of_100 ?_
          refine r_aload_n dX8_of_101 rfl ?_
          refine r_callV0 okX5_amount ⟨by decide, by decide⟩ ml_X8_77 (mX5_amount hmk) (by first | assumption | exact up_s _ _ _ | exact (up_n _ (by assumption)).trans (by assumption) | exact (up_n _ (by assumption)).trans (up_s _ _ _) | exact (up_n _ (by assumption)).trans ((up_n _ (by assumption)).trans (by assumption))) rfl rfl (Nat.le_of_ble_eq_true rfl) (by omega) (by omega) rfl dX8_of_102 (nx_I) (kx_I ?_)
          refine r_imul dX8_of_105 ?_
          refine e_ireturn dX8_of_106 rfl (by omega) (by omega) ?_
          exact oktI (by unfold ofV; rw [if_neg (by omega), if_neg (by omega), if_neg (by omega), if_pos (by omega)]) ⟨hx, FrI.rf⟩
        · refine r_tableIn (off := 75) (tgt := 107) dX8_of_32 (by omega) (by omega) (by omega) (by rw [e32]; rfl) (by decide) ?_
          refine r_aload_n dX8_of_107 rfl ?_
          refine r_callV0 okX5_least ⟨by decide, by decide⟩ ml_X8_103 (mX5_least hmk) (by first | assumption | exact up_s _ _ _ | exact (up_n _ (by assumption)).trans (by assumption) | exact (up_n _ (by assumption)).trans (up_s _ _ _) | exact (up_n _ (by assumption)).trans ((up_n _ (by assumption)).trans (by assumption))) rfl rfl (Nat.le_of_ble_eq_true rfl) (by omega) (by omega) rfl dX8_of_108 (nx_I) (kx_I ?_)
          refine e_ireturn dX8_of_111 rfl (by omega) (by omega) ?_
          exact oktI (by unfold ofV; rw [if_neg (by omega), if_neg (by omega), if_neg (by omega), if_neg (by omega), if_pos (by omega)]) ⟨hx, FrI.rf⟩
        · refine r_tableIn (off := 80) (tgt := 112) dX8_of_32 (by omega) (by omega) (by omega) (by rw [e32]; rfl) (by decide) ?_
          refine r_aload_n dX8_of_112 rfl ?_
          refine r_callV0 okX5_greatest ⟨by decide, by decide⟩ ml_X8_106 (mX5_greatest hmk) (by first | assumption | exact up_s _ _ _ | exact (up_n _ (by assumption)).trans (by assumption) | exact (up_n _ (by assumption)).trans (up_s _ _ _) | exact (up_n _ (by assumption)).trans ((up_n _ (by assumption)).trans (by assumption))) rfl rfl (Nat.le_of_ble_eq_true rfl) (by omega) (by omega) rfl dX8_of_113 (nx_I) (kx_I ?_)
          refine e_ireturn dX8_of_116 rfl (by omega) (by omega) ?_
          exact oktI (by unfold ofV; rw [if_neg (by omega), if_neg (by omega), if_neg (by omega), if_neg (by omega), if_neg (by omega), if_pos (by omega)]) ⟨hx, FrI.rf⟩
        · refine r_tableIn (off := 85) (tgt := 117) dX8_of_32 (by omega) (by omega) (by omega) (by rw [e32]; rfl) (by decide) ?_
          refine r_aload_n dX8_of_117 rfl ?_
          refine r_callV0 okX5_longestRow ⟨by decide, by decide⟩ ml_X8_195 (mX5_longestRow hmk) (by first | assumption | exact up_s _ _ _ | exact (up_n _ (by assumption)).trans (by assumption) | exact (up_n _ (by assumption)).trans (up_s _ _ _) | exact (up_n _ (by assumption)).trans ((up_n _ (by assumption)).trans (by assumption))) rfl rfl (Nat.le_of_ble_eq_true rfl) (by omega) (by omega) rfl dX8_of_118 (nx_I) (kx_I ?_)
          refine e_ireturn dX8_of_121 rfl (by omega) (by omega) ?_
          exact oktI (by unfold ofV; rw [if_neg (by omega), if_neg (by omega), if_neg (by omega), if_neg (by omega), if_neg (by omega), if_neg (by omega), if_pos (by omega)]) ⟨hx, FrI.rf⟩
