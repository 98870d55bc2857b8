/-! what the calls change -/
theorem XSt.sav {M M2 : Mem} {ad : Int → Nat} {σ : Sg3} {m m' : Int} {S S' : Int → Sg3} {len : Int} {c : Int → Int} (h : XSt M ad σ m S len c) (hi : Inj ad) (h1 : HsP M2 ad m' S') (hf : FrI ad 14 94 M M2) : XSt M2 ad σ m' S' len c ∧ FrI ad 0 112 M M2 :=
  h.go hi (StP.frame h.2.1 (fun i a b => hf.at hi ⟨by omega, by omega⟩ ⟨by omega, by omega⟩ (by omega))) h1 (h.2.2.2.1.frame (hf.at hi ⟨by omega, by omega⟩ ⟨by omega, by omega⟩ (by omega)) (hf.at hi ⟨by omega, by omega⟩ ⟨by omega, by omega⟩ (by omega))) (hf.mono (by omega) (by omega))
theorem XSt.goK {M M2 : Mem} {ad : Int → Nat} {n : Int → Int} {F : Int → Int → Int} {g : Int → Int} {m : Int} {S : Int → Sg3} {len : Int} {c : Int → Int} (h : XSt M ad (n, F, g) m S len c) (hi : Inj ad) {k n' : Int} {F' : Int → Int} (h0 : 0 ≤ k) (h1 : k < 4) (hm : Mb M2 (ad (1 + 2 + k)) (ad (1 + 6 + k)) 60 n' F') (hf : Fr2 (ad (1 + 2 + k)) (ad (1 + 6 + k)) M M2) : XSt M2 ad (uI n k n', uI F k F', g) m S len c ∧ FrI ad 0 112 M M2 := by
  have hk : ∀ i, 0 ≤ i ∧ i < 122 → 14 ≤ i → M2 (ad i) = M (ad i) := fun i a b => hf.at hi ⟨by omega, by omega⟩ ⟨by omega, by omega⟩ a ⟨by omega, by omega⟩
  exact h.go hi (StP.setMb h.2.1 hi ⟨by omega, by omega⟩ h0 h1 hm hf) (h.2.2.1.frame (fun i a b => hk i ⟨by omega, by omega⟩ (by omega))) (h.2.2.2.1.frame (hk _ ⟨by omega, by omega⟩ (by omega)) (hk _ ⟨by omega, by omega⟩ (by omega))) (FrI.of2 hf ⟨by omega, by omega⟩ ⟨by omega, by omega⟩)
theorem XSt.goS {M M2 : Mem} {ad : Int → Nat} {σ σ' : Sg3} {m : Int} {S : Int → Sg3} {len : Int} {c : Int → Int} (h : XSt M ad σ m S len c) (hi : Inj ad) (h1 : StQ M2 ad 1 σ') (hf : FrI ad 1 14 M M2) : XSt M2 ad σ' m S len c ∧ FrI ad 0 112 M M2 :=
  h.go hi h1 (h.2.2.1.frame (fun i a b => hf.at hi ⟨by omega, by omega⟩ ⟨by omega, by omega⟩ (by omega))) (h.2.2.2.1.frame (hf.at hi ⟨by omega, by omega⟩ ⟨by omega, by omega⟩ (by omega)) (hf.at hi ⟨by omega, by omega⟩ ⟨by omega, by omega⟩ (by omega))) (hf.mono (by omega) (by omega))
theorem XSt.goU {M M2 : Mem} {ad : Int → Nat} {σ σ' : Sg3} {m m' : Int} {S S' : Int → Sg3} {len : Int} {c : Int → Int} (h : XSt M ad σ m S len c) (hi : Inj ad) (h1 : StQ M2 ad 1 σ') (h2 : HsP M2 ad m' S') (hf : FrI ad 1 15 M M2) : XSt M2 ad σ' m' S' len c ∧ FrI ad 0 112 M M2 :=
  h.go hi h1 h2 (h.2.2.2.1.frame (hf.at hi ⟨by omega, by omega⟩ ⟨by omega, by omega⟩ (by omega)) (hf.at hi ⟨by omega, by omega⟩ ⟨by omega, by omega⟩ (by omega))) (hf.mono (by omega) (by omega))
theorem XSt.goF {M M2 : Mem} {ad : Int → Nat} {σ : Sg3} {m : Int} {S : Int → Sg3} {len len' : Int} {c c' : Int → Int} (h : XSt M ad σ m S len c) (hi : Inj ad) (h1 : BfP M2 ad len' c') (hf : FrI ad 94 96 M M2) : XSt M2 ad σ m S len' c' ∧ FrI ad 0 112 M M2 :=
  h.go hi (StP.frame h.2.1 (fun i a b => hf.at hi ⟨by omega, by omega⟩ ⟨by omega, by omega⟩ (by omega))) (h.2.2.1.frame (fun i a b => hf.at hi ⟨by omega, by omega⟩ ⟨by omega, by omega⟩ (by omega))) h1 (hf.mono (by omega) (by omega))
/-- two sets joined -/
def jnA (F1 : Int → Int) (n2 : Int) (F2 : Int → Int) (how : Int) : Nat → Int → Int → (Int → Int) → Int × (Int → Int)
  | 0, _, m, G => (m, G)
  | k + 1, p, m, G => if how = 0 ∨ bI (hasF n2 F2 (F1 p)) = (if how = 1 then 1 else 0) then jnA F1 n2 F2 how k (p + 1) (putN 120 m G (F1 p)) (putF 120 m G (F1 p)) else jnA F1 n2 F2 how k (p + 1) m G
def jnB (n1 : Int) (F1 F2 : Int → Int) : Nat → Int → Int → (Int → Int) → Int × (Int → Int)
  | 0, _, m, G => (m, G)
  | k + 1, p, m, G => if bI (hasF n1 F1 (F2 p)) = 0 then jnB n1 F1 F2 k (p + 1) (putN 120 m G (F2 p)) (putF 120 m G (F2 p)) else jnB n1 F1 F2 k (p + 1) m G
def jnF (n1 : Int) (F1 : Int → Int) (n2 : Int) (F2 : Int → Int) (how : Int) : Int × (Int → Int) :=
  if how = 0 ∨ how = 3 then jnB n1 F1 F2 n2.toNat 0 (jnA F1 n2 F2 how n1.toNat 0 0 (fun _ => 0)).1 (jnA F1 n2 F2 how n1.toNat 0 0 (fun _ => 0)).2 else jnA F1 n2 F2 how n1.toNat 0 0 (fun _ => 0)
theorem shift_ok {n b : Int} {F : Int → Int} (hs : Srt n F) (hn : 0 ≤ n) (h : n = 0 ∨ (0 ≤ atF n F 0 + b ∧ atF n F (n - 1) + b ≤ 9999)) : ∀ i, 0 ≤ i → i < n → 0 ≤ F i + b ∧ F i + b ≤ 9999 := by
  intro i a c
  rcases h with h | h
  · omega
  rw [atF_in (by omega) (by omega), atF_in (by omega) (by omega)] at h
  have h1 : F 0 ≤ F i := by
    by_cases e : i = 0
    · rw [e]; omega
    · have := hs 0 i (by omega) (by omega) c; omega
  have h2 : F i ≤ F (n - 1) := by
    by_cases e : i = n - 1
    · rw [e]; omega
    · have := hs i (n - 1) a (by omega) (by omega); omega
  omega
theorem read_r {pa : Int} {A B : Int → Int} (h : Asc pa A B) (hp : 0 ≤ pa ∧ pa ≤ 60) : 0 ≤ smF (cntP A B) pa.toNat 0 ∧ smF (cntP A B) pa.toNat 0 ≤ 600000 := by
  have := smF_r (f := cntP A B) (lo := 0) (hi := 10000) pa.toNat 0 (fun j a b => by have := h.1 j a (by omega); unfold cntP; omega)
  omega
/-- returns z and P, or throws E and P0 -/
def UY (E : String) (z : Int) (P P0 : Mem → Prop) : Rs → Mem → Prop := fun r M' => if E = "" then r = .inl (some (vI z)) ∧ P M' else r = .inr E ∧ P0 M'
theorem tUY {E exc : String} {z : Int} {P P0 : Mem → Prop} {M : Mem} (he : E ≠ "" → exc = E) (h0 : P0 M) : ∀ (E2 : String) (M2 : Mem), UV E M (.inr E2) M2 → UY exc z P P0 (.inr E2) M2 := by
  rintro E2 M2 ⟨h, rfl⟩
  unfold UY
  by_cases e : E = ""
  · rw [if_pos e] at h; cases h
  · rw [if_neg e] at h; cases h; rw [he e, if_neg e]; exact ⟨rfl, h0⟩
theorem okUY {exc : String} {z z' : Int} {P P0 : Mem → Prop} {M : Mem} (he : exc = "") (h : z' = z) (hP : P M) : UY exc z P P0 (.inl (some (vI z'))) M := by
  unfold UY; rw [if_pos he, h]; exact ⟨rfl, hP⟩
theorem UX.y {E : String} {z : Int} {P P0 : Mem → Prop} {M : Mem} (h0 : P0 M) {r : Rs} {M' : Mem} (h : UX E z P M r M') : UY E z P P0 r M' := by
  unfold UX at h
  unfold UY
  by_cases e : E = ""
  · rw [if_pos e] at h ⊢; exact h
  · rw [if_neg e] at h ⊢; rw [h.2]; exact ⟨h.1, h0⟩
set_option maxHeartbeats 4000000 in
theorem mX8_add {M : Mem} {ad : Int → Nat} {n : Int → Int} {F : Int → Int → Int} {g : Int → Int} {m : Int} {S : Int → Sg3} {len : Int} {c : Int → Int} {k x : Int} (hx : XSt M ad (n, F, g) m S len c) (hv : Vld (n, F, g)) (hi : Inj ad) (q0 : R32 k) (q1 : R32 x) : Ct KX8_add [.ref (ad 0), vI k, vI x] M 6 36 (UX (e2 (eSet k) (e2 (eB (0 ≤ x ∧ x ≤ 9999) xA) (eB (hasF (n k) (F k) x = true ∨ n k < 60) xS))) (1 - bI (hasF (n k) (F k) x)) (fun M2 => XSt M2 ad (uI n k (putN 60 (n k) (F k) x), uI F k (putF 60 (n k) (F k) x), g) (svM m) (svS m S (n, F, g)) len c ∧ FrI ad 0 112 M M2) M) := by
  refine Ct.of _ (by decide) rfl (Nat.le_of_ble_eq_true rfl) ?_
  obtain ⟨h00, hst, hhs, hbf, hpw, hbw, hmw, ⟨tn, tF, htr⟩, ⟨wn, wF, hwi⟩⟩ := id hx
  obtain ⟨hvs, hv0, hv1, hv2, hv3⟩ := id hv
  change StP _ ad 1 n F g at hst
  dsimp only at hvs hv0 hv1 hv2 hv3
  have hob1 := hst.1
  obtain ⟨hh_1, hh_2, hh_3, hh_4, hh_5, hho, -⟩ := id hhs
  have hob94 := hbf.1
  obtain ⟨⟨y1, y2, y3, y4, y5, y6, hob96⟩, -, -⟩ := id hpw
  obtain ⟨z1, z2, z3, hob99, -⟩ := id hbw
  obtain ⟨⟨u1, hob101⟩, -, -⟩ := id hmw
  have hob108 := htr.1
  have hob110 := hwi.1
  refine r_iload_n dX8_add_0 rfl ?_
  refine r_callS1 okX8_requireSet ⟨by decide, by decide⟩ ml_X8_63 (mX8_requireSet (by omega)) (Nat.le_of_ble_eq_true rfl) (Nat.le_of_ble_eq_true rfl) (Nat.le_of_ble_eq_true rfl) rfl dX8_add_1 (tUX (fun hne => by unfold e2; rw [if_neg hne])) (kx_U ?_)
  intro hE1
  have hk9 := eSet_ok hE1
  refine r_iload_n dX8_add_4 rfl ?_
  refine r_callS1 okX8_requireNumber ⟨by decide, by decide⟩ ml_X8_66 (mX8_requireNumber (by omega)) (Nat.le_of_ble_eq_true rfl) (Nat.le_of_ble_eq_true rfl) (Nat.le_of_ble_eq_true rfl) rfl dX8_add_5 (tUX (fun hne => by unfold e2; rw [if_pos hE1, if_neg hne])) (kx_U ?_)
  intro hE2
  have hx9 := eA_ok hE2
  refine r_aload_n dX8_add_8 rfl ?_
  refine r_getfield clX8 0 (by decide) fl_X8_10 (by first | assumption | exact up_s _ _ _ | exact (up_n _ (by assumption)).trans (by assumption) | exact (up_n _ (by assumption)).trans (up_s _ _ _) | exact (up_n _ (by assumption)).trans ((up_n _ (by assumption)).trans (by assumption))) rfl dX8_add_9 ?_
  refine r_iload_n dX8_add_12 rfl ?_
  refine r_callV1 okX7_members ⟨by decide, by decide⟩ ml_X8_69 (mX7_members hst (k := k) (by omega) (by omega)) (by first | assumption | exact up_s _ _ _ | exact (up_n _ (by assumption)).trans (by assumption) | exact (up_n _ (by assumption)).trans (up_s _ _ _) | exact (up_n _ (by assumption)).trans ((up_n _ (by assumption)).trans (by assumption))) rfl rfl (Nat.le_of_ble_eq_true rfl) (Nat.le_of_ble_eq_true rfl) (Nat.le_of_ble_eq_true rfl) rfl dX8_add_13 (nx_A) (kx_A ?_)
  refine r_astore_n dX8_add_16 (by decide) rfl ?_
  have hmk := hst.mb (k := k) (by omega) (by omega)
  have hmo := hmk.1
  have hmn : 0 ≤ n (k) ∧ n (k) ≤ 60 := by have h60 := hmk.2.2.2.1; have h59 := hmk.2.2.1; omega
  refine r_aload_n dX8_add_17 rfl ?_
  refine r_iload_n dX8_add_18 rfl ?_
  refine r_callV1 okX5_holds ⟨by decide, by decide⟩ ml_X8_73 (mX5_holds hmk (by omega)) (by first | assumption | exact up_s _ _ _ | exact (up_n _ (by assumption)).trans (by assumption) | exact (up_n _ (by assumption)).trans (up_s _ _ _) | exact (up_n _ (by assumption)).trans ((up_n _ (by assumption)).trans (by assumption))) rfl rfl (Nat.le_of_ble_eq_true rfl) (Nat.le_of_ble_eq_true rfl) (Nat.le_of_ble_eq_true rfl) rfl dX8_add_19 (nx_I) (kx_I ?_)
  have hbb := bI_r (hasF (n k) (F k) x)
  refine r_if_ne (tgt := 29) dX8_add_22 (by decide) (by omega) (fun h22 => ?_) (fun h22 => ?_)
  ·
    refine r_iconst dX8_add_29 ?_
    refine r_istore dX8_add_30 (by decide) rfl ?_
    refine r_iload dX8_add_32 rfl ?_
    refine r_if_eq (tgt := 46) dX8_add_34 (by decide) (by omega) (fun h34 => ?_) (fun h34 => ?_)
    ·
      refine r_iconst dX8_add_46 ?_
      refine r_goto (tgt := 51) dX8_add_47 (by decide) ?_
      refine r_callS1 okX8_requireState ⟨by decide, by decide⟩ ml_X8_81 (mX8_requireState (b := hasF (n k) (F k) x = true ∨ n k < 60) (by first | rw [if_pos (Or.inl (bI_t h22))] | rw [if_pos (Or.inr (by omega))] | rw [if_neg (fun h => h.elim (bI_f (by omega)) (fun q => by omega))])) (Nat.le_of_ble_eq_true rfl) (Nat.le_of_ble_eq_true rfl) (Nat.le_of_ble_eq_true rfl) rfl dX8_add_51 (tUX (fun hne => by unfold e2; rw [if_pos hE1, if_pos hE2])) (kx_U ?_)
      intro hE3
      have hs9 := eS_ok hE3
      refine r_aload_n dX8_add_54 rfl ?_
      refine r_getfield clX8 1 (by decide) fl_X8_19 (by first | assumption | exact up_s _ _ _ | exact (up_n _ (by assumption)).trans (by assumption) | exact (up_n _ (by assumption)).trans (up_s _ _ _) | exact (up_n _ (by assumption)).trans ((up_n _ (by assumption)).trans (by assumption))) rfl dX8_add_55 ?_
      refine r_aload_n dX8_add_58 rfl ?_
      refine r_getfield clX8 0 (by decide) fl_X8_10 (by first | assumption | exact up_s _ _ _ | exact (up_n _ (by assumption)).trans (by assumption) | exact (up_n _ (by assumption)).trans (up_s _ _ _) | exact (up_n _ (by assumption)).trans ((up_n _ (by assumption)).trans (by assumption))) rfl dX8_add_59 ?_
      refine r_callV1 okX2_save ⟨by decide, by decide⟩ ml_X8_85 (mX2_save (s := 0) (σ := (n, F, g)) hhs hst hi) (by first | assumption | exact up_s _ _ _ | exact (up_n _ (by assumption)).trans (by assumption) | exact (up_n _ (by assumption)).trans (up_s _ _ _) | exact (up_n _ (by assumption)).trans ((up_n _ (by assumption)).trans (by assumption))) rfl rfl (Nat.le_of_ble_eq_true rfl) (Nat.le_of_ble_eq_true rfl) (Nat.le_of_ble_eq_true rfl) rfl dX8_add_62 (nx_tV) (kx_tV ?_)
      intro M2 hM2
      have hx2 := hx.sav hi hM2.1 hM2.2
      obtain ⟨h00, hst, hhs, hbf, hpw, hbw, hmw, ⟨tn, tF, htr⟩, ⟨wn, wF, hwi⟩⟩ := id hx2.1
      change StP _ ad 1 n F g at hst
      have hob1 := hst.1
      obtain ⟨hh_1, hh_2, hh_3, hh_4, hh_5, hho, -⟩ := id hhs
      have hob94 := hbf.1
      obtain ⟨⟨y1, y2, y3, y4, y5, y6, hob96⟩, -, -⟩ := id hpw
      obtain ⟨z1, z2, z3, hob99, -⟩ := id hbw
      obtain ⟨⟨u1, hob101⟩, -, -⟩ := id hmw
      have hob108 := htr.1
      have hob110 := hwi.1
      have hmk := hst.mb (k := k) (by omega) (by omega)
      have hmo := hmk.1
      have hmn : 0 ≤ n (k) ∧ n (k) ≤ 60 := by have h60 := hmk.2.2.2.1; have h59 := hmk.2.2.1; omega
      refine r_aload_n dX8_add_65 rfl ?_
      refine r_iload_n dX8_add_66 rfl ?_
      refine r_callV1 okX5_put ⟨by decide, by decide⟩ ml_X8_89 (mX5_put hmk (by omega)) (by first | assumption | exact up_s _ _ _ | exact (up_n _ (by assumption)).trans (by assumption) | exact (up_n _ (by assumption)).trans (up_s _ _ _) | exact (up_n _ (by assumption)).trans ((up_n _ (by assumption)).trans (by assumption))) rfl rfl (Nat.le_of_ble_eq_true rfl) (Nat.le_of_ble_eq_true rfl) (Nat.le_of_ble_eq_true rfl) rfl dX8_add_67 (nx_tV) (kx_tV ?_)
      intro M3 hM3
      have hx3 := hx2.1.goK hi (by omega) (by omega) hM3.1 hM3.2
      have hmo := hM3.1.1
      refine r_iload dX8_add_70 rfl ?_
      refine r_if_eq (tgt := 79) dX8_add_72 (by decide) (by omega) (fun h72 => ?_) (fun h72 => ?_)
      ·
        refine r_iconst dX8_add_79 ?_
        refine e_ireturn dX8_add_80 rfl (Nat.le_of_ble_eq_true rfl) (Nat.le_of_ble_eq_true rfl) ?_
        exact okUX (by unfold e2; rw [if_pos hE1, if_pos hE2]; exact hE3) (by omega) ⟨hx3.1, hx2.2.trans hx3.2⟩
      · omega
    · omega
  ·
    refine r_iconst dX8_add_25 ?_
    refine r_goto (tgt := 30) dX8_add_26 (by decide) ?_
    refine r_istore dX8_add_30 (by decide) rfl ?_
    refine r_iload dX8_add_32 rfl ?_
    refine r_if_eq (tgt := 46) dX8_add_34 (by decide) (by omega) (fun h34 => ?_) (fun h34 => ?_)
    · omega
    ·
      refine r_aload_n dX8_add_37 rfl ?_
      refine r_callV0 okX5_amount ⟨by decide, by decide⟩ ml_X8_77 (mX5_amount hmk) (by first | assumption | exact up_s _ _ _ | exact (up_n _ (by assumption)).trans (by assumption) | exact (up_n _ (by assumption)).trans (up_s _ _ _) | exact (up_n _ (by assumption)).trans ((up_n _ (by assumption)).trans (by assumption))) rfl rfl (Nat.le_of_ble_eq_true rfl) (Nat.le_of_ble_eq_true rfl) (Nat.le_of_ble_eq_true rfl) rfl dX8_add_38 (nx_I) (kx_I ?_)
      refine r_bipush dX8_add_41 (by decide) ?_
      refine r_icmp_ge (tgt := 50) dX8_add_43 (by decide) (by omega) (by omega) (fun h43 => ?_) (fun h43 => ?_)
      ·
        refine r_iconst dX8_add_50 ?_
        refine r_callS1 okX8_requireState ⟨by decide, by decide⟩ ml_X8_81 (mX8_requireState (b := hasF (n k) (F k) x = true ∨ n k < 60) (by first | rw [if_pos (Or.inl (bI_t h22))] | rw [if_pos (Or.inr (by omega))] | rw [if_neg (fun h => h.elim (bI_f (by omega)) (fun q => by omega))])) (Nat.le_of_ble_eq_true rfl) (Nat.le_of_ble_eq_true rfl) (Nat.le_of_ble_eq_true rfl) rfl dX8_add_51 (tUX (fun hne => by unfold e2; rw [if_pos hE1, if_pos hE2])) (kx_U ?_)
        intro hE3
        have hs9 := eS_ok hE3
        refine r_aload_n dX8_add_54 rfl ?_
        refine r_getfield clX8 1 (by decide) fl_X8_19 (by first | assumption | exact up_s _ _ _ | exact (up_n _ (by assumption)).trans (by assumption) | exact (up_n _ (by assumption)).trans (up_s _ _ _) | exact (up_n _ (by assumption)).trans ((up_n _ (by assumption)).trans (by assumption))) rfl dX8_add_55 ?_
        refine r_aload_n dX8_add_58 rfl ?_
        refine r_getfield clX8 0 (by decide) fl_X8_10 (by first | assumption | exact up_s _ _ _ | exact (up_n _ (by assumption)).trans (by assumption) | exact (up_n _ (by assumption)).trans (up_s _ _ _) | exact (up_n _ (by assumption)).trans ((up_n _ (by assumption)).trans (by assumption))) rfl dX8_add_59 ?_
        refine r_callV1 okX2_save ⟨by decide, by decide⟩ ml_X8_85 (mX2_save (s := 0) (σ := (n, F, g)) hhs hst hi) (by first | assumption | exact up_s _ _ _ | exact (up_n _ (by assumption)).trans (by assumption) | exact (up_n _ (by assumption)).trans (up_s _ _ _) | exact (up_n _ (by assumption)).trans ((up_n _ (by assumption)).trans (by assumption))) rfl rfl (Nat.le_of_ble_eq_true rfl) (Nat.le_of_ble_eq_true rfl) (Nat.le_of_ble_eq_true rfl) rfl dX8_add_62 (nx_tV) (kx_tV ?_)
        intro M2 hM2
        have hx2 := hx.sav hi hM2.1 hM2.2
        obtain ⟨h00, hst, hhs, hbf, hpw, hbw, hmw, ⟨tn, tF, htr⟩, ⟨wn, wF, hwi⟩⟩ := id hx2.1
        change StP _ ad 1 n F g at hst
        have hob1 := hst.1
        obtain ⟨hh_1, hh_2, hh_3, hh_4, hh_5, hho, -⟩ := id hhs
        have hob94 := hbf.1
        obtain ⟨⟨y1, y2, y3, y4, y5, y6, hob96⟩, -, -⟩ := id hpw
        obtain ⟨z1, z2, z3, hob99, -⟩ := id hbw
        obtain ⟨⟨u1, hob101⟩, -, -⟩ := id hmw
        have hob108 := htr.1
        have hob110 := hwi.1
        have hmk := hst.mb (k := k) (by omega) (by omega)
        have hmo := hmk.1
        have hmn : 0 ≤ n (k) ∧ n (k) ≤ 60 := by have h60 := hmk.2.2.2.1; have h59 := hmk.2.2.1; omega
        refine r_aload_n dX8_add_65 rfl ?_
        refine r_iload_n dX8_add_66 rfl ?_
        refine r_callV1 okX5_put ⟨by decide, by decide⟩ ml_X8_89 (mX5_put hmk (by omega)) (by first | assumption | exact up_s _ _ _ | exact (up_n _ (by assumption)).trans (by assumption) | exact (up_n _ (by assumption)).trans (up_s _ _ _) | exact (up_n _ (by assumption)).trans ((up_n _ (by assumption)).trans (by assumption))) rfl rfl (Nat.le_of_ble_eq_true rfl) (Nat.le_of_ble_eq_true rfl) (Nat.le_of_ble_eq_true rfl) rfl dX8_add_67 (nx_tV) (kx_tV ?_)
        intro M3 hM3
        have hx3 := hx2.1.goK hi (by omega) (by omega) hM3.1 hM3.2
        have hmo := hM3.1.1
        refine r_iload dX8_add_70 rfl ?_
        refine r_if_eq (tgt := 79) dX8_add_72 (by decide) (by omega) (fun h72 => ?_) (fun h72 => ?_)
        · omega
        ·
          refine r_iconst dX8_add_75 ?_
          refine r_goto (tgt := 80) dX8_add_76 (by decide) ?_
          refine e_ireturn dX8_add_80 rfl (Nat.le_of_ble_eq_true rfl) (Nat.le_of_ble_eq_true rfl) ?_
          exact okUX (by unfold e2; rw [if_pos hE1, if_pos hE2]; exact hE3) (by omega) ⟨hx3.1, hx2.2.trans hx3.2⟩
      ·
        refine r_iconst dX8_add_46 ?_
        refine r_goto (tgt := 51) dX8_add_47 (by decide) ?_
        refine r_callS1 okX8_requireState ⟨by decide, by decide⟩ ml_X8_81 (mX8_requireState (b := hasF (n k) (F k) x = true ∨ n k < 60) (by first | rw [if_pos (Or.inl (bI_t h22))] | rw [if_pos (Or.inr (by omega))] | rw [if_neg (fun h => h.elim (bI_f (by omega)) (fun q => by omega))])) (Nat.le_of_ble_eq_true rfl) (Nat.le_of_ble_eq_true rfl) (Nat.le_of_ble_eq_true rfl) rfl dX8_add_51 (tUX (fun hne => by unfold e2; rw [if_pos hE1, if_pos hE2])) (kx_U ?_)
        intro hE3
        have hs9 := eS_ok hE3
        refine r_aload_n dX8_add_54 rfl ?_
        refine r_getfield clX8 1 (by decide) fl_X8_19 (by first | assumption | exact up_s _ _ _ | exact (up_n _ (by assumption)).trans (by assumption) | exact (up_n _ (by assumption)).trans (up_s _ _ _) | exact (up_n _ (by assumption)).trans ((up_n _ (by assumption)).trans (by assumption))) rfl dX8_add_55 ?_
        refine r_aload_n dX8_add_58 rfl ?_
        refine r_getfield clX8 0 (by decide) fl_X8_10 (by first | assumption | exact up_s _ _ _ | exact (up_n _ (by assumption)).trans (by assumption) | exact (up_n _ (by assumption)).trans (up_s _ _ _) | exact (up_n _ (by assumption)).trans ((up_n _ (by assumption)).trans (by assumption))) rfl dX8_add_59 ?_
        refine r_callV1 okX2_save ⟨by decide, by decide⟩ ml_X8_85 (mX2_save (s := 0) (σ := (n, F, g)) hhs hst hi) (by first | assumption | exact up_s _ _ _ | exact (up_n _ (by assumption)).trans (by assumption) | exact (up_n _ (by assumption)).trans (up_s _ _ _) | exact (up_n _ (by assumption)).trans ((up_n _ (by assumption)).trans (by assumption))) rfl rfl (Nat.le_of_ble_eq_true rfl) (Nat.le_of_ble_eq_true rfl) (Nat.le_of_ble_eq_true rfl) rfl dX8_add_62 (nx_tV) (kx_tV ?_)
        intro M2 hM2
        have hx2 := hx.sav hi hM2.1 hM2.2
        obtain ⟨h00, hst, hhs, hbf, hpw, hbw, hmw, ⟨tn, tF, htr⟩, ⟨wn, wF, hwi⟩⟩ := id hx2.1
        change StP _ ad 1 n F g at hst
        have hob1 := hst.1
        obtain ⟨hh_1, hh_2, hh_3, hh_4, hh_5, hho, -⟩ := id hhs
        have hob94 := hbf.1
        obtain ⟨⟨y1, y2, y3, y4, y5, y6, hob96⟩, -, -⟩ := id hpw
        obtain ⟨z1, z2, z3, hob99, -⟩ := id hbw
        obtain ⟨⟨u1, hob101⟩, -, -⟩ := id hmw
        have hob108 := htr.1
        have hob110 := hwi.1
        have hmk := hst.mb (k := k) (by omega) (by omega)
        have hmo := hmk.1
        have hmn : 0 ≤ n (k) ∧ n (k) ≤ 60 := by have h60 := hmk.2.2.2.1; have h59 := hmk.2.2.1; omega
        refine r_aload_n dX8_add_65 rfl ?_
        refine r_iload_n dX8_add_66 rfl ?_
        refine r_callV1 okX5_put ⟨by decide, by decide⟩ ml_X8_89 (mX5_put hmk (by omega)) (by first | assumption | exact up_s _ _ _ | exact (up_n _ (by assumption)).trans (by assumption) | exact (up_n _ (by assumption)).trans (up_s _ _ _) | exact (up_n _ (by assumption)).trans ((up_n _ (by assumption)).trans (by assumption))) rfl rfl (Nat.le_of_ble_eq_true rfl) (Nat.le_of_ble_eq_true rfl) (Nat.le_of_ble_eq_true rfl) rfl dX8_add_67 (nx_tV) (kx_tV ?_)
        intro M3 hM3
        have hx3 := hx2.1.goK hi (by omega) (by omega) hM3.1 hM3.2
        have hmo := hM3.1.1
        refine r_iload dX8_add_70 rfl ?_
        refine r_if_eq (tgt := 79) dX8_add_72 (by decide) (by omega) (fun h72 => ?_) (fun h72 => ?_)
        · omega
        ·
          refine r_iconst dX8_add_75 ?_
          refine r_goto (tgt := 80) dX8_add_76 (by decide) ?_
          refine e_ireturn dX8_add_80 rfl (Nat.le_of_ble_eq_true rfl) (Nat.le_of_ble_eq_true rfl) ?_
          exact okUX (by unfold e2; rw [if_pos hE1, if_pos hE2]; exact hE3) (by omega) ⟨hx3.1, hx2.2.trans hx3.2⟩

set_option maxHeartbeats 4000000 in
theorem mX8_remove {M : Mem} {ad : Int → Nat} {n : Int → Int} {F : Int → Int → Int} {g : Int → Int} {m : Int} {S : Int → Sg3} {len : Int} {c : Int → Int} {k x : Int} (hx : XSt M ad (n, F, g) m S len c) (hv : Vld (n, F, g)) (hi : Inj ad) (q0 : R32 k) (q1 : R32 x) : Ct KX8_remove [.ref (ad 0), vI k, vI x] M 6 36 (UX (e2 (eSet k) (eB (0 ≤ x ∧ x ≤ 9999) xA)) (n k - (cutP (n k) (F k) x x).1) (fun M2 => XSt M2 ad (uI n k ((cutP (n k) (F k) x x).1), uI F k ((cutP (n k) (F k) x x).2), g) (svM m) (svS m S (n, F, g)) len c ∧ FrI ad 0 112 M M2) M) := by
  refine Ct.of _ (by decide) rfl (Nat.le_of_ble_eq_true rfl) ?_
  obtain ⟨h00, hst, hhs, hbf, hpw, hbw, hmw, ⟨tn, tF, htr⟩, ⟨wn, wF, hwi⟩⟩ := id hx
  obtain ⟨hvs, hv0, hv1, hv2, hv3⟩ := id hv
  change StP _ ad 1 n F g at hst
  dsimp only at hvs hv0 hv1 hv2 hv3
  have hob1 := hst.1
  obtain ⟨hh_1, hh_2, hh_3, hh_4, hh_5, hho, -⟩ := id hhs
  have hob94 := hbf.1
  obtain ⟨⟨y1, y2, y3, y4, y5, y6, hob96⟩, -, -⟩ := id hpw
  obtain ⟨z1, z2, z3, hob99, -⟩ := id hbw
  obtain ⟨⟨u1, hob101⟩, -, -⟩ := id hmw
  have hob108 := htr.1
  have hob110 := hwi.1
  refine r_iload_n dX8_remove_0 rfl ?_
  refine r_callS1 okX8_requireSet ⟨by decide, by decide⟩ ml_X8_63 (mX8_requireSet (by omega)) (Nat.le_of_ble_eq_true rfl) (Nat.le_of_ble_eq_true rfl) (Nat.le_of_ble_eq_true rfl) rfl dX8_remove_1 (tUX (fun hne => by unfold e2; rw [if_neg hne])) (kx_U ?_)
  intro hE1
  have hk9 := eSet_ok hE1
  refine r_iload_n dX8_remove_4 rfl ?_
  refine r_callS1 okX8_requireNumber ⟨by decide, by decide⟩ ml_X8_66 (mX8_requireNumber (by omega)) (Nat.le_of_ble_eq_true rfl) (Nat.le_of_ble_eq_true rfl) (Nat.le_of_ble_eq_true rfl) rfl dX8_remove_5 (tUX (fun hne => by unfold e2; rw [if_pos hE1])) (kx_U ?_)
  intro hE2
  have hx9 := eA_ok hE2
  refine r_aload_n dX8_remove_8 rfl ?_
  refine r_getfield clX8 1 (by decide) fl_X8_19 (by first | assumption | exact up_s _ _ _ | exact (up_n _ (by assumption)).trans (by assumption) | exact (up_n _ (by assumption)).trans (up_s _ _ _) | exact (up_n _ (by assumption)).trans ((up_n _ (by assumption)).trans (by assumption))) rfl dX8_remove_9 ?_
  refine r_aload_n dX8_remove_12 rfl ?_
  refine r_getfield clX8 0 (by decide) fl_X8_10 (by first | assumption | exact up_s _ _ _ | exact (up_n _ (by assumption)).trans (by assumption) | exact (up_n _ (by assumption)).trans (up_s _ _ _) | exact (up_n _ (by assumption)).trans ((up_n _ (by assumption)).trans (by assumption))) rfl dX8_remove_13 ?_
  refine r_callV1 okX2_save ⟨by decide, by decide⟩ ml_X8_85 (mX2_save (s := 0) (σ := (n, F, g)) hhs hst hi) (by first | assumption | exact up_s _ _ _ | exact (up_n _ (by assumption)).trans (by assumption) | exact (up_n _ (by assumption)).trans (up_s _ _ _) | exact (up_n _ (by assumption)).trans ((up_n _ (by assumption)).trans (by assumption))) rfl rfl (Nat.le_of_ble_eq_true rfl) (Nat.le_of_ble_eq_true rfl) (Nat.le_of_ble_eq_true rfl) rfl dX8_remove_16 (nx_tV) (kx_tV ?_)
  intro M2 hM2
  have hx2 := hx.sav hi hM2.1 hM2.2
  obtain ⟨h00, hst, hhs, hbf, hpw, hbw, hmw, ⟨tn, tF, htr⟩, ⟨wn, wF, hwi⟩⟩ := id hx2.1
  change StP _ ad 1 n F g at hst
  have hob1 := hst.1
  obtain ⟨hh_1, hh_2, hh_3, hh_4, hh_5, hho, -⟩ := id hhs
  have hob94 := hbf.1
  obtain ⟨⟨y1, y2, y3, y4, y5, y6, hob96⟩, -, -⟩ := id hpw
  obtain ⟨z1, z2, z3, hob99, -⟩ := id hbw
  obtain ⟨⟨u1, hob101⟩, -, -⟩ := id hmw
  have hob108 := htr.1
  have hob110 := hwi.1
  have hmk := hst.mb (k := k) (by omega) (by omega)
  have hmo := hmk.1
  have hmn : 0 ≤ n (k) ∧ n (k) ≤ 60 := by have h60 := hmk.2.2.2.1; have h59 := hmk.2.2.1; omega
  refine r_aload_n dX8_remove_19 rfl ?_
  refine r_getfield clX8 0 (by decide) fl_X8_10 (by first | assumption | exact up_s _ _ _ | exact (up_n _ (by assumption)).trans (by assumption) | exact (up_n _ (by assumption)).trans (up_s _ _ _) | exact (up_n _ (by assumption)).trans ((up_n _ (by assumption)).trans (by assumption))) rfl dX8_remove_20 ?_
  refine r_iload_n dX8_remove_23 rfl ?_
  refine r_callV1 okX7_members ⟨by decide, by decide⟩ ml_X8_69 (mX7_members hst (k := k) (by omega) (by omega)) (by first | assumption | exact up_s _ _ _ | exact (up_n _ (by assumption)).trans (by assumption) | exact (up_n _ (by assumption)).trans (up_s _ _ _) | exact (up_n _ (by assumption)).trans ((up_n _ (by assumption)).trans (by assumption))) rfl rfl (Nat.le_of_ble_eq_true rfl) (Nat.le_of_ble_eq_true rfl) (Nat.le_of_ble_eq_true rfl) rfl dX8_remove_24 (nx_A) (kx_A ?_)
  refine r_iload_n dX8_remove_27 rfl ?_
  refine r_iload_n dX8_remove_28 rfl ?_
  refine r_callV2 okX5_cutOut ⟨by decide, by decide⟩ ml_X8_92 (mX5_cutOut hmk (by omega) (by omega)) (by first | assumption | exact up_s _ _ _ | exact (up_n _ (by assumption)).trans (by assumption) | exact (up_n _ (by assumption)).trans (up_s _ _ _) | exact (up_n _ (by assumption)).trans ((up_n _ (by assumption)).trans (by assumption))) rfl rfl (Nat.le_of_ble_eq_true rfl) (Nat.le_of_ble_eq_true rfl) (Nat.le_of_ble_eq_true rfl) rfl dX8_remove_29 (nx_tI) (kx_tI ?_)
  intro M3 hM3
  have hx3 := hx2.1.goK hi (by omega) (by omega) hM3.1 hM3.2
  have hmo := hM3.1.1
  refine e_ireturn dX8_remove_32 rfl (Nat.le_of_ble_eq_true rfl) (Nat.le_of_ble_eq_true rfl) ?_
  exact okUX (by unfold e2; rw [if_pos hE1]; exact hE2) rfl ⟨hx3.1, hx2.2.trans hx3.2⟩

set_option maxHeartbeats 4000000 in
theorem mX8_removeRange {M : Mem} {ad : Int → Nat} {n : Int → Int} {F : Int → Int → Int} {g : Int → Int} {m : Int} {S : Int → Sg3} {len : Int} {c : Int → Int} {k x y : Int} (hx : XSt M ad (n, F, g) m S len c) (hv : Vld (n, F, g)) (hi : Inj ad) (q0 : R32 k) (q1 : R32 x) (q2 : R32 y) : Ct KX8_removeRange [.ref (ad 0), vI k, vI x, vI y] M 6 36 (UX (e2 (eSet k) (e2 (eB (0 ≤ x ∧ x ≤ 9999) xA) (e2 (eB (0 ≤ y ∧ y ≤ 9999) xA) (eB (x ≤ y) xA)))) (n k - (cutP (n k) (F k) x y).1) (fun M2 => XSt M2 ad (uI n k ((cutP (n k) (F k) x y).1), uI F k ((cutP (n k) (F k) x y).2), g) (svM m) (svS m S (n, F, g)) len c ∧ FrI ad 0 112 M M2) M) := by
  refine Ct.of _ (by decide) rfl (Nat.le_of_ble_eq_true rfl) ?_
  obtain ⟨h00, hst, hhs, hbf, hpw, hbw, hmw, ⟨tn, tF, htr⟩, ⟨wn, wF, hwi⟩⟩ := id hx
  obtain ⟨hvs, hv0, hv1, hv2, hv3⟩ := id hv
  change StP _ ad 1 n F g at hst
  dsimp only at hvs hv0 hv1 hv2 hv3
  have hob1 := hst.1
  obtain ⟨hh_1, hh_2, hh_3, hh_4, hh_5, hho, -⟩ := id hhs
  have hob94 := hbf.1
  obtain ⟨⟨y1, y2, y3, y4, y5, y6, hob96⟩, -, -⟩ := id hpw
  obtain ⟨z1, z2, z3, hob99, -⟩ := id hbw
  obtain ⟨⟨u1, hob101⟩, -, -⟩ := id hmw
  have hob108 := htr.1
  have hob110 := hwi.1
  refine r_iload_n dX8_removeRange_0 rfl ?_
  refine r_callS1 okX8_requireSet ⟨by decide, by decide⟩ ml_X8_63 (mX8_requireSet (by omega)) (Nat.le_of_ble_eq_true rfl) (Nat.le_of_ble_eq_true rfl) (Nat.le_of_ble_eq_true rfl) rfl dX8_removeRange_1 (tUX (fun hne => by unfold e2; rw [if_neg hne])) (kx_U ?_)
  intro hE1
  have hk9 := eSet_ok hE1
  refine r_iload_n dX8_removeRange_4 rfl ?_
  refine r_callS1 okX8_requireNumber ⟨by decide, by decide⟩ ml_X8_66 (mX8_requireNumber (by omega)) (Nat.le_of_ble_eq_true rfl) (Nat.le_of_ble_eq_true rfl) (Nat.le_of_ble_eq_true rfl) rfl dX8_removeRange_5 (tUX (fun hne => by unfold e2; rw [if_pos hE1, if_neg hne])) (kx_U ?_)
  intro hE2
  have hx9 := eA_ok hE2
  refine r_iload_n dX8_removeRange_8 rfl ?_
  refine r_callS1 okX8_requireNumber ⟨by decide, by decide⟩ ml_X8_66 (mX8_requireNumber (by omega)) (Nat.le_of_ble_eq_true rfl) (Nat.le_of_ble_eq_true rfl) (Nat.le_of_ble_eq_true rfl) rfl dX8_removeRange_9 (tUX (fun hne => by unfold e2; rw [if_pos hE1, if_pos hE2, if_neg hne])) (kx_U ?_)
  intro hE3
  have hy9 := eA_ok hE3
  refine r_iload_n dX8_removeRange_12 rfl ?_
  refine r_iload_n dX8_removeRange_13 rfl ?_
  refine r_icmp_gt (tgt := 21) dX8_removeRange_14 (by decide) (by omega) (by omega) (fun h14 => ?_) (fun h14 => ?_)
  ·
    refine r_iconst dX8_removeRange_21 ?_
    refine r_callS1 okX8_requireArgument ⟨by decide, by decide⟩ ml_X8_96 (mX8_requireArgument (b := x ≤ y) (by first | (rw [if_pos (by omega)]; done) | (rw [if_neg (by omega)]; done))) (Nat.le_of_ble_eq_true rfl) (Nat.le_of_ble_eq_true rfl) (Nat.le_of_ble_eq_true rfl) rfl dX8_removeRange_22 (tUX (fun hne => by unfold e2; rw [if_pos hE1, if_pos hE2, if_pos hE3])) (kx_U ?_)
    intro hE4
    have hq9 := eA_ok hE4
    refine r_aload_n dX8_removeRange_25 rfl ?_
    refine r_getfield clX8 1 (by decide) fl_X8_19 (by first | assumption | exact up_s _ _ _ | exact (up_n _ (by assumption)).trans (by assumption) | exact (up_n _ (by assumption)).trans (up_s _ _ _) | exact (up_n _ (by assumption)).trans ((up_n _ (by assumption)).trans (by assumption))) rfl dX8_removeRange_26 ?_
    refine r_aload_n dX8_removeRange_29 rfl ?_
    refine r_getfield clX8 0 (by decide) fl_X8_10 (by first | assumption | exact up_s _ _ _ | exact (up_n _ (by assumption)).trans (by assumption) | exact (up_n _ (by assumption)).trans (up_s _ _ _) | exact (up_n _ (by assumption)).trans ((up_n _ (by assumption)).trans (by assumption))) rfl dX8_removeRange_30 ?_
    refine r_callV1 okX2_save ⟨by decide, by decide⟩ ml_X8_85 (mX2_save (s := 0) (σ := (n, F, g)) hhs hst hi) (by first | assumption | exact up_s _ _ _ | exact (up_n _ (by assumption)).trans (by assumption) | exact (up_n _ (by assumption)).trans (up_s _ _ _) | exact (up_n _ (by assumption)).trans ((up_n _ (by assumption)).trans (by assumption))) rfl rfl (Nat.le_of_ble_eq_true rfl) (Nat.le_of_ble_eq_true rfl) (Nat.le_of_ble_eq_true rfl) rfl dX8_removeRange_33 (nx_tV) (kx_tV ?_)
    intro M2 hM2
    have hx2 := hx.sav hi hM2.1 hM2.2
    obtain ⟨h00, hst, hhs, hbf, hpw, hbw, hmw, ⟨tn, tF, htr⟩, ⟨wn, wF, hwi⟩⟩ := id hx2.1
    change StP _ ad 1 n F g at hst
    have hob1 := hst.1
    obtain ⟨hh_1, hh_2, hh_3, hh_4, hh_5, hho, -⟩ := id hhs
    have hob94 := hbf.1
    obtain ⟨⟨y1, y2, y3, y4, y5, y6, hob96⟩, -, -⟩ := id hpw
    obtain ⟨z1, z2, z3, hob99, -⟩ := id hbw
    obtain ⟨⟨u1, hob101⟩, -, -⟩ := id hmw
    have hob108 := htr.1
    have hob110 := hwi.1
    have hmk := hst.mb (k := k) (by omega) (by omega)
    have hmo := hmk.1
    have hmn : 0 ≤ n (k) ∧ n (k) ≤ 60 := by have h60 := hmk.2.2.2.1; have h59 := hmk.2.2.1; omega
    refine r_aload_n dX8_removeRange_36 rfl ?_
    refine r_getfield clX8 0 (by decide) fl_X8_10 (by first | assumption | exact up_s _ _ _ | exact (up_n _ (by assumption)).trans (by assumption) | exact (up_n _ (by assumption)).trans (up_s _ _ _) | exact (up_n _ (by assumption)).trans ((up_n _ (by assumption)).trans (by assumption))) rfl dX8_removeRange_37 ?_
    refine r_iload_n dX8_removeRange_40 rfl ?_
    refine r_callV1 okX7_members ⟨by decide, by decide⟩ ml_X8_69 (mX7_members hst (k := k) (by omega) (by omega)) (by first | assumption | exact up_s _ _ _ | exact (up_n _ (by assumption)).trans (by assumption) | exact (up_n _ (by assumption)).trans (up_s _ _ _) | exact (up_n _ (by assumption)).trans ((up_n _ (by assumption)).trans (by assumption))) rfl rfl (Nat.le_of_ble_eq_true rfl) (Nat.le_of_ble_eq_true rfl) (Nat.le_of_ble_eq_true rfl) rfl dX8_removeRange_41 (nx_A) (kx_A ?_)
    refine r_iload_n dX8_removeRange_44 rfl ?_
    refine r_iload_n dX8_removeRange_45 rfl ?_
    refine r_callV2 okX5_cutOut ⟨by decide, by decide⟩ ml_X8_92 (mX5_cutOut hmk (by omega) (by omega)) (by first | assumption | exact up_s _ _ _ | exact (up_n _ (by assumption)).trans (by assumption) | exact (up_n _ (by assumption)).trans (up_s _ _ _) | exact (up_n _ (by assumption)).trans ((up_n _ (by assumption)).trans (by assumption))) rfl rfl (Nat.le_of_ble_eq_true rfl) (Nat.le_of_ble_eq_true rfl) (Nat.le_of_ble_eq_true rfl) rfl dX8_removeRange_46 (nx_tI) (kx_tI ?_)
    intro M3 hM3
    have hx3 := hx2.1.goK hi (by omega) (by omega) hM3.1 hM3.2
    have hmo := hM3.1.1
    refine e_ireturn dX8_removeRange_49 rfl (Nat.le_of_ble_eq_true rfl) (Nat.le_of_ble_eq_true rfl) ?_
    exact okUX (by unfold e2; rw [if_pos hE1, if_pos hE2, if_pos hE3]; exact hE4) rfl ⟨hx3.1, hx2.2.trans hx3.2⟩
  ·
    refine r_iconst dX8_removeRange_17 ?_
    refine r_goto (tgt := 22) dX8_removeRange_18 (by decide) ?_
    refine r_callS1 okX8_requireArgument ⟨by decide, by decide⟩ ml_X8_96 (mX8_requireArgument (b := x ≤ y) (by first | (rw [if_pos (by omega)]; done) | (rw [if_neg (by omega)]; done))) (Nat.le_of_ble_eq_true rfl) (Nat.le_of_ble_eq_true rfl) (Nat.le_of_ble_eq_true rfl) rfl dX8_removeRange_22 (tUX (fun hne => by unfold e2; rw [if_pos hE1, if_pos hE2, if_pos hE3])) (kx_U ?_)
    intro hE4
    have hq9 := eA_ok hE4
    refine r_aload_n dX8_removeRange_25 rfl ?_
    refine r_getfield clX8 1 (by decide) fl_X8_19 (by first | assumption | exact up_s _ _ _ | exact (up_n _ (by assumption)).trans (by assumption) | exact (up_n _ (by assumption)).trans (up_s _ _ _) | exact (up_n _ (by assumption)).trans ((up_n _ (by assumption)).trans (by assumption))) rfl dX8_removeRange_26 ?_
    refine r_aload_n dX8_removeRange_29 rfl ?_
    refine r_getfield clX8 0 (by decide) fl_X8_10 (by first | assumption | exact up_s _ _ _ | exact (up_n _ (by assumption)).trans (by assumption) | exact (up_n _ (by assumption)).trans (up_s _ _ _) | exact (up_n _ (by assumption)).trans ((up_n _ (by assumption)).trans (by assumption))) rfl dX8_removeRange_30 ?_
    refine r_callV1 okX2_save ⟨by decide, by decide⟩ ml_X8_85 (mX2_save (s := 0) (σ := (n, F, g)) hhs hst hi) (by first | assumption | exact up_s _ _ _ | exact (up_n _ (by assumption)).trans (by assumption) | exact (up_n _ (by assumption)).trans (up_s _ _ _) | exact (up_n _ (by assumption)).trans ((up_n _ (by assumption)).trans (by assumption))) rfl rfl (Nat.le_of_ble_eq_true rfl) (Nat.le_of_ble_eq_true rfl) (Nat.le_of_ble_eq_true rfl) rfl dX8_removeRange_33 (nx_tV) (kx_tV ?_)
    intro M2 hM2
    have hx2 := hx.sav hi hM2.1 hM2.2
    obtain ⟨h00, hst, hhs, hbf, hpw, hbw, hmw, ⟨tn, tF, htr⟩, ⟨wn, wF, hwi⟩⟩ := id hx2.1
    change StP _ ad 1 n F g at hst
    have hob1 := hst.1
    obtain ⟨hh_1, hh_2, hh_3, hh_4, hh_5, hho, -⟩ := id hhs
    have hob94 := hbf.1
    obtain ⟨⟨y1, y2, y3, y4, y5, y6, hob96⟩, -, -⟩ := id hpw
    obtain ⟨z1, z2, z3, hob99, -⟩ := id hbw
    obtain ⟨⟨u1, hob101⟩, -, -⟩ := id hmw
    have hob108 := htr.1
    have hob110 := hwi.1
    have hmk := hst.mb (k := k) (by omega) (by omega)
    have hmo := hmk.1
    have hmn : 0 ≤ n (k) ∧ n (k) ≤ 60 := by have h60 := hmk.2.2.2.1; have h59 := hmk.2.2.1; omega
    refine r_aload_n dX8_removeRange_36 rfl ?_
    refine r_getfield clX8 0 (by decide) fl_X8_10 (by first | assumption | exact up_s _ _ _ | exact (up_n _ (by assumption)).trans (by assumption) | exact (up_n _ (by assumption)).trans (up_s _ _ _) | exact (up_n _ (by assumption)).trans ((up_n _ (by assumption)).trans (by assumption))) rfl dX8_removeRange_37 ?_
    refine r_iload_n dX8_removeRange_40 rfl ?_
    refine r_callV1 okX7_members ⟨by decide, by decide⟩ ml_X8_69 (mX7_members hst (k := k) (by omega) (by omega)) (by first | assumption | exact up_s _ _ _ | exact (up_n _ (by assumption)).trans (by assumption) | exact (up_n _ (by assumption)).trans (up_s _ _ _) | exact (up_n _ (by assumption)).trans ((up_n _ (by assumption)).trans (by assumption))) rfl rfl (Nat.le_of_ble_eq_true rfl) (Nat.le_of_ble_eq_true rfl) (Nat.le_of_ble_eq_true rfl) rfl dX8_removeRange_41 (nx_A) (kx_A ?_)
    refine r_iload_n dX8_removeRange_44 rfl ?_
    refine r_iload_n dX8_removeRange_45 rfl ?_
    refine r_callV2 okX5_cutOut ⟨by decide, by decide⟩ ml_X8_92 (mX5_cutOut hmk (by omega) (by omega)) (by first | assumption | exact up_s _ _ _ | exact (up_n _ (by assumption)).trans (by assumption) | exact (up_n _ (by assumption)).trans (up_s _ _ _) | exact (up_n _ (by assumption)).trans ((up_n _ (by assumption)).trans (by assumption))) rfl rfl (Nat.le_of_ble_eq_true rfl) (Nat.le_of_ble_eq_true rfl) (Nat.le_of_ble_eq_true rfl) rfl dX8_removeRange_46 (nx_tI) (kx_tI ?_)
    intro M3 hM3
    have hx3 := hx2.1.goK hi (by omega) (by omega) hM3.1 hM3.2
    have hmo := hM3.1.1
    refine e_ireturn dX8_removeRange_49 rfl (Nat.le_of_ble_eq_true rfl) (Nat.le_of_ble_eq_true rfl) ?_
    exact okUX (by unfold e2; rw [if_pos hE1, if_pos hE2, if_pos hE3]; exact hE4) rfl ⟨hx3.1, hx2.2.trans hx3.2⟩

set_option maxHeartbeats 4000000 in
theorem mX8_shift {M : Mem} {ad : Int → Nat} {n : Int → Int} {F : Int → Int → Int} {g : Int → Int} {m : Int} {S : Int → Sg3} {len : Int} {c : Int → Int} {k b : Int} (hx : XSt M ad (n, F, g) m S len c) (hv : Vld (n, F, g)) (hi : Inj ad) (q0 : R32 k) (q1 : R32 b) : Ct KX8_shift [.ref (ad 0), vI k, vI b] M 6 36 (UX (e2 (eSet k) (e2 (eB (-9999 ≤ b ∧ b ≤ 9999) xA) (eB (n k = 0 ∨ (0 ≤ atF (n k) (F k) 0 + b ∧ atF (n k) (F k) (n k - 1) + b ≤ 9999)) xS))) (atF (n k) (fun i => F k i + b) 0) (fun M2 => XSt M2 ad (uI n k (n k), uI F k (fun i => F k i + b), g) (svM m) (svS m S (n, F, g)) len c ∧ FrI ad 0 112 M M2) M) := by
  refine Ct.of _ (by decide) rfl (Nat.le_of_ble_eq_true rfl) ?_
  obtain ⟨h00, hst, hhs, hbf, hpw, hbw, hmw, ⟨tn, tF, htr⟩, ⟨wn, wF, hwi⟩⟩ := id hx
  obtain ⟨hvs, hv0, hv1, hv2, hv3⟩ := id hv
  change StP _ ad 1 n F g at hst
  dsimp only at hvs hv0 hv1 hv2 hv3
  have hob1 := hst.1
  obtain ⟨hh_1, hh_2, hh_3, hh_4, hh_5, hho, -⟩ := id hhs
  have hob94 := hbf.1
  obtain ⟨⟨y1, y2, y3, y4, y5, y6, hob96⟩, -, -⟩ := id hpw
  obtain ⟨z1, z2, z3, hob99, -⟩ := id hbw
  obtain ⟨⟨u1, hob101⟩, -, -⟩ := id hmw
  have hob108 := htr.1
  have hob110 := hwi.1
  refine r_iload_n dX8_shift_0 rfl ?_
  refine r_callS1 okX8_requireSet ⟨by decide, by decide⟩ ml_X8_63 (mX8_requireSet (by omega)) (Nat.le_of_ble_eq_true rfl) (Nat.le_of_ble_eq_true rfl) (Nat.le_of_ble_eq_true rfl) rfl dX8_shift_1 (tUX (fun hne => by unfold e2; rw [if_neg hne])) (kx_U ?_)
  intro hE1
  have hk9 := eSet_ok hE1
  refine r_iload_n dX8_shift_4 rfl ?_
  refine r_sipush dX8_shift_5 (by decide) ?_
  refine r_icmp_lt (tgt := 22) dX8_shift_8 (by decide) (by omega) (by omega) (fun h8 => ?_) (fun h8 => ?_)
  ·
    refine r_iconst dX8_shift_22 ?_
    refine r_callS1 okX8_requireArgument ⟨by decide, by decide⟩ ml_X8_96 (mX8_requireArgument (b := -9999 ≤ b ∧ b ≤ 9999) (by first | (rw [if_pos (by omega)]; done) | (rw [if_neg (by omega)]; done))) (Nat.le_of_ble_eq_true rfl) (Nat.le_of_ble_eq_true rfl) (Nat.le_of_ble_eq_true rfl) rfl dX8_shift_23 (tUX (fun hne => by unfold e2; rw [if_pos hE1, if_neg hne])) (kx_U ?_)
    intro hE2
    have hq9 := eA_ok hE2
    refine r_aload_n dX8_shift_26 rfl ?_
    refine r_getfield clX8 0 (by decide) fl_X8_10 (by first | assumption | exact up_s _ _ _ | exact (up_n _ (by assumption)).trans (by assumption) | exact (up_n _ (by assumption)).trans (up_s _ _ _) | exact (up_n _ (by assumption)).trans ((up_n _ (by assumption)).trans (by assumption))) rfl dX8_shift_27 ?_
    refine r_iload_n dX8_shift_30 rfl ?_
    refine r_callV1 okX7_members ⟨by decide, by decide⟩ ml_X8_69 (mX7_members hst (k := k) (by omega) (by omega)) (by first | assumption | exact up_s _ _ _ | exact (up_n _ (by assumption)).trans (by assumption) | exact (up_n _ (by assumption)).trans (up_s _ _ _) | exact (up_n _ (by assumption)).trans ((up_n _ (by assumption)).trans (by assumption))) rfl rfl (Nat.le_of_ble_eq_true rfl) (Nat.le_of_ble_eq_true rfl) (Nat.le_of_ble_eq_true rfl) rfl dX8_shift_31 (nx_A) (kx_A ?_)
    refine r_astore_n dX8_shift_34 (by decide) rfl ?_
    have hmk := hst.mb (k := k) (by omega) (by omega)
    have hmo := hmk.1
    have hmn : 0 ≤ n (k) ∧ n (k) ≤ 60 := by have h60 := hmk.2.2.2.1; have h59 := hmk.2.2.1; omega
    refine r_aload_n dX8_shift_35 rfl ?_
    refine r_callV0 okX5_isEmpty ⟨by decide, by decide⟩ ml_X8_99 (mX5_isEmpty hmk) (by first | assumption | exact up_s _ _ _ | exact (up_n _ (by assumption)).trans (by assumption) | exact (up_n _ (by assumption)).trans (up_s _ _ _) | exact (up_n _ (by assumption)).trans ((up_n _ (by assumption)).trans (by assumption))) rfl rfl (Nat.le_of_ble_eq_true rfl) (Nat.le_of_ble_eq_true rfl) (Nat.le_of_ble_eq_true rfl) rfl dX8_shift_36 (nx_I) (kx_I ?_)
    have hbe := bI_r (decide (n k = 0))
    have hbq : bI (decide (n k = 0)) = 0 ↔ ¬ n k = 0 := by by_cases e : n k = 0 <;> simp [bI, e]
    refine r_if_ne (tgt := 63) dX8_shift_39 (by decide) (by omega) (fun h39 => ?_) (fun h39 => ?_)
    ·
      refine r_iconst dX8_shift_63 ?_
      refine r_goto (tgt := 68) dX8_shift_64 (by decide) ?_
      refine r_callS1 okX8_requireState ⟨by decide, by decide⟩ ml_X8_81 (mX8_requireState (b := n k = 0 ∨ (0 ≤ atF (n k) (F k) 0 + b ∧ atF (n k) (F k) (n k - 1) + b ≤ 9999)) (by first | (rw [if_pos (by omega)]; done) | (rw [if_neg (by omega)]; done))) (Nat.le_of_ble_eq_true rfl) (Nat.le_of_ble_eq_true rfl) (Nat.le_of_ble_eq_true rfl) rfl dX8_shift_68 (tUX (fun hne => by unfold e2; rw [if_pos hE1, if_pos hE2])) (kx_U ?_)
      intro hE3
      have hs9 := eS_ok hE3
      refine r_aload_n dX8_shift_71 rfl ?_
      refine r_getfield clX8 1 (by decide) fl_X8_19 (by first | assumption | exact up_s _ _ _ | exact (up_n _ (by assumption)).trans (by assumption) | exact (up_n _ (by assumption)).trans (up_s _ _ _) | exact (up_n _ (by assumption)).trans ((up_n _ (by assumption)).trans (by assumption))) rfl dX8_shift_72 ?_
      refine r_aload_n dX8_shift_75 rfl ?_
      refine r_getfield clX8 0 (by decide) fl_X8_10 (by first | assumption | exact up_s _ _ _ | exact (up_n _ (by assumption)).trans (by assumption) | exact (up_n _ (by assumption)).trans (up_s _ _ _) | exact (up_n _ (by assumption)).trans ((up_n _ (by assumption)).trans (by assumption))) rfl dX8_shift_76 ?_
      refine r_callV1 okX2_save ⟨by decide, by decide⟩ ml_X8_85 (mX2_save (s := 0) (σ := (n, F, g)) hhs hst hi) (by first | assumption | exact up_s _ _ _ | exact (up_n _ (by assumption)).trans (by assumption) | exact (up_n _ (by assumption)).trans (up_s _ _ _) | exact (up_n _ (by assumption)).trans ((up_n _ (by assumption)).trans (by assumption))) rfl rfl (Nat.le_of_ble_eq_true rfl) (Nat.le_of_ble_eq_true rfl) (Nat.le_of_ble_eq_true rfl) rfl dX8_shift_79 (nx_tV) (kx_tV ?_)
      intro M2 hM2
      have hx2 := hx.sav hi hM2.1 hM2.2
      obtain ⟨h00, hst, hhs, hbf, hpw, hbw, hmw, ⟨tn, tF, htr⟩, ⟨wn, wF, hwi⟩⟩ := id hx2.1
      change StP _ ad 1 n F g at hst
      have hob1 := hst.1
      obtain ⟨hh_1, hh_2, hh_3, hh_4, hh_5, hho, -⟩ := id hhs
      have hob94 := hbf.1
      obtain ⟨⟨y1, y2, y3, y4, y5, y6, hob96⟩, -, -⟩ := id hpw
      obtain ⟨z1, z2, z3, hob99, -⟩ := id hbw
      obtain ⟨⟨u1, hob101⟩, -, -⟩ := id hmw
      have hob108 := htr.1
      have hob110 := hwi.1
      have hmk := hst.mb (k := k) (by omega) (by omega)
      have hmo := hmk.1
      have hmn : 0 ≤ n (k) ∧ n (k) ≤ 60 := by have h60 := hmk.2.2.2.1; have h59 := hmk.2.2.1; omega
      have hmv := shift_ok (hvs k (by omega) (by omega)) hmk.2.2.1 hs9
      refine r_aload_n dX8_shift_82 rfl ?_
      refine r_iload_n dX8_shift_83 rfl ?_
      refine r_callV1 okX5_moveBy ⟨by decide, by decide⟩ ml_X8_109 (mX5_moveBy hmk (by omega) hmv) (by first | assumption | exact up_s _ _ _ | exact (up_n _ (by assumption)).trans (by assumption) | exact (up_n _ (by assumption)).trans (up_s _ _ _) | exact (up_n _ (by assumption)).trans ((up_n _ (by assumption)).trans (by assumption))) rfl rfl (Nat.le_of_ble_eq_true rfl) (Nat.le_of_ble_eq_true rfl) (Nat.le_of_ble_eq_true rfl) rfl dX8_shift_84 (nx_tV) (kx_tV ?_)
      intro M3 hM3
      have hx3 := hx2.1.goK hi (by omega) (by omega) hM3.1 hM3.2
      have hmo := hM3.1.1
      refine r_aload_n dX8_shift_87 rfl ?_
      refine r_callV0 okX5_least ⟨by decide, by decide⟩ ml_X8_103 (mX5_least hM3.1) (by first | assumption | exact up_s _ _ _ | exact (up_n _ (by assumption)).trans (by assumption) | exact (up_n _ (by assumption)).trans (up_s _ _ _) | exact (up_n _ (by assumption)).trans ((up_n _ (by assumption)).trans (by assumption))) rfl rfl (Nat.le_of_ble_eq_true rfl) (Nat.le_of_ble_eq_true rfl) (Nat.le_of_ble_eq_true rfl) rfl dX8_shift_88 (nx_I) (kx_I ?_)
      refine e_ireturn dX8_shift_91 rfl (Nat.le_of_ble_eq_true rfl) (Nat.le_of_ble_eq_true rfl) ?_
      exact okUX (by unfold e2; rw [if_pos hE1, if_pos hE2]; exact hE3) rfl ⟨hx3.1, hx2.2.trans hx3.2⟩
    ·
      refine r_aload_n dX8_shift_42 rfl ?_
      refine r_callV0 okX5_least ⟨by decide, by decide⟩ ml_X8_103 (mX5_least hmk) (by first | assumption | exact up_s _ _ _ | exact (up_n _ (by assumption)).trans (by assumption) | exact (up_n _ (by assumption)).trans (up_s _ _ _) | exact (up_n _ (by assumption)).trans ((up_n _ (by assumption)).trans (by assumption))) rfl rfl (Nat.le_of_ble_eq_true rfl) (Nat.le_of_ble_eq_true rfl) (Nat.le_of_ble_eq_true rfl) rfl dX8_shift_43 (nx_I) (kx_I ?_)
      have hl0 := hmk.at 0
      refine r_iload_n dX8_shift_46 rfl ?_
      refine r_iadd dX8_shift_47 ?_
      refine r_if_lt (tgt := 67) dX8_shift_48 (by decide) (by omega) (fun h48 => ?_) (fun h48 => ?_)
      ·
        refine r_iconst dX8_shift_67 ?_
        refine r_callS1 okX8_requireState ⟨by decide, by decide⟩ ml_X8_81 (mX8_requireState (b := n k = 0 ∨ (0 ≤ atF (n k) (F k) 0 + b ∧ atF (n k) (F k) (n k - 1) + b ≤ 9999)) (by first | (rw [if_pos (by omega)]; done) | (rw [if_neg (by omega)]; done))) (Nat.le_of_ble_eq_true rfl) (Nat.le_of_ble_eq_true rfl) (Nat.le_of_ble_eq_true rfl) rfl dX8_shift_68 (tUX (fun hne => by unfold e2; rw [if_pos hE1, if_pos hE2])) (kx_U ?_)
        intro hE3
        have hs9 := eS_ok hE3
        refine r_aload_n dX8_shift_71 rfl ?_
        refine r_getfield clX8 1 (by decide) fl_X8_19 (by first | assumption | exact up_s _ _ _ | exact (up_n _ (by assumption)).trans (by assumption) | exact (up_n _ (by assumption)).trans (up_s _ _ _) | exact (up_n _ (by assumption)).trans ((up_n _ (by assumption)).trans (by assumption))) rfl dX8_shift_72 ?_
        refine r_aload_n dX8_shift_75 rfl ?_
        refine r_getfield clX8 0 (by decide) fl_X8_10 (by first | assumption | exact up_s _ _ _ | exact (up_n _ (by assumption)).trans (by assumption) | exact (up_n _ (by assumption)).trans (up_s _ _ _) | exact (up_n _ (by assumption)).trans ((up_n _ (by assumption)).trans (by assumption))) rfl dX8_shift_76 ?_
        refine r_callV1 okX2_save ⟨by decide, by decide⟩ ml_X8_85 (mX2_save (s := 0) (σ := (n, F, g)) hhs hst hi) (by first | assumption | exact up_s _ _ _ | exact (up_n _ (by assumption)).trans (by assumption) | exact (up_n _ (by assumption)).trans (up_s _ _ _) | exact (up_n _ (by assumption)).trans ((up_n _ (by assumption)).trans (by assumption))) rfl rfl (Nat.le_of_ble_eq_true rfl) (Nat.le_of_ble_eq_true rfl) (Nat.le_of_ble_eq_true rfl) rfl dX8_shift_79 (nx_tV) (kx_tV ?_)
        intro M2 hM2
        have hx2 := hx.sav hi hM2.1 hM2.2
        obtain ⟨h00, hst, hhs, hbf, hpw, hbw, hmw, ⟨tn, tF, htr⟩, ⟨wn, wF, hwi⟩⟩ := id hx2.1
        change StP _ ad 1 n F g at hst
        have hob1 := hst.1
        obtain ⟨hh_1, hh_2, hh_3, hh_4, hh_5, hho, -⟩ := id hhs
        have hob94 := hbf.1
        obtain ⟨⟨y1, y2, y3, y4, y5, y6, hob96⟩, -, -⟩ := id hpw
        obtain ⟨z1, z2, z3, hob99, -⟩ := id hbw
        obtain ⟨⟨u1, hob101⟩, -, -⟩ := id hmw
        have hob108 := htr.1
        have hob110 := hwi.1
        have hmk := hst.mb (k := k) (by omega) (by omega)
        have hmo := hmk.1
        have hmn : 0 ≤ n (k) ∧ n (k) ≤ 60 := by have h60 := hmk.2.2.2.1; have h59 := hmk.2.2.1; omega
        have hmv := shift_ok (hvs k (by omega) (by omega)) hmk.2.2.1 hs9
        refine r_aload_n dX8_shift_82 rfl ?_
        refine r_iload_n dX8_shift_83 rfl ?_
        refine r_callV1 okX5_moveBy ⟨by decide, by decide⟩ ml_X8_109 (mX5_moveBy hmk (by omega) hmv) (by first | assumption | exact up_s _ _ _ | exact (up_n _ (by assumption)).trans (by assumption) | exact (up_n _ (by assumption)).trans (up_s _ _ _) | exact (up_n _ (by assumption)).trans ((up_n _ (by assumption)).trans (by assumption))) rfl rfl (Nat.le_of_ble_eq_true rfl) (Nat.le_of_ble_eq_true rfl) (Nat.le_of_ble_eq_true rfl) rfl dX8_shift_84 (nx_tV) (kx_tV ?_)
        intro M3 hM3
        have hx3 := hx2.1.goK hi (by omega) (by omega) hM3.1 hM3.2
        have hmo := hM3.1.1
        refine r_aload_n dX8_shift_87 rfl ?_
        refine r_callV0 okX5_least ⟨by decide, by decide⟩ ml_X8_103 (mX5_least hM3.1) (by first | assumption | exact up_s _ _ _ | exact (up_n _ (by assumption)).trans (by assumption) | exact (up_n _ (by assumption)).trans (up_s _ _ _) | exact (up_n _ (by assumption)).trans ((up_n _ (by assumption)).trans (by assumption))) rfl rfl (Nat.le_of_ble_eq_true rfl) (Nat.le_of_ble_eq_true rfl) (Nat.le_of_ble_eq_true rfl) rfl dX8_shift_88 (nx_I) (kx_I ?_)
        refine e_ireturn dX8_shift_91 rfl (Nat.le_of_ble_eq_true rfl) (Nat.le_of_ble_eq_true rfl) ?_
        exact okUX (by unfold e2; rw [if_pos hE1, if_pos hE2]; exact hE3) rfl ⟨hx3.1, hx2.2.trans hx3.2⟩
      ·
        refine r_aload_n dX8_shift_51 rfl ?_
        refine r_callV0 okX5_greatest ⟨by decide, by decide⟩ ml_X8_106 (mX5_greatest hmk) (by first | assumption | exact up_s _ _ _ | exact (up_n _ (by assumption)).trans (by assumption) | exact (up_n _ (by assumption)).trans (up_s _ _ _) | exact (up_n _ (by assumption)).trans ((up_n _ (by assumption)).trans (by assumption))) rfl rfl (Nat.le_of_ble_eq_true rfl) (Nat.le_of_ble_eq_true rfl) (Nat.le_of_ble_eq_true rfl) rfl dX8_shift_52 (nx_I) (kx_I ?_)
        have hl1 := hmk.at (n k - 1)
        refine r_iload_n dX8_shift_55 rfl ?_
        refine r_iadd dX8_shift_56 ?_
        refine r_sipush dX8_shift_57 (by decide) ?_
        refine r_icmp_gt (tgt := 67) dX8_shift_60 (by decide) (by omega) (by omega) (fun h60 => ?_) (fun h60 => ?_)
        ·
          refine r_iconst dX8_shift_67 ?_
          refine r_callS1 okX8_requireState ⟨by decide, by decide⟩ ml_X8_81 (mX8_requireState (b := n k = 0 ∨ (0 ≤ atF (n k) (F k) 0 + b ∧ atF (n k) (F k) (n k - 1) + b ≤ 9999)) (by first | (rw [if_pos (by omega)]; done) | (rw [if_neg (by omega)]; done))) (Nat.le_of_ble_eq_true rfl) (Nat.le_of_ble_eq_true rfl) (Nat.le_of_ble_eq_true rfl) rfl dX8_shift_68 (tUX (fun hne => by unfold e2; rw [if_pos hE1, if_pos hE2])) (kx_U ?_)
          intro hE3
          have hs9 := eS_ok hE3
          refine r_aload_n dX8_shift_71 rfl ?_
          refine r_getfield clX8 1 (by decide) fl_X8_19 (by first | assumption | exact up_s _ _ _ | exact (up_n _ (by assumption)).trans (by assumption) | exact (up_n _ (by assumption)).trans (up_s _ _ _) | exact (up_n _ (by assumption)).trans ((up_n _ (by assumption)).trans (by assumption))) rfl dX8_shift_72 ?_
          refine r_aload_n dX8_shift_75 rfl ?_
          refine r_getfield clX8 0 (by decide) fl_X8_10 (by first | assumption | exact up_s _ _ _ | exact (up_n _ (by assumption)).trans (by assumption) | exact (up_n _ (by assumption)).trans (up_s _ _ _) | exact (up_n _ (by assumption)).trans ((up_n _ (by assumption)).trans (by assumption))) rfl dX8_shift_76 ?_
          refine r_callV1 okX2_save ⟨by decide, by decide⟩ ml_X8_85 (mX2_save (s := 0) (σ := (n, F, g)) hhs hst hi) (by first | assumption | exact up_s _ _ _ | exact (up_n _ (by assumption)).trans (by assumption) | exact (up_n _ (by assumption)).trans (up_s _ _ _) | exact (up_n _ (by assumption)).trans ((up_n _ (by assumption)).trans (by assumption))) rfl rfl (Nat.le_of_ble_eq_true rfl) (Nat.le_of_ble_eq_true rfl) (Nat.le_of_ble_eq_true rfl) rfl dX8_shift_79 (nx_tV) (kx_tV ?_)
          intro M2 hM2
          have hx2 := hx.sav hi hM2.1 hM2.2
          obtain ⟨h00, hst, hhs, hbf, hpw, hbw, hmw, ⟨tn, tF, htr⟩, ⟨wn, wF, hwi⟩⟩ := id hx2.1
          change StP _ ad 1 n F g at hst
          have hob1 := hst.1
          obtain ⟨hh_1, hh_2, hh_3, hh_4, hh_5, hho, -⟩ := id hhs
          have hob94 := hbf.1
          obtain ⟨⟨y1, y2, y3, y4, y5, y6, hob96⟩, -, -⟩ := id hpw
          obtain ⟨z1, z2, z3, hob99, -⟩ := id hbw
          obtain ⟨⟨u1, hob101⟩, -, -⟩ := id hmw
          have hob108 := htr.1
          have hob110 := hwi.1
          have hmk := hst.mb (k := k) (by omega) (by omega)
          have hmo := hmk.1
          have hmn : 0 ≤ n (k) ∧ n (k) ≤ 60 := by have h60 := hmk.2.2.2.1; have h59 := hmk.2.2.1; omega
          have hmv := shift_ok (hvs k (by omega) (by omega)) hmk.2.2.1 hs9
          refine r_aload_n dX8_shift_82 rfl ?_
          refine r_iload_n dX8_shift_83 rfl ?_
          refine r_callV1 okX5_moveBy ⟨by decide, by decide⟩ ml_X8_109 (mX5_moveBy hmk (by omega) hmv) (by first | assumption | exact up_s _ _ _ | exact (up_n _ (by assumption)).trans (by assumption) | exact (up_n _ (by assumption)).trans (up_s _ _ _) | exact (up_n _ (by assumption)).trans ((up_n _ (by assumption)).trans (by assumption))) rfl rfl (Nat.le_of_ble_eq_true rfl) (Nat.le_of_ble_eq_true rfl) (Nat.le_of_ble_eq_true rfl) rfl dX8_shift_84 (nx_tV) (kx_tV ?_)
          intro M3 hM3
          have hx3 := hx2.1.goK hi (by omega) (by omega) hM3.1 hM3.2
          have hmo := hM3.1.1
          refine r_aload_n dX8_shift_87 rfl ?_
          refine r_callV0 okX5_least ⟨by decide, by decide⟩ ml_X8_103 (mX5_least hM3.1) (by first | assumption | exact up_s _ _ _ | exact (up_n _ (by assumption)).trans (by assumption) | exact (up_n _ (by assumption)).trans (up_s _ _ _) | exact (up_n _ (by assumption)).trans ((up_n _ (by assumption)).trans (by assumption))) rfl rfl (Nat.le_of_ble_eq_true rfl) (Nat.le_of_ble_eq_true rfl) (Nat.le_of_ble_eq_true rfl) rfl dX8_shift_88 (nx_I) (kx_I ?_)
          refine e_ireturn dX8_shift_91 rfl (Nat.le_of_ble_eq_true rfl) (Nat.le_of_ble_eq_true rfl) ?_
          exact okUX (by unfold e2; rw [if_pos hE1, if_pos hE2]; exact hE3) rfl ⟨hx3.1, hx2.2.trans hx3.2⟩
        ·
          refine r_iconst dX8_shift_63 ?_
          refine r_goto (tgt := 68) dX8_shift_64 (by decide) ?_
          refine r_callS1 okX8_requireState ⟨by decide, by decide⟩ ml_X8_81 (mX8_requireState (b := n k = 0 ∨ (0 ≤ atF (n k) (F k) 0 + b ∧ atF (n k) (F k) (n k - 1) + b ≤ 9999)) (by first | (rw [if_pos (by omega)]; done) | (rw [if_neg (by omega)]; done))) (Nat.le_of_ble_eq_true rfl) (Nat.le_of_ble_eq_true rfl) (Nat.le_of_ble_eq_true rfl) rfl dX8_shift_68 (tUX (fun hne => by unfold e2; rw [if_pos hE1, if_pos hE2])) (kx_U ?_)
          intro hE3
          have hs9 := eS_ok hE3
          refine r_aload_n dX8_shift_71 rfl ?_
          refine r_getfield clX8 1 (by decide) fl_X8_19 (by first | assumption | exact up_s _ _ _ | exact (up_n _ (by assumption)).trans (by assumption) | exact (up_n _ (by assumption)).trans (up_s _ _ _) | exact (up_n _ (by assumption)).trans ((up_n _ (by assumption)).trans (by assumption))) rfl dX8_shift_72 ?_
          refine r_aload_n dX8_shift_75 rfl ?_
          refine r_getfield clX8 0 (by decide) fl_X8_10 (by first | assumption | exact up_s _ _ _ | exact (up_n _ (by assumption)).trans (by assumption) | exact (up_n _ (by assumption)).trans (up_s _ _ _) | exact (up_n _ (by assumption)).trans ((up_n _ (by assumption)).trans (by assumption))) rfl dX8_shift_76 ?_
          refine r_callV1 okX2_save ⟨by decide, by decide⟩ ml_X8_85 (mX2_save (s := 0) (σ := (n, F, g)) hhs hst hi) (by first | assumption | exact up_s _ _ _ | exact (up_n _ (by assumption)).trans (by assumption) | exact (up_n _ (by assumption)).trans (up_s _ _ _) | exact (up_n _ (by assumption)).trans ((up_n _ (by assumption)).trans (by assumption))) rfl rfl (Nat.le_of_ble_eq_true rfl) (Nat.le_of_ble_eq_true rfl) (Nat.le_of_ble_eq_true rfl) rfl dX8_shift_79 (nx_tV) (kx_tV ?_)
          intro M2 hM2
          have hx2 := hx.sav hi hM2.1 hM2.2
          obtain ⟨h00, hst, hhs, hbf, hpw, hbw, hmw, ⟨tn, tF, htr⟩, ⟨wn, wF, hwi⟩⟩ := id hx2.1
          change StP _ ad 1 n F g at hst
          have hob1 := hst.1
          obtain ⟨hh_1, hh_2, hh_3, hh_4, hh_5, hho, -⟩ := id hhs
          have hob94 := hbf.1
          obtain ⟨⟨y1, y2, y3, y4, y5, y6, hob96⟩, -, -⟩ := id hpw
          obtain ⟨z1, z2, z3, hob99, -⟩ := id hbw
          obtain ⟨⟨u1, hob101⟩, -, -⟩ := id hmw
          have hob108 := htr.1
          have hob110 := hwi.1
          have hmk := hst.mb (k := k) (by omega) (by omega)
          have hmo := hmk.1
          have hmn : 0 ≤ n (k) ∧ n (k) ≤ 60 := by have h60 := hmk.2.2.2.1; have h59 := hmk.2.2.1; omega
          have hmv := shift_ok (hvs k (by omega) (by omega)) hmk.2.2.1 hs9
          refine r_aload_n dX8_shift_82 rfl ?_
          refine r_iload_n dX8_shift_83 rfl ?_
          refine r_callV1 okX5_moveBy ⟨by decide, by decide⟩ ml_X8_109 (mX5_moveBy hmk (by omega) hmv) (by first | assumption | exact up_s _ _ _ | exact (up_n _ (by assumption)).trans (by assumption) | exact (up_n _ (by assumption)).trans (up_s _ _ _) | exact (up_n _ (by assumption)).trans ((up_n _ (by assumption)).trans (by assumption))) rfl rfl (Nat.le_of_ble_eq_true rfl) (Nat.le_of_ble_eq_true rfl) (Nat.le_of_ble_eq_true rfl) rfl dX8_shift_84 (nx_tV) (kx_tV ?_)
          intro M3 hM3
          have hx3 := hx2.1.goK hi (by omega) (by omega) hM3.1 hM3.2
          have hmo := hM3.1.1
          refine r_aload_n dX8_shift_87 rfl ?_
          refine r_callV0 okX5_least ⟨by decide, by decide⟩ ml_X8_103 (mX5_least hM3.1) (by first | assumption | exact up_s _ _ _ | exact (up_n _ (by assumption)).trans (by assumption) | exact (up_n _ (by assumption)).trans (up_s _ _ _) | exact (up_n _ (by assumption)).trans ((up_n _ (by assumption)).trans (by assumption))) rfl rfl (Nat.le_of_ble_eq_true rfl) (Nat.le_of_ble_eq_true rfl) (Nat.le_of_ble_eq_true rfl) rfl dX8_shift_88 (nx_I) (kx_I ?_)
          refine e_ireturn dX8_shift_91 rfl (Nat.le_of_ble_eq_true rfl) (Nat.le_of_ble_eq_true rfl) ?_
          exact okUX (by unfold e2; rw [if_pos hE1, if_pos hE2]; exact hE3) rfl ⟨hx3.1, hx2.2.trans hx3.2⟩
  ·
    refine r_iload_n dX8_shift_11 rfl ?_
    refine r_sipush dX8_shift_12 (by decide) ?_
    refine r_icmp_gt (tgt := 22) dX8_shift_15 (by decide) (by omega) (by omega) (fun h15 => ?_) (fun h15 => ?_)
    ·
      refine r_iconst dX8_shift_22 ?_
      refine r_callS1 okX8_requireArgument ⟨by decide, by decide⟩ ml_X8_96 (mX8_requireArgument (b := -9999 ≤ b ∧ b ≤ 9999) (by first | (rw [if_pos (by omega)]; done) | (rw [if_neg (by omega)]; done))) (Nat.le_of_ble_eq_true rfl) (Nat.le_of_ble_eq_true rfl) (Nat.le_of_ble_eq_true rfl) rfl dX8_shift_23 (tUX (fun hne => by unfold e2; rw [if_pos hE1, if_neg hne])) (kx_U ?_)
      intro hE2
      have hq9 := eA_ok hE2
      refine r_aload_n dX8_shift_26 rfl ?_
      refine r_getfield clX8 0 (by decide) fl_X8_10 (by first | assumption | exact up_s _ _ _ | exact (up_n _ (by assumption)).trans (by assumption) | exact (up_n _ (by assumption)).trans (up_s _ _ _) | exact (up_n _ (by assumption)).trans ((up_n _ (by assumption)).trans (by assumption))) rfl dX8_shift_27 ?_
      refine r_iload_n dX8_shift_30 rfl ?_
      refine r_callV1 okX7_members ⟨by decide, by decide⟩ ml_X8_69 (mX7_members hst (k := k) (by omega) (by omega)) (by first | assumption | exact up_s _ _ _ | exact (up_n _ (by assumption)).trans (by assumption) | exact (up_n _ (by assumption)).trans (up_s _ _ _) | exact (up_n _ (by assumption)).trans ((up_n _ (by assumption)).trans (by assumption))) rfl rfl (Nat.le_of_ble_eq_true rfl) (Nat.le_of_ble_eq_true rfl) (Nat.le_of_ble_eq_true rfl) rfl dX8_shift_31 (nx_A) (kx_A ?_)
      refine r_astore_n dX8_shift_34 (by decide) rfl ?_
      have hmk := hst.mb (k := k) (by omega) (by omega)
      have hmo := hmk.1
      have hmn : 0 ≤ n (k) ∧ n (k) ≤ 60 := by have h60 := hmk.2.2.2.1; have h59 := hmk.2.2.1; omega
      refine r_aload_n dX8_shift_35 rfl ?_
      refine r_callV0 okX5_isEmpty ⟨by decide, by decide⟩ ml_X8_99 (mX5_isEmpty hmk) (by first | assumption | exact up_s _ _ _ | exact (up_n _ (by assumption)).trans (by assumption) | exact (up_n _ (by assumption)).trans (up_s _ _ _) | exact (up_n _ (by assumption)).trans ((up_n _ (by assumption)).trans (by assumption))) rfl rfl (Nat.le_of_ble_eq_true rfl) (Nat.le_of_ble_eq_true rfl) (Nat.le_of_ble_eq_true rfl) rfl dX8_shift_36 (nx_I) (kx_I ?_)
      have hbe := bI_r (decide (n k = 0))
      have hbq : bI (decide (n k = 0)) = 0 ↔ ¬ n k = 0 := by by_cases e : n k = 0 <;> simp [bI, e]
      refine r_if_ne (tgt := 63) dX8_shift_39 (by decide) (by omega) (fun h39 => ?_) (fun h39 => ?_)
      ·
        refine r_iconst dX8_shift_63 ?_
        refine r_goto (tgt := 68) dX8_shift_64 (by decide) ?_
        refine r_callS1 okX8_requireState ⟨by decide, by decide⟩ ml_X8_81 (mX8_requireState (b := n k = 0 ∨ (0 ≤ atF (n k) (F k) 0 + b ∧ atF (n k) (F k) (n k - 1) + b ≤ 9999)) (by first | (rw [if_pos (by omega)]; done) | (rw [if_neg (by omega)]; done))) (Nat.le_of_ble_eq_true rfl) (Nat.le_of_ble_eq_true rfl) (Nat.le_of_ble_eq_true rfl) rfl dX8_shift_68 (tUX (fun hne => by unfold e2; rw [if_pos hE1, if_pos hE2])) (kx_U ?_)
        intro hE3
        have hs9 := eS_ok hE3
        refine r_aload_n dX8_shift_71 rfl ?_
        refine r_getfield clX8 1 (by decide) fl_X8_19 (by first | assumption | exact up_s _ _ _ | exact (up_n _ (by assumption)).trans (by assumption) | exact (up_n _ (by assumption)).trans (up_s _ _ _) | exact (up_n _ (by assumption)).trans ((up_n _ (by assumption)).trans (by assumption))) rfl dX8_shift_72 ?_
        refine r_aload_n dX8_shift_75 rfl ?_
        refine r_getfield clX8 0 (by decide) fl_X8_10 (by first | assumption | exact up_s _ _ _ | exact (up_n _ (by assumption)).trans (by assumption) | exact (up_n _ (by assumption)).trans (up_s _ _ _) | exact (up_n _ (by assumption)).trans ((up_n _ (by assumption)).trans (by assumption))) rfl dX8_shift_76 ?_
        refine r_callV1 okX2_save ⟨by decide, by decide⟩ ml_X8_85 (mX2_save (s := 0) (σ := (n, F, g)) hhs hst hi) (by first | assumption | exact up_s _ _ _ | exact (up_n _ (by assumption)).trans (by assumption) | exact (up_n _ (by assumption)).trans (up_s _ _ _) | exact (up_n _ (by assumption)).trans ((up_n _ (by assumption)).trans (by assumption))) rfl rfl (Nat.le_of_ble_eq_true rfl) (Nat.le_of_ble_eq_true rfl) (Nat.le_of_ble_eq_true rfl) rfl dX8_shift_79 (nx_tV) (kx_tV ?_)
        intro M2 hM2
        have hx2 := hx.sav hi hM2.1 hM2.2
        obtain ⟨h00, hst, hhs, hbf, hpw, hbw, hmw, ⟨tn, tF, htr⟩, ⟨wn, wF, hwi⟩⟩ := id hx2.1
        change StP _ ad 1 n F g at hst
        have hob1 := hst.1
        obtain ⟨hh_1, hh_2, hh_3, hh_4, hh_5, hho, -⟩ := id hhs
        have hob94 := hbf.1
        obtain ⟨⟨y1, y2, y3, y4, y5, y6, hob96⟩, -, -⟩ := id hpw
        obtain ⟨z1, z2, z3, hob99, -⟩ := id hbw
        obtain ⟨⟨u1, hob101⟩, -, -⟩ := id hmw
        have hob108 := htr.1
        have hob110 := hwi.1
        have hmk := hst.mb (k := k) (by omega) (by omega)
        have hmo := hmk.1
        have hmn : 0 ≤ n (k) ∧ n (k) ≤ 60 := by have h60 := hmk.2.2.2.1; have h59 := hmk.2.2.1; omega
        have hmv := shift_ok (hvs k (by omega) (by omega)) hmk.2.2.1 hs9
        refine r_aload_n dX8_shift_82 rfl ?_
        refine r_iload_n dX8_shift_83 rfl ?_
        refine r_callV1 okX5_moveBy ⟨by decide, by decide⟩ ml_X8_109 (mX5_moveBy hmk (by omega) hmv) (by first | assumption | exact up_s _ _ _ | exact (up_n _ (by assumption)).trans (by assumption) | exact (up_n _ (by assumption)).trans (up_s _ _ _) | exact (up_n _ (by assumption)).trans ((up_n _ (by assumption)).trans (by assumption))) rfl rfl (Nat.le_of_ble_eq_true rfl) (Nat.le_of_ble_eq_true rfl) (Nat.le_of_ble_eq_true rfl) rfl dX8_shift_84 (nx_tV) (kx_tV ?_)
        intro M3 hM3
        have hx3 := hx2.1.goK hi (by omega) (by omega) hM3.1 hM3.2
        have hmo := hM3.1.1
        refine r_aload_n dX8_shift_87 rfl ?_
        refine r_callV0 okX5_least ⟨by decide, by decide⟩ ml_X8_103 (mX5_least hM3.1) (by first | assumption | exact up_s _ _ _ | exact (up_n _ (by assumption)).trans (by assumption) | exact (up_n _ (by assumption)).trans (up_s _ _ _) | exact (up_n _ (by assumption)).trans ((up_n _ (by assumption)).trans (by assumption))) rfl rfl (Nat.le_of_ble_eq_true rfl) (Nat.le_of_ble_eq_true rfl) (Nat.le_of_ble_eq_true rfl) rfl dX8_shift_88 (nx_I) (kx_I ?_)
        refine e_ireturn dX8_shift_91 rfl (Nat.le_of_ble_eq_true rfl) (Nat.le_of_ble_eq_true rfl) ?_
        exact okUX (by unfold e2; rw [if_pos hE1, if_pos hE2]; exact hE3) rfl ⟨hx3.1, hx2.2.trans hx3.2⟩
      ·
        refine r_aload_n dX8_shift_42 rfl ?_
        refine r_callV0 okX5_least ⟨by decide, by decide⟩ ml_X8_103 (mX5_least hmk) (by first | assumption | exact up_s _ _ _ | exact (up_n _ (by assumption)).trans (by assumption) | exact (up_n _ (by assumption)).trans (up_s _ _ _) | exact (up_n _ (by assumption)).trans ((up_n _ (by assumption)).trans (by assumption))) rfl rfl (Nat.le_of_ble_eq_true rfl) (Nat.le_of_ble_eq_true rfl) (Nat.le_of_ble_eq_true rfl) rfl dX8_shift_43 (nx_I) (kx_I ?_)
        have hl0 := hmk.at 0
        refine r_iload_n dX8_shift_46 rfl ?_
        refine r_iadd dX8_shift_47 ?_
        refine r_if_lt (tgt := 67) dX8_shift_48 (by decide) (by omega) (fun h48 => ?_) (fun h48 => ?_)
        ·
          refine r_iconst dX8_shift_67 ?_
          refine r_callS1 okX8_requireState ⟨by decide, by decide⟩ ml_X8_81 (mX8_requireState (b := n k = 0 ∨ (0 ≤ atF (n k) (F k) 0 + b ∧ atF (n k) (F k) (n k - 1) + b ≤ 9999)) (by first | (rw [if_pos (by omega)]; done) | (rw [if_neg (by omega)]; done))) (Nat.le_of_ble_eq_true rfl) (Nat.le_of_ble_eq_true rfl) (Nat.le_of_ble_eq_true rfl) rfl dX8_shift_68 (tUX (fun hne => by unfold e2; rw [if_pos hE1, if_pos hE2])) (kx_U ?_)
          intro hE3
          have hs9 := eS_ok hE3
          refine r_aload_n dX8_shift_71 rfl ?_
          refine r_getfield clX8 1 (by decide) fl_X8_19 (by first | assumption | exact up_s _ _ _ | exact (up_n _ (by assumption)).trans (by assumption) | exact (up_n _ (by assumption)).trans (up_s _ _ _) | exact (up_n _ (by assumption)).trans ((up_n _ (by assumption)).trans (by assumption))) rfl dX8_shift_72 ?_
          refine r_aload_n dX8_shift_75 rfl ?_
          refine r_getfield clX8 0 (by decide) fl_X8_10 (by first | assumption | exact up_s _ _ _ | exact (up_n _ (by assumption)).trans (by assumption) | exact (up_n _ (by assumption)).trans (up_s _ _ _) | exact (up_n _ (by assumption)).trans ((up_n _ (by assumption)).trans (by assumption))) rfl dX8_shift_76 ?_
          refine r_callV1 okX2_save ⟨by decide, by decide⟩ ml_X8_85 (mX2_save (s := 0) (σ := (n, F, g)) hhs hst hi) (by first | assumption | exact up_s _ _ _ | exact (up_n _ (by assumption)).trans (by assumption) | exact (up_n _ (by assumption)).trans (up_s _ _ _) | exact (up_n _ (by assumption)).trans ((up_n _ (by assumption)).trans (by assumption))) rfl rfl (Nat.le_of_ble_eq_true rfl) (Nat.le_of_ble_eq_true rfl) (Nat.le_of_ble_eq_true rfl) rfl dX8_shift_79 (nx_tV) (kx_tV ?_)
          intro M2 hM2
          have hx2 := hx.sav hi hM2.1 hM2.2
          obtain ⟨h00, hst, hhs, hbf, hpw, hbw, hmw, ⟨tn, tF, htr⟩, ⟨wn, wF, hwi⟩⟩ := id hx2.1
          change StP _ ad 1 n F g at hst
          have hob1 := hst.1
          obtain ⟨hh_1, hh_2, hh_3, hh_4, hh_5, hho, -⟩ := id hhs
          have hob94 := hbf.1
          obtain ⟨⟨y1, y2, y3, y4, y5, y6, hob96⟩, -, -⟩ := id hpw
          obtain ⟨z1, z2, z3, hob99, -⟩ := id hbw
          obtain ⟨⟨u1, hob101⟩, -, -⟩ := id hmw
          have hob108 := htr.1
          have hob110 := hwi.1
          have hmk := hst.mb (k := k) (by omega) (by omega)
          have hmo := hmk.1
          have hmn : 0 ≤ n (k) ∧ n (k) ≤ 60 := by have h60 := hmk.2.2.2.1; have h59 := hmk.2.2.1; omega
          have hmv := shift_ok (hvs k (by omega) (by omega)) hmk.2.2.1 hs9
          refine r_aload_n dX8_shift_82 rfl ?_
          refine r_iload_n dX8_shift_83 rfl ?_
          refine r_callV1 okX5_moveBy ⟨by decide, by decide⟩ ml_X8_109 (mX5_moveBy hmk (by omega) hmv) (by first | assumption | exact up_s _ _ _ | exact (up_n _ (by assumption)).trans (by assumption) | exact (up_n _ (by assumption)).trans (up_s _ _ _) | exact (up_n _ (by assumption)).trans ((up_n _ (by assumption)).trans (by assumption))) rfl rfl (Nat.le_of_ble_eq_true rfl) (Nat.le_of_ble_eq_true rfl) (Nat.le_of_ble_eq_true rfl) rfl dX8_shift_84 (nx_tV) (kx_tV ?_)
          intro M3 hM3
          have hx3 := hx2.1.goK hi (by omega) (by omega) hM3.1 hM3.2
          have hmo := hM3.1.1
          refine r_aload_n dX8_shift_87 rfl ?_
          refine r_callV0 okX5_least ⟨by decide, by decide⟩ ml_X8_103 (mX5_least hM3.1) (by first | assumption | exact up_s _ _ _ | exact (up_n _ (by assumption)).trans (by assumption) | exact (up_n _ (by assumption)).trans (up_s _ _ _) | exact (up_n _ (by assumption)).trans ((up_n _ (by assumption)).trans (by assumption))) rfl rfl (Nat.le_of_ble_eq_true rfl) (Nat.le_of_ble_eq_true rfl) (Nat.le_of_ble_eq_true rfl) rfl dX8_shift_88 (nx_I) (kx_I ?_)
          refine e_ireturn dX8_shift_91 rfl (Nat.le_of_ble_eq_true rfl) (Nat.le_of_ble_eq_true rfl) ?_
          exact okUX (by unfold e2; rw [if_pos hE1, if_pos hE2]; exact hE3) rfl ⟨hx3.1, hx2.2.trans hx3.2⟩
        ·
          refine r_aload_n dX8_shift_51 rfl ?_
          refine r_callV0 okX5_greatest ⟨by decide, by decide⟩ ml_X8_106 (mX5_greatest hmk) (by first | assumption | exact up_s _ _ _ | exact (up_n _ (by assumption)).trans (by assumption) | exact (up_n _ (by assumption)).trans (up_s _ _ _) | exact (up_n _ (by assumption)).trans ((up_n _ (by assumption)).trans (by assumption))) rfl rfl (Nat.le_of_ble_eq_true rfl) (Nat.le_of_ble_eq_true rfl) (Nat.le_of_ble_eq_true rfl) rfl dX8_shift_52 (nx_I) (kx_I ?_)
          have hl1 := hmk.at (n k - 1)
          refine r_iload_n dX8_shift_55 rfl ?_
          refine r_iadd dX8_shift_56 ?_
          refine r_sipush dX8_shift_57 (by decide) ?_
          refine r_icmp_gt (tgt := 67) dX8_shift_60 (by decide) (by omega) (by omega) (fun h60 => ?_) (fun h60 => ?_)
          ·
            refine r_iconst dX8_shift_67 ?_
            refine r_callS1 okX8_requireState ⟨by decide, by decide⟩ ml_X8_81 (mX8_requireState (b := n k = 0 ∨ (0 ≤ atF (n k) (F k) 0 + b ∧ atF (n k) (F k) (n k - 1) + b ≤ 9999)) (by first | (rw [if_pos (by omega)]; done) | (rw [if_neg (by omega)]; done))) (Nat.le_of_ble_eq_true rfl) (Nat.le_of_ble_eq_true rfl) (Nat.le_of_ble_eq_true rfl) rfl dX8_shift_68 (tUX (fun hne => by unfold e2; rw [if_pos hE1, if_pos hE2])) (kx_U ?_)
            intro hE3
            have hs9 := eS_ok hE3
            refine r_aload_n dX8_shift_71 rfl ?_
            refine r_getfield clX8 1 (by decide) fl_X8_19 (by first | assumption | exact up_s _ _ _ | exact (up_n _ (by assumption)).trans (by assumption) | exact (up_n _ (by assumption)).trans (up_s _ _ _) | exact (up_n _ (by assumption)).trans ((up_n _ (by assumption)).trans (by assumption))) rfl dX8_shift_72 ?_
            refine r_aload_n dX8_shift_75 rfl ?_
            refine r_getfield clX8 0 (by decide) fl_X8_10 (by first | assumption | exact up_s _ _ _ | exact (up_n _ (by assumption)).trans (by assumption) | exact (up_n _ (by assumption)).trans (up_s _ _ _) | exact (up_n _ (by assumption)).trans ((up_n _ (by assumption)).trans (by assumption))) rfl dX8_shift_76 ?_
            refine r_callV1 okX2_save ⟨by decide, by decide⟩ ml_X8_85 (mX2_save (s := 0) (σ := (n, F, g)) hhs hst hi) (by first | assumption | exact up_s _ _ _ | exact (up_n _ (by assumption)).trans (by assumption) | exact (up_n _ (by assumption)).trans (up_s _ _ _) | exact (up_n _ (by assumption)).trans ((up_n _ (by assumption)).trans (by assumption))) rfl rfl (Nat.le_of_ble_eq_true rfl) (Nat.le_of_ble_eq_true rfl) (Nat.le_of_ble_eq_true rfl) rfl dX8_shift_79 (nx_tV) (kx_tV ?_)
            intro M2 hM2
            have hx2 := hx.sav hi hM2.1 hM2.2
            obtain ⟨h00, hst, hhs, hbf, hpw, hbw, hmw, ⟨tn, tF, htr⟩, ⟨wn, wF, hwi⟩⟩ := id hx2.1
            change StP _ ad 1 n F g at hst
            have hob1 := hst.1
            obtain ⟨hh_1, hh_2, hh_3, hh_4, hh_5, hho, -⟩ := id hhs
            have hob94 := hbf.1
            obtain ⟨⟨y1, y2, y3, y4, y5, y6, hob96⟩, -, -⟩ := id hpw
            obtain ⟨z1, z2, z3, hob99, -⟩ := id hbw
            obtain ⟨⟨u1, hob101⟩, -, -⟩ := id hmw
            have hob108 := htr.1
            have hob110 := hwi.1
            have hmk := hst.mb (k := k) (by omega) (by omega)
            have hmo := hmk.1
            have hmn : 0 ≤ n (k) ∧ n (k) ≤ 60 := by have h60 := hmk.2.2.2.1; have h59 := hmk.2.2.1; omega
            have hmv := shift_ok (hvs k (by omega) (by omega)) hmk.2.2.1 hs9
            refine r_aload_n dX8_shift_82 rfl ?_
            refine r_iload_n dX8_shift_83 rfl ?_
            refine r_callV1 okX5_moveBy ⟨by decide, by decide⟩ ml_X8_109 (mX5_moveBy hmk (by omega) hmv) (by first | assumption | exact up_s _ _ _ | exact (up_n _ (by assumption)).trans (by assumption) | exact (up_n _ (by assumption)).trans (up_s _ _ _) | exact (up_n _ (by assumption)).trans ((up_n _ (by assumption)).trans (by assumption))) rfl rfl (Nat.le_of_ble_eq_true rfl) (Nat.le_of_ble_eq_true rfl) (Nat.le_of_ble_eq_true rfl) rfl dX8_shift_84 (nx_tV) (kx_tV ?_)
            intro M3 hM3
            have hx3 := hx2.1.goK hi (by omega) (by omega) hM3.1 hM3.2
            have hmo := hM3.1.1
            refine r_aload_n dX8_shift_87 rfl ?_
            refine r_callV0 okX5_least ⟨by decide, by decide⟩ ml_X8_103 (mX5_least hM3.1) (by first | assumption | exact up_s _ _ _ | exact (up_n _ (by assumption)).trans (by assumption) | exact (up_n _ (by assumption)).trans (up_s _ _ _) | exact (up_n _ (by assumption)).trans ((up_n _ (by assumption)).trans (by assumption))) rfl rfl (Nat.le_of_ble_eq_true rfl) (Nat.le_of_ble_eq_true rfl) (Nat.le_of_ble_eq_true rfl) rfl dX8_shift_88 (nx_I) (kx_I ?_)
            refine e_ireturn dX8_shift_91 rfl (Nat.le_of_ble_eq_true rfl) (Nat.le_of_ble_eq_true rfl) ?_
            exact okUX (by unfold e2; rw [if_pos hE1, if_pos hE2]; exact hE3) rfl ⟨hx3.1, hx2.2.trans hx3.2⟩
          ·
            refine r_iconst dX8_shift_63 ?_
            refine r_goto (tgt := 68) dX8_shift_64 (by decide) ?_
            refine r_callS1 okX8_requireState ⟨by decide, by decide⟩ ml_X8_81 (mX8_requireState (b := n k = 0 ∨ (0 ≤ atF (n k) (F k) 0 + b ∧ atF (n k) (F k) (n k - 1) + b ≤ 9999)) (by first | (rw [if_pos (by omega)]; done) | (rw [if_neg (by omega)]; done))) (Nat.le_of_ble_eq_true rfl) (Nat.le_of_ble_eq_true rfl) (Nat.le_of_ble_eq_true rfl) rfl dX8_shift_68 (tUX (fun hne => by unfold e2; rw [if_pos hE1, if_pos hE2])) (kx_U ?_)
            intro hE3
            have hs9 := eS_ok hE3
            refine r_aload_n dX8_shift_71 rfl ?_
            refine r_getfield clX8 1 (by decide) fl_X8_19 (by first | assumption | exact up_s _ _ _ | exact (up_n _ (by assumption)).trans (by assumption) | exact (up_n _ (by assumption)).trans (up_s _ _ _) | exact (up_n _ (by assumption)).trans ((up_n _ (by assumption)).trans (by assumption))) rfl dX8_shift_72 ?_
            refine r_aload_n dX8_shift_75 rfl ?_
            refine r_getfield clX8 0 (by decide) fl_X8_10 (by first | assumption | exact up_s _ _ _ | exact (up_n _ (by assumption)).trans (by assumption) | exact (up_n _ (by assumption)).trans (up_s _ _ _) | exact (up_n _ (by assumption)).trans ((up_n _ (by assumption)).trans (by assumption))) rfl dX8_shift_76 ?_
            refine r_callV1 okX2_save ⟨by decide, by decide⟩ ml_X8_85 (mX2_save (s := 0) (σ := (n, F, g)) hhs hst hi) (by first | assumption | exact up_s _ _ _ | exact (up_n _ (by assumption)).trans (by assumption) | exact (up_n _ (by assumption)).trans (up_s _ _ _) | exact (up_n _ (by assumption)).trans ((up_n _ (by assumption)).trans (by assumption))) rfl rfl (Nat.le_of_ble_eq_true rfl) (Nat.le_of_ble_eq_true rfl) (Nat.le_of_ble_eq_true rfl) rfl dX8_shift_79 (nx_tV) (kx_tV ?_)
            intro M2 hM2
            have hx2 := hx.sav hi hM2.1 hM2.2
            obtain ⟨h00, hst, hhs, hbf, hpw, hbw, hmw, ⟨tn, tF, htr⟩, ⟨wn, wF, hwi⟩⟩ := id hx2.1
            change StP _ ad 1 n F g at hst
            have hob1 := hst.1
            obtain ⟨hh_1, hh_2, hh_3, hh_4, hh_5, hho, -⟩ := id hhs
            have hob94 := hbf.1
            obtain ⟨⟨y1, y2, y3, y4, y5, y6, hob96⟩, -, -⟩ := id hpw
            obtain ⟨z1, z2, z3, hob99, -⟩ := id hbw
            obtain ⟨⟨u1, hob101⟩, -, -⟩ := id hmw
            have hob108 := htr.1
            have hob110 := hwi.1
            have hmk := hst.mb (k := k) (by omega) (by omega)
            have hmo := hmk.1
            have hmn : 0 ≤ n (k) ∧ n (k) ≤ 60 := by have h60 := hmk.2.2.2.1; have h59 := hmk.2.2.1; omega
            have hmv := shift_ok (hvs k (by omega) (by omega)) hmk.2.2.1 hs9
            refine r_aload_n dX8_shift_82 rfl ?_
            refine r_iload_n dX8_shift_83 rfl ?_
            refine r_callV1 okX5_moveBy ⟨by decide, by decide⟩ ml_X8_109 (mX5_moveBy hmk (by omega) hmv) (by first | assumption | exact up_s _ _ _ | exact (up_n _ (by assumption)).trans (by assumption) | exact (up_n _ (by assumption)).trans (up_s _ _ _) | exact (up_n _ (by assumption)).trans ((up_n _ (by assumption)).trans (by assumption))) rfl rfl (Nat.le_of_ble_eq_true rfl) (Nat.le_of_ble_eq_true rfl) (Nat.le_of_ble_eq_true rfl) rfl dX8_shift_84 (nx_tV) (kx_tV ?_)
            intro M3 hM3
            have hx3 := hx2.1.goK hi (by omega) (by omega) hM3.1 hM3.2
            have hmo := hM3.1.1
            refine r_aload_n dX8_shift_87 rfl ?_
            refine r_callV0 okX5_least ⟨by decide, by decide⟩ ml_X8_103 (mX5_least hM3.1) (by first | assumption | exact up_s _ _ _ | exact (up_n _ (by assumption)).trans (by assumption) | exact (up_n _ (by assumption)).trans (up_s _ _ _) | exact (up_n _ (by assumption)).trans ((up_n _ (by assumption)).trans (by assumption))) rfl rfl (Nat.le_of_ble_eq_true rfl) (Nat.le_of_ble_eq_true rfl) (Nat.le_of_ble_eq_true rfl) rfl dX8_shift_88 (nx_I) (kx_I ?_)
            refine e_ireturn dX8_shift_91 rfl (Nat.le_of_ble_eq_true rfl) (Nat.le_of_ble_eq_true rfl) ?_
            exact okUX (by unfold e2; rw [if_pos hE1, if_pos hE2]; exact hE3) rfl ⟨hx3.1, hx2.2.trans hx3.2⟩
    ·
      refine r_iconst dX8_shift_18 ?_
      refine r_goto (tgt := 23) dX8_shift_19 (by decide) ?_
      refine r_callS1 okX8_requireArgument ⟨by decide, by decide⟩ ml_X8_96 (mX8_requireArgument (b := -9999 ≤ b ∧ b ≤ 9999) (by first | (rw [if_pos (by omega)]; done) | (rw [if_neg (by omega)]; done))) (Nat.le_of_ble_eq_true rfl) (Nat.le_of_ble_eq_true rfl) (Nat.le_of_ble_eq_true rfl) rfl dX8_shift_23 (tUX (fun hne => by unfold e2; rw [if_pos hE1, if_neg hne])) (kx_U ?_)
      intro hE2
      have hq9 := eA_ok hE2
      refine r_aload_n dX8_shift_26 rfl ?_
      refine r_getfield clX8 0 (by decide) fl_X8_10 (by first | assumption | exact up_s _ _ _ | exact (up_n _ (by assumption)).trans (by assumption) | exact (up_n _ (by assumption)).trans (up_s _ _ _) | exact (up_n _ (by assumption)).trans ((up_n _ (by assumption)).trans (by assumption))) rfl dX8_shift_27 ?_
      refine r_iload_n dX8_shift_30 rfl ?_
      refine r_callV1 okX7_members ⟨by decide, by decide⟩ ml_X8_69 (mX7_members hst (k := k) (by omega) (by omega)) (by first | assumption | exact up_s _ _ _ | exact (up_n _ (by assumption)).trans (by assumption) | exact (up_n _ (by assumption)).trans (up_s _ _ _) | exact (up_n _ (by assumption)).trans ((up_n _ (by assumption)).trans (by assumption))) rfl rfl (Nat.le_of_ble_eq_true rfl) (Nat.le_of_ble_eq_true rfl) (Nat.le_of_ble_eq_true rfl) rfl dX8_shift_31 (nx_A) (kx_A ?_)
      refine r_astore_n dX8_shift_34 (by decide) rfl ?_
      have hmk := hst.mb (k := k) (by omega) (by omega)
      have hmo := hmk.1
      have hmn : 0 ≤ n (k) ∧ n (k) ≤ 60 := by have h60 := hmk.2.2.2.1; have h59 := hmk.2.2.1; omega
      refine r_aload_n dX8_shift_35 rfl ?_
      refine r_callV0 okX5_isEmpty ⟨by decide, by decide⟩ ml_X8_99 (mX5_isEmpty hmk) (by first | assumption | exact up_s _ _ _ | exact (up_n _ (by assumption)).trans (by assumption) | exact (up_n _ (by assumption)).trans (up_s _ _ _) | exact (up_n _ (by assumption)).trans ((up_n _ (by assumption)).trans (by assumption))) rfl rfl (Nat.le_of_ble_eq_true rfl) (Nat.le_of_ble_eq_true rfl) (Nat.le_of_ble_eq_true rfl) rfl dX8_shift_36 (nx_I) (kx_I ?_)
      have hbe := bI_r (decide (n k = 0))
      have hbq : bI (decide (n k = 0)) = 0 ↔ ¬ n k = 0 := by by_cases e : n k = 0 <;> simp [bI, e]
      refine r_if_ne (tgt := 63) dX8_shift_39 (by decide) (by omega) (fun h39 => ?_) (fun h39 => ?_)
      ·
        refine r_iconst dX8_shift_63 ?_
        refine r_goto (tgt := 68) dX8_shift_64 (by decide) ?_
        refine r_callS1 okX8_requireState ⟨by decide, by decide⟩ ml_X8_81 (mX8_requireState (b := n k = 0 ∨ (0 ≤ atF (n k) (F k) 0 + b ∧ atF (n k) (F k) (n k - 1) + b ≤ 9999)) (by first | (rw [if_pos (by omega)]; done) | (rw [if_neg (by omega)]; done))) (Nat.le_of_ble_eq_true rfl) (Nat.le_of_ble_eq_true rfl) (Nat.le_of_ble_eq_true rfl) rfl dX8_shift_68 (tUX (fun hne => by unfold e2; rw [if_pos hE1, if_pos hE2])) (kx_U ?_)
        intro hE3
        have hs9 := eS_ok hE3
        refine r_aload_n dX8_shift_71 rfl ?_
        refine r_getfield clX8 1 (by decide) fl_X8_19 (by first | assumption | exact up_s _ _ _ | exact (up_n _ (by assumption)).trans (by assumption) | exact (up_n _ (by assumption)).trans (up_s _ _ _) | exact (up_n _ (by assumption)).trans ((up_n _ (by assumption)).trans (by assumption))) rfl dX8_shift_72 ?_
        refine r_aload_n dX8_shift_75 rfl ?_
        refine r_getfield clX8 0 (by decide) fl_X8_10 (by first | assumption | exact up_s _ _ _ | exact (up_n _ (by assumption)).trans (by assumption) | exact (up_n _ (by assumption)).trans (up_s _ _ _) | exact (up_n _ (by assumption)).trans ((up_n _ (by assumption)).trans (by assumption))) rfl dX8_shift_76 ?_
        refine r_callV1 okX2_save ⟨by decide, by decide⟩ ml_X8_85 (mX2_save (s := 0) (σ := (n, F, g)) hhs hst hi) (by first | assumption | exact up_s _ _ _ | exact (up_n _ (by assumption)).trans (by assumption) | exact (up_n _ (by assumption)).trans (up_s _ _ _) | exact (up_n _ (by assumption)).trans ((up_n _ (by assumption)).trans (by assumption))) rfl rfl (Nat.le_of_ble_eq_true rfl) (Nat.le_of_ble_eq_true rfl) (Nat.le_of_ble_eq_true rfl) rfl dX8_shift_79 (nx_tV) (kx_tV ?_)
        intro M2 hM2
        have hx2 := hx.sav hi hM2.1 hM2.2
        obtain ⟨h00, hst, hhs, hbf, hpw, hbw, hmw, ⟨tn, tF, htr⟩, ⟨wn, wF, hwi⟩⟩ := id hx2.1
        change StP _ ad 1 n F g at hst
        have hob1 := hst.1
        obtain ⟨hh_1, hh_2, hh_3, hh_4, hh_5, hho, -⟩ := id hhs
        have hob94 := hbf.1
        obtain ⟨⟨y1, y2, y3, y4, y5, y6, hob96⟩, -, -⟩ := id hpw
        obtain ⟨z1, z2, z3, hob99, -⟩ := id hbw
        obtain ⟨⟨u1, hob101⟩, -, -⟩ := id hmw
        have hob108 := htr.1
        have hob110 := hwi.1
        have hmk := hst.mb (k := k) (by omega) (by omega)
        have hmo := hmk.1
        have hmn : 0 ≤ n (k) ∧ n (k) ≤ 60 := by have h60 := hmk.2.2.2.1; have h59 := hmk.2.2.1; omega
        have hmv := shift_ok (hvs k (by omega) (by omega)) hmk.2.2.1 hs9
        refine r_aload_n dX8_shift_82 rfl ?_
        refine r_iload_n dX8_shift_83 rfl ?_
        refine r_callV1 okX5_moveBy ⟨by decide, by decide⟩ ml_X8_109 (mX5_moveBy hmk (by omega) hmv) (by first | assumption | exact up_s _ _ _ | exact (up_n _ (by assumption)).trans (by assumption) | exact (up_n _ (by assumption)).trans (up_s _ _ _) | exact (up_n _ (by assumption)).trans ((up_n _ (by assumption)).trans (by assumption))) rfl rfl (Nat.le_of_ble_eq_true rfl) (Nat.le_of_ble_eq_true rfl) (Nat.le_of_ble_eq_true rfl) rfl dX8_shift_84 (nx_tV) (kx_tV ?_)
        intro M3 hM3
        have hx3 := hx2.1.goK hi (by omega) (by omega) hM3.1 hM3.2
        have hmo := hM3.1.1
        refine r_aload_n dX8_shift_87 rfl ?_
        refine r_callV0 okX5_least ⟨by decide, by decide⟩ ml_X8_103 (mX5_least hM3.1) (by first | assumption | exact up_s _ _ _ | exact (up_n _ (by assumption)).trans (by assumption) | exact (up_n _ (by assumption)).trans (up_s _ _ _) | exact (up_n _ (by assumption)).trans ((up_n _ (by assumption)).trans (by assumption))) rfl rfl (Nat.le_of_ble_eq_true rfl) (Nat.le_of_ble_eq_true rfl) (Nat.le_of_ble_eq_true rfl) rfl dX8_shift_88 (nx_I) (kx_I ?_)
        refine e_ireturn dX8_shift_91 rfl (Nat.le_of_ble_eq_true rfl) (Nat.le_of_ble_eq_true rfl) ?_
        exact okUX (by unfold e2; rw [if_pos hE1, if_pos hE2]; exact hE3) rfl ⟨hx3.1, hx2.2.trans hx3.2⟩
      ·
        refine r_aload_n dX8_shift_42 rfl ?_
        refine r_callV0 okX5_least ⟨by decide, by decide⟩ ml_X8_103 (mX5_least hmk) (by first | assumption | exact up_s _ _ _ | exact (up_n _ (by assumption)).trans (by assumption) | exact (up_n _ (by assumption)).trans (up_s _ _ _) | exact (up_n _ (by assumption)).trans ((up_n _ (by assumption)).trans (by assumption))) rfl rfl (Nat.le_of_ble_eq_true rfl) (Nat.le_of_ble_eq_true rfl) (Nat.le_of_ble_eq_true rfl) rfl dX8_shift_43 (nx_I) (kx_I ?_)
        have hl0 := hmk.at 0
        refine r_iload_n dX8_shift_46 rfl ?_
        refine r_iadd dX8_shift_47 ?_
        refine r_if_lt (tgt := 67) dX8_shift_48 (by decide) (by omega) (fun h48 => ?_) (fun h48 => ?_)
        ·
          refine r_iconst dX8_shift_67 ?_
          refine r_callS1 okX8_requireState ⟨by decide, by decide⟩ ml_X8_81 (mX8_requireState (b := n k = 0 ∨ (0 ≤ atF (n k) (F k) 0 + b ∧ atF (n k) (F k) (n k - 1) + b ≤ 9999)) (by first | (rw [if_pos (by omega)]; done) | (rw [if_neg (by omega)]; done))) (Nat.le_of_ble_eq_true rfl) (Nat.le_of_ble_eq_true rfl) (Nat.le_of_ble_eq_true rfl) rfl dX8_shift_68 (tUX (fun hne => by unfold e2; rw [if_pos hE1, if_pos hE2])) (kx_U ?_)
          intro hE3
          have hs9 := eS_ok hE3
          refine r_aload_n dX8_shift_71 rfl ?_
          refine r_getfield clX8 1 (by decide) fl_X8_19 (by first | assumption | exact up_s _ _ _ | exact (up_n _ (by assumption)).trans (by assumption) | exact (up_n _ (by assumption)).trans (up_s _ _ _) | exact (up_n _ (by assumption)).trans ((up_n _ (by assumption)).trans (by assumption))) rfl dX8_shift_72 ?_
          refine r_aload_n dX8_shift_75 rfl ?_
          refine r_getfield clX8 0 (by decide) fl_X8_10 (by first | assumption | exact up_s _ _ _ | exact (up_n _ (by assumption)).trans (by assumption) | exact (up_n _ (by assumption)).trans (up_s _ _ _) | exact (up_n _ (by assumption)).trans ((up_n _ (by assumption)).trans (by assumption))) rfl dX8_shift_76 ?_
          refine r_callV1 okX2_save ⟨by decide, by decide⟩ ml_X8_85 (mX2_save (s := 0) (σ := (n, F, g)) hhs hst hi) (by first | assumption | exact up_s _ _ _ | exact (up_n _ (by assumption)).trans (by assumption) | exact (up_n _ (by assumption)).trans (up_s _ _ _) | exact (up_n _ (by assumption)).trans ((up_n _ (by assumption)).trans (by assumption))) rfl rfl (Nat.le_of_ble_eq_true rfl) (Nat.le_of_ble_eq_true rfl) (Nat.le_of_ble_eq_true rfl) rfl dX8_shift_79 (nx_tV) (kx_tV ?_)
          intro M2 hM2
          have hx2 := hx.sav hi hM2.1 hM2.2
          obtain ⟨h00, hst, hhs, hbf, hpw, hbw, hmw, ⟨tn, tF, htr⟩, ⟨wn, wF, hwi⟩⟩ := id hx2.1
          change StP _ ad 1 n F g at hst
          have hob1 := hst.1
          obtain ⟨hh_1, hh_2, hh_3, hh_4, hh_5, hho, -⟩ := id hhs
          have hob94 := hbf.1
          obtain ⟨⟨y1, y2, y3, y4, y5, y6, hob96⟩, -, -⟩ := id hpw
          obtain ⟨z1, z2, z3, hob99, -⟩ := id hbw
          obtain ⟨⟨u1, hob101⟩, -, -⟩ := id hmw
          have hob108 := htr.1
          have hob110 := hwi.1
          have hmk := hst.mb (k := k) (by omega) (by omega)
          have hmo := hmk.1
          have hmn : 0 ≤ n (k) ∧ n (k) ≤ 60 := by have h60 := hmk.2.2.2.1; have h59 := hmk.2.2.1; omega
          have hmv := shift_ok (hvs k (by omega) (by omega)) hmk.2.2.1 hs9
          refine r_aload_n dX8_shift_82 rfl ?_
          refine r_iload_n dX8_shift_83 rfl ?_
          refine r_callV1 okX5_moveBy ⟨by decide, by decide⟩ ml_X8_109 (mX5_moveBy hmk (by omega) hmv) (by first | assumption | exact up_s _ _ _ | exact (up_n _ (by assumption)).trans (by assumption) | exact (up_n _ (by assumption)).trans (up_s _ _ _) | exact (up_n _ (by assumption)).trans ((up_n _ (by assumption)).trans (by assumption))) rfl rfl (Nat.le_of_ble_eq_true rfl) (Nat.le_of_ble_eq_true rfl) (Nat.le_of_ble_eq_true rfl) rfl dX8_shift_84 (nx_tV) (kx_tV ?_)
          intro M3 hM3
          have hx3 := hx2.1.goK hi (by omega) (by omega) hM3.1 hM3.2
          have hmo := hM3.1.1
          refine r_aload_n dX8_shift_87 rfl ?_
          refine r_callV0 okX5_least ⟨by decide, by decide⟩ ml_X8_103 (mX5_least hM3.1) (by first | assumption | exact up_s _ _ _ | exact (up_n _ (by assumption)).trans (by assumption) | exact (up_n _ (by assumption)).trans (up_s _ _ _) | exact (up_n _ (by assumption)).trans ((up_n _ (by assumption)).trans (by assumption))) rfl rfl (Nat.le_of_ble_eq_true rfl) (Nat.le_of_ble_eq_true rfl) (Nat.le_of_ble_eq_true rfl) rfl dX8_shift_88 (nx_I) (kx_I ?_)
          refine e_ireturn dX8_shift_91 rfl (Nat.le_of_ble_eq_true rfl) (Nat.le_of_ble_eq_true rfl) ?_
          exact okUX (by unfold e2; rw [if_pos hE1, if_pos hE2]; exact hE3) rfl ⟨hx3.1, hx2.2.trans hx3.2⟩
        ·
          refine r_aload_n dX8_shift_51 rfl ?_
          refine r_callV0 okX5_greatest ⟨by decide, by decide⟩ ml_X8_106 (mX5_greatest hmk) (by first | assumption | exact up_s _ _ _ | exact (up_n _ (by assumption)).trans (by assumption) | exact (up_n _ (by assumption)).trans (up_s _ _ _) | exact (up_n _ (by assumption)).trans ((up_n _ (by assumption)).trans (by assumption))) rfl rfl (Nat.le_of_ble_eq_true rfl) (Nat.le_of_ble_eq_true rfl) (Nat.le_of_ble_eq_true rfl) rfl dX8_shift_52 (nx_I) (kx_I ?_)
          have hl1 := hmk.at (n k - 1)
          refine r_iload_n dX8_shift_55 rfl ?_
          refine r_iadd dX8_shift_56 ?_
          refine r_sipush dX8_shift_57 (by decide) ?_
          refine r_icmp_gt (tgt := 67) dX8_shift_60 (by decide) (by omega) (by omega) (fun h60 => ?_) (fun h60 => ?_)
          ·
            refine r_iconst dX8_shift_67 ?_
            refine r_callS1 okX8_requireState ⟨by decide, by decide⟩ ml_X8_81 (mX8_requireState (b := n k = 0 ∨ (0 ≤ atF (n k) (F k) 0 + b ∧ atF (n k) (F k) (n k - 1) + b ≤ 9999)) (by first | (rw [if_pos (by omega)]; done) | (rw [if_neg (by omega)]; done))) (Nat.le_of_ble_eq_true rfl) (Nat.le_of_ble_eq_true rfl) (Nat.le_of_ble_eq_true rfl) rfl dX8_shift_68 (tUX (fun hne => by unfold e2; rw [if_pos hE1, if_pos hE2])) (kx_U ?_)
            intro hE3
            have hs9 := eS_ok hE3
            refine r_aload_n dX8_shift_71 rfl ?_
            refine r_getfield clX8 1 (by decide) fl_X8_19 (by first | assumption | exact up_s _ _ _ | exact (up_n _ (by assumption)).trans (by assumption) | exact (up_n _ (by assumption)).trans (up_s _ _ _) | exact (up_n _ (by assumption)).trans ((up_n _ (by assumption)).trans (by assumption))) rfl dX8_shift_72 ?_
            refine r_aload_n dX8_shift_75 rfl ?_
            refine r_getfield clX8 0 (by decide) fl_X8_10 (by first | assumption | exact up_s _ _ _ | exact (up_n _ (by assumption)).trans (by assumption) | exact (up_n _ (by assumption)).trans (up_s _ _ _) | exact (up_n _ (by assumption)).trans ((up_n _ (by assumption)).trans (by assumption))) rfl dX8_shift_76 ?_
            refine r_callV1 okX2_save ⟨by decide, by decide⟩ ml_X8_85 (mX2_save (s := 0) (σ := (n, F, g)) hhs hst hi) (by first | assumption | exact up_s _ _ _ | exact (up_n _ (by assumption)).trans (by assumption) | exact (up_n _ (by assumption)).trans (up_s _ _ _) | exact (up_n _ (by assumption)).trans ((up_n _ (by assumption)).trans (by assumption))) rfl rfl (Nat.le_of_ble_eq_true rfl) (Nat.le_of_ble_eq_true rfl) (Nat.le_of_ble_eq_true rfl) rfl dX8_shift_79 (nx_tV) (kx_tV ?_)
            intro M2 hM2
            have hx2 := hx.sav hi hM2.1 hM2.2
            obtain ⟨h00, hst, hhs, hbf, hpw, hbw, hmw, ⟨tn, tF, htr⟩, ⟨wn, wF, hwi⟩⟩ := id hx2.1
            change StP _ ad 1 n F g at hst
            have hob1 := hst.1
            obtain ⟨hh_1, hh_2, hh_3, hh_4, hh_5, hho, -⟩ := id hhs
            have hob94 := hbf.1
            obtain ⟨⟨y1, y2, y3, y4, y5, y6, hob96⟩, -, -⟩ := id hpw
            obtain ⟨z1, z2, z3, hob99, -⟩ := id hbw
            obtain ⟨⟨u1, hob101⟩, -, -⟩ := id hmw
            have hob108 := htr.1
            have hob110 := hwi.1
            have hmk := hst.mb (k := k) (by omega) (by omega)
            have hmo := hmk.1
            have hmn : 0 ≤ n (k) ∧ n (k) ≤ 60 := by have h60 := hmk.2.2.2.1; have h59 := hmk.2.2.1; omega
            have hmv := shift_ok (hvs k (by omega) (by omega)) hmk.2.2.1 hs9
            refine r_aload_n dX8_shift_82 rfl ?_
            refine r_iload_n dX8_shift_83 rfl ?_
            refine r_callV1 okX5_moveBy ⟨by decide, by decide⟩ ml_X8_109 (mX5_moveBy hmk (by omega) hmv) (by first | assumption | exact up_s _ _ _ | exact (up_n _ (by assumption)).trans (by assumption) | exact (up_n _ (by assumption)).trans (up_s _ _ _) | exact (up_n _ (by assumption)).trans ((up_n _ (by assumption)).trans (by assumption))) rfl rfl (Nat.le_of_ble_eq_true rfl) (Nat.le_of_ble_eq_true rfl) (Nat.le_of_ble_eq_true rfl) rfl dX8_shift_84 (nx_tV) (kx_tV ?_)
            intro M3 hM3
            have hx3 := hx2.1.goK hi (by omega) (by omega) hM3.1 hM3.2
            have hmo := hM3.1.1
            refine r_aload_n dX8_shift_87 rfl ?_
            refine r_callV0 okX5_least ⟨by decide, by decide⟩ ml_X8_103 (mX5_least hM3.1) (by first | assumption | exact up_s _ _ _ | exact (up_n _ (by assumption)).trans (by assumption) | exact (up_n _ (by assumption)).trans (up_s _ _ _) | exact (up_n _ (by assumption)).trans ((up_n _ (by assumption)).trans (by assumption))) rfl rfl (Nat.le_of_ble_eq_true rfl) (Nat.le_of_ble_eq_true rfl) (Nat.le_of_ble_eq_true rfl) rfl dX8_shift_88 (nx_I) (kx_I ?_)
            refine e_ireturn dX8_shift_91 rfl (Nat.le_of_ble_eq_true rfl) (Nat.le_of_ble_eq_true rfl) ?_
            exact okUX (by unfold e2; rw [if_pos hE1, if_pos hE2]; exact hE3) rfl ⟨hx3.1, hx2.2.trans hx3.2⟩
          ·
            refine r_iconst dX8_shift_63 ?_
            refine r_goto (tgt := 68) dX8_shift_64 (by decide) ?_
            refine r_callS1 okX8_requireState ⟨by decide, by decide⟩ ml_X8_81 (mX8_requireState (b := n k = 0 ∨ (0 ≤ atF (n k) (F k) 0 + b ∧ atF (n k) (F k) (n k - 1) + b ≤ 9999)) (by first | (rw [if_pos (by omega)]; done) | (rw [if_neg (by omega)]; done))) (Nat.le_of_ble_eq_true rfl) (Nat.le_of_ble_eq_true rfl) (Nat.le_of_ble_eq_true rfl) rfl dX8_shift_68 (tUX (fun hne => by unfold e2; rw [if_pos hE1, if_pos hE2])) (kx_U ?_)
            intro hE3
            have hs9 := eS_ok hE3
            refine r_aload_n dX8_shift_71 rfl ?_
            refine r_getfield clX8 1 (by decide) fl_X8_19 (by first | assumption | exact up_s _ _ _ | exact (up_n _ (by assumption)).trans (by assumption) | exact (up_n _ (by assumption)).trans (up_s _ _ _) | exact (up_n _ (by assumption)).trans ((up_n _ (by assumption)).trans (by assumption))) rfl dX8_shift_72 ?_
            refine r_aload_n dX8_shift_75 rfl ?_
            refine r_getfield clX8 0 (by decide) fl_X8_10 (by first | assumption | exact up_s _ _ _ | exact (up_n _ (by assumption)).trans (by assumption) | exact (up_n _ (by assumption)).trans (up_s _ _ _) | exact (up_n _ (by assumption)).trans ((up_n _ (by assumption)).trans (by assumption))) rfl dX8_shift_76 ?_
            refine r_callV1 okX2_save ⟨by decide, by decide⟩ ml_X8_85 (mX2_save (s := 0) (σ := (n, F, g)) hhs hst hi) (by first | assumption | exact up_s _ _ _ | exact (up_n _ (by assumption)).trans (by assumption) | exact (up_n _ (by assumption)).trans (up_s _ _ _) | exact (up_n _ (by assumption)).trans ((up_n _ (by assumption)).trans (by assumption))) rfl rfl (Nat.le_of_ble_eq_true rfl) (Nat.le_of_ble_eq_true rfl) (Nat.le_of_ble_eq_true rfl) rfl dX8_shift_79 (nx_tV) (kx_tV ?_)
            intro M2 hM2
            have hx2 := hx.sav hi hM2.1 hM2.2
            obtain ⟨h00, hst, hhs, hbf, hpw, hbw, hmw, ⟨tn, tF, htr⟩, ⟨wn, wF, hwi⟩⟩ := id hx2.1
            change StP _ ad 1 n F g at hst
            have hob1 := hst.1
            obtain ⟨hh_1, hh_2, hh_3, hh_4, hh_5, hho, -⟩ := id hhs
            have hob94 := hbf.1
            obtain ⟨⟨y1, y2, y3, y4, y5, y6, hob96⟩, -, -⟩ := id hpw
            obtain ⟨z1, z2, z3, hob99, -⟩ := id hbw
            obtain ⟨⟨u1, hob101⟩, -, -⟩ := id hmw
            have hob108 := htr.1
            have hob110 := hwi.1
            have hmk := hst.mb (k := k) (by omega) (by omega)
            have hmo := hmk.1
            have hmn : 0 ≤ n (k) ∧ n (k) ≤ 60 := by have h60 := hmk.2.2.2.1; have h59 := hmk.2.2.1; omega
            have hmv := shift_ok (hvs k (by omega) (by omega)) hmk.2.2.1 hs9
            refine r_aload_n dX8_shift_82 rfl ?_
            refine r_iload_n dX8_shift_83 rfl ?_
            refine r_callV1 okX5_moveBy ⟨by decide, by decide⟩ ml_X8_109 (mX5_moveBy hmk (by omega) hmv) (by first | assumption | exact up_s _ _ _ | exact (up_n _ (by assumption)).trans (by assumption) | exact (up_n _ (by assumption)).trans (up_s _ _ _) | exact (up_n _ (by assumption)).trans ((up_n _ (by assumption)).trans (by assumption))) rfl rfl (Nat.le_of_ble_eq_true rfl) (Nat.le_of_ble_eq_true rfl) (Nat.le_of_ble_eq_true rfl) rfl dX8_shift_84 (nx_tV) (kx_tV ?_)
            intro M3 hM3
            have hx3 := hx2.1.goK hi (by omega) (by omega) hM3.1 hM3.2
            have hmo := hM3.1.1
            refine r_aload_n dX8_shift_87 rfl ?_
            refine r_callV0 okX5_least ⟨by decide, by decide⟩ ml_X8_103 (mX5_least hM3.1) (by first | assumption | exact up_s _ _ _ | exact (up_n _ (by assumption)).trans (by assumption) | exact (up_n _ (by assumption)).trans (up_s _ _ _) | exact (up_n _ (by assumption)).trans ((up_n _ (by assumption)).trans (by assumption))) rfl rfl (Nat.le_of_ble_eq_true rfl) (Nat.le_of_ble_eq_true rfl) (Nat.le_of_ble_eq_true rfl) rfl dX8_shift_88 (nx_I) (kx_I ?_)
            refine e_ireturn dX8_shift_91 rfl (Nat.le_of_ble_eq_true rfl) (Nat.le_of_ble_eq_true rfl) ?_
            exact okUX (by unfold e2; rw [if_pos hE1, if_pos hE2]; exact hE3) rfl ⟨hx3.1, hx2.2.trans hx3.2⟩

set_option maxHeartbeats 4000000 in
theorem mX8_joinInto {M : Mem} {o a : Nat} {n0 : Int} {F0 : Int → Int} {o1 a1 N1 : Nat} {n1 : Int} {F1 : Int → Int} {o2 a2 N2 : Nat} {n2 : Int} {F2 : Int → Int} {how : Int} (hm : Mb M o a 120 n0 F0) (hm1 : Mb M o1 a1 N1 n1 F1) (hm2 : Mb M o2 a2 N2 n2 F2) (hd1 : o1 ≠ o ∧ o1 ≠ a ∧ a1 ≠ o ∧ a1 ≠ a) (hd2 : o2 ≠ o ∧ o2 ≠ a ∧ a2 ≠ o ∧ a2 ≠ a) (q0 : 0 ≤ how ∧ how ≤ 3) : Ct KX8_joinInto [.ref o, .ref o1, .ref o2, vI how] M 0 0 (atV (fun M2 => Mb M2 o a 120 (jnF n1 F1 n2 F2 how).1 (jnF n1 F1 n2 F2 how).2 ∧ Fr2 o a M M2)) := by
  refine Ct.of _ (by decide) rfl (Nat.le_of_ble_eq_true rfl) ?_
  have hmo := hm.1
  refine r_aload_n dX8_joinInto_0 rfl ?_
  refine r_callV0 okX5_empty ⟨by decide, by decide⟩ ml_X8_285 (mX5_empty hm) (by first | assumption | exact up_s _ _ _ | exact (up_n _ (by assumption)).trans (by assumption) | exact (up_n _ (by assumption)).trans (up_s _ _ _) | exact (up_n _ (by assumption)).trans ((up_n _ (by assumption)).trans (by assumption))) rfl rfl (Nat.le_of_ble_eq_true rfl) (Nat.le_of_ble_eq_true rfl) (Nat.le_of_ble_eq_true rfl) rfl dX8_joinInto_1 (nx_tV) (kx_tV ?_)
  intro M0 hM0
  refine r_iconst dX8_joinInto_4 ?_
  refine r_istore dX8_joinInto_5 (by decide) rfl ?_
  refine J.loc (L' := [(0, some _), (1, some _), (2, some _), (3, some _), (4, some _)]) (lsub_cons rfl (lsub_cons rfl (lsub_cons rfl (lsub_cons rfl (lsub_cons rfl (lsub_nil)))))) (loop4 (fun (p : Int) (M1 : Mem) (w1 : Int) (G1 : Int → Int) => 0 ≤ p ∧ p ≤ n1 ∧ Mb M1 o a 120 w1 G1 ∧ Fr2 o a M M1 ∧ jnA F1 n2 F2 how n1.toNat 0 0 (fun _ => 0) = jnA F1 n2 F2 how (n1 - p).toNat p w1 G1) (fun (p : Int) (M1 : Mem) (w1 : Int) (G1 : Int → Int) => (n1 - p).toNat) (fun (p : Int) (M1 : Mem) (w1 : Int) (G1 : Int → Int) => J KX8_joinInto 0 0 _ 7 [(0, some (.ref o)), (1, some (.ref o1)), (2, some (.ref o2)), (3, some (vI how)), (4, some (vI p))] [] M1 _ _) (fun p M1 w1 G1 hI7 ih7 => ?_) _ M0 0 (fun _ => 0) ?_)
  ·
    obtain ⟨hp0, hp1, hmx, hfr, hj⟩ := hI7
    have hm1x := hm1.frame (M1 := M1) (hfr _ hd1.1 hd1.2.1) (hfr _ hd1.2.2.1 hd1.2.2.2)
    have hm2x := hm2.frame (M1 := M1) (hfr _ hd2.1 hd2.2.1) (hfr _ hd2.2.2.1 hd2.2.2.2)
    have hmo := hmx.1
    have hmo1 := hm1x.1
    have hmo2 := hm2x.1
    have hmn1 := hm1x.n0
    have hmn2 := hm2x.n0
    refine r_iload dX8_joinInto_7 rfl ?_
    refine r_aload_n dX8_joinInto_9 rfl ?_
    refine r_callV0 okX5_amount ⟨by decide, by decide⟩ ml_X8_77 (mX5_amount hm1x) (by first | assumption | exact up_s _ _ _ | exact (up_n _ (by assumption)).trans (by assumption) | exact (up_n _ (by assumption)).trans (up_s _ _ _) | exact (up_n _ (by assumption)).trans ((up_n _ (by assumption)).trans (by assumption))) rfl rfl (Nat.le_of_ble_eq_true rfl) (Nat.le_of_ble_eq_true rfl) (Nat.le_of_ble_eq_true rfl) rfl dX8_joinInto_10 (nx_I) (kx_I ?_)
    refine r_icmp_ge (tgt := 59) dX8_joinInto_13 (by decide) (by omega) (by omega) (fun h13 => ?_) (fun h13 => ?_)
    ·
      have hjA : jnA F1 n2 F2 how n1.toNat 0 0 (fun _ => 0) = (w1, G1) := by rw [hj, show (n1 - p).toNat = 0 by omega, jnA]
      refine r_iload_n dX8_joinInto_59 rfl ?_
      refine r_if_eq (tgt := 68) dX8_joinInto_60 (by decide) (by omega) (fun h60 => ?_) (fun h60 => ?_)
      ·
        refine r_iconst dX8_joinInto_68 ?_
        refine r_istore dX8_joinInto_69 (by decide) rfl ?_
        refine J.loc (L' := [(0, some _), (1, some _), (2, some _), (3, some _), (4, some _)]) (lsub_cons rfl (lsub_cons rfl (lsub_cons rfl (lsub_cons rfl (lsub_cons rfl (lsub_nil)))))) (loop4 (fun (p : Int) (M5 : Mem) (w5 : Int) (G5 : Int → Int) => 0 ≤ p ∧ p ≤ n2 ∧ Mb M5 o a 120 w5 G5 ∧ Fr2 o a M M5 ∧ jnB n1 F1 F2 n2.toNat 0 (jnA F1 n2 F2 how n1.toNat 0 0 (fun _ => 0)).1 (jnA F1 n2 F2 how n1.toNat 0 0 (fun _ => 0)).2 = jnB n1 F1 F2 (n2 - p).toNat p w5 G5) (fun (p : Int) (M5 : Mem) (w5 : Int) (G5 : Int → Int) => (n2 - p).toNat) (fun (p : Int) (M5 : Mem) (w5 : Int) (G5 : Int → Int) => J KX8_joinInto 0 0 _ 71 [(0, some (.ref o)), (1, some (.ref o1)), (2, some (.ref o2)), (3, some (vI how)), (4, some (vI p))] [] M5 _ _) (fun p M5 w5 G5 hI71 ih71 => ?_) _ M1 w1 G1 ?_)
        ·
          obtain ⟨hp0, hp1, hmx, hfr, hj⟩ := hI71
          have hm1x := hm1.frame (M1 := M5) (hfr _ hd1.1 hd1.2.1) (hfr _ hd1.2.2.1 hd1.2.2.2)
          have hm2x := hm2.frame (M1 := M5) (hfr _ hd2.1 hd2.2.1) (hfr _ hd2.2.2.1 hd2.2.2.2)
          have hmo := hmx.1
          have hmo1 := hm1x.1
          have hmo2 := hm2x.1
          have hmn1 := hm1x.n0
          have hmn2 := hm2x.n0
          refine r_iload dX8_joinInto_71 rfl ?_
          refine r_aload_n dX8_joinInto_73 rfl ?_
          refine r_callV0 okX5_amount ⟨by decide, by decide⟩ ml_X8_77 (mX5_amount hm2x) (by first | assumption | exact up_s _ _ _ | exact (up_n _ (by assumption)).trans (by assumption) | exact (up_n _ (by assumption)).trans (up_s _ _ _) | exact (up_n _ (by assumption)).trans ((up_n _ (by assumption)).trans (by assumption))) rfl rfl (Nat.le_of_ble_eq_true rfl) (Nat.le_of_ble_eq_true rfl) (Nat.le_of_ble_eq_true rfl) rfl dX8_joinInto_74 (nx_I) (kx_I ?_)
          refine r_icmp_ge (tgt := 109) dX8_joinInto_77 (by decide) (by omega) (by omega) (fun h77 => ?_) (fun h77 => ?_)
          ·
            refine e_return dX8_joinInto_109 rfl (Nat.le_of_ble_eq_true rfl) (Nat.le_of_ble_eq_true rfl) ?_
            exact oktV ⟨by unfold jnF; rw [if_pos (by omega), hj, show (n2 - p).toNat = 0 by omega, jnB]; exact hmx, hfr⟩
          ·
            refine r_aload_n dX8_joinInto_80 rfl ?_
            refine r_iload dX8_joinInto_81 rfl ?_
            refine r_callV1 okX5_at ⟨by decide, by decide⟩ ml_X8_160 (mX5_at hm2x (by omega)) (by first | assumption | exact up_s _ _ _ | exact (up_n _ (by assumption)).trans (by assumption) | exact (up_n _ (by assumption)).trans (up_s _ _ _) | exact (up_n _ (by assumption)).trans ((up_n _ (by assumption)).trans (by assumption))) rfl rfl (Nat.le_of_ble_eq_true rfl) (Nat.le_of_ble_eq_true rfl) (Nat.le_of_ble_eq_true rfl) rfl dX8_joinInto_83 (nx_I) (kx_I ?_)
            have hat := hm2x.at p
            rw [atF_in hp0 (by omega)] at hat ⊢
            have hbd := hm2x.2.2.2.2.2 p hp0 (by omega)
            refine r_istore dX8_joinInto_86 (by decide) rfl ?_
            refine r_aload_n dX8_joinInto_88 rfl ?_
            refine r_iload dX8_joinInto_89 rfl ?_
            refine r_callV1 okX5_holds ⟨by decide, by decide⟩ ml_X8_73 (mX5_holds hm1x (by omega)) (by first | assumption | exact up_s _ _ _ | exact (up_n _ (by assumption)).trans (by assumption) | exact (up_n _ (by assumption)).trans (up_s _ _ _) | exact (up_n _ (by assumption)).trans ((up_n _ (by assumption)).trans (by assumption))) rfl rfl (Nat.le_of_ble_eq_true rfl) (Nat.le_of_ble_eq_true rfl) (Nat.le_of_ble_eq_true rfl) rfl dX8_joinInto_91 (nx_I) (kx_I ?_)
            have hbb := bI_r (hasF n1 F1 (F2 p))
            refine r_if_ne (tgt := 103) dX8_joinInto_94 (by decide) (by omega) (fun h94 => ?_) (fun h94 => ?_)
            ·
              refine r_iinc dX8_joinInto_103 rfl rfl ?_
              refine r_goto (tgt := 71) dX8_joinInto_106 (by decide) ?_
              refine J.loc (lsub_cons rfl (lsub_cons rfl (lsub_cons rfl (lsub_cons rfl (lsub_cons rfl (lsub_nil)))))) (ih71 _ M5 w5 G5 ?_ ?_)
              · refine ⟨by omega, by omega, hmx, hfr, ?_⟩
                rw [hj, show (n2 - p).toNat = (n2 - (p + 1)).toNat + 1 by omega, jnB, if_neg (by omega)]
              · omega
            ·
              refine r_aload_n dX8_joinInto_97 rfl ?_
              refine r_iload dX8_joinInto_98 rfl ?_
              refine r_callV1 okX5_put ⟨by decide, by decide⟩ ml_X8_89 (mX5_put hmx (by omega)) (by first | assumption | exact up_s _ _ _ | exact (up_n _ (by assumption)).trans (by assumption) | exact (up_n _ (by assumption)).trans (up_s _ _ _) | exact (up_n _ (by assumption)).trans ((up_n _ (by assumption)).trans (by assumption))) rfl rfl (Nat.le_of_ble_eq_true rfl) (Nat.le_of_ble_eq_true rfl) (Nat.le_of_ble_eq_true rfl) rfl dX8_joinInto_100 (nx_tV) (kx_tV ?_)
              intro M8 hM8
              have hfr8 : Fr2 o a M M8 := fun q x y => (hM8.2 q x y).trans (hfr q x y)
              refine r_iinc dX8_joinInto_103 rfl rfl ?_
              refine r_goto (tgt := 71) dX8_joinInto_106 (by decide) ?_
              refine J.loc (lsub_cons rfl (lsub_cons rfl (lsub_cons rfl (lsub_cons rfl (lsub_cons rfl (lsub_nil)))))) (ih71 _ M8 (putN 120 w5 G5 (F2 p)) (putF 120 w5 G5 (F2 p)) ?_ ?_)
              · refine ⟨by omega, by omega, hM8.1, hfr8, ?_⟩
                rw [hj, show (n2 - p).toNat = (n2 - (p + 1)).toNat + 1 by omega, jnB, if_pos (by omega)]
              · omega
        · exact ⟨by omega, by omega, hmx, hfr, by rw [hjA]; simp⟩
      ·
        refine r_iload_n dX8_joinInto_63 rfl ?_
        refine r_iconst dX8_joinInto_64 ?_
        refine r_icmp_ne (tgt := 109) dX8_joinInto_65 (by decide) (by omega) (by omega) (fun h65 => ?_) (fun h65 => ?_)
        ·
          refine e_return dX8_joinInto_109 rfl (Nat.le_of_ble_eq_true rfl) (Nat.le_of_ble_eq_true rfl) ?_
          exact oktV ⟨by unfold jnF; rw [if_neg (by omega), hjA]; exact hmx, hfr⟩
        ·
          refine r_iconst dX8_joinInto_68 ?_
          refine r_istore dX8_joinInto_69 (by decide) rfl ?_
          refine J.loc (L' := [(0, some _), (1, some _), (2, some _), (3, some _), (4, some _)]) (lsub_cons rfl (lsub_cons rfl (lsub_cons rfl (lsub_cons rfl (lsub_cons rfl (lsub_nil)))))) (loop4 (fun (p : Int) (M5 : Mem) (w5 : Int) (G5 : Int → Int) => 0 ≤ p ∧ p ≤ n2 ∧ Mb M5 o a 120 w5 G5 ∧ Fr2 o a M M5 ∧ jnB n1 F1 F2 n2.toNat 0 (jnA F1 n2 F2 how n1.toNat 0 0 (fun _ => 0)).1 (jnA F1 n2 F2 how n1.toNat 0 0 (fun _ => 0)).2 = jnB n1 F1 F2 (n2 - p).toNat p w5 G5) (fun (p : Int) (M5 : Mem) (w5 : Int) (G5 : Int → Int) => (n2 - p).toNat) (fun (p : Int) (M5 : Mem) (w5 : Int) (G5 : Int → Int) => J KX8_joinInto 0 0 _ 71 [(0, some (.ref o)), (1, some (.ref o1)), (2, some (.ref o2)), (3, some (vI how)), (4, some (vI p))] [] M5 _ _) (fun p M5 w5 G5 hI71 ih71 => ?_) _ M1 w1 G1 ?_)
          ·
            obtain ⟨hp0, hp1, hmx, hfr, hj⟩ := hI71
            have hm1x := hm1.frame (M1 := M5) (hfr _ hd1.1 hd1.2.1) (hfr _ hd1.2.2.1 hd1.2.2.2)
            have hm2x := hm2.frame (M1 := M5) (hfr _ hd2.1 hd2.2.1) (hfr _ hd2.2.2.1 hd2.2.2.2)
            have hmo := hmx.1
            have hmo1 := hm1x.1
            have hmo2 := hm2x.1
            have hmn1 := hm1x.n0
            have hmn2 := hm2x.n0
            refine r_iload dX8_joinInto_71 rfl ?_
            refine r_aload_n dX8_joinInto_73 rfl ?_
            refine r_callV0 okX5_amount ⟨by decide, by decide⟩ ml_X8_77 (mX5_amount hm2x) (by first | assumption | exact up_s _ _ _ | exact (up_n _ (by assumption)).trans (by assumption) | exact (up_n _ (by assumption)).trans (up_s _ _ _) | exact (up_n _ (by assumption)).trans ((up_n _ (by assumption)).trans (by assumption))) rfl rfl (Nat.le_of_ble_eq_true rfl) (Nat.le_of_ble_eq_true rfl) (Nat.le_of_ble_eq_true rfl) rfl dX8_joinInto_74 (nx_I) (kx_I ?_)
            refine r_icmp_ge (tgt := 109) dX8_joinInto_77 (by decide) (by omega) (by omega) (fun h77 => ?_) (fun h77 => ?_)
            ·
              refine e_return dX8_joinInto_109 rfl (Nat.le_of_ble_eq_true rfl) (Nat.le_of_ble_eq_true rfl) ?_
              exact oktV ⟨by unfold jnF; rw [if_pos (by omega), hj, show (n2 - p).toNat = 0 by omega, jnB]; exact hmx, hfr⟩
            ·
              refine r_aload_n dX8_joinInto_80 rfl ?_
              refine r_iload dX8_joinInto_81 rfl ?_
              refine r_callV1 okX5_at ⟨by decide, by decide⟩ ml_X8_160 (mX5_at hm2x (by omega)) (by first | assumption | exact up_s _ _ _ | exact (up_n _ (by assumption)).trans (by assumption) | exact (up_n _ (by assumption)).trans (up_s _ _ _) | exact (up_n _ (by assumption)).trans ((up_n _ (by assumption)).trans (by assumption))) rfl rfl (Nat.le_of_ble_eq_true rfl) (Nat.le_of_ble_eq_true rfl) (Nat.le_of_ble_eq_true rfl) rfl dX8_joinInto_83 (nx_I) (kx_I ?_)
              have hat := hm2x.at p
              rw [atF_in hp0 (by omega)] at hat ⊢
              have hbd := hm2x.2.2.2.2.2 p hp0 (by omega)
              refine r_istore dX8_joinInto_86 (by decide) rfl ?_
              refine r_aload_n dX8_joinInto_88 rfl ?_
              refine r_iload dX8_joinInto_89 rfl ?_
              refine r_callV1 okX5_holds ⟨by decide, by decide⟩ ml_X8_73 (mX5_holds hm1x (by omega)) (by first | assumption | exact up_s _ _ _ | exact (up_n _ (by assumption)).trans (by assumption) | exact (up_n _ (by assumption)).trans (up_s _ _ _) | exact (up_n _ (by assumption)).trans ((up_n _ (by assumption)).trans (by assumption))) rfl rfl (Nat.le_of_ble_eq_true rfl) (Nat.le_of_ble_eq_true rfl) (Nat.le_of_ble_eq_true rfl) rfl dX8_joinInto_91 (nx_I) (kx_I ?_)
              have hbb := bI_r (hasF n1 F1 (F2 p))
              refine r_if_ne (tgt := 103) dX8_joinInto_94 (by decide) (by omega) (fun h94 => ?_) (fun h94 => ?_)
              ·
                refine r_iinc dX8_joinInto_103 rfl rfl ?_
                refine r_goto (tgt := 71) dX8_joinInto_106 (by decide) ?_
                refine J.loc (lsub_cons rfl (lsub_cons rfl (lsub_cons rfl (lsub_cons rfl (lsub_cons rfl (lsub_nil)))))) (ih71 _ M5 w5 G5 ?_ ?_)
                · refine ⟨by omega, by omega, hmx, hfr, ?_⟩
                  rw [hj, show (n2 - p).toNat = (n2 - (p + 1)).toNat + 1 by omega, jnB, if_neg (by omega)]
                · omega
              ·
                refine r_aload_n dX8_joinInto_97 rfl ?_
                refine r_iload dX8_joinInto_98 rfl ?_
                refine r_callV1 okX5_put ⟨by decide, by decide⟩ ml_X8_89 (mX5_put hmx (by omega)) (by first | assumption | exact up_s _ _ _ | exact (up_n _ (by assumption)).trans (by assumption) | exact (up_n _ (by assumption)).trans (up_s _ _ _) | exact (up_n _ (by assumption)).trans ((up_n _ (by assumption)).trans (by assumption))) rfl rfl (Nat.le_of_ble_eq_true rfl) (Nat.le_of_ble_eq_true rfl) (Nat.le_of_ble_eq_true rfl) rfl dX8_joinInto_100 (nx_tV) (kx_tV ?_)
                intro M8 hM8
                have hfr8 : Fr2 o a M M8 := fun q x y => (hM8.2 q x y).trans (hfr q x y)
                refine r_iinc dX8_joinInto_103 rfl rfl ?_
                refine r_goto (tgt := 71) dX8_joinInto_106 (by decide) ?_
                refine J.loc (lsub_cons rfl (lsub_cons rfl (lsub_cons rfl (lsub_cons rfl (lsub_cons rfl (lsub_nil)))))) (ih71 _ M8 (putN 120 w5 G5 (F2 p)) (putF 120 w5 G5 (F2 p)) ?_ ?_)
                · refine ⟨by omega, by omega, hM8.1, hfr8, ?_⟩
                  rw [hj, show (n2 - p).toNat = (n2 - (p + 1)).toNat + 1 by omega, jnB, if_pos (by omega)]
                · omega
          · exact ⟨by omega, by omega, hmx, hfr, by rw [hjA]; simp⟩
    ·
      refine r_aload_n dX8_joinInto_16 rfl ?_
      refine r_iload dX8_joinInto_17 rfl ?_
      refine r_callV1 okX5_at ⟨by decide, by decide⟩ ml_X8_160 (mX5_at hm1x (by omega)) (by first | assumption | exact up_s _ _ _ | exact (up_n _ (by assumption)).trans (by assumption) | exact (up_n _ (by assumption)).trans (up_s _ _ _) | exact (up_n _ (by assumption)).trans ((up_n _ (by assumption)).trans (by assumption))) rfl rfl (Nat.le_of_ble_eq_true rfl) (Nat.le_of_ble_eq_true rfl) (Nat.le_of_ble_eq_true rfl) rfl dX8_joinInto_19 (nx_I) (kx_I ?_)
      have hat := hm1x.at p
      rw [atF_in hp0 (by omega)] at hat ⊢
      have hbd := hm1x.2.2.2.2.2 p hp0 (by omega)
      refine r_istore dX8_joinInto_22 (by decide) rfl ?_
      refine r_iload_n dX8_joinInto_24 rfl ?_
      refine r_if_eq (tgt := 47) dX8_joinInto_25 (by decide) (by omega) (fun h25 => ?_) (fun h25 => ?_)
      ·
        refine r_aload_n dX8_joinInto_47 rfl ?_
        refine r_iload dX8_joinInto_48 rfl ?_
        refine r_callV1 okX5_put ⟨by decide, by decide⟩ ml_X8_89 (mX5_put hmx (by omega)) (by first | assumption | exact up_s _ _ _ | exact (up_n _ (by assumption)).trans (by assumption) | exact (up_n _ (by assumption)).trans (up_s _ _ _) | exact (up_n _ (by assumption)).trans ((up_n _ (by assumption)).trans (by assumption))) rfl rfl (Nat.le_of_ble_eq_true rfl) (Nat.le_of_ble_eq_true rfl) (Nat.le_of_ble_eq_true rfl) rfl dX8_joinInto_50 (nx_tV) (kx_tV ?_)
        intro M8 hM8
        have hfr8 : Fr2 o a M M8 := fun q x y => (hM8.2 q x y).trans (hfr q x y)
        refine r_iinc dX8_joinInto_53 rfl rfl ?_
        refine r_goto (tgt := 7) dX8_joinInto_56 (by decide) ?_
        refine J.loc (lsub_cons rfl (lsub_cons rfl (lsub_cons rfl (lsub_cons rfl (lsub_cons rfl (lsub_nil)))))) (ih7 _ M8 (putN 120 w1 G1 (F1 p)) (putF 120 w1 G1 (F1 p)) ?_ ?_)
        · refine ⟨by omega, by omega, hM8.1, hfr8, ?_⟩
          rw [hj, show (n1 - p).toNat = (n1 - (p + 1)).toNat + 1 by omega, jnA, if_pos (Or.inl (by omega))]
        · omega
      ·
        refine r_aload_n dX8_joinInto_28 rfl ?_
        refine r_iload dX8_joinInto_29 rfl ?_
        refine r_callV1 okX5_holds ⟨by decide, by decide⟩ ml_X8_73 (mX5_holds hm2x (by omega)) (by first | assumption | exact up_s _ _ _ | exact (up_n _ (by assumption)).trans (by assumption) | exact (up_n _ (by assumption)).trans (up_s _ _ _) | exact (up_n _ (by assumption)).trans ((up_n _ (by assumption)).trans (by assumption))) rfl rfl (Nat.le_of_ble_eq_true rfl) (Nat.le_of_ble_eq_true rfl) (Nat.le_of_ble_eq_true rfl) rfl dX8_joinInto_31 (nx_I) (kx_I ?_)
        have hbb := bI_r (hasF n2 F2 (F1 p))
        refine r_iload_n dX8_joinInto_34 rfl ?_
        refine r_iconst dX8_joinInto_35 ?_
        refine r_icmp_ne (tgt := 43) dX8_joinInto_36 (by decide) (by omega) (by omega) (fun h36 => ?_) (fun h36 => ?_)
        ·
          refine r_iconst dX8_joinInto_43 ?_
          refine r_icmp_ne (tgt := 53) dX8_joinInto_44 (by decide) (by omega) (by omega) (fun h44 => ?_) (fun h44 => ?_)
          ·
            refine r_iinc dX8_joinInto_53 rfl rfl ?_
            refine r_goto (tgt := 7) dX8_joinInto_56 (by decide) ?_
            refine J.loc (lsub_cons rfl (lsub_cons rfl (lsub_cons rfl (lsub_cons rfl (lsub_cons rfl (lsub_nil)))))) (ih7 _ M1 w1 G1 ?_ ?_)
            · refine ⟨by omega, by omega, hmx, hfr, ?_⟩
              rw [hj, show (n1 - p).toNat = (n1 - (p + 1)).toNat + 1 by omega, jnA, if_neg (fun q => q.elim (fun q => by omega) (fun q => by first | (rw [if_pos (by omega)] at q; omega) | (rw [if_neg (by omega)] at q; omega)))]
            · omega
          ·
            refine r_aload_n dX8_joinInto_47 rfl ?_
            refine r_iload dX8_joinInto_48 rfl ?_
            refine r_callV1 okX5_put ⟨by decide, by decide⟩ ml_X8_89 (mX5_put hmx (by omega)) (by first | assumption | exact up_s _ _ _ | exact (up_n _ (by assumption)).trans (by assumption) | exact (up_n _ (by assumption)).trans (up_s _ _ _) | exact (up_n _ (by assumption)).trans ((up_n _ (by assumption)).trans (by assumption))) rfl rfl (Nat.le_of_ble_eq_true rfl) (Nat.le_of_ble_eq_true rfl) (Nat.le_of_ble_eq_true rfl) rfl dX8_joinInto_50 (nx_tV) (kx_tV ?_)
            intro M8 hM8
            have hfr8 : Fr2 o a M M8 := fun q x y => (hM8.2 q x y).trans (hfr q x y)
            refine r_iinc dX8_joinInto_53 rfl rfl ?_
            refine r_goto (tgt := 7) dX8_joinInto_56 (by decide) ?_
            refine J.loc (lsub_cons rfl (lsub_cons rfl (lsub_cons rfl (lsub_cons rfl (lsub_cons rfl (lsub_nil)))))) (ih7 _ M8 (putN 120 w1 G1 (F1 p)) (putF 120 w1 G1 (F1 p)) ?_ ?_)
            · refine ⟨by omega, by omega, hM8.1, hfr8, ?_⟩
              rw [hj, show (n1 - p).toNat = (n1 - (p + 1)).toNat + 1 by omega, jnA, if_pos (Or.inr (by first | (rw [if_pos (by omega)]; omega) | (rw [if_neg (by omega)]; omega)))]
            · omega
        ·
          refine r_iconst dX8_joinInto_39 ?_
          refine r_goto (tgt := 44) dX8_joinInto_40 (by decide) ?_
          refine r_icmp_ne (tgt := 53) dX8_joinInto_44 (by decide) (by omega) (by omega) (fun h44 => ?_) (fun h44 => ?_)
          ·
            refine r_iinc dX8_joinInto_53 rfl rfl ?_
            refine r_goto (tgt := 7) dX8_joinInto_56 (by decide) ?_
            refine J.loc (lsub_cons rfl (lsub_cons rfl (lsub_cons rfl (lsub_cons rfl (lsub_cons rfl (lsub_nil)))))) (ih7 _ M1 w1 G1 ?_ ?_)
            · refine ⟨by omega, by omega, hmx, hfr, ?_⟩
              rw [hj, show (n1 - p).toNat = (n1 - (p + 1)).toNat + 1 by omega, jnA, if_neg (fun q => q.elim (fun q => by omega) (fun q => by first | (rw [if_pos (by omega)] at q; omega) | (rw [if_neg (by omega)] at q; omega)))]
            · omega
          ·
            refine r_aload_n dX8_joinInto_47 rfl ?_
            refine r_iload dX8_joinInto_48 rfl ?_
            refine r_callV1 okX5_put ⟨by decide, by decide⟩ ml_X8_89 (mX5_put hmx (by omega)) (by first | assumption | exact up_s _ _ _ | exact (up_n _ (by assumption)).trans (by assumption) | exact (up_n _ (by assumption)).trans (up_s _ _ _) | exact (up_n _ (by assumption)).trans ((up_n _ (by assumption)).trans (by assumption))) rfl rfl (Nat.le_of_ble_eq_true rfl) (Nat.le_of_ble_eq_true rfl) (Nat.le_of_ble_eq_true rfl) rfl dX8_joinInto_50 (nx_tV) (kx_tV ?_)
            intro M8 hM8
            have hfr8 : Fr2 o a M M8 := fun q x y => (hM8.2 q x y).trans (hfr q x y)
            refine r_iinc dX8_joinInto_53 rfl rfl ?_
            refine r_goto (tgt := 7) dX8_joinInto_56 (by decide) ?_
            refine J.loc (lsub_cons rfl (lsub_cons rfl (lsub_cons rfl (lsub_cons rfl (lsub_cons rfl (lsub_nil)))))) (ih7 _ M8 (putN 120 w1 G1 (F1 p)) (putF 120 w1 G1 (F1 p)) ?_ ?_)
            · refine ⟨by omega, by omega, hM8.1, hfr8, ?_⟩
              rw [hj, show (n1 - p).toNat = (n1 - (p + 1)).toNat + 1 by omega, jnA, if_pos (Or.inr (by first | (rw [if_pos (by omega)]; omega) | (rw [if_neg (by omega)]; omega)))]
            · omega
  · exact ⟨by omega, by have := hm1.n0; omega, hM0.1.cong (fun i a b => by omega), hM0.2, by simp⟩

set_option maxHeartbeats 4000000 in
theorem mX8_combine {M : Mem} {ad : Int → Nat} {n : Int → Int} {F : Int → Int → Int} {g : Int → Int} {m : Int} {S : Int → Sg3} {len : Int} {c : Int → Int} {k k1 k2 how : Int} (hx : XSt M ad (n, F, g) m S len c) (hv : Vld (n, F, g)) (hi : Inj ad) (q0 : R32 k) (q1 : R32 k1) (q2 : R32 k2) (q3 : R32 how) : Ct KX8_combine [.ref (ad 0), vI k, vI k1, vI k2, vI how] M 6 36 (UY (e2 (eSet k) (e2 (eSet k1) (e2 (eSet k2) (e2 (eB (0 ≤ how ∧ how ≤ 3) xA) (eB ((jnF (n k1) (F k1) (n k2) (F k2) how).1 ≤ 60) xS))))) ((jnF (n k1) (F k1) (n k2) (F k2) how).1) (fun M2 => XSt M2 ad (uI n k ((jnF (n k1) (F k1) (n k2) (F k2) how).1), uI F k ((jnF (n k1) (F k1) (n k2) (F k2) how).2), g) (svM m) (svS m S (n, F, g)) len c ∧ FrI ad 0 112 M M2) (fun M2 => XSt M2 ad (n, F, g) m S len c ∧ FrI ad 0 112 M M2)) := by
  refine Ct.of _ (by decide) rfl (Nat.le_of_ble_eq_true rfl) ?_
  obtain ⟨h00, hst, hhs, hbf, hpw, hbw, hmw, ⟨tn, tF, htr⟩, ⟨wn, wF, hwi⟩⟩ := id hx
  obtain ⟨hvs, hv0, hv1, hv2, hv3⟩ := id hv
  change StP _ ad 1 n F g at hst
  dsimp only at hvs hv0 hv1 hv2 hv3
  have hob1 := hst.1
  obtain ⟨hh_1, hh_2, hh_3, hh_4, hh_5, hho, -⟩ := id hhs
  have hob94 := hbf.1
  obtain ⟨⟨y1, y2, y3, y4, y5, y6, hob96⟩, -, -⟩ := id hpw
  obtain ⟨z1, z2, z3, hob99, -⟩ := id hbw
  obtain ⟨⟨u1, hob101⟩, -, -⟩ := id hmw
  have hob108 := htr.1
  have hob110 := hwi.1
  refine r_iload_n dX8_combine_0 rfl ?_
  refine r_callS1 okX8_requireSet ⟨by decide, by decide⟩ ml_X8_63 (mX8_requireSet (by omega)) (Nat.le_of_ble_eq_true rfl) (Nat.le_of_ble_eq_true rfl) (Nat.le_of_ble_eq_true rfl) rfl dX8_combine_1 (tUY (fun hne => by unfold e2; rw [if_neg hne]) ⟨hx, FrI.rf⟩) (kx_U ?_)
  intro hE1
  have hk9 := eSet_ok hE1
  refine r_iload_n dX8_combine_4 rfl ?_
  refine r_callS1 okX8_requireSet ⟨by decide, by decide⟩ ml_X8_63 (mX8_requireSet (by omega)) (Nat.le_of_ble_eq_true rfl) (Nat.le_of_ble_eq_true rfl) (Nat.le_of_ble_eq_true rfl) rfl dX8_combine_5 (tUY (fun hne => by unfold e2; rw [if_pos hE1, if_neg hne]) ⟨hx, FrI.rf⟩) (kx_U ?_)
  intro hE2
  have hk19 := eSet_ok hE2
  refine r_iload_n dX8_combine_8 rfl ?_
  refine r_callS1 okX8_requireSet ⟨by decide, by decide⟩ ml_X8_63 (mX8_requireSet (by omega)) (Nat.le_of_ble_eq_true rfl) (Nat.le_of_ble_eq_true rfl) (Nat.le_of_ble_eq_true rfl) rfl dX8_combine_9 (tUY (fun hne => by unfold e2; rw [if_pos hE1, if_pos hE2, if_neg hne]) ⟨hx, FrI.rf⟩) (kx_U ?_)
  intro hE3
  have hk29 := eSet_ok hE3
  refine r_iload dX8_combine_12 rfl ?_
  refine r_if_lt (tgt := 27) dX8_combine_14 (by decide) (by omega) (fun h14 => ?_) (fun h14 => ?_)
  ·
    refine r_iconst dX8_combine_27 ?_
    refine r_callS1 okX8_requireArgument ⟨by decide, by decide⟩ ml_X8_96 (mX8_requireArgument (b := 0 ≤ how ∧ how ≤ 3) (by first | (rw [if_pos (by omega)]; done) | (rw [if_neg (by omega)]; done))) (Nat.le_of_ble_eq_true rfl) (Nat.le_of_ble_eq_true rfl) (Nat.le_of_ble_eq_true rfl) rfl dX8_combine_28 (tUY (fun hne => by unfold e2; rw [if_pos hE1, if_pos hE2, if_pos hE3, if_neg hne]) ⟨hx, FrI.rf⟩) (kx_U ?_)
    intro hE4
    have hq9 := eA_ok hE4
    refine r_aload_n dX8_combine_31 rfl ?_
    refine r_getfield clX8 6 (by decide) fl_X8_56 (by first | assumption | exact up_s _ _ _ | exact (up_n _ (by assumption)).trans (by assumption) | exact (up_n _ (by assumption)).trans (up_s _ _ _) | exact (up_n _ (by assumption)).trans ((up_n _ (by assumption)).trans (by assumption))) rfl dX8_combine_32 ?_
    refine r_aload_n dX8_combine_35 rfl ?_
    refine r_getfield clX8 0 (by decide) fl_X8_10 (by first | assumption | exact up_s _ _ _ | exact (up_n _ (by assumption)).trans (by assumption) | exact (up_n _ (by assumption)).trans (up_s _ _ _) | exact (up_n _ (by assumption)).trans ((up_n _ (by assumption)).trans (by assumption))) rfl dX8_combine_36 ?_
    refine r_iload_n dX8_combine_39 rfl ?_
    refine r_callV1 okX7_members ⟨by decide, by decide⟩ ml_X8_69 (mX7_members hst (k := k1) (by omega) (by omega)) (by first | assumption | exact up_s _ _ _ | exact (up_n _ (by assumption)).trans (by assumption) | exact (up_n _ (by assumption)).trans (up_s _ _ _) | exact (up_n _ (by assumption)).trans ((up_n _ (by assumption)).trans (by assumption))) rfl rfl (Nat.le_of_ble_eq_true rfl) (Nat.le_of_ble_eq_true rfl) (Nat.le_of_ble_eq_true rfl) rfl dX8_combine_40 (nx_A) (kx_A ?_)
    refine r_aload_n dX8_combine_43 rfl ?_
    refine r_getfield clX8 0 (by decide) fl_X8_10 (by first | assumption | exact up_s _ _ _ | exact (up_n _ (by assumption)).trans (by assumption) | exact (up_n _ (by assumption)).trans (up_s _ _ _) | exact (up_n _ (by assumption)).trans ((up_n _ (by assumption)).trans (by assumption))) rfl dX8_combine_44 ?_
    refine r_iload_n dX8_combine_47 rfl ?_
    refine r_callV1 okX7_members ⟨by decide, by decide⟩ ml_X8_69 (mX7_members hst (k := k2) (by omega) (by omega)) (by first | assumption | exact up_s _ _ _ | exact (up_n _ (by assumption)).trans (by assumption) | exact (up_n _ (by assumption)).trans (up_s _ _ _) | exact (up_n _ (by assumption)).trans ((up_n _ (by assumption)).trans (by assumption))) rfl rfl (Nat.le_of_ble_eq_true rfl) (Nat.le_of_ble_eq_true rfl) (Nat.le_of_ble_eq_true rfl) rfl dX8_combine_48 (nx_A) (kx_A ?_)
    refine r_iload dX8_combine_51 rfl ?_
    refine r_callS4 okX8_joinInto ⟨by decide, by decide⟩ ml_X8_112 (mX8_joinInto htr (hst.mb (k := k1) (by omega) (by omega)) (hst.mb (k := k2) (by omega) (by omega)) ⟨hi.ne ⟨by omega, by omega⟩ ⟨by omega, by omega⟩ (by omega), hi.ne ⟨by omega, by omega⟩ ⟨by omega, by omega⟩ (by omega), hi.ne ⟨by omega, by omega⟩ ⟨by omega, by omega⟩ (by omega), hi.ne ⟨by omega, by omega⟩ ⟨by omega, by omega⟩ (by omega)⟩ ⟨hi.ne ⟨by omega, by omega⟩ ⟨by omega, by omega⟩ (by omega), hi.ne ⟨by omega, by omega⟩ ⟨by omega, by omega⟩ (by omega), hi.ne ⟨by omega, by omega⟩ ⟨by omega, by omega⟩ (by omega), hi.ne ⟨by omega, by omega⟩ ⟨by omega, by omega⟩ (by omega)⟩ (by omega)) (Nat.le_of_ble_eq_true rfl) (Nat.le_of_ble_eq_true rfl) (Nat.le_of_ble_eq_true rfl) rfl dX8_combine_53 (nx_tV) (kx_tV ?_)
    intro M1 hM1
    have hx1 := hx.goT hi hM1.1 hM1.2
    obtain ⟨h00, hst, hhs, hbf, hpw, hbw, hmw, ⟨tn, tF, htr⟩, ⟨wn, wF, hwi⟩⟩ := id hx1.1
    change StP _ ad 1 n F g at hst
    have hob1 := hst.1
    obtain ⟨hh_1, hh_2, hh_3, hh_4, hh_5, hho, -⟩ := id hhs
    have hob94 := hbf.1
    obtain ⟨⟨y1, y2, y3, y4, y5, y6, hob96⟩, -, -⟩ := id hpw
    obtain ⟨z1, z2, z3, hob99, -⟩ := id hbw
    obtain ⟨⟨u1, hob101⟩, -, -⟩ := id hmw
    have hob108 := htr.1
    have hob110 := hwi.1
    have htq := hM1.1
    have hob108 := htq.1
    have htn := htq.n0
    refine r_aload_n dX8_combine_56 rfl ?_
    refine r_getfield clX8 6 (by decide) fl_X8_56 (by first | assumption | exact up_s _ _ _ | exact (up_n _ (by assumption)).trans (by assumption) | exact (up_n _ (by assumption)).trans (up_s _ _ _) | exact (up_n _ (by assumption)).trans ((up_n _ (by assumption)).trans (by assumption))) rfl dX8_combine_57 ?_
    refine r_callV0 okX5_amount ⟨by decide, by decide⟩ ml_X8_77 (mX5_amount htq) (by first | assumption | exact up_s _ _ _ | exact (up_n _ (by assumption)).trans (by assumption) | exact (up_n _ (by assumption)).trans (up_s _ _ _) | exact (up_n _ (by assumption)).trans ((up_n _ (by assumption)).trans (by assumption))) rfl rfl (Nat.le_of_ble_eq_true rfl) (Nat.le_of_ble_eq_true rfl) (Nat.le_of_ble_eq_true rfl) rfl dX8_combine_60 (nx_I) (kx_I ?_)
    refine r_bipush dX8_combine_63 (by decide) ?_
    refine r_icmp_gt (tgt := 72) dX8_combine_65 (by decide) (by omega) (by omega) (fun h65 => ?_) (fun h65 => ?_)
    ·
      refine r_iconst dX8_combine_72 ?_
      refine r_callS1 okX8_requireState ⟨by decide, by decide⟩ ml_X8_81 (mX8_requireState (b := (jnF (n k1) (F k1) (n k2) (F k2) how).1 ≤ 60) (by first | (rw [if_pos (by omega)]; done) | (rw [if_neg (by omega)]; done))) (Nat.le_of_ble_eq_true rfl) (Nat.le_of_ble_eq_true rfl) (Nat.le_of_ble_eq_true rfl) rfl dX8_combine_73 (tUY (fun hne => by unfold e2; rw [if_pos hE1, if_pos hE2, if_pos hE3, if_pos hE4]) hx1) (kx_U ?_)
      intro hE5
      have hs9 := eS_ok hE5
      refine r_aload_n dX8_combine_76 rfl ?_
      refine r_getfield clX8 1 (by decide) fl_X8_19 (by first | assumption | exact up_s _ _ _ | exact (up_n _ (by assumption)).trans (by assumption) | exact (up_n _ (by assumption)).trans (up_s _ _ _) | exact (up_n _ (by assumption)).trans ((up_n _ (by assumption)).trans (by assumption))) rfl dX8_combine_77 ?_
      refine r_aload_n dX8_combine_80 rfl ?_
      refine r_getfield clX8 0 (by decide) fl_X8_10 (by first | assumption | exact up_s _ _ _ | exact (up_n _ (by assumption)).trans (by assumption) | exact (up_n _ (by assumption)).trans (up_s _ _ _) | exact (up_n _ (by assumption)).trans ((up_n _ (by assumption)).trans (by assumption))) rfl dX8_combine_81 ?_
      refine r_callV1 okX2_save ⟨by decide, by decide⟩ ml_X8_85 (mX2_save (s := 0) (σ := (n, F, g)) hhs hst hi) (by first | assumption | exact up_s _ _ _ | exact (up_n _ (by assumption)).trans (by assumption) | exact (up_n _ (by assumption)).trans (up_s _ _ _) | exact (up_n _ (by assumption)).trans ((up_n _ (by assumption)).trans (by assumption))) rfl rfl (Nat.le_of_ble_eq_true rfl) (Nat.le_of_ble_eq_true rfl) (Nat.le_of_ble_eq_true rfl) rfl dX8_combine_84 (nx_tV) (kx_tV ?_)
      intro M2 hM2
      have hx2 := hx1.1.sav hi hM2.1 hM2.2
      have htq2 := htq.frame (hM2.2.at hi ⟨by omega, by omega⟩ ⟨by omega, by omega⟩ (by omega)) (hM2.2.at hi ⟨by omega, by omega⟩ ⟨by omega, by omega⟩ (by omega))
      obtain ⟨h00, hst, hhs, hbf, hpw, hbw, hmw, ⟨tn, tF, htr⟩, ⟨wn, wF, hwi⟩⟩ := id hx2.1
      change StP _ ad 1 n F g at hst
      have hob1 := hst.1
      obtain ⟨hh_1, hh_2, hh_3, hh_4, hh_5, hho, -⟩ := id hhs
      have hob94 := hbf.1
      obtain ⟨⟨y1, y2, y3, y4, y5, y6, hob96⟩, -, -⟩ := id hpw
      obtain ⟨z1, z2, z3, hob99, -⟩ := id hbw
      obtain ⟨⟨u1, hob101⟩, -, -⟩ := id hmw
      have hob108 := htr.1
      have hob110 := hwi.1
      have hmk := hst.mb (k := k) (by omega) (by omega)
      have hmo := hmk.1
      have hmn : 0 ≤ n (k) ∧ n (k) ≤ 60 := by have h60 := hmk.2.2.2.1; have h59 := hmk.2.2.1; omega
      have hob108 := htq2.1
      refine r_aload_n dX8_combine_87 rfl ?_
      refine r_getfield clX8 0 (by decide) fl_X8_10 (by first | assumption | exact up_s _ _ _ | exact (up_n _ (by assumption)).trans (by assumption) | exact (up_n _ (by assumption)).trans (up_s _ _ _) | exact (up_n _ (by assumption)).trans ((up_n _ (by assumption)).trans (by assumption))) rfl dX8_combine_88 ?_
      refine r_iload_n dX8_combine_91 rfl ?_
      refine r_callV1 okX7_members ⟨by decide, by decide⟩ ml_X8_69 (mX7_members hst (k := k) (by omega) (by omega)) (by first | assumption | exact up_s _ _ _ | exact (up_n _ (by assumption)).trans (by assumption) | exact (up_n _ (by assumption)).trans (up_s _ _ _) | exact (up_n _ (by assumption)).trans ((up_n _ (by assumption)).trans (by assumption))) rfl rfl (Nat.le_of_ble_eq_true rfl) (Nat.le_of_ble_eq_true rfl) (Nat.le_of_ble_eq_true rfl) rfl dX8_combine_92 (nx_A) (kx_A ?_)
      refine r_aload_n dX8_combine_95 rfl ?_
      refine r_getfield clX8 6 (by decide) fl_X8_56 (by first | assumption | exact up_s _ _ _ | exact (up_n _ (by assumption)).trans (by assumption) | exact (up_n _ (by assumption)).trans (up_s _ _ _) | exact (up_n _ (by assumption)).trans ((up_n _ (by assumption)).trans (by assumption))) rfl dX8_combine_96 ?_
      refine r_callV1 okX5_copyFrom ⟨by decide, by decide⟩ ml_X8_116 (mX5_copyFrom hmk htq2 ⟨hi.ne ⟨by omega, by omega⟩ ⟨by omega, by omega⟩ (by omega), hi.ne ⟨by omega, by omega⟩ ⟨by omega, by omega⟩ (by omega), hi.ne ⟨by omega, by omega⟩ ⟨by omega, by omega⟩ (by omega), hi.ne ⟨by omega, by omega⟩ ⟨by omega, by omega⟩ (by omega)⟩ (by omega)) (by first | assumption | exact up_s _ _ _ | exact (up_n _ (by assumption)).trans (by assumption) | exact (up_n _ (by assumption)).trans (up_s _ _ _) | exact (up_n _ (by assumption)).trans ((up_n _ (by assumption)).trans (by assumption))) rfl rfl (Nat.le_of_ble_eq_true rfl) (Nat.le_of_ble_eq_true rfl) (Nat.le_of_ble_eq_true rfl) rfl dX8_combine_99 (nx_tV) (kx_tV ?_)
      intro M3 hM3
      have hx3 := hx2.1.goK hi (by omega) (by omega) hM3.1 hM3.2
      have hmo := hM3.1.1
      have htq3 := htq2.frame (hM3.2.at hi ⟨by omega, by omega⟩ ⟨by omega, by omega⟩ ⟨by omega, by omega⟩ ⟨by omega, by omega⟩) (hM3.2.at hi ⟨by omega, by omega⟩ ⟨by omega, by omega⟩ ⟨by omega, by omega⟩ ⟨by omega, by omega⟩)
      have hob108 := htq3.1
      have h003 := hx3.1.1
      refine r_aload_n dX8_combine_102 rfl ?_
      refine r_getfield clX8 6 (by decide) fl_X8_56 (by first | assumption | exact up_s _ _ _ | exact (up_n _ (by assumption)).trans (by assumption) | exact (up_n _ (by assumption)).trans (up_s _ _ _) | exact (up_n _ (by assumption)).trans ((up_n _ (by assumption)).trans (by assumption))) rfl dX8_combine_103 ?_
      refine r_callV0 okX5_amount ⟨by decide, by decide⟩ ml_X8_77 (mX5_amount htq3) (by first | assumption | exact up_s _ _ _ | exact (up_n _ (by assumption)).trans (by assumption) | exact (up_n _ (by assumption)).trans (up_s _ _ _) | exact (up_n _ (by assumption)).trans ((up_n _ (by assumption)).trans (by assumption))) rfl rfl (Nat.le_of_ble_eq_true rfl) (Nat.le_of_ble_eq_true rfl) (Nat.le_of_ble_eq_true rfl) rfl dX8_combine_106 (nx_I) (kx_I ?_)
      refine e_ireturn dX8_combine_109 rfl (Nat.le_of_ble_eq_true rfl) (Nat.le_of_ble_eq_true rfl) ?_
      exact okUY (by unfold e2; rw [if_pos hE1, if_pos hE2, if_pos hE3, if_pos hE4]; exact hE5) rfl ⟨hx3.1, hx1.2.trans (hx2.2.trans hx3.2)⟩
    ·
      refine r_iconst dX8_combine_68 ?_
      refine r_goto (tgt := 73) dX8_combine_69 (by decide) ?_
      refine r_callS1 okX8_requireState ⟨by decide, by decide⟩ ml_X8_81 (mX8_requireState (b := (jnF (n k1) (F k1) (n k2) (F k2) how).1 ≤ 60) (by first | (rw [if_pos (by omega)]; done) | (rw [if_neg (by omega)]; done))) (Nat.le_of_ble_eq_true rfl) (Nat.le_of_ble_eq_true rfl) (Nat.le_of_ble_eq_true rfl) rfl dX8_combine_73 (tUY (fun hne => by unfold e2; rw [if_pos hE1, if_pos hE2, if_pos hE3, if_pos hE4]) hx1) (kx_U ?_)
      intro hE5
      have hs9 := eS_ok hE5
      refine r_aload_n dX8_combine_76 rfl ?_
      refine r_getfield clX8 1 (by decide) fl_X8_19 (by first | assumption | exact up_s _ _ _ | exact (up_n _ (by assumption)).trans (by assumption) | exact (up_n _ (by assumption)).trans (up_s _ _ _) | exact (up_n _ (by assumption)).trans ((up_n _ (by assumption)).trans (by assumption))) rfl dX8_combine_77 ?_
      refine r_aload_n dX8_combine_80 rfl ?_
      refine r_getfield clX8 0 (by decide) fl_X8_10 (by first | assumption | exact up_s _ _ _ | exact (up_n _ (by assumption)).trans (by assumption) | exact (up_n _ (by assumption)).trans (up_s _ _ _) | exact (up_n _ (by assumption)).trans ((up_n _ (by assumption)).trans (by assumption))) rfl dX8_combine_81 ?_
      refine r_callV1 okX2_save ⟨by decide, by decide⟩ ml_X8_85 (mX2_save (s := 0) (σ := (n, F, g)) hhs hst hi) (by first | assumption | exact up_s _ _ _ | exact (up_n _ (by assumption)).trans (by assumption) | exact (up_n _ (by assumption)).trans (up_s _ _ _) | exact (up_n _ (by assumption)).trans ((up_n _ (by assumption)).trans (by assumption))) rfl rfl (Nat.le_of_ble_eq_true rfl) (Nat.le_of_ble_eq_true rfl) (Nat.le_of_ble_eq_true rfl) rfl dX8_combine_84 (nx_tV) (kx_tV ?_)
      intro M2 hM2
      have hx2 := hx1.1.sav hi hM2.1 hM2.2
      have htq2 := htq.frame (hM2.2.at hi ⟨by omega, by omega⟩ ⟨by omega, by omega⟩ (by omega)) (hM2.2.at hi ⟨by omega, by omega⟩ ⟨by omega, by omega⟩ (by omega))
      obtain ⟨h00, hst, hhs, hbf, hpw, hbw, hmw, ⟨tn, tF, htr⟩, ⟨wn, wF, hwi⟩⟩ := id hx2.1
      change StP _ ad 1 n F g at hst
      have hob1 := hst.1
      obtain ⟨hh_1, hh_2, hh_3, hh_4, hh_5, hho, -⟩ := id hhs
      have hob94 := hbf.1
      obtain ⟨⟨y1, y2, y3, y4, y5, y6, hob96⟩, -, -⟩ := id hpw
      obtain ⟨z1, z2, z3, hob99, -⟩ := id hbw
      obtain ⟨⟨u1, hob101⟩, -, -⟩ := id hmw
      have hob108 := htr.1
      have hob110 := hwi.1
      have hmk := hst.mb (k := k) (by omega) (by omega)
      have hmo := hmk.1
      have hmn : 0 ≤ n (k) ∧ n (k) ≤ 60 := by have h60 := hmk.2.2.2.1; have h59 := hmk.2.2.1; omega
      have hob108 := htq2.1
      refine r_aload_n dX8_combine_87 rfl ?_
      refine r_getfield clX8 0 (by decide) fl_X8_10 (by first | assumption | exact up_s _ _ _ | exact (up_n _ (by assumption)).trans (by assumption) | exact (up_n _ (by assumption)).trans (up_s _ _ _) | exact (up_n _ (by assumption)).trans ((up_n _ (by assumption)).trans (by assumption))) rfl dX8_combine_88 ?_
      refine r_iload_n dX8_combine_91 rfl ?_
      refine r_callV1 okX7_members ⟨by decide, by decide⟩ ml_X8_69 (mX7_members hst (k := k) (by omega) (by omega)) (by first | assumption | exact up_s _ _ _ | exact (up_n _ (by assumption)).trans (by assumption) | exact (up_n _ (by assumption)).trans (up_s _ _ _) | exact (up_n _ (by assumption)).trans ((up_n _ (by assumption)).trans (by assumption))) rfl rfl (Nat.le_of_ble_eq_true rfl) (Nat.le_of_ble_eq_true rfl) (Nat.le_of_ble_eq_true rfl) rfl dX8_combine_92 (nx_A) (kx_A ?_)
      refine r_aload_n dX8_combine_95 rfl ?_
      refine r_getfield clX8 6 (by decide) fl_X8_56 (by first | assumption | exact up_s _ _ _ | exact (up_n _ (by assumption)).trans (by assumption) | exact (up_n _ (by assumption)).trans (up_s _ _ _) | exact (up_n _ (by assumption)).trans ((up_n _ (by assumption)).trans (by assumption))) rfl dX8_combine_96 ?_
      refine r_callV1 okX5_copyFrom ⟨by decide, by decide⟩ ml_X8_116 (mX5_copyFrom hmk htq2 ⟨hi.ne ⟨by omega, by omega⟩ ⟨by omega, by omega⟩ (by omega), hi.ne ⟨by omega, by omega⟩ ⟨by omega, by omega⟩ (by omega), hi.ne ⟨by omega, by omega⟩ ⟨by omega, by omega⟩ (by omega), hi.ne ⟨by omega, by omega⟩ ⟨by omega, by omega⟩ (by omega)⟩ (by omega)) (by first | assumption | exact up_s _ _ _ | exact (up_n _ (by assumption)).trans (by assumption) | exact (up_n _ (by assumption)).trans (up_s _ _ _) | exact (up_n _ (by assumption)).trans ((up_n _ (by assumption)).trans (by assumption))) rfl rfl (Nat.le_of_ble_eq_true rfl) (Nat.le_of_ble_eq_true rfl) (Nat.le_of_ble_eq_true rfl) rfl dX8_combine_99 (nx_tV) (kx_tV ?_)
      intro M3 hM3
      have hx3 := hx2.1.goK hi (by omega) (by omega) hM3.1 hM3.2
      have hmo := hM3.1.1
      have htq3 := htq2.frame (hM3.2.at hi ⟨by omega, by omega⟩ ⟨by omega, by omega⟩ ⟨by omega, by omega⟩ ⟨by omega, by omega⟩) (hM3.2.at hi ⟨by omega, by omega⟩ ⟨by omega, by omega⟩ ⟨by omega, by omega⟩ ⟨by omega, by omega⟩)
      have hob108 := htq3.1
      have h003 := hx3.1.1
      refine r_aload_n dX8_combine_102 rfl ?_
      refine r_getfield clX8 6 (by decide) fl_X8_56 (by first | assumption | exact up_s _ _ _ | exact (up_n _ (by assumption)).trans (by assumption) | exact (up_n _ (by assumption)).trans (up_s _ _ _) | exact (up_n _ (by assumption)).trans ((up_n _ (by assumption)).trans (by assumption))) rfl dX8_combine_103 ?_
      refine r_callV0 okX5_amount ⟨by decide, by decide⟩ ml_X8_77 (mX5_amount htq3) (by first | assumption | exact up_s _ _ _ | exact (up_n _ (by assumption)).trans (by assumption) | exact (up_n _ (by assumption)).trans (up_s _ _ _) | exact (up_n _ (by assumption)).trans ((up_n _ (by assumption)).trans (by assumption))) rfl rfl (Nat.le_of_ble_eq_true rfl) (Nat.le_of_ble_eq_true rfl) (Nat.le_of_ble_eq_true rfl) rfl dX8_combine_106 (nx_I) (kx_I ?_)
      refine e_ireturn dX8_combine_109 rfl (Nat.le_of_ble_eq_true rfl) (Nat.le_of_ble_eq_true rfl) ?_
      exact okUY (by unfold e2; rw [if_pos hE1, if_pos hE2, if_pos hE3, if_pos hE4]; exact hE5) rfl ⟨hx3.1, hx1.2.trans (hx2.2.trans hx3.2)⟩
  ·
    refine r_iload dX8_combine_17 rfl ?_
    refine r_iconst dX8_combine_19 ?_
    refine r_icmp_gt (tgt := 27) dX8_combine_20 (by decide) (by omega) (by omega) (fun h20 => ?_) (fun h20 => ?_)
    ·
      refine r_iconst dX8_combine_27 ?_
      refine r_callS1 okX8_requireArgument ⟨by decide, by decide⟩ ml_X8_96 (mX8_requireArgument (b := 0 ≤ how ∧ how ≤ 3) (by first | (rw [if_pos (by omega)]; done) | (rw [if_neg (by omega)]; done))) (Nat.le_of_ble_eq_true rfl) (Nat.le_of_ble_eq_true rfl) (Nat.le_of_ble_eq_true rfl) rfl dX8_combine_28 (tUY (fun hne => by unfold e2; rw [if_pos hE1, if_pos hE2, if_pos hE3, if_neg hne]) ⟨hx, FrI.rf⟩) (kx_U ?_)
      intro hE4
      have hq9 := eA_ok hE4
      refine r_aload_n dX8_combine_31 rfl ?_
      refine r_getfield clX8 6 (by decide) fl_X8_56 (by first | assumption | exact up_s _ _ _ | exact (up_n _ (by assumption)).trans (by assumption) | exact (up_n _ (by assumption)).trans (up_s _ _ _) | exact (up_n _ (by assumption)).trans ((up_n _ (by assumption)).trans (by assumption))) rfl dX8_combine_32 ?_
      refine r_aload_n dX8_combine_35 rfl ?_
      refine r_getfield clX8 0 (by decide) fl_X8_10 (by first | assumption | exact up_s _ _ _ | exact (up_n _ (by assumption)).trans (by assumption) | exact (up_n _ (by assumption)).trans (up_s _ _ _) | exact (up_n _ (by assumption)).trans ((up_n _ (by assumption)).trans (by assumption))) rfl dX8_combine_36 ?_
      refine r_iload_n dX8_combine_39 rfl ?_
      refine r_callV1 okX7_members ⟨by decide, by decide⟩ ml_X8_69 (mX7_members hst (k := k1) (by omega) (by omega)) (by first | assumption | exact up_s _ _ _ | exact (up_n _ (by assumption)).trans (by assumption) | exact (up_n _ (by assumption)).trans (up_s _ _ _) | exact (up_n _ (by assumption)).trans ((up_n _ (by assumption)).trans (by assumption))) rfl rfl (Nat.le_of_ble_eq_true rfl) (Nat.le_of_ble_eq_true rfl) (Nat.le_of_ble_eq_true rfl) rfl dX8_combine_40 (nx_A) (kx_A ?_)
      refine r_aload_n dX8_combine_43 rfl ?_
      refine r_getfield clX8 0 (by decide) fl_X8_10 (by first | assumption | exact up_s _ _ _ | exact (up_n _ (by assumption)).trans (by assumption) | exact (up_n _ (by assumption)).trans (up_s _ _ _) | exact (up_n _ (by assumption)).trans ((up_n _ (by assumption)).trans (by assumption))) rfl dX8_combine_44 ?_
      refine r_iload_n dX8_combine_47 rfl ?_
      refine r_callV1 okX7_members ⟨by decide, by decide⟩ ml_X8_69 (mX7_members hst (k := k2) (by omega) (by omega)) (by first | assumption | exact up_s _ _ _ | exact (up_n _ (by assumption)).trans (by assumption) | exact (up_n _ (by assumption)).trans (up_s _ _ _) | exact (up_n _ (by assumption)).trans ((up_n _ (by assumption)).trans (by assumption))) rfl rfl (Nat.le_of_ble_eq_true rfl) (Nat.le_of_ble_eq_true rfl) (Nat.le_of_ble_eq_true rfl) rfl dX8_combine_48 (nx_A) (kx_A ?_)
      refine r_iload dX8_combine_51 rfl ?_
      refine r_callS4 okX8_joinInto ⟨by decide, by decide⟩ ml_X8_112 (mX8_joinInto htr (hst.mb (k := k1) (by omega) (by omega)) (hst.mb (k := k2) (by omega) (by omega)) ⟨hi.ne ⟨by omega, by omega⟩ ⟨by omega, by omega⟩ (by omega), hi.ne ⟨by omega, by omega⟩ ⟨by omega, by omega⟩ (by omega), hi.ne ⟨by omega, by omega⟩ ⟨by omega, by omega⟩ (by omega), hi.ne ⟨by omega, by omega⟩ ⟨by omega, by omega⟩ (by omega)⟩ ⟨hi.ne ⟨by omega, by omega⟩ ⟨by omega, by omega⟩ (by omega), hi.ne ⟨by omega, by omega⟩ ⟨by omega, by omega⟩ (by omega), hi.ne ⟨by omega, by omega⟩ ⟨by omega, by omega⟩ (by omega), hi.ne ⟨by omega, by omega⟩ ⟨by omega, by omega⟩ (by omega)⟩ (by omega)) (Nat.le_of_ble_eq_true rfl) (Nat.le_of_ble_eq_true rfl) (Nat.le_of_ble_eq_true rfl) rfl dX8_combine_53 (nx_tV) (kx_tV ?_)
      intro M1 hM1
      have hx1 := hx.goT hi hM1.1 hM1.2
      obtain ⟨h00, hst, hhs, hbf, hpw, hbw, hmw, ⟨tn, tF, htr⟩, ⟨wn, wF, hwi⟩⟩ := id hx1.1
      change StP _ ad 1 n F g at hst
      have hob1 := hst.1
      obtain ⟨hh_1, hh_2, hh_3, hh_4, hh_5, hho, -⟩ := id hhs
      have hob94 := hbf.1
      obtain ⟨⟨y1, y2, y3, y4, y5, y6, hob96⟩, -, -⟩ := id hpw
      obtain ⟨z1, z2, z3, hob99, -⟩ := id hbw
      obtain ⟨⟨u1, hob101⟩, -, -⟩ := id hmw
      have hob108 := htr.1
      have hob110 := hwi.1
      have htq := hM1.1
      have hob108 := htq.1
      have htn := htq.n0
      refine r_aload_n dX8_combine_56 rfl ?_
      refine r_getfield clX8 6 (by decide) fl_X8_56 (by first | assumption | exact up_s _ _ _ | exact (up_n _ (by assumption)).trans (by assumption) | exact (up_n _ (by assumption)).trans (up_s _ _ _) | exact (up_n _ (by assumption)).trans ((up_n _ (by assumption)).trans (by assumption))) rfl dX8_combine_57 ?_
      refine r_callV0 okX5_amount ⟨by decide, by decide⟩ ml_X8_77 (mX5_amount htq) (by first | assumption | exact up_s _ _ _ | exact (up_n _ (by assumption)).trans (by assumption) | exact (up_n _ (by assumption)).trans (up_s _ _ _) | exact (up_n _ (by assumption)).trans ((up_n _ (by assumption)).trans (by assumption))) rfl rfl (Nat.le_of_ble_eq_true rfl) (Nat.le_of_ble_eq_true rfl) (Nat.le_of_ble_eq_true rfl) rfl dX8_combine_60 (nx_I) (kx_I ?_)
      refine r_bipush dX8_combine_63 (by decide) ?_
      refine r_icmp_gt (tgt := 72) dX8_combine_65 (by decide) (by omega) (by omega) (fun h65 => ?_) (fun h65 => ?_)
      ·
        refine r_iconst dX8_combine_72 ?_
        refine r_callS1 okX8_requireState ⟨by decide, by decide⟩ ml_X8_81 (mX8_requireState (b := (jnF (n k1) (F k1) (n k2) (F k2) how).1 ≤ 60) (by first | (rw [if_pos (by omega)]; done) | (rw [if_neg (by omega)]; done))) (Nat.le_of_ble_eq_true rfl) (Nat.le_of_ble_eq_true rfl) (Nat.le_of_ble_eq_true rfl) rfl dX8_combine_73 (tUY (fun hne => by unfold e2; rw [if_pos hE1, if_pos hE2, if_pos hE3, if_pos hE4]) hx1) (kx_U ?_)
        intro hE5
        have hs9 := eS_ok hE5
        refine r_aload_n dX8_combine_76 rfl ?_
        refine r_getfield clX8 1 (by decide) fl_X8_19 (by first | assumption | exact up_s _ _ _ | exact (up_n _ (by assumption)).trans (by assumption) | exact (up_n _ (by assumption)).trans (up_s _ _ _) | exact (up_n _ (by assumption)).trans ((up_n _ (by assumption)).trans (by assumption))) rfl dX8_combine_77 ?_
        refine r_aload_n dX8_combine_80 rfl ?_
        refine r_getfield clX8 0 (by decide) fl_X8_10 (by first | assumption | exact up_s _ _ _ | exact (up_n _ (by assumption)).trans (by assumption) | exact (up_n _ (by assumption)).trans (up_s _ _ _) | exact (up_n _ (by assumption)).trans ((up_n _ (by assumption)).trans (by assumption))) rfl dX8_combine_81 ?_
        refine r_callV1 okX2_save ⟨by decide, by decide⟩ ml_X8_85 (mX2_save (s := 0) (σ := (n, F, g)) hhs hst hi) (by first | assumption | exact up_s _ _ _ | exact (up_n _ (by assumption)).trans (by assumption) | exact (up_n _ (by assumption)).trans (up_s _ _ _) | exact (up_n _ (by assumption)).trans ((up_n _ (by assumption)).trans (by assumption))) rfl rfl (Nat.le_of_ble_eq_true rfl) (Nat.le_of_ble_eq_true rfl) (Nat.le_of_ble_eq_true rfl) rfl dX8_combine_84 (nx_tV) (kx_tV ?_)
        intro M2 hM2
        have hx2 := hx1.1.sav hi hM2.1 hM2.2
        have htq2 := htq.frame (hM2.2.at hi ⟨by omega, by omega⟩ ⟨by omega, by omega⟩ (by omega)) (hM2.2.at hi ⟨by omega, by omega⟩ ⟨by omega, by omega⟩ (by omega))
        obtain ⟨h00, hst, hhs, hbf, hpw, hbw, hmw, ⟨tn, tF, htr⟩, ⟨wn, wF, hwi⟩⟩ := id hx2.1
        change StP _ ad 1 n F g at hst
        have hob1 := hst.1
        obtain ⟨hh_1, hh_2, hh_3, hh_4, hh_5, hho, -⟩ := id hhs
        have hob94 := hbf.1
        obtain ⟨⟨y1, y2, y3, y4, y5, y6, hob96⟩, -, -⟩ := id hpw
        obtain ⟨z1, z2, z3, hob99, -⟩ := id hbw
        obtain ⟨⟨u1, hob101⟩, -, -⟩ := id hmw
        have hob108 := htr.1
        have hob110 := hwi.1
        have hmk := hst.mb (k := k) (by omega) (by omega)
        have hmo := hmk.1
        have hmn : 0 ≤ n (k) ∧ n (k) ≤ 60 := by have h60 := hmk.2.2.2.1; have h59 := hmk.2.2.1; omega
        have hob108 := htq2.1
        refine r_aload_n dX8_combine_87 rfl ?_
        refine r_getfield clX8 0 (by decide) fl_X8_10 (by first | assumption | exact up_s _ _ _ | exact (up_n _ (by assumption)).trans (by assumption) | exact (up_n _ (by assumption)).trans (up_s _ _ _) | exact (up_n _ (by assumption)).trans ((up_n _ (by assumption)).trans (by assumption))) rfl dX8_combine_88 ?_
        refine r_iload_n dX8_combine_91 rfl ?_
        refine r_callV1 okX7_members ⟨by decide, by decide⟩ ml_X8_69 (mX7_members hst (k := k) (by omega) (by omega)) (by first | assumption | exact up_s _ _ _ | exact (up_n _ (by assumption)).trans (by assumption) | exact (up_n _ (by assumption)).trans (up_s _ _ _) | exact (up_n _ (by assumption)).trans ((up_n _ (by assumption)).trans (by assumption))) rfl rfl (Nat.le_of_ble_eq_true rfl) (Nat.le_of_ble_eq_true rfl) (Nat.le_of_ble_eq_true rfl) rfl dX8_combine_92 (nx_A) (kx_A ?_)
        refine r_aload_n dX8_combine_95 rfl ?_
        refine r_getfield clX8 6 (by decide) fl_X8_56 (by first | assumption | exact up_s _ _ _ | exact (up_n _ (by assumption)).trans (by assumption) | exact (up_n _ (by assumption)).trans (up_s _ _ _) | exact (up_n _ (by assumption)).trans ((up_n _ (by assumption)).trans (by assumption))) rfl dX8_combine_96 ?_
        refine r_callV1 okX5_copyFrom ⟨by decide, by decide⟩ ml_X8_116 (mX5_copyFrom hmk htq2 ⟨hi.ne ⟨by omega, by omega⟩ ⟨by omega, by omega⟩ (by omega), hi.ne ⟨by omega, by omega⟩ ⟨by omega, by omega⟩ (by omega), hi.ne ⟨by omega, by omega⟩ ⟨by omega, by omega⟩ (by omega), hi.ne ⟨by omega, by omega⟩ ⟨by omega, by omega⟩ (by omega)⟩ (by omega)) (by first | assumption | exact up_s _ _ _ | exact (up_n _ (by assumption)).trans (by assumption) | exact (up_n _ (by assumption)).trans (up_s _ _ _) | exact (up_n _ (by assumption)).trans ((up_n _ (by assumption)).trans (by assumption))) rfl rfl (Nat.le_of_ble_eq_true rfl) (Nat.le_of_ble_eq_true rfl) (Nat.le_of_ble_eq_true rfl) rfl dX8_combine_99 (nx_tV) (kx_tV ?_)
        intro M3 hM3
        have hx3 := hx2.1.goK hi (by omega) (by omega) hM3.1 hM3.2
        have hmo := hM3.1.1
        have htq3 := htq2.frame (hM3.2.at hi ⟨by omega, by omega⟩ ⟨by omega, by omega⟩ ⟨by omega, by omega⟩ ⟨by omega, by omega⟩) (hM3.2.at hi ⟨by omega, by omega⟩ ⟨by omega, by omega⟩ ⟨by omega, by omega⟩ ⟨by omega, by omega⟩)
        have hob108 := htq3.1
        have h003 := hx3.1.1
        refine r_aload_n dX8_combine_102 rfl ?_
        refine r_getfield clX8 6 (by decide) fl_X8_56 (by first | assumption | exact up_s _ _ _ | exact (up_n _ (by assumption)).trans (by assumption) | exact (up_n _ (by assumption)).trans (up_s _ _ _) | exact (up_n _ (by assumption)).trans ((up_n _ (by assumption)).trans (by assumption))) rfl dX8_combine_103 ?_
        refine r_callV0 okX5_amount ⟨by decide, by decide⟩ ml_X8_77 (mX5_amount htq3) (by first | assumption | exact up_s _ _ _ | exact (up_n _ (by assumption)).trans (by assumption) | exact (up_n _ (by assumption)).trans (up_s _ _ _) | exact (up_n _ (by assumption)).trans ((up_n _ (by assumption)).trans (by assumption))) rfl rfl (Nat.le_of_ble_eq_true rfl) (Nat.le_of_ble_eq_true rfl) (Nat.le_of_ble_eq_true rfl) rfl dX8_combine_106 (nx_I) (kx_I ?_)
        refine e_ireturn dX8_combine_109 rfl (Nat.le_of_ble_eq_true rfl) (Nat.le_of_ble_eq_true rfl) ?_
        exact okUY (by unfold e2; rw [if_pos hE1, if_pos hE2, if_pos hE3, if_pos hE4]; exact hE5) rfl ⟨hx3.1, hx1.2.trans (hx2.2.trans hx3.2)⟩
      ·
        refine r_iconst dX8_combine_68 ?_
        refine r_goto (tgt := 73) dX8_combine_69 (by decide) ?_
        refine r_callS1 okX8_requireState ⟨by decide, by decide⟩ ml_X8_81 (mX8_requireState (b := (jnF (n k1) (F k1) (n k2) (F k2) how).1 ≤ 60) (by first | (rw [if_pos (by omega)]; done) | (rw [if_neg (by omega)]; done))) (Nat.le_of_ble_eq_true rfl) (Nat.le_of_ble_eq_true rfl) (Nat.le_of_ble_eq_true rfl) rfl dX8_combine_73 (tUY (fun hne => by unfold e2; rw [if_pos hE1, if_pos hE2, if_pos hE3, if_pos hE4]) hx1) (kx_U ?_)
        intro hE5
        have hs9 := eS_ok hE5
        refine r_aload_n dX8_combine_76 rfl ?_
        refine r_getfield clX8 1 (by decide) fl_X8_19 (by first | assumption | exact up_s _ _ _ | exact (up_n _ (by assumption)).trans (by assumption) | exact (up_n _ (by assumption)).trans (up_s _ _ _) | exact (up_n _ (by assumption)).trans ((up_n _ (by assumption)).trans (by assumption))) rfl dX8_combine_77 ?_
        refine r_aload_n dX8_combine_80 rfl ?_
        refine r_getfield clX8 0 (by decide) fl_X8_10 (by first | assumption | exact up_s _ _ _ | exact (up_n _ (by assumption)).trans (by assumption) | exact (up_n _ (by assumption)).trans (up_s _ _ _) | exact (up_n _ (by assumption)).trans ((up_n _ (by assumption)).trans (by assumption))) rfl dX8_combine_81 ?_
        refine r_callV1 okX2_save ⟨by decide, by decide⟩ ml_X8_85 (mX2_save (s := 0) (σ := (n, F, g)) hhs hst hi) (by first | assumption | exact up_s _ _ _ | exact (up_n _ (by assumption)).trans (by assumption) | exact (up_n _ (by assumption)).trans (up_s _ _ _) | exact (up_n _ (by assumption)).trans ((up_n _ (by assumption)).trans (by assumption))) rfl rfl (Nat.le_of_ble_eq_true rfl) (Nat.le_of_ble_eq_true rfl) (Nat.le_of_ble_eq_true rfl) rfl dX8_combine_84 (nx_tV) (kx_tV ?_)
        intro M2 hM2
        have hx2 := hx1.1.sav hi hM2.1 hM2.2
        have htq2 := htq.frame (hM2.2.at hi ⟨by omega, by omega⟩ ⟨by omega, by omega⟩ (by omega)) (hM2.2.at hi ⟨by omega, by omega⟩ ⟨by omega, by omega⟩ (by omega))
        obtain ⟨h00, hst, hhs, hbf, hpw, hbw, hmw, ⟨tn, tF, htr⟩, ⟨wn, wF, hwi⟩⟩ := id hx2.1
        change StP _ ad 1 n F g at hst
        have hob1 := hst.1
        obtain ⟨hh_1, hh_2, hh_3, hh_4, hh_5, hho, -⟩ := id hhs
        have hob94 := hbf.1
        obtain ⟨⟨y1, y2, y3, y4, y5, y6, hob96⟩, -, -⟩ := id hpw
        obtain ⟨z1, z2, z3, hob99, -⟩ := id hbw
        obtain ⟨⟨u1, hob101⟩, -, -⟩ := id hmw
        have hob108 := htr.1
        have hob110 := hwi.1
        have hmk := hst.mb (k := k) (by omega) (by omega)
        have hmo := hmk.1
        have hmn : 0 ≤ n (k) ∧ n (k) ≤ 60 := by have h60 := hmk.2.2.2.1; have h59 := hmk.2.2.1; omega
        have hob108 := htq2.1
        refine r_aload_n dX8_combine_87 rfl ?_
        refine r_getfield clX8 0 (by decide) fl_X8_10 (by first | assumption | exact up_s _ _ _ | exact (up_n _ (by assumption)).trans (by assumption) | exact (up_n _ (by assumption)).trans (up_s _ _ _) | exact (up_n _ (by assumption)).trans ((up_n _ (by assumption)).trans (by assumption))) rfl dX8_combine_88 ?_
        refine r_iload_n dX8_combine_91 rfl ?_
        refine r_callV1 okX7_members ⟨by decide, by decide⟩ ml_X8_69 (mX7_members hst (k := k) (by omega) (by omega)) (by first | assumption | exact up_s _ _ _ | exact (up_n _ (by assumption)).trans (by assumption) | exact (up_n _ (by assumption)).trans (up_s _ _ _) | exact (up_n _ (by assumption)).trans ((up_n _ (by assumption)).trans (by assumption))) rfl rfl (Nat.le_of_ble_eq_true rfl) (Nat.le_of_ble_eq_true rfl) (Nat.le_of_ble_eq_true rfl) rfl dX8_combine_92 (nx_A) (kx_A ?_)
        refine r_aload_n dX8_combine_95 rfl ?_
        refine r_getfield clX8 6 (by decide) fl_X8_56 (by first | assumption | exact up_s _ _ _ | exact (up_n _ (by assumption)).trans (by assumption) | exact (up_n _ (by assumption)).trans (up_s _ _ _) | exact (up_n _ (by assumption)).trans ((up_n _ (by assumption)).trans (by assumption))) rfl dX8_combine_96 ?_
        refine r_callV1 okX5_copyFrom ⟨by decide, by decide⟩ ml_X8_116 (mX5_copyFrom hmk htq2 ⟨hi.ne ⟨by omega, by omega⟩ ⟨by omega, by omega⟩ (by omega), hi.ne ⟨by omega, by omega⟩ ⟨by omega, by omega⟩ (by omega), hi.ne ⟨by omega, by omega⟩ ⟨by omega, by omega⟩ (by omega), hi.ne ⟨by omega, by omega⟩ ⟨by omega, by omega⟩ (by omega)⟩ (by omega)) (by first | assumption | exact up_s _ _ _ | exact (up_n _ (by assumption)).trans (by assumption) | exact (up_n _ (by assumption)).trans (up_s _ _ _) | exact (up_n _ (by assumption)).trans ((up_n _ (by assumption)).trans (by assumption))) rfl rfl (Nat.le_of_ble_eq_true rfl) (Nat.le_of_ble_eq_true rfl) (Nat.le_of_ble_eq_true rfl) rfl dX8_combine_99 (nx_tV) (kx_tV ?_)
        intro M3 hM3
        have hx3 := hx2.1.goK hi (by omega) (by omega) hM3.1 hM3.2
        have hmo := hM3.1.1
        have htq3 := htq2.frame (hM3.2.at hi ⟨by omega, by omega⟩ ⟨by omega, by omega⟩ ⟨by omega, by omega⟩ ⟨by omega, by omega⟩) (hM3.2.at hi ⟨by omega, by omega⟩ ⟨by omega, by omega⟩ ⟨by omega, by omega⟩ ⟨by omega, by omega⟩)
        have hob108 := htq3.1
        have h003 := hx3.1.1
        refine r_aload_n dX8_combine_102 rfl ?_
        refine r_getfield clX8 6 (by decide) fl_X8_56 (by first | assumption | exact up_s _ _ _ | exact (up_n _ (by assumption)).trans (by assumption) | exact (up_n _ (by assumption)).trans (up_s _ _ _) | exact (up_n _ (by assumption)).trans ((up_n _ (by assumption)).trans (by assumption))) rfl dX8_combine_103 ?_
        refine r_callV0 okX5_amount ⟨by decide, by decide⟩ ml_X8_77 (mX5_amount htq3) (by first | assumption | exact up_s _ _ _ | exact (up_n _ (by assumption)).trans (by assumption) | exact (up_n _ (by assumption)).trans (up_s _ _ _) | exact (up_n _ (by assumption)).trans ((up_n _ (by assumption)).trans (by assumption))) rfl rfl (Nat.le_of_ble_eq_true rfl) (Nat.le_of_ble_eq_true rfl) (Nat.le_of_ble_eq_true rfl) rfl dX8_combine_106 (nx_I) (kx_I ?_)
        refine e_ireturn dX8_combine_109 rfl (Nat.le_of_ble_eq_true rfl) (Nat.le_of_ble_eq_true rfl) ?_
        exact okUY (by unfold e2; rw [if_pos hE1, if_pos hE2, if_pos hE3, if_pos hE4]; exact hE5) rfl ⟨hx3.1, hx1.2.trans (hx2.2.trans hx3.2)⟩
    ·
      refine r_iconst dX8_combine_23 ?_
      refine r_goto (tgt := 28) dX8_combine_24 (by decide) ?_
      refine r_callS1 okX8_requireArgument ⟨by decide, by decide⟩ ml_X8_96 (mX8_requireArgument (b := 0 ≤ how ∧ how ≤ 3) (by first | (rw [if_pos (by omega)]; done) | (rw [if_neg (by omega)]; done))) (Nat.le_of_ble_eq_true rfl) (Nat.le_of_ble_eq_true rfl) (Nat.le_of_ble_eq_true rfl) rfl dX8_combine_28 (tUY (fun hne => by unfold e2; rw [if_pos hE1, if_pos hE2, if_pos hE3, if_neg hne]) ⟨hx, FrI.rf⟩) (kx_U ?_)
      intro hE4
      have hq9 := eA_ok hE4
      refine r_aload_n dX8_combine_31 rfl ?_
      refine r_getfield clX8 6 (by decide) fl_X8_56 (by first | assumption | exact up_s _ _ _ | exact (up_n _ (by assumption)).trans (by assumption) | exact (up_n _ (by assumption)).trans (up_s _ _ _) | exact (up_n _ (by assumption)).trans ((up_n _ (by assumption)).trans (by assumption))) rfl dX8_combine_32 ?_
      refine r_aload_n dX8_combine_35 rfl ?_
      refine r_getfield clX8 0 (by decide) fl_X8_10 (by first | assumption | exact up_s _ _ _ | exact (up_n _ (by assumption)).trans (by assumption) | exact (up_n _ (by assumption)).trans (up_s _ _ _) | exact (up_n _ (by assumption)).trans ((up_n _ (by assumption)).trans (by assumption))) rfl dX8_combine_36 ?_
      refine r_iload_n dX8_combine_39 rfl ?_
      refine r_callV1 okX7_members ⟨by decide, by decide⟩ ml_X8_69 (mX7_members hst (k := k1) (by omega) (by omega)) (by first | assumption | exact up_s _ _ _ | exact (up_n _ (by assumption)).trans (by assumption) | exact (up_n _ (by assumption)).trans (up_s _ _ _) | exact (up_n _ (by assumption)).trans ((up_n _ (by assumption)).trans (by assumption))) rfl rfl (Nat.le_of_ble_eq_true rfl) (Nat.le_of_ble_eq_true rfl) (Nat.le_of_ble_eq_true rfl) rfl dX8_combine_40 (nx_A) (kx_A ?_)
      refine r_aload_n dX8_combine_43 rfl ?_
      refine r_getfield clX8 0 (by decide) fl_X8_10 (by first | assumption | exact up_s _ _ _ | exact (up_n _ (by assumption)).trans (by assumption) | exact (up_n _ (by assumption)).trans (up_s _ _ _) | exact (up_n _ (by assumption)).trans ((up_n _ (by assumption)).trans (by assumption))) rfl dX8_combine_44 ?_
      refine r_iload_n dX8_combine_47 rfl ?_
      refine r_callV1 okX7_members ⟨by decide, by decide⟩ ml_X8_69 (mX7_members hst (k := k2) (by omega) (by omega)) (by first | assumption | exact up_s _ _ _ | exact (up_n _ (by assumption)).trans (by assumption) | exact (up_n _ (by assumption)).trans (up_s _ _ _) | exact (up_n _ (by assumption)).trans ((up_n _ (by assumption)).trans (by assumption))) rfl rfl (Nat.le_of_ble_eq_true rfl) (Nat.le_of_ble_eq_true rfl) (Nat.le_of_ble_eq_true rfl) rfl dX8_combine_48 (nx_A) (kx_A ?_)
      refine r_iload dX8_combine_51 rfl ?_
      refine r_callS4 okX8_joinInto ⟨by decide, by decide⟩ ml_X8_112 (mX8_joinInto htr (hst.mb (k := k1) (by omega) (by omega)) (hst.mb (k := k2) (by omega) (by omega)) ⟨hi.ne ⟨by omega, by omega⟩ ⟨by omega, by omega⟩ (by omega), hi.ne ⟨by omega, by omega⟩ ⟨by omega, by omega⟩ (by omega), hi.ne ⟨by omega, by omega⟩ ⟨by omega, by omega⟩ (by omega), hi.ne ⟨by omega, by omega⟩ ⟨by omega, by omega⟩ (by omega)⟩ ⟨hi.ne ⟨by omega, by omega⟩ ⟨by omega, by omega⟩ (by omega), hi.ne ⟨by omega, by omega⟩ ⟨by omega, by omega⟩ (by omega), hi.ne ⟨by omega, by omega⟩ ⟨by omega, by omega⟩ (by omega), hi.ne ⟨by omega, by omega⟩ ⟨by omega, by omega⟩ (by omega)⟩ (by omega)) (Nat.le_of_ble_eq_true rfl) (Nat.le_of_ble_eq_true rfl) (Nat.le_of_ble_eq_true rfl) rfl dX8_combine_53 (nx_tV) (kx_tV ?_)
      intro M1 hM1
      have hx1 := hx.goT hi hM1.1 hM1.2
      obtain ⟨h00, hst, hhs, hbf, hpw, hbw, hmw, ⟨tn, tF, htr⟩, ⟨wn, wF, hwi⟩⟩ := id hx1.1
      change StP _ ad 1 n F g at hst
      have hob1 := hst.1
      obtain ⟨hh_1, hh_2, hh_3, hh_4, hh_5, hho, -⟩ := id hhs
      have hob94 := hbf.1
      obtain ⟨⟨y1, y2, y3, y4, y5, y6, hob96⟩, -, -⟩ := id hpw
      obtain ⟨z1, z2, z3, hob99, -⟩ := id hbw
      obtain ⟨⟨u1, hob101⟩, -, -⟩ := id hmw
      have hob108 := htr.1
      have hob110 := hwi.1
      have htq := hM1.1
      have hob108 := htq.1
      have htn := htq.n0
      refine r_aload_n dX8_combine_56 rfl ?_
      refine r_getfield clX8 6 (by decide) fl_X8_56 (by first | assumption | exact up_s _ _ _ | exact (up_n _ (by assumption)).trans (by assumption) | exact (up_n _ (by assumption)).trans (up_s _ _ _) | exact (up_n _ (by assumption)).trans ((up_n _ (by assumption)).trans (by assumption))) rfl dX8_combine_57 ?_
      refine r_callV0 okX5_amount ⟨by decide, by decide⟩ ml_X8_77 (mX5_amount htq) (by first | assumption | exact up_s _ _ _ | exact (up_n _ (by assumption)).trans (by assumption) | exact (up_n _ (by assumption)).trans (up_s _ _ _) | exact (up_n _ (by assumption)).trans ((up_n _ (by assumption)).trans (by assumption))) rfl rfl (Nat.le_of_ble_eq_true rfl) (Nat.le_of_ble_eq_true rfl) (Nat.le_of_ble_eq_true rfl) rfl dX8_combine_60 (nx_I) (kx_I ?_)
      refine r_bipush dX8_combine_63 (by decide) ?_
      refine r_icmp_gt (tgt := 72) dX8_combine_65 (by decide) (by omega) (by omega) (fun h65 => ?_) (fun h65 => ?_)
      ·
        refine r_iconst dX8_combine_72 ?_
        refine r_callS1 okX8_requireState ⟨by decide, by decide⟩ ml_X8_81 (mX8_requireState (b := (jnF (n k1) (F k1) (n k2) (F k2) how).1 ≤ 60) (by first | (rw [if_pos (by omega)]; done) | (rw [if_neg (by omega)]; done))) (Nat.le_of_ble_eq_true rfl) (Nat.le_of_ble_eq_true rfl) (Nat.le_of_ble_eq_true rfl) rfl dX8_combine_73 (tUY (fun hne => by unfold e2; rw [if_pos hE1, if_pos hE2, if_pos hE3, if_pos hE4]) hx1) (kx_U ?_)
        intro hE5
        have hs9 := eS_ok hE5
        refine r_aload_n dX8_combine_76 rfl ?_
        refine r_getfield clX8 1 (by decide) fl_X8_19 (by first | assumption | exact up_s _ _ _ | exact (up_n _ (by assumption)).trans (by assumption) | exact (up_n _ (by assumption)).trans (up_s _ _ _) | exact (up_n _ (by assumption)).trans ((up_n _ (by assumption)).trans (by assumption))) rfl dX8_combine_77 ?_
        refine r_aload_n dX8_combine_80 rfl ?_
        refine r_getfield clX8 0 (by decide) fl_X8_10 (by first | assumption | exact up_s _ _ _ | exact (up_n _ (by assumption)).trans (by assumption) | exact (up_n _ (by assumption)).trans (up_s _ _ _) | exact (up_n _ (by assumption)).trans ((up_n _ (by assumption)).trans (by assumption))) rfl dX8_combine_81 ?_
        refine r_callV1 okX2_save ⟨by decide, by decide⟩ ml_X8_85 (mX2_save (s := 0) (σ := (n, F, g)) hhs hst hi) (by first | assumption | exact up_s _ _ _ | exact (up_n _ (by assumption)).trans (by assumption) | exact (up_n _ (by assumption)).trans (up_s _ _ _) | exact (up_n _ (by assumption)).trans ((up_n _ (by assumption)).trans (by assumption))) rfl rfl (Nat.le_of_ble_eq_true rfl) (Nat.le_of_ble_eq_true rfl) (Nat.le_of_ble_eq_true rfl) rfl dX8_combine_84 (nx_tV) (kx_tV ?_)
        intro M2 hM2
        have hx2 := hx1.1.sav hi hM2.1 hM2.2
        have htq2 := htq.frame (hM2.2.at hi ⟨by omega, by omega⟩ ⟨by omega, by omega⟩ (by omega)) (hM2.2.at hi ⟨by omega, by omega⟩ ⟨by omega, by omega⟩ (by omega))
        obtain ⟨h00, hst, hhs, hbf, hpw, hbw, hmw, ⟨tn, tF, htr⟩, ⟨wn, wF, hwi⟩⟩ := id hx2.1
        change StP _ ad 1 n F g at hst
        have hob1 := hst.1
        obtain ⟨hh_1, hh_2, hh_3, hh_4, hh_5, hho, -⟩ := id hhs
        have hob94 := hbf.1
        obtain ⟨⟨y1, y2, y3, y4, y5, y6, hob96⟩, -, -⟩ := id hpw
        obtain ⟨z1, z2, z3, hob99, -⟩ := id hbw
        obtain ⟨⟨u1, hob101⟩, -, -⟩ := id hmw
        have hob108 := htr.1
        have hob110 := hwi.1
        have hmk := hst.mb (k := k) (by omega) (by omega)
        have hmo := hmk.1
        have hmn : 0 ≤ n (k) ∧ n (k) ≤ 60 := by have h60 := hmk.2.2.2.1; have h59 := hmk.2.2.1; omega
        have hob108 := htq2.1
        refine r_aload_n dX8_combine_87 rfl ?_
        refine r_getfield clX8 0 (by decide) fl_X8_10 (by first | assumption | exact up_s _ _ _ | exact (up_n _ (by assumption)).trans (by assumption) | exact (up_n _ (by assumption)).trans (up_s _ _ _) | exact (up_n _ (by assumption)).trans ((up_n _ (by assumption)).trans (by assumption))) rfl dX8_combine_88 ?_
        refine r_iload_n dX8_combine_91 rfl ?_
        refine r_callV1 okX7_members ⟨by decide, by decide⟩ ml_X8_69 (mX7_members hst (k := k) (by omega) (by omega)) (by first | assumption | exact up_s _ _ _ | exact (up_n _ (by assumption)).trans (by assumption) | exact (up_n _ (by assumption)).trans (up_s _ _ _) | exact (up_n _ (by assumption)).trans ((up_n _ (by assumption)).trans (by assumption))) rfl rfl (Nat.le_of_ble_eq_true rfl) (Nat.le_of_ble_eq_true rfl) (Nat.le_of_ble_eq_true rfl) rfl dX8_combine_92 (nx_A) (kx_A ?_)
        refine r_aload_n dX8_combine_95 rfl ?_
        refine r_getfield clX8 6 (by decide) fl_X8_56 (by first | assumption | exact up_s _ _ _ | exact (up_n _ (by assumption)).trans (by assumption) | exact (up_n _ (by assumption)).trans (up_s _ _ _) | exact (up_n _ (by assumption)).trans ((up_n _ (by assumption)).trans (by assumption))) rfl dX8_combine_96 ?_
        refine r_callV1 okX5_copyFrom ⟨by decide, by decide⟩ ml_X8_116 (mX5_copyFrom hmk htq2 ⟨hi.ne ⟨by omega, by omega⟩ ⟨by omega, by omega⟩ (by omega), hi.ne ⟨by omega, by omega⟩ ⟨by omega, by omega⟩ (by omega), hi.ne ⟨by omega, by omega⟩ ⟨by omega, by omega⟩ (by omega), hi.ne ⟨by omega, by omega⟩ ⟨by omega, by omega⟩ (by omega)⟩ (by omega)) (by first | assumption | exact up_s _ _ _ | exact (up_n _ (by assumption)).trans (by assumption) | exact (up_n _ (by assumption)).trans (up_s _ _ _) | exact (up_n _ (by assumption)).trans ((up_n _ (by assumption)).trans (by assumption))) rfl rfl (Nat.le_of_ble_eq_true rfl) (Nat.le_of_ble_eq_true rfl) (Nat.le_of_ble_eq_true rfl) rfl dX8_combine_99 (nx_tV) (kx_tV ?_)
        intro M3 hM3
        have hx3 := hx2.1.goK hi (by omega) (by omega) hM3.1 hM3.2
        have hmo := hM3.1.1
        have htq3 := htq2.frame (hM3.2.at hi ⟨by omega, by omega⟩ ⟨by omega, by omega⟩ ⟨by omega, by omega⟩ ⟨by omega, by omega⟩) (hM3.2.at hi ⟨by omega, by omega⟩ ⟨by omega, by omega⟩ ⟨by omega, by omega⟩ ⟨by omega, by omega⟩)
        have hob108 := htq3.1
        have h003 := hx3.1.1
        refine r_aload_n dX8_combine_102 rfl ?_
        refine r_getfield clX8 6 (by decide) fl_X8_56 (by first | assumption | exact up_s _ _ _ | exact (up_n _ (by assumption)).trans (by assumption) | exact (up_n _ (by assumption)).trans (up_s _ _ _) | exact (up_n _ (by assumption)).trans ((up_n _ (by assumption)).trans (by assumption))) rfl dX8_combine_103 ?_
        refine r_callV0 okX5_amount ⟨by decide, by decide⟩ ml_X8_77 (mX5_amount htq3) (by first | assumption | exact up_s _ _ _ | exact (up_n _ (by assumption)).trans (by assumption) | exact (up_n _ (by assumption)).trans (up_s _ _ _) | exact (up_n _ (by assumption)).trans ((up_n _ (by assumption)).trans (by assumption))) rfl rfl (Nat.le_of_ble_eq_true rfl) (Nat.le_of_ble_eq_true rfl) (Nat.le_of_ble_eq_true rfl) rfl dX8_combine_106 (nx_I) (kx_I ?_)
        refine e_ireturn dX8_combine_109 rfl (Nat.le_of_ble_eq_true rfl) (Nat.le_of_ble_eq_true rfl) ?_
        exact okUY (by unfold e2; rw [if_pos hE1, if_pos hE2, if_pos hE3, if_pos hE4]; exact hE5) rfl ⟨hx3.1, hx1.2.trans (hx2.2.trans hx3.2)⟩
      ·
        refine r_iconst dX8_combine_68 ?_
        refine r_goto (tgt := 73) dX8_combine_69 (by decide) ?_
        refine r_callS1 okX8_requireState ⟨by decide, by decide⟩ ml_X8_81 (mX8_requireState (b := (jnF (n k1) (F k1) (n k2) (F k2) how).1 ≤ 60) (by first | (rw [if_pos (by omega)]; done) | (rw [if_neg (by omega)]; done))) (Nat.le_of_ble_eq_true rfl) (Nat.le_of_ble_eq_true rfl) (Nat.le_of_ble_eq_true rfl) rfl dX8_combine_73 (tUY (fun hne => by unfold e2; rw [if_pos hE1, if_pos hE2, if_pos hE3, if_pos hE4]) hx1) (kx_U ?_)
        intro hE5
        have hs9 := eS_ok hE5
        refine r_aload_n dX8_combine_76 rfl ?_
        refine r_getfield clX8 1 (by decide) fl_X8_19 (by first | assumption | exact up_s _ _ _ | exact (up_n _ (by assumption)).trans (by assumption) | exact (up_n _ (by assumption)).trans (up_s _ _ _) | exact (up_n _ (by assumption)).trans ((up_n _ (by assumption)).trans (by assumption))) rfl dX8_combine_77 ?_
        refine r_aload_n dX8_combine_80 rfl ?_
        refine r_getfield clX8 0 (by decide) fl_X8_10 (by first | assumption | exact up_s _ _ _ | exact (up_n _ (by assumption)).trans (by assumption) | exact (up_n _ (by assumption)).trans (up_s _ _ _) | exact (up_n _ (by assumption)).trans ((up_n _ (by assumption)).trans (by assumption))) rfl dX8_combine_81 ?_
        refine r_callV1 okX2_save ⟨by decide, by decide⟩ ml_X8_85 (mX2_save (s := 0) (σ := (n, F, g)) hhs hst hi) (by first | assumption | exact up_s _ _ _ | exact (up_n _ (by assumption)).trans (by assumption) | exact (up_n _ (by assumption)).trans (up_s _ _ _) | exact (up_n _ (by assumption)).trans ((up_n _ (by assumption)).trans (by assumption))) rfl rfl (Nat.le_of_ble_eq_true rfl) (Nat.le_of_ble_eq_true rfl) (Nat.le_of_ble_eq_true rfl) rfl dX8_combine_84 (nx_tV) (kx_tV ?_)
        intro M2 hM2
        have hx2 := hx1.1.sav hi hM2.1 hM2.2
        have htq2 := htq.frame (hM2.2.at hi ⟨by omega, by omega⟩ ⟨by omega, by omega⟩ (by omega)) (hM2.2.at hi ⟨by omega, by omega⟩ ⟨by omega, by omega⟩ (by omega))
        obtain ⟨h00, hst, hhs, hbf, hpw, hbw, hmw, ⟨tn, tF, htr⟩, ⟨wn, wF, hwi⟩⟩ := id hx2.1
        change StP _ ad 1 n F g at hst
        have hob1 := hst.1
        obtain ⟨hh_1, hh_2, hh_3, hh_4, hh_5, hho, -⟩ := id hhs
        have hob94 := hbf.1
        obtain ⟨⟨y1, y2, y3, y4, y5, y6, hob96⟩, -, -⟩ := id hpw
        obtain ⟨z1, z2, z3, hob99, -⟩ := id hbw
        obtain ⟨⟨u1, hob101⟩, -, -⟩ := id hmw
        have hob108 := htr.1
        have hob110 := hwi.1
        have hmk := hst.mb (k := k) (by omega) (by omega)
        have hmo := hmk.1
        have hmn : 0 ≤ n (k) ∧ n (k) ≤ 60 := by have h60 := hmk.2.2.2.1; have h59 := hmk.2.2.1; omega
        have hob108 := htq2.1
        refine r_aload_n dX8_combine_87 rfl ?_
        refine r_getfield clX8 0 (by decide) fl_X8_10 (by first | assumption | exact up_s _ _ _ | exact (up_n _ (by assumption)).trans (by assumption) | exact (up_n _ (by assumption)).trans (up_s _ _ _) | exact (up_n _ (by assumption)).trans ((up_n _ (by assumption)).trans (by assumption))) rfl dX8_combine_88 ?_
        refine r_iload_n dX8_combine_91 rfl ?_
        refine r_callV1 okX7_members ⟨by decide, by decide⟩ ml_X8_69 (mX7_members hst (k := k) (by omega) (by omega)) (by first | assumption | exact up_s _ _ _ | exact (up_n _ (by assumption)).trans (by assumption) | exact (up_n _ (by assumption)).trans (up_s _ _ _) | exact (up_n _ (by assumption)).trans ((up_n _ (by assumption)).trans (by assumption))) rfl rfl (Nat.le_of_ble_eq_true rfl) (Nat.le_of_ble_eq_true rfl) (Nat.le_of_ble_eq_true rfl) rfl dX8_combine_92 (nx_A) (kx_A ?_)
        refine r_aload_n dX8_combine_95 rfl ?_
        refine r_getfield clX8 6 (by decide) fl_X8_56 (by first | assumption | exact up_s _ _ _ | exact (up_n _ (by assumption)).trans (by assumption) | exact (up_n _ (by assumption)).trans (up_s _ _ _) | exact (up_n _ (by assumption)).trans ((up_n _ (by assumption)).trans (by assumption))) rfl dX8_combine_96 ?_
        refine r_callV1 okX5_copyFrom ⟨by decide, by decide⟩ ml_X8_116 (mX5_copyFrom hmk htq2 ⟨hi.ne ⟨by omega, by omega⟩ ⟨by omega, by omega⟩ (by omega), hi.ne ⟨by omega, by omega⟩ ⟨by omega, by omega⟩ (by omega), hi.ne ⟨by omega, by omega⟩ ⟨by omega, by omega⟩ (by omega), hi.ne ⟨by omega, by omega⟩ ⟨by omega, by omega⟩ (by omega)⟩ (by omega)) (by first | assumption | exact up_s _ _ _ | exact (up_n _ (by assumption)).trans (by assumption) | exact (up_n _ (by assumption)).trans (up_s _ _ _) | exact (up_n _ (by assumption)).trans ((up_n _ (by assumption)).trans (by assumption))) rfl rfl (Nat.le_of_ble_eq_true rfl) (Nat.le_of_ble_eq_true rfl) (Nat.le_of_ble_eq_true rfl) rfl dX8_combine_99 (nx_tV) (kx_tV ?_)
        intro M3 hM3
        have hx3 := hx2.1.goK hi (by omega) (by omega) hM3.1 hM3.2
        have hmo := hM3.1.1
        have htq3 := htq2.frame (hM3.2.at hi ⟨by omega, by omega⟩ ⟨by omega, by omega⟩ ⟨by omega, by omega⟩ ⟨by omega, by omega⟩) (hM3.2.at hi ⟨by omega, by omega⟩ ⟨by omega, by omega⟩ ⟨by omega, by omega⟩ ⟨by omega, by omega⟩)
        have hob108 := htq3.1
        have h003 := hx3.1.1
        refine r_aload_n dX8_combine_102 rfl ?_
        refine r_getfield clX8 6 (by decide) fl_X8_56 (by first | assumption | exact up_s _ _ _ | exact (up_n _ (by assumption)).trans (by assumption) | exact (up_n _ (by assumption)).trans (up_s _ _ _) | exact (up_n _ (by assumption)).trans ((up_n _ (by assumption)).trans (by assumption))) rfl dX8_combine_103 ?_
        refine r_callV0 okX5_amount ⟨by decide, by decide⟩ ml_X8_77 (mX5_amount htq3) (by first | assumption | exact up_s _ _ _ | exact (up_n _ (by assumption)).trans (by assumption) | exact (up_n _ (by assumption)).trans (up_s _ _ _) | exact (up_n _ (by assumption)).trans ((up_n _ (by assumption)).trans (by assumption))) rfl rfl (Nat.le_of_ble_eq_true rfl) (Nat.le_of_ble_eq_true rfl) (Nat.le_of_ble_eq_true rfl) rfl dX8_combine_106 (nx_I) (kx_I ?_)
        refine e_ireturn dX8_combine_109 rfl (Nat.le_of_ble_eq_true rfl) (Nat.le_of_ble_eq_true rfl) ?_
        exact okUY (by unfold e2; rw [if_pos hE1, if_pos hE2, if_pos hE3, if_pos hE4]; exact hE5) rfl ⟨hx3.1, hx1.2.trans (hx2.2.trans hx3.2)⟩

set_option maxHeartbeats 4000000 in
theorem mX8_set {M : Mem} {ad : Int → Nat} {n : Int → Int} {F : Int → Int → Int} {g : Int → Int} {m : Int} {S : Int → Sg3} {len : Int} {c : Int → Int} {k v : Int} (hx : XSt M ad (n, F, g) m S len c) (hv : Vld (n, F, g)) (hi : Inj ad) (q0 : R32 k) (q1 : R32 v) : Ct KX8_set [.ref (ad 0), vI k, vI v] M 6 36 (UX (e2 (eStg k) (eB ((k = 0 ∧ 2 ≤ v ∧ v ≤ 16) ∨ (k ≠ 0 ∧ 1 ≤ v ∧ v ≤ 9999)) xA)) (g k) (fun M2 => XSt M2 ad (n, F, uI g k v) (svM m) (svS m S (n, F, g)) len c ∧ FrI ad 0 112 M M2) M) := by
  refine Ct.of _ (by decide) rfl (Nat.le_of_ble_eq_true rfl) ?_
  obtain ⟨h00, hst, hhs, hbf, hpw, hbw, hmw, ⟨tn, tF, htr⟩, ⟨wn, wF, hwi⟩⟩ := id hx
  obtain ⟨hvs, hv0, hv1, hv2, hv3⟩ := id hv
  change StP _ ad 1 n F g at hst
  dsimp only at hvs hv0 hv1 hv2 hv3
  have hob1 := hst.1
  obtain ⟨hh_1, hh_2, hh_3, hh_4, hh_5, hho, -⟩ := id hhs
  have hob94 := hbf.1
  obtain ⟨⟨y1, y2, y3, y4, y5, y6, hob96⟩, -, -⟩ := id hpw
  obtain ⟨z1, z2, z3, hob99, -⟩ := id hbw
  obtain ⟨⟨u1, hob101⟩, -, -⟩ := id hmw
  have hob108 := htr.1
  have hob110 := hwi.1
  refine r_iload_n dX8_set_0 rfl ?_
  refine r_callS1 okX8_requireSetting ⟨by decide, by decide⟩ ml_X8_120 (mX8_requireSetting (by omega)) (Nat.le_of_ble_eq_true rfl) (Nat.le_of_ble_eq_true rfl) (Nat.le_of_ble_eq_true rfl) rfl dX8_set_1 (tUX (fun hne => by unfold e2; rw [if_neg hne])) (kx_U ?_)
  intro hE1
  have hk9 := eStg_ok hE1
  refine r_iload_n dX8_set_4 rfl ?_
  refine r_if_ne (tgt := 15) dX8_set_5 (by decide) (by omega) (fun h5 => ?_) (fun h5 => ?_)
  ·
    refine r_iload_n dX8_set_15 rfl ?_
    refine r_callS1 okX8_isWidth ⟨by decide, by decide⟩ ml_X8_126 (mX8_isWidth (bc := 0) (bs := 0) (by omega)) (Nat.le_of_ble_eq_true rfl) (Nat.le_of_ble_eq_true rfl) (Nat.le_of_ble_eq_true rfl) rfl dX8_set_16 (nx_I) (kx_I ?_)
    refine r_callS1 okX8_requireArgument ⟨by decide, by decide⟩ ml_X8_96 (mX8_requireArgument (b := (k = 0 ∧ 2 ≤ v ∧ v ≤ 16) ∨ (k ≠ 0 ∧ 1 ≤ v ∧ v ≤ 9999)) (by split <;> split <;> first | rfl | (exfalso; omega))) (Nat.le_of_ble_eq_true rfl) (Nat.le_of_ble_eq_true rfl) (Nat.le_of_ble_eq_true rfl) rfl dX8_set_19 (tUX (fun hne => by unfold e2; rw [if_pos hE1])) (kx_U ?_)
    intro hE2
    have hq9 := eA_ok hE2
    refine r_aload_n dX8_set_22 rfl ?_
    refine r_getfield clX8 1 (by decide) fl_X8_19 (by first | assumption | exact up_s _ _ _ | exact (up_n _ (by assumption)).trans (by assumption) | exact (up_n _ (by assumption)).trans (up_s _ _ _) | exact (up_n _ (by assumption)).trans ((up_n _ (by assumption)).trans (by assumption))) rfl dX8_set_23 ?_
    refine r_aload_n dX8_set_26 rfl ?_
    refine r_getfield clX8 0 (by decide) fl_X8_10 (by first | assumption | exact up_s _ _ _ | exact (up_n _ (by assumption)).trans (by assumption) | exact (up_n _ (by assumption)).trans (up_s _ _ _) | exact (up_n _ (by assumption)).trans ((up_n _ (by assumption)).trans (by assumption))) rfl dX8_set_27 ?_
    refine r_callV1 okX2_save ⟨by decide, by decide⟩ ml_X8_85 (mX2_save (s := 0) (σ := (n, F, g)) hhs hst hi) (by first | assumption | exact up_s _ _ _ | exact (up_n _ (by assumption)).trans (by assumption) | exact (up_n _ (by assumption)).trans (up_s _ _ _) | exact (up_n _ (by assumption)).trans ((up_n _ (by assumption)).trans (by assumption))) rfl rfl (Nat.le_of_ble_eq_true rfl) (Nat.le_of_ble_eq_true rfl) (Nat.le_of_ble_eq_true rfl) rfl dX8_set_30 (nx_tV) (kx_tV ?_)
    intro M2 hM2
    have hx2 := hx.sav hi hM2.1 hM2.2
    obtain ⟨h00, hst, hhs, hbf, hpw, hbw, hmw, ⟨tn, tF, htr⟩, ⟨wn, wF, hwi⟩⟩ := id hx2.1
    change StP _ ad 1 n F g at hst
    have hob1 := hst.1
    obtain ⟨hh_1, hh_2, hh_3, hh_4, hh_5, hho, -⟩ := id hhs
    have hob94 := hbf.1
    obtain ⟨⟨y1, y2, y3, y4, y5, y6, hob96⟩, -, -⟩ := id hpw
    obtain ⟨z1, z2, z3, hob99, -⟩ := id hbw
    obtain ⟨⟨u1, hob101⟩, -, -⟩ := id hmw
    have hob108 := htr.1
    have hob110 := hwi.1
    refine r_aload_n dX8_set_33 rfl ?_
    refine r_getfield clX8 0 (by decide) fl_X8_10 (by first | assumption | exact up_s _ _ _ | exact (up_n _ (by assumption)).trans (by assumption) | exact (up_n _ (by assumption)).trans (up_s _ _ _) | exact (up_n _ (by assumption)).trans ((up_n _ (by assumption)).trans (by assumption))) rfl dX8_set_34 ?_
    refine r_iload_n dX8_set_37 rfl ?_
    refine r_callV1 okX7_valueOf ⟨by decide, by decide⟩ ml_X8_129 (mX7_valueOf hst (by omega)) (by first | assumption | exact up_s _ _ _ | exact (up_n _ (by assumption)).trans (by assumption) | exact (up_n _ (by assumption)).trans (up_s _ _ _) | exact (up_n _ (by assumption)).trans ((up_n _ (by assumption)).trans (by assumption))) rfl rfl (Nat.le_of_ble_eq_true rfl) (Nat.le_of_ble_eq_true rfl) (Nat.le_of_ble_eq_true rfl) rfl dX8_set_38 (nx_I) (kx_I ?_)
    rw [show valG g k = g k by unfold valG; rw [if_pos hk9]]
    refine r_istore_n dX8_set_41 (by decide) rfl ?_
    refine r_aload_n dX8_set_42 rfl ?_
    refine r_getfield clX8 0 (by decide) fl_X8_10 (by first | assumption | exact up_s _ _ _ | exact (up_n _ (by assumption)).trans (by assumption) | exact (up_n _ (by assumption)).trans (up_s _ _ _) | exact (up_n _ (by assumption)).trans ((up_n _ (by assumption)).trans (by assumption))) rfl dX8_set_43 ?_
    refine r_iload_n dX8_set_46 rfl ?_
    refine r_iload_n dX8_set_47 rfl ?_
    refine r_callV2 okX7_change ⟨by decide, by decide⟩ ml_X8_133 (mX7_change hst hi (by omega) (by omega)) (by first | assumption | exact up_s _ _ _ | exact (up_n _ (by assumption)).trans (by assumption) | exact (up_n _ (by assumption)).trans (up_s _ _ _) | exact (up_n _ (by assumption)).trans ((up_n _ (by assumption)).trans (by assumption))) rfl rfl (Nat.le_of_ble_eq_true rfl) (Nat.le_of_ble_eq_true rfl) (Nat.le_of_ble_eq_true rfl) rfl dX8_set_48 (nx_tV) (kx_tV ?_)
    intro M3 hM3
    have hx3 := hx2.1.goS (σ' := (n, F, uI g k v)) hi hM3.1 hM3.2
    refine r_iload_n dX8_set_51 rfl ?_
    refine e_ireturn dX8_set_52 rfl (Nat.le_of_ble_eq_true rfl) (Nat.le_of_ble_eq_true rfl) ?_
    exact okUX (by unfold e2; rw [if_pos hE1]; exact hE2) rfl ⟨hx3.1, hx2.2.trans hx3.2⟩
  ·
    refine r_iload_n dX8_set_8 rfl ?_
    refine r_callS1 okX8_isMost ⟨by decide, by decide⟩ ml_X8_123 (mX8_isMost (bc := 0) (bs := 0) (by omega)) (Nat.le_of_ble_eq_true rfl) (Nat.le_of_ble_eq_true rfl) (Nat.le_of_ble_eq_true rfl) rfl dX8_set_9 (nx_I) (kx_I ?_)
    refine r_goto (tgt := 19) dX8_set_12 (by decide) ?_
    refine r_callS1 okX8_requireArgument ⟨by decide, by decide⟩ ml_X8_96 (mX8_requireArgument (b := (k = 0 ∧ 2 ≤ v ∧ v ≤ 16) ∨ (k ≠ 0 ∧ 1 ≤ v ∧ v ≤ 9999)) (by split <;> split <;> first | rfl | (exfalso; omega))) (Nat.le_of_ble_eq_true rfl) (Nat.le_of_ble_eq_true rfl) (Nat.le_of_ble_eq_true rfl) rfl dX8_set_19 (tUX (fun hne => by unfold e2; rw [if_pos hE1])) (kx_U ?_)
    intro hE2
    have hq9 := eA_ok hE2
    refine r_aload_n dX8_set_22 rfl ?_
    refine r_getfield clX8 1 (by decide) fl_X8_19 (by first | assumption | exact up_s _ _ _ | exact (up_n _ (by assumption)).trans (by assumption) | exact (up_n _ (by assumption)).trans (up_s _ _ _) | exact (up_n _ (by assumption)).trans ((up_n _ (by assumption)).trans (by assumption))) rfl dX8_set_23 ?_
    refine r_aload_n dX8_set_26 rfl ?_
    refine r_getfield clX8 0 (by decide) fl_X8_10 (by first | assumption | exact up_s _ _ _ | exact (up_n _ (by assumption)).trans (by assumption) | exact (up_n _ (by assumption)).trans (up_s _ _ _) | exact (up_n _ (by assumption)).trans ((up_n _ (by assumption)).trans (by assumption))) rfl dX8_set_27 ?_
    refine r_callV1 okX2_save ⟨by decide, by decide⟩ ml_X8_85 (mX2_save (s := 0) (σ := (n, F, g)) hhs hst hi) (by first | assumption | exact up_s _ _ _ | exact (up_n _ (by assumption)).trans (by assumption) | exact (up_n _ (by assumption)).trans (up_s _ _ _) | exact (up_n _ (by assumption)).trans ((up_n _ (by assumption)).trans (by assumption))) rfl rfl (Nat.le_of_ble_eq_true rfl) (Nat.le_of_ble_eq_true rfl) (Nat.le_of_ble_eq_true rfl) rfl dX8_set_30 (nx_tV) (kx_tV ?_)
    intro M2 hM2
    have hx2 := hx.sav hi hM2.1 hM2.2
    obtain ⟨h00, hst, hhs, hbf, hpw, hbw, hmw, ⟨tn, tF, htr⟩, ⟨wn, wF, hwi⟩⟩ := id hx2.1
    change StP _ ad 1 n F g at hst
    have hob1 := hst.1
    obtain ⟨hh_1, hh_2, hh_3, hh_4, hh_5, hho, -⟩ := id hhs
    have hob94 := hbf.1
    obtain ⟨⟨y1, y2, y3, y4, y5, y6, hob96⟩, -, -⟩ := id hpw
    obtain ⟨z1, z2, z3, hob99, -⟩ := id hbw
    obtain ⟨⟨u1, hob101⟩, -, -⟩ := id hmw
    have hob108 := htr.1
    have hob110 := hwi.1
    refine r_aload_n dX8_set_33 rfl ?_
    refine r_getfield clX8 0 (by decide) fl_X8_10 (by first | assumption | exact up_s _ _ _ | exact (up_n _ (by assumption)).trans (by assumption) | exact (up_n _ (by assumption)).trans (up_s _ _ _) | exact (up_n _ (by assumption)).trans ((up_n _ (by assumption)).trans (by assumption))) rfl dX8_set_34 ?_
    refine r_iload_n dX8_set_37 rfl ?_
    refine r_callV1 okX7_valueOf ⟨by decide, by decide⟩ ml_X8_129 (mX7_valueOf hst (by omega)) (by first | assumption | exact up_s _ _ _ | exact (up_n _ (by assumption)).trans (by assumption) | exact (up_n _ (by assumption)).trans (up_s _ _ _) | exact (up_n _ (by assumption)).trans ((up_n _ (by assumption)).trans (by assumption))) rfl rfl (Nat.le_of_ble_eq_true rfl) (Nat.le_of_ble_eq_true rfl) (Nat.le_of_ble_eq_true rfl) rfl dX8_set_38 (nx_I) (kx_I ?_)
    rw [show valG g k = g k by unfold valG; rw [if_pos hk9]]
    refine r_istore_n dX8_set_41 (by decide) rfl ?_
    refine r_aload_n dX8_set_42 rfl ?_
    refine r_getfield clX8 0 (by decide) fl_X8_10 (by first | assumption | exact up_s _ _ _ | exact (up_n _ (by assumption)).trans (by assumption) | exact (up_n _ (by assumption)).trans (up_s _ _ _) | exact (up_n _ (by assumption)).trans ((up_n _ (by assumption)).trans (by assumption))) rfl dX8_set_43 ?_
    refine r_iload_n dX8_set_46 rfl ?_
    refine r_iload_n dX8_set_47 rfl ?_
    refine r_callV2 okX7_change ⟨by decide, by decide⟩ ml_X8_133 (mX7_change hst hi (by omega) (by omega)) (by first | assumption | exact up_s _ _ _ | exact (up_n _ (by assumption)).trans (by assumption) | exact (up_n _ (by assumption)).trans (up_s _ _ _) | exact (up_n _ (by assumption)).trans ((up_n _ (by assumption)).trans (by assumption))) rfl rfl (Nat.le_of_ble_eq_true rfl) (Nat.le_of_ble_eq_true rfl) (Nat.le_of_ble_eq_true rfl) rfl dX8_set_48 (nx_tV) (kx_tV ?_)
    intro M3 hM3
    have hx3 := hx2.1.goS (σ' := (n, F, uI g k v)) hi hM3.1 hM3.2
    refine r_iload_n dX8_set_51 rfl ?_
    refine e_ireturn dX8_set_52 rfl (Nat.le_of_ble_eq_true rfl) (Nat.le_of_ble_eq_true rfl) ?_
    exact okUX (by unfold e2; rw [if_pos hE1]; exact hE2) rfl ⟨hx3.1, hx2.2.trans hx3.2⟩





