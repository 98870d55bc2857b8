/-! the model: texts, saved states, two sets combined -/
/-- the model's numbers beside those of a Parser -/
def PrM (pA : Int → Int) (rd nu bd sc : Int) (s : Ps) : Prop := rd = s.1 ∧ nu = (if s.2.2.2.2.2.1 = 0 then -1 else s.2.2.2.2.1) ∧ bd = s.2.2.2.1 ∧ sc = s.2.1 ∧ (∀ j, 0 ≤ j → j < s.1 → pA (2 * j) = s.2.2.2.2.2.2.1 j ∧ pA (2 * j + 1) = s.2.2.2.2.2.2.2 j) ∧ (s.2.1 = 1 → pA (2 * s.1) = s.2.2.1)
/-- how many digits -/
def Dg (v d : Int) : Prop := (d = 1 ∧ 1 ≤ v ∧ v ≤ 9) ∨ (d = 2 ∧ 10 ≤ v ∧ v ≤ 99) ∨ (d = 3 ∧ 100 ≤ v ∧ v ≤ 999) ∨ (d = 4 ∧ 1000 ≤ v ∧ v ≤ 9999)
theorem gfF_dg {v d : Int} (h : Dg v d) : gfF v d = padF (4 - d).toNat v := by
  unfold gfF
  rw [if_neg (by rcases h with h | h | h | h <;> omega)]
theorem gfF_r {v d : Int} (h : v = 0 ∨ Dg v d) : 0 ≤ gfF v d ∧ gfF v d ≤ 9999 := by
  rcases h with h | h
  · unfold gfF; rw [if_pos h]; omega
  · rw [gfF_dg h]
    rcases h with ⟨rfl, h⟩ | ⟨rfl, h⟩ | ⟨rfl, h⟩ | ⟨rfl, h⟩
    · rw [show ((4 : Int) - 1).toNat = 3 from rfl]; simp only [padF]; omega
    · rw [show ((4 : Int) - 2).toNat = 2 from rfl]; simp only [padF]; omega
    · rw [show ((4 : Int) - 3).toNat = 1 from rfl]; simp only [padF]; omega
    · rw [show ((4 : Int) - 4).toNat = 0 from rfl]; simp only [padF]; omega
/-- the row behind the end of a part -/
def enP (pA : Int → Int) (rd nu sc : Int) : Int → Int := uI (uI pA (2 * rd) (if sc = 0 then nu else pA (2 * rd))) (2 * rd + 1) nu
theorem PrM.close {pA : Int → Int} {rd nu bd sc i : Int} {pa ir fi le va di : Int} {A B : Int → Int} (h : PrM pA rd nu bd sc (pa, ir, fi, le, va, di, A, B)) (hok : PsOk (pa, ir, fi, le, va, di, A, B) i) (hw : whF le va di = true) : nu = va ∧ ∀ j, 0 ≤ j → j < pa + 1 → enP pA rd nu sc (2 * j) = uI A pa (if ir = 0 then va else fi) j ∧ enP pA rd nu sc (2 * j + 1) = uI B pa va j := by
  obtain ⟨h1, h2, h3, h4, h5, h6⟩ := h
  unfold PsOk at hok
  unfold whF at hw
  simp at hw
  dsimp only at *
  rw [if_neg (show ¬ di = 0 by omega)] at h2
  refine ⟨h2, fun j a b => ?_⟩
  unfold enP
  rw [h1, h2, h4]
  by_cases e : j = pa
  · rw [e, uI_s, uI_s, uI_s, uI_n _ (by omega), uI_s]
    refine ⟨?_, rfl⟩
    by_cases e2 : ir = 0
    · rw [if_pos e2, if_pos e2]
    · rw [if_neg e2, if_neg e2]; exact h6 (by omega)
  · rw [uI_n _ e, uI_n _ e, uI_n _ (by omega), uI_n _ (by omega), uI_n _ (by omega), uI_n _ (by omega)]
    exact h5 j a (by omega)
/-- two rows gone through, up to a and to b: what is laid so far -/
def Cb (n1 : Int) (F1 : Int → Int) (n2 : Int) (F2 : Int → Int) (how a b rm : Int) (r : Int → Int) : Prop := Srt rm r ∧ (∀ q, 0 ≤ q → q < a → b < n2 → F1 q < F2 b) ∧ (∀ q, 0 ≤ q → q < b → a < n1 → F2 q < F1 a) ∧ ∀ y, Memb rm r y ↔ (Memb a F1 y ∨ Memb b F2 y) ∧ blg (bI (hasF n1 F1 y)) (bI (hasF n2 F2 y)) how = 1
/-- whether v is the next one of a row, and where it goes on -/
def Cs (n1 : Int) (F1 : Int → Int) (a v x a' : Int) : Prop := (x = 1 ∧ a < n1 ∧ F1 a = v ∧ a' = a + 1) ∨ (x = 0 ∧ (a < n1 → v < F1 a) ∧ a' = a)
theorem Cs.memb {n1 : Int} {F1 : Int → Int} {a v x a' : Int} (h : Cs n1 F1 a v x a') (w : Int) (h0 : 0 ≤ a) : Memb a' F1 w ↔ Memb a F1 w ∨ (x = 1 ∧ w = v) := by
  rcases h with ⟨h1, h2, h3, h4⟩ | ⟨h1, h2, h3⟩
  · rw [h4]
    constructor
    · rintro ⟨q, c, d, e⟩
      by_cases e9 : q = a
      · rw [e9] at e; exact Or.inr ⟨h1, by omega⟩
      · exact Or.inl ⟨q, c, by omega, e⟩
    · rintro (⟨q, c, d, e⟩ | ⟨-, e⟩)
      · exact ⟨q, c, by omega, e⟩
      · exact ⟨a, h0, by omega, by omega⟩
  · rw [h3]
    exact ⟨Or.inl, fun h => h.elim id (fun h => by omega)⟩
theorem Cs.lt {n1 n2 : Int} {F1 F2 : Int → Int} {a b v x y a' b' : Int} (hs1 : Srt n1 F1) (h : Cs n1 F1 a v x a') (hB : Cs n2 F2 b v y b') (hxy : x = 1 ∨ y = 1) (hc : ∀ q, 0 ≤ q → q < a → b < n2 → F1 q < F2 b) (ha : 0 ≤ a) : ∀ q, 0 ≤ q → q < a → F1 q < v := by
  intro q h0 h1
  rcases h with ⟨g1, g2, g3, g4⟩ | ⟨g1, g2, g3⟩
  · rw [← g3]; exact hs1 q a h0 h1 g2
  · rcases hB with ⟨k1, k2, k3, k4⟩ | ⟨k1, k2, k3⟩
    · rw [← k3]; exact hc q h0 h1 k2
    · omega
theorem Cs.has {n1 : Int} {F1 : Int → Int} {a v x a' : Int} (hn : 0 ≤ n1) (hs1 : Srt n1 F1) (h : Cs n1 F1 a v x a') (ha : 0 ≤ a) (hl : ∀ q, 0 ≤ q → q < a → F1 q < v) : bI (hasF n1 F1 v) = x := by
  have hi := hasF_iff hn hs1 v
  rcases h with ⟨g1, g2, g3, g4⟩ | ⟨g1, g2, g3⟩
  · rw [bI_eq1 (hi.mpr ⟨a, ha, g2, g3⟩)]; exact g1.symm
  · rw [bI_eq0 (fun h => ?_)]
    · exact g1.symm
    · obtain ⟨q, c, d, e⟩ := hi.mp h
      by_cases e1 : q < a
      · have := hl q c e1; omega
      · by_cases e2 : q = a
        · rw [e2] at e d; have := g2 d; omega
        · have := g2 (by omega); have := hs1 a q ha (by omega) d; omega
theorem Cs.cross {n1 n2 : Int} {F1 F2 : Int → Int} {a b v x y a' b' : Int} (hs2 : Srt n2 F2) (h : Cs n1 F1 a v x a') (hB : Cs n2 F2 b v y b') (hc : ∀ q, 0 ≤ q → q < a → b < n2 → F1 q < F2 b) (hb : 0 ≤ b) : ∀ q, 0 ≤ q → q < a' → b' < n2 → F1 q < F2 b' := by
  intro q h0 h1 h2
  have hle : b < n2 → b' = b ∨ (b' = b + 1 ∧ F2 b < F2 b') := fun h9 => by
    rcases hB with ⟨k1, k2, k3, k4⟩ | ⟨k1, k2, k3⟩
    · right; rw [k4] at h2 ⊢; exact ⟨rfl, hs2 b (b + 1) hb (by omega) h2⟩
    · exact Or.inl k3
  have hbn : b < n2 := by
    rcases hB with ⟨k1, k2, k3, k4⟩ | ⟨k1, k2, k3⟩ <;> omega
  by_cases e : q < a
  · have h3 := hc q h0 e hbn
    rcases hle hbn with h4 | h4
    · rw [h4]; exact h3
    · omega
  · rcases h with ⟨g1, g2, g3, g4⟩ | ⟨g1, g2, g3⟩
    · have e1 : q = a := by omega
      rw [e1, g3]
      rcases hB with ⟨k1, k2, k3, k4⟩ | ⟨k1, k2, k3⟩
      · rw [k4] at h2 ⊢
        rw [← k3]
        exact hs2 b (b + 1) hb (by omega) h2
      · rw [k3]; exact k2 hbn
    · omega
theorem Cb.stepY {n1 n2 how a b rm v x y a' b' : Int} {F1 F2 r : Int → Int} (h : Cb n1 F1 n2 F2 how a b rm r) (hn1 : 0 ≤ n1) (hn2 : 0 ≤ n2) (hs1 : Srt n1 F1) (hs2 : Srt n2 F2) (ha : 0 ≤ a) (hb : 0 ≤ b) (hr : 0 ≤ rm) (hA : Cs n1 F1 a v x a') (hB : Cs n2 F2 b v y b') (hxy : x = 1 ∨ y = 1) (hbl : blg x y how = 1) : Cb n1 F1 n2 F2 how a' b' (rm + 1) (uI r rm v) := by
  obtain ⟨h1, h2, h3, h4⟩ := h
  have l1 := Cs.lt hs1 hA hB hxy h2 ha
  have l2 := Cs.lt hs2 hB hA hxy.symm h3 hb
  have e1 := hA.has hn1 hs1 ha l1
  have e2 := hB.has hn2 hs2 hb l2
  refine ⟨fun i j c d e => ?_, hA.cross hs2 hB h2 hb, hB.cross hs1 hA h3 ha, fun w => ?_⟩
  · rw [uI_n _ (show i ≠ rm by omega)]
    by_cases e9 : j = rm
    · rw [e9, uI_s]
      obtain ⟨hm, -⟩ := (h4 (r i)).mp ⟨i, c, by omega, rfl⟩
      rcases hm with ⟨q, c1, c2, c3⟩ | ⟨q, c1, c2, c3⟩
      · rw [← c3]; exact l1 q c1 c2
      · rw [← c3]; exact l2 q c1 c2
    · rw [uI_n _ e9]; exact h1 i j c d (by omega)
  · have hw : Memb (rm + 1) (uI r rm v) w ↔ Memb rm r w ∨ w = v := by
      constructor
      · rintro ⟨q, c, d, e⟩
        by_cases e9 : q = rm
        · rw [e9, uI_s] at e; exact Or.inr e.symm
        · rw [uI_n _ e9] at e; exact Or.inl ⟨q, c, by omega, e⟩
      · rintro (⟨q, c, d, e⟩ | rfl)
        · exact ⟨q, c, by omega, by rw [uI_n _ (by omega)]; exact e⟩
        · exact ⟨rm, hr, by omega, uI_s _ _ _⟩
    rw [hw, h4 w, hA.memb w ha, hB.memb w hb]
    constructor
    · rintro (⟨c, d⟩ | rfl)
      · exact ⟨c.elim (fun c => Or.inl (Or.inl c)) (fun c => Or.inr (Or.inl c)), d⟩
      · rw [e1, e2]; exact ⟨hxy.elim (fun c => Or.inl (Or.inr ⟨c, rfl⟩)) (fun c => Or.inr (Or.inr ⟨c, rfl⟩)), hbl⟩
    · rintro ⟨(c | c) | (c | c), d⟩
      · exact Or.inl ⟨Or.inl c, d⟩
      · exact Or.inr c.2
      · exact Or.inl ⟨Or.inr c, d⟩
      · exact Or.inr c.2
theorem Cb.stepN {n1 n2 how a b rm v x y a' b' : Int} {F1 F2 r : Int → Int} (h : Cb n1 F1 n2 F2 how a b rm r) (hn1 : 0 ≤ n1) (hn2 : 0 ≤ n2) (hs1 : Srt n1 F1) (hs2 : Srt n2 F2) (ha : 0 ≤ a) (hb : 0 ≤ b) (hA : Cs n1 F1 a v x a') (hB : Cs n2 F2 b v y b') (hxy : x = 1 ∨ y = 1) (hbl : ¬ blg x y how = 1) : Cb n1 F1 n2 F2 how a' b' rm r := by
  obtain ⟨h1, h2, h3, h4⟩ := h
  have l1 := Cs.lt hs1 hA hB hxy h2 ha
  have l2 := Cs.lt hs2 hB hA hxy.symm h3 hb
  have e1 := hA.has hn1 hs1 ha l1
  have e2 := hB.has hn2 hs2 hb l2
  refine ⟨h1, hA.cross hs2 hB h2 hb, hB.cross hs1 hA h3 ha, fun w => ?_⟩
  rw [h4 w, hA.memb w ha, hB.memb w hb]
  constructor
  · rintro ⟨c, d⟩
    exact ⟨c.elim (fun c => Or.inl (Or.inl c)) (fun c => Or.inr (Or.inl c)), d⟩
  · rintro ⟨(c | c) | (c | c), d⟩
    · exact ⟨Or.inl c, d⟩
    · rw [c.2, e1, e2] at d; exact absurd d hbl
    · exact ⟨Or.inr c, d⟩
    · rw [c.2, e1, e2] at d; exact absurd d hbl
theorem Cb.end {n1 n2 how rm : Int} {F1 F2 r : Int → Int} (h : Cb n1 F1 n2 F2 how n1 n2 rm r) (hn1 : 0 ≤ n1 ∧ n1 ≤ 60) (hn2 : 0 ≤ n2 ∧ n2 ≤ 60) (hs1 : Srt n1 F1) (hs2 : Srt n2 F2) (hh : 0 ≤ how ∧ how ≤ 3) (hr : 0 ≤ rm) : rm = (jnF n1 F1 n2 F2 how).1 ∧ ∀ p, 0 ≤ p → p < rm → r p = (jnF n1 F1 n2 F2 how).2 p := by
  obtain ⟨h1, h2, h3, h4⟩ := h
  obtain ⟨j1, j2, j3, j4⟩ := jnF_spec hn1 hn2 hs1 hs2 hh
  refine srt_unique hr j2 h1 j1 (fun y => ((h4 y).trans ⟨fun h => h.2, fun h => ⟨?_, h⟩⟩).trans (j4 y).symm)
  rw [← hasF_iff hn1.1 hs1 y, ← hasF_iff hn2.1 hs2 y]
  unfold blg at h
  cases e1 : hasF n1 F1 y
  · cases e2 : hasF n2 F2 y
    · rw [e1, e2] at h
      exfalso
      revert h
      simp [bI]
    · exact Or.inr rfl
  · exact Or.inl rfl
theorem blg_01 (x y how : Int) : blg x y how = 0 ∨ blg x y how = 1 := by
  unfold blg
  split
  · split <;> omega
  · split
    · split <;> omega
    · split
      · split <;> omega
      · split <;> omega
set_option maxHeartbeats 4000000 in
theorem mX9_greatestFrom {M : Mem} {v d : Int} (q0 : v = 0 ∨ Dg v d) : Ct KX9_greatestFrom [vI v] M 0 0 (rtI (gfF v d) M) := by
  refine Ct.of _ (by decide) rfl (Nat.le_of_ble_eq_true rfl) ?_
  refine r_iload_n dX9_greatestFrom_0 rfl ?_
  refine r_istore_n dX9_greatestFrom_1 (by decide) rfl ?_
  refine J.loc (L' := [(0, some _), (1, some _)]) (lsub_cons rfl (lsub_cons rfl (lsub_nil))) (loop2 (fun (y : Int) (e : Int) => 0 ≤ y ∧ y ≤ 9999 ∧ ((v = 0 ∧ y = 0) ∨ (Dg y e ∧ gfF v d = padF (4 - e).toNat y))) (fun (y : Int) (e : Int) => (10000 - y).toNat) (fun (y : Int) (e : Int) => J KX9_greatestFrom 0 0 _ 2 [(0, some (vI v)), (1, some (vI y))] [] M _ _) (fun y e hI2 ih2 => ?_) _ d ?_)
  ·
    obtain ⟨hy0, hy1, hy⟩ := hI2
    refine r_iload_n dX9_greatestFrom_2 rfl ?_
    refine r_if_le (tgt := 24) dX9_greatestFrom_3 (by decide) (by omega) (fun h3 => ?_) (fun h3 => ?_)
    ·
      refine r_iload_n dX9_greatestFrom_24 rfl ?_
      refine e_ireturn dX9_greatestFrom_25 rfl (Nat.le_of_ble_eq_true rfl) (Nat.le_of_ble_eq_true rfl) ?_
      exact okI (by
        rcases hy with ⟨a, b⟩ | ⟨a, b⟩
        · rw [b]; unfold gfF; rw [if_pos a]
        · have e4 : e = 4 := by unfold Dg at a; omega
          rw [b, e4]; rfl)
    ·
      refine r_iload_n dX9_greatestFrom_6 rfl ?_
      refine r_sipush dX9_greatestFrom_7 (by decide) ?_
      refine r_icmp_ge (tgt := 24) dX9_greatestFrom_10 (by decide) (by omega) (by omega) (fun h10 => ?_) (fun h10 => ?_)
      ·
        refine r_iload_n dX9_greatestFrom_24 rfl ?_
        refine e_ireturn dX9_greatestFrom_25 rfl (Nat.le_of_ble_eq_true rfl) (Nat.le_of_ble_eq_true rfl) ?_
        exact okI (by
          rcases hy with ⟨a, b⟩ | ⟨a, b⟩
          · rw [b]; unfold gfF; rw [if_pos a]
          · have e4 : e = 4 := by unfold Dg at a; omega
            rw [b, e4]; rfl)
      ·
        refine r_bipush dX9_greatestFrom_13 (by decide) ?_
        refine r_iload_n dX9_greatestFrom_15 rfl ?_
        refine r_imul dX9_greatestFrom_16 ?_
        refine r_bipush dX9_greatestFrom_17 (by decide) ?_
        refine r_iadd dX9_greatestFrom_19 ?_
        refine r_istore_n dX9_greatestFrom_20 (by decide) rfl ?_
        refine r_goto (tgt := 2) dX9_greatestFrom_21 (by decide) ?_
        refine J.loc (lsub_cons rfl (lsub_cons rfl (lsub_nil))) (ih2 _ (e + 1) ?_ ?_)
        · obtain ⟨hd1, hd2⟩ := hy.resolve_left (by omega)
          have hd3 : Dg (10 * y + 9) (e + 1) := by unfold Dg at hd1 ⊢; omega
          refine ⟨by omega, by unfold Dg at hd3; omega, Or.inr ⟨hd3, ?_⟩⟩
          rw [hd2, show (4 - e).toNat = (4 - (e + 1)).toNat + 1 by unfold Dg at hd1; omega, padF]
        · omega
  · exact ⟨by unfold Dg at q0; omega, by unfold Dg at q0; omega, q0.elim (fun h => Or.inl ⟨h, h⟩) (fun h => Or.inr ⟨h, gfF_dg h⟩)⟩

set_option maxHeartbeats 4000000 in
theorem mX9_takesDigit {M0 M : Mem} {ad : Int → Nat} {zA hA tA rA sA pA bA wA : Int → Int} {m len th rm bk rd nu bd sc : Int} {hs : Int64} {i : Int} {pa ir fi le va di : Int} {A B : Int → Int} {d : Int} (hm : RM M0 M ad zA hA tA rA sA pA bA wA m len th rm bk rd nu bd sc hs) (hi : Inj ad) (hp : PrM pA rd nu bd sc (pa, ir, fi, le, va, di, A, B)) (hok : PsOk (pa, ir, fi, le, va, di, A, B) i) (q1 : -100 ≤ d ∧ d ≤ 100) : Ct KX9_takesDigit [.ref (ad 112), vI d] M 0 0 (atI (bI (decide (0 ≤ d ∧ d ≤ 9) && (psG d (pa, ir, fi, le, va, di, A, B)).isSome)) (fun M2 => ∃ nu2 : Int, RM M0 M2 ad zA hA tA rA sA pA bA wA m len th rm bk rd nu2 bd sc hs ∧ ((0 ≤ d ∧ d ≤ 9) ∧ (psG d (pa, ir, fi, le, va, di, A, B)).isSome = true → PrM pA rd nu2 bd sc ((psG d (pa, ir, fi, le, va, di, A, B)).getD (pa, ir, fi, le, va, di, A, B))) ∧ (¬ ((0 ≤ d ∧ d ≤ 9) ∧ (psG d (pa, ir, fi, le, va, di, A, B)).isSome = true) → PrM pA rd nu2 bd sc (pa, ir, fi, le, va, di, A, B)))) := by
  refine Ct.of _ (by decide) rfl (Nat.le_of_ble_eq_true rfl) ?_
  obtain ⟨hp1, hp2, hp3, hp4, hp5, hp6⟩ := id hp
  have hok9 := hok
  unfold PsOk at hok9
  dsimp only at hp1 hp2 hp3 hp4 hp5 hp6 hok9
  have hnr : -1 ≤ nu ∧ nu ≤ 9999 := by rw [hp2]; split <;> omega
  have hnd : (di = 0 ∧ nu = -1) ∨ (0 < di ∧ nu = va) := by rw [hp2]; split <;> omega
  refine r_aload_n dX9_takesDigit_0 rfl ?_
  refine r_getfield clX9 12 (by decide) fl_X9_130 hm.o rfl dX9_takesDigit_1 ?_
  refine r_iconst dX9_takesDigit_4 ?_
  refine r_icmp_ne (tgt := 12) dX9_takesDigit_5 (by decide) (by omega) (by omega) (fun h5 => ?_) (fun h5 => ?_)
  ·
    refine r_bipush dX9_takesDigit_12 (by decide) ?_
    refine r_aload_n dX9_takesDigit_14 rfl ?_
    refine r_getfield clX9 12 (by decide) fl_X9_130 hm.o rfl dX9_takesDigit_15 ?_
    refine r_imul dX9_takesDigit_18 ?_
    refine r_iload_n dX9_takesDigit_19 rfl ?_
    refine r_iadd dX9_takesDigit_20 ?_
    refine r_istore_n dX9_takesDigit_21 (by decide) rfl ?_
    rcases (show (0 ≤ d ∧ d ≤ 9) ∨ (¬ (0 ≤ d ∧ d ≤ 9)) by omega) with hc22 | hc22
    ·
      refine r_iload_n dX9_takesDigit_22 rfl ?_
      refine r_iconst dX9_takesDigit_23 ?_
      refine r_bipush dX9_takesDigit_24 (by decide) ?_
      refine r_callS3 okX9_within ⟨by decide, by decide⟩ ml_X9_41 (mX9_within (v := if 0 ≤ d ∧ d ≤ 9 then 1 else 0) (by omega) (by omega) (by omega) rfl) (Nat.le_of_ble_eq_true rfl) (Nat.le_of_ble_eq_true rfl) (Nat.le_of_ble_eq_true rfl) rfl dX9_takesDigit_26 (nx_I) (kx_I ?_)
      first | rw [if_pos (by omega)] | rw [if_neg (by omega)]
      refine r_if_eq (tgt := 61) dX9_takesDigit_29 (by decide) (by omega) (fun h29 => ?_) (fun h29 => ?_)
      · omega
      ·
        refine r_aload_n dX9_takesDigit_32 rfl ?_
        refine r_getfield clX9 12 (by decide) fl_X9_130 hm.o rfl dX9_takesDigit_33 ?_
        refine r_if_eq (tgt := 61) dX9_takesDigit_36 (by decide) (by omega) (fun h36 => ?_) (fun h36 => ?_)
        ·
          refine r_iconst dX9_takesDigit_61 ?_
          refine r_istore_n dX9_takesDigit_62 (by decide) rfl ?_
          refine r_aload_n dX9_takesDigit_63 rfl ?_
          refine r_iload_n dX9_takesDigit_64 rfl ?_
          refine r_if_eq (tgt := 72) dX9_takesDigit_65 (by decide) (by omega) (fun h65 => ?_) (fun h65 => ?_)
          ·
            refine r_aload_n dX9_takesDigit_72 rfl ?_
            refine r_getfield clX9 12 (by decide) fl_X9_130 hm.o rfl dX9_takesDigit_73 ?_
            refine r_putfield clX9 12 (by decide) fl_X9_130 rfl hm.o rfl rfl (Nat.le_of_ble_eq_true rfl) dX9_takesDigit_76 ?_
            refine hm.w_number hi (fun Mx hm => ?_)
            refine r_iload_n dX9_takesDigit_79 rfl ?_
            refine e_zreturn dX9_takesDigit_80 rfl (by omega) (Nat.le_of_ble_eq_true rfl) (Nat.le_of_ble_eq_true rfl) ?_
            have hno : ¬ ((0 ≤ d ∧ d ≤ 9) ∧ (psG d (pa, ir, fi, le, va, di, A, B)).isSome = true) := by
              rintro ⟨h1, h2⟩
              have he : (psG d (pa, ir, fi, le, va, di, A, B)) = none := by
                first
                | exact absurd h1 (by omega)
                | exact if_pos (by omega)
                | exact (if_neg (by omega)).trans (if_pos (by omega))
              rw [he] at h2
              exact absurd h2 (by decide)
            have hno2 : (decide (0 ≤ d ∧ d ≤ 9) && (psG d (pa, ir, fi, le, va, di, A, B)).isSome) = false := by
              rw [Bool.eq_false_iff]
              intro h
              rw [Bool.and_eq_true, decide_eq_true_eq] at h
              exact hno h
            rw [hno2]
            exact oktI rfl ⟨nu, hm, fun h => absurd h hno, fun _ => hp⟩
          · omega
        ·
          refine r_iload_n dX9_takesDigit_39 rfl ?_
          refine r_sipush dX9_takesDigit_40 (by decide) ?_
          refine r_icmp_gt (tgt := 61) dX9_takesDigit_43 (by decide) (by omega) (by omega) (fun h43 => ?_) (fun h43 => ?_)
          ·
            refine r_iconst dX9_takesDigit_61 ?_
            refine r_istore_n dX9_takesDigit_62 (by decide) rfl ?_
            refine r_aload_n dX9_takesDigit_63 rfl ?_
            refine r_iload_n dX9_takesDigit_64 rfl ?_
            refine r_if_eq (tgt := 72) dX9_takesDigit_65 (by decide) (by omega) (fun h65 => ?_) (fun h65 => ?_)
            ·
              refine r_aload_n dX9_takesDigit_72 rfl ?_
              refine r_getfield clX9 12 (by decide) fl_X9_130 hm.o rfl dX9_takesDigit_73 ?_
              refine r_putfield clX9 12 (by decide) fl_X9_130 rfl hm.o rfl rfl (Nat.le_of_ble_eq_true rfl) dX9_takesDigit_76 ?_
              refine hm.w_number hi (fun Mx hm => ?_)
              refine r_iload_n dX9_takesDigit_79 rfl ?_
              refine e_zreturn dX9_takesDigit_80 rfl (by omega) (Nat.le_of_ble_eq_true rfl) (Nat.le_of_ble_eq_true rfl) ?_
              have hno : ¬ ((0 ≤ d ∧ d ≤ 9) ∧ (psG d (pa, ir, fi, le, va, di, A, B)).isSome = true) := by
                rintro ⟨h1, h2⟩
                have he : (psG d (pa, ir, fi, le, va, di, A, B)) = none := by
                  first
                  | exact absurd h1 (by omega)
                  | exact if_pos (by omega)
                  | exact (if_neg (by omega)).trans (if_pos (by omega))
                rw [he] at h2
                exact absurd h2 (by decide)
              have hno2 : (decide (0 ≤ d ∧ d ≤ 9) && (psG d (pa, ir, fi, le, va, di, A, B)).isSome) = false := by
                rw [Bool.eq_false_iff]
                intro h
                rw [Bool.and_eq_true, decide_eq_true_eq] at h
                exact hno h
              rw [hno2]
              exact oktI rfl ⟨nu, hm, fun h => absurd h hno, fun _ => hp⟩
            · omega
          ·
            have hd4 : di ≤ 3 := by omega
            have hdA : nu = -1 → (d = 0 ∨ Dg d (di + 1)) := fun h => by unfold Dg; omega
            have hdB : ¬ nu = -1 → (10 * nu + d = 0 ∨ Dg (10 * nu + d) (di + 1)) := fun h => by unfold Dg; omega
            have hrA : nu = -1 → 0 ≤ gfF d (di + 1) ∧ gfF d (di + 1) ≤ 9999 := fun h => gfF_r (hdA h)
            have hrB : ¬ nu = -1 → 0 ≤ gfF (10 * nu + d) (di + 1) ∧ gfF (10 * nu + d) (di + 1) ≤ 9999 := fun h => gfF_r (hdB h)
            have hgA : nu = -1 → gfF (10 * va + d) (di + 1) = gfF d (di + 1) := fun h => by rw [show 10 * va + d = d by omega]
            have hgB : ¬ nu = -1 → gfF (10 * va + d) (di + 1) = gfF (10 * nu + d) (di + 1) := fun h => by rw [show 10 * va + d = 10 * nu + d by omega]
            refine r_iload_n dX9_takesDigit_46 rfl ?_
            refine r_callS1 okX9_greatestFrom ⟨by decide, by decide⟩ ml_X9_133 (mX9_greatestFrom (d := di + 1) (by first | exact hdA h5 | exact hdB h5)) (Nat.le_of_ble_eq_true rfl) (Nat.le_of_ble_eq_true rfl) (Nat.le_of_ble_eq_true rfl) rfl dX9_takesDigit_47 (nx_I) (kx_I ?_)
            refine r_aload_n dX9_takesDigit_50 rfl ?_
            refine r_getfield clX9 13 (by decide) fl_X9_136 hm.o rfl dX9_takesDigit_51 ?_
            refine r_icmp_lt (tgt := 61) dX9_takesDigit_54 (by decide) (by omega) (by omega) (fun h54 => ?_) (fun h54 => ?_)
            ·
              refine r_iconst dX9_takesDigit_61 ?_
              refine r_istore_n dX9_takesDigit_62 (by decide) rfl ?_
              refine r_aload_n dX9_takesDigit_63 rfl ?_
              refine r_iload_n dX9_takesDigit_64 rfl ?_
              refine r_if_eq (tgt := 72) dX9_takesDigit_65 (by decide) (by omega) (fun h65 => ?_) (fun h65 => ?_)
              ·
                refine r_aload_n dX9_takesDigit_72 rfl ?_
                refine r_getfield clX9 12 (by decide) fl_X9_130 hm.o rfl dX9_takesDigit_73 ?_
                refine r_putfield clX9 12 (by decide) fl_X9_130 rfl hm.o rfl rfl (Nat.le_of_ble_eq_true rfl) dX9_takesDigit_76 ?_
                refine hm.w_number hi (fun Mx hm => ?_)
                refine r_iload_n dX9_takesDigit_79 rfl ?_
                refine e_zreturn dX9_takesDigit_80 rfl (by omega) (Nat.le_of_ble_eq_true rfl) (Nat.le_of_ble_eq_true rfl) ?_
                have hno : ¬ ((0 ≤ d ∧ d ≤ 9) ∧ (psG d (pa, ir, fi, le, va, di, A, B)).isSome = true) := by
                  rintro ⟨h1, h2⟩
                  have he : (psG d (pa, ir, fi, le, va, di, A, B)) = none := by
                    first
                    | exact absurd h1 (by omega)
                    | exact if_pos (by omega)
                    | exact (if_neg (by omega)).trans (if_pos (by omega))
                  rw [he] at h2
                  exact absurd h2 (by decide)
                have hno2 : (decide (0 ≤ d ∧ d ≤ 9) && (psG d (pa, ir, fi, le, va, di, A, B)).isSome) = false := by
                  rw [Bool.eq_false_iff]
                  intro h
                  rw [Bool.and_eq_true, decide_eq_true_eq] at h
                  exact hno h
                rw [hno2]
                exact oktI rfl ⟨nu, hm, fun h => absurd h hno, fun _ => hp⟩
              · omega
            ·
              refine r_iconst dX9_takesDigit_57 ?_
              refine r_goto (tgt := 62) dX9_takesDigit_58 (by decide) ?_
              refine r_istore_n dX9_takesDigit_62 (by decide) rfl ?_
              refine r_aload_n dX9_takesDigit_63 rfl ?_
              refine r_iload_n dX9_takesDigit_64 rfl ?_
              refine r_if_eq (tgt := 72) dX9_takesDigit_65 (by decide) (by omega) (fun h65 => ?_) (fun h65 => ?_)
              · omega
              ·
                refine r_iload_n dX9_takesDigit_68 rfl ?_
                refine r_goto (tgt := 76) dX9_takesDigit_69 (by decide) ?_
                refine r_putfield clX9 12 (by decide) fl_X9_130 rfl hm.o rfl rfl (Nat.le_of_ble_eq_true rfl) dX9_takesDigit_76 ?_
                refine hm.w_number hi (fun Mx hm => ?_)
                refine r_iload_n dX9_takesDigit_79 rfl ?_
                refine e_zreturn dX9_takesDigit_80 rfl (by omega) (Nat.le_of_ble_eq_true rfl) (Nat.le_of_ble_eq_true rfl) ?_
                have he : (psG d (pa, ir, fi, le, va, di, A, B)) = some (pa, ir, fi, le, 10 * va + d, di + 1, A, B) := (if_neg (by omega)).trans (if_neg (by omega))
                rw [he]
                refine oktI (by rw [decide_eq_true (show 0 ≤ d ∧ d ≤ 9 by omega)]; rfl) ⟨_, hm, fun _ => ⟨hp1, ?_, hp3, hp4, hp5, hp6⟩, fun h => absurd ⟨⟨by omega, by omega⟩, rfl⟩ h⟩
                rw [if_neg (by show ¬ di + 1 = 0; omega)]
                show _ = 10 * va + d
                omega
    ·
      refine r_iload_n dX9_takesDigit_22 rfl ?_
      refine r_iconst dX9_takesDigit_23 ?_
      refine r_bipush dX9_takesDigit_24 (by decide) ?_
      refine r_callS3 okX9_within ⟨by decide, by decide⟩ ml_X9_41 (mX9_within (v := if 0 ≤ d ∧ d ≤ 9 then 1 else 0) (by omega) (by omega) (by omega) rfl) (Nat.le_of_ble_eq_true rfl) (Nat.le_of_ble_eq_true rfl) (Nat.le_of_ble_eq_true rfl) rfl dX9_takesDigit_26 (nx_I) (kx_I ?_)
      first | rw [if_pos (by omega)] | rw [if_neg (by omega)]
      refine r_if_eq (tgt := 61) dX9_takesDigit_29 (by decide) (by omega) (fun h29 => ?_) (fun h29 => ?_)
      ·
        refine r_iconst dX9_takesDigit_61 ?_
        refine r_istore_n dX9_takesDigit_62 (by decide) rfl ?_
        refine r_aload_n dX9_takesDigit_63 rfl ?_
        refine r_iload_n dX9_takesDigit_64 rfl ?_
        refine r_if_eq (tgt := 72) dX9_takesDigit_65 (by decide) (by omega) (fun h65 => ?_) (fun h65 => ?_)
        ·
          refine r_aload_n dX9_takesDigit_72 rfl ?_
          refine r_getfield clX9 12 (by decide) fl_X9_130 hm.o rfl dX9_takesDigit_73 ?_
          refine r_putfield clX9 12 (by decide) fl_X9_130 rfl hm.o rfl rfl (Nat.le_of_ble_eq_true rfl) dX9_takesDigit_76 ?_
          refine hm.w_number hi (fun Mx hm => ?_)
          refine r_iload_n dX9_takesDigit_79 rfl ?_
          refine e_zreturn dX9_takesDigit_80 rfl (by omega) (Nat.le_of_ble_eq_true rfl) (Nat.le_of_ble_eq_true rfl) ?_
          have hno : ¬ ((0 ≤ d ∧ d ≤ 9) ∧ (psG d (pa, ir, fi, le, va, di, A, B)).isSome = true) := by
            rintro ⟨h1, h2⟩
            have he : (psG d (pa, ir, fi, le, va, di, A, B)) = none := by
              first
              | exact absurd h1 (by omega)
              | exact if_pos (by omega)
              | exact (if_neg (by omega)).trans (if_pos (by omega))
            rw [he] at h2
            exact absurd h2 (by decide)
          have hno2 : (decide (0 ≤ d ∧ d ≤ 9) && (psG d (pa, ir, fi, le, va, di, A, B)).isSome) = false := by
            rw [Bool.eq_false_iff]
            intro h
            rw [Bool.and_eq_true, decide_eq_true_eq] at h
            exact hno h
          rw [hno2]
          exact oktI rfl ⟨nu, hm, fun h => absurd h hno, fun _ => hp⟩
        · omega
      · omega
  ·
    refine r_iload_n dX9_takesDigit_8 rfl ?_
    refine r_goto (tgt := 21) dX9_takesDigit_9 (by decide) ?_
    refine r_istore_n dX9_takesDigit_21 (by decide) rfl ?_
    rcases (show (0 ≤ d ∧ d ≤ 9) ∨ (¬ (0 ≤ d ∧ d ≤ 9)) by omega) with hc22 | hc22
    ·
      refine r_iload_n dX9_takesDigit_22 rfl ?_
      refine r_iconst dX9_takesDigit_23 ?_
      refine r_bipush dX9_takesDigit_24 (by decide) ?_
      refine r_callS3 okX9_within ⟨by decide, by decide⟩ ml_X9_41 (mX9_within (v := if 0 ≤ d ∧ d ≤ 9 then 1 else 0) (by omega) (by omega) (by omega) rfl) (Nat.le_of_ble_eq_true rfl) (Nat.le_of_ble_eq_true rfl) (Nat.le_of_ble_eq_true rfl) rfl dX9_takesDigit_26 (nx_I) (kx_I ?_)
      first | rw [if_pos (by omega)] | rw [if_neg (by omega)]
      refine r_if_eq (tgt := 61) dX9_takesDigit_29 (by decide) (by omega) (fun h29 => ?_) (fun h29 => ?_)
      · omega
      ·
        refine r_aload_n dX9_takesDigit_32 rfl ?_
        refine r_getfield clX9 12 (by decide) fl_X9_130 hm.o rfl dX9_takesDigit_33 ?_
        refine r_if_eq (tgt := 61) dX9_takesDigit_36 (by decide) (by omega) (fun h36 => ?_) (fun h36 => ?_)
        ·
          refine r_iconst dX9_takesDigit_61 ?_
          refine r_istore_n dX9_takesDigit_62 (by decide) rfl ?_
          refine r_aload_n dX9_takesDigit_63 rfl ?_
          refine r_iload_n dX9_takesDigit_64 rfl ?_
          refine r_if_eq (tgt := 72) dX9_takesDigit_65 (by decide) (by omega) (fun h65 => ?_) (fun h65 => ?_)
          ·
            refine r_aload_n dX9_takesDigit_72 rfl ?_
            refine r_getfield clX9 12 (by decide) fl_X9_130 hm.o rfl dX9_takesDigit_73 ?_
            refine r_putfield clX9 12 (by decide) fl_X9_130 rfl hm.o rfl rfl (Nat.le_of_ble_eq_true rfl) dX9_takesDigit_76 ?_
            refine hm.w_number hi (fun Mx hm => ?_)
            refine r_iload_n dX9_takesDigit_79 rfl ?_
            refine e_zreturn dX9_takesDigit_80 rfl (by omega) (Nat.le_of_ble_eq_true rfl) (Nat.le_of_ble_eq_true rfl) ?_
            have hno : ¬ ((0 ≤ d ∧ d ≤ 9) ∧ (psG d (pa, ir, fi, le, va, di, A, B)).isSome = true) := by
              rintro ⟨h1, h2⟩
              have he : (psG d (pa, ir, fi, le, va, di, A, B)) = none := by
                first
                | exact absurd h1 (by omega)
                | exact if_pos (by omega)
                | exact (if_neg (by omega)).trans (if_pos (by omega))
              rw [he] at h2
              exact absurd h2 (by decide)
            have hno2 : (decide (0 ≤ d ∧ d ≤ 9) && (psG d (pa, ir, fi, le, va, di, A, B)).isSome) = false := by
              rw [Bool.eq_false_iff]
              intro h
              rw [Bool.and_eq_true, decide_eq_true_eq] at h
              exact hno h
            rw [hno2]
            exact oktI rfl ⟨nu, hm, fun h => absurd h hno, fun _ => hp⟩
          · omega
        ·
          refine r_iload_n dX9_takesDigit_39 rfl ?_
          refine r_sipush dX9_takesDigit_40 (by decide) ?_
          refine r_icmp_gt (tgt := 61) dX9_takesDigit_43 (by decide) (by omega) (by omega) (fun h43 => ?_) (fun h43 => ?_)
          ·
            refine r_iconst dX9_takesDigit_61 ?_
            refine r_istore_n dX9_takesDigit_62 (by decide) rfl ?_
            refine r_aload_n dX9_takesDigit_63 rfl ?_
            refine r_iload_n dX9_takesDigit_64 rfl ?_
            refine r_if_eq (tgt := 72) dX9_takesDigit_65 (by decide) (by omega) (fun h65 => ?_) (fun h65 => ?_)
            ·
              refine r_aload_n dX9_takesDigit_72 rfl ?_
              refine r_getfield clX9 12 (by decide) fl_X9_130 hm.o rfl dX9_takesDigit_73 ?_
              refine r_putfield clX9 12 (by decide) fl_X9_130 rfl hm.o rfl rfl (Nat.le_of_ble_eq_true rfl) dX9_takesDigit_76 ?_
              refine hm.w_number hi (fun Mx hm => ?_)
              refine r_iload_n dX9_takesDigit_79 rfl ?_
              refine e_zreturn dX9_takesDigit_80 rfl (by omega) (Nat.le_of_ble_eq_true rfl) (Nat.le_of_ble_eq_true rfl) ?_
              have hno : ¬ ((0 ≤ d ∧ d ≤ 9) ∧ (psG d (pa, ir, fi, le, va, di, A, B)).isSome = true) := by
                rintro ⟨h1, h2⟩
                have he : (psG d (pa, ir, fi, le, va, di, A, B)) = none := by
                  first
                  | exact absurd h1 (by omega)
                  | exact if_pos (by omega)
                  | exact (if_neg (by omega)).trans (if_pos (by omega))
                rw [he] at h2
                exact absurd h2 (by decide)
              have hno2 : (decide (0 ≤ d ∧ d ≤ 9) && (psG d (pa, ir, fi, le, va, di, A, B)).isSome) = false := by
                rw [Bool.eq_false_iff]
                intro h
                rw [Bool.and_eq_true, decide_eq_true_eq] at h
                exact hno h
              rw [hno2]
              exact oktI rfl ⟨nu, hm, fun h => absurd h hno, fun _ => hp⟩
            · omega
          ·
            have hd4 : di ≤ 3 := by omega
            have hdA : nu = -1 → (d = 0 ∨ Dg d (di + 1)) := fun h => by unfold Dg; omega
            have hdB : ¬ nu = -1 → (10 * nu + d = 0 ∨ Dg (10 * nu + d) (di + 1)) := fun h => by unfold Dg; omega
            have hrA : nu = -1 → 0 ≤ gfF d (di + 1) ∧ gfF d (di + 1) ≤ 9999 := fun h => gfF_r (hdA h)
            have hrB : ¬ nu = -1 → 0 ≤ gfF (10 * nu + d) (di + 1) ∧ gfF (10 * nu + d) (di + 1) ≤ 9999 := fun h => gfF_r (hdB h)
            have hgA : nu = -1 → gfF (10 * va + d) (di + 1) = gfF d (di + 1) := fun h => by rw [show 10 * va + d = d by omega]
            have hgB : ¬ nu = -1 → gfF (10 * va + d) (di + 1) = gfF (10 * nu + d) (di + 1) := fun h => by rw [show 10 * va + d = 10 * nu + d by omega]
            refine r_iload_n dX9_takesDigit_46 rfl ?_
            refine r_callS1 okX9_greatestFrom ⟨by decide, by decide⟩ ml_X9_133 (mX9_greatestFrom (d := di + 1) (by first | exact hdA h5 | exact hdB h5)) (Nat.le_of_ble_eq_true rfl) (Nat.le_of_ble_eq_true rfl) (Nat.le_of_ble_eq_true rfl) rfl dX9_takesDigit_47 (nx_I) (kx_I ?_)
            refine r_aload_n dX9_takesDigit_50 rfl ?_
            refine r_getfield clX9 13 (by decide) fl_X9_136 hm.o rfl dX9_takesDigit_51 ?_
            refine r_icmp_lt (tgt := 61) dX9_takesDigit_54 (by decide) (by omega) (by omega) (fun h54 => ?_) (fun h54 => ?_)
            ·
              refine r_iconst dX9_takesDigit_61 ?_
              refine r_istore_n dX9_takesDigit_62 (by decide) rfl ?_
              refine r_aload_n dX9_takesDigit_63 rfl ?_
              refine r_iload_n dX9_takesDigit_64 rfl ?_
              refine r_if_eq (tgt := 72) dX9_takesDigit_65 (by decide) (by omega) (fun h65 => ?_) (fun h65 => ?_)
              ·
                refine r_aload_n dX9_takesDigit_72 rfl ?_
                refine r_getfield clX9 12 (by decide) fl_X9_130 hm.o rfl dX9_takesDigit_73 ?_
                refine r_putfield clX9 12 (by decide) fl_X9_130 rfl hm.o rfl rfl (Nat.le_of_ble_eq_true rfl) dX9_takesDigit_76 ?_
                refine hm.w_number hi (fun Mx hm => ?_)
                refine r_iload_n dX9_takesDigit_79 rfl ?_
                refine e_zreturn dX9_takesDigit_80 rfl (by omega) (Nat.le_of_ble_eq_true rfl) (Nat.le_of_ble_eq_true rfl) ?_
                have hno : ¬ ((0 ≤ d ∧ d ≤ 9) ∧ (psG d (pa, ir, fi, le, va, di, A, B)).isSome = true) := by
                  rintro ⟨h1, h2⟩
                  have he : (psG d (pa, ir, fi, le, va, di, A, B)) = none := by
                    first
                    | exact absurd h1 (by omega)
                    | exact if_pos (by omega)
                    | exact (if_neg (by omega)).trans (if_pos (by omega))
                  rw [he] at h2
                  exact absurd h2 (by decide)
                have hno2 : (decide (0 ≤ d ∧ d ≤ 9) && (psG d (pa, ir, fi, le, va, di, A, B)).isSome) = false := by
                  rw [Bool.eq_false_iff]
                  intro h
                  rw [Bool.and_eq_true, decide_eq_true_eq] at h
                  exact hno h
                rw [hno2]
                exact oktI rfl ⟨nu, hm, fun h => absurd h hno, fun _ => hp⟩
              · omega
            ·
              refine r_iconst dX9_takesDigit_57 ?_
              refine r_goto (tgt := 62) dX9_takesDigit_58 (by decide) ?_
              refine r_istore_n dX9_takesDigit_62 (by decide) rfl ?_
              refine r_aload_n dX9_takesDigit_63 rfl ?_
              refine r_iload_n dX9_takesDigit_64 rfl ?_
              refine r_if_eq (tgt := 72) dX9_takesDigit_65 (by decide) (by omega) (fun h65 => ?_) (fun h65 => ?_)
              · omega
              ·
                refine r_iload_n dX9_takesDigit_68 rfl ?_
                refine r_goto (tgt := 76) dX9_takesDigit_69 (by decide) ?_
                refine r_putfield clX9 12 (by decide) fl_X9_130 rfl hm.o rfl rfl (Nat.le_of_ble_eq_true rfl) dX9_takesDigit_76 ?_
                refine hm.w_number hi (fun Mx hm => ?_)
                refine r_iload_n dX9_takesDigit_79 rfl ?_
                refine e_zreturn dX9_takesDigit_80 rfl (by omega) (Nat.le_of_ble_eq_true rfl) (Nat.le_of_ble_eq_true rfl) ?_
                have he : (psG d (pa, ir, fi, le, va, di, A, B)) = some (pa, ir, fi, le, 10 * va + d, di + 1, A, B) := (if_neg (by omega)).trans (if_neg (by omega))
                rw [he]
                refine oktI (by rw [decide_eq_true (show 0 ≤ d ∧ d ≤ 9 by omega)]; rfl) ⟨_, hm, fun _ => ⟨hp1, ?_, hp3, hp4, hp5, hp6⟩, fun h => absurd ⟨⟨by omega, by omega⟩, rfl⟩ h⟩
                rw [if_neg (by show ¬ di + 1 = 0; omega)]
                show _ = 10 * va + d
                omega
    ·
      refine r_iload_n dX9_takesDigit_22 rfl ?_
      refine r_iconst dX9_takesDigit_23 ?_
      refine r_bipush dX9_takesDigit_24 (by decide) ?_
      refine r_callS3 okX9_within ⟨by decide, by decide⟩ ml_X9_41 (mX9_within (v := if 0 ≤ d ∧ d ≤ 9 then 1 else 0) (by omega) (by omega) (by omega) rfl) (Nat.le_of_ble_eq_true rfl) (Nat.le_of_ble_eq_true rfl) (Nat.le_of_ble_eq_true rfl) rfl dX9_takesDigit_26 (nx_I) (kx_I ?_)
      first | rw [if_pos (by omega)] | rw [if_neg (by omega)]
      refine r_if_eq (tgt := 61) dX9_takesDigit_29 (by decide) (by omega) (fun h29 => ?_) (fun h29 => ?_)
      ·
        refine r_iconst dX9_takesDigit_61 ?_
        refine r_istore_n dX9_takesDigit_62 (by decide) rfl ?_
        refine r_aload_n dX9_takesDigit_63 rfl ?_
        refine r_iload_n dX9_takesDigit_64 rfl ?_
        refine r_if_eq (tgt := 72) dX9_takesDigit_65 (by decide) (by omega) (fun h65 => ?_) (fun h65 => ?_)
        ·
          refine r_aload_n dX9_takesDigit_72 rfl ?_
          refine r_getfield clX9 12 (by decide) fl_X9_130 hm.o rfl dX9_takesDigit_73 ?_
          refine r_putfield clX9 12 (by decide) fl_X9_130 rfl hm.o rfl rfl (Nat.le_of_ble_eq_true rfl) dX9_takesDigit_76 ?_
          refine hm.w_number hi (fun Mx hm => ?_)
          refine r_iload_n dX9_takesDigit_79 rfl ?_
          refine e_zreturn dX9_takesDigit_80 rfl (by omega) (Nat.le_of_ble_eq_true rfl) (Nat.le_of_ble_eq_true rfl) ?_
          have hno : ¬ ((0 ≤ d ∧ d ≤ 9) ∧ (psG d (pa, ir, fi, le, va, di, A, B)).isSome = true) := by
            rintro ⟨h1, h2⟩
            have he : (psG d (pa, ir, fi, le, va, di, A, B)) = none := by
              first
              | exact absurd h1 (by omega)
              | exact if_pos (by omega)
              | exact (if_neg (by omega)).trans (if_pos (by omega))
            rw [he] at h2
            exact absurd h2 (by decide)
          have hno2 : (decide (0 ≤ d ∧ d ≤ 9) && (psG d (pa, ir, fi, le, va, di, A, B)).isSome) = false := by
            rw [Bool.eq_false_iff]
            intro h
            rw [Bool.and_eq_true, decide_eq_true_eq] at h
            exact hno h
          rw [hno2]
          exact oktI rfl ⟨nu, hm, fun h => absurd h hno, fun _ => hp⟩
        · omega
      · omega

set_option maxHeartbeats 4000000 in
theorem mX9_isEnded {M0 M : Mem} {ad : Int → Nat} {zA hA tA rA sA pA bA wA : Int → Int} {m len th rm bk rd nu bd sc : Int} {hs : Int64} {i : Int} {pa ir fi le va di : Int} {A B : Int → Int} (hm : RM M0 M ad zA hA tA rA sA pA bA wA m len th rm bk rd nu bd sc hs) (hp : PrM pA rd nu bd sc (pa, ir, fi, le, va, di, A, B)) (hok : PsOk (pa, ir, fi, le, va, di, A, B) i) : Ct KX9_isEnded [.ref (ad 112)] M 0 0 (rtI (bI (whF le va di)) M) := by
  refine Ct.of _ (by decide) rfl (Nat.le_of_ble_eq_true rfl) ?_
  obtain ⟨hp1, hp2, hp3, hp4, hp5, hp6⟩ := id hp
  have hok9 := hok
  unfold PsOk at hok9
  dsimp only at hp1 hp2 hp3 hp4 hp5 hp6 hok9
  have hnr : -1 ≤ nu ∧ nu ≤ 9999 := by rw [hp2]; split <;> omega
  have hnd : (di = 0 ∧ nu = -1) ∨ (0 < di ∧ nu = va) := by rw [hp2]; split <;> omega
  refine r_aload_n dX9_isEnded_0 rfl ?_
  refine r_getfield clX9 12 (by decide) fl_X9_130 hm.o rfl dX9_isEnded_1 ?_
  refine r_iconst dX9_isEnded_4 ?_
  refine r_icmp_eq (tgt := 23) dX9_isEnded_5 (by decide) (by omega) (by omega) (fun h5 => ?_) (fun h5 => ?_)
  ·
    refine r_iconst dX9_isEnded_23 ?_
    refine e_zreturn dX9_isEnded_24 rfl (by omega) (Nat.le_of_ble_eq_true rfl) (Nat.le_of_ble_eq_true rfl) ?_
    exact okI (by unfold whF bI; simp <;> omega)
  ·
    refine r_aload_n dX9_isEnded_8 rfl ?_
    refine r_getfield clX9 12 (by decide) fl_X9_130 hm.o rfl dX9_isEnded_9 ?_
    refine r_aload_n dX9_isEnded_12 rfl ?_
    refine r_getfield clX9 13 (by decide) fl_X9_136 hm.o rfl dX9_isEnded_13 ?_
    refine r_icmp_lt (tgt := 23) dX9_isEnded_16 (by decide) (by omega) (by omega) (fun h16 => ?_) (fun h16 => ?_)
    ·
      refine r_iconst dX9_isEnded_23 ?_
      refine e_zreturn dX9_isEnded_24 rfl (by omega) (Nat.le_of_ble_eq_true rfl) (Nat.le_of_ble_eq_true rfl) ?_
      exact okI (by unfold whF bI; simp <;> omega)
    ·
      refine r_iconst dX9_isEnded_19 ?_
      refine r_goto (tgt := 24) dX9_isEnded_20 (by decide) ?_
      refine e_zreturn dX9_isEnded_24 rfl (by omega) (Nat.le_of_ble_eq_true rfl) (Nat.le_of_ble_eq_true rfl) ?_
      exact okI (by unfold whF bI; simp <;> omega)

set_option maxHeartbeats 4000000 in
theorem mX9_endNumber {M0 M : Mem} {ad : Int → Nat} {zA hA tA rA sA pA bA wA : Int → Int} {m len th rm bk rd nu bd sc : Int} {hs : Int64} (hm : RM M0 M ad zA hA tA rA sA pA bA wA m len th rm bk rd nu bd sc hs) (hi : Inj ad) (q0 : 0 ≤ rd ∧ rd ≤ 31) (q1 : sc = 0 ∨ sc = 1) : Ct KX9_endNumber [.ref (ad 112)] M 0 0 (atV (fun M2 => RM M0 M2 ad zA hA tA rA sA (enP pA rd nu sc) bA wA m len th rm bk rd nu bd sc hs)) := by
  refine Ct.of _ (by decide) rfl (Nat.le_of_ble_eq_true rfl) ?_
  refine r_aload_n dX9_endNumber_0 rfl ?_
  refine r_getfield clX9 10 (by decide) fl_X9_25 hm.o rfl dX9_endNumber_1 ?_
  refine r_iconst dX9_endNumber_4 ?_
  refine r_aload_n dX9_endNumber_5 rfl ?_
  refine r_getfield clX9 11 (by decide) fl_X9_139 hm.o rfl dX9_endNumber_6 ?_
  refine r_imul dX9_endNumber_9 ?_
  refine r_aload_n dX9_endNumber_10 rfl ?_
  refine r_getfield clX9 14 (by decide) fl_X9_142 hm.o rfl dX9_endNumber_11 ?_
  refine r_if_eq (tgt := 31) dX9_endNumber_14 (by decide) (by omega) (fun h14 => ?_) (fun h14 => ?_)
  ·
    refine r_aload_n dX9_endNumber_31 rfl ?_
    refine r_getfield clX9 12 (by decide) fl_X9_130 hm.o rfl dX9_endNumber_32 ?_
    refine r_iastore hm.p (by omega) (by omega) (by omega) dX9_endNumber_35 ?_
    refine hm.w_p hi (fun Mx hm => ?_)
    refine r_aload_n dX9_endNumber_36 rfl ?_
    refine r_getfield clX9 10 (by decide) fl_X9_25 hm.o rfl dX9_endNumber_37 ?_
    refine r_iconst dX9_endNumber_40 ?_
    refine r_aload_n dX9_endNumber_41 rfl ?_
    refine r_getfield clX9 11 (by decide) fl_X9_139 hm.o rfl dX9_endNumber_42 ?_
    refine r_imul dX9_endNumber_45 ?_
    refine r_iconst dX9_endNumber_46 ?_
    refine r_iadd dX9_endNumber_47 ?_
    refine r_aload_n dX9_endNumber_48 rfl ?_
    refine r_getfield clX9 12 (by decide) fl_X9_130 hm.o rfl dX9_endNumber_49 ?_
    refine r_iastore hm.p (by omega) (by omega) (by omega) dX9_endNumber_52 ?_
    refine hm.w_p hi (fun Mx hm => ?_)
    refine e_return dX9_endNumber_53 rfl (Nat.le_of_ble_eq_true rfl) (Nat.le_of_ble_eq_true rfl) ?_
    exact oktV (by unfold enP; rw [if_pos h14]; exact hm)
  ·
    refine r_aload_n dX9_endNumber_17 rfl ?_
    refine r_getfield clX9 10 (by decide) fl_X9_25 hm.o rfl dX9_endNumber_18 ?_
    refine r_iconst dX9_endNumber_21 ?_
    refine r_aload_n dX9_endNumber_22 rfl ?_
    refine r_getfield clX9 11 (by decide) fl_X9_139 hm.o rfl dX9_endNumber_23 ?_
    refine r_imul dX9_endNumber_26 ?_
    refine r_iaload hm.p (by omega) (by omega) (by omega) dX9_endNumber_27 ?_
    refine r_goto (tgt := 35) dX9_endNumber_28 (by decide) ?_
    refine r_iastore hm.p (by omega) (by omega) (by omega) dX9_endNumber_35 ?_
    refine hm.w_p hi (fun Mx hm => ?_)
    refine r_aload_n dX9_endNumber_36 rfl ?_
    refine r_getfield clX9 10 (by decide) fl_X9_25 hm.o rfl dX9_endNumber_37 ?_
    refine r_iconst dX9_endNumber_40 ?_
    refine r_aload_n dX9_endNumber_41 rfl ?_
    refine r_getfield clX9 11 (by decide) fl_X9_139 hm.o rfl dX9_endNumber_42 ?_
    refine r_imul dX9_endNumber_45 ?_
    refine r_iconst dX9_endNumber_46 ?_
    refine r_iadd dX9_endNumber_47 ?_
    refine r_aload_n dX9_endNumber_48 rfl ?_
    refine r_getfield clX9 12 (by decide) fl_X9_130 hm.o rfl dX9_endNumber_49 ?_
    refine r_iastore hm.p (by omega) (by omega) (by omega) dX9_endNumber_52 ?_
    refine hm.w_p hi (fun Mx hm => ?_)
    refine e_return dX9_endNumber_53 rfl (Nat.le_of_ble_eq_true rfl) (Nat.le_of_ble_eq_true rfl) ?_
    exact oktV (by unfold enP; rw [if_neg h14]; exact hm)

set_option maxHeartbeats 4000000 in
theorem mX9_takes {M0 M : Mem} {ad : Int → Nat} {zA hA tA rA sA pA bA wA : Int → Int} {m len th rm bk rd nu bd sc : Int} {hs : Int64} {i : Int} {pa ir fi le va di : Int} {A B : Int → Int} {c : Int} (hm : RM M0 M ad zA hA tA rA sA pA bA wA m len th rm bk rd nu bd sc hs) (hi : Inj ad) (hp : PrM pA rd nu bd sc (pa, ir, fi, le, va, di, A, B)) (hok : PsOk (pa, ir, fi, le, va, di, A, B) i) (q1 : i < 60) (q2 : 0 ≤ c ∧ c ≤ 126) : Ct KX9_takes [.ref (ad 112), vI c] M 0 0 (atI (bI (psT c (pa, ir, fi, le, va, di, A, B)).isSome) (fun M2 => ∃ (p2 : Int → Int) (rd2 nu2 bd2 sc2 : Int), RM M0 M2 ad zA hA tA rA sA p2 bA wA m len th rm bk rd2 nu2 bd2 sc2 hs ∧ PrM p2 rd2 nu2 bd2 sc2 ((psT c (pa, ir, fi, le, va, di, A, B)).getD (pa, ir, fi, le, va, di, A, B)))) := by
  refine Ct.of _ (by decide) rfl (Nat.le_of_ble_eq_true rfl) ?_
  obtain ⟨hp1, hp2, hp3, hp4, hp5, hp6⟩ := id hp
  have hok9 := hok
  unfold PsOk at hok9
  dsimp only at hp1 hp2 hp3 hp4 hp5 hp6 hok9
  have hnr : -1 ≤ nu ∧ nu ≤ 9999 := by rw [hp2]; split <;> omega
  have hnd : (di = 0 ∧ nu = -1) ∨ (0 < di ∧ nu = va) := by rw [hp2]; split <;> omega
  have hbw := bI_r (whF le va di)
  refine r_iload_n dX9_takes_0 rfl ?_
  refine r_bipush dX9_takes_1 (by decide) ?_
  refine r_icmp_ne (tgt := 44) dX9_takes_3 (by decide) (by omega) (by omega) (fun h3 => ?_) (fun h3 => ?_)
  ·
    refine r_iload_n dX9_takes_44 rfl ?_
    refine r_bipush dX9_takes_45 (by decide) ?_
    refine r_icmp_ne (tgt := 103) dX9_takes_47 (by decide) (by omega) (by omega) (fun h47 => ?_) (fun h47 => ?_)
    ·
      refine r_aload_n dX9_takes_103 rfl ?_
      refine r_iload_n dX9_takes_104 rfl ?_
      refine r_bipush dX9_takes_105 (by decide) ?_
      refine r_isub dX9_takes_107 ?_
      refine r_callV1 okX9_takesDigit ⟨by decide, by decide⟩ ml_X9_153 (mX9_takesDigit (d := c - 48) hm hi hp hok (by omega)) hm.o rfl rfl (Nat.le_of_ble_eq_true rfl) (Nat.le_of_ble_eq_true rfl) (Nat.le_of_ble_eq_true rfl) rfl dX9_takes_108 (nx_tI) (kx_tI ?_)
      intro Mx hM
      obtain ⟨nu2, hm, hM1, hM2⟩ := hM
      refine e_zreturn dX9_takes_111 rfl (bI_01 _) (Nat.le_of_ble_eq_true rfl) (Nat.le_of_ble_eq_true rfl) ?_
      by_cases hdg : 48 ≤ c ∧ c ≤ 57
      · have he : psT c (pa, ir, fi, le, va, di, A, B) = psG (c - 48) (pa, ir, fi, le, va, di, A, B) := (if_neg (by omega)).trans ((if_neg (by omega)).trans (if_pos hdg))
        rw [he]
        refine oktI (by rw [decide_eq_true (show 0 ≤ c - 48 ∧ c - 48 ≤ 9 by omega)]; rfl) ⟨_, _, _, _, _, hm, ?_⟩
        cases h9 : psG (c - 48) (pa, ir, fi, le, va, di, A, B) with
        | none => exact hM2 (fun h => by rw [h9] at h; exact absurd h.2 (by decide))
        | some s9 => rw [h9] at hM1; exact hM1 ⟨⟨by omega, by omega⟩, rfl⟩
      · have he : psT c (pa, ir, fi, le, va, di, A, B) = none := by
          by_cases e44 : c = 44
          · refine (if_pos e44).trans (if_neg (fun h => ?_))
            first | omega | exact bI_f h54 h.1
          · by_cases e45 : c = 45
            · refine (if_neg e44).trans ((if_pos e45).trans (if_neg (fun h => ?_)))
              first | omega | exact bI_f h10 h.1
            · exact (if_neg e44).trans ((if_neg e45).trans (if_neg hdg))
        rw [he]
        refine oktI (by rw [decide_eq_false (by omega)]; rfl) ⟨_, _, _, _, _, hm, hM2 (fun h => by omega)⟩
    ·
      refine r_aload_n dX9_takes_50 rfl ?_
      refine r_callV0 okX9_isEnded ⟨by decide, by decide⟩ ml_X9_146 (mX9_isEnded hm hp hok) hm.o rfl rfl (Nat.le_of_ble_eq_true rfl) (Nat.le_of_ble_eq_true rfl) (Nat.le_of_ble_eq_true rfl) rfl dX9_takes_51 (nx_I) (kx_I ?_)
      refine r_if_eq (tgt := 103) dX9_takes_54 (by decide) (by omega) (fun h54 => ?_) (fun h54 => ?_)
      ·
        refine r_aload_n dX9_takes_103 rfl ?_
        refine r_iload_n dX9_takes_104 rfl ?_
        refine r_bipush dX9_takes_105 (by decide) ?_
        refine r_isub dX9_takes_107 ?_
        refine r_callV1 okX9_takesDigit ⟨by decide, by decide⟩ ml_X9_153 (mX9_takesDigit (d := c - 48) hm hi hp hok (by omega)) hm.o rfl rfl (Nat.le_of_ble_eq_true rfl) (Nat.le_of_ble_eq_true rfl) (Nat.le_of_ble_eq_true rfl) rfl dX9_takes_108 (nx_tI) (kx_tI ?_)
        intro Mx hM
        obtain ⟨nu2, hm, hM1, hM2⟩ := hM
        refine e_zreturn dX9_takes_111 rfl (bI_01 _) (Nat.le_of_ble_eq_true rfl) (Nat.le_of_ble_eq_true rfl) ?_
        by_cases hdg : 48 ≤ c ∧ c ≤ 57
        · have he : psT c (pa, ir, fi, le, va, di, A, B) = psG (c - 48) (pa, ir, fi, le, va, di, A, B) := (if_neg (by omega)).trans ((if_neg (by omega)).trans (if_pos hdg))
          rw [he]
          refine oktI (by rw [decide_eq_true (show 0 ≤ c - 48 ∧ c - 48 ≤ 9 by omega)]; rfl) ⟨_, _, _, _, _, hm, ?_⟩
          cases h9 : psG (c - 48) (pa, ir, fi, le, va, di, A, B) with
          | none => exact hM2 (fun h => by rw [h9] at h; exact absurd h.2 (by decide))
          | some s9 => rw [h9] at hM1; exact hM1 ⟨⟨by omega, by omega⟩, rfl⟩
        · have he : psT c (pa, ir, fi, le, va, di, A, B) = none := by
            by_cases e44 : c = 44
            · refine (if_pos e44).trans (if_neg (fun h => ?_))
              first | omega | exact bI_f h54 h.1
            · by_cases e45 : c = 45
              · refine (if_neg e44).trans ((if_pos e45).trans (if_neg (fun h => ?_)))
                first | omega | exact bI_f h10 h.1
              · exact (if_neg e44).trans ((if_neg e45).trans (if_neg hdg))
          rw [he]
          refine oktI (by rw [decide_eq_false (by omega)]; rfl) ⟨_, _, _, _, _, hm, hM2 (fun h => by omega)⟩
      ·
        refine r_aload_n dX9_takes_57 rfl ?_
        refine r_getfield clX9 12 (by decide) fl_X9_130 hm.o rfl dX9_takes_58 ?_
        refine r_sipush dX9_takes_61 (by decide) ?_
        refine r_icmp_ge (tgt := 103) dX9_takes_64 (by decide) (by omega) (by omega) (fun h64 => ?_) (fun h64 => ?_)
        ·
          refine r_aload_n dX9_takes_103 rfl ?_
          refine r_iload_n dX9_takes_104 rfl ?_
          refine r_bipush dX9_takes_105 (by decide) ?_
          refine r_isub dX9_takes_107 ?_
          refine r_callV1 okX9_takesDigit ⟨by decide, by decide⟩ ml_X9_153 (mX9_takesDigit (d := c - 48) hm hi hp hok (by omega)) hm.o rfl rfl (Nat.le_of_ble_eq_true rfl) (Nat.le_of_ble_eq_true rfl) (Nat.le_of_ble_eq_true rfl) rfl dX9_takes_108 (nx_tI) (kx_tI ?_)
          intro Mx hM
          obtain ⟨nu2, hm, hM1, hM2⟩ := hM
          refine e_zreturn dX9_takes_111 rfl (bI_01 _) (Nat.le_of_ble_eq_true rfl) (Nat.le_of_ble_eq_true rfl) ?_
          by_cases hdg : 48 ≤ c ∧ c ≤ 57
          · have he : psT c (pa, ir, fi, le, va, di, A, B) = psG (c - 48) (pa, ir, fi, le, va, di, A, B) := (if_neg (by omega)).trans ((if_neg (by omega)).trans (if_pos hdg))
            rw [he]
            refine oktI (by rw [decide_eq_true (show 0 ≤ c - 48 ∧ c - 48 ≤ 9 by omega)]; rfl) ⟨_, _, _, _, _, hm, ?_⟩
            cases h9 : psG (c - 48) (pa, ir, fi, le, va, di, A, B) with
            | none => exact hM2 (fun h => by rw [h9] at h; exact absurd h.2 (by decide))
            | some s9 => rw [h9] at hM1; exact hM1 ⟨⟨by omega, by omega⟩, rfl⟩
          · have he : psT c (pa, ir, fi, le, va, di, A, B) = none := by
              by_cases e44 : c = 44
              · refine (if_pos e44).trans (if_neg (fun h => ?_))
                first | omega | exact bI_f h54 h.1
              · by_cases e45 : c = 45
                · refine (if_neg e44).trans ((if_pos e45).trans (if_neg (fun h => ?_)))
                  first | omega | exact bI_f h10 h.1
                · exact (if_neg e44).trans ((if_neg e45).trans (if_neg hdg))
            rw [he]
            refine oktI (by rw [decide_eq_false (by omega)]; rfl) ⟨_, _, _, _, _, hm, hM2 (fun h => by omega)⟩
        ·
          have hwt := bI_t h54
          have hcl := hp.close hok hwt
          have hdi : 0 < di := by unfold whF at hwt; simp at hwt; exact hwt.1
          rw [if_pos hdi] at hok9
          refine r_aload_n dX9_takes_67 rfl ?_
          refine r_callV0 okX9_endNumber ⟨by decide, by decide⟩ ml_X9_150 (mX9_endNumber hm hi (by omega) (by omega)) hm.o rfl rfl (Nat.le_of_ble_eq_true rfl) (Nat.le_of_ble_eq_true rfl) (Nat.le_of_ble_eq_true rfl) rfl dX9_takes_68 (nx_tV) (kx_tV ?_)
          intro Mx hm
          refine r_aload_n dX9_takes_71 rfl ?_
          refine r_aload_n dX9_takes_72 rfl ?_
          refine r_getfield clX9 12 (by decide) fl_X9_130 hm.o rfl dX9_takes_73 ?_
          refine r_iconst dX9_takes_76 ?_
          refine r_iadd dX9_takes_77 ?_
          refine r_putfield clX9 13 (by decide) fl_X9_136 rfl hm.o rfl rfl (Nat.le_of_ble_eq_true rfl) dX9_takes_78 ?_
          refine hm.w_bound hi (fun Mx hm => ?_)
          refine r_aload_n dX9_takes_81 rfl ?_
          refine r_iconst dX9_takes_82 ?_
          refine r_putfield clX9 12 (by decide) fl_X9_130 rfl hm.o rfl rfl (Nat.le_of_ble_eq_true rfl) dX9_takes_83 ?_
          refine hm.w_number hi (fun Mx hm => ?_)
          refine r_aload_n dX9_takes_86 rfl ?_
          refine r_iconst dX9_takes_87 ?_
          refine r_putfield clX9 14 (by decide) fl_X9_142 rfl hm.o rfl rfl (Nat.le_of_ble_eq_true rfl) dX9_takes_88 ?_
          refine hm.w_isSecond hi (fun Mx hm => ?_)
          refine r_aload_n dX9_takes_91 rfl ?_
          refine r_dup dX9_takes_92 ?_
          refine r_getfield clX9 11 (by decide) fl_X9_139 hm.o rfl dX9_takes_93 ?_
          refine r_iconst dX9_takes_96 ?_
          refine r_iadd dX9_takes_97 ?_
          refine r_putfield clX9 11 (by decide) fl_X9_139 rfl hm.o rfl rfl (Nat.le_of_ble_eq_true rfl) dX9_takes_98 ?_
          refine hm.w_read hi (fun Mx hm => ?_)
          refine r_iconst dX9_takes_101 ?_
          refine e_zreturn dX9_takes_102 rfl (by omega) (Nat.le_of_ble_eq_true rfl) (Nat.le_of_ble_eq_true rfl) ?_
          have he : psT c (pa, ir, fi, le, va, di, A, B) = some (pa + 1, 0, fi, va + 1, 0, 0, uI A pa (if ir = 0 then va else fi), uI B pa va) := (if_pos (by omega)).trans (if_pos ⟨hwt, by omega⟩)
          rw [he]
          exact oktI rfl ⟨_, _, _, _, _, hm, by show rd + 1 = pa + 1; omega, rfl, by show nu + 1 = va + 1; omega, rfl, fun j a b => hcl.2 j a b, fun h => by have h9 : (0 : Int) = 1 := h; omega⟩
  ·
    refine r_aload_n dX9_takes_6 rfl ?_
    refine r_callV0 okX9_isEnded ⟨by decide, by decide⟩ ml_X9_146 (mX9_isEnded hm hp hok) hm.o rfl rfl (Nat.le_of_ble_eq_true rfl) (Nat.le_of_ble_eq_true rfl) (Nat.le_of_ble_eq_true rfl) rfl dX9_takes_7 (nx_I) (kx_I ?_)
    refine r_if_eq (tgt := 44) dX9_takes_10 (by decide) (by omega) (fun h10 => ?_) (fun h10 => ?_)
    ·
      refine r_iload_n dX9_takes_44 rfl ?_
      refine r_bipush dX9_takes_45 (by decide) ?_
      refine r_icmp_ne (tgt := 103) dX9_takes_47 (by decide) (by omega) (by omega) (fun h47 => ?_) (fun h47 => ?_)
      ·
        refine r_aload_n dX9_takes_103 rfl ?_
        refine r_iload_n dX9_takes_104 rfl ?_
        refine r_bipush dX9_takes_105 (by decide) ?_
        refine r_isub dX9_takes_107 ?_
        refine r_callV1 okX9_takesDigit ⟨by decide, by decide⟩ ml_X9_153 (mX9_takesDigit (d := c - 48) hm hi hp hok (by omega)) hm.o rfl rfl (Nat.le_of_ble_eq_true rfl) (Nat.le_of_ble_eq_true rfl) (Nat.le_of_ble_eq_true rfl) rfl dX9_takes_108 (nx_tI) (kx_tI ?_)
        intro Mx hM
        obtain ⟨nu2, hm, hM1, hM2⟩ := hM
        refine e_zreturn dX9_takes_111 rfl (bI_01 _) (Nat.le_of_ble_eq_true rfl) (Nat.le_of_ble_eq_true rfl) ?_
        by_cases hdg : 48 ≤ c ∧ c ≤ 57
        · have he : psT c (pa, ir, fi, le, va, di, A, B) = psG (c - 48) (pa, ir, fi, le, va, di, A, B) := (if_neg (by omega)).trans ((if_neg (by omega)).trans (if_pos hdg))
          rw [he]
          refine oktI (by rw [decide_eq_true (show 0 ≤ c - 48 ∧ c - 48 ≤ 9 by omega)]; rfl) ⟨_, _, _, _, _, hm, ?_⟩
          cases h9 : psG (c - 48) (pa, ir, fi, le, va, di, A, B) with
          | none => exact hM2 (fun h => by rw [h9] at h; exact absurd h.2 (by decide))
          | some s9 => rw [h9] at hM1; exact hM1 ⟨⟨by omega, by omega⟩, rfl⟩
        · have he : psT c (pa, ir, fi, le, va, di, A, B) = none := by
            by_cases e44 : c = 44
            · refine (if_pos e44).trans (if_neg (fun h => ?_))
              first | omega | exact bI_f h54 h.1
            · by_cases e45 : c = 45
              · refine (if_neg e44).trans ((if_pos e45).trans (if_neg (fun h => ?_)))
                first | omega | exact bI_f h10 h.1
              · exact (if_neg e44).trans ((if_neg e45).trans (if_neg hdg))
          rw [he]
          refine oktI (by rw [decide_eq_false (by omega)]; rfl) ⟨_, _, _, _, _, hm, hM2 (fun h => by omega)⟩
      ·
        refine r_aload_n dX9_takes_50 rfl ?_
        refine r_callV0 okX9_isEnded ⟨by decide, by decide⟩ ml_X9_146 (mX9_isEnded hm hp hok) hm.o rfl rfl (Nat.le_of_ble_eq_true rfl) (Nat.le_of_ble_eq_true rfl) (Nat.le_of_ble_eq_true rfl) rfl dX9_takes_51 (nx_I) (kx_I ?_)
        refine r_if_eq (tgt := 103) dX9_takes_54 (by decide) (by omega) (fun h54 => ?_) (fun h54 => ?_)
        ·
          refine r_aload_n dX9_takes_103 rfl ?_
          refine r_iload_n dX9_takes_104 rfl ?_
          refine r_bipush dX9_takes_105 (by decide) ?_
          refine r_isub dX9_takes_107 ?_
          refine r_callV1 okX9_takesDigit ⟨by decide, by decide⟩ ml_X9_153 (mX9_takesDigit (d := c - 48) hm hi hp hok (by omega)) hm.o rfl rfl (Nat.le_of_ble_eq_true rfl) (Nat.le_of_ble_eq_true rfl) (Nat.le_of_ble_eq_true rfl) rfl dX9_takes_108 (nx_tI) (kx_tI ?_)
          intro Mx hM
          obtain ⟨nu2, hm, hM1, hM2⟩ := hM
          refine e_zreturn dX9_takes_111 rfl (bI_01 _) (Nat.le_of_ble_eq_true rfl) (Nat.le_of_ble_eq_true rfl) ?_
          by_cases hdg : 48 ≤ c ∧ c ≤ 57
          · have he : psT c (pa, ir, fi, le, va, di, A, B) = psG (c - 48) (pa, ir, fi, le, va, di, A, B) := (if_neg (by omega)).trans ((if_neg (by omega)).trans (if_pos hdg))
            rw [he]
            refine oktI (by rw [decide_eq_true (show 0 ≤ c - 48 ∧ c - 48 ≤ 9 by omega)]; rfl) ⟨_, _, _, _, _, hm, ?_⟩
            cases h9 : psG (c - 48) (pa, ir, fi, le, va, di, A, B) with
            | none => exact hM2 (fun h => by rw [h9] at h; exact absurd h.2 (by decide))
            | some s9 => rw [h9] at hM1; exact hM1 ⟨⟨by omega, by omega⟩, rfl⟩
          · have he : psT c (pa, ir, fi, le, va, di, A, B) = none := by
              by_cases e44 : c = 44
              · refine (if_pos e44).trans (if_neg (fun h => ?_))
                first | omega | exact bI_f h54 h.1
              · by_cases e45 : c = 45
                · refine (if_neg e44).trans ((if_pos e45).trans (if_neg (fun h => ?_)))
                  first | omega | exact bI_f h10 h.1
                · exact (if_neg e44).trans ((if_neg e45).trans (if_neg hdg))
            rw [he]
            refine oktI (by rw [decide_eq_false (by omega)]; rfl) ⟨_, _, _, _, _, hm, hM2 (fun h => by omega)⟩
        ·
          refine r_aload_n dX9_takes_57 rfl ?_
          refine r_getfield clX9 12 (by decide) fl_X9_130 hm.o rfl dX9_takes_58 ?_
          refine r_sipush dX9_takes_61 (by decide) ?_
          refine r_icmp_ge (tgt := 103) dX9_takes_64 (by decide) (by omega) (by omega) (fun h64 => ?_) (fun h64 => ?_)
          ·
            refine r_aload_n dX9_takes_103 rfl ?_
            refine r_iload_n dX9_takes_104 rfl ?_
            refine r_bipush dX9_takes_105 (by decide) ?_
            refine r_isub dX9_takes_107 ?_
            refine r_callV1 okX9_takesDigit ⟨by decide, by decide⟩ ml_X9_153 (mX9_takesDigit (d := c - 48) hm hi hp hok (by omega)) hm.o rfl rfl (Nat.le_of_ble_eq_true rfl) (Nat.le_of_ble_eq_true rfl) (Nat.le_of_ble_eq_true rfl) rfl dX9_takes_108 (nx_tI) (kx_tI ?_)
            intro Mx hM
            obtain ⟨nu2, hm, hM1, hM2⟩ := hM
            refine e_zreturn dX9_takes_111 rfl (bI_01 _) (Nat.le_of_ble_eq_true rfl) (Nat.le_of_ble_eq_true rfl) ?_
            by_cases hdg : 48 ≤ c ∧ c ≤ 57
            · have he : psT c (pa, ir, fi, le, va, di, A, B) = psG (c - 48) (pa, ir, fi, le, va, di, A, B) := (if_neg (by omega)).trans ((if_neg (by omega)).trans (if_pos hdg))
              rw [he]
              refine oktI (by rw [decide_eq_true (show 0 ≤ c - 48 ∧ c - 48 ≤ 9 by omega)]; rfl) ⟨_, _, _, _, _, hm, ?_⟩
              cases h9 : psG (c - 48) (pa, ir, fi, le, va, di, A, B) with
              | none => exact hM2 (fun h => by rw [h9] at h; exact absurd h.2 (by decide))
              | some s9 => rw [h9] at hM1; exact hM1 ⟨⟨by omega, by omega⟩, rfl⟩
            · have he : psT c (pa, ir, fi, le, va, di, A, B) = none := by
                by_cases e44 : c = 44
                · refine (if_pos e44).trans (if_neg (fun h => ?_))
                  first | omega | exact bI_f h54 h.1
                · by_cases e45 : c = 45
                  · refine (if_neg e44).trans ((if_pos e45).trans (if_neg (fun h => ?_)))
                    first | omega | exact bI_f h10 h.1
                  · exact (if_neg e44).trans ((if_neg e45).trans (if_neg hdg))
              rw [he]
              refine oktI (by rw [decide_eq_false (by omega)]; rfl) ⟨_, _, _, _, _, hm, hM2 (fun h => by omega)⟩
          ·
            have hwt := bI_t h54
            have hcl := hp.close hok hwt
            have hdi : 0 < di := by unfold whF at hwt; simp at hwt; exact hwt.1
            rw [if_pos hdi] at hok9
            refine r_aload_n dX9_takes_67 rfl ?_
            refine r_callV0 okX9_endNumber ⟨by decide, by decide⟩ ml_X9_150 (mX9_endNumber hm hi (by omega) (by omega)) hm.o rfl rfl (Nat.le_of_ble_eq_true rfl) (Nat.le_of_ble_eq_true rfl) (Nat.le_of_ble_eq_true rfl) rfl dX9_takes_68 (nx_tV) (kx_tV ?_)
            intro Mx hm
            refine r_aload_n dX9_takes_71 rfl ?_
            refine r_aload_n dX9_takes_72 rfl ?_
            refine r_getfield clX9 12 (by decide) fl_X9_130 hm.o rfl dX9_takes_73 ?_
            refine r_iconst dX9_takes_76 ?_
            refine r_iadd dX9_takes_77 ?_
            refine r_putfield clX9 13 (by decide) fl_X9_136 rfl hm.o rfl rfl (Nat.le_of_ble_eq_true rfl) dX9_takes_78 ?_
            refine hm.w_bound hi (fun Mx hm => ?_)
            refine r_aload_n dX9_takes_81 rfl ?_
            refine r_iconst dX9_takes_82 ?_
            refine r_putfield clX9 12 (by decide) fl_X9_130 rfl hm.o rfl rfl (Nat.le_of_ble_eq_true rfl) dX9_takes_83 ?_
            refine hm.w_number hi (fun Mx hm => ?_)
            refine r_aload_n dX9_takes_86 rfl ?_
            refine r_iconst dX9_takes_87 ?_
            refine r_putfield clX9 14 (by decide) fl_X9_142 rfl hm.o rfl rfl (Nat.le_of_ble_eq_true rfl) dX9_takes_88 ?_
            refine hm.w_isSecond hi (fun Mx hm => ?_)
            refine r_aload_n dX9_takes_91 rfl ?_
            refine r_dup dX9_takes_92 ?_
            refine r_getfield clX9 11 (by decide) fl_X9_139 hm.o rfl dX9_takes_93 ?_
            refine r_iconst dX9_takes_96 ?_
            refine r_iadd dX9_takes_97 ?_
            refine r_putfield clX9 11 (by decide) fl_X9_139 rfl hm.o rfl rfl (Nat.le_of_ble_eq_true rfl) dX9_takes_98 ?_
            refine hm.w_read hi (fun Mx hm => ?_)
            refine r_iconst dX9_takes_101 ?_
            refine e_zreturn dX9_takes_102 rfl (by omega) (Nat.le_of_ble_eq_true rfl) (Nat.le_of_ble_eq_true rfl) ?_
            have he : psT c (pa, ir, fi, le, va, di, A, B) = some (pa + 1, 0, fi, va + 1, 0, 0, uI A pa (if ir = 0 then va else fi), uI B pa va) := (if_pos (by omega)).trans (if_pos ⟨hwt, by omega⟩)
            rw [he]
            exact oktI rfl ⟨_, _, _, _, _, hm, by show rd + 1 = pa + 1; omega, rfl, by show nu + 1 = va + 1; omega, rfl, fun j a b => hcl.2 j a b, fun h => by have h9 : (0 : Int) = 1 := h; omega⟩
    ·
      refine r_aload_n dX9_takes_13 rfl ?_
      refine r_getfield clX9 14 (by decide) fl_X9_142 hm.o rfl dX9_takes_14 ?_
      refine r_if_ne (tgt := 44) dX9_takes_17 (by decide) (by omega) (fun h17 => ?_) (fun h17 => ?_)
      ·
        refine r_iload_n dX9_takes_44 rfl ?_
        refine r_bipush dX9_takes_45 (by decide) ?_
        refine r_icmp_ne (tgt := 103) dX9_takes_47 (by decide) (by omega) (by omega) (fun h47 => ?_) (fun h47 => ?_)
        ·
          refine r_aload_n dX9_takes_103 rfl ?_
          refine r_iload_n dX9_takes_104 rfl ?_
          refine r_bipush dX9_takes_105 (by decide) ?_
          refine r_isub dX9_takes_107 ?_
          refine r_callV1 okX9_takesDigit ⟨by decide, by decide⟩ ml_X9_153 (mX9_takesDigit (d := c - 48) hm hi hp hok (by omega)) hm.o rfl rfl (Nat.le_of_ble_eq_true rfl) (Nat.le_of_ble_eq_true rfl) (Nat.le_of_ble_eq_true rfl) rfl dX9_takes_108 (nx_tI) (kx_tI ?_)
          intro Mx hM
          obtain ⟨nu2, hm, hM1, hM2⟩ := hM
          refine e_zreturn dX9_takes_111 rfl (bI_01 _) (Nat.le_of_ble_eq_true rfl) (Nat.le_of_ble_eq_true rfl) ?_
          by_cases hdg : 48 ≤ c ∧ c ≤ 57
          · have he : psT c (pa, ir, fi, le, va, di, A, B) = psG (c - 48) (pa, ir, fi, le, va, di, A, B) := (if_neg (by omega)).trans ((if_neg (by omega)).trans (if_pos hdg))
            rw [he]
            refine oktI (by rw [decide_eq_true (show 0 ≤ c - 48 ∧ c - 48 ≤ 9 by omega)]; rfl) ⟨_, _, _, _, _, hm, ?_⟩
            cases h9 : psG (c - 48) (pa, ir, fi, le, va, di, A, B) with
            | none => exact hM2 (fun h => by rw [h9] at h; exact absurd h.2 (by decide))
            | some s9 => rw [h9] at hM1; exact hM1 ⟨⟨by omega, by omega⟩, rfl⟩
          · have he : psT c (pa, ir, fi, le, va, di, A, B) = none := by
              by_cases e44 : c = 44
              · refine (if_pos e44).trans (if_neg (fun h => ?_))
                first | omega | exact bI_f h54 h.1
              · by_cases e45 : c = 45
                · refine (if_neg e44).trans ((if_pos e45).trans (if_neg (fun h => ?_)))
                  first | omega | exact bI_f h10 h.1
                · exact (if_neg e44).trans ((if_neg e45).trans (if_neg hdg))
            rw [he]
            refine oktI (by rw [decide_eq_false (by omega)]; rfl) ⟨_, _, _, _, _, hm, hM2 (fun h => by omega)⟩
        ·
          refine r_aload_n dX9_takes_50 rfl ?_
          refine r_callV0 okX9_isEnded ⟨by decide, by decide⟩ ml_X9_146 (mX9_isEnded hm hp hok) hm.o rfl rfl (Nat.le_of_ble_eq_true rfl) (Nat.le_of_ble_eq_true rfl) (Nat.le_of_ble_eq_true rfl) rfl dX9_takes_51 (nx_I) (kx_I ?_)
          refine r_if_eq (tgt := 103) dX9_takes_54 (by decide) (by omega) (fun h54 => ?_) (fun h54 => ?_)
          ·
            refine r_aload_n dX9_takes_103 rfl ?_
            refine r_iload_n dX9_takes_104 rfl ?_
            refine r_bipush dX9_takes_105 (by decide) ?_
            refine r_isub dX9_takes_107 ?_
            refine r_callV1 okX9_takesDigit ⟨by decide, by decide⟩ ml_X9_153 (mX9_takesDigit (d := c - 48) hm hi hp hok (by omega)) hm.o rfl rfl (Nat.le_of_ble_eq_true rfl) (Nat.le_of_ble_eq_true rfl) (Nat.le_of_ble_eq_true rfl) rfl dX9_takes_108 (nx_tI) (kx_tI ?_)
            intro Mx hM
            obtain ⟨nu2, hm, hM1, hM2⟩ := hM
            refine e_zreturn dX9_takes_111 rfl (bI_01 _) (Nat.le_of_ble_eq_true rfl) (Nat.le_of_ble_eq_true rfl) ?_
            by_cases hdg : 48 ≤ c ∧ c ≤ 57
            · have he : psT c (pa, ir, fi, le, va, di, A, B) = psG (c - 48) (pa, ir, fi, le, va, di, A, B) := (if_neg (by omega)).trans ((if_neg (by omega)).trans (if_pos hdg))
              rw [he]
              refine oktI (by rw [decide_eq_true (show 0 ≤ c - 48 ∧ c - 48 ≤ 9 by omega)]; rfl) ⟨_, _, _, _, _, hm, ?_⟩
              cases h9 : psG (c - 48) (pa, ir, fi, le, va, di, A, B) with
              | none => exact hM2 (fun h => by rw [h9] at h; exact absurd h.2 (by decide))
              | some s9 => rw [h9] at hM1; exact hM1 ⟨⟨by omega, by omega⟩, rfl⟩
            · have he : psT c (pa, ir, fi, le, va, di, A, B) = none := by
                by_cases e44 : c = 44
                · refine (if_pos e44).trans (if_neg (fun h => ?_))
                  first | omega | exact bI_f h54 h.1
                · by_cases e45 : c = 45
                  · refine (if_neg e44).trans ((if_pos e45).trans (if_neg (fun h => ?_)))
                    first | omega | exact bI_f h10 h.1
                  · exact (if_neg e44).trans ((if_neg e45).trans (if_neg hdg))
              rw [he]
              refine oktI (by rw [decide_eq_false (by omega)]; rfl) ⟨_, _, _, _, _, hm, hM2 (fun h => by omega)⟩
          ·
            refine r_aload_n dX9_takes_57 rfl ?_
            refine r_getfield clX9 12 (by decide) fl_X9_130 hm.o rfl dX9_takes_58 ?_
            refine r_sipush dX9_takes_61 (by decide) ?_
            refine r_icmp_ge (tgt := 103) dX9_takes_64 (by decide) (by omega) (by omega) (fun h64 => ?_) (fun h64 => ?_)
            ·
              refine r_aload_n dX9_takes_103 rfl ?_
              refine r_iload_n dX9_takes_104 rfl ?_
              refine r_bipush dX9_takes_105 (by decide) ?_
              refine r_isub dX9_takes_107 ?_
              refine r_callV1 okX9_takesDigit ⟨by decide, by decide⟩ ml_X9_153 (mX9_takesDigit (d := c - 48) hm hi hp hok (by omega)) hm.o rfl rfl (Nat.le_of_ble_eq_true rfl) (Nat.le_of_ble_eq_true rfl) (Nat.le_of_ble_eq_true rfl) rfl dX9_takes_108 (nx_tI) (kx_tI ?_)
              intro Mx hM
              obtain ⟨nu2, hm, hM1, hM2⟩ := hM
              refine e_zreturn dX9_takes_111 rfl (bI_01 _) (Nat.le_of_ble_eq_true rfl) (Nat.le_of_ble_eq_true rfl) ?_
              by_cases hdg : 48 ≤ c ∧ c ≤ 57
              · have he : psT c (pa, ir, fi, le, va, di, A, B) = psG (c - 48) (pa, ir, fi, le, va, di, A, B) := (if_neg (by omega)).trans ((if_neg (by omega)).trans (if_pos hdg))
                rw [he]
                refine oktI (by rw [decide_eq_true (show 0 ≤ c - 48 ∧ c - 48 ≤ 9 by omega)]; rfl) ⟨_, _, _, _, _, hm, ?_⟩
                cases h9 : psG (c - 48) (pa, ir, fi, le, va, di, A, B) with
                | none => exact hM2 (fun h => by rw [h9] at h; exact absurd h.2 (by decide))
                | some s9 => rw [h9] at hM1; exact hM1 ⟨⟨by omega, by omega⟩, rfl⟩
              · have he : psT c (pa, ir, fi, le, va, di, A, B) = none := by
                  by_cases e44 : c = 44
                  · refine (if_pos e44).trans (if_neg (fun h => ?_))
                    first | omega | exact bI_f h54 h.1
                  · by_cases e45 : c = 45
                    · refine (if_neg e44).trans ((if_pos e45).trans (if_neg (fun h => ?_)))
                      first | omega | exact bI_f h10 h.1
                    · exact (if_neg e44).trans ((if_neg e45).trans (if_neg hdg))
                rw [he]
                refine oktI (by rw [decide_eq_false (by omega)]; rfl) ⟨_, _, _, _, _, hm, hM2 (fun h => by omega)⟩
            ·
              have hwt := bI_t h54
              have hcl := hp.close hok hwt
              have hdi : 0 < di := by unfold whF at hwt; simp at hwt; exact hwt.1
              rw [if_pos hdi] at hok9
              refine r_aload_n dX9_takes_67 rfl ?_
              refine r_callV0 okX9_endNumber ⟨by decide, by decide⟩ ml_X9_150 (mX9_endNumber hm hi (by omega) (by omega)) hm.o rfl rfl (Nat.le_of_ble_eq_true rfl) (Nat.le_of_ble_eq_true rfl) (Nat.le_of_ble_eq_true rfl) rfl dX9_takes_68 (nx_tV) (kx_tV ?_)
              intro Mx hm
              refine r_aload_n dX9_takes_71 rfl ?_
              refine r_aload_n dX9_takes_72 rfl ?_
              refine r_getfield clX9 12 (by decide) fl_X9_130 hm.o rfl dX9_takes_73 ?_
              refine r_iconst dX9_takes_76 ?_
              refine r_iadd dX9_takes_77 ?_
              refine r_putfield clX9 13 (by decide) fl_X9_136 rfl hm.o rfl rfl (Nat.le_of_ble_eq_true rfl) dX9_takes_78 ?_
              refine hm.w_bound hi (fun Mx hm => ?_)
              refine r_aload_n dX9_takes_81 rfl ?_
              refine r_iconst dX9_takes_82 ?_
              refine r_putfield clX9 12 (by decide) fl_X9_130 rfl hm.o rfl rfl (Nat.le_of_ble_eq_true rfl) dX9_takes_83 ?_
              refine hm.w_number hi (fun Mx hm => ?_)
              refine r_aload_n dX9_takes_86 rfl ?_
              refine r_iconst dX9_takes_87 ?_
              refine r_putfield clX9 14 (by decide) fl_X9_142 rfl hm.o rfl rfl (Nat.le_of_ble_eq_true rfl) dX9_takes_88 ?_
              refine hm.w_isSecond hi (fun Mx hm => ?_)
              refine r_aload_n dX9_takes_91 rfl ?_
              refine r_dup dX9_takes_92 ?_
              refine r_getfield clX9 11 (by decide) fl_X9_139 hm.o rfl dX9_takes_93 ?_
              refine r_iconst dX9_takes_96 ?_
              refine r_iadd dX9_takes_97 ?_
              refine r_putfield clX9 11 (by decide) fl_X9_139 rfl hm.o rfl rfl (Nat.le_of_ble_eq_true rfl) dX9_takes_98 ?_
              refine hm.w_read hi (fun Mx hm => ?_)
              refine r_iconst dX9_takes_101 ?_
              refine e_zreturn dX9_takes_102 rfl (by omega) (Nat.le_of_ble_eq_true rfl) (Nat.le_of_ble_eq_true rfl) ?_
              have he : psT c (pa, ir, fi, le, va, di, A, B) = some (pa + 1, 0, fi, va + 1, 0, 0, uI A pa (if ir = 0 then va else fi), uI B pa va) := (if_pos (by omega)).trans (if_pos ⟨hwt, by omega⟩)
              rw [he]
              exact oktI rfl ⟨_, _, _, _, _, hm, by show rd + 1 = pa + 1; omega, rfl, by show nu + 1 = va + 1; omega, rfl, fun j a b => hcl.2 j a b, fun h => by have h9 : (0 : Int) = 1 := h; omega⟩
      ·
        have hwt := bI_t h10
        have hcl := hp.close hok hwt
        have hdi : 0 < di := by unfold whF at hwt; simp at hwt; exact hwt.1
        rw [if_pos hdi] at hok9
        refine r_aload_n dX9_takes_20 rfl ?_
        refine r_callV0 okX9_endNumber ⟨by decide, by decide⟩ ml_X9_150 (mX9_endNumber hm hi (by omega) (by omega)) hm.o rfl rfl (Nat.le_of_ble_eq_true rfl) (Nat.le_of_ble_eq_true rfl) (Nat.le_of_ble_eq_true rfl) rfl dX9_takes_21 (nx_tV) (kx_tV ?_)
        intro Mx hm
        refine r_aload_n dX9_takes_24 rfl ?_
        refine r_aload_n dX9_takes_25 rfl ?_
        refine r_getfield clX9 12 (by decide) fl_X9_130 hm.o rfl dX9_takes_26 ?_
        refine r_putfield clX9 13 (by decide) fl_X9_136 rfl hm.o rfl rfl (Nat.le_of_ble_eq_true rfl) dX9_takes_29 ?_
        refine hm.w_bound hi (fun Mx hm => ?_)
        refine r_aload_n dX9_takes_32 rfl ?_
        refine r_iconst dX9_takes_33 ?_
        refine r_putfield clX9 12 (by decide) fl_X9_130 rfl hm.o rfl rfl (Nat.le_of_ble_eq_true rfl) dX9_takes_34 ?_
        refine hm.w_number hi (fun Mx hm => ?_)
        refine r_aload_n dX9_takes_37 rfl ?_
        refine r_iconst dX9_takes_38 ?_
        refine r_putfield clX9 14 (by decide) fl_X9_142 rfl hm.o rfl rfl (Nat.le_of_ble_eq_true rfl) dX9_takes_39 ?_
        refine hm.w_isSecond hi (fun Mx hm => ?_)
        refine r_iconst dX9_takes_42 ?_
        refine e_zreturn dX9_takes_43 rfl (by omega) (Nat.le_of_ble_eq_true rfl) (Nat.le_of_ble_eq_true rfl) ?_
        have he : psT c (pa, ir, fi, le, va, di, A, B) = some (pa, 1, va, va, 0, 0, A, B) := (if_neg (by omega)).trans ((if_pos (by omega)).trans (if_pos ⟨hwt, by omega⟩))
        rw [he]
        refine oktI rfl ⟨_, _, _, _, _, hm, hp1, rfl, hcl.1, rfl, fun j a b => ?_, fun _ => ?_⟩
        · show enP pA rd nu sc (2 * j) = A j ∧ enP pA rd nu sc (2 * j + 1) = B j
          have h9 := hcl.2 j a (by have : j < pa := b; omega)
          rw [uI_n _ (show j ≠ pa by have : j < pa := b; omega), uI_n _ (show j ≠ pa by have : j < pa := b; omega)] at h9
          exact h9
        · show enP pA rd nu sc (2 * pa) = va
          have h9 := (hcl.2 pa (by omega) (by omega)).1
          rw [uI_s, if_pos (by omega)] at h9
          exact h9

set_option maxHeartbeats 4000000 in
theorem mX9_rightUpTo {M0 M : Mem} {ad : Int → Nat} {zA hA tA rA sA pA bA wA : Int → Int} {m len th rm bk rd nu bd sc : Int} {hs : Int64} {c : Int → Int} (hm : RM M0 M ad zA hA tA rA sA pA bA wA m len th rm bk rd nu bd sc hs) (hi : Inj ad) (ht : ∀ j, 0 ≤ j → j < len → tA j = c j ∧ 33 ≤ c j ∧ c j ≤ 126) (hl : 0 ≤ len ∧ len ≤ 60) : Ct KX9_rightUpTo [.ref (ad 112)] M 0 0 (atI (prR len c).1 (fun M2 => ∃ (p2 : Int → Int) (rd2 nu2 bd2 sc2 : Int), RM M0 M2 ad zA hA tA rA sA p2 bA wA m len th rm bk rd2 nu2 bd2 sc2 hs ∧ PrM p2 rd2 nu2 bd2 sc2 (prR len c).2)) := by
  refine Ct.of _ (by decide) rfl (Nat.le_of_ble_eq_true rfl) ?_
  refine r_aload_n dX9_rightUpTo_0 rfl ?_
  refine r_iconst dX9_rightUpTo_1 ?_
  refine r_putfield clX9 11 (by decide) fl_X9_139 rfl hm.o rfl rfl (Nat.le_of_ble_eq_true rfl) dX9_rightUpTo_2 ?_
  refine hm.w_read hi (fun Mx hm => ?_)
  refine r_aload_n dX9_rightUpTo_5 rfl ?_
  refine r_iconst dX9_rightUpTo_6 ?_
  refine r_putfield clX9 12 (by decide) fl_X9_130 rfl hm.o rfl rfl (Nat.le_of_ble_eq_true rfl) dX9_rightUpTo_7 ?_
  refine hm.w_number hi (fun Mx hm => ?_)
  refine r_aload_n dX9_rightUpTo_10 rfl ?_
  refine r_iconst dX9_rightUpTo_11 ?_
  refine r_putfield clX9 13 (by decide) fl_X9_136 rfl hm.o rfl rfl (Nat.le_of_ble_eq_true rfl) dX9_rightUpTo_12 ?_
  refine hm.w_bound hi (fun Mx hm => ?_)
  refine r_aload_n dX9_rightUpTo_15 rfl ?_
  refine r_iconst dX9_rightUpTo_16 ?_
  refine r_putfield clX9 14 (by decide) fl_X9_142 rfl hm.o rfl rfl (Nat.le_of_ble_eq_true rfl) dX9_rightUpTo_17 ?_
  refine hm.w_isSecond hi (fun Mx hm => ?_)
  refine r_iconst dX9_rightUpTo_20 ?_
  refine r_istore_n dX9_rightUpTo_21 (by decide) rfl ?_
  refine J.loc (L' := [(0, some _), (1, some _)]) (lsub_cons rfl (lsub_cons rfl (lsub_nil))) (loop3 (fun (i : Int) (M1 : Mem) (s : Ps) => 0 ≤ i ∧ i ≤ len ∧ PsOk s i ∧ prR len c = psR c (len - i).toNat i s ∧ ∃ (p2 : Int → Int) (rd2 nu2 bd2 sc2 : Int), RM M0 M1 ad zA hA tA rA sA p2 bA wA m len th rm bk rd2 nu2 bd2 sc2 hs ∧ PrM p2 rd2 nu2 bd2 sc2 s) (fun (i : Int) (M1 : Mem) (s : Ps) => (len - i).toNat) (fun (i : Int) (M1 : Mem) (s : Ps) => J KX9_rightUpTo 0 0 _ 22 [(0, some (.ref (ad 112))), (1, some (vI i))] [] M1 _ _) (fun i M1 s hI22 ih22 => ?_) _ _ ps0 ?_)
  ·
    obtain ⟨hi0, hi1, hok, hR, p2, rd2, nu2, bd2, sc2, hm, hp⟩ := hI22
    obtain ⟨pa, ir, fi, le, va, di, A, B⟩ := s
    refine r_iload_n dX9_rightUpTo_22 rfl ?_
    refine r_aload_n dX9_rightUpTo_23 rfl ?_
    refine r_getfield clX9 3 (by decide) fl_X9_127 hm.o rfl dX9_rightUpTo_24 ?_
    refine r_icmp_ge (tgt := 49) dX9_rightUpTo_27 (by decide) (by omega) (by omega) (fun h27 => ?_) (fun h27 => ?_)
    ·
      refine r_iload_n dX9_rightUpTo_49 rfl ?_
      refine e_ireturn dX9_rightUpTo_50 rfl (Nat.le_of_ble_eq_true rfl) (Nat.le_of_ble_eq_true rfl) ?_
      have e : prR len c = (i, (pa, ir, fi, le, va, di, A, B)) := by rw [hR, show (len - i).toNat = 0 by omega, psR]
      rw [e]
      exact oktI rfl ⟨_, _, _, _, _, hm, hp⟩
    ·
      have hti := ht i hi0 (by omega)
      refine r_aload_n dX9_rightUpTo_30 rfl ?_
      refine r_aload_n dX9_rightUpTo_31 rfl ?_
      refine r_getfield clX9 4 (by decide) fl_X9_16 hm.o rfl dX9_rightUpTo_32 ?_
      refine r_iload_n dX9_rightUpTo_35 rfl ?_
      refine r_iaload hm.t (by omega) (by omega) (by omega) dX9_rightUpTo_36 ?_
      rw [hti.1]
      refine r_callV1 okX9_takes ⟨by decide, by decide⟩ ml_X9_156 (mX9_takes hm hi hp hok (by omega) (by omega)) hm.o rfl rfl (Nat.le_of_ble_eq_true rfl) (Nat.le_of_ble_eq_true rfl) (Nat.le_of_ble_eq_true rfl) rfl dX9_rightUpTo_37 (nx_tI) (kx_tI ?_)
      intro Mx hM
      obtain ⟨p2, rd2, nu2, bd2, sc2, hm, hp⟩ := hM
      have hbs := bI_r (psT (c i) (pa, ir, fi, le, va, di, A, B)).isSome
      refine r_if_eq (tgt := 49) dX9_rightUpTo_40 (by decide) (by omega) (fun h40 => ?_) (fun h40 => ?_)
      ·
        refine r_iload_n dX9_rightUpTo_49 rfl ?_
        refine e_ireturn dX9_rightUpTo_50 rfl (Nat.le_of_ble_eq_true rfl) (Nat.le_of_ble_eq_true rfl) ?_
        have hs2 : psT (c i) (pa, ir, fi, le, va, di, A, B) = none := by
          cases h9 : psT (c i) (pa, ir, fi, le, va, di, A, B) with
          | none => rfl
          | some s2 => rw [h9] at h40; exact absurd h40 (by simp [bI])
        rw [hs2] at hp
        have e : prR len c = (i, (pa, ir, fi, le, va, di, A, B)) := by rw [hR, show (len - i).toNat = (len - (i + 1)).toNat + 1 by omega, psR, hs2]
        rw [e]
        exact oktI rfl ⟨_, _, _, _, _, hm, hp⟩
      ·
        refine r_iinc dX9_rightUpTo_43 rfl rfl ?_
        refine r_goto (tgt := 22) dX9_rightUpTo_46 (by decide) ?_
        refine J.loc (lsub_cons rfl (lsub_cons rfl (lsub_nil))) (ih22 _ _ ((psT (c i) (pa, ir, fi, le, va, di, A, B)).getD (pa, ir, fi, le, va, di, A, B)) ?_ ?_)
        · obtain ⟨s2, hs2⟩ := Option.isSome_iff_exists.mp (bI_t h40)
          rw [hs2] at hp ⊢
          refine ⟨by omega, by omega, psT_ok hok hs2, ?_, _, _, _, _, _, hm, hp⟩
          rw [hR, show (len - i).toNat = (len - (i + 1)).toNat + 1 by omega, psR, hs2]
          rfl
        · omega
  · exact ⟨by omega, by omega, ps0_ok, by simp [prR], _, _, _, _, _, hm, rfl, rfl, rfl, rfl, fun j a b => by have : j < 0 := b; omega, fun h => absurd h (by decide)⟩

set_option maxHeartbeats 4000000 in
theorem mX9_toldMany {M0 M : Mem} {ad : Int → Nat} {zA hA tA rA sA pA bA wA : Int → Int} {m len th rm bk rd nu bd sc : Int} {hs : Int64} {A B : Int → Int} (hm : RM M0 M ad zA hA tA rA sA pA bA wA m len th rm bk rd nu bd sc hs) (q0 : 0 ≤ rd ∧ rd ≤ 31) (q1 : ∀ j, 0 ≤ j → j < rd + 1 → pA (2 * j) = A j ∧ pA (2 * j + 1) = B j) : Ct KX9_toldMany [.ref (ad 112)] M 0 0 (rtI (smF (cntP A B) (rd + 1).toNat 0) M) := by
  refine Ct.of _ (by decide) rfl (Nat.le_of_ble_eq_true rfl) ?_
  refine r_iconst dX9_toldMany_0 ?_
  refine r_istore_n dX9_toldMany_1 (by decide) rfl ?_
  refine r_iconst dX9_toldMany_2 ?_
  refine r_istore_n dX9_toldMany_3 (by decide) rfl ?_
  refine J.loc (L' := [(0, some _), (1, some _), (2, some _)]) (lsub_cons rfl (lsub_cons rfl (lsub_cons rfl (lsub_nil)))) (loop2 (fun (j : Int) (y : Int) => 0 ≤ j ∧ j ≤ rd + 1 ∧ smF (cntP A B) (rd + 1).toNat 0 = y + smF (cntP A B) (rd + 1 - j).toNat j) (fun (j : Int) (y : Int) => (rd + 1 - j).toNat) (fun (j : Int) (y : Int) => J KX9_toldMany 0 0 _ 4 [(0, some (.ref (ad 112))), (1, some (vI y)), (2, some (vI j))] [] M _ _) (fun j y hI4 ih4 => ?_) _ _ ?_)
  ·
    obtain ⟨hj0, hj1, hy⟩ := hI4
    refine r_iload_n dX9_toldMany_4 rfl ?_
    refine r_aload_n dX9_toldMany_5 rfl ?_
    refine r_getfield clX9 11 (by decide) fl_X9_139 hm.o rfl dX9_toldMany_6 ?_
    refine r_icmp_gt (tgt := 42) dX9_toldMany_9 (by decide) (by omega) (by omega) (fun h9 => ?_) (fun h9 => ?_)
    ·
      refine r_iload_n dX9_toldMany_42 rfl ?_
      refine e_ireturn dX9_toldMany_43 rfl (Nat.le_of_ble_eq_true rfl) (Nat.le_of_ble_eq_true rfl) ?_
      exact okI (by rw [hy, show (rd + 1 - j).toNat = 0 by omega, smF]; omega)
    ·
      refine r_iload_n dX9_toldMany_12 rfl ?_
      refine r_aload_n dX9_toldMany_13 rfl ?_
      refine r_getfield clX9 10 (by decide) fl_X9_25 hm.o rfl dX9_toldMany_14 ?_
      refine r_iconst dX9_toldMany_17 ?_
      refine r_iload_n dX9_toldMany_18 rfl ?_
      refine r_imul dX9_toldMany_19 ?_
      refine r_iconst dX9_toldMany_20 ?_
      refine r_iadd dX9_toldMany_21 ?_
      refine r_iaload hm.p (by omega) (by omega) (by omega) dX9_toldMany_22 ?_
      refine r_aload_n dX9_toldMany_23 rfl ?_
      refine r_getfield clX9 10 (by decide) fl_X9_25 hm.o rfl dX9_toldMany_24 ?_
      refine r_iconst dX9_toldMany_27 ?_
      refine r_iload_n dX9_toldMany_28 rfl ?_
      refine r_imul dX9_toldMany_29 ?_
      refine r_iaload hm.p (by omega) (by omega) (by omega) dX9_toldMany_30 ?_
      refine r_isub dX9_toldMany_31 ?_
      refine r_iconst dX9_toldMany_32 ?_
      refine r_iadd dX9_toldMany_33 ?_
      refine r_iadd dX9_toldMany_34 ?_
      refine r_istore_n dX9_toldMany_35 (by decide) rfl ?_
      refine r_iinc dX9_toldMany_36 rfl rfl ?_
      refine r_goto (tgt := 4) dX9_toldMany_39 (by decide) ?_
      refine J.loc (lsub_cons rfl (lsub_cons rfl (lsub_cons rfl (lsub_nil)))) (ih4 _ _ ?_ ?_)
      · refine ⟨by omega, by omega, ?_⟩
        rw [hy, show (rd + 1 - j).toNat = (rd + 1 - (j + 1)).toNat + 1 by omega, smF, (q1 j hj0 (by omega)).1, (q1 j hj0 (by omega)).2]
        unfold cntP
        omega
      · omega
  · exact ⟨by omega, by omega, by simp⟩

set_option maxHeartbeats 4000000 in
theorem mX9_save_a {M0 M : Mem} {ad : Int → Nat} {zA hA tA rA sA pA bA wA : Int → Int} {m len th rm bk rd nu bd sc : Int} {hs : Int64} {σ : Sg3} {S : Int → Sg3} (hm : RM M0 M ad zA hA tA rA sA pA bA wA m len th rm bk rd nu bd sc hs) (hi : Inj ad) (hz : Zq zA σ) (hh : Hr hA m S) (q0 : 0 ≤ m ∧ m ≤ 6) (q1 : m < 6) : Ct KX9_save [.ref (ad 112)] M 0 0 (atV (fun M2 => ∃ h2 : Int → Int, RM M0 M2 ad zA h2 tA rA sA pA bA wA (svM m) len th rm bk rd nu bd sc hs ∧ Hr h2 (svM m) (svS m S σ))) := by
  refine Ct.of _ (by decide) rfl (Nat.le_of_ble_eq_true rfl) ?_
  refine r_aload_n dX9_save_0 rfl ?_
  refine r_getfield clX9 1 (by decide) fl_X9_38 hm.o rfl dX9_save_1 ?_
  refine r_bipush dX9_save_4 (by decide) ?_
  refine r_icmp_ne (tgt := 52) dX9_save_6 (by decide) (by omega) (by omega) (fun h6 => ?_) (fun h6 => ?_)
  ·
    refine r_iconst dX9_save_52 ?_
    refine r_istore_n dX9_save_53 (by decide) rfl ?_
    refine J.loc (L' := [(0, some _), (1, some _)]) (lsub_cons rfl (lsub_cons rfl (lsub_nil))) (loop3 (fun (i : Int) (M1 : Mem) (h1 : Int → Int) => 0 ≤ i ∧ i ≤ 246 ∧ RM M0 M1 ad zA h1 tA rA sA pA bA wA m len th rm bk rd nu bd sc hs ∧ (∀ q, 0 ≤ q → q < i → h1 (246 * m + q) = zA q) ∧ ∀ q, 0 ≤ q → q < 246 * m → h1 q = hA q) (fun (i : Int) (M1 : Mem) (h1 : Int → Int) => (246 - i).toNat) (fun (i : Int) (M1 : Mem) (h1 : Int → Int) => J KX9_save 0 0 _ 54 [(0, some (.ref (ad 112))), (1, some (vI i))] [] M1 _ _) (fun i M1 h1 hI54 ih54 => ?_) _ _ hA ?_)
    ·
      obtain ⟨hi0, hi1, hm, hq1, hq2⟩ := hI54
      refine r_iload_n dX9_save_54 rfl ?_
      refine r_sipush dX9_save_55 (by decide) ?_
      refine r_icmp_ge (tgt := 88) dX9_save_58 (by decide) (by omega) (by omega) (fun h58 => ?_) (fun h58 => ?_)
      ·
        refine r_aload_n dX9_save_88 rfl ?_
        refine r_dup dX9_save_89 ?_
        refine r_getfield clX9 1 (by decide) fl_X9_38 hm.o rfl dX9_save_90 ?_
        refine r_iconst dX9_save_93 ?_
        refine r_iadd dX9_save_94 ?_
        refine r_putfield clX9 1 (by decide) fl_X9_38 rfl hm.o rfl rfl (Nat.le_of_ble_eq_true rfl) dX9_save_95 ?_
        refine hm.w_states hi (fun Mx hm => ?_)
        refine e_return dX9_save_98 rfl (Nat.le_of_ble_eq_true rfl) (Nat.le_of_ble_eq_true rfl) ?_
        refine oktV ⟨h1, by unfold svM; rw [if_pos q1]; exact hm, fun j a b => ?_⟩
        unfold svM at b
        rw [if_pos q1] at b
        unfold svS
        rw [if_pos q1]
        by_cases e : j = m
        · rw [if_pos e, e]
          exact hz.cong (fun q x y => hq1 q x (by omega))
        · rw [if_neg e]
          exact (hh j a (by omega)).cong (fun q x y => hq2 _ (by omega) (by omega))
      ·
        refine r_aload_n dX9_save_61 rfl ?_
        refine r_getfield clX9 2 (by decide) fl_X9_13 hm.o rfl dX9_save_62 ?_
        refine r_sipush dX9_save_65 (by decide) ?_
        refine r_aload_n dX9_save_68 rfl ?_
        refine r_getfield clX9 1 (by decide) fl_X9_38 hm.o rfl dX9_save_69 ?_
        refine r_imul dX9_save_72 ?_
        refine r_iload_n dX9_save_73 rfl ?_
        refine r_iadd dX9_save_74 ?_
        refine r_aload_n dX9_save_75 rfl ?_
        refine r_getfield clX9 0 (by decide) fl_X9_7 hm.o rfl dX9_save_76 ?_
        refine r_iload_n dX9_save_79 rfl ?_
        refine r_iaload hm.z (by omega) (by omega) (by omega) dX9_save_80 ?_
        refine r_iastore hm.h (by omega) (by omega) (by omega) dX9_save_81 ?_
        refine hm.w_h hi (fun Mx hm => ?_)
        refine r_iinc dX9_save_82 rfl rfl ?_
        refine r_goto (tgt := 54) dX9_save_85 (by decide) ?_
        refine J.loc (lsub_cons rfl (lsub_cons rfl (lsub_nil))) (ih54 _ _ (uI h1 (246 * m + i) (zA i)) ?_ ?_)
        · refine ⟨by omega, by omega, hm, fun q a b => ?_, fun q a b => (uI_n _ (by omega)).trans (hq2 q a b)⟩
          by_cases e : q = i
          · rw [e, uI_s]
          · rw [uI_n _ (by omega)]; exact hq1 q a (by omega)
        · omega
    · exact ⟨by omega, by omega, hm, fun q a b => by omega, fun q a b => rfl⟩
  · omega

set_option maxHeartbeats 4000000 in
theorem mX9_save_b {M0 M : Mem} {ad : Int → Nat} {zA hA tA rA sA pA bA wA : Int → Int} {m len th rm bk rd nu bd sc : Int} {hs : Int64} {σ : Sg3} {S : Int → Sg3} (hm : RM M0 M ad zA hA tA rA sA pA bA wA m len th rm bk rd nu bd sc hs) (hi : Inj ad) (hz : Zq zA σ) (hh : Hr hA m S) (q0 : 0 ≤ m ∧ m ≤ 6) (q1 : m = 6) : Ct KX9_save [.ref (ad 112)] M 0 0 (atV (fun M2 => ∃ h2 : Int → Int, RM M0 M2 ad zA h2 tA rA sA pA bA wA (svM m) len th rm bk rd nu bd sc hs ∧ Hr h2 (svM m) (svS m S σ))) := by
  refine Ct.of _ (by decide) rfl (Nat.le_of_ble_eq_true rfl) ?_
  refine r_aload_n dX9_save_0 rfl ?_
  refine r_getfield clX9 1 (by decide) fl_X9_38 hm.o rfl dX9_save_1 ?_
  refine r_bipush dX9_save_4 (by decide) ?_
  refine r_icmp_ne (tgt := 52) dX9_save_6 (by decide) (by omega) (by omega) (fun h6 => ?_) (fun h6 => ?_)
  · omega
  ·
    refine r_sipush dX9_save_9 (by decide) ?_
    refine r_istore_n dX9_save_12 (by decide) rfl ?_
    refine J.loc (L' := [(0, some _), (1, some _)]) (lsub_cons rfl (lsub_cons rfl (lsub_nil))) (loop3 (fun (i : Int) (M1 : Mem) (h0 : Int → Int) => 246 ≤ i ∧ i ≤ 1476 ∧ RM M0 M1 ad zA h0 tA rA sA pA bA wA m len th rm bk rd nu bd sc hs ∧ (∀ q, 0 ≤ q → q < i - 246 → h0 q = hA (q + 246)) ∧ ∀ q, i - 246 ≤ q → q < 1476 → h0 q = hA q) (fun (i : Int) (M1 : Mem) (h0 : Int → Int) => (1476 - i).toNat) (fun (i : Int) (M1 : Mem) (h0 : Int → Int) => J KX9_save 0 0 _ 13 [(0, some (.ref (ad 112))), (1, some (vI i))] [] M1 _ _) (fun i M1 h0 hI13 ih13 => ?_) _ _ hA ?_)
    ·
      obtain ⟨hi0, hi1, hm, hs1, hs2⟩ := hI13
      refine r_iload_n dX9_save_13 rfl ?_
      refine r_sipush dX9_save_14 (by decide) ?_
      refine r_icmp_ge (tgt := 42) dX9_save_17 (by decide) (by omega) (by omega) (fun h17 => ?_) (fun h17 => ?_)
      ·
        refine r_aload_n dX9_save_42 rfl ?_
        refine r_dup dX9_save_43 ?_
        refine r_getfield clX9 1 (by decide) fl_X9_38 hm.o rfl dX9_save_44 ?_
        refine r_iconst dX9_save_47 ?_
        refine r_isub dX9_save_48 ?_
        refine r_putfield clX9 1 (by decide) fl_X9_38 rfl hm.o rfl rfl (Nat.le_of_ble_eq_true rfl) dX9_save_49 ?_
        refine hm.w_states hi (fun Mx hm => ?_)
        refine r_iconst dX9_save_52 ?_
        refine r_istore_n dX9_save_53 (by decide) rfl ?_
        refine J.loc (L' := [(0, some _), (1, some _)]) (lsub_cons rfl (lsub_cons rfl (lsub_nil))) (loop3 (fun (i : Int) (M1 : Mem) (h1 : Int → Int) => 0 ≤ i ∧ i ≤ 246 ∧ RM M0 M1 ad zA h1 tA rA sA pA bA wA (m - 1) len th rm bk rd nu bd sc hs ∧ (∀ q, 0 ≤ q → q < i → h1 (246 * (m - 1) + q) = zA q) ∧ ∀ q, 0 ≤ q → q < 246 * (m - 1) → h1 q = h0 q) (fun (i : Int) (M1 : Mem) (h1 : Int → Int) => (246 - i).toNat) (fun (i : Int) (M1 : Mem) (h1 : Int → Int) => J KX9_save 0 0 _ 54 [(0, some (.ref (ad 112))), (1, some (vI i))] [] M1 _ _) (fun i M1 h1 hI54 ih54 => ?_) _ _ h0 ?_)
        ·
          obtain ⟨hi0, hi1, hm, hq1, hq2⟩ := hI54
          refine r_iload_n dX9_save_54 rfl ?_
          refine r_sipush dX9_save_55 (by decide) ?_
          refine r_icmp_ge (tgt := 88) dX9_save_58 (by decide) (by omega) (by omega) (fun h58 => ?_) (fun h58 => ?_)
          ·
            refine r_aload_n dX9_save_88 rfl ?_
            refine r_dup dX9_save_89 ?_
            refine r_getfield clX9 1 (by decide) fl_X9_38 hm.o rfl dX9_save_90 ?_
            refine r_iconst dX9_save_93 ?_
            refine r_iadd dX9_save_94 ?_
            refine r_putfield clX9 1 (by decide) fl_X9_38 rfl hm.o rfl rfl (Nat.le_of_ble_eq_true rfl) dX9_save_95 ?_
            refine hm.w_states hi (fun Mx hm => ?_)
            refine e_return dX9_save_98 rfl (Nat.le_of_ble_eq_true rfl) (Nat.le_of_ble_eq_true rfl) ?_
            refine oktV ⟨h1, by unfold svM; rw [if_neg (by omega)]; rw [show (6 : Int) = m - 1 + 1 by omega]; exact hm, fun j a b => ?_⟩
            unfold svM at b
            rw [if_neg (by omega)] at b
            unfold svS
            rw [if_neg (by omega)]
            by_cases e : j = 5
            · rw [if_pos e, e]
              exact hz.cong (fun q x y => by rw [show 246 * 5 + q = 246 * (m - 1) + q by omega]; exact hq1 q x (by omega))
            · rw [if_neg e]
              exact (hh (j + 1) (by omega) (by omega)).cong (fun q x y => by rw [hq2 _ (by omega) (by omega), hs1 _ (by omega) (by omega), show 246 * j + q + 246 = 246 * (j + 1) + q by omega])
          ·
            refine r_aload_n dX9_save_61 rfl ?_
            refine r_getfield clX9 2 (by decide) fl_X9_13 hm.o rfl dX9_save_62 ?_
            refine r_sipush dX9_save_65 (by decide) ?_
            refine r_aload_n dX9_save_68 rfl ?_
            refine r_getfield clX9 1 (by decide) fl_X9_38 hm.o rfl dX9_save_69 ?_
            refine r_imul dX9_save_72 ?_
            refine r_iload_n dX9_save_73 rfl ?_
            refine r_iadd dX9_save_74 ?_
            refine r_aload_n dX9_save_75 rfl ?_
            refine r_getfield clX9 0 (by decide) fl_X9_7 hm.o rfl dX9_save_76 ?_
            refine r_iload_n dX9_save_79 rfl ?_
            refine r_iaload hm.z (by omega) (by omega) (by omega) dX9_save_80 ?_
            refine r_iastore hm.h (by omega) (by omega) (by omega) dX9_save_81 ?_
            refine hm.w_h hi (fun Mx hm => ?_)
            refine r_iinc dX9_save_82 rfl rfl ?_
            refine r_goto (tgt := 54) dX9_save_85 (by decide) ?_
            refine J.loc (lsub_cons rfl (lsub_cons rfl (lsub_nil))) (ih54 _ _ (uI h1 (246 * (m - 1) + i) (zA i)) ?_ ?_)
            · refine ⟨by omega, by omega, hm, fun q a b => ?_, fun q a b => (uI_n _ (by omega)).trans (hq2 q a b)⟩
              by_cases e : q = i
              · rw [e, uI_s]
              · rw [uI_n _ (by omega)]; exact hq1 q a (by omega)
            · omega
        · exact ⟨by omega, by omega, hm, fun q a b => by omega, fun q a b => rfl⟩
      ·
        refine r_aload_n dX9_save_20 rfl ?_
        refine r_getfield clX9 2 (by decide) fl_X9_13 hm.o rfl dX9_save_21 ?_
        refine r_iload_n dX9_save_24 rfl ?_
        refine r_sipush dX9_save_25 (by decide) ?_
        refine r_isub dX9_save_28 ?_
        refine r_aload_n dX9_save_29 rfl ?_
        refine r_getfield clX9 2 (by decide) fl_X9_13 hm.o rfl dX9_save_30 ?_
        refine r_iload_n dX9_save_33 rfl ?_
        refine r_iaload hm.h (by omega) (by omega) (by omega) dX9_save_34 ?_
        refine r_iastore hm.h (by omega) (by omega) (by omega) dX9_save_35 ?_
        refine hm.w_h hi (fun Mx hm => ?_)
        refine r_iinc dX9_save_36 rfl rfl ?_
        refine r_goto (tgt := 13) dX9_save_39 (by decide) ?_
        refine J.loc (lsub_cons rfl (lsub_cons rfl (lsub_nil))) (ih13 _ _ (uI h0 (i - 246) (h0 i)) ?_ ?_)
        · refine ⟨by omega, by omega, hm, fun q a b => ?_, fun q a b => (uI_n _ (by omega)).trans (hs2 q (by omega) b)⟩
          by_cases e : q = i - 246
          · rw [e, uI_s, show i - 246 + 246 = i by omega]; exact hs2 i (by omega) (by omega)
          · rw [uI_n _ e]; exact hs1 q a (by omega)
        · omega
    · exact ⟨by omega, by omega, hm, fun q a b => by omega, fun q a b => rfl⟩

theorem mX9_save {M0 M : Mem} {ad : Int → Nat} {zA hA tA rA sA pA bA wA : Int → Int} {m len th rm bk rd nu bd sc : Int} {hs : Int64} {σ : Sg3} {S : Int → Sg3} (hm : RM M0 M ad zA hA tA rA sA pA bA wA m len th rm bk rd nu bd sc hs) (hi : Inj ad) (hz : Zq zA σ) (hh : Hr hA m S) (q0 : 0 ≤ m ∧ m ≤ 6) : Ct KX9_save [.ref (ad 112)] M 0 0 (atV (fun M2 => ∃ h2 : Int → Int, RM M0 M2 ad zA h2 tA rA sA pA bA wA (svM m) len th rm bk rd nu bd sc hs ∧ Hr h2 (svM m) (svS m S σ))) := by
  by_cases e : m < 6
  · exact mX9_save_a hm hi hz hh q0 e
  · exact mX9_save_b hm hi hz hh q0 (by omega)

set_option maxHeartbeats 4000000 in
theorem mX9_layCombined {M0 M : Mem} {ad : Int → Nat} {zA hA tA rA sA pA bA wA : Int → Int} {m len th rm bk rd nu bd sc : Int} {hs : Int64} {n : Int → Int} {F : Int → Int → Int} {g : Int → Int} {i j how : Int} (hm : RM M0 M ad zA hA tA rA sA pA bA wA m len th rm bk rd nu bd sc hs) (hi : Inj ad) (hz : Zr zA n F g) (h0 : 0 ≤ i) (h1 : i < 4) (h2 : 0 ≤ j) (h3 : j < 4) (hv : Vld (n, F, g)) (q0 : 0 ≤ how ∧ how ≤ 3) : Ct KX9_layCombined [.ref (ad 112), vI i, vI j, vI how] M 0 0 (atV (fun M2 => ∃ r2 : Int → Int, RM M0 M2 ad zA hA tA r2 sA pA bA wA m len th (jnF (n i) (F i) (n j) (F j) how).1 bk rd nu bd sc hs ∧ (0 ≤ (jnF (n i) (F i) (n j) (F j) how).1 ∧ (jnF (n i) (F i) (n j) (F j) how).1 ≤ 120) ∧ ∀ p, 0 ≤ p → p < (jnF (n i) (F i) (n j) (F j) how).1 → r2 p = (jnF (n i) (F i) (n j) (F j) how).2 p ∧ 0 ≤ (jnF (n i) (F i) (n j) (F j) how).2 p ∧ (jnF (n i) (F i) (n j) (F j) how).2 p ≤ 9999)) := by
  refine Ct.of _ (by decide) rfl (Nat.le_of_ble_eq_true rfl) ?_
  have hzi := hz.n h0 h1
  have hzj := hz.n h2 h3
  have hsi := hv.1 i h0 h1
  have hsj := hv.1 j h2 h3
  dsimp only at hsi hsj
  have hjn := jnF_spec hzi.2 hzj.2 hsi hsj q0
  refine r_aload_n dX9_layCombined_0 rfl ?_
  refine r_iconst dX9_layCombined_1 ?_
  refine r_putfield clX9 7 (by decide) fl_X9_56 rfl hm.o rfl rfl (Nat.le_of_ble_eq_true rfl) dX9_layCombined_2 ?_
  refine hm.w_rowMany hi (fun Mx hm => ?_)
  refine r_iconst dX9_layCombined_5 ?_
  refine r_istore dX9_layCombined_6 (by decide) rfl ?_
  refine r_iconst dX9_layCombined_8 ?_
  refine r_istore dX9_layCombined_9 (by decide) rfl ?_
  refine J.loc (L' := [(0, some _), (1, some _), (2, some _), (3, some _), (4, some _), (5, some _)]) (lsub_cons rfl (lsub_cons rfl (lsub_cons rfl (lsub_cons rfl (lsub_cons rfl (lsub_cons rfl (lsub_nil))))))) (loop5 (fun (a : Int) (b : Int) (M1 : Mem) (r1 : Int → Int) (rm1 : Int) => 0 ≤ a ∧ a ≤ n i ∧ 0 ≤ b ∧ b ≤ n j ∧ RM M0 M1 ad zA hA tA r1 sA pA bA wA m len th rm1 bk rd nu bd sc hs ∧ 0 ≤ rm1 ∧ rm1 ≤ a + b ∧ Cb (n i) (F i) (n j) (F j) how a b rm1 r1) (fun (a : Int) (b : Int) (M1 : Mem) (r1 : Int → Int) (rm1 : Int) => (n i - a).toNat + (n j - b).toNat) (fun (a : Int) (b : Int) (M1 : Mem) (r1 : Int → Int) (rm1 : Int) => J KX9_layCombined 0 0 _ 11 [(0, some (.ref (ad 112))), (1, some (vI i)), (2, some (vI j)), (3, some (vI how)), (4, some (vI a)), (5, some (vI b))] [] M1 _ _) (fun a b M1 r1 rm1 hI11 ih11 => ?_) _ _ _ rA 0 ?_)
  ·
    obtain ⟨ha0, ha1, hb0, hb1, hm, hr0, hr1, hcb⟩ := hI11
    refine r_iload dX9_layCombined_11 rfl ?_
    refine r_aload_n dX9_layCombined_13 rfl ?_
    refine r_iload_n dX9_layCombined_14 rfl ?_
    refine r_callV1 okX9_many ⟨by decide, by decide⟩ ml_X9_45 (mX9_many hm hz (by omega) (by omega)) hm.o rfl rfl (Nat.le_of_ble_eq_true rfl) (Nat.le_of_ble_eq_true rfl) (Nat.le_of_ble_eq_true rfl) rfl dX9_layCombined_15 (nx_I) (kx_I ?_)
    refine r_icmp_lt (tgt := 31) dX9_layCombined_18 (by decide) (by omega) (by omega) (fun h18 => ?_) (fun h18 => ?_)
    ·
      rcases (show (a < n i ∧ n j ≤ b) ∨ ((a < n i ∧ b < n j) ∧ F i a < F j b) ∨ (n i ≤ a ∧ b < n j) ∨ ((a < n i ∧ b < n j) ∧ F j b < F i a) ∨ ((a < n i ∧ b < n j) ∧ F i a = F j b) by omega) with hc31 | hc31 | hc31 | hc31 | hc31
      ·
        refine r_iload dX9_layCombined_31 rfl ?_
        refine r_aload_n dX9_layCombined_33 rfl ?_
        refine r_iload_n dX9_layCombined_34 rfl ?_
        refine r_callV1 okX9_many ⟨by decide, by decide⟩ ml_X9_45 (mX9_many hm hz (by omega) (by omega)) hm.o rfl rfl (Nat.le_of_ble_eq_true rfl) (Nat.le_of_ble_eq_true rfl) (Nat.le_of_ble_eq_true rfl) rfl dX9_layCombined_35 (nx_I) (kx_I ?_)
        refine r_icmp_ge (tgt := 51) dX9_layCombined_38 (by decide) (by omega) (by omega) (fun h38 => ?_) (fun h38 => ?_)
        · omega
        ·
          refine r_aload_n dX9_layCombined_41 rfl ?_
          refine r_iload_n dX9_layCombined_42 rfl ?_
          refine r_iload dX9_layCombined_43 rfl ?_
          refine r_callV2 okX9_at ⟨by decide, by decide⟩ ml_X9_49 (mX9_at hm hz (by omega) (by omega) (by omega) (by omega)) hm.o rfl rfl (Nat.le_of_ble_eq_true rfl) (Nat.le_of_ble_eq_true rfl) (Nat.le_of_ble_eq_true rfl) rfl dX9_layCombined_45 (nx_I) (kx_I ?_)
          have hfa := (hz.f h0 h1 (p := a) (by omega) (by omega)).2
          refine r_goto (tgt := 54) dX9_layCombined_48 (by decide) ?_
          refine r_istore dX9_layCombined_54 (by decide) rfl ?_
          refine r_iload dX9_layCombined_56 rfl ?_
          refine r_aload_n dX9_layCombined_58 rfl ?_
          refine r_iload_n dX9_layCombined_59 rfl ?_
          refine r_callV1 okX9_many ⟨by decide, by decide⟩ ml_X9_45 (mX9_many hm hz (by omega) (by omega)) hm.o rfl rfl (Nat.le_of_ble_eq_true rfl) (Nat.le_of_ble_eq_true rfl) (Nat.le_of_ble_eq_true rfl) rfl dX9_layCombined_60 (nx_I) (kx_I ?_)
          refine r_icmp_ge (tgt := 76) dX9_layCombined_63 (by decide) (by omega) (by omega) (fun h63 => ?_) (fun h63 => ?_)
          ·
            refine r_sipush dX9_layCombined_76 (by decide) ?_
            refine r_istore dX9_layCombined_79 (by decide) rfl ?_
            refine r_iload dX9_layCombined_81 rfl ?_
            refine r_iload dX9_layCombined_83 rfl ?_
            refine r_icmp_ge (tgt := 93) dX9_layCombined_85 (by decide) (by omega) (by omega) (fun h85 => ?_) (fun h85 => ?_)
            · omega
            ·
              refine r_iload dX9_layCombined_88 rfl ?_
              refine r_goto (tgt := 95) dX9_layCombined_90 (by decide) ?_
              refine r_istore dX9_layCombined_95 (by decide) rfl ?_
              refine r_iload dX9_layCombined_97 rfl ?_
              refine r_iload dX9_layCombined_99 rfl ?_
              refine r_icmp_ne (tgt := 108) dX9_layCombined_101 (by decide) (by omega) (by omega) (fun h101 => ?_) (fun h101 => ?_)
              · omega
              ·
                refine r_iconst dX9_layCombined_104 ?_
                refine r_goto (tgt := 109) dX9_layCombined_105 (by decide) ?_
                refine r_iload dX9_layCombined_109 rfl ?_
                refine r_iload dX9_layCombined_111 rfl ?_
                refine r_icmp_ne (tgt := 120) dX9_layCombined_113 (by decide) (by omega) (by omega) (fun h113 => ?_) (fun h113 => ?_)
                ·
                  refine r_iconst dX9_layCombined_120 ?_
                  refine r_iload_n dX9_layCombined_121 rfl ?_
                  refine r_callS3 okX9_belongs ⟨by decide, by decide⟩ ml_X9_113 (mX9_belongs (by omega) (by omega) q0 rfl) (Nat.le_of_ble_eq_true rfl) (Nat.le_of_ble_eq_true rfl) (Nat.le_of_ble_eq_true rfl) rfl dX9_layCombined_122 (nx_I) (kx_I ?_)
                  have hb01 := blg_01 0 1 how
                  have hb10 := blg_01 1 0 how
                  have hb11 := blg_01 1 1 how
                  refine r_if_eq (tgt := 149) dX9_layCombined_125 (by decide) (by omega) (fun h125 => ?_) (fun h125 => ?_)
                  ·
                    refine r_iload dX9_layCombined_149 rfl ?_
                    refine r_iload dX9_layCombined_151 rfl ?_
                    refine r_iload dX9_layCombined_153 rfl ?_
                    refine r_icmp_ne (tgt := 162) dX9_layCombined_155 (by decide) (by omega) (by omega) (fun h155 => ?_) (fun h155 => ?_)
                    · omega
                    ·
                      refine r_iconst dX9_layCombined_158 ?_
                      refine r_goto (tgt := 163) dX9_layCombined_159 (by decide) ?_
                      refine r_iadd dX9_layCombined_163 ?_
                      refine r_istore dX9_layCombined_164 (by decide) rfl ?_
                      refine r_iload dX9_layCombined_166 rfl ?_
                      refine r_iload dX9_layCombined_168 rfl ?_
                      refine r_iload dX9_layCombined_170 rfl ?_
                      refine r_icmp_ne (tgt := 179) dX9_layCombined_172 (by decide) (by omega) (by omega) (fun h172 => ?_) (fun h172 => ?_)
                      ·
                        refine r_iconst dX9_layCombined_179 ?_
                        refine r_iadd dX9_layCombined_180 ?_
                        refine r_istore dX9_layCombined_181 (by decide) rfl ?_
                        refine r_goto (tgt := 11) dX9_layCombined_183 (by decide) ?_
                        refine J.loc (lsub_cons rfl (lsub_cons rfl (lsub_cons rfl (lsub_cons rfl (lsub_cons rfl (lsub_cons rfl (lsub_nil))))))) (ih11 _ _ _ r1 rm1 ?_ ?_)
                        · exact ⟨by omega, by omega, by omega, by omega, hm, by omega, by omega, hcb.stepN hzi.2.1 hzj.2.1 hsi hsj ha0 hb0 (v := F i a) (x := 1) (y := 0) (Or.inl ⟨rfl, by omega, by omega, by omega⟩) (Or.inr ⟨rfl, fun h => by omega, by omega⟩) (by omega) (by omega)⟩
                        · omega
                      · omega
                  ·
                    refine r_aload_n dX9_layCombined_128 rfl ?_
                    refine r_getfield clX9 6 (by decide) fl_X9_19 hm.o rfl dX9_layCombined_129 ?_
                    refine r_aload_n dX9_layCombined_132 rfl ?_
                    refine r_getfield clX9 7 (by decide) fl_X9_56 hm.o rfl dX9_layCombined_133 ?_
                    refine r_iload dX9_layCombined_136 rfl ?_
                    refine r_iastore hm.r (by omega) (by omega) (by omega) dX9_layCombined_138 ?_
                    refine hm.w_r hi (fun Mx hm => ?_)
                    refine r_aload_n dX9_layCombined_139 rfl ?_
                    refine r_dup dX9_layCombined_140 ?_
                    refine r_getfield clX9 7 (by decide) fl_X9_56 hm.o rfl dX9_layCombined_141 ?_
                    refine r_iconst dX9_layCombined_144 ?_
                    refine r_iadd dX9_layCombined_145 ?_
                    refine r_putfield clX9 7 (by decide) fl_X9_56 rfl hm.o rfl rfl (Nat.le_of_ble_eq_true rfl) dX9_layCombined_146 ?_
                    refine hm.w_rowMany hi (fun Mx hm => ?_)
                    refine r_iload dX9_layCombined_149 rfl ?_
                    refine r_iload dX9_layCombined_151 rfl ?_
                    refine r_iload dX9_layCombined_153 rfl ?_
                    refine r_icmp_ne (tgt := 162) dX9_layCombined_155 (by decide) (by omega) (by omega) (fun h155 => ?_) (fun h155 => ?_)
                    · omega
                    ·
                      refine r_iconst dX9_layCombined_158 ?_
                      refine r_goto (tgt := 163) dX9_layCombined_159 (by decide) ?_
                      refine r_iadd dX9_layCombined_163 ?_
                      refine r_istore dX9_layCombined_164 (by decide) rfl ?_
                      refine r_iload dX9_layCombined_166 rfl ?_
                      refine r_iload dX9_layCombined_168 rfl ?_
                      refine r_iload dX9_layCombined_170 rfl ?_
                      refine r_icmp_ne (tgt := 179) dX9_layCombined_172 (by decide) (by omega) (by omega) (fun h172 => ?_) (fun h172 => ?_)
                      ·
                        refine r_iconst dX9_layCombined_179 ?_
                        refine r_iadd dX9_layCombined_180 ?_
                        refine r_istore dX9_layCombined_181 (by decide) rfl ?_
                        refine r_goto (tgt := 11) dX9_layCombined_183 (by decide) ?_
                        refine J.loc (lsub_cons rfl (lsub_cons rfl (lsub_cons rfl (lsub_cons rfl (lsub_cons rfl (lsub_cons rfl (lsub_nil))))))) (ih11 _ _ _ (uI r1 rm1 (F i a)) (rm1 + 1) ?_ ?_)
                        · exact ⟨by omega, by omega, by omega, by omega, hm, by omega, by omega, hcb.stepY hzi.2.1 hzj.2.1 hsi hsj ha0 hb0 hr0 (v := F i a) (x := 1) (y := 0) (Or.inl ⟨rfl, by omega, by omega, by omega⟩) (Or.inr ⟨rfl, fun h => by omega, by omega⟩) (by omega) (by omega)⟩
                        · omega
                      · omega
                · omega
          · omega
      ·
        refine r_iload dX9_layCombined_31 rfl ?_
        refine r_aload_n dX9_layCombined_33 rfl ?_
        refine r_iload_n dX9_layCombined_34 rfl ?_
        refine r_callV1 okX9_many ⟨by decide, by decide⟩ ml_X9_45 (mX9_many hm hz (by omega) (by omega)) hm.o rfl rfl (Nat.le_of_ble_eq_true rfl) (Nat.le_of_ble_eq_true rfl) (Nat.le_of_ble_eq_true rfl) rfl dX9_layCombined_35 (nx_I) (kx_I ?_)
        refine r_icmp_ge (tgt := 51) dX9_layCombined_38 (by decide) (by omega) (by omega) (fun h38 => ?_) (fun h38 => ?_)
        · omega
        ·
          refine r_aload_n dX9_layCombined_41 rfl ?_
          refine r_iload_n dX9_layCombined_42 rfl ?_
          refine r_iload dX9_layCombined_43 rfl ?_
          refine r_callV2 okX9_at ⟨by decide, by decide⟩ ml_X9_49 (mX9_at hm hz (by omega) (by omega) (by omega) (by omega)) hm.o rfl rfl (Nat.le_of_ble_eq_true rfl) (Nat.le_of_ble_eq_true rfl) (Nat.le_of_ble_eq_true rfl) rfl dX9_layCombined_45 (nx_I) (kx_I ?_)
          have hfa := (hz.f h0 h1 (p := a) (by omega) (by omega)).2
          refine r_goto (tgt := 54) dX9_layCombined_48 (by decide) ?_
          refine r_istore dX9_layCombined_54 (by decide) rfl ?_
          refine r_iload dX9_layCombined_56 rfl ?_
          refine r_aload_n dX9_layCombined_58 rfl ?_
          refine r_iload_n dX9_layCombined_59 rfl ?_
          refine r_callV1 okX9_many ⟨by decide, by decide⟩ ml_X9_45 (mX9_many hm hz (by omega) (by omega)) hm.o rfl rfl (Nat.le_of_ble_eq_true rfl) (Nat.le_of_ble_eq_true rfl) (Nat.le_of_ble_eq_true rfl) rfl dX9_layCombined_60 (nx_I) (kx_I ?_)
          refine r_icmp_ge (tgt := 76) dX9_layCombined_63 (by decide) (by omega) (by omega) (fun h63 => ?_) (fun h63 => ?_)
          · omega
          ·
            refine r_aload_n dX9_layCombined_66 rfl ?_
            refine r_iload_n dX9_layCombined_67 rfl ?_
            refine r_iload dX9_layCombined_68 rfl ?_
            refine r_callV2 okX9_at ⟨by decide, by decide⟩ ml_X9_49 (mX9_at hm hz (by omega) (by omega) (by omega) (by omega)) hm.o rfl rfl (Nat.le_of_ble_eq_true rfl) (Nat.le_of_ble_eq_true rfl) (Nat.le_of_ble_eq_true rfl) rfl dX9_layCombined_70 (nx_I) (kx_I ?_)
            have hfb := (hz.f h2 h3 (p := b) (by omega) (by omega)).2
            refine r_goto (tgt := 79) dX9_layCombined_73 (by decide) ?_
            refine r_istore dX9_layCombined_79 (by decide) rfl ?_
            refine r_iload dX9_layCombined_81 rfl ?_
            refine r_iload dX9_layCombined_83 rfl ?_
            refine r_icmp_ge (tgt := 93) dX9_layCombined_85 (by decide) (by omega) (by omega) (fun h85 => ?_) (fun h85 => ?_)
            · omega
            ·
              refine r_iload dX9_layCombined_88 rfl ?_
              refine r_goto (tgt := 95) dX9_layCombined_90 (by decide) ?_
              refine r_istore dX9_layCombined_95 (by decide) rfl ?_
              refine r_iload dX9_layCombined_97 rfl ?_
              refine r_iload dX9_layCombined_99 rfl ?_
              refine r_icmp_ne (tgt := 108) dX9_layCombined_101 (by decide) (by omega) (by omega) (fun h101 => ?_) (fun h101 => ?_)
              · omega
              ·
                refine r_iconst dX9_layCombined_104 ?_
                refine r_goto (tgt := 109) dX9_layCombined_105 (by decide) ?_
                refine r_iload dX9_layCombined_109 rfl ?_
                refine r_iload dX9_layCombined_111 rfl ?_
                refine r_icmp_ne (tgt := 120) dX9_layCombined_113 (by decide) (by omega) (by omega) (fun h113 => ?_) (fun h113 => ?_)
                ·
                  refine r_iconst dX9_layCombined_120 ?_
                  refine r_iload_n dX9_layCombined_121 rfl ?_
                  refine r_callS3 okX9_belongs ⟨by decide, by decide⟩ ml_X9_113 (mX9_belongs (by omega) (by omega) q0 rfl) (Nat.le_of_ble_eq_true rfl) (Nat.le_of_ble_eq_true rfl) (Nat.le_of_ble_eq_true rfl) rfl dX9_layCombined_122 (nx_I) (kx_I ?_)
                  have hb01 := blg_01 0 1 how
                  have hb10 := blg_01 1 0 how
                  have hb11 := blg_01 1 1 how
                  refine r_if_eq (tgt := 149) dX9_layCombined_125 (by decide) (by omega) (fun h125 => ?_) (fun h125 => ?_)
                  ·
                    refine r_iload dX9_layCombined_149 rfl ?_
                    refine r_iload dX9_layCombined_151 rfl ?_
                    refine r_iload dX9_layCombined_153 rfl ?_
                    refine r_icmp_ne (tgt := 162) dX9_layCombined_155 (by decide) (by omega) (by omega) (fun h155 => ?_) (fun h155 => ?_)
                    · omega
                    ·
                      refine r_iconst dX9_layCombined_158 ?_
                      refine r_goto (tgt := 163) dX9_layCombined_159 (by decide) ?_
                      refine r_iadd dX9_layCombined_163 ?_
                      refine r_istore dX9_layCombined_164 (by decide) rfl ?_
                      refine r_iload dX9_layCombined_166 rfl ?_
                      refine r_iload dX9_layCombined_168 rfl ?_
                      refine r_iload dX9_layCombined_170 rfl ?_
                      refine r_icmp_ne (tgt := 179) dX9_layCombined_172 (by decide) (by omega) (by omega) (fun h172 => ?_) (fun h172 => ?_)
                      ·
                        refine r_iconst dX9_layCombined_179 ?_
                        refine r_iadd dX9_layCombined_180 ?_
                        refine r_istore dX9_layCombined_181 (by decide) rfl ?_
                        refine r_goto (tgt := 11) dX9_layCombined_183 (by decide) ?_
                        refine J.loc (lsub_cons rfl (lsub_cons rfl (lsub_cons rfl (lsub_cons rfl (lsub_cons rfl (lsub_cons rfl (lsub_nil))))))) (ih11 _ _ _ r1 rm1 ?_ ?_)
                        · exact ⟨by omega, by omega, by omega, by omega, hm, by omega, by omega, hcb.stepN hzi.2.1 hzj.2.1 hsi hsj ha0 hb0 (v := F i a) (x := 1) (y := 0) (Or.inl ⟨rfl, by omega, by omega, by omega⟩) (Or.inr ⟨rfl, fun h => by omega, by omega⟩) (by omega) (by omega)⟩
                        · omega
                      · omega
                  ·
                    refine r_aload_n dX9_layCombined_128 rfl ?_
                    refine r_getfield clX9 6 (by decide) fl_X9_19 hm.o rfl dX9_layCombined_129 ?_
                    refine r_aload_n dX9_layCombined_132 rfl ?_
                    refine r_getfield clX9 7 (by decide) fl_X9_56 hm.o rfl dX9_layCombined_133 ?_
                    refine r_iload dX9_layCombined_136 rfl ?_
                    refine r_iastore hm.r (by omega) (by omega) (by omega) dX9_layCombined_138 ?_
                    refine hm.w_r hi (fun Mx hm => ?_)
                    refine r_aload_n dX9_layCombined_139 rfl ?_
                    refine r_dup dX9_layCombined_140 ?_
                    refine r_getfield clX9 7 (by decide) fl_X9_56 hm.o rfl dX9_layCombined_141 ?_
                    refine r_iconst dX9_layCombined_144 ?_
                    refine r_iadd dX9_layCombined_145 ?_
                    refine r_putfield clX9 7 (by decide) fl_X9_56 rfl hm.o rfl rfl (Nat.le_of_ble_eq_true rfl) dX9_layCombined_146 ?_
                    refine hm.w_rowMany hi (fun Mx hm => ?_)
                    refine r_iload dX9_layCombined_149 rfl ?_
                    refine r_iload dX9_layCombined_151 rfl ?_
                    refine r_iload dX9_layCombined_153 rfl ?_
                    refine r_icmp_ne (tgt := 162) dX9_layCombined_155 (by decide) (by omega) (by omega) (fun h155 => ?_) (fun h155 => ?_)
                    · omega
                    ·
                      refine r_iconst dX9_layCombined_158 ?_
                      refine r_goto (tgt := 163) dX9_layCombined_159 (by decide) ?_
                      refine r_iadd dX9_layCombined_163 ?_
                      refine r_istore dX9_layCombined_164 (by decide) rfl ?_
                      refine r_iload dX9_layCombined_166 rfl ?_
                      refine r_iload dX9_layCombined_168 rfl ?_
                      refine r_iload dX9_layCombined_170 rfl ?_
                      refine r_icmp_ne (tgt := 179) dX9_layCombined_172 (by decide) (by omega) (by omega) (fun h172 => ?_) (fun h172 => ?_)
                      ·
                        refine r_iconst dX9_layCombined_179 ?_
                        refine r_iadd dX9_layCombined_180 ?_
                        refine r_istore dX9_layCombined_181 (by decide) rfl ?_
                        refine r_goto (tgt := 11) dX9_layCombined_183 (by decide) ?_
                        refine J.loc (lsub_cons rfl (lsub_cons rfl (lsub_cons rfl (lsub_cons rfl (lsub_cons rfl (lsub_cons rfl (lsub_nil))))))) (ih11 _ _ _ (uI r1 rm1 (F i a)) (rm1 + 1) ?_ ?_)
                        · exact ⟨by omega, by omega, by omega, by omega, hm, by omega, by omega, hcb.stepY hzi.2.1 hzj.2.1 hsi hsj ha0 hb0 hr0 (v := F i a) (x := 1) (y := 0) (Or.inl ⟨rfl, by omega, by omega, by omega⟩) (Or.inr ⟨rfl, fun h => by omega, by omega⟩) (by omega) (by omega)⟩
                        · omega
                      · omega
                · omega
      ·
        refine r_iload dX9_layCombined_31 rfl ?_
        refine r_aload_n dX9_layCombined_33 rfl ?_
        refine r_iload_n dX9_layCombined_34 rfl ?_
        refine r_callV1 okX9_many ⟨by decide, by decide⟩ ml_X9_45 (mX9_many hm hz (by omega) (by omega)) hm.o rfl rfl (Nat.le_of_ble_eq_true rfl) (Nat.le_of_ble_eq_true rfl) (Nat.le_of_ble_eq_true rfl) rfl dX9_layCombined_35 (nx_I) (kx_I ?_)
        refine r_icmp_ge (tgt := 51) dX9_layCombined_38 (by decide) (by omega) (by omega) (fun h38 => ?_) (fun h38 => ?_)
        ·
          refine r_sipush dX9_layCombined_51 (by decide) ?_
          refine r_istore dX9_layCombined_54 (by decide) rfl ?_
          refine r_iload dX9_layCombined_56 rfl ?_
          refine r_aload_n dX9_layCombined_58 rfl ?_
          refine r_iload_n dX9_layCombined_59 rfl ?_
          refine r_callV1 okX9_many ⟨by decide, by decide⟩ ml_X9_45 (mX9_many hm hz (by omega) (by omega)) hm.o rfl rfl (Nat.le_of_ble_eq_true rfl) (Nat.le_of_ble_eq_true rfl) (Nat.le_of_ble_eq_true rfl) rfl dX9_layCombined_60 (nx_I) (kx_I ?_)
          refine r_icmp_ge (tgt := 76) dX9_layCombined_63 (by decide) (by omega) (by omega) (fun h63 => ?_) (fun h63 => ?_)
          · omega
          ·
            refine r_aload_n dX9_layCombined_66 rfl ?_
            refine r_iload_n dX9_layCombined_67 rfl ?_
            refine r_iload dX9_layCombined_68 rfl ?_
            refine r_callV2 okX9_at ⟨by decide, by decide⟩ ml_X9_49 (mX9_at hm hz (by omega) (by omega) (by omega) (by omega)) hm.o rfl rfl (Nat.le_of_ble_eq_true rfl) (Nat.le_of_ble_eq_true rfl) (Nat.le_of_ble_eq_true rfl) rfl dX9_layCombined_70 (nx_I) (kx_I ?_)
            have hfb := (hz.f h2 h3 (p := b) (by omega) (by omega)).2
            refine r_goto (tgt := 79) dX9_layCombined_73 (by decide) ?_
            refine r_istore dX9_layCombined_79 (by decide) rfl ?_
            refine r_iload dX9_layCombined_81 rfl ?_
            refine r_iload dX9_layCombined_83 rfl ?_
            refine r_icmp_ge (tgt := 93) dX9_layCombined_85 (by decide) (by omega) (by omega) (fun h85 => ?_) (fun h85 => ?_)
            ·
              refine r_iload dX9_layCombined_93 rfl ?_
              refine r_istore dX9_layCombined_95 (by decide) rfl ?_
              refine r_iload dX9_layCombined_97 rfl ?_
              refine r_iload dX9_layCombined_99 rfl ?_
              refine r_icmp_ne (tgt := 108) dX9_layCombined_101 (by decide) (by omega) (by omega) (fun h101 => ?_) (fun h101 => ?_)
              ·
                refine r_iconst dX9_layCombined_108 ?_
                refine r_iload dX9_layCombined_109 rfl ?_
                refine r_iload dX9_layCombined_111 rfl ?_
                refine r_icmp_ne (tgt := 120) dX9_layCombined_113 (by decide) (by omega) (by omega) (fun h113 => ?_) (fun h113 => ?_)
                · omega
                ·
                  refine r_iconst dX9_layCombined_116 ?_
                  refine r_goto (tgt := 121) dX9_layCombined_117 (by decide) ?_
                  refine r_iload_n dX9_layCombined_121 rfl ?_
                  refine r_callS3 okX9_belongs ⟨by decide, by decide⟩ ml_X9_113 (mX9_belongs (by omega) (by omega) q0 rfl) (Nat.le_of_ble_eq_true rfl) (Nat.le_of_ble_eq_true rfl) (Nat.le_of_ble_eq_true rfl) rfl dX9_layCombined_122 (nx_I) (kx_I ?_)
                  have hb01 := blg_01 0 1 how
                  have hb10 := blg_01 1 0 how
                  have hb11 := blg_01 1 1 how
                  refine r_if_eq (tgt := 149) dX9_layCombined_125 (by decide) (by omega) (fun h125 => ?_) (fun h125 => ?_)
                  ·
                    refine r_iload dX9_layCombined_149 rfl ?_
                    refine r_iload dX9_layCombined_151 rfl ?_
                    refine r_iload dX9_layCombined_153 rfl ?_
                    refine r_icmp_ne (tgt := 162) dX9_layCombined_155 (by decide) (by omega) (by omega) (fun h155 => ?_) (fun h155 => ?_)
                    ·
                      refine r_iconst dX9_layCombined_162 ?_
                      refine r_iadd dX9_layCombined_163 ?_
                      refine r_istore dX9_layCombined_164 (by decide) rfl ?_
                      refine r_iload dX9_layCombined_166 rfl ?_
                      refine r_iload dX9_layCombined_168 rfl ?_
                      refine r_iload dX9_layCombined_170 rfl ?_
                      refine r_icmp_ne (tgt := 179) dX9_layCombined_172 (by decide) (by omega) (by omega) (fun h172 => ?_) (fun h172 => ?_)
                      · omega
                      ·
                        refine r_iconst dX9_layCombined_175 ?_
                        refine r_goto (tgt := 180) dX9_layCombined_176 (by decide) ?_
                        refine r_iadd dX9_layCombined_180 ?_
                        refine r_istore dX9_layCombined_181 (by decide) rfl ?_
                        refine r_goto (tgt := 11) dX9_layCombined_183 (by decide) ?_
                        refine J.loc (lsub_cons rfl (lsub_cons rfl (lsub_cons rfl (lsub_cons rfl (lsub_cons rfl (lsub_cons rfl (lsub_nil))))))) (ih11 _ _ _ r1 rm1 ?_ ?_)
                        · exact ⟨by omega, by omega, by omega, by omega, hm, by omega, by omega, hcb.stepN hzi.2.1 hzj.2.1 hsi hsj ha0 hb0 (v := F j b) (x := 0) (y := 1) (Or.inr ⟨rfl, fun h => by omega, by omega⟩) (Or.inl ⟨rfl, by omega, by omega, by omega⟩) (by omega) (by omega)⟩
                        · omega
                    · omega
                  ·
                    refine r_aload_n dX9_layCombined_128 rfl ?_
                    refine r_getfield clX9 6 (by decide) fl_X9_19 hm.o rfl dX9_layCombined_129 ?_
                    refine r_aload_n dX9_layCombined_132 rfl ?_
                    refine r_getfield clX9 7 (by decide) fl_X9_56 hm.o rfl dX9_layCombined_133 ?_
                    refine r_iload dX9_layCombined_136 rfl ?_
                    refine r_iastore hm.r (by omega) (by omega) (by omega) dX9_layCombined_138 ?_
                    refine hm.w_r hi (fun Mx hm => ?_)
                    refine r_aload_n dX9_layCombined_139 rfl ?_
                    refine r_dup dX9_layCombined_140 ?_
                    refine r_getfield clX9 7 (by decide) fl_X9_56 hm.o rfl dX9_layCombined_141 ?_
                    refine r_iconst dX9_layCombined_144 ?_
                    refine r_iadd dX9_layCombined_145 ?_
                    refine r_putfield clX9 7 (by decide) fl_X9_56 rfl hm.o rfl rfl (Nat.le_of_ble_eq_true rfl) dX9_layCombined_146 ?_
                    refine hm.w_rowMany hi (fun Mx hm => ?_)
                    refine r_iload dX9_layCombined_149 rfl ?_
                    refine r_iload dX9_layCombined_151 rfl ?_
                    refine r_iload dX9_layCombined_153 rfl ?_
                    refine r_icmp_ne (tgt := 162) dX9_layCombined_155 (by decide) (by omega) (by omega) (fun h155 => ?_) (fun h155 => ?_)
                    ·
                      refine r_iconst dX9_layCombined_162 ?_
                      refine r_iadd dX9_layCombined_163 ?_
                      refine r_istore dX9_layCombined_164 (by decide) rfl ?_
                      refine r_iload dX9_layCombined_166 rfl ?_
                      refine r_iload dX9_layCombined_168 rfl ?_
                      refine r_iload dX9_layCombined_170 rfl ?_
                      refine r_icmp_ne (tgt := 179) dX9_layCombined_172 (by decide) (by omega) (by omega) (fun h172 => ?_) (fun h172 => ?_)
                      · omega
                      ·
                        refine r_iconst dX9_layCombined_175 ?_
                        refine r_goto (tgt := 180) dX9_layCombined_176 (by decide) ?_
                        refine r_iadd dX9_layCombined_180 ?_
                        refine r_istore dX9_layCombined_181 (by decide) rfl ?_
                        refine r_goto (tgt := 11) dX9_layCombined_183 (by decide) ?_
                        refine J.loc (lsub_cons rfl (lsub_cons rfl (lsub_cons rfl (lsub_cons rfl (lsub_cons rfl (lsub_cons rfl (lsub_nil))))))) (ih11 _ _ _ (uI r1 rm1 (F j b)) (rm1 + 1) ?_ ?_)
                        · exact ⟨by omega, by omega, by omega, by omega, hm, by omega, by omega, hcb.stepY hzi.2.1 hzj.2.1 hsi hsj ha0 hb0 hr0 (v := F j b) (x := 0) (y := 1) (Or.inr ⟨rfl, fun h => by omega, by omega⟩) (Or.inl ⟨rfl, by omega, by omega, by omega⟩) (by omega) (by omega)⟩
                        · omega
                    · omega
              · omega
            · omega
        · omega
      ·
        refine r_iload dX9_layCombined_31 rfl ?_
        refine r_aload_n dX9_layCombined_33 rfl ?_
        refine r_iload_n dX9_layCombined_34 rfl ?_
        refine r_callV1 okX9_many ⟨by decide, by decide⟩ ml_X9_45 (mX9_many hm hz (by omega) (by omega)) hm.o rfl rfl (Nat.le_of_ble_eq_true rfl) (Nat.le_of_ble_eq_true rfl) (Nat.le_of_ble_eq_true rfl) rfl dX9_layCombined_35 (nx_I) (kx_I ?_)
        refine r_icmp_ge (tgt := 51) dX9_layCombined_38 (by decide) (by omega) (by omega) (fun h38 => ?_) (fun h38 => ?_)
        · omega
        ·
          refine r_aload_n dX9_layCombined_41 rfl ?_
          refine r_iload_n dX9_layCombined_42 rfl ?_
          refine r_iload dX9_layCombined_43 rfl ?_
          refine r_callV2 okX9_at ⟨by decide, by decide⟩ ml_X9_49 (mX9_at hm hz (by omega) (by omega) (by omega) (by omega)) hm.o rfl rfl (Nat.le_of_ble_eq_true rfl) (Nat.le_of_ble_eq_true rfl) (Nat.le_of_ble_eq_true rfl) rfl dX9_layCombined_45 (nx_I) (kx_I ?_)
          have hfa := (hz.f h0 h1 (p := a) (by omega) (by omega)).2
          refine r_goto (tgt := 54) dX9_layCombined_48 (by decide) ?_
          refine r_istore dX9_layCombined_54 (by decide) rfl ?_
          refine r_iload dX9_layCombined_56 rfl ?_
          refine r_aload_n dX9_layCombined_58 rfl ?_
          refine r_iload_n dX9_layCombined_59 rfl ?_
          refine r_callV1 okX9_many ⟨by decide, by decide⟩ ml_X9_45 (mX9_many hm hz (by omega) (by omega)) hm.o rfl rfl (Nat.le_of_ble_eq_true rfl) (Nat.le_of_ble_eq_true rfl) (Nat.le_of_ble_eq_true rfl) rfl dX9_layCombined_60 (nx_I) (kx_I ?_)
          refine r_icmp_ge (tgt := 76) dX9_layCombined_63 (by decide) (by omega) (by omega) (fun h63 => ?_) (fun h63 => ?_)
          · omega
          ·
            refine r_aload_n dX9_layCombined_66 rfl ?_
            refine r_iload_n dX9_layCombined_67 rfl ?_
            refine r_iload dX9_layCombined_68 rfl ?_
            refine r_callV2 okX9_at ⟨by decide, by decide⟩ ml_X9_49 (mX9_at hm hz (by omega) (by omega) (by omega) (by omega)) hm.o rfl rfl (Nat.le_of_ble_eq_true rfl) (Nat.le_of_ble_eq_true rfl) (Nat.le_of_ble_eq_true rfl) rfl dX9_layCombined_70 (nx_I) (kx_I ?_)
            have hfb := (hz.f h2 h3 (p := b) (by omega) (by omega)).2
            refine r_goto (tgt := 79) dX9_layCombined_73 (by decide) ?_
            refine r_istore dX9_layCombined_79 (by decide) rfl ?_
            refine r_iload dX9_layCombined_81 rfl ?_
            refine r_iload dX9_layCombined_83 rfl ?_
            refine r_icmp_ge (tgt := 93) dX9_layCombined_85 (by decide) (by omega) (by omega) (fun h85 => ?_) (fun h85 => ?_)
            ·
              refine r_iload dX9_layCombined_93 rfl ?_
              refine r_istore dX9_layCombined_95 (by decide) rfl ?_
              refine r_iload dX9_layCombined_97 rfl ?_
              refine r_iload dX9_layCombined_99 rfl ?_
              refine r_icmp_ne (tgt := 108) dX9_layCombined_101 (by decide) (by omega) (by omega) (fun h101 => ?_) (fun h101 => ?_)
              ·
                refine r_iconst dX9_layCombined_108 ?_
                refine r_iload dX9_layCombined_109 rfl ?_
                refine r_iload dX9_layCombined_111 rfl ?_
                refine r_icmp_ne (tgt := 120) dX9_layCombined_113 (by decide) (by omega) (by omega) (fun h113 => ?_) (fun h113 => ?_)
                · omega
                ·
                  refine r_iconst dX9_layCombined_116 ?_
                  refine r_goto (tgt := 121) dX9_layCombined_117 (by decide) ?_
                  refine r_iload_n dX9_layCombined_121 rfl ?_
                  refine r_callS3 okX9_belongs ⟨by decide, by decide⟩ ml_X9_113 (mX9_belongs (by omega) (by omega) q0 rfl) (Nat.le_of_ble_eq_true rfl) (Nat.le_of_ble_eq_true rfl) (Nat.le_of_ble_eq_true rfl) rfl dX9_layCombined_122 (nx_I) (kx_I ?_)
                  have hb01 := blg_01 0 1 how
                  have hb10 := blg_01 1 0 how
                  have hb11 := blg_01 1 1 how
                  refine r_if_eq (tgt := 149) dX9_layCombined_125 (by decide) (by omega) (fun h125 => ?_) (fun h125 => ?_)
                  ·
                    refine r_iload dX9_layCombined_149 rfl ?_
                    refine r_iload dX9_layCombined_151 rfl ?_
                    refine r_iload dX9_layCombined_153 rfl ?_
                    refine r_icmp_ne (tgt := 162) dX9_layCombined_155 (by decide) (by omega) (by omega) (fun h155 => ?_) (fun h155 => ?_)
                    ·
                      refine r_iconst dX9_layCombined_162 ?_
                      refine r_iadd dX9_layCombined_163 ?_
                      refine r_istore dX9_layCombined_164 (by decide) rfl ?_
                      refine r_iload dX9_layCombined_166 rfl ?_
                      refine r_iload dX9_layCombined_168 rfl ?_
                      refine r_iload dX9_layCombined_170 rfl ?_
                      refine r_icmp_ne (tgt := 179) dX9_layCombined_172 (by decide) (by omega) (by omega) (fun h172 => ?_) (fun h172 => ?_)
                      · omega
                      ·
                        refine r_iconst dX9_layCombined_175 ?_
                        refine r_goto (tgt := 180) dX9_layCombined_176 (by decide) ?_
                        refine r_iadd dX9_layCombined_180 ?_
                        refine r_istore dX9_layCombined_181 (by decide) rfl ?_
                        refine r_goto (tgt := 11) dX9_layCombined_183 (by decide) ?_
                        refine J.loc (lsub_cons rfl (lsub_cons rfl (lsub_cons rfl (lsub_cons rfl (lsub_cons rfl (lsub_cons rfl (lsub_nil))))))) (ih11 _ _ _ r1 rm1 ?_ ?_)
                        · exact ⟨by omega, by omega, by omega, by omega, hm, by omega, by omega, hcb.stepN hzi.2.1 hzj.2.1 hsi hsj ha0 hb0 (v := F j b) (x := 0) (y := 1) (Or.inr ⟨rfl, fun h => by omega, by omega⟩) (Or.inl ⟨rfl, by omega, by omega, by omega⟩) (by omega) (by omega)⟩
                        · omega
                    · omega
                  ·
                    refine r_aload_n dX9_layCombined_128 rfl ?_
                    refine r_getfield clX9 6 (by decide) fl_X9_19 hm.o rfl dX9_layCombined_129 ?_
                    refine r_aload_n dX9_layCombined_132 rfl ?_
                    refine r_getfield clX9 7 (by decide) fl_X9_56 hm.o rfl dX9_layCombined_133 ?_
                    refine r_iload dX9_layCombined_136 rfl ?_
                    refine r_iastore hm.r (by omega) (by omega) (by omega) dX9_layCombined_138 ?_
                    refine hm.w_r hi (fun Mx hm => ?_)
                    refine r_aload_n dX9_layCombined_139 rfl ?_
                    refine r_dup dX9_layCombined_140 ?_
                    refine r_getfield clX9 7 (by decide) fl_X9_56 hm.o rfl dX9_layCombined_141 ?_
                    refine r_iconst dX9_layCombined_144 ?_
                    refine r_iadd dX9_layCombined_145 ?_
                    refine r_putfield clX9 7 (by decide) fl_X9_56 rfl hm.o rfl rfl (Nat.le_of_ble_eq_true rfl) dX9_layCombined_146 ?_
                    refine hm.w_rowMany hi (fun Mx hm => ?_)
                    refine r_iload dX9_layCombined_149 rfl ?_
                    refine r_iload dX9_layCombined_151 rfl ?_
                    refine r_iload dX9_layCombined_153 rfl ?_
                    refine r_icmp_ne (tgt := 162) dX9_layCombined_155 (by decide) (by omega) (by omega) (fun h155 => ?_) (fun h155 => ?_)
                    ·
                      refine r_iconst dX9_layCombined_162 ?_
                      refine r_iadd dX9_layCombined_163 ?_
                      refine r_istore dX9_layCombined_164 (by decide) rfl ?_
                      refine r_iload dX9_layCombined_166 rfl ?_
                      refine r_iload dX9_layCombined_168 rfl ?_
                      refine r_iload dX9_layCombined_170 rfl ?_
                      refine r_icmp_ne (tgt := 179) dX9_layCombined_172 (by decide) (by omega) (by omega) (fun h172 => ?_) (fun h172 => ?_)
                      · omega
                      ·
                        refine r_iconst dX9_layCombined_175 ?_
                        refine r_goto (tgt := 180) dX9_layCombined_176 (by decide) ?_
                        refine r_iadd dX9_layCombined_180 ?_
                        refine r_istore dX9_layCombined_181 (by decide) rfl ?_
                        refine r_goto (tgt := 11) dX9_layCombined_183 (by decide) ?_
                        refine J.loc (lsub_cons rfl (lsub_cons rfl (lsub_cons rfl (lsub_cons rfl (lsub_cons rfl (lsub_cons rfl (lsub_nil))))))) (ih11 _ _ _ (uI r1 rm1 (F j b)) (rm1 + 1) ?_ ?_)
                        · exact ⟨by omega, by omega, by omega, by omega, hm, by omega, by omega, hcb.stepY hzi.2.1 hzj.2.1 hsi hsj ha0 hb0 hr0 (v := F j b) (x := 0) (y := 1) (Or.inr ⟨rfl, fun h => by omega, by omega⟩) (Or.inl ⟨rfl, by omega, by omega, by omega⟩) (by omega) (by omega)⟩
                        · omega
                    · omega
              · omega
            · omega
      ·
        refine r_iload dX9_layCombined_31 rfl ?_
        refine r_aload_n dX9_layCombined_33 rfl ?_
        refine r_iload_n dX9_layCombined_34 rfl ?_
        refine r_callV1 okX9_many ⟨by decide, by decide⟩ ml_X9_45 (mX9_many hm hz (by omega) (by omega)) hm.o rfl rfl (Nat.le_of_ble_eq_true rfl) (Nat.le_of_ble_eq_true rfl) (Nat.le_of_ble_eq_true rfl) rfl dX9_layCombined_35 (nx_I) (kx_I ?_)
        refine r_icmp_ge (tgt := 51) dX9_layCombined_38 (by decide) (by omega) (by omega) (fun h38 => ?_) (fun h38 => ?_)
        · omega
        ·
          refine r_aload_n dX9_layCombined_41 rfl ?_
          refine r_iload_n dX9_layCombined_42 rfl ?_
          refine r_iload dX9_layCombined_43 rfl ?_
          refine r_callV2 okX9_at ⟨by decide, by decide⟩ ml_X9_49 (mX9_at hm hz (by omega) (by omega) (by omega) (by omega)) hm.o rfl rfl (Nat.le_of_ble_eq_true rfl) (Nat.le_of_ble_eq_true rfl) (Nat.le_of_ble_eq_true rfl) rfl dX9_layCombined_45 (nx_I) (kx_I ?_)
          have hfa := (hz.f h0 h1 (p := a) (by omega) (by omega)).2
          refine r_goto (tgt := 54) dX9_layCombined_48 (by decide) ?_
          refine r_istore dX9_layCombined_54 (by decide) rfl ?_
          refine r_iload dX9_layCombined_56 rfl ?_
          refine r_aload_n dX9_layCombined_58 rfl ?_
          refine r_iload_n dX9_layCombined_59 rfl ?_
          refine r_callV1 okX9_many ⟨by decide, by decide⟩ ml_X9_45 (mX9_many hm hz (by omega) (by omega)) hm.o rfl rfl (Nat.le_of_ble_eq_true rfl) (Nat.le_of_ble_eq_true rfl) (Nat.le_of_ble_eq_true rfl) rfl dX9_layCombined_60 (nx_I) (kx_I ?_)
          refine r_icmp_ge (tgt := 76) dX9_layCombined_63 (by decide) (by omega) (by omega) (fun h63 => ?_) (fun h63 => ?_)
          · omega
          ·
            refine r_aload_n dX9_layCombined_66 rfl ?_
            refine r_iload_n dX9_layCombined_67 rfl ?_
            refine r_iload dX9_layCombined_68 rfl ?_
            refine r_callV2 okX9_at ⟨by decide, by decide⟩ ml_X9_49 (mX9_at hm hz (by omega) (by omega) (by omega) (by omega)) hm.o rfl rfl (Nat.le_of_ble_eq_true rfl) (Nat.le_of_ble_eq_true rfl) (Nat.le_of_ble_eq_true rfl) rfl dX9_layCombined_70 (nx_I) (kx_I ?_)
            have hfb := (hz.f h2 h3 (p := b) (by omega) (by omega)).2
            refine r_goto (tgt := 79) dX9_layCombined_73 (by decide) ?_
            refine r_istore dX9_layCombined_79 (by decide) rfl ?_
            refine r_iload dX9_layCombined_81 rfl ?_
            refine r_iload dX9_layCombined_83 rfl ?_
            refine r_icmp_ge (tgt := 93) dX9_layCombined_85 (by decide) (by omega) (by omega) (fun h85 => ?_) (fun h85 => ?_)
            ·
              refine r_iload dX9_layCombined_93 rfl ?_
              refine r_istore dX9_layCombined_95 (by decide) rfl ?_
              refine r_iload dX9_layCombined_97 rfl ?_
              refine r_iload dX9_layCombined_99 rfl ?_
              refine r_icmp_ne (tgt := 108) dX9_layCombined_101 (by decide) (by omega) (by omega) (fun h101 => ?_) (fun h101 => ?_)
              · omega
              ·
                refine r_iconst dX9_layCombined_104 ?_
                refine r_goto (tgt := 109) dX9_layCombined_105 (by decide) ?_
                refine r_iload dX9_layCombined_109 rfl ?_
                refine r_iload dX9_layCombined_111 rfl ?_
                refine r_icmp_ne (tgt := 120) dX9_layCombined_113 (by decide) (by omega) (by omega) (fun h113 => ?_) (fun h113 => ?_)
                · omega
                ·
                  refine r_iconst dX9_layCombined_116 ?_
                  refine r_goto (tgt := 121) dX9_layCombined_117 (by decide) ?_
                  refine r_iload_n dX9_layCombined_121 rfl ?_
                  refine r_callS3 okX9_belongs ⟨by decide, by decide⟩ ml_X9_113 (mX9_belongs (by omega) (by omega) q0 rfl) (Nat.le_of_ble_eq_true rfl) (Nat.le_of_ble_eq_true rfl) (Nat.le_of_ble_eq_true rfl) rfl dX9_layCombined_122 (nx_I) (kx_I ?_)
                  have hb01 := blg_01 0 1 how
                  have hb10 := blg_01 1 0 how
                  have hb11 := blg_01 1 1 how
                  refine r_if_eq (tgt := 149) dX9_layCombined_125 (by decide) (by omega) (fun h125 => ?_) (fun h125 => ?_)
                  ·
                    refine r_iload dX9_layCombined_149 rfl ?_
                    refine r_iload dX9_layCombined_151 rfl ?_
                    refine r_iload dX9_layCombined_153 rfl ?_
                    refine r_icmp_ne (tgt := 162) dX9_layCombined_155 (by decide) (by omega) (by omega) (fun h155 => ?_) (fun h155 => ?_)
                    · omega
                    ·
                      refine r_iconst dX9_layCombined_158 ?_
                      refine r_goto (tgt := 163) dX9_layCombined_159 (by decide) ?_
                      refine r_iadd dX9_layCombined_163 ?_
                      refine r_istore dX9_layCombined_164 (by decide) rfl ?_
                      refine r_iload dX9_layCombined_166 rfl ?_
                      refine r_iload dX9_layCombined_168 rfl ?_
                      refine r_iload dX9_layCombined_170 rfl ?_
                      refine r_icmp_ne (tgt := 179) dX9_layCombined_172 (by decide) (by omega) (by omega) (fun h172 => ?_) (fun h172 => ?_)
                      · omega
                      ·
                        refine r_iconst dX9_layCombined_175 ?_
                        refine r_goto (tgt := 180) dX9_layCombined_176 (by decide) ?_
                        refine r_iadd dX9_layCombined_180 ?_
                        refine r_istore dX9_layCombined_181 (by decide) rfl ?_
                        refine r_goto (tgt := 11) dX9_layCombined_183 (by decide) ?_
                        refine J.loc (lsub_cons rfl (lsub_cons rfl (lsub_cons rfl (lsub_cons rfl (lsub_cons rfl (lsub_cons rfl (lsub_nil))))))) (ih11 _ _ _ r1 rm1 ?_ ?_)
                        · exact ⟨by omega, by omega, by omega, by omega, hm, by omega, by omega, hcb.stepN hzi.2.1 hzj.2.1 hsi hsj ha0 hb0 (v := F j b) (x := 1) (y := 1) (Or.inl ⟨rfl, by omega, by omega, by omega⟩) (Or.inl ⟨rfl, by omega, by omega, by omega⟩) (by omega) (by omega)⟩
                        · omega
                  ·
                    refine r_aload_n dX9_layCombined_128 rfl ?_
                    refine r_getfield clX9 6 (by decide) fl_X9_19 hm.o rfl dX9_layCombined_129 ?_
                    refine r_aload_n dX9_layCombined_132 rfl ?_
                    refine r_getfield clX9 7 (by decide) fl_X9_56 hm.o rfl dX9_layCombined_133 ?_
                    refine r_iload dX9_layCombined_136 rfl ?_
                    refine r_iastore hm.r (by omega) (by omega) (by omega) dX9_layCombined_138 ?_
                    refine hm.w_r hi (fun Mx hm => ?_)
                    refine r_aload_n dX9_layCombined_139 rfl ?_
                    refine r_dup dX9_layCombined_140 ?_
                    refine r_getfield clX9 7 (by decide) fl_X9_56 hm.o rfl dX9_layCombined_141 ?_
                    refine r_iconst dX9_layCombined_144 ?_
                    refine r_iadd dX9_layCombined_145 ?_
                    refine r_putfield clX9 7 (by decide) fl_X9_56 rfl hm.o rfl rfl (Nat.le_of_ble_eq_true rfl) dX9_layCombined_146 ?_
                    refine hm.w_rowMany hi (fun Mx hm => ?_)
                    refine r_iload dX9_layCombined_149 rfl ?_
                    refine r_iload dX9_layCombined_151 rfl ?_
                    refine r_iload dX9_layCombined_153 rfl ?_
                    refine r_icmp_ne (tgt := 162) dX9_layCombined_155 (by decide) (by omega) (by omega) (fun h155 => ?_) (fun h155 => ?_)
                    · omega
                    ·
                      refine r_iconst dX9_layCombined_158 ?_
                      refine r_goto (tgt := 163) dX9_layCombined_159 (by decide) ?_
                      refine r_iadd dX9_layCombined_163 ?_
                      refine r_istore dX9_layCombined_164 (by decide) rfl ?_
                      refine r_iload dX9_layCombined_166 rfl ?_
                      refine r_iload dX9_layCombined_168 rfl ?_
                      refine r_iload dX9_layCombined_170 rfl ?_
                      refine r_icmp_ne (tgt := 179) dX9_layCombined_172 (by decide) (by omega) (by omega) (fun h172 => ?_) (fun h172 => ?_)
                      · omega
                      ·
                        refine r_iconst dX9_layCombined_175 ?_
                        refine r_goto (tgt := 180) dX9_layCombined_176 (by decide) ?_
                        refine r_iadd dX9_layCombined_180 ?_
                        refine r_istore dX9_layCombined_181 (by decide) rfl ?_
                        refine r_goto (tgt := 11) dX9_layCombined_183 (by decide) ?_
                        refine J.loc (lsub_cons rfl (lsub_cons rfl (lsub_cons rfl (lsub_cons rfl (lsub_cons rfl (lsub_cons rfl (lsub_nil))))))) (ih11 _ _ _ (uI r1 rm1 (F j b)) (rm1 + 1) ?_ ?_)
                        · exact ⟨by omega, by omega, by omega, by omega, hm, by omega, by omega, hcb.stepY hzi.2.1 hzj.2.1 hsi hsj ha0 hb0 hr0 (v := F j b) (x := 1) (y := 1) (Or.inl ⟨rfl, by omega, by omega, by omega⟩) (Or.inl ⟨rfl, by omega, by omega, by omega⟩) (by omega) (by omega)⟩
                        · omega
            · omega
    ·
      refine r_iload dX9_layCombined_21 rfl ?_
      refine r_aload_n dX9_layCombined_23 rfl ?_
      refine r_iload_n dX9_layCombined_24 rfl ?_
      refine r_callV1 okX9_many ⟨by decide, by decide⟩ ml_X9_45 (mX9_many hm hz (by omega) (by omega)) hm.o rfl rfl (Nat.le_of_ble_eq_true rfl) (Nat.le_of_ble_eq_true rfl) (Nat.le_of_ble_eq_true rfl) rfl dX9_layCombined_25 (nx_I) (kx_I ?_)
      refine r_icmp_ge (tgt := 186) dX9_layCombined_28 (by decide) (by omega) (by omega) (fun h28 => ?_) (fun h28 => ?_)
      ·
        refine e_return dX9_layCombined_186 rfl (Nat.le_of_ble_eq_true rfl) (Nat.le_of_ble_eq_true rfl) ?_
        rw [show a = n i by omega, show b = n j by omega] at hcb
        have hend := hcb.end hzi.2 hzj.2 hsi hsj q0 hr0
        rw [hend.1] at hm
        refine oktV ⟨r1, hm, hjn.2.1 |> fun h => ⟨h, hjn.2.2.1⟩, fun p x y => ?_⟩
        have e := hend.2 p x (by omega)
        obtain ⟨hmm, -⟩ := (hcb.2.2.2 (r1 p)).mp ⟨p, x, by omega, rfl⟩
        rw [← e]
        refine ⟨rfl, ?_⟩
        rcases hmm with ⟨q, c1, c2, c3⟩ | ⟨q, c1, c2, c3⟩
        · rw [← c3]; exact (hz.f h0 h1 c1 c2).2
        · rw [← c3]; exact (hz.f h2 h3 c1 c2).2
      ·
        rcases (show (a < n i ∧ n j ≤ b) ∨ ((a < n i ∧ b < n j) ∧ F i a < F j b) ∨ (n i ≤ a ∧ b < n j) ∨ ((a < n i ∧ b < n j) ∧ F j b < F i a) ∨ ((a < n i ∧ b < n j) ∧ F i a = F j b) by omega) with hc31 | hc31 | hc31 | hc31 | hc31
        ·
          refine r_iload dX9_layCombined_31 rfl ?_
          refine r_aload_n dX9_layCombined_33 rfl ?_
          refine r_iload_n dX9_layCombined_34 rfl ?_
          refine r_callV1 okX9_many ⟨by decide, by decide⟩ ml_X9_45 (mX9_many hm hz (by omega) (by omega)) hm.o rfl rfl (Nat.le_of_ble_eq_true rfl) (Nat.le_of_ble_eq_true rfl) (Nat.le_of_ble_eq_true rfl) rfl dX9_layCombined_35 (nx_I) (kx_I ?_)
          refine r_icmp_ge (tgt := 51) dX9_layCombined_38 (by decide) (by omega) (by omega) (fun h38 => ?_) (fun h38 => ?_)
          · omega
          ·
            refine r_aload_n dX9_layCombined_41 rfl ?_
            refine r_iload_n dX9_layCombined_42 rfl ?_
            refine r_iload dX9_layCombined_43 rfl ?_
            refine r_callV2 okX9_at ⟨by decide, by decide⟩ ml_X9_49 (mX9_at hm hz (by omega) (by omega) (by omega) (by omega)) hm.o rfl rfl (Nat.le_of_ble_eq_true rfl) (Nat.le_of_ble_eq_true rfl) (Nat.le_of_ble_eq_true rfl) rfl dX9_layCombined_45 (nx_I) (kx_I ?_)
            have hfa := (hz.f h0 h1 (p := a) (by omega) (by omega)).2
            refine r_goto (tgt := 54) dX9_layCombined_48 (by decide) ?_
            refine r_istore dX9_layCombined_54 (by decide) rfl ?_
            refine r_iload dX9_layCombined_56 rfl ?_
            refine r_aload_n dX9_layCombined_58 rfl ?_
            refine r_iload_n dX9_layCombined_59 rfl ?_
            refine r_callV1 okX9_many ⟨by decide, by decide⟩ ml_X9_45 (mX9_many hm hz (by omega) (by omega)) hm.o rfl rfl (Nat.le_of_ble_eq_true rfl) (Nat.le_of_ble_eq_true rfl) (Nat.le_of_ble_eq_true rfl) rfl dX9_layCombined_60 (nx_I) (kx_I ?_)
            refine r_icmp_ge (tgt := 76) dX9_layCombined_63 (by decide) (by omega) (by omega) (fun h63 => ?_) (fun h63 => ?_)
            ·
              refine r_sipush dX9_layCombined_76 (by decide) ?_
              refine r_istore dX9_layCombined_79 (by decide) rfl ?_
              refine r_iload dX9_layCombined_81 rfl ?_
              refine r_iload dX9_layCombined_83 rfl ?_
              refine r_icmp_ge (tgt := 93) dX9_layCombined_85 (by decide) (by omega) (by omega) (fun h85 => ?_) (fun h85 => ?_)
              · omega
              ·
                refine r_iload dX9_layCombined_88 rfl ?_
                refine r_goto (tgt := 95) dX9_layCombined_90 (by decide) ?_
                refine r_istore dX9_layCombined_95 (by decide) rfl ?_
                refine r_iload dX9_layCombined_97 rfl ?_
                refine r_iload dX9_layCombined_99 rfl ?_
                refine r_icmp_ne (tgt := 108) dX9_layCombined_101 (by decide) (by omega) (by omega) (fun h101 => ?_) (fun h101 => ?_)
                · omega
                ·
                  refine r_iconst dX9_layCombined_104 ?_
                  refine r_goto (tgt := 109) dX9_layCombined_105 (by decide) ?_
                  refine r_iload dX9_layCombined_109 rfl ?_
                  refine r_iload dX9_layCombined_111 rfl ?_
                  refine r_icmp_ne (tgt := 120) dX9_layCombined_113 (by decide) (by omega) (by omega) (fun h113 => ?_) (fun h113 => ?_)
                  ·
                    refine r_iconst dX9_layCombined_120 ?_
                    refine r_iload_n dX9_layCombined_121 rfl ?_
                    refine r_callS3 okX9_belongs ⟨by decide, by decide⟩ ml_X9_113 (mX9_belongs (by omega) (by omega) q0 rfl) (Nat.le_of_ble_eq_true rfl) (Nat.le_of_ble_eq_true rfl) (Nat.le_of_ble_eq_true rfl) rfl dX9_layCombined_122 (nx_I) (kx_I ?_)
                    have hb01 := blg_01 0 1 how
                    have hb10 := blg_01 1 0 how
                    have hb11 := blg_01 1 1 how
                    refine r_if_eq (tgt := 149) dX9_layCombined_125 (by decide) (by omega) (fun h125 => ?_) (fun h125 => ?_)
                    ·
                      refine r_iload dX9_layCombined_149 rfl ?_
                      refine r_iload dX9_layCombined_151 rfl ?_
                      refine r_iload dX9_layCombined_153 rfl ?_
                      refine r_icmp_ne (tgt := 162) dX9_layCombined_155 (by decide) (by omega) (by omega) (fun h155 => ?_) (fun h155 => ?_)
                      · omega
                      ·
                        refine r_iconst dX9_layCombined_158 ?_
                        refine r_goto (tgt := 163) dX9_layCombined_159 (by decide) ?_
                        refine r_iadd dX9_layCombined_163 ?_
                        refine r_istore dX9_layCombined_164 (by decide) rfl ?_
                        refine r_iload dX9_layCombined_166 rfl ?_
                        refine r_iload dX9_layCombined_168 rfl ?_
                        refine r_iload dX9_layCombined_170 rfl ?_
                        refine r_icmp_ne (tgt := 179) dX9_layCombined_172 (by decide) (by omega) (by omega) (fun h172 => ?_) (fun h172 => ?_)
                        ·
                          refine r_iconst dX9_layCombined_179 ?_
                          refine r_iadd dX9_layCombined_180 ?_
                          refine r_istore dX9_layCombined_181 (by decide) rfl ?_
                          refine r_goto (tgt := 11) dX9_layCombined_183 (by decide) ?_
                          refine J.loc (lsub_cons rfl (lsub_cons rfl (lsub_cons rfl (lsub_cons rfl (lsub_cons rfl (lsub_cons rfl (lsub_nil))))))) (ih11 _ _ _ r1 rm1 ?_ ?_)
                          · exact ⟨by omega, by omega, by omega, by omega, hm, by omega, by omega, hcb.stepN hzi.2.1 hzj.2.1 hsi hsj ha0 hb0 (v := F i a) (x := 1) (y := 0) (Or.inl ⟨rfl, by omega, by omega, by omega⟩) (Or.inr ⟨rfl, fun h => by omega, by omega⟩) (by omega) (by omega)⟩
                          · omega
                        · omega
                    ·
                      refine r_aload_n dX9_layCombined_128 rfl ?_
                      refine r_getfield clX9 6 (by decide) fl_X9_19 hm.o rfl dX9_layCombined_129 ?_
                      refine r_aload_n dX9_layCombined_132 rfl ?_
                      refine r_getfield clX9 7 (by decide) fl_X9_56 hm.o rfl dX9_layCombined_133 ?_
                      refine r_iload dX9_layCombined_136 rfl ?_
                      refine r_iastore hm.r (by omega) (by omega) (by omega) dX9_layCombined_138 ?_
                      refine hm.w_r hi (fun Mx hm => ?_)
                      refine r_aload_n dX9_layCombined_139 rfl ?_
                      refine r_dup dX9_layCombined_140 ?_
                      refine r_getfield clX9 7 (by decide) fl_X9_56 hm.o rfl dX9_layCombined_141 ?_
                      refine r_iconst dX9_layCombined_144 ?_
                      refine r_iadd dX9_layCombined_145 ?_
                      refine r_putfield clX9 7 (by decide) fl_X9_56 rfl hm.o rfl rfl (Nat.le_of_ble_eq_true rfl) dX9_layCombined_146 ?_
                      refine hm.w_rowMany hi (fun Mx hm => ?_)
                      refine r_iload dX9_layCombined_149 rfl ?_
                      refine r_iload dX9_layCombined_151 rfl ?_
                      refine r_iload dX9_layCombined_153 rfl ?_
                      refine r_icmp_ne (tgt := 162) dX9_layCombined_155 (by decide) (by omega) (by omega) (fun h155 => ?_) (fun h155 => ?_)
                      · omega
                      ·
                        refine r_iconst dX9_layCombined_158 ?_
                        refine r_goto (tgt := 163) dX9_layCombined_159 (by decide) ?_
                        refine r_iadd dX9_layCombined_163 ?_
                        refine r_istore dX9_layCombined_164 (by decide) rfl ?_
                        refine r_iload dX9_layCombined_166 rfl ?_
                        refine r_iload dX9_layCombined_168 rfl ?_
                        refine r_iload dX9_layCombined_170 rfl ?_
                        refine r_icmp_ne (tgt := 179) dX9_layCombined_172 (by decide) (by omega) (by omega) (fun h172 => ?_) (fun h172 => ?_)
                        ·
                          refine r_iconst dX9_layCombined_179 ?_
                          refine r_iadd dX9_layCombined_180 ?_
                          refine r_istore dX9_layCombined_181 (by decide) rfl ?_
                          refine r_goto (tgt := 11) dX9_layCombined_183 (by decide) ?_
                          refine J.loc (lsub_cons rfl (lsub_cons rfl (lsub_cons rfl (lsub_cons rfl (lsub_cons rfl (lsub_cons rfl (lsub_nil))))))) (ih11 _ _ _ (uI r1 rm1 (F i a)) (rm1 + 1) ?_ ?_)
                          · exact ⟨by omega, by omega, by omega, by omega, hm, by omega, by omega, hcb.stepY hzi.2.1 hzj.2.1 hsi hsj ha0 hb0 hr0 (v := F i a) (x := 1) (y := 0) (Or.inl ⟨rfl, by omega, by omega, by omega⟩) (Or.inr ⟨rfl, fun h => by omega, by omega⟩) (by omega) (by omega)⟩
                          · omega
                        · omega
                  · omega
            · omega
        ·
          refine r_iload dX9_layCombined_31 rfl ?_
          refine r_aload_n dX9_layCombined_33 rfl ?_
          refine r_iload_n dX9_layCombined_34 rfl ?_
          refine r_callV1 okX9_many ⟨by decide, by decide⟩ ml_X9_45 (mX9_many hm hz (by omega) (by omega)) hm.o rfl rfl (Nat.le_of_ble_eq_true rfl) (Nat.le_of_ble_eq_true rfl) (Nat.le_of_ble_eq_true rfl) rfl dX9_layCombined_35 (nx_I) (kx_I ?_)
          refine r_icmp_ge (tgt := 51) dX9_layCombined_38 (by decide) (by omega) (by omega) (fun h38 => ?_) (fun h38 => ?_)
          · omega
          ·
            refine r_aload_n dX9_layCombined_41 rfl ?_
            refine r_iload_n dX9_layCombined_42 rfl ?_
            refine r_iload dX9_layCombined_43 rfl ?_
            refine r_callV2 okX9_at ⟨by decide, by decide⟩ ml_X9_49 (mX9_at hm hz (by omega) (by omega) (by omega) (by omega)) hm.o rfl rfl (Nat.le_of_ble_eq_true rfl) (Nat.le_of_ble_eq_true rfl) (Nat.le_of_ble_eq_true rfl) rfl dX9_layCombined_45 (nx_I) (kx_I ?_)
            have hfa := (hz.f h0 h1 (p := a) (by omega) (by omega)).2
            refine r_goto (tgt := 54) dX9_layCombined_48 (by decide) ?_
            refine r_istore dX9_layCombined_54 (by decide) rfl ?_
            refine r_iload dX9_layCombined_56 rfl ?_
            refine r_aload_n dX9_layCombined_58 rfl ?_
            refine r_iload_n dX9_layCombined_59 rfl ?_
            refine r_callV1 okX9_many ⟨by decide, by decide⟩ ml_X9_45 (mX9_many hm hz (by omega) (by omega)) hm.o rfl rfl (Nat.le_of_ble_eq_true rfl) (Nat.le_of_ble_eq_true rfl) (Nat.le_of_ble_eq_true rfl) rfl dX9_layCombined_60 (nx_I) (kx_I ?_)
            refine r_icmp_ge (tgt := 76) dX9_layCombined_63 (by decide) (by omega) (by omega) (fun h63 => ?_) (fun h63 => ?_)
            · omega
            ·
              refine r_aload_n dX9_layCombined_66 rfl ?_
              refine r_iload_n dX9_layCombined_67 rfl ?_
              refine r_iload dX9_layCombined_68 rfl ?_
              refine r_callV2 okX9_at ⟨by decide, by decide⟩ ml_X9_49 (mX9_at hm hz (by omega) (by omega) (by omega) (by omega)) hm.o rfl rfl (Nat.le_of_ble_eq_true rfl) (Nat.le_of_ble_eq_true rfl) (Nat.le_of_ble_eq_true rfl) rfl dX9_layCombined_70 (nx_I) (kx_I ?_)
              have hfb := (hz.f h2 h3 (p := b) (by omega) (by omega)).2
              refine r_goto (tgt := 79) dX9_layCombined_73 (by decide) ?_
              refine r_istore dX9_layCombined_79 (by decide) rfl ?_
              refine r_iload dX9_layCombined_81 rfl ?_
              refine r_iload dX9_layCombined_83 rfl ?_
              refine r_icmp_ge (tgt := 93) dX9_layCombined_85 (by decide) (by omega) (by omega) (fun h85 => ?_) (fun h85 => ?_)
              · omega
              ·
                refine r_iload dX9_layCombined_88 rfl ?_
                refine r_goto (tgt := 95) dX9_layCombined_90 (by decide) ?_
                refine r_istore dX9_layCombined_95 (by decide) rfl ?_
                refine r_iload dX9_layCombined_97 rfl ?_
                refine r_iload dX9_layCombined_99 rfl ?_
                refine r_icmp_ne (tgt := 108) dX9_layCombined_101 (by decide) (by omega) (by omega) (fun h101 => ?_) (fun h101 => ?_)
                · omega
                ·
                  refine r_iconst dX9_layCombined_104 ?_
                  refine r_goto (tgt := 109) dX9_layCombined_105 (by decide) ?_
                  refine r_iload dX9_layCombined_109 rfl ?_
                  refine r_iload dX9_layCombined_111 rfl ?_
                  refine r_icmp_ne (tgt := 120) dX9_layCombined_113 (by decide) (by omega) (by omega) (fun h113 => ?_) (fun h113 => ?_)
                  ·
                    refine r_iconst dX9_layCombined_120 ?_
                    refine r_iload_n dX9_layCombined_121 rfl ?_
                    refine r_callS3 okX9_belongs ⟨by decide, by decide⟩ ml_X9_113 (mX9_belongs (by omega) (by omega) q0 rfl) (Nat.le_of_ble_eq_true rfl) (Nat.le_of_ble_eq_true rfl) (Nat.le_of_ble_eq_true rfl) rfl dX9_layCombined_122 (nx_I) (kx_I ?_)
                    have hb01 := blg_01 0 1 how
                    have hb10 := blg_01 1 0 how
                    have hb11 := blg_01 1 1 how
                    refine r_if_eq (tgt := 149) dX9_layCombined_125 (by decide) (by omega) (fun h125 => ?_) (fun h125 => ?_)
                    ·
                      refine r_iload dX9_layCombined_149 rfl ?_
                      refine r_iload dX9_layCombined_151 rfl ?_
                      refine r_iload dX9_layCombined_153 rfl ?_
                      refine r_icmp_ne (tgt := 162) dX9_layCombined_155 (by decide) (by omega) (by omega) (fun h155 => ?_) (fun h155 => ?_)
                      · omega
                      ·
                        refine r_iconst dX9_layCombined_158 ?_
                        refine r_goto (tgt := 163) dX9_layCombined_159 (by decide) ?_
                        refine r_iadd dX9_layCombined_163 ?_
                        refine r_istore dX9_layCombined_164 (by decide) rfl ?_
                        refine r_iload dX9_layCombined_166 rfl ?_
                        refine r_iload dX9_layCombined_168 rfl ?_
                        refine r_iload dX9_layCombined_170 rfl ?_
                        refine r_icmp_ne (tgt := 179) dX9_layCombined_172 (by decide) (by omega) (by omega) (fun h172 => ?_) (fun h172 => ?_)
                        ·
                          refine r_iconst dX9_layCombined_179 ?_
                          refine r_iadd dX9_layCombined_180 ?_
                          refine r_istore dX9_layCombined_181 (by decide) rfl ?_
                          refine r_goto (tgt := 11) dX9_layCombined_183 (by decide) ?_
                          refine J.loc (lsub_cons rfl (lsub_cons rfl (lsub_cons rfl (lsub_cons rfl (lsub_cons rfl (lsub_cons rfl (lsub_nil))))))) (ih11 _ _ _ r1 rm1 ?_ ?_)
                          · exact ⟨by omega, by omega, by omega, by omega, hm, by omega, by omega, hcb.stepN hzi.2.1 hzj.2.1 hsi hsj ha0 hb0 (v := F i a) (x := 1) (y := 0) (Or.inl ⟨rfl, by omega, by omega, by omega⟩) (Or.inr ⟨rfl, fun h => by omega, by omega⟩) (by omega) (by omega)⟩
                          · omega
                        · omega
                    ·
                      refine r_aload_n dX9_layCombined_128 rfl ?_
                      refine r_getfield clX9 6 (by decide) fl_X9_19 hm.o rfl dX9_layCombined_129 ?_
                      refine r_aload_n dX9_layCombined_132 rfl ?_
                      refine r_getfield clX9 7 (by decide) fl_X9_56 hm.o rfl dX9_layCombined_133 ?_
                      refine r_iload dX9_layCombined_136 rfl ?_
                      refine r_iastore hm.r (by omega) (by omega) (by omega) dX9_layCombined_138 ?_
                      refine hm.w_r hi (fun Mx hm => ?_)
                      refine r_aload_n dX9_layCombined_139 rfl ?_
                      refine r_dup dX9_layCombined_140 ?_
                      refine r_getfield clX9 7 (by decide) fl_X9_56 hm.o rfl dX9_layCombined_141 ?_
                      refine r_iconst dX9_layCombined_144 ?_
                      refine r_iadd dX9_layCombined_145 ?_
                      refine r_putfield clX9 7 (by decide) fl_X9_56 rfl hm.o rfl rfl (Nat.le_of_ble_eq_true rfl) dX9_layCombined_146 ?_
                      refine hm.w_rowMany hi (fun Mx hm => ?_)
                      refine r_iload dX9_layCombined_149 rfl ?_
                      refine r_iload dX9_layCombined_151 rfl ?_
                      refine r_iload dX9_layCombined_153 rfl ?_
                      refine r_icmp_ne (tgt := 162) dX9_layCombined_155 (by decide) (by omega) (by omega) (fun h155 => ?_) (fun h155 => ?_)
                      · omega
                      ·
                        refine r_iconst dX9_layCombined_158 ?_
                        refine r_goto (tgt := 163) dX9_layCombined_159 (by decide) ?_
                        refine r_iadd dX9_layCombined_163 ?_
                        refine r_istore dX9_layCombined_164 (by decide) rfl ?_
                        refine r_iload dX9_layCombined_166 rfl ?_
                        refine r_iload dX9_layCombined_168 rfl ?_
                        refine r_iload dX9_layCombined_170 rfl ?_
                        refine r_icmp_ne (tgt := 179) dX9_layCombined_172 (by decide) (by omega) (by omega) (fun h172 => ?_) (fun h172 => ?_)
                        ·
                          refine r_iconst dX9_layCombined_179 ?_
                          refine r_iadd dX9_layCombined_180 ?_
                          refine r_istore dX9_layCombined_181 (by decide) rfl ?_
                          refine r_goto (tgt := 11) dX9_layCombined_183 (by decide) ?_
                          refine J.loc (lsub_cons rfl (lsub_cons rfl (lsub_cons rfl (lsub_cons rfl (lsub_cons rfl (lsub_cons rfl (lsub_nil))))))) (ih11 _ _ _ (uI r1 rm1 (F i a)) (rm1 + 1) ?_ ?_)
                          · exact ⟨by omega, by omega, by omega, by omega, hm, by omega, by omega, hcb.stepY hzi.2.1 hzj.2.1 hsi hsj ha0 hb0 hr0 (v := F i a) (x := 1) (y := 0) (Or.inl ⟨rfl, by omega, by omega, by omega⟩) (Or.inr ⟨rfl, fun h => by omega, by omega⟩) (by omega) (by omega)⟩
                          · omega
                        · omega
                  · omega
        ·
          refine r_iload dX9_layCombined_31 rfl ?_
          refine r_aload_n dX9_layCombined_33 rfl ?_
          refine r_iload_n dX9_layCombined_34 rfl ?_
          refine r_callV1 okX9_many ⟨by decide, by decide⟩ ml_X9_45 (mX9_many hm hz (by omega) (by omega)) hm.o rfl rfl (Nat.le_of_ble_eq_true rfl) (Nat.le_of_ble_eq_true rfl) (Nat.le_of_ble_eq_true rfl) rfl dX9_layCombined_35 (nx_I) (kx_I ?_)
          refine r_icmp_ge (tgt := 51) dX9_layCombined_38 (by decide) (by omega) (by omega) (fun h38 => ?_) (fun h38 => ?_)
          ·
            refine r_sipush dX9_layCombined_51 (by decide) ?_
            refine r_istore dX9_layCombined_54 (by decide) rfl ?_
            refine r_iload dX9_layCombined_56 rfl ?_
            refine r_aload_n dX9_layCombined_58 rfl ?_
            refine r_iload_n dX9_layCombined_59 rfl ?_
            refine r_callV1 okX9_many ⟨by decide, by decide⟩ ml_X9_45 (mX9_many hm hz (by omega) (by omega)) hm.o rfl rfl (Nat.le_of_ble_eq_true rfl) (Nat.le_of_ble_eq_true rfl) (Nat.le_of_ble_eq_true rfl) rfl dX9_layCombined_60 (nx_I) (kx_I ?_)
            refine r_icmp_ge (tgt := 76) dX9_layCombined_63 (by decide) (by omega) (by omega) (fun h63 => ?_) (fun h63 => ?_)
            · omega
            ·
              refine r_aload_n dX9_layCombined_66 rfl ?_
              refine r_iload_n dX9_layCombined_67 rfl ?_
              refine r_iload dX9_layCombined_68 rfl ?_
              refine r_callV2 okX9_at ⟨by decide, by decide⟩ ml_X9_49 (mX9_at hm hz (by omega) (by omega) (by omega) (by omega)) hm.o rfl rfl (Nat.le_of_ble_eq_true rfl) (Nat.le_of_ble_eq_true rfl) (Nat.le_of_ble_eq_true rfl) rfl dX9_layCombined_70 (nx_I) (kx_I ?_)
              have hfb := (hz.f h2 h3 (p := b) (by omega) (by omega)).2
              refine r_goto (tgt := 79) dX9_layCombined_73 (by decide) ?_
              refine r_istore dX9_layCombined_79 (by decide) rfl ?_
              refine r_iload dX9_layCombined_81 rfl ?_
              refine r_iload dX9_layCombined_83 rfl ?_
              refine r_icmp_ge (tgt := 93) dX9_layCombined_85 (by decide) (by omega) (by omega) (fun h85 => ?_) (fun h85 => ?_)
              ·
                refine r_iload dX9_layCombined_93 rfl ?_
                refine r_istore dX9_layCombined_95 (by decide) rfl ?_
                refine r_iload dX9_layCombined_97 rfl ?_
                refine r_iload dX9_layCombined_99 rfl ?_
                refine r_icmp_ne (tgt := 108) dX9_layCombined_101 (by decide) (by omega) (by omega) (fun h101 => ?_) (fun h101 => ?_)
                ·
                  refine r_iconst dX9_layCombined_108 ?_
                  refine r_iload dX9_layCombined_109 rfl ?_
                  refine r_iload dX9_layCombined_111 rfl ?_
                  refine r_icmp_ne (tgt := 120) dX9_layCombined_113 (by decide) (by omega) (by omega) (fun h113 => ?_) (fun h113 => ?_)
                  · omega
                  ·
                    refine r_iconst dX9_layCombined_116 ?_
                    refine r_goto (tgt := 121) dX9_layCombined_117 (by decide) ?_
                    refine r_iload_n dX9_layCombined_121 rfl ?_
                    refine r_callS3 okX9_belongs ⟨by decide, by decide⟩ ml_X9_113 (mX9_belongs (by omega) (by omega) q0 rfl) (Nat.le_of_ble_eq_true rfl) (Nat.le_of_ble_eq_true rfl) (Nat.le_of_ble_eq_true rfl) rfl dX9_layCombined_122 (nx_I) (kx_I ?_)
                    have hb01 := blg_01 0 1 how
                    have hb10 := blg_01 1 0 how
                    have hb11 := blg_01 1 1 how
                    refine r_if_eq (tgt := 149) dX9_layCombined_125 (by decide) (by omega) (fun h125 => ?_) (fun h125 => ?_)
                    ·
                      refine r_iload dX9_layCombined_149 rfl ?_
                      refine r_iload dX9_layCombined_151 rfl ?_
                      refine r_iload dX9_layCombined_153 rfl ?_
                      refine r_icmp_ne (tgt := 162) dX9_layCombined_155 (by decide) (by omega) (by omega) (fun h155 => ?_) (fun h155 => ?_)
                      ·
                        refine r_iconst dX9_layCombined_162 ?_
                        refine r_iadd dX9_layCombined_163 ?_
                        refine r_istore dX9_layCombined_164 (by decide) rfl ?_
                        refine r_iload dX9_layCombined_166 rfl ?_
                        refine r_iload dX9_layCombined_168 rfl ?_
                        refine r_iload dX9_layCombined_170 rfl ?_
                        refine r_icmp_ne (tgt := 179) dX9_layCombined_172 (by decide) (by omega) (by omega) (fun h172 => ?_) (fun h172 => ?_)
                        · omega
                        ·
                          refine r_iconst dX9_layCombined_175 ?_
                          refine r_goto (tgt := 180) dX9_layCombined_176 (by decide) ?_
                          refine r_iadd dX9_layCombined_180 ?_
                          refine r_istore dX9_layCombined_181 (by decide) rfl ?_
                          refine r_goto (tgt := 11) dX9_layCombined_183 (by decide) ?_
                          refine J.loc (lsub_cons rfl (lsub_cons rfl (lsub_cons rfl (lsub_cons rfl (lsub_cons rfl (lsub_cons rfl (lsub_nil))))))) (ih11 _ _ _ r1 rm1 ?_ ?_)
                          · exact ⟨by omega, by omega, by omega, by omega, hm, by omega, by omega, hcb.stepN hzi.2.1 hzj.2.1 hsi hsj ha0 hb0 (v := F j b) (x := 0) (y := 1) (Or.inr ⟨rfl, fun h => by omega, by omega⟩) (Or.inl ⟨rfl, by omega, by omega, by omega⟩) (by omega) (by omega)⟩
                          · omega
                      · omega
                    ·
                      refine r_aload_n dX9_layCombined_128 rfl ?_
                      refine r_getfield clX9 6 (by decide) fl_X9_19 hm.o rfl dX9_layCombined_129 ?_
                      refine r_aload_n dX9_layCombined_132 rfl ?_
                      refine r_getfield clX9 7 (by decide) fl_X9_56 hm.o rfl dX9_layCombined_133 ?_
                      refine r_iload dX9_layCombined_136 rfl ?_
                      refine r_iastore hm.r (by omega) (by omega) (by omega) dX9_layCombined_138 ?_
                      refine hm.w_r hi (fun Mx hm => ?_)
                      refine r_aload_n dX9_layCombined_139 rfl ?_
                      refine r_dup dX9_layCombined_140 ?_
                      refine r_getfield clX9 7 (by decide) fl_X9_56 hm.o rfl dX9_layCombined_141 ?_
                      refine r_iconst dX9_layCombined_144 ?_
                      refine r_iadd dX9_layCombined_145 ?_
                      refine r_putfield clX9 7 (by decide) fl_X9_56 rfl hm.o rfl rfl (Nat.le_of_ble_eq_true rfl) dX9_layCombined_146 ?_
                      refine hm.w_rowMany hi (fun Mx hm => ?_)
                      refine r_iload dX9_layCombined_149 rfl ?_
                      refine r_iload dX9_layCombined_151 rfl ?_
                      refine r_iload dX9_layCombined_153 rfl ?_
                      refine r_icmp_ne (tgt := 162) dX9_layCombined_155 (by decide) (by omega) (by omega) (fun h155 => ?_) (fun h155 => ?_)
                      ·
                        refine r_iconst dX9_layCombined_162 ?_
                        refine r_iadd dX9_layCombined_163 ?_
                        refine r_istore dX9_layCombined_164 (by decide) rfl ?_
                        refine r_iload dX9_layCombined_166 rfl ?_
                        refine r_iload dX9_layCombined_168 rfl ?_
                        refine r_iload dX9_layCombined_170 rfl ?_
                        refine r_icmp_ne (tgt := 179) dX9_layCombined_172 (by decide) (by omega) (by omega) (fun h172 => ?_) (fun h172 => ?_)
                        · omega
                        ·
                          refine r_iconst dX9_layCombined_175 ?_
                          refine r_goto (tgt := 180) dX9_layCombined_176 (by decide) ?_
                          refine r_iadd dX9_layCombined_180 ?_
                          refine r_istore dX9_layCombined_181 (by decide) rfl ?_
                          refine r_goto (tgt := 11) dX9_layCombined_183 (by decide) ?_
                          refine J.loc (lsub_cons rfl (lsub_cons rfl (lsub_cons rfl (lsub_cons rfl (lsub_cons rfl (lsub_cons rfl (lsub_nil))))))) (ih11 _ _ _ (uI r1 rm1 (F j b)) (rm1 + 1) ?_ ?_)
                          · exact ⟨by omega, by omega, by omega, by omega, hm, by omega, by omega, hcb.stepY hzi.2.1 hzj.2.1 hsi hsj ha0 hb0 hr0 (v := F j b) (x := 0) (y := 1) (Or.inr ⟨rfl, fun h => by omega, by omega⟩) (Or.inl ⟨rfl, by omega, by omega, by omega⟩) (by omega) (by omega)⟩
                          · omega
                      · omega
                · omega
              · omega
          · omega
        ·
          refine r_iload dX9_layCombined_31 rfl ?_
          refine r_aload_n dX9_layCombined_33 rfl ?_
          refine r_iload_n dX9_layCombined_34 rfl ?_
          refine r_callV1 okX9_many ⟨by decide, by decide⟩ ml_X9_45 (mX9_many hm hz (by omega) (by omega)) hm.o rfl rfl (Nat.le_of_ble_eq_true rfl) (Nat.le_of_ble_eq_true rfl) (Nat.le_of_ble_eq_true rfl) rfl dX9_layCombined_35 (nx_I) (kx_I ?_)
          refine r_icmp_ge (tgt := 51) dX9_layCombined_38 (by decide) (by omega) (by omega) (fun h38 => ?_) (fun h38 => ?_)
          · omega
          ·
            refine r_aload_n dX9_layCombined_41 rfl ?_
            refine r_iload_n dX9_layCombined_42 rfl ?_
            refine r_iload dX9_layCombined_43 rfl ?_
            refine r_callV2 okX9_at ⟨by decide, by decide⟩ ml_X9_49 (mX9_at hm hz (by omega) (by omega) (by omega) (by omega)) hm.o rfl rfl (Nat.le_of_ble_eq_true rfl) (Nat.le_of_ble_eq_true rfl) (Nat.le_of_ble_eq_true rfl) rfl dX9_layCombined_45 (nx_I) (kx_I ?_)
            have hfa := (hz.f h0 h1 (p := a) (by omega) (by omega)).2
            refine r_goto (tgt := 54) dX9_layCombined_48 (by decide) ?_
            refine r_istore dX9_layCombined_54 (by decide) rfl ?_
            refine r_iload dX9_layCombined_56 rfl ?_
            refine r_aload_n dX9_layCombined_58 rfl ?_
            refine r_iload_n dX9_layCombined_59 rfl ?_
            refine r_callV1 okX9_many ⟨by decide, by decide⟩ ml_X9_45 (mX9_many hm hz (by omega) (by omega)) hm.o rfl rfl (Nat.le_of_ble_eq_true rfl) (Nat.le_of_ble_eq_true rfl) (Nat.le_of_ble_eq_true rfl) rfl dX9_layCombined_60 (nx_I) (kx_I ?_)
            refine r_icmp_ge (tgt := 76) dX9_layCombined_63 (by decide) (by omega) (by omega) (fun h63 => ?_) (fun h63 => ?_)
            · omega
            ·
              refine r_aload_n dX9_layCombined_66 rfl ?_
              refine r_iload_n dX9_layCombined_67 rfl ?_
              refine r_iload dX9_layCombined_68 rfl ?_
              refine r_callV2 okX9_at ⟨by decide, by decide⟩ ml_X9_49 (mX9_at hm hz (by omega) (by omega) (by omega) (by omega)) hm.o rfl rfl (Nat.le_of_ble_eq_true rfl) (Nat.le_of_ble_eq_true rfl) (Nat.le_of_ble_eq_true rfl) rfl dX9_layCombined_70 (nx_I) (kx_I ?_)
              have hfb := (hz.f h2 h3 (p := b) (by omega) (by omega)).2
              refine r_goto (tgt := 79) dX9_layCombined_73 (by decide) ?_
              refine r_istore dX9_layCombined_79 (by decide) rfl ?_
              refine r_iload dX9_layCombined_81 rfl ?_
              refine r_iload dX9_layCombined_83 rfl ?_
              refine r_icmp_ge (tgt := 93) dX9_layCombined_85 (by decide) (by omega) (by omega) (fun h85 => ?_) (fun h85 => ?_)
              ·
                refine r_iload dX9_layCombined_93 rfl ?_
                refine r_istore dX9_layCombined_95 (by decide) rfl ?_
                refine r_iload dX9_layCombined_97 rfl ?_
                refine r_iload dX9_layCombined_99 rfl ?_
                refine r_icmp_ne (tgt := 108) dX9_layCombined_101 (by decide) (by omega) (by omega) (fun h101 => ?_) (fun h101 => ?_)
                ·
                  refine r_iconst dX9_layCombined_108 ?_
                  refine r_iload dX9_layCombined_109 rfl ?_
                  refine r_iload dX9_layCombined_111 rfl ?_
                  refine r_icmp_ne (tgt := 120) dX9_layCombined_113 (by decide) (by omega) (by omega) (fun h113 => ?_) (fun h113 => ?_)
                  · omega
                  ·
                    refine r_iconst dX9_layCombined_116 ?_
                    refine r_goto (tgt := 121) dX9_layCombined_117 (by decide) ?_
                    refine r_iload_n dX9_layCombined_121 rfl ?_
                    refine r_callS3 okX9_belongs ⟨by decide, by decide⟩ ml_X9_113 (mX9_belongs (by omega) (by omega) q0 rfl) (Nat.le_of_ble_eq_true rfl) (Nat.le_of_ble_eq_true rfl) (Nat.le_of_ble_eq_true rfl) rfl dX9_layCombined_122 (nx_I) (kx_I ?_)
                    have hb01 := blg_01 0 1 how
                    have hb10 := blg_01 1 0 how
                    have hb11 := blg_01 1 1 how
                    refine r_if_eq (tgt := 149) dX9_layCombined_125 (by decide) (by omega) (fun h125 => ?_) (fun h125 => ?_)
                    ·
                      refine r_iload dX9_layCombined_149 rfl ?_
                      refine r_iload dX9_layCombined_151 rfl ?_
                      refine r_iload dX9_layCombined_153 rfl ?_
                      refine r_icmp_ne (tgt := 162) dX9_layCombined_155 (by decide) (by omega) (by omega) (fun h155 => ?_) (fun h155 => ?_)
                      ·
                        refine r_iconst dX9_layCombined_162 ?_
                        refine r_iadd dX9_layCombined_163 ?_
                        refine r_istore dX9_layCombined_164 (by decide) rfl ?_
                        refine r_iload dX9_layCombined_166 rfl ?_
                        refine r_iload dX9_layCombined_168 rfl ?_
                        refine r_iload dX9_layCombined_170 rfl ?_
                        refine r_icmp_ne (tgt := 179) dX9_layCombined_172 (by decide) (by omega) (by omega) (fun h172 => ?_) (fun h172 => ?_)
                        · omega
                        ·
                          refine r_iconst dX9_layCombined_175 ?_
                          refine r_goto (tgt := 180) dX9_layCombined_176 (by decide) ?_
                          refine r_iadd dX9_layCombined_180 ?_
                          refine r_istore dX9_layCombined_181 (by decide) rfl ?_
                          refine r_goto (tgt := 11) dX9_layCombined_183 (by decide) ?_
                          refine J.loc (lsub_cons rfl (lsub_cons rfl (lsub_cons rfl (lsub_cons rfl (lsub_cons rfl (lsub_cons rfl (lsub_nil))))))) (ih11 _ _ _ r1 rm1 ?_ ?_)
                          · exact ⟨by omega, by omega, by omega, by omega, hm, by omega, by omega, hcb.stepN hzi.2.1 hzj.2.1 hsi hsj ha0 hb0 (v := F j b) (x := 0) (y := 1) (Or.inr ⟨rfl, fun h => by omega, by omega⟩) (Or.inl ⟨rfl, by omega, by omega, by omega⟩) (by omega) (by omega)⟩
                          · omega
                      · omega
                    ·
                      refine r_aload_n dX9_layCombined_128 rfl ?_
                      refine r_getfield clX9 6 (by decide) fl_X9_19 hm.o rfl dX9_layCombined_129 ?_
                      refine r_aload_n dX9_layCombined_132 rfl ?_
                      refine r_getfield clX9 7 (by decide) fl_X9_56 hm.o rfl dX9_layCombined_133 ?_
                      refine r_iload dX9_layCombined_136 rfl ?_
                      refine r_iastore hm.r (by omega) (by omega) (by omega) dX9_layCombined_138 ?_
                      refine hm.w_r hi (fun Mx hm => ?_)
                      refine r_aload_n dX9_layCombined_139 rfl ?_
                      refine r_dup dX9_layCombined_140 ?_
                      refine r_getfield clX9 7 (by decide) fl_X9_56 hm.o rfl dX9_layCombined_141 ?_
                      refine r_iconst dX9_layCombined_144 ?_
                      refine r_iadd dX9_layCombined_145 ?_
                      refine r_putfield clX9 7 (by decide) fl_X9_56 rfl hm.o rfl rfl (Nat.le_of_ble_eq_true rfl) dX9_layCombined_146 ?_
                      refine hm.w_rowMany hi (fun Mx hm => ?_)
                      refine r_iload dX9_layCombined_149 rfl ?_
                      refine r_iload dX9_layCombined_151 rfl ?_
                      refine r_iload dX9_layCombined_153 rfl ?_
                      refine r_icmp_ne (tgt := 162) dX9_layCombined_155 (by decide) (by omega) (by omega) (fun h155 => ?_) (fun h155 => ?_)
                      ·
                        refine r_iconst dX9_layCombined_162 ?_
                        refine r_iadd dX9_layCombined_163 ?_
                        refine r_istore dX9_layCombined_164 (by decide) rfl ?_
                        refine r_iload dX9_layCombined_166 rfl ?_
                        refine r_iload dX9_layCombined_168 rfl ?_
                        refine r_iload dX9_layCombined_170 rfl ?_
                        refine r_icmp_ne (tgt := 179) dX9_layCombined_172 (by decide) (by omega) (by omega) (fun h172 => ?_) (fun h172 => ?_)
                        · omega
                        ·
                          refine r_iconst dX9_layCombined_175 ?_
                          refine r_goto (tgt := 180) dX9_layCombined_176 (by decide) ?_
                          refine r_iadd dX9_layCombined_180 ?_
                          refine r_istore dX9_layCombined_181 (by decide) rfl ?_
                          refine r_goto (tgt := 11) dX9_layCombined_183 (by decide) ?_
                          refine J.loc (lsub_cons rfl (lsub_cons rfl (lsub_cons rfl (lsub_cons rfl (lsub_cons rfl (lsub_cons rfl (lsub_nil))))))) (ih11 _ _ _ (uI r1 rm1 (F j b)) (rm1 + 1) ?_ ?_)
                          · exact ⟨by omega, by omega, by omega, by omega, hm, by omega, by omega, hcb.stepY hzi.2.1 hzj.2.1 hsi hsj ha0 hb0 hr0 (v := F j b) (x := 0) (y := 1) (Or.inr ⟨rfl, fun h => by omega, by omega⟩) (Or.inl ⟨rfl, by omega, by omega, by omega⟩) (by omega) (by omega)⟩
                          · omega
                      · omega
                · omega
              · omega
        ·
          refine r_iload dX9_layCombined_31 rfl ?_
          refine r_aload_n dX9_layCombined_33 rfl ?_
          refine r_iload_n dX9_layCombined_34 rfl ?_
          refine r_callV1 okX9_many ⟨by decide, by decide⟩ ml_X9_45 (mX9_many hm hz (by omega) (by omega)) hm.o rfl rfl (Nat.le_of_ble_eq_true rfl) (Nat.le_of_ble_eq_true rfl) (Nat.le_of_ble_eq_true rfl) rfl dX9_layCombined_35 (nx_I) (kx_I ?_)
          refine r_icmp_ge (tgt := 51) dX9_layCombined_38 (by decide) (by omega) (by omega) (fun h38 => ?_) (fun h38 => ?_)
          · omega
          ·
            refine r_aload_n dX9_layCombined_41 rfl ?_
            refine r_iload_n dX9_layCombined_42 rfl ?_
            refine r_iload dX9_layCombined_43 rfl ?_
            refine r_callV2 okX9_at ⟨by decide, by decide⟩ ml_X9_49 (mX9_at hm hz (by omega) (by omega) (by omega) (by omega)) hm.o rfl rfl (Nat.le_of_ble_eq_true rfl) (Nat.le_of_ble_eq_true rfl) (Nat.le_of_ble_eq_true rfl) rfl dX9_layCombined_45 (nx_I) (kx_I ?_)
            have hfa := (hz.f h0 h1 (p := a) (by omega) (by omega)).2
            refine r_goto (tgt := 54) dX9_layCombined_48 (by decide) ?_
            refine r_istore dX9_layCombined_54 (by decide) rfl ?_
            refine r_iload dX9_layCombined_56 rfl ?_
            refine r_aload_n dX9_layCombined_58 rfl ?_
            refine r_iload_n dX9_layCombined_59 rfl ?_
            refine r_callV1 okX9_many ⟨by decide, by decide⟩ ml_X9_45 (mX9_many hm hz (by omega) (by omega)) hm.o rfl rfl (Nat.le_of_ble_eq_true rfl) (Nat.le_of_ble_eq_true rfl) (Nat.le_of_ble_eq_true rfl) rfl dX9_layCombined_60 (nx_I) (kx_I ?_)
            refine r_icmp_ge (tgt := 76) dX9_layCombined_63 (by decide) (by omega) (by omega) (fun h63 => ?_) (fun h63 => ?_)
            · omega
            ·
              refine r_aload_n dX9_layCombined_66 rfl ?_
              refine r_iload_n dX9_layCombined_67 rfl ?_
              refine r_iload dX9_layCombined_68 rfl ?_
              refine r_callV2 okX9_at ⟨by decide, by decide⟩ ml_X9_49 (mX9_at hm hz (by omega) (by omega) (by omega) (by omega)) hm.o rfl rfl (Nat.le_of_ble_eq_true rfl) (Nat.le_of_ble_eq_true rfl) (Nat.le_of_ble_eq_true rfl) rfl dX9_layCombined_70 (nx_I) (kx_I ?_)
              have hfb := (hz.f h2 h3 (p := b) (by omega) (by omega)).2
              refine r_goto (tgt := 79) dX9_layCombined_73 (by decide) ?_
              refine r_istore dX9_layCombined_79 (by decide) rfl ?_
              refine r_iload dX9_layCombined_81 rfl ?_
              refine r_iload dX9_layCombined_83 rfl ?_
              refine r_icmp_ge (tgt := 93) dX9_layCombined_85 (by decide) (by omega) (by omega) (fun h85 => ?_) (fun h85 => ?_)
              ·
                refine r_iload dX9_layCombined_93 rfl ?_
                refine r_istore dX9_layCombined_95 (by decide) rfl ?_
                refine r_iload dX9_layCombined_97 rfl ?_
                refine r_iload dX9_layCombined_99 rfl ?_
                refine r_icmp_ne (tgt := 108) dX9_layCombined_101 (by decide) (by omega) (by omega) (fun h101 => ?_) (fun h101 => ?_)
                · omega
                ·
                  refine r_iconst dX9_layCombined_104 ?_
                  refine r_goto (tgt := 109) dX9_layCombined_105 (by decide) ?_
                  refine r_iload dX9_layCombined_109 rfl ?_
                  refine r_iload dX9_layCombined_111 rfl ?_
                  refine r_icmp_ne (tgt := 120) dX9_layCombined_113 (by decide) (by omega) (by omega) (fun h113 => ?_) (fun h113 => ?_)
                  · omega
                  ·
                    refine r_iconst dX9_layCombined_116 ?_
                    refine r_goto (tgt := 121) dX9_layCombined_117 (by decide) ?_
                    refine r_iload_n dX9_layCombined_121 rfl ?_
                    refine r_callS3 okX9_belongs ⟨by decide, by decide⟩ ml_X9_113 (mX9_belongs (by omega) (by omega) q0 rfl) (Nat.le_of_ble_eq_true rfl) (Nat.le_of_ble_eq_true rfl) (Nat.le_of_ble_eq_true rfl) rfl dX9_layCombined_122 (nx_I) (kx_I ?_)
                    have hb01 := blg_01 0 1 how
                    have hb10 := blg_01 1 0 how
                    have hb11 := blg_01 1 1 how
                    refine r_if_eq (tgt := 149) dX9_layCombined_125 (by decide) (by omega) (fun h125 => ?_) (fun h125 => ?_)
                    ·
                      refine r_iload dX9_layCombined_149 rfl ?_
                      refine r_iload dX9_layCombined_151 rfl ?_
                      refine r_iload dX9_layCombined_153 rfl ?_
                      refine r_icmp_ne (tgt := 162) dX9_layCombined_155 (by decide) (by omega) (by omega) (fun h155 => ?_) (fun h155 => ?_)
                      · omega
                      ·
                        refine r_iconst dX9_layCombined_158 ?_
                        refine r_goto (tgt := 163) dX9_layCombined_159 (by decide) ?_
                        refine r_iadd dX9_layCombined_163 ?_
                        refine r_istore dX9_layCombined_164 (by decide) rfl ?_
                        refine r_iload dX9_layCombined_166 rfl ?_
                        refine r_iload dX9_layCombined_168 rfl ?_
                        refine r_iload dX9_layCombined_170 rfl ?_
                        refine r_icmp_ne (tgt := 179) dX9_layCombined_172 (by decide) (by omega) (by omega) (fun h172 => ?_) (fun h172 => ?_)
                        · omega
                        ·
                          refine r_iconst dX9_layCombined_175 ?_
                          refine r_goto (tgt := 180) dX9_layCombined_176 (by decide) ?_
                          refine r_iadd dX9_layCombined_180 ?_
                          refine r_istore dX9_layCombined_181 (by decide) rfl ?_
                          refine r_goto (tgt := 11) dX9_layCombined_183 (by decide) ?_
                          refine J.loc (lsub_cons rfl (lsub_cons rfl (lsub_cons rfl (lsub_cons rfl (lsub_cons rfl (lsub_cons rfl (lsub_nil))))))) (ih11 _ _ _ r1 rm1 ?_ ?_)
                          · exact ⟨by omega, by omega, by omega, by omega, hm, by omega, by omega, hcb.stepN hzi.2.1 hzj.2.1 hsi hsj ha0 hb0 (v := F j b) (x := 1) (y := 1) (Or.inl ⟨rfl, by omega, by omega, by omega⟩) (Or.inl ⟨rfl, by omega, by omega, by omega⟩) (by omega) (by omega)⟩
                          · omega
                    ·
                      refine r_aload_n dX9_layCombined_128 rfl ?_
                      refine r_getfield clX9 6 (by decide) fl_X9_19 hm.o rfl dX9_layCombined_129 ?_
                      refine r_aload_n dX9_layCombined_132 rfl ?_
                      refine r_getfield clX9 7 (by decide) fl_X9_56 hm.o rfl dX9_layCombined_133 ?_
                      refine r_iload dX9_layCombined_136 rfl ?_
                      refine r_iastore hm.r (by omega) (by omega) (by omega) dX9_layCombined_138 ?_
                      refine hm.w_r hi (fun Mx hm => ?_)
                      refine r_aload_n dX9_layCombined_139 rfl ?_
                      refine r_dup dX9_layCombined_140 ?_
                      refine r_getfield clX9 7 (by decide) fl_X9_56 hm.o rfl dX9_layCombined_141 ?_
                      refine r_iconst dX9_layCombined_144 ?_
                      refine r_iadd dX9_layCombined_145 ?_
                      refine r_putfield clX9 7 (by decide) fl_X9_56 rfl hm.o rfl rfl (Nat.le_of_ble_eq_true rfl) dX9_layCombined_146 ?_
                      refine hm.w_rowMany hi (fun Mx hm => ?_)
                      refine r_iload dX9_layCombined_149 rfl ?_
                      refine r_iload dX9_layCombined_151 rfl ?_
                      refine r_iload dX9_layCombined_153 rfl ?_
                      refine r_icmp_ne (tgt := 162) dX9_layCombined_155 (by decide) (by omega) (by omega) (fun h155 => ?_) (fun h155 => ?_)
                      · omega
                      ·
                        refine r_iconst dX9_layCombined_158 ?_
                        refine r_goto (tgt := 163) dX9_layCombined_159 (by decide) ?_
                        refine r_iadd dX9_layCombined_163 ?_
                        refine r_istore dX9_layCombined_164 (by decide) rfl ?_
                        refine r_iload dX9_layCombined_166 rfl ?_
                        refine r_iload dX9_layCombined_168 rfl ?_
                        refine r_iload dX9_layCombined_170 rfl ?_
                        refine r_icmp_ne (tgt := 179) dX9_layCombined_172 (by decide) (by omega) (by omega) (fun h172 => ?_) (fun h172 => ?_)
                        · omega
                        ·
                          refine r_iconst dX9_layCombined_175 ?_
                          refine r_goto (tgt := 180) dX9_layCombined_176 (by decide) ?_
                          refine r_iadd dX9_layCombined_180 ?_
                          refine r_istore dX9_layCombined_181 (by decide) rfl ?_
                          refine r_goto (tgt := 11) dX9_layCombined_183 (by decide) ?_
                          refine J.loc (lsub_cons rfl (lsub_cons rfl (lsub_cons rfl (lsub_cons rfl (lsub_cons rfl (lsub_cons rfl (lsub_nil))))))) (ih11 _ _ _ (uI r1 rm1 (F j b)) (rm1 + 1) ?_ ?_)
                          · exact ⟨by omega, by omega, by omega, by omega, hm, by omega, by omega, hcb.stepY hzi.2.1 hzj.2.1 hsi hsj ha0 hb0 hr0 (v := F j b) (x := 1) (y := 1) (Or.inl ⟨rfl, by omega, by omega, by omega⟩) (Or.inl ⟨rfl, by omega, by omega, by omega⟩) (by omega) (by omega)⟩
                          · omega
              · omega
  · exact ⟨by omega, by omega, by omega, by omega, hm, by omega, by omega, fun x y c d e => by omega, fun q c d => by omega, fun q c d => by omega, fun y => ⟨fun ⟨q, c, d, e⟩ => by omega, fun ⟨h, _⟩ => by rcases h with ⟨q, c, d, e⟩ | ⟨q, c, d, e⟩ <;> omega⟩⟩
