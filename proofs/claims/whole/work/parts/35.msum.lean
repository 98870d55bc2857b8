/-! what the model reckons over all sets -/
theorem smF_last (f : Int → Int) : ∀ (k : Nat) (p : Int), smF f (k + 1) p = smF f k p + f (p + k)
  | 0, p => by simp [smF]
  | k + 1, p => by
    rw [smF, smF_last f k (p + 1), smF, show p + 1 + (k : Int) = p + ((k + 1 : Nat) : Int) by omega]
    omega
theorem smF_cong {f h : Int → Int} : ∀ (k : Nat) (p : Int), (∀ j, p ≤ j → j < p + k → f j = h j) → smF f k p = smF h k p
  | 0, p, _ => rfl
  | k + 1, p, e => by rw [smF, smF, e p (by omega) (by omega), smF_cong k (p + 1) (fun j a b => e j (by omega) (by omega))]
theorem smF_add {f h : Int → Int} {a v : Int} : ∀ (k : Nat) (p : Int), p ≤ a → a < p + k → (∀ x, f x = h x + if x = a then v else 0) → smF f k p = smF h k p + v
  | 0, p, h1, h2, _ => by omega
  | k + 1, p, h1, h2, e => by
    rw [smF, smF, e p]
    by_cases hp : p = a
    · rw [if_pos hp, smF_cong (f := f) (h := h) k (p + 1) (fun j b c => by rw [e j, if_neg (by omega)]; omega)]; omega
    · rw [if_neg hp, smF_add k (p + 1) (by omega) (by omega) e]; omega
/-- over the members, or over all numbers -/
theorem smF_mem (f : Int → Int) {F : Int → Int} : ∀ (k : Nat), Srt k F → (∀ i : Int, 0 ≤ i → i < k → 0 ≤ F i ∧ F i ≤ 9999) → smF (fun p => f (F p)) k 0 = smF (fun x => if hasF k F x = true then f x else 0) 10000 0
  | 0, _, _ => by
    rw [show smF (fun p => f (F p)) 0 0 = 0 from rfl]
    have h1 := smF_r (f := fun x => if hasF ((0 : Nat) : Int) F x = true then f x else 0) (lo := 0) (hi := 0) 10000 0 (fun j _ _ => by
      have : hasF ((0 : Nat) : Int) F j = false := by unfold hasF; rw [decide_eq_false (by have := (plc_spec (n := ((0 : Nat) : Int)) (by omega) F j).1; omega)]; rfl
      rw [this]; simp)
    omega
  | k + 1, hs, hb => by
    have hs' : Srt k F := fun i j a b c => hs i j a b (by omega)
    have ih := smF_mem f k hs' (fun i a b => hb i a (by omega))
    rw [smF_last, ih, show (0 : Int) + (k : Int) = k by omega]
    have hb' := hb k (by omega) (by omega)
    refine (smF_add (a := F k) 10000 0 (by omega) (by omega) (fun x => ?_)).symm
    have e1 := hasF_iff (n := ((k + 1 : Nat) : Int)) (by omega) hs x
    have e2 := hasF_iff (n := (k : Int)) (by omega) hs' x
    by_cases hx : x = F k
    · have h1 : hasF ((k + 1 : Nat) : Int) F x = true := e1.mpr ⟨k, by omega, by omega, hx.symm⟩
      have h2 : ¬ hasF (k : Int) F x = true := fun h => by
        obtain ⟨i, a, b, c⟩ := e2.mp h
        have := hs i k a b (by omega)
        omega
      rw [if_pos h1, if_neg h2, if_pos hx, hx]; omega
    · rw [if_neg hx]
      by_cases h2 : hasF (k : Int) F x = true
      · obtain ⟨i, a, b, c⟩ := e2.mp h2
        rw [if_pos h2, if_pos (e1.mpr ⟨i, a, by omega, c⟩)]; omega
      · rw [if_neg h2, if_neg (fun h => by
          obtain ⟨i, a, b, c⟩ := e1.mp h
          by_cases e : i = k
          · rw [e] at c; exact hx c.symm
          · exact h2 (e2.mpr ⟨i, a, by omega, c⟩))]; omega
/-- members that are new, or in each set besides -/
def moF (n : Int → Int) (F : Int → Int → Int) (b k : Int) : Int := smF (fun p => if hdF n F (F k p) k = 0 ∧ (b = 0 ∨ hdF n F (F k p) 4 = 4) then 1 else 0) (n k).toNat 0
theorem moF_0 (n : Int → Int) (F : Int → Int → Int) : moF n F 0 = ulF n F := by
  funext k
  unfold moF ulF
  simp
theorem hd_4 (n : Int → Int) (F : Int → Int → Int) (x : Int) : hdF n F x 4 = bI (hasF (n 0) (F 0) x) + (bI (hasF (n 1) (F 1) x) + (bI (hasF (n 2) (F 2) x) + (bI (hasF (n 3) (F 3) x) + 0))) := rfl
theorem hd_3 (n : Int → Int) (F : Int → Int → Int) (x : Int) : hdF n F x 3 = bI (hasF (n 0) (F 0) x) + (bI (hasF (n 1) (F 1) x) + (bI (hasF (n 2) (F 2) x) + 0)) := rfl
theorem hd_2 (n : Int → Int) (F : Int → Int → Int) (x : Int) : hdF n F x 2 = bI (hasF (n 0) (F 0) x) + (bI (hasF (n 1) (F 1) x) + 0) := rfl
theorem hd_1 (n : Int → Int) (F : Int → Int → Int) (x : Int) : hdF n F x 1 = bI (hasF (n 0) (F 0) x) + 0 := rfl
theorem hd_0 (n : Int → Int) (F : Int → Int → Int) (x : Int) : hdF n F x 0 = 0 := rfl
/-- what the sets are -/
def Sts (n : Int → Int) (F : Int → Int → Int) : Prop := ∀ k, 0 ≤ k → k < 4 → 0 ≤ n k ∧ n k ≤ 60 ∧ Srt (n k) (F k) ∧ ∀ i, 0 ≤ i → i < n k → 0 ≤ F k i ∧ F k i ≤ 9999
theorem moF_1 {n : Int → Int} {F : Int → Int → Int} (h : Sts n F) : smF (moF n F 1) 4 0 = maF n F := by
  have hz : ∀ k, (k = 1 ∨ k = 2 ∨ k = 3) → moF n F 1 k = 0 := fun k hk => by
    have h1 := smF_r (f := fun p => if hdF n F (F k p) k = 0 ∧ ((1 : Int) = 0 ∨ hdF n F (F k p) 4 = 4) then (1 : Int) else 0) (lo := 0) (hi := 0) (n k).toNat 0 (fun p _ _ => by
      rw [if_neg]
      · omega
      · rintro ⟨a, b | b⟩
        · omega
        · rw [hd_4] at b
          have r0 := bI_r (hasF (n 0) (F 0) (F k p)); have r1 := bI_r (hasF (n 1) (F 1) (F k p)); have r2 := bI_r (hasF (n 2) (F 2) (F k p)); have r3 := bI_r (hasF (n 3) (F 3) (F k p))
          rcases hk with rfl | rfl | rfl
          · rw [hd_1] at a; omega
          · rw [hd_2] at a; omega
          · rw [hd_3] at a; omega)
    unfold moF
    omega
  have h0 := h 0 (by omega) (by omega)
  have h3 := h 3 (by omega) (by omega)
  rw [show smF (moF n F 1) 4 0 = moF n F 1 0 + (moF n F 1 1 + (moF n F 1 2 + (moF n F 1 3 + 0))) from rfl, hz 1 (by omega), hz 2 (by omega), hz 3 (by omega)]
  have e0 := smF_mem (fun x => if hdF n F x 4 = 4 then 1 else 0) (F := F 0) (n 0).toNat (by rw [Int.toNat_of_nonneg h0.1]; exact h0.2.2.1) (fun i a b => h0.2.2.2 i a (by omega))
  have e3 := smF_mem (fun x => if hdF n F x 3 = 3 then 1 else 0) (F := F 3) (n 3).toNat (by rw [Int.toNat_of_nonneg h3.1]; exact h3.2.2.1) (fun i a b => h3.2.2.2 i a (by omega))
  rw [Int.toNat_of_nonneg h0.1] at e0
  rw [Int.toNat_of_nonneg h3.1] at e3
  have e4 : moF n F 1 0 = smF (fun p => if hdF n F (F 0 p) 4 = 4 then (1 : Int) else 0) (n 0).toNat 0 := by
    unfold moF
    refine smF_cong _ _ (fun j _ _ => ?_)
    rw [hd_0]
    simp
  rw [e4, e0, show maF n F = smF (fun p => if hdF n F (F 3 p) 3 = 3 then (1 : Int) else 0) (n 3).toNat 0 from rfl, e3]
  have e5 := smF_cong (f := fun x => if hasF (n 0) (F 0) x = true then (if hdF n F x 4 = 4 then (1 : Int) else 0) else 0) (h := fun x => if hasF (n 3) (F 3) x = true then (if hdF n F x 3 = 3 then (1 : Int) else 0) else 0) 10000 0 (fun x _ _ => by
    rw [hd_4, hd_3]
    cases hasF (n 0) (F 0) x <;> cases hasF (n 1) (F 1) x <;> cases hasF (n 2) (F 2) x <;> cases hasF (n 3) (F 3) x <;> simp [bI])
  omega
/-- pairs that are alike -/
theorem allF_cong {P P' : Int → Bool} (h : ∀ i, P i = P' i) : ∀ (k : Nat) (i : Int), allF P k i = allF P' k i
  | 0, i => rfl
  | k + 1, i => by rw [allF, allF, h i, allF_cong h k]
theorem likeF_symm (n n2 : Int) (F F2 : Int → Int) : likeF n F n2 F2 = likeF n2 F2 n F := by
  unfold likeF
  by_cases e : n = n2
  · rw [decide_eq_true e, decide_eq_true e.symm, e]
    rw [allF_cong (P := fun i => decide (F i = F2 i)) (P' := fun i => decide (F2 i = F i)) (fun i => by by_cases h : F i = F2 i <;> simp [h, eq_comm])]
  · rw [decide_eq_false e, decide_eq_false (fun h => e h.symm)]; rfl
def apF (n : Int → Int) (F : Int → Int → Int) (i : Int) : Int := smF (fun j => bI (likeF (n i) (F i) (n j) (F j))) i.toNat 0
theorem apF_sum (n : Int → Int) (F : Int → Int → Int) : smF (apF n F) 4 0 = smF (plF n F) 4 0 := by
  have l := fun i j => likeF_symm (n i) (n j) (F i) (F j)
  have e1 : smF (apF n F) 4 0 = 0 + ((bI (likeF (n 1) (F 1) (n 0) (F 0)) + 0) + ((bI (likeF (n 2) (F 2) (n 0) (F 0)) + (bI (likeF (n 2) (F 2) (n 1) (F 1)) + 0)) + ((bI (likeF (n 3) (F 3) (n 0) (F 0)) + (bI (likeF (n 3) (F 3) (n 1) (F 1)) + (bI (likeF (n 3) (F 3) (n 2) (F 2)) + 0))) + 0))) := rfl
  have e2 : smF (plF n F) 4 0 = (bI (likeF (n 0) (F 0) (n 1) (F 1)) + (bI (likeF (n 0) (F 0) (n 2) (F 2)) + (bI (likeF (n 0) (F 0) (n 3) (F 3)) + 0))) + ((bI (likeF (n 1) (F 1) (n 2) (F 2)) + (bI (likeF (n 1) (F 1) (n 3) (F 3)) + 0)) + ((bI (likeF (n 2) (F 2) (n 3) (F 3)) + 0) + (0 + 0))) := rfl
  rw [e1, e2, l 1 0, l 2 0, l 2 1, l 3 0, l 3 1, l 3 2]
  omega
/-- the best of some widths -/
def Bs (P : Int → Prop) (sz : Int → Int) (b : Int) : Prop := P b ∧ ∀ w, P w → sz b < sz w ∨ (sz b = sz w ∧ b ≤ w)
theorem Bs.uniq {P : Int → Prop} {sz : Int → Int} {b b' : Int} (h : Bs P sz b) (h' : Bs P sz b') : b = b' := by
  have h1 := h.2 b' h'.1
  have h2 := h'.2 b h.1
  omega
theorem Bs.cong {P P' : Int → Prop} {sz : Int → Int} {b : Int} (h : Bs P sz b) (hP : ∀ w, P' w ↔ P w) : Bs P' sz b := ⟨(hP b).mpr h.1, fun w hw => h.2 w ((hP w).mp hw)⟩
theorem Bs.take {P P' : Int → Prop} {sz : Int → Int} {b w0 : Int} (h : Bs P sz b) (hP : ∀ w, P' w ↔ P w ∨ w = w0) (hc : sz w0 < sz b ∨ (sz w0 = sz b ∧ w0 < b)) : Bs P' sz w0 :=
  ⟨(hP w0).mpr (Or.inr rfl), fun w hw => by
    rcases (hP w).mp hw with h1 | rfl
    · have := h.2 w h1; omega
    · omega⟩
theorem Bs.keep {P P' : Int → Prop} {sz : Int → Int} {b w0 : Int} (h : Bs P sz b) (hP : ∀ w, P' w ↔ P w ∨ w = w0) (hc : ¬ (sz w0 < sz b ∨ (sz w0 = sz b ∧ w0 < b))) : Bs P' sz b :=
  ⟨(hP b).mpr (Or.inl h.1), fun w hw => by
    rcases (hP w).mp hw with h1 | rfl
    · exact h.2 w h1
    · omega⟩
/-- the widths of the sets ahead of i, and of i itself ahead of p -/
def BW (n : Int → Int) (F : Int → Int → Int) (i p w : Int) : Prop := w = 1 ∨ ∃ k q, 0 ≤ k ∧ ((k < i ∧ 1 ≤ q ∧ q < n k) ∨ (k = i ∧ 1 ≤ q ∧ q < p)) ∧ w = gapF (n k) (F k) q
theorem BW.step (n : Int → Int) (F : Int → Int → Int) {i p : Int} (hi : 0 ≤ i) (hp : 1 ≤ p) (w : Int) : BW n F i (p + 1) w ↔ BW n F i p w ∨ w = gapF (n i) (F i) p := by
  constructor
  · rintro (h | ⟨k, q, h0, h1, h2⟩)
    · exact Or.inl (Or.inl h)
    · by_cases e : k = i ∧ q = p
      · rw [e.1, e.2] at h2; exact Or.inr h2
      · exact Or.inl (Or.inr ⟨k, q, h0, by omega, h2⟩)
  · rintro ((h | ⟨k, q, h0, h1, h2⟩) | h)
    · exact Or.inl h
    · exact Or.inr ⟨k, q, h0, by omega, h2⟩
    · exact Or.inr ⟨i, p, hi, by omega, h⟩
theorem BW.next (n : Int → Int) (F : Int → Int → Int) {i p : Int} (hi : 0 ≤ i) (hp : p = n i ∨ (n i ≤ 1 ∧ p = 1)) (w : Int) : BW n F (i + 1) 1 w ↔ BW n F i p w := by
  constructor
  · rintro (h | ⟨k, q, h0, h1, h2⟩)
    · exact Or.inl h
    · refine Or.inr ⟨k, q, h0, ?_, h2⟩
      by_cases e : k = i
      · rw [e] at h1 ⊢; omega
      · omega
  · rintro (h | ⟨k, q, h0, h1, h2⟩)
    · exact Or.inl h
    · refine Or.inr ⟨k, q, h0, ?_, h2⟩
      by_cases e : k = i
      · rw [e] at h1 ⊢; omega
      · omega
theorem gwI_spec {n : Int → Int} {F : Int → Int → Int} {i : Int} (hi : 0 ≤ i) : ∀ (k : Nat) (p m : Int) (G : Int → Int), 1 ≤ p → 0 ≤ m → m + k < 241 → Srt m G → (∀ w, Memb m G w ↔ BW n F i p w) → 0 ≤ (gwI (n i) (F i) k p m G).1 ∧ (gwI (n i) (F i) k p m G).1 ≤ m + k ∧ Srt (gwI (n i) (F i) k p m G).1 (gwI (n i) (F i) k p m G).2 ∧ ∀ w, Memb (gwI (n i) (F i) k p m G).1 (gwI (n i) (F i) k p m G).2 w ↔ BW n F i (p + k) w
  | 0, p, m, G, h0, h1, h2, h3, h4 => by
    unfold gwI
    exact ⟨h1, by omega, h3, fun w => by rw [show p + ((0 : Nat) : Int) = p by omega]; exact h4 w⟩
  | k + 1, p, m, G, h0, h1, h2, h3, h4 => by
    unfold gwI
    obtain ⟨g1, g2, g3, g4⟩ := put_spec (N := 241) h1 (by omega) h3 (gapF (n i) (F i) p)
    obtain ⟨a1, a2, a3, a4⟩ := gwI_spec hi k (p + 1) _ _ (by omega) (by omega) (by omega) g1 (fun w => (g2 w).trans ((or_congr (h4 w) Iff.rfl).trans (BW.step n F hi h0 w).symm))
    exact ⟨a1, by omega, a3, fun w => by rw [show p + ((k + 1 : Nat) : Int) = p + 1 + k by omega]; exact a4 w⟩
theorem gwO_spec {n : Int → Int} {F : Int → Int → Int} (h : Sts n F) : ∀ (k : Nat) (i m : Int) (G : Int → Int), 0 ≤ i → i + k = 4 → 0 ≤ m → m ≤ 1 + 59 * i → Srt m G → (∀ w, Memb m G w ↔ BW n F i 1 w) → 0 ≤ (gwO n F k i m G).1 ∧ (gwO n F k i m G).1 ≤ 237 ∧ Srt (gwO n F k i m G).1 (gwO n F k i m G).2 ∧ ∀ w, Memb (gwO n F k i m G).1 (gwO n F k i m G).2 w ↔ BW n F 4 1 w
  | 0, i, m, G, h0, h1, h2, h3, h4, h5 => by
    unfold gwO
    have e : i = 4 := by omega
    rw [e] at h3 h5
    exact ⟨h2, by omega, h4, h5⟩
  | k + 1, i, m, G, h0, h1, h2, h3, h4, h5 => by
    unfold gwO
    have hn := h i h0 (by omega)
    obtain ⟨a1, a2, a3, a4⟩ := gwI_spec (n := n) (F := F) h0 (n i - 1).toNat 1 m G (by omega) h2 (by omega) h4 h5
    exact gwO_spec h k (i + 1) _ _ (by omega) (by omega) a1 (by omega) a3 (fun w => (a4 w).trans (BW.next n F h0 (by omega) w).symm)
theorem gwF_spec {n : Int → Int} {F : Int → Int → Int} (h : Sts n F) : 0 ≤ (gwF n F).1 ∧ (gwF n F).1 ≤ 237 ∧ Srt (gwF n F).1 (gwF n F).2 ∧ ∀ w, Memb (gwF n F).1 (gwF n F).2 w ↔ BW n F 4 1 w := by
  obtain ⟨g1, g2, g3, g4⟩ := put_spec (N := 241) (n := 0) (F := fun _ => 0) (by omega) (by omega) (fun i j a b c => by omega) 1
  refine gwO_spec h 4 0 _ _ (by omega) (by omega) g3 (by omega) g1 (fun w => (g2 w).trans ⟨?_, ?_⟩)
  · rintro (⟨i, a, b, c⟩ | h1)
    · omega
    · exact Or.inl h1
  · rintro (h1 | ⟨k, q, h0, h1, h2⟩)
    · exact Or.inr h1
    · omega
theorem bwF_spec {W sz : Int → Int} {N : Int} (hs : Srt N W) : ∀ (k : Nat) (p b s : Int), 1 ≤ p → p + k = N → s = sz b → Bs (fun w => ∃ j, 0 ≤ j ∧ j < p ∧ W j = w) sz b → Bs (fun w => Memb N W w) sz (bwF W sz k p b s)
  | 0, p, b, s, h0, h1, h2, h3 => by
    unfold bwF
    have e : p = N := by omega
    rw [e] at h3
    exact h3
  | k + 1, p, b, s, h0, h1, h2, h3 => by
    unfold bwF
    have hst : ∀ w, (∃ j, 0 ≤ j ∧ j < p + 1 ∧ W j = w) ↔ (∃ j, 0 ≤ j ∧ j < p ∧ W j = w) ∨ w = W p := fun w => by
      constructor
      · rintro ⟨j, a, c, d⟩
        by_cases e : j = p
        · rw [e] at d; exact Or.inr d.symm
        · exact Or.inl ⟨j, a, by omega, d⟩
      · rintro (⟨j, a, c, d⟩ | rfl)
        · exact ⟨j, a, by omega, d⟩
        · exact ⟨p, by omega, by omega, rfl⟩
    have hlt : b < W p := by
      obtain ⟨j, a, c, d⟩ := h3.1
      have := hs j p a c (by omega)
      omega
    by_cases hc : sz (W p) < s
    · rw [if_pos hc]
      exact bwF_spec hs k (p + 1) _ _ (by omega) (by omega) rfl (h3.take hst (by omega))
    · rw [if_neg hc]
      exact bwF_spec hs k (p + 1) b s (by omega) (by omega) h2 (h3.keep hst (by omega))
theorem bwV_spec {n : Int → Int} {F : Int → Int → Int} (h : Sts n F) (g : Int → Int) : Bs (BW n F 4 1) (szA n F g) (bwV n F g) := by
  obtain ⟨h1, h2, h3, h4⟩ := gwF_spec h
  have hm1 := (h4 1).mpr (Or.inl rfl)
  have hw : (gwF n F).2 0 = 1 := by
    obtain ⟨j, a, b, c⟩ := hm1
    by_cases e : j = 0
    · rw [e] at c; exact c
    · have h5 := h3 0 j (by omega) (by omega) b
      rcases (h4 ((gwF n F).2 0)).mp ⟨0, by omega, by omega, rfl⟩ with h6 | ⟨k, q, c0, c1, c2⟩
      · exact h6
      · have hk := h k c0 (by omega)
        have hq : 1 ≤ q ∧ q < n k := by
          rcases c1 with c1 | c1
          · omega
          · omega
        have := hk.2.2.1 (q - 1) q (by omega) (by omega) hq.2
        rw [gapF_in (by omega) hq.2] at c2
        omega
  have hN : 1 ≤ (gwF n F).1 := by
    obtain ⟨j, a, b, c⟩ := hm1
    omega
  have h5 := bwF_spec (W := (gwF n F).2) (sz := szA n F g) h3 ((gwF n F).1 - 1).toNat 1 1 (szA n F g 1) (by omega) (by omega) rfl ⟨⟨0, by omega, by omega, hw⟩, fun w ⟨j, a, b, c⟩ => by
    have : j = 0 := by omega
    rw [this, hw] at c
    rw [← c]; omega⟩
  exact Bs.cong h5 (fun w => (h4 w).symm)
theorem lpN_z {nb : Int} {st F : Int → Int} (x b0 : Int) : (lpN 0 nb st F x b0) = (-1, 0, b0) := by unfold lpN; rw [if_pos rfl]
theorem Zr.sts {z n : Int → Int} {F : Int → Int → Int} {g : Int → Int} (h : Zr z n F g) (hv : Vld (n, F, g)) : Sts n F := fun k a b => ⟨(h.n a b).2.1, (h.n a b).2.2, hv.1 k a b, fun i c d => (h.f a b c d).2⟩
theorem RQ.o {M0 M : Mem} {ad : Int → Nat} {zA hA tA pA : Int → Int} {m len th rd nu bd sc : Int} {hs : Int64} (hq : RQ M0 M ad zA hA tA pA m len th rd nu bd sc hs) : ∃ (rm bk : Int), M (ad 112) = some (oC 9 [.ref (ad 113), vI m, .ref (ad 114), vI len, .ref (ad 115), vI th, .ref (ad 116), vI rm, .ref (ad 117), vI bk, .ref (ad 118), vI rd, vI nu, vI bd, vI sc, .ref (ad 119), .ref (ad 120), .long hs]) := by
  obtain ⟨rA, sA, bA, wA, rm, bk, hm⟩ := hq
  exact ⟨rm, bk, hm.o⟩
theorem drS_r {n : Int} (h : 0 ≤ n ∧ n ≤ 60) (F g : Int → Int) (p : Int) (hb : ∀ i, 0 ≤ i → i < n → 0 ≤ F i ∧ F i ≤ 9999) : 0 ≤ drS n F g p ∧ drS n F g p ≤ 900 := by
  obtain ⟨a1, a2, -⟩ := cutP_r (F p) (F p) h.1 hb
  have := szF_r a1 (cutP n F (F p) (F p)).2 g
  unfold drS
  omega
set_option maxHeartbeats 4000000 in
theorem mX9_setsWith {M0 M : Mem} {ad : Int → Nat} {zA hA tA rA sA pA bA wA : Int → Int} {m len th rm bk rd nu bd sc : Int} {hs : Int64} {n : Int → Int} {F : Int → Int → Int} {g : Int → Int} {x e : Int} (hm : RM M0 M ad zA hA tA rA sA pA bA wA m len th rm bk rd nu bd sc hs) (hz : Zr zA n F g) (q0 : 0 ≤ x ∧ x ≤ 9999) (q1 : 0 ≤ e ∧ e ≤ 4) : Ct KX9_setsWith [.ref (ad 112), vI x, vI e] M 0 0 (rtI (hdF n F x e) M) := by
  refine Ct.of _ (by decide) rfl (Nat.le_of_ble_eq_true rfl) ?_
  refine r_iconst dX9_setsWith_0 ?_
  refine r_istore_n dX9_setsWith_1 (by decide) rfl ?_
  refine r_iconst dX9_setsWith_2 ?_
  refine r_istore dX9_setsWith_3 (by decide) rfl ?_
  refine J.loc (L' := [(0, some _), (1, some _), (2, some _), (3, some _), (4, some _)]) (lsub_cons rfl (lsub_cons rfl (lsub_cons rfl (lsub_cons rfl (lsub_cons rfl (lsub_nil)))))) (loop2 (fun (i : Int) (y : Int) => 0 ≤ i ∧ i ≤ e ∧ 0 ≤ y ∧ y ≤ i ∧ hdF n F x e = y + smF (fun k => bI (hasF (n k) (F k) x)) (e - i).toNat i) (fun (i : Int) (y : Int) => (e - i).toNat) (fun (i : Int) (y : Int) => J KX9_setsWith 0 0 _ 5 [(0, some (.ref (ad 112))), (1, some (vI x)), (2, some (vI e)), (3, some (vI y)), (4, some (vI i))] [] M _ _) (fun i y hI5 ih5 => ?_) _ _ ?_)
  ·
    obtain ⟨hi0, hi1, hy0, hy1, hy⟩ := hI5
    refine r_iload dX9_setsWith_5 rfl ?_
    refine r_iload_n dX9_setsWith_7 rfl ?_
    refine r_icmp_ge (tgt := 35) dX9_setsWith_8 (by decide) (by omega) (by omega) (fun h8 => ?_) (fun h8 => ?_)
    ·
      refine r_iload_n dX9_setsWith_35 rfl ?_
      refine e_ireturn dX9_setsWith_36 rfl (Nat.le_of_ble_eq_true rfl) (Nat.le_of_ble_eq_true rfl) ?_
      exact okI (by rw [hy, show (e - i).toNat = 0 by omega, smF]; omega)
    ·
      refine r_iload_n dX9_setsWith_11 rfl ?_
      refine r_aload_n dX9_setsWith_12 rfl ?_
      refine r_iload dX9_setsWith_13 rfl ?_
      refine r_iload_n dX9_setsWith_15 rfl ?_
      refine r_callV2 okX9_isMember ⟨by decide, by decide⟩ ml_X9_88 (mX9_isMember hm hz (by omega) (by omega) (by omega) rfl) hm.o rfl rfl (Nat.le_of_ble_eq_true rfl) (Nat.le_of_ble_eq_true rfl) (Nat.le_of_ble_eq_true rfl) rfl dX9_setsWith_16 (nx_I) (kx_I ?_)
      have hbb := bI_r (hasF (n i) (F i) x)
      refine r_if_eq (tgt := 26) dX9_setsWith_19 (by decide) (by omega) (fun h19 => ?_) (fun h19 => ?_)
      ·
        refine r_iconst dX9_setsWith_26 ?_
        refine r_iadd dX9_setsWith_27 ?_
        refine r_istore_n dX9_setsWith_28 (by decide) rfl ?_
        refine r_iinc dX9_setsWith_29 rfl rfl ?_
        refine r_goto (tgt := 5) dX9_setsWith_32 (by decide) ?_
        refine J.loc (lsub_cons rfl (lsub_cons rfl (lsub_cons rfl (lsub_cons rfl (lsub_cons rfl (lsub_nil)))))) (ih5 _ _ ?_ ?_)
        · refine ⟨by omega, by omega, by omega, by omega, ?_⟩
          rw [hy, show (e - i).toNat = (e - (i + 1)).toNat + 1 by omega, smF]
          omega
        · omega
      ·
        refine r_iconst dX9_setsWith_22 ?_
        refine r_goto (tgt := 27) dX9_setsWith_23 (by decide) ?_
        refine r_iadd dX9_setsWith_27 ?_
        refine r_istore_n dX9_setsWith_28 (by decide) rfl ?_
        refine r_iinc dX9_setsWith_29 rfl rfl ?_
        refine r_goto (tgt := 5) dX9_setsWith_32 (by decide) ?_
        refine J.loc (lsub_cons rfl (lsub_cons rfl (lsub_cons rfl (lsub_cons rfl (lsub_cons rfl (lsub_nil)))))) (ih5 _ _ ?_ ?_)
        · refine ⟨by omega, by omega, by omega, by omega, ?_⟩
          rw [hy, show (e - i).toNat = (e - (i + 1)).toNat + 1 by omega, smF]
          omega
        · omega
  · exact ⟨by omega, by omega, by omega, by omega, by unfold hdF; simp⟩

set_option maxHeartbeats 4000000 in
theorem mX9_membersOfAll {M0 M : Mem} {ad : Int → Nat} {zA hA tA rA sA pA bA wA : Int → Int} {m len th rm bk rd nu bd sc : Int} {hs : Int64} {n : Int → Int} {F : Int → Int → Int} {g : Int → Int} {b : Int} (hm : RM M0 M ad zA hA tA rA sA pA bA wA m len th rm bk rd nu bd sc hs) (hz : Zr zA n F g) (q0 : b = 0 ∨ b = 1) : Ct KX9_membersOfAll [.ref (ad 112), vI b] M 0 0 (rtI (smF (moF n F b) 4 0) M) := by
  refine Ct.of _ (by decide) rfl (Nat.le_of_ble_eq_true rfl) ?_
  refine r_iconst dX9_membersOfAll_0 ?_
  refine r_istore_n dX9_membersOfAll_1 (by decide) rfl ?_
  refine r_iconst dX9_membersOfAll_2 ?_
  refine r_istore_n dX9_membersOfAll_3 (by decide) rfl ?_
  refine J.loc (L' := [(0, some _), (1, some _), (2, some _), (3, some _)]) (lsub_cons rfl (lsub_cons rfl (lsub_cons rfl (lsub_cons rfl (lsub_nil))))) (loop2 (fun (i : Int) (y : Int) => 0 ≤ i ∧ i ≤ 4 ∧ smF (moF n F b) 4 0 = y + smF (moF n F b) (4 - i).toNat i) (fun (i : Int) (y : Int) => (4 - i).toNat) (fun (i : Int) (y : Int) => J KX9_membersOfAll 0 0 _ 4 [(0, some (.ref (ad 112))), (1, some (vI b)), (2, some (vI y)), (3, some (vI i))] [] M _ _) (fun i y hI4 ih4 => ?_) _ _ ?_)
  ·
    obtain ⟨hi0, hi1, hy⟩ := hI4
    refine r_iload_n dX9_membersOfAll_4 rfl ?_
    refine r_iconst dX9_membersOfAll_5 ?_
    refine r_icmp_ge (tgt := 89) dX9_membersOfAll_6 (by decide) (by omega) (by omega) (fun h6 => ?_) (fun h6 => ?_)
    ·
      refine r_iload_n dX9_membersOfAll_89 rfl ?_
      refine e_ireturn dX9_membersOfAll_90 rfl (Nat.le_of_ble_eq_true rfl) (Nat.le_of_ble_eq_true rfl) ?_
      exact okI (by rw [hy, show ((4 : Int) - i).toNat = 0 by omega, smF]; omega)
    ·
      refine r_iconst dX9_membersOfAll_9 ?_
      refine r_istore dX9_membersOfAll_10 (by decide) rfl ?_
      refine J.loc (L' := [(0, some _), (1, some _), (2, some _), (3, some _), (4, some _)]) (lsub_cons rfl (lsub_cons rfl (lsub_cons rfl (lsub_cons rfl (lsub_cons rfl (lsub_nil)))))) (loop2 (fun (p : Int) (w : Int) => 0 ≤ p ∧ p ≤ n i ∧ y + moF n F b i = w + smF (fun p => if hdF n F (F i p) i = 0 ∧ (b = 0 ∨ hdF n F (F i p) 4 = 4) then (1 : Int) else 0) (n i - p).toNat p) (fun (p : Int) (w : Int) => (n i - p).toNat) (fun (p : Int) (w : Int) => J KX9_membersOfAll 0 0 _ 12 [(0, some (.ref (ad 112))), (1, some (vI b)), (2, some (vI w)), (3, some (vI i)), (4, some (vI p))] [] M _ _) (fun p w hI12 ih12 => ?_) _ _ ?_)
      ·
        obtain ⟨hp0, hp1, hw⟩ := hI12
        have hni := hz.n hi0 (by omega)
        refine r_iload dX9_membersOfAll_12 rfl ?_
        refine r_aload_n dX9_membersOfAll_14 rfl ?_
        refine r_iload_n dX9_membersOfAll_15 rfl ?_
        refine r_callV1 okX9_many ⟨by decide, by decide⟩ ml_X9_45 (mX9_many hm hz (by omega) (by omega)) hm.o rfl rfl (Nat.le_of_ble_eq_true rfl) (Nat.le_of_ble_eq_true rfl) (Nat.le_of_ble_eq_true rfl) rfl dX9_membersOfAll_16 (nx_I) (kx_I ?_)
        refine r_icmp_ge (tgt := 83) dX9_membersOfAll_19 (by decide) (by omega) (by omega) (fun h19 => ?_) (fun h19 => ?_)
        ·
          refine r_iinc dX9_membersOfAll_83 rfl rfl ?_
          refine r_goto (tgt := 4) dX9_membersOfAll_86 (by decide) ?_
          refine J.loc (lsub_cons rfl (lsub_cons rfl (lsub_cons rfl (lsub_cons rfl (lsub_nil))))) (ih4 _ _ ?_ ?_)
          · refine ⟨by omega, by omega, ?_⟩
            rw [hy, show ((4 : Int) - i).toNat = (4 - (i + 1)).toNat + 1 by omega, smF]
            rw [show (n i - p).toNat = 0 by omega, smF] at hw
            omega
          · omega
        ·
          have hfp := (hz.f hi0 (by omega) (p := p) hp0 (by omega)).2
          refine r_aload_n dX9_membersOfAll_22 rfl ?_
          refine r_aload_n dX9_membersOfAll_23 rfl ?_
          refine r_iload_n dX9_membersOfAll_24 rfl ?_
          refine r_iload dX9_membersOfAll_25 rfl ?_
          refine r_callV2 okX9_at ⟨by decide, by decide⟩ ml_X9_49 (mX9_at hm hz (by omega) (by omega) (by omega) (by omega)) hm.o rfl rfl (Nat.le_of_ble_eq_true rfl) (Nat.le_of_ble_eq_true rfl) (Nat.le_of_ble_eq_true rfl) rfl dX9_membersOfAll_27 (nx_I) (kx_I ?_)
          refine r_iload_n dX9_membersOfAll_30 rfl ?_
          refine r_callV2 okX9_setsWith ⟨by decide, by decide⟩ ml_X9_204 (mX9_setsWith hm hz hfp (by omega)) hm.o rfl rfl (Nat.le_of_ble_eq_true rfl) (Nat.le_of_ble_eq_true rfl) (Nat.le_of_ble_eq_true rfl) rfl dX9_membersOfAll_31 (nx_I) (kx_I ?_)
          have hd1 := hdF_r n F (F i p) (e := i) (by omega)
          refine r_if_ne (tgt := 41) dX9_membersOfAll_34 (by decide) (by omega) (fun h34 => ?_) (fun h34 => ?_)
          ·
            refine r_iconst dX9_membersOfAll_41 ?_
            refine r_istore dX9_membersOfAll_42 (by decide) rfl ?_
            refine r_iload_n dX9_membersOfAll_44 rfl ?_
            refine r_iload dX9_membersOfAll_45 rfl ?_
            refine r_if_eq (tgt := 74) dX9_membersOfAll_47 (by decide) (by omega) (fun h47 => ?_) (fun h47 => ?_)
            ·
              refine r_iconst dX9_membersOfAll_74 ?_
              refine r_iadd dX9_membersOfAll_75 ?_
              refine r_istore_n dX9_membersOfAll_76 (by decide) rfl ?_
              refine r_iinc dX9_membersOfAll_77 rfl rfl ?_
              refine r_goto (tgt := 12) dX9_membersOfAll_80 (by decide) ?_
              refine J.loc (lsub_cons rfl (lsub_cons rfl (lsub_cons rfl (lsub_cons rfl (lsub_cons rfl (lsub_nil)))))) (ih12 _ _ ?_ ?_)
              · refine ⟨by omega, by omega, ?_⟩
                rw [hw, show (n i - p).toNat = (n i - (p + 1)).toNat + 1 by omega, smF]
                first | rw [if_pos (by omega)] | rw [if_neg (by omega)]
                omega
              · omega
            · omega
          ·
            refine r_iconst dX9_membersOfAll_37 ?_
            refine r_goto (tgt := 42) dX9_membersOfAll_38 (by decide) ?_
            refine r_istore dX9_membersOfAll_42 (by decide) rfl ?_
            refine r_iload_n dX9_membersOfAll_44 rfl ?_
            refine r_iload dX9_membersOfAll_45 rfl ?_
            refine r_if_eq (tgt := 74) dX9_membersOfAll_47 (by decide) (by omega) (fun h47 => ?_) (fun h47 => ?_)
            · omega
            ·
              refine r_iload_n dX9_membersOfAll_50 rfl ?_
              refine r_if_eq (tgt := 70) dX9_membersOfAll_51 (by decide) (by omega) (fun h51 => ?_) (fun h51 => ?_)
              ·
                refine r_iconst dX9_membersOfAll_70 ?_
                refine r_goto (tgt := 75) dX9_membersOfAll_71 (by decide) ?_
                refine r_iadd dX9_membersOfAll_75 ?_
                refine r_istore_n dX9_membersOfAll_76 (by decide) rfl ?_
                refine r_iinc dX9_membersOfAll_77 rfl rfl ?_
                refine r_goto (tgt := 12) dX9_membersOfAll_80 (by decide) ?_
                refine J.loc (lsub_cons rfl (lsub_cons rfl (lsub_cons rfl (lsub_cons rfl (lsub_cons rfl (lsub_nil)))))) (ih12 _ _ ?_ ?_)
                · refine ⟨by omega, by omega, ?_⟩
                  rw [hw, show (n i - p).toNat = (n i - (p + 1)).toNat + 1 by omega, smF]
                  first | rw [if_pos (by omega)] | rw [if_neg (by omega)]
                  omega
                · omega
              ·
                refine r_aload_n dX9_membersOfAll_54 rfl ?_
                refine r_aload_n dX9_membersOfAll_55 rfl ?_
                refine r_iload_n dX9_membersOfAll_56 rfl ?_
                refine r_iload dX9_membersOfAll_57 rfl ?_
                refine r_callV2 okX9_at ⟨by decide, by decide⟩ ml_X9_49 (mX9_at hm hz (by omega) (by omega) (by omega) (by omega)) hm.o rfl rfl (Nat.le_of_ble_eq_true rfl) (Nat.le_of_ble_eq_true rfl) (Nat.le_of_ble_eq_true rfl) rfl dX9_membersOfAll_59 (nx_I) (kx_I ?_)
                refine r_iconst dX9_membersOfAll_62 ?_
                refine r_callV2 okX9_setsWith ⟨by decide, by decide⟩ ml_X9_204 (mX9_setsWith hm hz hfp (by omega)) hm.o rfl rfl (Nat.le_of_ble_eq_true rfl) (Nat.le_of_ble_eq_true rfl) (Nat.le_of_ble_eq_true rfl) rfl dX9_membersOfAll_63 (nx_I) (kx_I ?_)
                have hd2 := hdF_r n F (F i p) (e := 4) (by omega)
                refine r_iconst dX9_membersOfAll_66 ?_
                refine r_icmp_ne (tgt := 74) dX9_membersOfAll_67 (by decide) (by omega) (by omega) (fun h67 => ?_) (fun h67 => ?_)
                ·
                  refine r_iconst dX9_membersOfAll_74 ?_
                  refine r_iadd dX9_membersOfAll_75 ?_
                  refine r_istore_n dX9_membersOfAll_76 (by decide) rfl ?_
                  refine r_iinc dX9_membersOfAll_77 rfl rfl ?_
                  refine r_goto (tgt := 12) dX9_membersOfAll_80 (by decide) ?_
                  refine J.loc (lsub_cons rfl (lsub_cons rfl (lsub_cons rfl (lsub_cons rfl (lsub_cons rfl (lsub_nil)))))) (ih12 _ _ ?_ ?_)
                  · refine ⟨by omega, by omega, ?_⟩
                    rw [hw, show (n i - p).toNat = (n i - (p + 1)).toNat + 1 by omega, smF]
                    first | rw [if_pos (by omega)] | rw [if_neg (by omega)]
                    omega
                  · omega
                ·
                  refine r_iconst dX9_membersOfAll_70 ?_
                  refine r_goto (tgt := 75) dX9_membersOfAll_71 (by decide) ?_
                  refine r_iadd dX9_membersOfAll_75 ?_
                  refine r_istore_n dX9_membersOfAll_76 (by decide) rfl ?_
                  refine r_iinc dX9_membersOfAll_77 rfl rfl ?_
                  refine r_goto (tgt := 12) dX9_membersOfAll_80 (by decide) ?_
                  refine J.loc (lsub_cons rfl (lsub_cons rfl (lsub_cons rfl (lsub_cons rfl (lsub_cons rfl (lsub_nil)))))) (ih12 _ _ ?_ ?_)
                  · refine ⟨by omega, by omega, ?_⟩
                    rw [hw, show (n i - p).toNat = (n i - (p + 1)).toNat + 1 by omega, smF]
                    first | rw [if_pos (by omega)] | rw [if_neg (by omega)]
                    omega
                  · omega
      · exact ⟨by omega, by have := (hz.n hi0 (by omega)).2.1; omega, by unfold moF; simp⟩
  · exact ⟨by omega, by omega, (by rw [show ((4 : Int) - 0).toNat = 4 from rfl]; omega)⟩

set_option maxHeartbeats 4000000 in
theorem mX9_sumOf {M0 M : Mem} {ad : Int → Nat} {zA hA tA pA : Int → Int} {m len th rd nu bd sc : Int} {hs : Int64} {n : Int → Int} {F : Int → Int → Int} {g : Int → Int} {w : Int} (hq : RQ M0 M ad zA hA tA pA m len th rd nu bd sc hs) (hi : Inj ad) (hz : Zr zA n F g) (hv : Vld (n, F, g)) (q1 : R32 w) : Ct KX9_sumOf [.ref (ad 112), vI w] M 0 0 (atI (smF (fun k => ofV (n k) (F k) g w) 4 0) (fun M2 => RQ M0 M2 ad zA hA tA pA m len th rd nu bd sc hs)) := by
  refine Ct.of _ (by decide) rfl (Nat.le_of_ble_eq_true rfl) ?_
  obtain ⟨hvs, hv0, hv1, hv2, hv3⟩ := id hv
  dsimp only at hvs hv0 hv1 hv2 hv3
  have hg : (2 ≤ g 0 ∧ g 0 ≤ 16) ∧ 1 ≤ g 1 ∧ g 1 ≤ 9999 := ⟨⟨hv0, hv1⟩, hv2, hv3⟩
  refine r_iconst dX9_sumOf_0 ?_
  refine r_istore_n dX9_sumOf_1 (by decide) rfl ?_
  refine r_iconst dX9_sumOf_2 ?_
  refine r_istore_n dX9_sumOf_3 (by decide) rfl ?_
  refine J.loc (L' := [(0, some _), (1, some _), (2, some _), (3, some _)]) (lsub_cons rfl (lsub_cons rfl (lsub_cons rfl (lsub_cons rfl (lsub_nil))))) (loop3 (fun (i : Int) (y : Int) (M1 : Mem) => 0 ≤ i ∧ i ≤ 4 ∧ RQ M0 M1 ad zA hA tA pA m len th rd nu bd sc hs ∧ smF (fun k => ofV (n k) (F k) g w) 4 0 = y + smF (fun k => ofV (n k) (F k) g w) (4 - i).toNat i) (fun (i : Int) (y : Int) (M1 : Mem) => (4 - i).toNat) (fun (i : Int) (y : Int) (M1 : Mem) => J KX9_sumOf 0 0 _ 4 [(0, some (.ref (ad 112))), (1, some (vI w)), (2, some (vI y)), (3, some (vI i))] [] M1 _ _) (fun i y M1 hI4 ih4 => ?_) _ _ _ ?_)
  ·
    obtain ⟨hi0, hi1, hq, hy⟩ := hI4
    have hqo := hq.o
    refine r_iload_n dX9_sumOf_4 rfl ?_
    refine r_iconst dX9_sumOf_5 ?_
    refine r_icmp_ge (tgt := 28) dX9_sumOf_6 (by decide) (by omega) (by omega) (fun h6 => ?_) (fun h6 => ?_)
    ·
      refine r_iload_n dX9_sumOf_28 rfl ?_
      refine e_ireturn dX9_sumOf_29 rfl (Nat.le_of_ble_eq_true rfl) (Nat.le_of_ble_eq_true rfl) ?_
      exact oktI (by rw [hy, show ((4 : Int) - i).toNat = 0 by omega, smF]; omega) hq
    ·
      refine r_aload_n dX9_sumOf_9 rfl ?_
      refine r_iload_n dX9_sumOf_10 rfl ?_
      refine r_iload_n dX9_sumOf_11 rfl ?_
      refine r_callV2 okX9_setNow ⟨by decide, by decide⟩ ml_X9_189 (mX9_setNow hq hi hz (by omega) (by omega) hg (by omega)) hqo.choose_spec.choose_spec rfl rfl (Nat.le_of_ble_eq_true rfl) (Nat.le_of_ble_eq_true rfl) (Nat.le_of_ble_eq_true rfl) rfl dX9_sumOf_12 (nx_tI) (kx_tI ?_)
      intro Mx hq
      refine r_istore dX9_sumOf_15 (by decide) rfl ?_
      refine r_iload_n dX9_sumOf_17 rfl ?_
      refine r_iload dX9_sumOf_18 rfl ?_
      refine r_iadd dX9_sumOf_20 ?_
      refine r_istore_n dX9_sumOf_21 (by decide) rfl ?_
      refine r_iinc dX9_sumOf_22 rfl rfl ?_
      refine r_goto (tgt := 4) dX9_sumOf_25 (by decide) ?_
      refine J.loc (lsub_cons rfl (lsub_cons rfl (lsub_cons rfl (lsub_cons rfl (lsub_nil))))) (ih4 _ _ _ ?_ ?_)
      · refine ⟨by omega, by omega, hq, ?_⟩
        rw [hy, show ((4 : Int) - i).toNat = (4 - (i + 1)).toNat + 1 by omega, smF]
        omega
      · omega
  · exact ⟨by omega, by omega, hq, (by rw [show ((4 : Int) - 0).toNat = 4 from rfl]; omega)⟩

set_option maxHeartbeats 4000000 in
theorem mX9_areAlike {M0 M : Mem} {ad : Int → Nat} {zA hA tA rA sA pA bA wA : Int → Int} {m len th rm bk rd nu bd sc : Int} {hs : Int64} {n : Int → Int} {F : Int → Int → Int} {g : Int → Int} {i j : Int} (hm : RM M0 M ad zA hA tA rA sA pA bA wA m len th rm bk rd nu bd sc hs) (hz : Zr zA n F g) (h0 : 0 ≤ i) (h1 : i < 4) (h2 : 0 ≤ j) (h3 : j < 4) : Ct KX9_areAlike [.ref (ad 112), vI i, vI j] M 0 0 (rtI (bI (likeF (n i) (F i) (n j) (F j))) M) := by
  refine Ct.of _ (by decide) rfl (Nat.le_of_ble_eq_true rfl) ?_
  have hni := hz.n h0 h1
  have hnj := hz.n h2 h3
  refine r_aload_n dX9_areAlike_0 rfl ?_
  refine r_iload_n dX9_areAlike_1 rfl ?_
  refine r_callV1 okX9_many ⟨by decide, by decide⟩ ml_X9_45 (mX9_many hm hz (by omega) (by omega)) hm.o rfl rfl (Nat.le_of_ble_eq_true rfl) (Nat.le_of_ble_eq_true rfl) (Nat.le_of_ble_eq_true rfl) rfl dX9_areAlike_2 (nx_I) (kx_I ?_)
  refine r_aload_n dX9_areAlike_5 rfl ?_
  refine r_iload_n dX9_areAlike_6 rfl ?_
  refine r_callV1 okX9_many ⟨by decide, by decide⟩ ml_X9_45 (mX9_many hm hz (by omega) (by omega)) hm.o rfl rfl (Nat.le_of_ble_eq_true rfl) (Nat.le_of_ble_eq_true rfl) (Nat.le_of_ble_eq_true rfl) rfl dX9_areAlike_7 (nx_I) (kx_I ?_)
  refine r_icmp_ne (tgt := 17) dX9_areAlike_10 (by decide) (by omega) (by omega) (fun h10 => ?_) (fun h10 => ?_)
  ·
    refine r_iconst dX9_areAlike_17 ?_
    refine r_istore_n dX9_areAlike_18 (by decide) rfl ?_
    refine r_iconst dX9_areAlike_19 ?_
    refine r_istore dX9_areAlike_20 (by decide) rfl ?_
    refine J.loc (L' := [(0, some _), (1, some _), (2, some _), (3, some _), (4, some _)]) (lsub_cons rfl (lsub_cons rfl (lsub_cons rfl (lsub_cons rfl (lsub_cons rfl (lsub_nil)))))) (loop2 (fun (p : Int) (v : Int) => 0 ≤ p ∧ p ≤ n i ∧ ((v = 1 ∧ n i = n j ∧ likeF (n i) (F i) (n j) (F j) = allF (fun q => decide (F i q = F j q)) (n i - p).toNat p) ∨ (v = 0 ∧ likeF (n i) (F i) (n j) (F j) = false))) (fun (p : Int) (v : Int) => (n i - p).toNat + v.toNat) (fun (p : Int) (v : Int) => J KX9_areAlike 0 0 _ 22 [(0, some (.ref (ad 112))), (1, some (vI i)), (2, some (vI j)), (3, some (vI v)), (4, some (vI p))] [] M _ _) (fun p v hI22 ih22 => ?_) _ _ ?_)
    ·
      obtain ⟨hp0, hp1, hl⟩ := hI22
      have hv01 : v = 0 ∨ v = 1 := by omega
      refine r_iload_n dX9_areAlike_22 rfl ?_
      refine r_if_eq (tgt := 65) dX9_areAlike_23 (by decide) (by omega) (fun h23 => ?_) (fun h23 => ?_)
      ·
        refine r_iload_n dX9_areAlike_65 rfl ?_
        refine e_zreturn dX9_areAlike_66 rfl (by omega) (Nat.le_of_ble_eq_true rfl) (Nat.le_of_ble_eq_true rfl) ?_
        exact okI (by
          rcases hl with ⟨a, b, c⟩ | ⟨a, b⟩
          · omega
          · rw [b, a]; rfl)
      ·
        refine r_iload dX9_areAlike_26 rfl ?_
        refine r_aload_n dX9_areAlike_28 rfl ?_
        refine r_iload_n dX9_areAlike_29 rfl ?_
        refine r_callV1 okX9_many ⟨by decide, by decide⟩ ml_X9_45 (mX9_many hm hz (by omega) (by omega)) hm.o rfl rfl (Nat.le_of_ble_eq_true rfl) (Nat.le_of_ble_eq_true rfl) (Nat.le_of_ble_eq_true rfl) rfl dX9_areAlike_30 (nx_I) (kx_I ?_)
        refine r_icmp_ge (tgt := 65) dX9_areAlike_33 (by decide) (by omega) (by omega) (fun h33 => ?_) (fun h33 => ?_)
        ·
          refine r_iload_n dX9_areAlike_65 rfl ?_
          refine e_zreturn dX9_areAlike_66 rfl (by omega) (Nat.le_of_ble_eq_true rfl) (Nat.le_of_ble_eq_true rfl) ?_
          exact okI (by
            rcases hl with ⟨a, b, c⟩ | ⟨a, b⟩
            · rw [c, show (n i - p).toNat = 0 by omega, allF, a]; rfl
            · omega)
        ·
          refine r_aload_n dX9_areAlike_36 rfl ?_
          refine r_iload_n dX9_areAlike_37 rfl ?_
          refine r_iload dX9_areAlike_38 rfl ?_
          refine r_callV2 okX9_at ⟨by decide, by decide⟩ ml_X9_49 (mX9_at hm hz (by omega) (by omega) (by omega) (by omega)) hm.o rfl rfl (Nat.le_of_ble_eq_true rfl) (Nat.le_of_ble_eq_true rfl) (Nat.le_of_ble_eq_true rfl) rfl dX9_areAlike_40 (nx_I) (kx_I ?_)
          have hf0 := (hz.f h0 h1 (p := p) hp0 (by omega)).2
          refine r_aload_n dX9_areAlike_43 rfl ?_
          refine r_iload_n dX9_areAlike_44 rfl ?_
          refine r_iload dX9_areAlike_45 rfl ?_
          refine r_callV2 okX9_at ⟨by decide, by decide⟩ ml_X9_49 (mX9_at hm hz (by omega) (by omega) (by omega) (by omega)) hm.o rfl rfl (Nat.le_of_ble_eq_true rfl) (Nat.le_of_ble_eq_true rfl) (Nat.le_of_ble_eq_true rfl) rfl dX9_areAlike_47 (nx_I) (kx_I ?_)
          have hf1 := (hz.f h2 h3 (p := p) hp0 (by omega)).2
          refine r_icmp_ne (tgt := 57) dX9_areAlike_50 (by decide) (by omega) (by omega) (fun h50 => ?_) (fun h50 => ?_)
          ·
            refine r_iconst dX9_areAlike_57 ?_
            refine r_istore_n dX9_areAlike_58 (by decide) rfl ?_
            refine r_iinc dX9_areAlike_59 rfl rfl ?_
            refine r_goto (tgt := 22) dX9_areAlike_62 (by decide) ?_
            refine J.loc (lsub_cons rfl (lsub_cons rfl (lsub_cons rfl (lsub_cons rfl (lsub_cons rfl (lsub_nil)))))) (ih22 _ _ ?_ ?_)
            · obtain ⟨hl1, hl2, hl3⟩ := hl.resolve_right (fun h => by omega)
              first | exact ⟨by omega, by omega, Or.inl ⟨rfl, hl2, by rw [hl3, show (n i - p).toNat = (n i - (p + 1)).toNat + 1 by omega, allF, decide_eq_true (by omega), Bool.true_and]⟩⟩ | exact ⟨by omega, by omega, Or.inr ⟨rfl, by rw [hl3, show (n i - p).toNat = (n i - (p + 1)).toNat + 1 by omega, allF, decide_eq_false (by omega), Bool.false_and]⟩⟩
            · omega
          ·
            refine r_iconst dX9_areAlike_53 ?_
            refine r_goto (tgt := 58) dX9_areAlike_54 (by decide) ?_
            refine r_istore_n dX9_areAlike_58 (by decide) rfl ?_
            refine r_iinc dX9_areAlike_59 rfl rfl ?_
            refine r_goto (tgt := 22) dX9_areAlike_62 (by decide) ?_
            refine J.loc (lsub_cons rfl (lsub_cons rfl (lsub_cons rfl (lsub_cons rfl (lsub_cons rfl (lsub_nil)))))) (ih22 _ _ ?_ ?_)
            · obtain ⟨hl1, hl2, hl3⟩ := hl.resolve_right (fun h => by omega)
              first | exact ⟨by omega, by omega, Or.inl ⟨rfl, hl2, by rw [hl3, show (n i - p).toNat = (n i - (p + 1)).toNat + 1 by omega, allF, decide_eq_true (by omega), Bool.true_and]⟩⟩ | exact ⟨by omega, by omega, Or.inr ⟨rfl, by rw [hl3, show (n i - p).toNat = (n i - (p + 1)).toNat + 1 by omega, allF, decide_eq_false (by omega), Bool.false_and]⟩⟩
            · omega
    · first | exact ⟨by omega, by omega, Or.inl ⟨rfl, by omega, by unfold likeF; rw [decide_eq_true (by omega)]; simp⟩⟩ | exact ⟨by omega, by omega, Or.inr ⟨rfl, by unfold likeF; rw [decide_eq_false (by omega)]; rfl⟩⟩
  ·
    refine r_iconst dX9_areAlike_13 ?_
    refine r_goto (tgt := 18) dX9_areAlike_14 (by decide) ?_
    refine r_istore_n dX9_areAlike_18 (by decide) rfl ?_
    refine r_iconst dX9_areAlike_19 ?_
    refine r_istore dX9_areAlike_20 (by decide) rfl ?_
    refine J.loc (L' := [(0, some _), (1, some _), (2, some _), (3, some _), (4, some _)]) (lsub_cons rfl (lsub_cons rfl (lsub_cons rfl (lsub_cons rfl (lsub_cons rfl (lsub_nil)))))) (loop2 (fun (p : Int) (v : Int) => 0 ≤ p ∧ p ≤ n i ∧ ((v = 1 ∧ n i = n j ∧ likeF (n i) (F i) (n j) (F j) = allF (fun q => decide (F i q = F j q)) (n i - p).toNat p) ∨ (v = 0 ∧ likeF (n i) (F i) (n j) (F j) = false))) (fun (p : Int) (v : Int) => (n i - p).toNat + v.toNat) (fun (p : Int) (v : Int) => J KX9_areAlike 0 0 _ 22 [(0, some (.ref (ad 112))), (1, some (vI i)), (2, some (vI j)), (3, some (vI v)), (4, some (vI p))] [] M _ _) (fun p v hI22 ih22 => ?_) _ _ ?_)
    ·
      obtain ⟨hp0, hp1, hl⟩ := hI22
      have hv01 : v = 0 ∨ v = 1 := by omega
      refine r_iload_n dX9_areAlike_22 rfl ?_
      refine r_if_eq (tgt := 65) dX9_areAlike_23 (by decide) (by omega) (fun h23 => ?_) (fun h23 => ?_)
      ·
        refine r_iload_n dX9_areAlike_65 rfl ?_
        refine e_zreturn dX9_areAlike_66 rfl (by omega) (Nat.le_of_ble_eq_true rfl) (Nat.le_of_ble_eq_true rfl) ?_
        exact okI (by
          rcases hl with ⟨a, b, c⟩ | ⟨a, b⟩
          · omega
          · rw [b, a]; rfl)
      ·
        refine r_iload dX9_areAlike_26 rfl ?_
        refine r_aload_n dX9_areAlike_28 rfl ?_
        refine r_iload_n dX9_areAlike_29 rfl ?_
        refine r_callV1 okX9_many ⟨by decide, by decide⟩ ml_X9_45 (mX9_many hm hz (by omega) (by omega)) hm.o rfl rfl (Nat.le_of_ble_eq_true rfl) (Nat.le_of_ble_eq_true rfl) (Nat.le_of_ble_eq_true rfl) rfl dX9_areAlike_30 (nx_I) (kx_I ?_)
        refine r_icmp_ge (tgt := 65) dX9_areAlike_33 (by decide) (by omega) (by omega) (fun h33 => ?_) (fun h33 => ?_)
        ·
          refine r_iload_n dX9_areAlike_65 rfl ?_
          refine e_zreturn dX9_areAlike_66 rfl (by omega) (Nat.le_of_ble_eq_true rfl) (Nat.le_of_ble_eq_true rfl) ?_
          exact okI (by
            rcases hl with ⟨a, b, c⟩ | ⟨a, b⟩
            · rw [c, show (n i - p).toNat = 0 by omega, allF, a]; rfl
            · omega)
        ·
          refine r_aload_n dX9_areAlike_36 rfl ?_
          refine r_iload_n dX9_areAlike_37 rfl ?_
          refine r_iload dX9_areAlike_38 rfl ?_
          refine r_callV2 okX9_at ⟨by decide, by decide⟩ ml_X9_49 (mX9_at hm hz (by omega) (by omega) (by omega) (by omega)) hm.o rfl rfl (Nat.le_of_ble_eq_true rfl) (Nat.le_of_ble_eq_true rfl) (Nat.le_of_ble_eq_true rfl) rfl dX9_areAlike_40 (nx_I) (kx_I ?_)
          have hf0 := (hz.f h0 h1 (p := p) hp0 (by omega)).2
          refine r_aload_n dX9_areAlike_43 rfl ?_
          refine r_iload_n dX9_areAlike_44 rfl ?_
          refine r_iload dX9_areAlike_45 rfl ?_
          refine r_callV2 okX9_at ⟨by decide, by decide⟩ ml_X9_49 (mX9_at hm hz (by omega) (by omega) (by omega) (by omega)) hm.o rfl rfl (Nat.le_of_ble_eq_true rfl) (Nat.le_of_ble_eq_true rfl) (Nat.le_of_ble_eq_true rfl) rfl dX9_areAlike_47 (nx_I) (kx_I ?_)
          have hf1 := (hz.f h2 h3 (p := p) hp0 (by omega)).2
          refine r_icmp_ne (tgt := 57) dX9_areAlike_50 (by decide) (by omega) (by omega) (fun h50 => ?_) (fun h50 => ?_)
          ·
            refine r_iconst dX9_areAlike_57 ?_
            refine r_istore_n dX9_areAlike_58 (by decide) rfl ?_
            refine r_iinc dX9_areAlike_59 rfl rfl ?_
            refine r_goto (tgt := 22) dX9_areAlike_62 (by decide) ?_
            refine J.loc (lsub_cons rfl (lsub_cons rfl (lsub_cons rfl (lsub_cons rfl (lsub_cons rfl (lsub_nil)))))) (ih22 _ _ ?_ ?_)
            · obtain ⟨hl1, hl2, hl3⟩ := hl.resolve_right (fun h => by omega)
              first | exact ⟨by omega, by omega, Or.inl ⟨rfl, hl2, by rw [hl3, show (n i - p).toNat = (n i - (p + 1)).toNat + 1 by omega, allF, decide_eq_true (by omega), Bool.true_and]⟩⟩ | exact ⟨by omega, by omega, Or.inr ⟨rfl, by rw [hl3, show (n i - p).toNat = (n i - (p + 1)).toNat + 1 by omega, allF, decide_eq_false (by omega), Bool.false_and]⟩⟩
            · omega
          ·
            refine r_iconst dX9_areAlike_53 ?_
            refine r_goto (tgt := 58) dX9_areAlike_54 (by decide) ?_
            refine r_istore_n dX9_areAlike_58 (by decide) rfl ?_
            refine r_iinc dX9_areAlike_59 rfl rfl ?_
            refine r_goto (tgt := 22) dX9_areAlike_62 (by decide) ?_
            refine J.loc (lsub_cons rfl (lsub_cons rfl (lsub_cons rfl (lsub_cons rfl (lsub_cons rfl (lsub_nil)))))) (ih22 _ _ ?_ ?_)
            · obtain ⟨hl1, hl2, hl3⟩ := hl.resolve_right (fun h => by omega)
              first | exact ⟨by omega, by omega, Or.inl ⟨rfl, hl2, by rw [hl3, show (n i - p).toNat = (n i - (p + 1)).toNat + 1 by omega, allF, decide_eq_true (by omega), Bool.true_and]⟩⟩ | exact ⟨by omega, by omega, Or.inr ⟨rfl, by rw [hl3, show (n i - p).toNat = (n i - (p + 1)).toNat + 1 by omega, allF, decide_eq_false (by omega), Bool.false_and]⟩⟩
            · omega
    · first | exact ⟨by omega, by omega, Or.inl ⟨rfl, by omega, by unfold likeF; rw [decide_eq_true (by omega)]; simp⟩⟩ | exact ⟨by omega, by omega, Or.inr ⟨rfl, by unfold likeF; rw [decide_eq_false (by omega)]; rfl⟩⟩

set_option maxHeartbeats 4000000 in
theorem mX9_alikePairs {M0 M : Mem} {ad : Int → Nat} {zA hA tA rA sA pA bA wA : Int → Int} {m len th rm bk rd nu bd sc : Int} {hs : Int64} {n : Int → Int} {F : Int → Int → Int} {g : Int → Int} (hm : RM M0 M ad zA hA tA rA sA pA bA wA m len th rm bk rd nu bd sc hs) (hz : Zr zA n F g) : Ct KX9_alikePairs [.ref (ad 112)] M 0 0 (rtI (smF (apF n F) 4 0) M) := by
  refine Ct.of _ (by decide) rfl (Nat.le_of_ble_eq_true rfl) ?_
  refine r_iconst dX9_alikePairs_0 ?_
  refine r_istore_n dX9_alikePairs_1 (by decide) rfl ?_
  refine r_iconst dX9_alikePairs_2 ?_
  refine r_istore_n dX9_alikePairs_3 (by decide) rfl ?_
  refine J.loc (L' := [(0, some _), (1, some _), (2, some _)]) (lsub_cons rfl (lsub_cons rfl (lsub_cons rfl (lsub_nil)))) (loop2 (fun (i : Int) (y : Int) => 0 ≤ i ∧ i ≤ 4 ∧ smF (apF n F) 4 0 = y + smF (apF n F) (4 - i).toNat i) (fun (i : Int) (y : Int) => (4 - i).toNat) (fun (i : Int) (y : Int) => J KX9_alikePairs 0 0 _ 4 [(0, some (.ref (ad 112))), (1, some (vI y)), (2, some (vI i))] [] M _ _) (fun i y hI4 ih4 => ?_) _ _ ?_)
  ·
    obtain ⟨hi0, hi1, hy⟩ := hI4
    refine r_iload_n dX9_alikePairs_4 rfl ?_
    refine r_iconst dX9_alikePairs_5 ?_
    refine r_icmp_ge (tgt := 45) dX9_alikePairs_6 (by decide) (by omega) (by omega) (fun h6 => ?_) (fun h6 => ?_)
    ·
      refine r_iload_n dX9_alikePairs_45 rfl ?_
      refine e_ireturn dX9_alikePairs_46 rfl (Nat.le_of_ble_eq_true rfl) (Nat.le_of_ble_eq_true rfl) ?_
      exact okI (by rw [hy, show ((4 : Int) - i).toNat = 0 by omega, smF]; omega)
    ·
      refine r_iconst dX9_alikePairs_9 ?_
      refine r_istore_n dX9_alikePairs_10 (by decide) rfl ?_
      refine J.loc (L' := [(0, some _), (1, some _), (2, some _), (3, some _)]) (lsub_cons rfl (lsub_cons rfl (lsub_cons rfl (lsub_cons rfl (lsub_nil))))) (loop2 (fun (j : Int) (w : Int) => 0 ≤ j ∧ j ≤ i ∧ y + apF n F i = w + smF (fun j => bI (likeF (n i) (F i) (n j) (F j))) (i - j).toNat j) (fun (j : Int) (w : Int) => (i - j).toNat) (fun (j : Int) (w : Int) => J KX9_alikePairs 0 0 _ 11 [(0, some (.ref (ad 112))), (1, some (vI w)), (2, some (vI i)), (3, some (vI j))] [] M _ _) (fun j w hI11 ih11 => ?_) _ _ ?_)
      ·
        obtain ⟨hj0, hj1, hw⟩ := hI11
        refine r_iload_n dX9_alikePairs_11 rfl ?_
        refine r_iload_n dX9_alikePairs_12 rfl ?_
        refine r_icmp_ge (tgt := 39) dX9_alikePairs_13 (by decide) (by omega) (by omega) (fun h13 => ?_) (fun h13 => ?_)
        ·
          refine r_iinc dX9_alikePairs_39 rfl rfl ?_
          refine r_goto (tgt := 4) dX9_alikePairs_42 (by decide) ?_
          refine J.loc (lsub_cons rfl (lsub_cons rfl (lsub_cons rfl (lsub_nil)))) (ih4 _ _ ?_ ?_)
          · refine ⟨by omega, by omega, ?_⟩
            rw [hy, show ((4 : Int) - i).toNat = (4 - (i + 1)).toNat + 1 by omega, smF]
            rw [show (i - j).toNat = 0 by omega, smF] at hw
            omega
          · omega
        ·
          refine r_iload_n dX9_alikePairs_16 rfl ?_
          refine r_aload_n dX9_alikePairs_17 rfl ?_
          refine r_iload_n dX9_alikePairs_18 rfl ?_
          refine r_iload_n dX9_alikePairs_19 rfl ?_
          refine r_callV2 okX9_areAlike ⟨by decide, by decide⟩ ml_X9_207 (mX9_areAlike hm hz (by omega) (by omega) (by omega) (by omega)) hm.o rfl rfl (Nat.le_of_ble_eq_true rfl) (Nat.le_of_ble_eq_true rfl) (Nat.le_of_ble_eq_true rfl) rfl dX9_alikePairs_20 (nx_I) (kx_I ?_)
          have hbb := bI_r (likeF (n i) (F i) (n j) (F j))
          refine r_if_eq (tgt := 30) dX9_alikePairs_23 (by decide) (by omega) (fun h23 => ?_) (fun h23 => ?_)
          ·
            refine r_iconst dX9_alikePairs_30 ?_
            refine r_iadd dX9_alikePairs_31 ?_
            refine r_istore_n dX9_alikePairs_32 (by decide) rfl ?_
            refine r_iinc dX9_alikePairs_33 rfl rfl ?_
            refine r_goto (tgt := 11) dX9_alikePairs_36 (by decide) ?_
            refine J.loc (lsub_cons rfl (lsub_cons rfl (lsub_cons rfl (lsub_cons rfl (lsub_nil))))) (ih11 _ _ ?_ ?_)
            · refine ⟨by omega, by omega, ?_⟩
              rw [hw, show (i - j).toNat = (i - (j + 1)).toNat + 1 by omega, smF]
              omega
            · omega
          ·
            refine r_iconst dX9_alikePairs_26 ?_
            refine r_goto (tgt := 31) dX9_alikePairs_27 (by decide) ?_
            refine r_iadd dX9_alikePairs_31 ?_
            refine r_istore_n dX9_alikePairs_32 (by decide) rfl ?_
            refine r_iinc dX9_alikePairs_33 rfl rfl ?_
            refine r_goto (tgt := 11) dX9_alikePairs_36 (by decide) ?_
            refine J.loc (lsub_cons rfl (lsub_cons rfl (lsub_cons rfl (lsub_cons rfl (lsub_nil))))) (ih11 _ _ ?_ ?_)
            · refine ⟨by omega, by omega, ?_⟩
              rw [hw, show (i - j).toNat = (i - (j + 1)).toNat + 1 by omega, smF]
              omega
            · omega
      · exact ⟨by omega, by omega, by unfold apF; simp⟩
  · exact ⟨by omega, by omega, (by rw [show ((4 : Int) - 0).toNat = 4 from rfl]; omega)⟩

set_option maxHeartbeats 4000000 in
theorem mX9_counted {M0 M : Mem} {ad : Int → Nat} {zA hA tA pA : Int → Int} {m len th rd nu bd sc : Int} {hs : Int64} {n : Int → Int} {F : Int → Int → Int} {g : Int → Int} {w : Int} (hq : RQ M0 M ad zA hA tA pA m len th rd nu bd sc hs) (hi : Inj ad) (hz : Zr zA n F g) (hv : Vld (n, F, g)) (q1 : R32 w) : Ct KX9_counted [.ref (ad 112), vI w] M 0 0 (atI (cntV n F g m w) (fun M2 => RQ M0 M2 ad zA hA tA pA m len th rd nu bd sc hs)) := by
  refine Ct.of _ (by decide) rfl (Nat.le_of_ble_eq_true rfl) ?_
  obtain ⟨rA, sA, bA, wA, rm, bk, hm⟩ := hq
  have hst := hz.sts hv
  refine r_iload_n dX9_counted_0 rfl ?_
  by_cases hw1 : w < 0 ∨ 5 < w
  · refine r_tableOut (tgt := 78) dX9_counted_1 (by omega) hw1 (by decide) ?_
    refine r_aload_n dX9_counted_78 rfl ?_
    refine r_getfield clX9 1 (by decide) fl_X9_38 hm.o rfl dX9_counted_79 ?_
    refine e_ireturn dX9_counted_82 rfl (Nat.le_of_ble_eq_true rfl) (Nat.le_of_ble_eq_true rfl) ?_
    exact oktI (by unfold cntV; rw [if_neg (by omega), if_neg (by omega), if_neg (by omega), if_neg (by omega), if_neg (by omega), if_neg (by omega)]) hm.q
  · rcases (show w = 0 ∨ w = 1 ∨ w = 2 ∨ w = 3 ∨ w = 4 ∨ w = 5 by omega) with e1 | e1 | e1 | e1 | e1 | e1
    · refine r_tableIn (off := 39) (tgt := 40) dX9_counted_1 (by omega) (by omega) (by omega) (by rw [e1]; rfl) (by decide) ?_
      refine r_aload_n dX9_counted_40 rfl ?_
      refine r_iconst dX9_counted_41 ?_
      refine r_callV1 okX9_sumOf ⟨by decide, by decide⟩ ml_X9_210 (mX9_sumOf hm.q hi hz hv (by omega)) hm.o rfl rfl (Nat.le_of_ble_eq_true rfl) (Nat.le_of_ble_eq_true rfl) (Nat.le_of_ble_eq_true rfl) rfl dX9_counted_42 (nx_tI) (kx_tI ?_)
      intro Mx hq
      obtain ⟨rA, sA, bA, wA, rm, bk, hm⟩ := hq
      refine e_ireturn dX9_counted_45 rfl (Nat.le_of_ble_eq_true rfl) (Nat.le_of_ble_eq_true rfl) ?_
      exact oktI (by unfold cntV; rw [if_pos (by omega)]; rfl) hm.q
    · refine r_tableIn (off := 45) (tgt := 46) dX9_counted_1 (by omega) (by omega) (by omega) (by rw [e1]; rfl) (by decide) ?_
      refine r_aload_n dX9_counted_46 rfl ?_
      refine r_iload_n dX9_counted_47 rfl ?_
      refine r_iconst dX9_counted_48 ?_
      refine r_icmp_ne (tgt := 56) dX9_counted_49 (by decide) (by omega) (by omega) (fun h49 => ?_) (fun h49 => ?_)
      ·
        refine r_iconst dX9_counted_56 ?_
        refine r_callV1 okX9_membersOfAll ⟨by decide, by decide⟩ ml_X9_213 (mX9_membersOfAll hm hz (by omega)) hm.o rfl rfl (Nat.le_of_ble_eq_true rfl) (Nat.le_of_ble_eq_true rfl) (Nat.le_of_ble_eq_true rfl) rfl dX9_counted_57 (nx_I) (kx_I ?_)
        refine e_ireturn dX9_counted_60 rfl (Nat.le_of_ble_eq_true rfl) (Nat.le_of_ble_eq_true rfl) ?_
        exact oktI (by first | (exfalso; omega) | (unfold cntV; rw [if_neg (by omega), if_pos (by omega), moF_0])) hm.q
      ·
        refine r_iconst dX9_counted_52 ?_
        refine r_goto (tgt := 57) dX9_counted_53 (by decide) ?_
        refine r_callV1 okX9_membersOfAll ⟨by decide, by decide⟩ ml_X9_213 (mX9_membersOfAll hm hz (by omega)) hm.o rfl rfl (Nat.le_of_ble_eq_true rfl) (Nat.le_of_ble_eq_true rfl) (Nat.le_of_ble_eq_true rfl) rfl dX9_counted_57 (nx_I) (kx_I ?_)
        refine e_ireturn dX9_counted_60 rfl (Nat.le_of_ble_eq_true rfl) (Nat.le_of_ble_eq_true rfl) ?_
        exact oktI (by first | (exfalso; omega) | (unfold cntV; rw [if_neg (by omega), if_neg (by omega), if_pos (by omega)]; exact moF_1 hst)) hm.q
    · refine r_tableIn (off := 45) (tgt := 46) dX9_counted_1 (by omega) (by omega) (by omega) (by rw [e1]; rfl) (by decide) ?_
      refine r_aload_n dX9_counted_46 rfl ?_
      refine r_iload_n dX9_counted_47 rfl ?_
      refine r_iconst dX9_counted_48 ?_
      refine r_icmp_ne (tgt := 56) dX9_counted_49 (by decide) (by omega) (by omega) (fun h49 => ?_) (fun h49 => ?_)
      ·
        refine r_iconst dX9_counted_56 ?_
        refine r_callV1 okX9_membersOfAll ⟨by decide, by decide⟩ ml_X9_213 (mX9_membersOfAll hm hz (by omega)) hm.o rfl rfl (Nat.le_of_ble_eq_true rfl) (Nat.le_of_ble_eq_true rfl) (Nat.le_of_ble_eq_true rfl) rfl dX9_counted_57 (nx_I) (kx_I ?_)
        refine e_ireturn dX9_counted_60 rfl (Nat.le_of_ble_eq_true rfl) (Nat.le_of_ble_eq_true rfl) ?_
        exact oktI (by first | (exfalso; omega) | (unfold cntV; rw [if_neg (by omega), if_pos (by omega), moF_0])) hm.q
      ·
        refine r_iconst dX9_counted_52 ?_
        refine r_goto (tgt := 57) dX9_counted_53 (by decide) ?_
        refine r_callV1 okX9_membersOfAll ⟨by decide, by decide⟩ ml_X9_213 (mX9_membersOfAll hm hz (by omega)) hm.o rfl rfl (Nat.le_of_ble_eq_true rfl) (Nat.le_of_ble_eq_true rfl) (Nat.le_of_ble_eq_true rfl) rfl dX9_counted_57 (nx_I) (kx_I ?_)
        refine e_ireturn dX9_counted_60 rfl (Nat.le_of_ble_eq_true rfl) (Nat.le_of_ble_eq_true rfl) ?_
        exact oktI (by first | (exfalso; omega) | (unfold cntV; rw [if_neg (by omega), if_neg (by omega), if_pos (by omega)]; exact moF_1 hst)) hm.q
    · refine r_tableIn (off := 60) (tgt := 61) dX9_counted_1 (by omega) (by omega) (by omega) (by rw [e1]; rfl) (by decide) ?_
      refine r_aload_n dX9_counted_61 rfl ?_
      refine r_iconst dX9_counted_62 ?_
      refine r_callV1 okX9_sumOf ⟨by decide, by decide⟩ ml_X9_210 (mX9_sumOf hm.q hi hz hv (by omega)) hm.o rfl rfl (Nat.le_of_ble_eq_true rfl) (Nat.le_of_ble_eq_true rfl) (Nat.le_of_ble_eq_true rfl) rfl dX9_counted_63 (nx_tI) (kx_tI ?_)
      intro Mx hq
      obtain ⟨rA, sA, bA, wA, rm, bk, hm⟩ := hq
      refine e_ireturn dX9_counted_66 rfl (Nat.le_of_ble_eq_true rfl) (Nat.le_of_ble_eq_true rfl) ?_
      exact oktI (by unfold cntV; rw [if_neg (by omega), if_neg (by omega), if_neg (by omega), if_pos (by omega)]; rfl) hm.q
    · refine r_tableIn (off := 66) (tgt := 67) dX9_counted_1 (by omega) (by omega) (by omega) (by rw [e1]; rfl) (by decide) ?_
      refine r_aload_n dX9_counted_67 rfl ?_
      refine r_iconst dX9_counted_68 ?_
      refine r_callV1 okX9_sumOf ⟨by decide, by decide⟩ ml_X9_210 (mX9_sumOf hm.q hi hz hv (by omega)) hm.o rfl rfl (Nat.le_of_ble_eq_true rfl) (Nat.le_of_ble_eq_true rfl) (Nat.le_of_ble_eq_true rfl) rfl dX9_counted_69 (nx_tI) (kx_tI ?_)
      intro Mx hq
      obtain ⟨rA, sA, bA, wA, rm, bk, hm⟩ := hq
      refine e_ireturn dX9_counted_72 rfl (Nat.le_of_ble_eq_true rfl) (Nat.le_of_ble_eq_true rfl) ?_
      exact oktI (by unfold cntV; rw [if_neg (by omega), if_neg (by omega), if_neg (by omega), if_neg (by omega), if_pos (by omega)]; rfl) hm.q
    · refine r_tableIn (off := 72) (tgt := 73) dX9_counted_1 (by omega) (by omega) (by omega) (by rw [e1]; rfl) (by decide) ?_
      refine r_aload_n dX9_counted_73 rfl ?_
      refine r_callV0 okX9_alikePairs ⟨by decide, by decide⟩ ml_X9_217 (mX9_alikePairs hm hz) hm.o rfl rfl (Nat.le_of_ble_eq_true rfl) (Nat.le_of_ble_eq_true rfl) (Nat.le_of_ble_eq_true rfl) rfl dX9_counted_74 (nx_I) (kx_I ?_)
      refine e_ireturn dX9_counted_77 rfl (Nat.le_of_ble_eq_true rfl) (Nat.le_of_ble_eq_true rfl) ?_
      exact oktI (by unfold cntV; rw [if_neg (by omega), if_neg (by omega), if_neg (by omega), if_neg (by omega), if_neg (by omega), if_pos (by omega)]; exact apF_sum n F) hm.q

set_option maxHeartbeats 4000000 in
theorem mX9_addedThen {M0 M : Mem} {ad : Int → Nat} {zA hA tA pA : Int → Int} {m len th rd nu bd sc : Int} {hs : Int64} {n : Int → Int} {F : Int → Int → Int} {g : Int → Int} {k x : Int} (hq : RQ M0 M ad zA hA tA pA m len th rd nu bd sc hs) (hi : Inj ad) (hz : Zr zA n F g) (h0 : 0 ≤ k) (h1 : k < 4) (hv : Vld (n, F, g)) (q0 : 0 ≤ x ∧ x ≤ 9999) : Ct KX9_addedThen [.ref (ad 112), vI k, vI x] M 0 0 (atI (iaV (n k) (F k) g x) (fun M2 => RQ M0 M2 ad zA hA tA pA m len th rd nu bd sc hs)) := by
  refine Ct.of _ (by decide) rfl (Nat.le_of_ble_eq_true rfl) ?_
  obtain ⟨rA, sA, bA, wA, rm, bk, hm⟩ := hq
  have hzn := hz.n h0 h1
  obtain ⟨hvs, hv0, hv1, hv2, hv3⟩ := id hv
  dsimp only at hvs hv0 hv1 hv2 hv3
  have hg : (2 ≤ g 0 ∧ g 0 ≤ 16) ∧ 1 ≤ g 1 ∧ g 1 ≤ 9999 := ⟨⟨hv0, hv1⟩, hv2, hv3⟩
  have hsr := hvs k h0 h1
  have hif := hasF_iff hzn.2.1 hsr x
  have hbb := bI_r (hasF (n k) (F k) x)
  refine r_aload_n dX9_addedThen_0 rfl ?_
  refine r_iload_n dX9_addedThen_1 rfl ?_
  refine r_iload_n dX9_addedThen_2 rfl ?_
  refine r_callV2 okX9_isMember ⟨by decide, by decide⟩ ml_X9_88 (mX9_isMember hm hz h0 h1 (by omega) rfl) hm.o rfl rfl (Nat.le_of_ble_eq_true rfl) (Nat.le_of_ble_eq_true rfl) (Nat.le_of_ble_eq_true rfl) rfl dX9_addedThen_3 (nx_I) (kx_I ?_)
  refine r_if_eq (tgt := 11) dX9_addedThen_6 (by decide) (by omega) (fun h6 => ?_) (fun h6 => ?_)
  ·
    refine r_aload_n dX9_addedThen_11 rfl ?_
    refine r_iload_n dX9_addedThen_12 rfl ?_
    refine r_callV1 okX9_sizeOf ⟨by decide, by decide⟩ ml_X9_180 (mX9_sizeOf hm.q hi hz h0 h1 hg) hm.o rfl rfl (Nat.le_of_ble_eq_true rfl) (Nat.le_of_ble_eq_true rfl) (Nat.le_of_ble_eq_true rfl) rfl dX9_addedThen_13 (nx_tI) (kx_tI ?_)
    intro Mx hq
    obtain ⟨rA, sA, bA, wA, rm, bk, hm⟩ := hq
    refine r_istore_n dX9_addedThen_16 (by decide) rfl ?_
    refine r_aload_n dX9_addedThen_17 rfl ?_
    refine r_iload_n dX9_addedThen_18 rfl ?_
    refine r_callV1 okX9_takeRow ⟨by decide, by decide⟩ ml_X9_62 (mX9_takeRow hm hi hz (by omega) (by omega)) hm.o rfl rfl (Nat.le_of_ble_eq_true rfl) (Nat.le_of_ble_eq_true rfl) (Nat.le_of_ble_eq_true rfl) rfl dX9_addedThen_19 (nx_tV) (kx_tV ?_)
    intro Mx hM
    obtain ⟨rA, hm, hrA⟩ := hM
    have hr : ∀ p, 0 ≤ p → p < n k → rA p = F k p ∧ 0 ≤ F k p ∧ F k p ≤ 9999 := fun p a b => ⟨hrA p a b, (hz.f (by omega) (by omega) a b).2⟩
    refine r_aload_n dX9_addedThen_22 rfl ?_
    refine r_getfield clX9 7 (by decide) fl_X9_56 hm.o rfl dX9_addedThen_23 ?_
    refine r_istore dX9_addedThen_26 (by decide) rfl ?_
    refine J.loc (L' := [(0, some _), (1, some _), (2, some _), (3, some _), (4, some _)]) (lsub_cons rfl (lsub_cons rfl (lsub_cons rfl (lsub_cons rfl (lsub_cons rfl (lsub_nil)))))) (loop3 (fun (j : Int) (M1 : Mem) (r1 : Int → Int) => 0 ≤ j ∧ j ≤ n k ∧ RM M0 M1 ad zA hA tA r1 sA pA bA wA m len th (n k) bk rd nu bd sc hs ∧ (∀ i, 0 ≤ i → i ≤ j → i < n k → r1 i = F k i) ∧ (∀ i, j < i → i ≤ n k → r1 i = F k (i - 1)) ∧ (j < n k → x < F k j)) (fun (j : Int) (M1 : Mem) (r1 : Int → Int) => j.toNat) (fun (j : Int) (M1 : Mem) (r1 : Int → Int) => J KX9_addedThen 0 0 _ 28 [(0, some (.ref (ad 112))), (1, some (vI k)), (2, some (vI x)), (3, some (vI (szF (n k) (F k) g))), (4, some (vI j))] [] M1 _ _) (fun j M1 r1 hI28 ih28 => ?_) _ _ rA ?_)
    ·
      obtain ⟨hj0, hj1, hm, hr1, hr2, hr3⟩ := hI28
      refine r_iload dX9_addedThen_28 rfl ?_
      refine r_if_le (tgt := 68) dX9_addedThen_30 (by decide) (by omega) (fun h30 => ?_) (fun h30 => ?_)
      ·
        have hpl : plc (n k) (F k) x = j := plc_eq hj0 hj1 (fun i a b => by
          have hj1e := hr1 (j - 1) (by omega) (by omega) (by omega)
          have hne : F k (j - 1) ≠ x := fun e => (bI_f h6) (hif.mpr ⟨j - 1, by omega, by omega, e⟩)
          by_cases e : i = j - 1
          · rw [e]; omega
          · have := hsr i (j - 1) a (by omega) (by omega); omega) (fun h => by have := hr3 h; omega)
        have hrw : ∀ p, 0 ≤ p → p < n k + 1 → uI r1 j x p = insF (F k) (plc (n k) (F k) x) x p ∧ 0 ≤ insF (F k) (plc (n k) (F k) x) x p ∧ insF (F k) (plc (n k) (F k) x) x p ≤ 9999 := fun p a b => by
          rw [hpl]
          unfold insF
          by_cases e1 : p < j
          · rw [if_pos e1, uI_n _ (by omega), hr1 p a (by omega) (by omega)]; exact ⟨rfl, (hz.f h0 h1 a (by omega)).2⟩
          · rw [if_neg e1]
            by_cases e2 : p = j
            · rw [if_pos e2, e2, uI_s]; exact ⟨rfl, q0⟩
            · rw [if_neg e2, uI_n _ e2, hr2 p (by omega) (by omega)]; exact ⟨rfl, (hz.f h0 h1 (by omega) (by omega)).2⟩
        refine r_aload_n dX9_addedThen_68 rfl ?_
        refine r_getfield clX9 6 (by decide) fl_X9_19 hm.o rfl dX9_addedThen_69 ?_
        refine r_iload dX9_addedThen_72 rfl ?_
        refine r_iload_n dX9_addedThen_74 rfl ?_
        refine r_iastore hm.r (by omega) (by omega) (by omega) dX9_addedThen_75 ?_
        refine hm.w_r hi (fun Mx hm => ?_)
        refine r_aload_n dX9_addedThen_76 rfl ?_
        refine r_dup dX9_addedThen_77 ?_
        refine r_getfield clX9 7 (by decide) fl_X9_56 hm.o rfl dX9_addedThen_78 ?_
        refine r_iconst dX9_addedThen_81 ?_
        refine r_iadd dX9_addedThen_82 ?_
        refine r_putfield clX9 7 (by decide) fl_X9_56 rfl hm.o rfl rfl (Nat.le_of_ble_eq_true rfl) dX9_addedThen_83 ?_
        refine hm.w_rowMany hi (fun Mx hm => ?_)
        refine r_aload_n dX9_addedThen_86 rfl ?_
        refine r_aload_n dX9_addedThen_87 rfl ?_
        refine r_getfield clX9 0 (by decide) fl_X9_7 hm.o rfl dX9_addedThen_88 ?_
        refine r_iconst dX9_addedThen_91 ?_
        refine r_iaload hm.z (by omega) (by omega) (by omega) dX9_addedThen_92 ?_
        rw [hz.1]
        refine r_aload_n dX9_addedThen_93 rfl ?_
        refine r_getfield clX9 0 (by decide) fl_X9_7 hm.o rfl dX9_addedThen_94 ?_
        refine r_iconst dX9_addedThen_97 ?_
        refine r_iaload hm.z (by omega) (by omega) (by omega) dX9_addedThen_98 ?_
        rw [hz.2.1]
        refine r_callV2 okX9_layBlocks ⟨by decide, by decide⟩ ml_X9_66 (mX9_layBlocks (R := insF (F k) (plc (n k) (F k) x) x) (a := g 0) (b := g 1) hm hi (by omega) hrw (by omega) (by omega)) hm.o rfl rfl (Nat.le_of_ble_eq_true rfl) (Nat.le_of_ble_eq_true rfl) (Nat.le_of_ble_eq_true rfl) rfl dX9_addedThen_99 (nx_tV) (kx_tV ?_)
        intro Mx hM
        obtain ⟨sA, hm, hsA⟩ := hM
        refine r_aload_n dX9_addedThen_102 rfl ?_
        refine r_callV0 okX9_bytes ⟨by decide, by decide⟩ ml_X9_73 (mX9_bytes (R := insF (F k) (plc (n k) (F k) x) x) (a := g 0) (b := g 1) hm (by omega) hrw rfl hsA) hm.o rfl rfl (Nat.le_of_ble_eq_true rfl) (Nat.le_of_ble_eq_true rfl) (Nat.le_of_ble_eq_true rfl) rfl dX9_addedThen_103 (nx_I) (kx_I ?_)
        refine r_iload_n dX9_addedThen_106 rfl ?_
        refine r_isub dX9_addedThen_107 ?_
        refine e_ireturn dX9_addedThen_108 rfl (Nat.le_of_ble_eq_true rfl) (Nat.le_of_ble_eq_true rfl) ?_
        have hpo : putOk 120 (n k) (F k) x = true := by
          unfold putOk
          rw [decide_eq_true (show n k < ((120 : Nat) : Int) by omega)]
          cases h9 : hasF (n k) (F k) x with
          | true => rw [h9] at h6; exact absurd h6 (by decide)
          | false => rfl
        exact oktI (by unfold iaV putN putF; rw [if_pos hpo, if_pos hpo]; rfl) hm.q
      ·
        have hj1f := (hz.f h0 h1 (p := j - 1) (by omega) (by omega)).2
        have hj1e := hr1 (j - 1) (by omega) (by omega) (by omega)
        refine r_aload_n dX9_addedThen_33 rfl ?_
        refine r_getfield clX9 6 (by decide) fl_X9_19 hm.o rfl dX9_addedThen_34 ?_
        refine r_iload dX9_addedThen_37 rfl ?_
        refine r_iconst dX9_addedThen_39 ?_
        refine r_isub dX9_addedThen_40 ?_
        refine r_iaload hm.r (by omega) (by omega) (by omega) dX9_addedThen_41 ?_
        refine r_iload_n dX9_addedThen_42 rfl ?_
        refine r_icmp_le (tgt := 68) dX9_addedThen_43 (by decide) (by omega) (by omega) (fun h43 => ?_) (fun h43 => ?_)
        ·
          have hpl : plc (n k) (F k) x = j := plc_eq hj0 hj1 (fun i a b => by
            have hj1e := hr1 (j - 1) (by omega) (by omega) (by omega)
            have hne : F k (j - 1) ≠ x := fun e => (bI_f h6) (hif.mpr ⟨j - 1, by omega, by omega, e⟩)
            by_cases e : i = j - 1
            · rw [e]; omega
            · have := hsr i (j - 1) a (by omega) (by omega); omega) (fun h => by have := hr3 h; omega)
          have hrw : ∀ p, 0 ≤ p → p < n k + 1 → uI r1 j x p = insF (F k) (plc (n k) (F k) x) x p ∧ 0 ≤ insF (F k) (plc (n k) (F k) x) x p ∧ insF (F k) (plc (n k) (F k) x) x p ≤ 9999 := fun p a b => by
            rw [hpl]
            unfold insF
            by_cases e1 : p < j
            · rw [if_pos e1, uI_n _ (by omega), hr1 p a (by omega) (by omega)]; exact ⟨rfl, (hz.f h0 h1 a (by omega)).2⟩
            · rw [if_neg e1]
              by_cases e2 : p = j
              · rw [if_pos e2, e2, uI_s]; exact ⟨rfl, q0⟩
              · rw [if_neg e2, uI_n _ e2, hr2 p (by omega) (by omega)]; exact ⟨rfl, (hz.f h0 h1 (by omega) (by omega)).2⟩
          refine r_aload_n dX9_addedThen_68 rfl ?_
          refine r_getfield clX9 6 (by decide) fl_X9_19 hm.o rfl dX9_addedThen_69 ?_
          refine r_iload dX9_addedThen_72 rfl ?_
          refine r_iload_n dX9_addedThen_74 rfl ?_
          refine r_iastore hm.r (by omega) (by omega) (by omega) dX9_addedThen_75 ?_
          refine hm.w_r hi (fun Mx hm => ?_)
          refine r_aload_n dX9_addedThen_76 rfl ?_
          refine r_dup dX9_addedThen_77 ?_
          refine r_getfield clX9 7 (by decide) fl_X9_56 hm.o rfl dX9_addedThen_78 ?_
          refine r_iconst dX9_addedThen_81 ?_
          refine r_iadd dX9_addedThen_82 ?_
          refine r_putfield clX9 7 (by decide) fl_X9_56 rfl hm.o rfl rfl (Nat.le_of_ble_eq_true rfl) dX9_addedThen_83 ?_
          refine hm.w_rowMany hi (fun Mx hm => ?_)
          refine r_aload_n dX9_addedThen_86 rfl ?_
          refine r_aload_n dX9_addedThen_87 rfl ?_
          refine r_getfield clX9 0 (by decide) fl_X9_7 hm.o rfl dX9_addedThen_88 ?_
          refine r_iconst dX9_addedThen_91 ?_
          refine r_iaload hm.z (by omega) (by omega) (by omega) dX9_addedThen_92 ?_
          rw [hz.1]
          refine r_aload_n dX9_addedThen_93 rfl ?_
          refine r_getfield clX9 0 (by decide) fl_X9_7 hm.o rfl dX9_addedThen_94 ?_
          refine r_iconst dX9_addedThen_97 ?_
          refine r_iaload hm.z (by omega) (by omega) (by omega) dX9_addedThen_98 ?_
          rw [hz.2.1]
          refine r_callV2 okX9_layBlocks ⟨by decide, by decide⟩ ml_X9_66 (mX9_layBlocks (R := insF (F k) (plc (n k) (F k) x) x) (a := g 0) (b := g 1) hm hi (by omega) hrw (by omega) (by omega)) hm.o rfl rfl (Nat.le_of_ble_eq_true rfl) (Nat.le_of_ble_eq_true rfl) (Nat.le_of_ble_eq_true rfl) rfl dX9_addedThen_99 (nx_tV) (kx_tV ?_)
          intro Mx hM
          obtain ⟨sA, hm, hsA⟩ := hM
          refine r_aload_n dX9_addedThen_102 rfl ?_
          refine r_callV0 okX9_bytes ⟨by decide, by decide⟩ ml_X9_73 (mX9_bytes (R := insF (F k) (plc (n k) (F k) x) x) (a := g 0) (b := g 1) hm (by omega) hrw rfl hsA) hm.o rfl rfl (Nat.le_of_ble_eq_true rfl) (Nat.le_of_ble_eq_true rfl) (Nat.le_of_ble_eq_true rfl) rfl dX9_addedThen_103 (nx_I) (kx_I ?_)
          refine r_iload_n dX9_addedThen_106 rfl ?_
          refine r_isub dX9_addedThen_107 ?_
          refine e_ireturn dX9_addedThen_108 rfl (Nat.le_of_ble_eq_true rfl) (Nat.le_of_ble_eq_true rfl) ?_
          have hpo : putOk 120 (n k) (F k) x = true := by
            unfold putOk
            rw [decide_eq_true (show n k < ((120 : Nat) : Int) by omega)]
            cases h9 : hasF (n k) (F k) x with
            | true => rw [h9] at h6; exact absurd h6 (by decide)
            | false => rfl
          exact oktI (by unfold iaV putN putF; rw [if_pos hpo, if_pos hpo]; rfl) hm.q
        ·
          refine r_aload_n dX9_addedThen_46 rfl ?_
          refine r_getfield clX9 6 (by decide) fl_X9_19 hm.o rfl dX9_addedThen_47 ?_
          refine r_iload dX9_addedThen_50 rfl ?_
          refine r_aload_n dX9_addedThen_52 rfl ?_
          refine r_getfield clX9 6 (by decide) fl_X9_19 hm.o rfl dX9_addedThen_53 ?_
          refine r_iload dX9_addedThen_56 rfl ?_
          refine r_iconst dX9_addedThen_58 ?_
          refine r_isub dX9_addedThen_59 ?_
          refine r_iaload hm.r (by omega) (by omega) (by omega) dX9_addedThen_60 ?_
          refine r_iastore hm.r (by omega) (by omega) (by omega) dX9_addedThen_61 ?_
          refine hm.w_r hi (fun Mx hm => ?_)
          refine r_iinc dX9_addedThen_62 rfl rfl ?_
          refine r_goto (tgt := 28) dX9_addedThen_65 (by decide) ?_
          refine J.loc (lsub_cons rfl (lsub_cons rfl (lsub_cons rfl (lsub_cons rfl (lsub_cons rfl (lsub_nil)))))) (ih28 _ _ (uI r1 j (r1 (j - 1))) ?_ ?_)
          · have hj1e := hr1 (j - 1) (by omega) (by omega) (by omega)
            refine ⟨by omega, by omega, hm, fun i a b c => (uI_n _ (by omega)).trans (hr1 i a (by omega) c), fun i a b => ?_, fun h => by rw [show j + -1 = j - 1 by omega]; omega⟩
            by_cases e : i = j
            · rw [e, uI_s]; exact hj1e
            · rw [uI_n _ (by omega)]; exact hr2 i (by omega) b
          · omega
    · exact ⟨by omega, by omega, hm, fun i a b c => (hr i a c).1, fun i a b => by omega, fun h => by omega⟩
  ·
    refine r_iconst dX9_addedThen_9 ?_
    refine e_ireturn dX9_addedThen_10 rfl (Nat.le_of_ble_eq_true rfl) (Nat.le_of_ble_eq_true rfl) ?_
    have hpo : ¬ putOk 120 (n k) (F k) x = true := by unfold putOk; rw [bI_t h6]; simp
    exact oktI (by unfold iaV putN putF; rw [if_neg hpo, if_neg hpo]; omega) hm.q

set_option maxHeartbeats 4000000 in
theorem mX9_sizeWithout {M0 M : Mem} {ad : Int → Nat} {zA hA tA pA : Int → Int} {m len th rd nu bd sc : Int} {hs : Int64} {n : Int → Int} {F : Int → Int → Int} {g : Int → Int} {k p : Int} (hq : RQ M0 M ad zA hA tA pA m len th rd nu bd sc hs) (hi : Inj ad) (hz : Zr zA n F g) (h0 : 0 ≤ k) (h1 : k < 4) (hv : Vld (n, F, g)) (h2 : 0 ≤ p) (h3 : p < n k) : Ct KX9_sizeWithout [.ref (ad 112), vI k, vI p] M 0 0 (atI (drS (n k) (F k) g p) (fun M2 => RQ M0 M2 ad zA hA tA pA m len th rd nu bd sc hs)) := by
  refine Ct.of _ (by decide) rfl (Nat.le_of_ble_eq_true rfl) ?_
  obtain ⟨rA, sA, bA, wA, rm, bk, hm⟩ := hq
  have hzn := hz.n h0 h1
  obtain ⟨hvs, hv0, hv1, hv2, hv3⟩ := id hv
  dsimp only at hvs hv0 hv1 hv2 hv3
  have hg : (2 ≤ g 0 ∧ g 0 ≤ 16) ∧ 1 ≤ g 1 ∧ g 1 ≤ 9999 := ⟨⟨hv0, hv1⟩, hv2, hv3⟩
  have hsr := hvs k h0 h1
  refine r_aload_n dX9_sizeWithout_0 rfl ?_
  refine r_iload_n dX9_sizeWithout_1 rfl ?_
  refine r_callV1 okX9_takeRow ⟨by decide, by decide⟩ ml_X9_62 (mX9_takeRow hm hi hz (by omega) (by omega)) hm.o rfl rfl (Nat.le_of_ble_eq_true rfl) (Nat.le_of_ble_eq_true rfl) (Nat.le_of_ble_eq_true rfl) rfl dX9_sizeWithout_2 (nx_tV) (kx_tV ?_)
  intro Mx hM
  obtain ⟨rA, hm, hrA⟩ := hM
  have hr : ∀ p, 0 ≤ p → p < n k → rA p = F k p ∧ 0 ≤ F k p ∧ F k p ≤ 9999 := fun p a b => ⟨hrA p a b, (hz.f (by omega) (by omega) a b).2⟩
  refine r_aload_n dX9_sizeWithout_5 rfl ?_
  refine r_dup dX9_sizeWithout_6 ?_
  refine r_getfield clX9 7 (by decide) fl_X9_56 hm.o rfl dX9_sizeWithout_7 ?_
  refine r_iconst dX9_sizeWithout_10 ?_
  refine r_isub dX9_sizeWithout_11 ?_
  refine r_putfield clX9 7 (by decide) fl_X9_56 rfl hm.o rfl rfl (Nat.le_of_ble_eq_true rfl) dX9_sizeWithout_12 ?_
  refine hm.w_rowMany hi (fun Mx hm => ?_)
  refine r_iload_n dX9_sizeWithout_15 rfl ?_
  refine r_istore_n dX9_sizeWithout_16 (by decide) rfl ?_
  refine J.loc (L' := [(0, some _), (1, some _), (2, some _), (3, some _)]) (lsub_cons rfl (lsub_cons rfl (lsub_cons rfl (lsub_cons rfl (lsub_nil))))) (loop3 (fun (j : Int) (M1 : Mem) (r1 : Int → Int) => p ≤ j ∧ j ≤ n k - 1 ∧ RM M0 M1 ad zA hA tA r1 sA pA bA wA m len th (n k - 1) bk rd nu bd sc hs ∧ (∀ i, 0 ≤ i → i < p → r1 i = F k i) ∧ (∀ i, p ≤ i → i < j → r1 i = F k (i + 1)) ∧ ∀ i, j ≤ i → i < n k → r1 i = F k i) (fun (j : Int) (M1 : Mem) (r1 : Int → Int) => (n k - j).toNat) (fun (j : Int) (M1 : Mem) (r1 : Int → Int) => J KX9_sizeWithout 0 0 _ 17 [(0, some (.ref (ad 112))), (1, some (vI k)), (2, some (vI p)), (3, some (vI j))] [] M1 _ _) (fun j M1 r1 hI17 ih17 => ?_) _ _ rA ?_)
  ·
    obtain ⟨hj0, hj1, hm, hr1, hr2, hr3⟩ := hI17
    refine r_iload_n dX9_sizeWithout_17 rfl ?_
    refine r_aload_n dX9_sizeWithout_18 rfl ?_
    refine r_getfield clX9 7 (by decide) fl_X9_56 hm.o rfl dX9_sizeWithout_19 ?_
    refine r_icmp_ge (tgt := 45) dX9_sizeWithout_22 (by decide) (by omega) (by omega) (fun h22 => ?_) (fun h22 => ?_)
    ·
      have hrw : ∀ q, 0 ≤ q → q < n k - 1 → r1 q = (fun i => if i < p then F k i else F k (i + 1)) q ∧ 0 ≤ (fun i => if i < p then F k i else F k (i + 1)) q ∧ (fun i => if i < p then F k i else F k (i + 1)) q ≤ 9999 := fun q a b => by
        dsimp only
        by_cases e : q < p
        · rw [if_pos e, hr1 q a e]; exact ⟨rfl, (hz.f h0 h1 a (by omega)).2⟩
        · rw [if_neg e, hr2 q (by omega) (by omega)]; exact ⟨rfl, (hz.f h0 h1 (by omega) (by omega)).2⟩
      refine r_aload_n dX9_sizeWithout_45 rfl ?_
      refine r_aload_n dX9_sizeWithout_46 rfl ?_
      refine r_getfield clX9 0 (by decide) fl_X9_7 hm.o rfl dX9_sizeWithout_47 ?_
      refine r_iconst dX9_sizeWithout_50 ?_
      refine r_iaload hm.z (by omega) (by omega) (by omega) dX9_sizeWithout_51 ?_
      rw [hz.1]
      refine r_aload_n dX9_sizeWithout_52 rfl ?_
      refine r_getfield clX9 0 (by decide) fl_X9_7 hm.o rfl dX9_sizeWithout_53 ?_
      refine r_iconst dX9_sizeWithout_56 ?_
      refine r_iaload hm.z (by omega) (by omega) (by omega) dX9_sizeWithout_57 ?_
      rw [hz.2.1]
      refine r_callV2 okX9_layBlocks ⟨by decide, by decide⟩ ml_X9_66 (mX9_layBlocks (R := (fun i => if i < p then F k i else F k (i + 1))) (a := g 0) (b := g 1) hm hi (by omega) hrw (by omega) (by omega)) hm.o rfl rfl (Nat.le_of_ble_eq_true rfl) (Nat.le_of_ble_eq_true rfl) (Nat.le_of_ble_eq_true rfl) rfl dX9_sizeWithout_58 (nx_tV) (kx_tV ?_)
      intro Mx hM
      obtain ⟨sA, hm, hsA⟩ := hM
      refine r_aload_n dX9_sizeWithout_61 rfl ?_
      refine r_callV0 okX9_bytes ⟨by decide, by decide⟩ ml_X9_73 (mX9_bytes (R := (fun i => if i < p then F k i else F k (i + 1))) (a := g 0) (b := g 1) hm (by omega) hrw rfl hsA) hm.o rfl rfl (Nat.le_of_ble_eq_true rfl) (Nat.le_of_ble_eq_true rfl) (Nat.le_of_ble_eq_true rfl) rfl dX9_sizeWithout_62 (nx_I) (kx_I ?_)
      refine e_ireturn dX9_sizeWithout_65 rfl (Nat.le_of_ble_eq_true rfl) (Nat.le_of_ble_eq_true rfl) ?_
      have haw := away_eq hzn.2.1 hsr (lo := F k p) (hi := F k p) (by omega)
      have e1 : plc (n k) (F k) (F k p) = p := plc_eq h2 (by omega) (fun i a b => hsr i p a b h3) (fun _ => by omega)
      have e2 : plc (n k) (F k) (F k p + 1) = p + 1 := plc_eq (by omega) (by omega) (fun i a b => by
        by_cases e : i = p
        · rw [e]; omega
        · have := hsr i p a (by omega) h3; omega) (fun h => by have := hsr p (p + 1) h2 (by omega) h; omega)
      rw [e1, e2] at haw
      exact oktI (by unfold drS; exact szF_cong (by omega) (fun i a b => by have := haw.2.2.2 i a (by omega); rw [show i + (p + 1 - p) = i + 1 by omega] at this; exact this) g) hm.q
    ·
      refine r_aload_n dX9_sizeWithout_25 rfl ?_
      refine r_getfield clX9 6 (by decide) fl_X9_19 hm.o rfl dX9_sizeWithout_26 ?_
      refine r_iload_n dX9_sizeWithout_29 rfl ?_
      refine r_aload_n dX9_sizeWithout_30 rfl ?_
      refine r_getfield clX9 6 (by decide) fl_X9_19 hm.o rfl dX9_sizeWithout_31 ?_
      refine r_iload_n dX9_sizeWithout_34 rfl ?_
      refine r_iconst dX9_sizeWithout_35 ?_
      refine r_iadd dX9_sizeWithout_36 ?_
      refine r_iaload hm.r (by omega) (by omega) (by omega) dX9_sizeWithout_37 ?_
      refine r_iastore hm.r (by omega) (by omega) (by omega) dX9_sizeWithout_38 ?_
      refine hm.w_r hi (fun Mx hm => ?_)
      refine r_iinc dX9_sizeWithout_39 rfl rfl ?_
      refine r_goto (tgt := 17) dX9_sizeWithout_42 (by decide) ?_
      refine J.loc (lsub_cons rfl (lsub_cons rfl (lsub_cons rfl (lsub_cons rfl (lsub_nil))))) (ih17 _ _ (uI r1 j (r1 (j + 1))) ?_ ?_)
      · refine ⟨by omega, by omega, hm, fun i a b => (uI_n _ (by omega)).trans (hr1 i a b), fun i a b => ?_, fun i a b => (uI_n _ (by omega)).trans (hr3 i (by omega) b)⟩
        by_cases e : i = j
        · rw [e, uI_s]; exact hr3 (j + 1) (by omega) (by omega)
        · rw [uI_n _ e]; exact hr2 i a (by omega)
      · omega
  · exact ⟨by omega, by omega, hm, fun i a b => (hr i a (by omega)).1, fun i a b => by omega, fun i a b => (hr i (by omega) b).1⟩

set_option maxHeartbeats 4000000 in
theorem mX9_dearestNow {M0 M : Mem} {ad : Int → Nat} {zA hA tA pA : Int → Int} {m len th rd nu bd sc : Int} {hs : Int64} {n : Int → Int} {F : Int → Int → Int} {g : Int → Int} {k w : Int} (hq : RQ M0 M ad zA hA tA pA m len th rd nu bd sc hs) (hi : Inj ad) (hz : Zr zA n F g) (h0 : 0 ≤ k) (h1 : k < 4) (hv : Vld (n, F, g)) (q1 : w = 0 ∨ w = 1) : Ct KX9_dearestNow [.ref (ad 112), vI k, vI w] M 0 0 (atI (drV (n k) (F k) g w) (fun M2 => RQ M0 M2 ad zA hA tA pA m len th rd nu bd sc hs)) := by
  refine Ct.of _ (by decide) rfl (Nat.le_of_ble_eq_true rfl) ?_
  obtain ⟨rA, sA, bA, wA, rm, bk, hm⟩ := hq
  have hzn := hz.n h0 h1
  refine r_iconst dX9_dearestNow_0 ?_
  refine r_istore_n dX9_dearestNow_1 (by decide) rfl ?_
  refine r_iconst dX9_dearestNow_2 ?_
  refine r_istore dX9_dearestNow_3 (by decide) rfl ?_
  refine r_iconst dX9_dearestNow_5 ?_
  refine r_istore dX9_dearestNow_6 (by decide) rfl ?_
  refine J.loc (L' := [(0, some _), (1, some _), (2, some _), (3, some _), (4, some _), (5, some _)]) (lsub_cons rfl (lsub_cons rfl (lsub_cons rfl (lsub_cons rfl (lsub_cons rfl (lsub_cons rfl (lsub_nil))))))) (loop4 (fun (p : Int) (d : Int) (s : Int) (M1 : Mem) => 0 ≤ p ∧ p ≤ n k ∧ (p = 0 → d = -1) ∧ (0 < p → 0 ≤ d) ∧ d ≤ 9999 ∧ -1 ≤ s ∧ s ≤ 900 ∧ RQ M0 M1 ad zA hA tA pA m len th rd nu bd sc hs ∧ drF (n k) (F k) g (n k).toNat 0 (-1) (-1) = drF (n k) (F k) g (n k - p).toNat p d s) (fun (p : Int) (d : Int) (s : Int) (M1 : Mem) => (n k - p).toNat) (fun (p : Int) (d : Int) (s : Int) (M1 : Mem) => J KX9_dearestNow 0 0 _ 8 [(0, some (.ref (ad 112))), (1, some (vI k)), (2, some (vI w)), (3, some (vI d)), (4, some (vI s)), (5, some (vI p))] [] M1 _ _) (fun p d s M1 hI8 ih8 => ?_) _ _ _ _ ?_)
  ·
    obtain ⟨hp0, hp1, hd0, hd1, hd9, hs0, hs9, hq, hd⟩ := hI8
    obtain ⟨rA, sA, bA, wA, rm, bk, hm⟩ := hq
    refine r_iload dX9_dearestNow_8 rfl ?_
    refine r_aload_n dX9_dearestNow_10 rfl ?_
    refine r_iload_n dX9_dearestNow_11 rfl ?_
    refine r_callV1 okX9_many ⟨by decide, by decide⟩ ml_X9_45 (mX9_many hm hz (by omega) (by omega)) hm.o rfl rfl (Nat.le_of_ble_eq_true rfl) (Nat.le_of_ble_eq_true rfl) (Nat.le_of_ble_eq_true rfl) rfl dX9_dearestNow_12 (nx_I) (kx_I ?_)
    refine r_icmp_ge (tgt := 83) dX9_dearestNow_15 (by decide) (by omega) (by omega) (fun h15 => ?_) (fun h15 => ?_)
    ·
      refine r_iload_n dX9_dearestNow_83 rfl ?_
      refine r_if_ne (tgt := 91) dX9_dearestNow_84 (by decide) (by omega) (fun h84 => ?_) (fun h84 => ?_)
      ·
        refine r_iload dX9_dearestNow_91 rfl ?_
        refine e_ireturn dX9_dearestNow_93 rfl (Nat.le_of_ble_eq_true rfl) (Nat.le_of_ble_eq_true rfl) ?_
        exact oktI (by unfold drV; rw [if_neg (by omega), hd, show (n k - p).toNat = 0 by omega, drF]) hm.q
      ·
        refine r_iload_n dX9_dearestNow_87 rfl ?_
        refine r_goto (tgt := 93) dX9_dearestNow_88 (by decide) ?_
        refine e_ireturn dX9_dearestNow_93 rfl (Nat.le_of_ble_eq_true rfl) (Nat.le_of_ble_eq_true rfl) ?_
        exact oktI (by unfold drV; rw [if_pos (by omega), hd, show (n k - p).toNat = 0 by omega, drF]) hm.q
    ·
      have hfp := (hz.f h0 h1 (p := p) hp0 (by omega)).2
      refine r_aload_n dX9_dearestNow_18 rfl ?_
      refine r_iload_n dX9_dearestNow_19 rfl ?_
      refine r_iload dX9_dearestNow_20 rfl ?_
      refine r_callV2 okX9_sizeWithout ⟨by decide, by decide⟩ ml_X9_226 (mX9_sizeWithout hm.q hi hz h0 h1 hv hp0 (by omega)) hm.o rfl rfl (Nat.le_of_ble_eq_true rfl) (Nat.le_of_ble_eq_true rfl) (Nat.le_of_ble_eq_true rfl) rfl dX9_dearestNow_22 (nx_tI) (kx_tI ?_)
      intro Mx hq
      obtain ⟨rA, sA, bA, wA, rm, bk, hm⟩ := hq
      have hsz : 0 ≤ drS (n k) (F k) g p ∧ drS (n k) (F k) g p ≤ 900 := drS_r hzn.2 (F k) g p (fun i a b => (hz.f h0 h1 a b).2)
      refine r_istore dX9_dearestNow_25 (by decide) rfl ?_
      refine r_iload_n dX9_dearestNow_27 rfl ?_
      refine r_iconst dX9_dearestNow_28 ?_
      refine r_icmp_eq (tgt := 39) dX9_dearestNow_29 (by decide) (by omega) (by omega) (fun h29 => ?_) (fun h29 => ?_)
      ·
        refine r_iconst dX9_dearestNow_39 ?_
        refine r_goto (tgt := 44) dX9_dearestNow_40 (by decide) ?_
        refine r_istore dX9_dearestNow_44 (by decide) rfl ?_
        refine r_iload dX9_dearestNow_46 rfl ?_
        refine r_if_eq (tgt := 61) dX9_dearestNow_48 (by decide) (by omega) (fun h48 => ?_) (fun h48 => ?_)
        · omega
        ·
          refine r_aload_n dX9_dearestNow_51 rfl ?_
          refine r_iload_n dX9_dearestNow_52 rfl ?_
          refine r_iload dX9_dearestNow_53 rfl ?_
          refine r_callV2 okX9_at ⟨by decide, by decide⟩ ml_X9_49 (mX9_at hm hz (by omega) (by omega) (by omega) (by omega)) hm.o rfl rfl (Nat.le_of_ble_eq_true rfl) (Nat.le_of_ble_eq_true rfl) (Nat.le_of_ble_eq_true rfl) rfl dX9_dearestNow_55 (nx_I) (kx_I ?_)
          refine r_goto (tgt := 62) dX9_dearestNow_58 (by decide) ?_
          refine r_istore_n dX9_dearestNow_62 (by decide) rfl ?_
          refine r_iload dX9_dearestNow_63 rfl ?_
          refine r_if_eq (tgt := 73) dX9_dearestNow_65 (by decide) (by omega) (fun h65 => ?_) (fun h65 => ?_)
          · omega
          ·
            refine r_iload dX9_dearestNow_68 rfl ?_
            refine r_goto (tgt := 75) dX9_dearestNow_70 (by decide) ?_
            refine r_istore dX9_dearestNow_75 (by decide) rfl ?_
            refine r_iinc dX9_dearestNow_77 rfl rfl ?_
            refine r_goto (tgt := 8) dX9_dearestNow_80 (by decide) ?_
            refine J.loc (lsub_cons rfl (lsub_cons rfl (lsub_cons rfl (lsub_cons rfl (lsub_cons rfl (lsub_cons rfl (lsub_nil))))))) (ih8 _ _ _ _ ?_ ?_)
            · refine ⟨by omega, by omega, fun h => by omega, fun h => by omega, by omega, by omega, by omega, hm.q, ?_⟩
              rw [hd, show (n k - p).toNat = (n k - (p + 1)).toNat + 1 by omega, drF]
              first | rw [if_pos (by omega)] | rw [if_neg (by omega)]
            · omega
      ·
        refine r_iload dX9_dearestNow_32 rfl ?_
        refine r_iload dX9_dearestNow_34 rfl ?_
        refine r_icmp_ge (tgt := 43) dX9_dearestNow_36 (by decide) (by omega) (by omega) (fun h36 => ?_) (fun h36 => ?_)
        ·
          refine r_iconst dX9_dearestNow_43 ?_
          refine r_istore dX9_dearestNow_44 (by decide) rfl ?_
          refine r_iload dX9_dearestNow_46 rfl ?_
          refine r_if_eq (tgt := 61) dX9_dearestNow_48 (by decide) (by omega) (fun h48 => ?_) (fun h48 => ?_)
          ·
            refine r_iload_n dX9_dearestNow_61 rfl ?_
            refine r_istore_n dX9_dearestNow_62 (by decide) rfl ?_
            refine r_iload dX9_dearestNow_63 rfl ?_
            refine r_if_eq (tgt := 73) dX9_dearestNow_65 (by decide) (by omega) (fun h65 => ?_) (fun h65 => ?_)
            ·
              refine r_iload dX9_dearestNow_73 rfl ?_
              refine r_istore dX9_dearestNow_75 (by decide) rfl ?_
              refine r_iinc dX9_dearestNow_77 rfl rfl ?_
              refine r_goto (tgt := 8) dX9_dearestNow_80 (by decide) ?_
              refine J.loc (lsub_cons rfl (lsub_cons rfl (lsub_cons rfl (lsub_cons rfl (lsub_cons rfl (lsub_cons rfl (lsub_nil))))))) (ih8 _ _ _ _ ?_ ?_)
              · refine ⟨by omega, by omega, fun h => by omega, fun h => by omega, by omega, by omega, by omega, hm.q, ?_⟩
                rw [hd, show (n k - p).toNat = (n k - (p + 1)).toNat + 1 by omega, drF]
                first | rw [if_pos (by omega)] | rw [if_neg (by omega)]
              · omega
            · omega
          · omega
        ·
          refine r_iconst dX9_dearestNow_39 ?_
          refine r_goto (tgt := 44) dX9_dearestNow_40 (by decide) ?_
          refine r_istore dX9_dearestNow_44 (by decide) rfl ?_
          refine r_iload dX9_dearestNow_46 rfl ?_
          refine r_if_eq (tgt := 61) dX9_dearestNow_48 (by decide) (by omega) (fun h48 => ?_) (fun h48 => ?_)
          · omega
          ·
            refine r_aload_n dX9_dearestNow_51 rfl ?_
            refine r_iload_n dX9_dearestNow_52 rfl ?_
            refine r_iload dX9_dearestNow_53 rfl ?_
            refine r_callV2 okX9_at ⟨by decide, by decide⟩ ml_X9_49 (mX9_at hm hz (by omega) (by omega) (by omega) (by omega)) hm.o rfl rfl (Nat.le_of_ble_eq_true rfl) (Nat.le_of_ble_eq_true rfl) (Nat.le_of_ble_eq_true rfl) rfl dX9_dearestNow_55 (nx_I) (kx_I ?_)
            refine r_goto (tgt := 62) dX9_dearestNow_58 (by decide) ?_
            refine r_istore_n dX9_dearestNow_62 (by decide) rfl ?_
            refine r_iload dX9_dearestNow_63 rfl ?_
            refine r_if_eq (tgt := 73) dX9_dearestNow_65 (by decide) (by omega) (fun h65 => ?_) (fun h65 => ?_)
            · omega
            ·
              refine r_iload dX9_dearestNow_68 rfl ?_
              refine r_goto (tgt := 75) dX9_dearestNow_70 (by decide) ?_
              refine r_istore dX9_dearestNow_75 (by decide) rfl ?_
              refine r_iinc dX9_dearestNow_77 rfl rfl ?_
              refine r_goto (tgt := 8) dX9_dearestNow_80 (by decide) ?_
              refine J.loc (lsub_cons rfl (lsub_cons rfl (lsub_cons rfl (lsub_cons rfl (lsub_cons rfl (lsub_cons rfl (lsub_nil))))))) (ih8 _ _ _ _ ?_ ?_)
              · refine ⟨by omega, by omega, fun h => by omega, fun h => by omega, by omega, by omega, by omega, hm.q, ?_⟩
                rw [hd, show (n k - p).toNat = (n k - (p + 1)).toNat + 1 by omega, drF]
                first | rw [if_pos (by omega)] | rw [if_neg (by omega)]
              · omega
  · exact ⟨by omega, by omega, fun _ => rfl, fun h => by omega, by omega, by omega, by omega, hm.q, by simp⟩

set_option maxHeartbeats 4000000 in
theorem mX9_sizesBy {M0 M : Mem} {ad : Int → Nat} {zA hA tA pA : Int → Int} {m len th rd nu bd sc : Int} {hs : Int64} {n : Int → Int} {F : Int → Int → Int} {g : Int → Int} {w : Int} (hq : RQ M0 M ad zA hA tA pA m len th rd nu bd sc hs) (hi : Inj ad) (hz : Zr zA n F g) (hv : Vld (n, F, g)) (q1 : R32 w) : Ct KX9_sizesBy [.ref (ad 112), vI w] M 0 0 (atI (szA n F g w) (fun M2 => RQ M0 M2 ad zA hA tA pA m len th rd nu bd sc hs)) := by
  refine Ct.of _ (by decide) rfl (Nat.le_of_ble_eq_true rfl) ?_
  obtain ⟨hvs, hv0, hv1, hv2, hv3⟩ := id hv
  dsimp only at hvs hv0 hv1 hv2 hv3
  have hg : (2 ≤ g 0 ∧ g 0 ≤ 16) ∧ 1 ≤ g 1 ∧ g 1 ≤ 9999 := ⟨⟨hv0, hv1⟩, hv2, hv3⟩
  refine r_iconst dX9_sizesBy_0 ?_
  refine r_istore_n dX9_sizesBy_1 (by decide) rfl ?_
  refine r_iconst dX9_sizesBy_2 ?_
  refine r_istore_n dX9_sizesBy_3 (by decide) rfl ?_
  refine J.loc (L' := [(0, some _), (1, some _), (2, some _), (3, some _)]) (lsub_cons rfl (lsub_cons rfl (lsub_cons rfl (lsub_cons rfl (lsub_nil))))) (loop3 (fun (i : Int) (y : Int) (M1 : Mem) => 0 ≤ i ∧ i ≤ 4 ∧ RQ M0 M1 ad zA hA tA pA m len th rd nu bd sc hs ∧ szA n F g w = y + smF (fun k => byF (n k) (F k) (g 0) w (n k).toNat 0 0) (4 - i).toNat i) (fun (i : Int) (y : Int) (M1 : Mem) => (4 - i).toNat) (fun (i : Int) (y : Int) (M1 : Mem) => J KX9_sizesBy 0 0 _ 4 [(0, some (.ref (ad 112))), (1, some (vI w)), (2, some (vI y)), (3, some (vI i))] [] M1 _ _) (fun i y M1 hI4 ih4 => ?_) _ _ _ ?_)
  ·
    obtain ⟨hi0, hi1, hq, hy⟩ := hI4
    obtain ⟨rA, sA, bA, wA, rm, bk, hm⟩ := hq
    refine r_iload_n dX9_sizesBy_4 rfl ?_
    refine r_iconst dX9_sizesBy_5 ?_
    refine r_icmp_ge (tgt := 34) dX9_sizesBy_6 (by decide) (by omega) (by omega) (fun h6 => ?_) (fun h6 => ?_)
    ·
      refine r_iload_n dX9_sizesBy_34 rfl ?_
      refine e_ireturn dX9_sizesBy_35 rfl (Nat.le_of_ble_eq_true rfl) (Nat.le_of_ble_eq_true rfl) ?_
      exact oktI (by rw [hy, show ((4 : Int) - i).toNat = 0 by omega, smF]; omega) hm.q
    ·
      refine r_aload_n dX9_sizesBy_9 rfl ?_
      refine r_iload_n dX9_sizesBy_10 rfl ?_
      refine r_aload_n dX9_sizesBy_11 rfl ?_
      refine r_getfield clX9 0 (by decide) fl_X9_7 hm.o rfl dX9_sizesBy_12 ?_
      refine r_iconst dX9_sizesBy_15 ?_
      refine r_iaload hm.z (by omega) (by omega) (by omega) dX9_sizesBy_16 ?_
      rw [hz.1]
      refine r_iload_n dX9_sizesBy_17 rfl ?_
      refine r_callV3 okX9_sizeBy ⟨by decide, by decide⟩ ml_X9_77 (mX9_sizeBy hm.q hi hz (by omega) (by omega) (by omega) (by omega)) hm.o rfl rfl (Nat.le_of_ble_eq_true rfl) (Nat.le_of_ble_eq_true rfl) (Nat.le_of_ble_eq_true rfl) rfl dX9_sizesBy_18 (nx_tI) (kx_tI ?_)
      intro Mx hq
      obtain ⟨rA, sA, bA, wA, rm, bk, hm⟩ := hq
      refine r_istore dX9_sizesBy_21 (by decide) rfl ?_
      refine r_iload_n dX9_sizesBy_23 rfl ?_
      refine r_iload dX9_sizesBy_24 rfl ?_
      refine r_iadd dX9_sizesBy_26 ?_
      refine r_istore_n dX9_sizesBy_27 (by decide) rfl ?_
      refine r_iinc dX9_sizesBy_28 rfl rfl ?_
      refine r_goto (tgt := 4) dX9_sizesBy_31 (by decide) ?_
      refine J.loc (lsub_cons rfl (lsub_cons rfl (lsub_cons rfl (lsub_cons rfl (lsub_nil))))) (ih4 _ _ _ ?_ ?_)
      · refine ⟨by omega, by omega, hm.q, ?_⟩
        rw [hy, show ((4 : Int) - i).toNat = (4 - (i + 1)).toNat + 1 by omega, smF]
        omega
      · omega
  · exact ⟨by omega, by omega, hq, by unfold szA; rw [show ((4 : Int) - 0).toNat = 4 from rfl]; omega⟩

set_option maxHeartbeats 4000000 in
theorem mX9_bestNow {M0 M : Mem} {ad : Int → Nat} {zA hA tA pA : Int → Int} {m len th rd nu bd sc : Int} {hs : Int64} {n : Int → Int} {F : Int → Int → Int} {g : Int → Int} (hq : RQ M0 M ad zA hA tA pA m len th rd nu bd sc hs) (hi : Inj ad) (hz : Zr zA n F g) (hv : Vld (n, F, g)) : Ct KX9_bestNow [.ref (ad 112)] M 0 0 (atI (bwV n F g) (fun M2 => RQ M0 M2 ad zA hA tA pA m len th rd nu bd sc hs)) := by
  refine Ct.of _ (by decide) rfl (Nat.le_of_ble_eq_true rfl) ?_
  obtain ⟨rA, sA, bA, wA, rm, bk, hm⟩ := hq
  have hst := hz.sts hv
  have hsa : ∀ w, 0 ≤ szA n F g w ∧ szA n F g w ≤ 3600 := szA_r (fun j a b => by have := (hz.n a b).2; omega)
  refine r_iconst dX9_bestNow_0 ?_
  refine r_istore_n dX9_bestNow_1 (by decide) rfl ?_
  refine r_aload_n dX9_bestNow_2 rfl ?_
  refine r_iconst dX9_bestNow_3 ?_
  refine r_callV1 okX9_sizesBy ⟨by decide, by decide⟩ ml_X9_232 (mX9_sizesBy hm.q hi hz hv (by omega)) hm.o rfl rfl (Nat.le_of_ble_eq_true rfl) (Nat.le_of_ble_eq_true rfl) (Nat.le_of_ble_eq_true rfl) rfl dX9_bestNow_4 (nx_tI) (kx_tI ?_)
  intro Mx hq
  have hs1 := hsa 1
  refine r_istore_n dX9_bestNow_7 (by decide) rfl ?_
  refine r_iconst dX9_bestNow_8 ?_
  refine r_istore_n dX9_bestNow_9 (by decide) rfl ?_
  refine J.loc (L' := [(0, some _), (1, some _), (2, some _), (3, some _)]) (lsub_cons rfl (lsub_cons rfl (lsub_cons rfl (lsub_cons rfl (lsub_nil))))) (loop4 (fun (i : Int) (b : Int) (s : Int) (M1 : Mem) => 0 ≤ i ∧ i ≤ 4 ∧ Bs (BW n F i 1) (szA n F g) b ∧ s = szA n F g b ∧ 1 ≤ b ∧ b ≤ 9999 ∧ RQ M0 M1 ad zA hA tA pA m len th rd nu bd sc hs) (fun (i : Int) (b : Int) (s : Int) (M1 : Mem) => (4 - i).toNat) (fun (i : Int) (b : Int) (s : Int) (M1 : Mem) => J KX9_bestNow 0 0 _ 10 [(0, some (.ref (ad 112))), (1, some (vI b)), (2, some (vI s)), (3, some (vI i))] [] M1 _ _) (fun i b s M1 hI10 ih10 => ?_) _ _ _ _ ?_)
  ·
    obtain ⟨hi0, hi1, hb, hes, hb0, hb9, hq⟩ := hI10
    obtain ⟨rA, sA, bA, wA, rm, bk, hm⟩ := hq
    refine r_iload_n dX9_bestNow_10 rfl ?_
    refine r_iconst dX9_bestNow_11 ?_
    refine r_icmp_ge (tgt := 116) dX9_bestNow_12 (by decide) (by omega) (by omega) (fun h12 => ?_) (fun h12 => ?_)
    ·
      refine r_iload_n dX9_bestNow_116 rfl ?_
      refine e_ireturn dX9_bestNow_117 rfl (Nat.le_of_ble_eq_true rfl) (Nat.le_of_ble_eq_true rfl) ?_
      have hi4 : i = 4 := by omega
      rw [hi4] at hb
      exact oktI (hb.uniq (bwV_spec hst g)) hm.q
    ·
      refine r_iconst dX9_bestNow_15 ?_
      refine r_istore dX9_bestNow_16 (by decide) rfl ?_
      refine J.loc (L' := [(0, some _), (1, some _), (2, some _), (3, some _), (4, some _)]) (lsub_cons rfl (lsub_cons rfl (lsub_cons rfl (lsub_cons rfl (lsub_cons rfl (lsub_nil)))))) (loop4 (fun (p : Int) (b : Int) (s : Int) (M1 : Mem) => 1 ≤ p ∧ (p ≤ n i ∨ p = 1) ∧ Bs (BW n F i p) (szA n F g) b ∧ s = szA n F g b ∧ 1 ≤ b ∧ b ≤ 9999 ∧ RQ M0 M1 ad zA hA tA pA m len th rd nu bd sc hs) (fun (p : Int) (b : Int) (s : Int) (M1 : Mem) => (n i - p).toNat) (fun (p : Int) (b : Int) (s : Int) (M1 : Mem) => J KX9_bestNow 0 0 _ 18 [(0, some (.ref (ad 112))), (1, some (vI b)), (2, some (vI s)), (3, some (vI i)), (4, some (vI p))] [] M1 _ _) (fun p b s M1 hI18 ih18 => ?_) _ _ _ _ ?_)
      ·
        obtain ⟨hp0, hp1, hb, hes, hb0, hb9, hq⟩ := hI18
        have hni := hz.n hi0 (by omega)
        obtain ⟨rA, sA, bA, wA, rm, bk, hm⟩ := hq
        refine r_iload dX9_bestNow_18 rfl ?_
        refine r_aload_n dX9_bestNow_20 rfl ?_
        refine r_iload_n dX9_bestNow_21 rfl ?_
        refine r_callV1 okX9_many ⟨by decide, by decide⟩ ml_X9_45 (mX9_many hm hz (by omega) (by omega)) hm.o rfl rfl (Nat.le_of_ble_eq_true rfl) (Nat.le_of_ble_eq_true rfl) (Nat.le_of_ble_eq_true rfl) rfl dX9_bestNow_22 (nx_I) (kx_I ?_)
        refine r_icmp_ge (tgt := 110) dX9_bestNow_25 (by decide) (by omega) (by omega) (fun h25 => ?_) (fun h25 => ?_)
        ·
          refine r_iinc dX9_bestNow_110 rfl rfl ?_
          refine r_goto (tgt := 10) dX9_bestNow_113 (by decide) ?_
          refine J.loc (lsub_cons rfl (lsub_cons rfl (lsub_cons rfl (lsub_cons rfl (lsub_nil))))) (ih10 _ _ _ _ ?_ ?_)
          · exact ⟨by omega, by omega, hb.cong (fun w => BW.next n F hi0 (by omega) w), hes, by omega, by omega, hm.q⟩
          · omega
        ·
          have hf0 := (hz.f hi0 (by omega) (p := p) (by omega) (by omega)).2
          have hf1 := (hz.f hi0 (by omega) (p := p - 1) (by omega) (by omega)).2
          have hso := hv.1 i hi0 (by omega) (p - 1) p (by omega) (by omega) (show p < n i by omega)
          dsimp only at hso
          have hgp : F i p - F i (p - 1) = gapF (n i) (F i) p := (gapF_in (by omega) (by omega)).symm
          have hsb := hsa b
          refine r_aload_n dX9_bestNow_28 rfl ?_
          refine r_iload_n dX9_bestNow_29 rfl ?_
          refine r_iload dX9_bestNow_30 rfl ?_
          refine r_callV2 okX9_at ⟨by decide, by decide⟩ ml_X9_49 (mX9_at hm hz (by omega) (by omega) (by omega) (by omega)) hm.o rfl rfl (Nat.le_of_ble_eq_true rfl) (Nat.le_of_ble_eq_true rfl) (Nat.le_of_ble_eq_true rfl) rfl dX9_bestNow_32 (nx_I) (kx_I ?_)
          refine r_aload_n dX9_bestNow_35 rfl ?_
          refine r_iload_n dX9_bestNow_36 rfl ?_
          refine r_iload dX9_bestNow_37 rfl ?_
          refine r_iconst dX9_bestNow_39 ?_
          refine r_isub dX9_bestNow_40 ?_
          refine r_callV2 okX9_at ⟨by decide, by decide⟩ ml_X9_49 (mX9_at hm hz (by omega) (by omega) (by omega) (by omega)) hm.o rfl rfl (Nat.le_of_ble_eq_true rfl) (Nat.le_of_ble_eq_true rfl) (Nat.le_of_ble_eq_true rfl) rfl dX9_bestNow_41 (nx_I) (kx_I ?_)
          refine r_isub dX9_bestNow_44 ?_
          refine r_istore dX9_bestNow_45 (by decide) rfl ?_
          refine r_aload_n dX9_bestNow_47 rfl ?_
          refine r_iload dX9_bestNow_48 rfl ?_
          refine r_callV1 okX9_sizesBy ⟨by decide, by decide⟩ ml_X9_232 (mX9_sizesBy hm.q hi hz hv (by omega)) hm.o rfl rfl (Nat.le_of_ble_eq_true rfl) (Nat.le_of_ble_eq_true rfl) (Nat.le_of_ble_eq_true rfl) rfl dX9_bestNow_50 (nx_tI) (kx_tI ?_)
          intro Mx hq
          obtain ⟨rA, sA, bA, wA, rm, bk, hm⟩ := hq
          have hs2 := hsa (F i p - F i (p - 1))
          refine r_istore dX9_bestNow_53 (by decide) rfl ?_
          refine r_iload dX9_bestNow_55 rfl ?_
          refine r_iload_n dX9_bestNow_57 rfl ?_
          refine r_icmp_lt (tgt := 73) dX9_bestNow_58 (by decide) (by omega) (by omega) (fun h58 => ?_) (fun h58 => ?_)
          ·
            refine r_iconst dX9_bestNow_73 ?_
            refine r_goto (tgt := 78) dX9_bestNow_74 (by decide) ?_
            refine r_istore dX9_bestNow_78 (by decide) rfl ?_
            refine r_iload dX9_bestNow_80 rfl ?_
            refine r_if_eq (tgt := 90) dX9_bestNow_82 (by decide) (by omega) (fun h82 => ?_) (fun h82 => ?_)
            · omega
            ·
              refine r_iload dX9_bestNow_85 rfl ?_
              refine r_goto (tgt := 91) dX9_bestNow_87 (by decide) ?_
              refine r_istore_n dX9_bestNow_91 (by decide) rfl ?_
              refine r_iload dX9_bestNow_92 rfl ?_
              refine r_if_eq (tgt := 102) dX9_bestNow_94 (by decide) (by omega) (fun h94 => ?_) (fun h94 => ?_)
              · omega
              ·
                refine r_iload dX9_bestNow_97 rfl ?_
                refine r_goto (tgt := 103) dX9_bestNow_99 (by decide) ?_
                refine r_istore_n dX9_bestNow_103 (by decide) rfl ?_
                refine r_iinc dX9_bestNow_104 rfl rfl ?_
                refine r_goto (tgt := 18) dX9_bestNow_107 (by decide) ?_
                refine J.loc (lsub_cons rfl (lsub_cons rfl (lsub_cons rfl (lsub_cons rfl (lsub_cons rfl (lsub_nil)))))) (ih18 _ _ _ _ ?_ ?_)
                · have hadd := BW.step n F hi0 hp0
                  rw [← hgp] at hadd
                  first | exact ⟨by omega, by omega, hb.take hadd (by omega), rfl, by omega, by omega, hm.q⟩ | exact ⟨by omega, by omega, hb.keep hadd (by omega), hes, by omega, by omega, hm.q⟩
                · omega
          ·
            refine r_iload dX9_bestNow_61 rfl ?_
            refine r_iload_n dX9_bestNow_63 rfl ?_
            refine r_icmp_ne (tgt := 77) dX9_bestNow_64 (by decide) (by omega) (by omega) (fun h64 => ?_) (fun h64 => ?_)
            ·
              refine r_iconst dX9_bestNow_77 ?_
              refine r_istore dX9_bestNow_78 (by decide) rfl ?_
              refine r_iload dX9_bestNow_80 rfl ?_
              refine r_if_eq (tgt := 90) dX9_bestNow_82 (by decide) (by omega) (fun h82 => ?_) (fun h82 => ?_)
              ·
                refine r_iload_n dX9_bestNow_90 rfl ?_
                refine r_istore_n dX9_bestNow_91 (by decide) rfl ?_
                refine r_iload dX9_bestNow_92 rfl ?_
                refine r_if_eq (tgt := 102) dX9_bestNow_94 (by decide) (by omega) (fun h94 => ?_) (fun h94 => ?_)
                ·
                  refine r_iload_n dX9_bestNow_102 rfl ?_
                  refine r_istore_n dX9_bestNow_103 (by decide) rfl ?_
                  refine r_iinc dX9_bestNow_104 rfl rfl ?_
                  refine r_goto (tgt := 18) dX9_bestNow_107 (by decide) ?_
                  refine J.loc (lsub_cons rfl (lsub_cons rfl (lsub_cons rfl (lsub_cons rfl (lsub_cons rfl (lsub_nil)))))) (ih18 _ _ _ _ ?_ ?_)
                  · have hadd := BW.step n F hi0 hp0
                    rw [← hgp] at hadd
                    first | exact ⟨by omega, by omega, hb.take hadd (by omega), rfl, by omega, by omega, hm.q⟩ | exact ⟨by omega, by omega, hb.keep hadd (by omega), hes, by omega, by omega, hm.q⟩
                  · omega
                · omega
              · omega
            ·
              refine r_iload dX9_bestNow_67 rfl ?_
              refine r_iload_n dX9_bestNow_69 rfl ?_
              refine r_icmp_ge (tgt := 77) dX9_bestNow_70 (by decide) (by omega) (by omega) (fun h70 => ?_) (fun h70 => ?_)
              ·
                refine r_iconst dX9_bestNow_77 ?_
                refine r_istore dX9_bestNow_78 (by decide) rfl ?_
                refine r_iload dX9_bestNow_80 rfl ?_
                refine r_if_eq (tgt := 90) dX9_bestNow_82 (by decide) (by omega) (fun h82 => ?_) (fun h82 => ?_)
                ·
                  refine r_iload_n dX9_bestNow_90 rfl ?_
                  refine r_istore_n dX9_bestNow_91 (by decide) rfl ?_
                  refine r_iload dX9_bestNow_92 rfl ?_
                  refine r_if_eq (tgt := 102) dX9_bestNow_94 (by decide) (by omega) (fun h94 => ?_) (fun h94 => ?_)
                  ·
                    refine r_iload_n dX9_bestNow_102 rfl ?_
                    refine r_istore_n dX9_bestNow_103 (by decide) rfl ?_
                    refine r_iinc dX9_bestNow_104 rfl rfl ?_
                    refine r_goto (tgt := 18) dX9_bestNow_107 (by decide) ?_
                    refine J.loc (lsub_cons rfl (lsub_cons rfl (lsub_cons rfl (lsub_cons rfl (lsub_cons rfl (lsub_nil)))))) (ih18 _ _ _ _ ?_ ?_)
                    · have hadd := BW.step n F hi0 hp0
                      rw [← hgp] at hadd
                      first | exact ⟨by omega, by omega, hb.take hadd (by omega), rfl, by omega, by omega, hm.q⟩ | exact ⟨by omega, by omega, hb.keep hadd (by omega), hes, by omega, by omega, hm.q⟩
                    · omega
                  · omega
                · omega
              ·
                refine r_iconst dX9_bestNow_73 ?_
                refine r_goto (tgt := 78) dX9_bestNow_74 (by decide) ?_
                refine r_istore dX9_bestNow_78 (by decide) rfl ?_
                refine r_iload dX9_bestNow_80 rfl ?_
                refine r_if_eq (tgt := 90) dX9_bestNow_82 (by decide) (by omega) (fun h82 => ?_) (fun h82 => ?_)
                · omega
                ·
                  refine r_iload dX9_bestNow_85 rfl ?_
                  refine r_goto (tgt := 91) dX9_bestNow_87 (by decide) ?_
                  refine r_istore_n dX9_bestNow_91 (by decide) rfl ?_
                  refine r_iload dX9_bestNow_92 rfl ?_
                  refine r_if_eq (tgt := 102) dX9_bestNow_94 (by decide) (by omega) (fun h94 => ?_) (fun h94 => ?_)
                  · omega
                  ·
                    refine r_iload dX9_bestNow_97 rfl ?_
                    refine r_goto (tgt := 103) dX9_bestNow_99 (by decide) ?_
                    refine r_istore_n dX9_bestNow_103 (by decide) rfl ?_
                    refine r_iinc dX9_bestNow_104 rfl rfl ?_
                    refine r_goto (tgt := 18) dX9_bestNow_107 (by decide) ?_
                    refine J.loc (lsub_cons rfl (lsub_cons rfl (lsub_cons rfl (lsub_cons rfl (lsub_cons rfl (lsub_nil)))))) (ih18 _ _ _ _ ?_ ?_)
                    · have hadd := BW.step n F hi0 hp0
                      rw [← hgp] at hadd
                      first | exact ⟨by omega, by omega, hb.take hadd (by omega), rfl, by omega, by omega, hm.q⟩ | exact ⟨by omega, by omega, hb.keep hadd (by omega), hes, by omega, by omega, hm.q⟩
                    · omega
      · exact ⟨by omega, by omega, hb, hes, by omega, by omega, hm.q⟩
  · exact ⟨by omega, by omega, ⟨Or.inl rfl, fun w hw => by
      rcases hw with rfl | ⟨k, q, c0, c1, c2⟩
      · omega
      · omega⟩, rfl, by omega, by omega, hq⟩
