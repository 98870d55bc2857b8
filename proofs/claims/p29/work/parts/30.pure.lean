/-! rows of numbers, once more: blocks and bytes, sets of members -/
theorem ctF_le (n : Int) (F : Int → Int) (a b : Int) : ∀ (k : Nat) (p c fd : Int) (st : Int → Int), fd ≤ (ctF n F a b k p c fd st).1 ∧ (∀ j, j < fd → (ctF n F a b k p c fd st).2 j = st j) ∧ ∀ j, fd ≤ j → j < (ctF n F a b k p c fd st).1 → p ≤ (ctF n F a b k p c fd st).2 j
  | 0, p, c, fd, st => by unfold ctF; exact ⟨Int.le_refl _, fun _ _ => rfl, fun j x y => by dsimp only at y; omega⟩
  | k + 1, p, c, fd, st => by
    unfold ctF
    split
    · obtain ⟨h1, h2, h3⟩ := ctF_le n F a b k (p + 1) 1 (fd + 1) (uI st fd p)
      refine ⟨by omega, fun j hj => by rw [h2 j (by omega), uI_n _ (by omega)], fun j x y => ?_⟩
      by_cases e : j = fd
      · rw [e, h2 fd (by omega), uI_s]; omega
      · have := h3 j (by omega) y; omega
    · obtain ⟨h1, h2, h3⟩ := ctF_le n F a b k (p + 1) (c + 1) fd st
      exact ⟨h1, h2, fun j x y => by have := h3 j x y; omega⟩
theorem byF_ct (n : Int) (F : Int → Int) (a b : Int) : ∀ (k : Nat) (p c fd : Int) (st : Int → Int), byF n F a b k p c = smF (bbyF n F (uI (ctF n F a b k p c fd st).2 (ctF n F a b k p c fd st).1 (p + k))) ((ctF n F a b k p c fd st).1 - fd).toNat fd + smF (fun q => gby (gapF n F q)) ((uI (ctF n F a b k p c fd st).2 (ctF n F a b k p c fd st).1 (p + k)) fd - p).toNat p
  | 0, p, c, fd, st => by
    unfold ctF byF
    dsimp only
    rw [uI_s, show (fd - fd).toNat = 0 by omega, show (p + ((0 : Nat) : Int) - p).toNat = 0 by omega]
    rfl
  | k + 1, p, c, fd, st => by
    unfold ctF byF
    by_cases hb : beg n F a b p c = true
    · rw [if_pos hb, if_pos hb]
      obtain ⟨h1, h2, h3⟩ := ctF_le n F a b k (p + 1) 1 (fd + 1) (uI st fd p)
      rw [byF_ct n F a b k (p + 1) 1 (fd + 1) (uI st fd p), show p + ((k + 1 : Nat) : Int) = p + 1 + k by omega]
      generalize ctF n F a b k (p + 1) 1 (fd + 1) (uI st fd p) = r at h1 h2 h3 ⊢
      have e1 : uI r.2 r.1 (p + 1 + k) fd = p := by rw [uI_n _ (by omega), h2 fd (by omega), uI_s]
      have e2 : bbyF n F (uI r.2 r.1 (p + 1 + k)) fd = 3 + smF (fun q => gby (gapF n F q)) (uI r.2 r.1 (p + 1 + k) (fd + 1) - (p + 1)).toNat (p + 1) := by
        unfold bbyF
        rw [e1]
      rw [show (r.1 - fd).toNat = (r.1 - (fd + 1)).toNat + 1 by omega, smF, e2, e1, show (p - p).toNat = 0 by omega, smF]
      omega
    · rw [if_neg hb, if_neg hb]
      obtain ⟨h1, h2, h3⟩ := ctF_le n F a b k (p + 1) (c + 1) fd st
      rw [byF_ct n F a b k (p + 1) (c + 1) fd st, show p + ((k + 1 : Nat) : Int) = p + 1 + k by omega]
      generalize ctF n F a b k (p + 1) (c + 1) fd st = r at h1 h2 h3 ⊢
      have e1 : p + 1 ≤ uI r.2 r.1 (p + 1 + k) fd := by
        by_cases e : fd = r.1
        · rw [← e, uI_s]; omega
        · rw [uI_n _ e]; exact h3 fd (by omega) (by omega)
      rw [show (uI r.2 r.1 (p + 1 + k) fd - p).toNat = (uI r.2 r.1 (p + 1 + k) fd - (p + 1)).toNat + 1 by omega]
      conv => rhs; rw [smF.eq_def (fun q => gby (gapF n F q))]
      dsimp only
      omega
theorem byF_sum {n : Int} (hn : 0 ≤ n) (F : Int → Int) (a b : Int) : smF (bbyF n F (stF n F a b)) (nbF n F a b).toNat 0 = byF n F a b n.toNat 0 0 := by
  have h := byF_ct n F a b n.toNat 0 0 0 (fun _ => 0)
  have hs := (blk_spec hn F a b).2.2.2.1
  rw [show (0 : Int) + (n.toNat : Int) = n by omega] at h
  have e : uI (ctF n F a b n.toNat 0 0 0 (fun _ => 0)).2 (ctF n F a b n.toNat 0 0 0 (fun _ => 0)).1 n = stF n F a b := rfl
  rw [e, hs, show ((0 : Int) - 0).toNat = 0 from rfl] at h
  rw [h, show ((ctF n F a b n.toNat 0 0 0 (fun _ => 0)).1 - 0).toNat = (nbF n F a b).toNat by unfold nbF; omega]
  simp [smF]
theorem gapF_cong {n : Int} {F G : Int → Int} (h : ∀ i, 0 ≤ i → i < n → F i = G i) : gapF n F = gapF n G := by
  funext p
  unfold gapF
  split
  · next q => rw [h p (by omega) q.2, h (p - 1) (by omega) (by omega)]
  · rfl
theorem byF_cong {n : Int} {F G : Int → Int} (h : gapF n F = gapF n G) (a b : Int) : ∀ (k : Nat) (p c : Int), byF n F a b k p c = byF n G a b k p c
  | 0, p, c => rfl
  | k + 1, p, c => by
    unfold byF beg
    rw [h, byF_cong h a b k, byF_cong h a b k]
theorem szF_cong {n n' : Int} {F G : Int → Int} (hn : n = n') (h : ∀ i, 0 ≤ i → i < n → F i = G i) (g : Int → Int) : szF n F g = szF n' G g := by
  subst hn
  exact byF_cong (gapF_cong h) _ _ _ _ _
/-! sets of members -/
def Memb (n : Int) (F : Int → Int) (x : Int) : Prop := ∃ i, 0 ≤ i ∧ i < n ∧ F i = x
theorem srt_half {n n' : Int} {F F' : Int → Int} (hs : Srt n F) (hs' : Srt n' F') (h : ∀ x, Memb n F x ↔ Memb n' F' x) : ∀ (k : Nat), (k : Int) < n → (k : Int) < n' ∧ F k = F' k := by
  intro k
  induction k using Nat.strongRecOn with
  | ind k ih =>
    intro hk
    obtain ⟨i', a1, a2, a3⟩ := (h (F k)).mp ⟨k, by omega, hk, rfl⟩
    have h1 : (k : Int) ≤ i' := by
      by_cases e : (k : Int) ≤ i'
      · exact e
      · have h2 := ih i'.toNat (by omega) (by omega)
        rw [Int.toNat_of_nonneg a1] at h2
        have h3 := hs i' k a1 (by omega) hk
        rw [h2.2] at h3
        omega
    have hk' : (k : Int) < n' := by omega
    have h4 : F' k ≤ F k := by
      by_cases e : (k : Int) = i'
      · rw [← a3, ← e]; omega
      · have := hs' k i' (by omega) (by omega) a2; omega
    obtain ⟨i2, b1, b2, b3⟩ := (h (F' k)).mpr ⟨k, by omega, hk', rfl⟩
    have h5 : (k : Int) ≤ i2 := by
      by_cases e : (k : Int) ≤ i2
      · exact e
      · have h2 := ih i2.toNat (by omega) (by omega)
        rw [Int.toNat_of_nonneg b1] at h2
        have h3 := hs' i2 k b1 (by omega) hk'
        rw [← h2.2] at h3
        omega
    have h6 : F k ≤ F' k := by
      by_cases e : (k : Int) = i2
      · rw [← b3, ← e]; omega
      · have := hs k i2 (by omega) (by omega) b2; omega
    exact ⟨hk', by omega⟩
theorem srt_unique {n n' : Int} {F F' : Int → Int} (hn : 0 ≤ n) (hn' : 0 ≤ n') (hs : Srt n F) (hs' : Srt n' F') (h : ∀ x, Memb n F x ↔ Memb n' F' x) : n = n' ∧ ∀ i, 0 ≤ i → i < n → F i = F' i := by
  have h1 := srt_half hs hs' h
  have h2 := srt_half hs' hs (fun x => (h x).symm)
  refine ⟨?_, fun i a b => ?_⟩
  · by_cases e : n < n'
    · have := (h2 n.toNat (by omega)).1; omega
    · by_cases e2 : n' < n
      · have := (h1 n'.toNat (by omega)).1; omega
      · omega
  · have := (h1 i.toNat (by omega)).2
    rwa [Int.toNat_of_nonneg a] at this
theorem plc_eq {n : Int} {F : Int → Int} {x r : Int} (h0 : 0 ≤ r) (h1 : r ≤ n) (h2 : ∀ j, 0 ≤ j → j < r → F j < x) (h3 : r < n → x ≤ F r) : plc n F x = r := by
  unfold plc
  refine ff_unique h0 (by omega) (fun j a b => decide_eq_false ?_) (fun h9 => decide_eq_true (h3 (by omega)))
  have := h2 j a b
  omega
theorem hasF_iff {n : Int} {F : Int → Int} (hn : 0 ≤ n) (hs : Srt n F) (x : Int) : hasF n F x = true ↔ Memb n F x := by
  obtain ⟨g1, g2, g3, g4⟩ := plc_spec hn F x
  unfold hasF
  simp only [Bool.and_eq_true, decide_eq_true_eq]
  constructor
  · rintro ⟨h1, h2⟩; exact ⟨_, g1, h1, h2⟩
  · rintro ⟨i, h1, h2, h3⟩
    have h4 : plc n F x ≤ i := by
      by_cases e : i < plc n F x
      · have := g3 i h1 e; omega
      · omega
    refine ⟨by omega, ?_⟩
    by_cases e : plc n F x = i
    · rw [e]; exact h3
    · have h5 := hs (plc n F x) i g1 (by omega) h2
      have h6 := g4 (by omega)
      omega
theorem bI_eq1 {b : Bool} (h : b = true) : bI b = 1 := by rw [h]; rfl
theorem bI_eq0 {b : Bool} (h : ¬ b = true) : bI b = 0 := by cases b <;> simp [bI] at h ⊢
/-- a number put among the members -/
theorem ins_spec {n : Int} {F : Int → Int} (hn : 0 ≤ n) (hs : Srt n F) {x : Int} (hx : ¬ Memb n F x) : Srt (n + 1) (insF F (plc n F x) x) ∧ ∀ y, Memb (n + 1) (insF F (plc n F x) x) y ↔ Memb n F y ∨ y = x := by
  obtain ⟨g1, g2, g3, g4⟩ := plc_spec hn F x
  have g5 : ∀ j, plc n F x ≤ j → j < n → x < F j := fun j a b => by
    have h1 := g4 (by omega)
    have h2 : F (plc n F x) ≠ x := fun e => hx ⟨_, g1, by omega, e⟩
    by_cases e : j = plc n F x
    · rw [e]; omega
    · have := hs (plc n F x) j g1 (by omega) b; omega
  refine ⟨fun i j a b c => ?_, fun y => ⟨?_, ?_⟩⟩
  · unfold insF
    by_cases e1 : j < plc n F x
    · rw [if_pos (by omega), if_pos e1]; exact hs i j a b (by omega)
    · rw [if_neg e1]
      by_cases e2 : j = plc n F x
      · rw [if_pos e2, if_pos (by omega)]; exact g3 i a (by omega)
      · rw [if_neg e2]
        by_cases e3 : i < plc n F x
        · rw [if_pos e3]; exact hs i (j - 1) a (by omega) (by omega)
        · rw [if_neg e3]
          by_cases e4 : i = plc n F x
          · rw [if_pos e4]; exact g5 (j - 1) (by omega) (by omega)
          · rw [if_neg e4]; exact hs (i - 1) (j - 1) (by omega) (by omega) (by omega)
  · rintro ⟨i, a, b, c⟩
    unfold insF at c
    by_cases e1 : i < plc n F x
    · rw [if_pos e1] at c; exact Or.inl ⟨i, a, by omega, c⟩
    · rw [if_neg e1] at c
      by_cases e2 : i = plc n F x
      · rw [if_pos e2] at c; exact Or.inr c.symm
      · rw [if_neg e2] at c; exact Or.inl ⟨i - 1, by omega, by omega, c⟩
  · rintro (⟨i, a, b, c⟩ | rfl)
    · by_cases e1 : i < plc n F x
      · exact ⟨i, a, by omega, by unfold insF; rw [if_pos e1]; exact c⟩
      · exact ⟨i + 1, by omega, by omega, by unfold insF; rw [if_neg (by omega), if_neg (by omega), show i + 1 - 1 = i by omega]; exact c⟩
    · exact ⟨plc n F y, g1, by omega, by unfold insF; rw [if_neg (by omega), if_pos rfl]⟩
theorem put_spec {N : Nat} {n : Int} {F : Int → Int} (hn : 0 ≤ n) (hN : n < N) (hs : Srt n F) (x : Int) : Srt (putN N n F x) (putF N n F x) ∧ (∀ y, Memb (putN N n F x) (putF N n F x) y ↔ Memb n F y ∨ y = x) ∧ n ≤ putN N n F x ∧ putN N n F x ≤ n + 1 := by
  by_cases h : hasF n F x = true
  · have e : putOk N n F x = false := by unfold putOk; rw [h]; rfl
    unfold putN putF
    rw [if_neg (by rw [e]; decide), if_neg (by rw [e]; decide)]
    refine ⟨hs, fun y => ⟨Or.inl, ?_⟩, by omega, by omega⟩
    rintro (h1 | rfl)
    · exact h1
    · exact (hasF_iff hn hs y).mp h
  · have e : putOk N n F x = true := by unfold putOk; rw [decide_eq_true hN]; cases h9 : hasF n F x <;> simp_all
    unfold putN putF
    rw [if_pos e, if_pos e]
    obtain ⟨h1, h2⟩ := ins_spec hn hs (fun q => h ((hasF_iff hn hs x).mpr q))
    exact ⟨h1, h2, by omega, by omega⟩
/-- what a filter leaves -/
theorem kpF_spec (P : Int → Bool) (F : Int → Int) {n : Int} (hs : Srt n F) : ∀ (k : Nat) (i r : Int) (G : Int → Int), 0 ≤ i → i + k = n → 0 ≤ r → Srt r G → (∀ y, Memb r G y ↔ (∃ j, 0 ≤ j ∧ j < i ∧ F j = y) ∧ P y = true) → Srt (kpF P F k i r G).1 (kpF P F k i r G).2 ∧ (∀ y, Memb (kpF P F k i r G).1 (kpF P F k i r G).2 y ↔ Memb n F y ∧ P y = true) ∧ 0 ≤ (kpF P F k i r G).1
  | 0, i, r, G, h0, h1, h2, h3, h4 => by
    unfold kpF
    have e : i = n := by omega
    rw [e] at h4
    exact ⟨h3, h4, h2⟩
  | k + 1, i, r, G, h0, h1, h2, h3, h4 => by
    have hlt : ∀ j, 0 ≤ j → j < r → G j < F i := fun j a b => by
      obtain ⟨⟨q, c1, c2, c3⟩, -⟩ := (h4 (G j)).mp ⟨j, a, b, rfl⟩
      have := hs q i c1 c2 (by omega)
      omega
    unfold kpF
    by_cases hp : P (F i) = true
    · rw [if_pos hp]
      refine kpF_spec P F hs k (i + 1) (r + 1) (uI G r (F i)) (by omega) (by omega) (by omega) (fun a b c d e => ?_) (fun y => ⟨?_, ?_⟩)
      · rw [uI_n _ (show a ≠ r by omega)]
        by_cases e1 : b = r
        · rw [e1, uI_s]; exact hlt a c (by omega)
        · rw [uI_n _ e1]; exact h3 a b c d (by omega)
      · rintro ⟨j, a, b, c⟩
        by_cases e1 : j = r
        · rw [e1, uI_s] at c; rw [← c]; exact ⟨⟨i, h0, by omega, rfl⟩, hp⟩
        · rw [uI_n _ e1] at c
          obtain ⟨⟨q, c1, c2, c3⟩, c4⟩ := (h4 y).mp ⟨j, a, by omega, c⟩
          exact ⟨⟨q, c1, by omega, c3⟩, c4⟩
      · rintro ⟨⟨q, c1, c2, c3⟩, c4⟩
        by_cases e1 : q = i
        · rw [e1] at c3; exact ⟨r, by omega, by omega, by rw [uI_s]; exact c3⟩
        · obtain ⟨j, a, b, c⟩ := (h4 y).mpr ⟨⟨q, c1, by omega, c3⟩, c4⟩
          exact ⟨j, a, by omega, by rw [uI_n _ (by omega)]; exact c⟩
    · rw [if_neg hp]
      refine kpF_spec P F hs k (i + 1) r G (by omega) (by omega) h2 h3 (fun y => ⟨fun h => ?_, ?_⟩)
      · obtain ⟨⟨q, c1, c2, c3⟩, c4⟩ := (h4 y).mp h
        exact ⟨⟨q, c1, by omega, c3⟩, c4⟩
      · rintro ⟨⟨q, c1, c2, c3⟩, c4⟩
        refine (h4 y).mpr ⟨⟨q, c1, ?_, c3⟩, c4⟩
        by_cases e1 : q = i
        · rw [e1] at c3; rw [← c3] at c4; exact absurd c4 hp
        · omega
theorem cutP_spec {n : Int} {F : Int → Int} (hn : 0 ≤ n) (hs : Srt n F) (lo hi : Int) : Srt (cutP n F lo hi).1 (cutP n F lo hi).2 ∧ (∀ y, Memb (cutP n F lo hi).1 (cutP n F lo hi).2 y ↔ Memb n F y ∧ (y < lo ∨ hi < y)) ∧ 0 ≤ (cutP n F lo hi).1 := by
  obtain ⟨h1, h2, h3⟩ := kpF_spec (outP lo hi) F hs n.toNat 0 0 (fun _ => 0) (by omega) (by omega) (by omega) (fun i j a b c => by omega) (fun y => ⟨fun ⟨j, a, b, c⟩ => by omega, fun ⟨⟨j, a, b, c⟩, d⟩ => by omega⟩)
  refine ⟨h1, fun y => (h2 y).trans ?_, h3⟩
  unfold outP
  simp only [Bool.or_eq_true, decide_eq_true_eq]
theorem loop6 {A B C D E F : Type} (I : A → B → C → D → E → F → Prop) (μ : A → B → C → D → E → F → Nat) (G : A → B → C → D → E → F → Prop) (step : ∀ a b c d e f, I a b c d e f → (∀ a' b' c' d' e' f', I a' b' c' d' e' f' → μ a' b' c' d' e' f' < μ a b c d e f → G a' b' c' d' e' f') → G a b c d e f) (a : A) (b : B) (c : C) (d : D) (e : E) (f : F) (h : I a b c d e f) : G a b c d e f :=
  loop5 (A := A) (B := B) (C := C) (D := D) (E := E × F) (fun p r t u q => I p r t u q.1 q.2) (fun p r t u q => μ p r t u q.1 q.2) (fun p r t u q => G p r t u q.1 q.2) (fun p r t u q h1 h2 => step p r t u q.1 q.2 h1 (fun a' b' c' d' e' f' h3 h4 => h2 a' b' c' d' (e', f') h3 h4)) a b c d (e, f) h
theorem loop7 {A B C D E F H : Type} (I : A → B → C → D → E → F → H → Prop) (μ : A → B → C → D → E → F → H → Nat) (G : A → B → C → D → E → F → H → Prop) (step : ∀ a b c d e f g, I a b c d e f g → (∀ a' b' c' d' e' f' g', I a' b' c' d' e' f' g' → μ a' b' c' d' e' f' g' < μ a b c d e f g → G a' b' c' d' e' f' g') → G a b c d e f g) (a : A) (b : B) (c : C) (d : D) (e : E) (f : F) (g : H) (h : I a b c d e f g) : G a b c d e f g :=
  loop6 (A := A) (B := B) (C := C) (D := D) (E := E) (F := F × H) (fun p r t u w q => I p r t u w q.1 q.2) (fun p r t u w q => μ p r t u w q.1 q.2) (fun p r t u w q => G p r t u w q.1 q.2) (fun p r t u w q h1 h2 => step p r t u w q.1 q.2 h1 (fun a' b' c' d' e' f' g' h3 h4 => h2 a' b' c' d' e' (f', g') h3 h4)) a b c d e (f, g) h
