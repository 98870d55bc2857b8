/-! loops, exact answers, rows of numbers -/
theorem loop1 {A : Type} (I : A → Prop) (μ : A → Nat) (G : A → Prop) (step : ∀ a, I a → (∀ a', I a' → μ a' < μ a → G a') → G a) (a : A) (h : I a) : G a := by
  have key : ∀ (n : Nat) (a : A), μ a < n → I a → G a := by
    intro n
    induction n with
    | zero => intro a h1; exact absurd h1 (Nat.not_lt_zero _)
    | succ n ih => intro a h1 h2; exact step a h2 (fun a' h3 h4 => ih a' (by omega) h3)
  exact key _ a (Nat.lt_succ_self _) h
theorem loop2 {A B : Type} (I : A → B → Prop) (μ : A → B → Nat) (G : A → B → Prop) (step : ∀ a b, I a b → (∀ a' b', I a' b' → μ a' b' < μ a b → G a' b') → G a b) (a : A) (b : B) (h : I a b) : G a b :=
  loop1 (A := A × B) (fun p => I p.1 p.2) (fun p => μ p.1 p.2) (fun p => G p.1 p.2) (fun p h1 h2 => step p.1 p.2 h1 (fun a' b' h3 h4 => h2 (a', b') h3 h4)) (a, b) h
theorem loop3 {A B C : Type} (I : A → B → C → Prop) (μ : A → B → C → Nat) (G : A → B → C → Prop) (step : ∀ a b c, I a b c → (∀ a' b' c', I a' b' c' → μ a' b' c' < μ a b c → G a' b' c') → G a b c) (a : A) (b : B) (c : C) (h : I a b c) : G a b c :=
  loop2 (A := A) (B := B × C) (fun p q => I p q.1 q.2) (fun p q => μ p q.1 q.2) (fun p q => G p q.1 q.2) (fun p q h1 h2 => step p q.1 q.2 h1 (fun a' b' c' h3 h4 => h2 a' (b', c') h3 h4)) a (b, c) h
theorem loop4 {A B C D : Type} (I : A → B → C → D → Prop) (μ : A → B → C → D → Nat) (G : A → B → C → D → Prop) (step : ∀ a b c d, I a b c d → (∀ a' b' c' d', I a' b' c' d' → μ a' b' c' d' < μ a b c d → G a' b' c' d') → G a b c d) (a : A) (b : B) (c : C) (d : D) (h : I a b c d) : G a b c d :=
  loop3 (A := A) (B := B) (C := C × D) (fun p r q => I p r q.1 q.2) (fun p r q => μ p r q.1 q.2) (fun p r q => G p r q.1 q.2) (fun p r q h1 h2 => step p r q.1 q.2 h1 (fun a' b' c' d' h3 h4 => h2 a' b' (c', d') h3 h4)) a b (c, d) h
theorem loop5 {A B C D E : Type} (I : A → B → C → D → E → Prop) (μ : A → B → C → D → E → Nat) (G : A → B → C → D → E → Prop) (step : ∀ a b c d e, I a b c d e → (∀ a' b' c' d' e', I a' b' c' d' e' → μ a' b' c' d' e' < μ a b c d e → G a' b' c' d' e') → G a b c d e) (a : A) (b : B) (c : C) (d : D) (e : E) (h : I a b c d e) : G a b c d e :=
  loop4 (A := A) (B := B) (C := C) (D := D × E) (fun p r t q => I p r t q.1 q.2) (fun p r t q => μ p r t q.1 q.2) (fun p r t q => G p r t q.1 q.2) (fun p r t q h1 h2 => step p r t q.1 q.2 h1 (fun a' b' c' d' e' h3 h4 => h2 a' b' c' (d', e') h3 h4)) a b c (d, e) h
/-- exact answers -/
def rtI (z : Int) (M : Mem) : Rs → Mem → Prop := fun r M' => r = .inl (some (vI z)) ∧ M' = M
def rtA (a : Nat) (M : Mem) : Rs → Mem → Prop := fun r M' => r = .inl (some (.ref a)) ∧ M' = M
def rtV (M : Mem) : Rs → Mem → Prop := fun r M' => r = .inl none ∧ M' = M
def rtL (z : Int64) (M : Mem) : Rs → Mem → Prop := fun r M' => r = .inl (some (.long z)) ∧ M' = M
def rtD (z : UInt64) (M : Mem) : Rs → Mem → Prop := fun r M' => r = .inl (some (.double z)) ∧ M' = M
/-- an answer, and what the memory is then -/
def atI (z : Int) (P : Mem → Prop) : Rs → Mem → Prop := fun r M' => r = .inl (some (vI z)) ∧ P M'
def atV (P : Mem → Prop) : Rs → Mem → Prop := fun r M' => r = .inl none ∧ P M'
def atL (z : Int64) (P : Mem → Prop) : Rs → Mem → Prop := fun r M' => r = .inl (some (.long z)) ∧ P M'
section KX
variable {κ : Kp} {bc bs : Nat} {Q : Rs → Mem → Prop} {pc : Nat} {L : Ls} {st : List Value} {M M' : Mem} {k n : Nat}
theorem kx_I {z : Int} (j : J κ bc bs Q pc L (vI z :: st) M' k n) : ∀ (v : Option Value) (M2 : Mem), rtI z M' (.inl v) M2 → J κ bc bs Q pc L (v.toList ++ st) M2 k n := by
  rintro v M2 ⟨h, rfl⟩; cases h; exact j
theorem kx_A {z : Nat} (j : J κ bc bs Q pc L (.ref z :: st) M' k n) : ∀ (v : Option Value) (M2 : Mem), rtA z M' (.inl v) M2 → J κ bc bs Q pc L (v.toList ++ st) M2 k n := by
  rintro v M2 ⟨h, rfl⟩; cases h; exact j
theorem kx_V (j : J κ bc bs Q pc L st M' k n) : ∀ (v : Option Value) (M2 : Mem), rtV M' (.inl v) M2 → J κ bc bs Q pc L (v.toList ++ st) M2 k n := by
  rintro v M2 ⟨h, rfl⟩; cases h; exact j
theorem kx_L {z : Int64} (j : J κ bc bs Q pc L (.long z :: st) M' k n) : ∀ (v : Option Value) (M2 : Mem), rtL z M' (.inl v) M2 → J κ bc bs Q pc L (v.toList ++ st) M2 k n := by
  rintro v M2 ⟨h, rfl⟩; cases h; exact j
theorem kx_D {z : UInt64} (j : J κ bc bs Q pc L (.double z :: st) M' k n) : ∀ (v : Option Value) (M2 : Mem), rtD z M' (.inl v) M2 → J κ bc bs Q pc L (v.toList ++ st) M2 k n := by
  rintro v M2 ⟨h, rfl⟩; cases h; exact j
theorem kx_tI {z : Int} {P : Mem → Prop} (j : ∀ M2 : Mem, P M2 → J κ bc bs Q pc L (vI z :: st) M2 k n) : ∀ (v : Option Value) (M2 : Mem), atI z P (.inl v) M2 → J κ bc bs Q pc L (v.toList ++ st) M2 k n := by
  rintro v M2 ⟨h, hP⟩; cases h; exact j M2 hP
theorem kx_tV {P : Mem → Prop} (j : ∀ M2 : Mem, P M2 → J κ bc bs Q pc L st M2 k n) : ∀ (v : Option Value) (M2 : Mem), atV P (.inl v) M2 → J κ bc bs Q pc L (v.toList ++ st) M2 k n := by
  rintro v M2 ⟨h, hP⟩; cases h; exact j M2 hP
theorem kx_tL {z : Int64} {P : Mem → Prop} (j : ∀ M2 : Mem, P M2 → J κ bc bs Q pc L (.long z :: st) M2 k n) : ∀ (v : Option Value) (M2 : Mem), atL z P (.inl v) M2 → J κ bc bs Q pc L (v.toList ++ st) M2 k n := by
  rintro v M2 ⟨h, hP⟩; cases h; exact j M2 hP
end KX
theorem nx_I {z : Int} {M' : Mem} {Q : Rs → Mem → Prop} : ∀ (E : String) (M2 : Mem), rtI z M' (.inr E) M2 → Q (.inr E) M2 := fun _ _ h => nomatch h.1
theorem nx_A {z : Nat} {M' : Mem} {Q : Rs → Mem → Prop} : ∀ (E : String) (M2 : Mem), rtA z M' (.inr E) M2 → Q (.inr E) M2 := fun _ _ h => nomatch h.1
theorem nx_V {M' : Mem} {Q : Rs → Mem → Prop} : ∀ (E : String) (M2 : Mem), rtV M' (.inr E) M2 → Q (.inr E) M2 := fun _ _ h => nomatch h.1
theorem nx_L {z : Int64} {M' : Mem} {Q : Rs → Mem → Prop} : ∀ (E : String) (M2 : Mem), rtL z M' (.inr E) M2 → Q (.inr E) M2 := fun _ _ h => nomatch h.1
theorem nx_D {z : UInt64} {M' : Mem} {Q : Rs → Mem → Prop} : ∀ (E : String) (M2 : Mem), rtD z M' (.inr E) M2 → Q (.inr E) M2 := fun _ _ h => nomatch h.1
theorem nx_tI {z : Int} {P : Mem → Prop} {Q : Rs → Mem → Prop} : ∀ (E : String) (M2 : Mem), atI z P (.inr E) M2 → Q (.inr E) M2 := fun _ _ h => nomatch h.1
theorem nx_tV {P : Mem → Prop} {Q : Rs → Mem → Prop} : ∀ (E : String) (M2 : Mem), atV P (.inr E) M2 → Q (.inr E) M2 := fun _ _ h => nomatch h.1
theorem nx_tL {z : Int64} {P : Mem → Prop} {Q : Rs → Mem → Prop} : ∀ (E : String) (M2 : Mem), atL z P (.inr E) M2 → Q (.inr E) M2 := fun _ _ h => nomatch h.1
theorem nn_I {z : Int} {M' : Mem} : ∀ (E : String) (M2 : Mem), ¬ rtI z M' (.inr E) M2 := fun _ _ h => nomatch h.1
theorem nn_V {M' : Mem} : ∀ (E : String) (M2 : Mem), ¬ rtV M' (.inr E) M2 := fun _ _ h => nomatch h.1
theorem nn_tV {P : Mem → Prop} : ∀ (E : String) (M2 : Mem), ¬ atV P (.inr E) M2 := fun _ _ h => nomatch h.1
theorem okI {z z' : Int} {M : Mem} (h : z' = z) : rtI z M (.inl (some (vI z'))) M := ⟨by rw [h], rfl⟩
theorem okA {z z' : Nat} {M : Mem} (h : z' = z) : rtA z M (.inl (some (.ref z'))) M := ⟨by rw [h], rfl⟩
theorem okVv {M : Mem} : rtV M (.inl none) M := ⟨rfl, rfl⟩
theorem okL {z z' : Int64} {M : Mem} (h : z' = z) : rtL z M (.inl (some (.long z'))) M := ⟨by rw [h], rfl⟩
theorem okD {z z' : UInt64} {M : Mem} (h : z' = z) : rtD z M (.inl (some (.double z'))) M := ⟨by rw [h], rfl⟩
theorem oktI {z z' : Int} {P : Mem → Prop} {M : Mem} (h : z' = z) (hP : P M) : atI z P (.inl (some (vI z'))) M := ⟨by rw [h], hP⟩
theorem oktV {P : Mem → Prop} {M : Mem} (hP : P M) : atV P (.inl none) M := ⟨rfl, hP⟩
theorem oktL {z z' : Int64} {P : Mem → Prop} {M : Mem} (h : z' = z) (hP : P M) : atL z P (.inl (some (.long z'))) M := ⟨by rw [h], hP⟩
theorem mx_max : Cond.code Lib.Math.max.name Lib.Math.max.code 2 (some .int) ∈ lw_g := lw_gin 533 (by decide +kernel) (by decide +kernel)
theorem r_max {κ : Kp} {bc bs : Nat} {Q : Rs → Mem → Prop} {pc : Nat} {L : Ls} {st : List Value} {M : Mem} {k n ix : Nat} {x y : Int} (hlk : Cond.methodLink (kY κ).cls ix (kY KM_max) ∈ lw_g) (hF : 1 ≤ kF κ) (hV : (st.map fun v => v.category).sum + 13 ≤ kV κ) (hk : k ≤ bc) (hn : n ≤ bs) (hx9 : R32 x) (hy9 : R32 y) (d : Dc κ pc (.invokestatic ix) 3) (kk : J κ bc bs Q (pc + 3) L (vI (if x < y then y else x) :: st) M k n) : J κ bc bs Q pc L (vI y :: vI x :: st) M k n := by
  intro p l e s m args below meth c H locs ls D B hc hB hZ hW hS hL
  obtain ⟨hx, hb, hr, hml, hown, hts, hlo, htab, hfl, hnm⟩ := id hc
  refine va_mmax (x := iN x) (y := iN y) hx hb (by rw [hml]; exact hL.1.symm) hown (hts _ hlk) (hts _ okM_max.2.2) (hts _ okM_max.2.1.2.1) (hts _ mx_max) hF hV hk hn d ?_
  have h9 := kk p l e s m args below meth c H locs ls D B hc hB hZ hW hS hL
  have e9 : (if iN x < iN y then iN y else iN x) = iN (if x < y then y else x) := by
    by_cases h : x < y
    · rw [if_pos h, if_pos ((iN_lt hx9 hy9).mpr h)]
    · rw [if_neg h, if_neg (fun h2 => h ((iN_lt hx9 hy9).mp h2))]
  rw [e9]
  exact h9
theorem mx_min : Cond.code Lib.Math.min.name Lib.Math.min.code 2 (some .int) ∈ lw_g := lw_gin 404 (by decide +kernel) (by decide +kernel)
theorem r_min {κ : Kp} {bc bs : Nat} {Q : Rs → Mem → Prop} {pc : Nat} {L : Ls} {st : List Value} {M : Mem} {k n ix : Nat} {x y : Int} (hlk : Cond.methodLink (kY κ).cls ix (kY KM_min) ∈ lw_g) (hF : 1 ≤ kF κ) (hV : (st.map fun v => v.category).sum + 13 ≤ kV κ) (hk : k ≤ bc) (hn : n ≤ bs) (hx9 : R32 x) (hy9 : R32 y) (d : Dc κ pc (.invokestatic ix) 3) (kk : J κ bc bs Q (pc + 3) L (vI (if y < x then y else x) :: st) M k n) : J κ bc bs Q pc L (vI y :: vI x :: st) M k n := by
  intro p l e s m args below meth c H locs ls D B hc hB hZ hW hS hL
  obtain ⟨hx, hb, hr, hml, hown, hts, hlo, htab, hfl, hnm⟩ := id hc
  refine va_mmin (x := iN x) (y := iN y) hx hb (by rw [hml]; exact hL.1.symm) hown (hts _ hlk) (hts _ okM_min.2.2) (hts _ okM_min.2.1.2.1) (hts _ mx_min) hF hV hk hn d ?_
  have h9 := kk p l e s m args below meth c H locs ls D B hc hB hZ hW hS hL
  have e9 : (if iN y < iN x then iN y else iN x) = iN (if y < x then y else x) := by
    by_cases h : y < x
    · rw [if_pos h, if_pos ((iN_lt hy9 hx9).mpr h)]
    · rw [if_neg h, if_neg (fun h2 => h ((iN_lt hy9 hx9).mp h2))]
  rw [e9]
  exact h9
theorem e_ireturn {κ : Kp} {bc bs : Nat} {Q : Rs → Mem → Prop} {pc : Nat} {L : Ls} {M : Mem} {k n : Nat} {z : Int} (d : Dc κ pc .ireturn 1) (hR9 : kR κ = some .int) (hk : k ≤ bc) (hn : n ≤ bs) (hQ : Q (.inl (some (vI z))) M) : J κ bc bs Q pc L ([vI z]) M k n := r_ireturn (st := []) d hR9 hk hn hQ
theorem e_zreturn {κ : Kp} {bc bs : Nat} {Q : Rs → Mem → Prop} {pc : Nat} {L : Ls} {M : Mem} {k n : Nat} {z : Int} (d : Dc κ pc .ireturn 1) (hR9 : kR κ = some .boolean) (hz : z = 0 ∨ z = 1) (hk : k ≤ bc) (hn : n ≤ bs) (hQ : Q (.inl (some (vI z))) M) : J κ bc bs Q pc L ([vI z]) M k n := r_zreturn (st := []) d hR9 hz hk hn hQ
theorem e_lreturn {κ : Kp} {bc bs : Nat} {Q : Rs → Mem → Prop} {pc : Nat} {L : Ls} {M : Mem} {k n : Nat} {z : Int64} (d : Dc κ pc .lreturn 1) (hR9 : kR κ = some .long) (hk : k ≤ bc) (hn : n ≤ bs) (hQ : Q (.inl (some (.long z))) M) : J κ bc bs Q pc L ([.long z]) M k n := r_lreturn (st := []) d hR9 hk hn hQ
theorem e_dreturn {κ : Kp} {bc bs : Nat} {Q : Rs → Mem → Prop} {pc : Nat} {L : Ls} {M : Mem} {k n : Nat} {z : UInt64} (d : Dc κ pc .dreturn 1) (hR9 : kR κ = some .double) (hk : k ≤ bc) (hn : n ≤ bs) (hQ : Q (.inl (some (.double z))) M) : J κ bc bs Q pc L ([.double z]) M k n := r_dreturn (st := []) d hR9 hk hn hQ
theorem e_areturn {κ : Kp} {bc bs : Nat} {Q : Rs → Mem → Prop} {pc : Nat} {L : Ls} {M : Mem} {k n : Nat} {z : Nat} (d : Dc κ pc .areturn 1) {rt : FieldType} (hR9 : kR κ = some rt) (hrt : (∃ n, rt = .object n) ∨ ∃ t, rt = .array t) (hk : k ≤ bc) (hn : n ≤ bs) (hQ : Q (.inl (some (.ref z))) M) : J κ bc bs Q pc L ([.ref z]) M k n := r_areturn (st := []) d hR9 hrt hk hn hQ
theorem e_areturnN {κ : Kp} {bc bs : Nat} {Q : Rs → Mem → Prop} {pc : Nat} {L : Ls} {M : Mem} {k n : Nat}  (d : Dc κ pc .areturn 1) {rt : FieldType} (hR9 : kR κ = some rt) (hrt : (∃ n, rt = .object n) ∨ ∃ t, rt = .array t) (hk : k ≤ bc) (hn : n ≤ bs) (hQ : Q (.inl (some .null)) M) : J κ bc bs Q pc L ([.null]) M k n := r_areturnN (st := []) d hR9 hrt hk hn hQ
theorem e_return {κ : Kp} {bc bs : Nat} {Q : Rs → Mem → Prop} {pc : Nat} {L : Ls} {M : Mem} {k n : Nat}  (d : Dc κ pc .return_ 1) (hR9 : kR κ = none) (hk : k ≤ bc) (hn : n ≤ bs) (hQ : Q (.inl (none)) M) : J κ bc bs Q pc L ([]) M k n := r_return (st := []) d hR9 hk hn hQ
/-- a contract says more than another -/
theorem Ct.mono {κ : Kp} {As : List Value} {M : Mem} {bc bs : Nat} {Q Q' : Rs → Mem → Prop} (h : Ct κ As M bc bs Q) (hQ : ∀ r M', Q r M' → Q' r M') : Ct κ As M bc bs Q' := by
  intro l D B hfl p e h1 h2 h3 s m args below h4 h5 h6 h7
  obtain ⟨n, o, g1, g2, g3, g4⟩ := h l D B hfl p e h1 h2 h3 s m args below h4 h5 h6 h7
  refine ⟨n, o, g1, g2, g3, ?_⟩
  rcases g4 with ⟨⟨⟨v, M', a1, a2, a3⟩, a4⟩, a5⟩ | ⟨q, a0, E, ce, L, ⟨M', a1, a2⟩, a3⟩
  · exact Or.inl ⟨⟨⟨v, M', a1, hQ _ _ a2, a3⟩, a4⟩, a5⟩
  · exact Or.inr ⟨q, a0, E, ce, L, ⟨M', hQ _ _ a1, a2⟩, a3⟩
/-- less of a memory is enough -/
theorem Ct.mem {κ : Kp} {As : List Value} {M M' : Mem} {bc bs : Nat} {Q : Rs → Mem → Prop} (hM : ∀ (a : Nat) (x : AC), M' a = some x → M a = some x) (h : Ct κ As M' bc bs Q) : Ct κ As M bc bs Q := by
  intro l D B hfl p e h1 h2 h3 s m args below h4 h5 h6 h7
  obtain ⟨q1, q2, q3, q4⟩ := h6
  exact h l D B hfl p e h1 h2 h3 s m args below h4 h5 ⟨q1, q2, q3, q4.less hM⟩ h7
/-! the rows of numbers: what is read off an array and a count -/
def bI (b : Bool) : Int := if b = true then 1 else 0
theorem bI_01 (b : Bool) : bI b = 0 ∨ bI b = 1 := by cases b <;> simp [bI]
theorem bI_r (b : Bool) : 0 ≤ bI b ∧ bI b ≤ 1 := by cases b <;> simp [bI]
def atF (n : Int) (F : Int → Int) (p : Int) : Int := if 0 ≤ p ∧ p < n then F p else -1
theorem atF_in {n p : Int} {F : Int → Int} (h0 : 0 ≤ p) (h1 : p < n) : atF n F p = F p := by unfold atF; rw [if_pos ⟨h0, h1⟩]
theorem atF_out {n p : Int} {F : Int → Int} (h : p < 0 ∨ n ≤ p) : atF n F p = -1 := by unfold atF; rw [if_neg (by omega)]
def gapF (n : Int) (F : Int → Int) (p : Int) : Int := if 0 < p ∧ p < n then F p - F (p - 1) else 0
theorem gapF_in {n p : Int} {F : Int → Int} (h0 : 0 < p) (h1 : p < n) : gapF n F p = F p - F (p - 1) := by unfold gapF; rw [if_pos ⟨h0, h1⟩]
theorem gapF_out {n p : Int} {F : Int → Int} (h : p ≤ 0 ∨ n ≤ p) : gapF n F p = 0 := by unfold gapF; rw [if_neg (by omega)]
/-- the first place from i on, of k, that is so; else the one behind them -/
def ff (P : Int → Bool) : Nat → Int → Int
  | 0, i => i
  | k + 1, i => if P i = true then i else ff P k (i + 1)
theorem ff_spec (P : Int → Bool) : ∀ (k : Nat) (i : Int), i ≤ ff P k i ∧ ff P k i ≤ i + k ∧ (∀ j, i ≤ j → j < ff P k i → P j = false) ∧ (ff P k i < i + k → P (ff P k i) = true)
  | 0, i => by simp only [ff]; exact ⟨by omega, by omega, fun j h1 h2 => by omega, fun h => by omega⟩
  | k + 1, i => by
    unfold ff
    by_cases h : P i = true
    · rw [if_pos h]; exact ⟨by omega, by omega, fun j h1 h2 => by omega, fun _ => h⟩
    · rw [if_neg h]
      obtain ⟨h1, h2, h3, h4⟩ := ff_spec P k (i + 1)
      refine ⟨by omega, by omega, fun j g1 g2 => ?_, fun g => h4 (by omega)⟩
      by_cases e : j = i
      · rw [e]; simpa using h
      · exact h3 j (by omega) g2
theorem ff_unique {P : Int → Bool} {k : Nat} {i r : Int} (h1 : i ≤ r) (h2 : r ≤ i + k) (h3 : ∀ j, i ≤ j → j < r → P j = false) (h4 : r < i + k → P r = true) : ff P k i = r := by
  obtain ⟨g1, g2, g3, g4⟩ := ff_spec P k i
  by_cases a : ff P k i < r
  · have := h3 _ g1 a; rw [g4 (by omega)] at this; cases this
  · by_cases b : r < ff P k i
    · have := g3 r h1 b; rw [h4 (by omega)] at this; cases this
    · omega
/-- how many of a row are less: where a number is, or would be -/
def plc (n : Int) (F : Int → Int) (x : Int) : Int := ff (fun i => decide (x ≤ F i)) n.toNat 0
theorem plc_spec {n : Int} (hn : 0 ≤ n) (F : Int → Int) (x : Int) : 0 ≤ plc n F x ∧ plc n F x ≤ n ∧ (∀ j, 0 ≤ j → j < plc n F x → F j < x) ∧ (plc n F x < n → x ≤ F (plc n F x)) := by
  obtain ⟨g1, g2, g3, g4⟩ := ff_spec (fun i => decide (x ≤ F i)) n.toNat 0
  refine ⟨g1, by unfold plc; omega, fun j h1 h2 => ?_, fun h => ?_⟩
  · have := of_decide_eq_false (g3 j h1 h2); omega
  · exact of_decide_eq_true (g4 (by unfold plc at h; omega))
def hasF (n : Int) (F : Int → Int) (x : Int) : Bool := decide (plc n F x < n) && decide (F (plc n F x) = x)
/-- a Members object and its row -/
def Mb (M : Mem) (o a N : Nat) (n : Int) (F : Int → Int) : Prop :=
  M o = some (oC 5 [.ref a, vI n]) ∧ (∃ f : Int → Int, M a = some (aI N f) ∧ ∀ i, 0 ≤ i → i < n → f i = F i) ∧ 0 ≤ n ∧ n ≤ N ∧ N ≤ 300 ∧ ∀ i, 0 ≤ i → i < n → 0 ≤ F i ∧ F i ≤ 9999
theorem Mb.n0 {M : Mem} {o a N : Nat} {n : Int} {F : Int → Int} (h : Mb M o a N n F) : 0 ≤ n ∧ n ≤ 300 := ⟨h.2.2.1, by have := h.2.2.2.1; have := h.2.2.2.2.1; omega⟩
theorem Mb.at {M : Mem} {o a N : Nat} {n : Int} {F : Int → Int} (h : Mb M o a N n F) (p : Int) : -1 ≤ atF n F p ∧ atF n F p ≤ 9999 := by
  unfold atF
  split
  · next q => have := h.2.2.2.2.2 p q.1 q.2; omega
  · omega
theorem Mb.gap {M : Mem} {o a N : Nat} {n : Int} {F : Int → Int} (h : Mb M o a N n F) (p : Int) : -9999 ≤ gapF n F p ∧ gapF n F p ≤ 9999 := by
  unfold gapF
  split
  · next q => have := h.2.2.2.2.2 p (by omega) q.2; have := h.2.2.2.2.2 (p - 1) (by omega) (by omega); omega
  · omega
/-- a block begins at p, with c members in the one ahead -/
def beg (n : Int) (F : Int → Int) (most width p c : Int) : Bool := decide (p = 0) || decide (most ≤ c) || decide (width < gapF n F p)
def gby (g : Int) : Int := if g < 128 then 1 else 2
theorem gby_r (g : Int) : 1 ≤ gby g ∧ gby g ≤ 2 := by unfold gby; split <;> omega
/-- the bytes of the places from p on, of k, with c members in the block so far -/
def byF (n : Int) (F : Int → Int) (most width : Int) : Nat → Int → Int → Int
  | 0, _, _ => 0
  | k + 1, p, c => if beg n F most width p c = true then 3 + byF n F most width k (p + 1) 1 else gby (gapF n F p) + byF n F most width k (p + 1) (c + 1)
theorem byF_r (n : Int) (F : Int → Int) (most width : Int) : ∀ (k : Nat) (p c : Int), 0 ≤ byF n F most width k p c ∧ byF n F most width k p c ≤ 3 * k
  | 0, p, c => by simp [byF]
  | k + 1, p, c => by
    unfold byF
    split
    · have := byF_r n F most width k (p + 1) 1; omega
    · have := byF_r n F most width k (p + 1) (c + 1); have := gby_r (gapF n F p); omega
/-- the longest row of numbers that follow one another: r so far, the best b -/
def lrF (n : Int) (F : Int → Int) : Nat → Int → Int → Int → Int
  | 0, _, _, b => b
  | k + 1, p, r, b => let r' := if p > 0 ∧ gapF n F p = 1 then r + 1 else 1; lrF n F k (p + 1) r' (if b < r' then r' else b)
theorem bI_t {b : Bool} (h : ¬ bI b = 0) : b = true := by cases b <;> simp [bI] at h ⊢
theorem bI_f {b : Bool} (h : bI b = 0) : ¬ b = true := by cases b <;> simp [bI] at h ⊢
/-- the member nearest to x -/
def nrF (n : Int) (F : Int → Int) (x : Int) : Int :=
  let p := plc n F x
  if p = 0 then atF n F 0 else if n ≤ p then atF n F (n - 1) else if x - F (p - 1) ≤ F p - x then F (p - 1) else F p
def allF (P : Int → Bool) : Nat → Int → Bool
  | 0, _ => true
  | k + 1, i => P i && allF P k (i + 1)
def likeF (n : Int) (F : Int → Int) (n2 : Int) (F2 : Int → Int) : Bool := decide (n = n2) && allF (fun i => decide (F i = F2 i)) n.toNat 0
theorem Mb.ne {M : Mem} {o a N : Nat} {n : Int} {F : Int → Int} (h : Mb M o a N n F) : a ≠ o := by
  intro e
  obtain ⟨h1, ⟨f, h2, -⟩, -⟩ := h
  rw [e, h1] at h2
  cases h2
/-- nothing but o and a has changed -/
def Fr2 (o a : Nat) (M M' : Mem) : Prop := ∀ q, q ≠ o → q ≠ a → M' q = M q
theorem Fr2.rf {o a : Nat} {M : Mem} : Fr2 o a M M := fun _ _ _ => rfl
theorem Fr2.up1 {o a : Nat} {M M' : Mem} {x : AC} (h : Fr2 o a M M') : Fr2 o a M (up M' o x) := fun q h1 h2 => by rw [up_n _ h1]; exact h q h1 h2
theorem Fr2.up2 {o a : Nat} {M M' : Mem} {x : AC} (h : Fr2 o a M M') : Fr2 o a M (up M' a x) := fun q h1 h2 => by rw [up_n _ h2]; exact h q h1 h2
theorem uI_s {α : Type} (f : Int → α) (i : Int) (x : α) : uI f i x i = x := by simp [uI]
theorem uI_n {α : Type} {f : Int → α} {i j : Int} (x : α) (h : j ≠ i) : uI f i x j = f j := by simp [uI, h]
def insF (F : Int → Int) (p x : Int) : Int → Int := fun i => if i < p then F i else if i = p then x else F (i - 1)
def putOk (N : Nat) (n : Int) (F : Int → Int) (x : Int) : Bool := !hasF n F x && decide (n < N)
def putN (N : Nat) (n : Int) (F : Int → Int) (x : Int) : Int := if putOk N n F x = true then n + 1 else n
def putF (N : Nat) (n : Int) (F : Int → Int) (x : Int) : Int → Int := if putOk N n F x = true then insF F (plc n F x) x else F
theorem insF_r {n p x : Int} {F : Int → Int} (h0 : 0 ≤ p) (h1 : p ≤ n) (hx : 0 ≤ x ∧ x ≤ 9999) (hb : ∀ i, 0 ≤ i → i < n → 0 ≤ F i ∧ F i ≤ 9999) : ∀ i, 0 ≤ i → i < n + 1 → 0 ≤ insF F p x i ∧ insF F p x i ≤ 9999 := by
  intro i h2 h3
  unfold insF
  split
  · exact hb i h2 (by omega)
  · split
    · exact hx
    · exact hb (i - 1) (by omega) (by omega)
/-- the row of those that stay, as a loop lays it: how many, and which -/
def kpF (P : Int → Bool) (F : Int → Int) : Nat → Int → Int → (Int → Int) → Int × (Int → Int)
  | 0, _, r, G => (r, G)
  | k + 1, i, r, G => if P (F i) = true then kpF P F k (i + 1) (r + 1) (uI G r (F i)) else kpF P F k (i + 1) r G
def outP (lo hi : Int) : Int → Bool := fun v => decide (v < lo) || decide (hi < v)
def cutP (n : Int) (F : Int → Int) (lo hi : Int) : Int × (Int → Int) := kpF (outP lo hi) F n.toNat 0 0 (fun _ => 0)
theorem kpF_r (P : Int → Bool) (F : Int → Int) (S : Int → Prop) : ∀ (k : Nat) (i r : Int) (G : Int → Int), 0 ≤ r → (∀ j, 0 ≤ j → j < r → S (G j)) → (∀ j, i ≤ j → j < i + k → S (F j)) → r ≤ (kpF P F k i r G).1 ∧ (kpF P F k i r G).1 ≤ r + k ∧ ∀ j, 0 ≤ j → j < (kpF P F k i r G).1 → S ((kpF P F k i r G).2 j)
  | 0, i, r, G, h0, h1, h2 => by
    unfold kpF
    exact ⟨Int.le_refl _, by omega, fun j a b => h1 j a b⟩
  | k + 1, i, r, G, h0, h1, h2 => by
    unfold kpF
    split
    · obtain ⟨g1, g2, g3⟩ := kpF_r P F S k (i + 1) (r + 1) (uI G r (F i)) (by omega) (fun j a b => by
        by_cases e : j = r
        · rw [e, uI_s]; exact h2 i (by omega) (by omega)
        · rw [uI_n _ e]; exact h1 j a (by omega)) (fun j a b => h2 j (by omega) (by omega))
      exact ⟨by omega, by omega, g3⟩
    · obtain ⟨g1, g2, g3⟩ := kpF_r P F S k (i + 1) r G h0 h1 (fun j a b => h2 j (by omega) (by omega))
      exact ⟨by omega, by omega, g3⟩
theorem cutP_r {n : Int} {F : Int → Int} (lo hi : Int) (hn : 0 ≤ n) (hb : ∀ i, 0 ≤ i → i < n → 0 ≤ F i ∧ F i ≤ 9999) : 0 ≤ (cutP n F lo hi).1 ∧ (cutP n F lo hi).1 ≤ n ∧ ∀ j, 0 ≤ j → j < (cutP n F lo hi).1 → 0 ≤ (cutP n F lo hi).2 j ∧ (cutP n F lo hi).2 j ≤ 9999 := by
  obtain ⟨h1, h2, h3⟩ := kpF_r (outP lo hi) F (fun v => 0 ≤ v ∧ v ≤ 9999) n.toNat 0 0 (fun _ => 0) (by omega) (fun j a b => by omega) (fun j a b => hb j (by omega) (by omega))
  exact ⟨h1, by unfold cutP; omega, h3⟩
