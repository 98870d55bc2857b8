/-! J's rows for memory, calls and ends -/
/-- class ci of vwCl, and what the tables say of its fields -/
def Cl (ci : Nat) (C : String) (T : u_T) (N : Nat) (ty : Nat → FieldType) : Prop :=
  vwCl[ci]? = some (C, T, N) ∧ (∀ w ∈ u_ws C T N, w ∈ lw_g) ∧ (∀ j, j < N → parseFieldDescriptor (T j).2.2.1 = some (ty j)) ∧ (∀ a, a < N → ∀ b, b < N → a ≠ b → (T a).2.1 ≠ (T b).2.1)
/-- the world behind a write at place q0 of ws -/
theorem Rl.set {ws : va_W} {tys : List (ClassId × FieldType)} {s : State} {H H1 : Heap} {B : Nat} {M : Mem} {q0 a : Nat} {e0 e : va_E} {x : AC} (hD : va_D (fun q => B ≤ q) ws) (h0 : ws[q0]? = some (a, e0)) (hx : ws.length = ws.length → Rl (ws.set q0 (a, e)) tys s H1 B a x) (hH : ∀ q, q < B → H1[q]? = H[q]?)
    (hR : ∀ (b : Nat) (y : AC), M b = some y → Rl ws tys s H B b y) : ∀ (b : Nat) (y : AC), up M a x b = some y → Rl (ws.set q0 (a, e)) tys s H1 B b y := by
  intro b y hb
  unfold up at hb
  by_cases hba : b = a
  · rw [if_pos hba] at hb
    cases hb
    rw [hba]
    exact hx rfl
  · rw [if_neg hba] at hb
    have h1 := hR b y hb
    have key : ∀ (k : Nat) (z : va_E), ws[k]? = some (b, z) → (ws.set q0 (a, e))[k]? = some (b, z) := by
      intro k z hk
      have hne : q0 ≠ k := by
        intro h
        subst h
        rw [h0] at hk
        cases hk
        exact hba rfl
      rw [List.getElem?_set_ne hne]
      exact hk
    match y, h1 with
    | .inl _, ⟨k, hk⟩ => exact ⟨k, key _ _ hk⟩
    | .inr (.inl _), ⟨k, t0, cA, hk, ht⟩ => exact ⟨k, t0, cA, key _ _ hk, ht⟩
    | .inr (.inr (.inl _)), ⟨k, t0, cA, hk, ht⟩ => exact ⟨k, t0, cA, key _ _ hk, ht⟩
    | .inr (.inr (.inr (.inl _))), ⟨k, t0, cA, r, hk, ht⟩ => exact ⟨k, t0, cA, r, key _ _ hk, ht⟩
    | .inr (.inr (.inr (.inr (n, f)))), h => exact ⟨h.1.kept (hH b h.2), h.2⟩
theorem set_self {ws : va_W} {q0 : Nat} {p e : Nat × va_E} (h : ws[q0]? = some p) : (ws.set q0 e)[q0]? = some e := List.getElem?_set_self (List.getElem?_eq_some_iff.mp h).1
theorem low_eq {B : Nat} {H0 H H1 : Heap} {l1 l2 : List Loc} (hB : B ≤ H0.size) (h1 : va_S (fun q => B ≤ q) H0 H l1) (h2 : va_S (fun q => B ≤ q) H0 H1 l2) : ∀ q, q < B → H1[q]? = H[q]? := fun q hq => by
  rw [h1.2.1 q (by omega) (by omega), h2.2.1 q (by omega) (by omega)]
/-- the world with a new thing -/
theorem Rl.push {ws : va_W} {tys tys' : List (ClassId × FieldType)} {s : State} {H H1 : Heap} {B : Nat} {M : Mem} {a : Nat} {e : va_E} {x : AC} (hx : Rl (ws ++ [(a, e)]) (tys ++ tys') s H1 B a x) (hH : ∀ q, q < B → H1[q]? = H[q]?)
    (hR : ∀ (b : Nat) (y : AC), M b = some y → Rl ws tys s H B b y) : ∀ (b : Nat) (y : AC), up M a x b = some y → Rl (ws ++ [(a, e)]) (tys ++ tys') s H1 B b y := by
  intro b y hb
  unfold up at hb
  by_cases hba : b = a
  · rw [if_pos hba] at hb
    cases hb
    rw [hba]
    exact hx
  · rw [if_neg hba] at hb
    have h1 := hR b y hb
    have key : ∀ (k : Nat) (z : Nat × va_E), ws[k]? = some z → (ws ++ [(a, e)])[k]? = some z := by
      intro k z hk
      rw [List.getElem?_append_left (List.getElem?_eq_some_iff.mp hk).1]
      exact hk
    have key2 : ∀ (k : Nat) (z : ClassId × FieldType), tys[k]? = some z → (tys ++ tys')[k]? = some z := by
      intro k z hk
      rw [List.getElem?_append_left (List.getElem?_eq_some_iff.mp hk).1]
      exact hk
    match y, h1 with
    | .inl _, ⟨k, hk⟩ => exact ⟨k, key _ _ hk⟩
    | .inr (.inl _), ⟨k, t0, cA, hk, ht⟩ => exact ⟨k, t0, cA, key _ _ hk, key2 _ _ ht⟩
    | .inr (.inr (.inl _)), ⟨k, t0, cA, hk, ht⟩ => exact ⟨k, t0, cA, key _ _ hk, key2 _ _ ht⟩
    | .inr (.inr (.inr (.inl _))), ⟨k, t0, cA, r, hk, ht, hr⟩ => exact ⟨k, t0, cA, r, key _ _ hk, key2 _ _ ht, hr⟩
    | .inr (.inr (.inr (.inr (n, f)))), h => exact ⟨h.1.kept (hH b h.2), h.2⟩
theorem app_last {α : Type} {ws : List α} {e : α} : (ws ++ [e])[ws.length]? = some e := by rw [List.getElem?_append_right (Nat.le_refl _), Nat.sub_self]; rfl
/-- nothing of the memory lies where a new thing comes -/
theorem Rl.fresh {ws : va_W} {tys : List (ClassId × FieldType)} {s : State} {H : Heap} {B : Nat} {M : Mem} {q : Nat} {e : va_E} (hD : va_D (fun q => B ≤ q) (ws ++ [(q, e)])) (hR : ∀ (b : Nat) (y : AC), M b = some y → Rl ws tys s H B b y) : M q = none := by
  cases hM : M q with
  | none => rfl
  | some x =>
    have h := hR q x hM
    have key : ∀ (k : Nat) (z : va_E), ws[k]? = some (q, z) → False := fun k z hk => by
      have hl := (List.getElem?_eq_some_iff.mp hk).1
      have h1 : (ws ++ [(q, e)])[k]? = some (q, z) := by rw [List.getElem?_append_left hl]; exact hk
      have := hD.1 k ws.length (q, z) (q, e) h1 app_last rfl
      omega
    match x, h with
    | .inl _, ⟨k, hk⟩ => exact (key _ _ hk).elim
    | .inr (.inl _), ⟨k, t0, cA, hk, ht⟩ => exact (key _ _ hk).elim
    | .inr (.inr (.inl _)), ⟨k, t0, cA, hk, ht⟩ => exact (key _ _ hk).elim
    | .inr (.inr (.inr (.inl _))), ⟨k, t0, cA, r, hk, ht, hr⟩ => exact (key _ _ hk).elim
    | .inr (.inr (.inr (.inr (n, f)))), h =>
      have h1 : B ≤ q := hD.2 ws.length (q, e) app_last
      have h2 : q < B := h.2
      exact absurd h2 (by omega)

theorem r_getfield {κ : Kp} {bc bs : Nat} {Q : Rs → Mem → Prop} {pc : Nat} {L : Ls} {st : List Value} {M : Mem} {k n : Nat} {a ci ix N : Nat} {C : String} {T : u_T} {ty : Nat → FieldType} {fs : List Value} {v : Value} (cl : Cl ci C T N ty) (j : Nat) (hj : j < N) (hl : Cond.fieldLink (kY κ).cls ix (T j).1 (T j).2.1 (T j).2.2.1 ∈ lw_g) (hM : M a = some (oC ci fs)) (hv : fs[j]? = some v) (d : Dc κ pc (.getfield ix) 3) (kk : J κ bc bs Q (pc + 3) L (v :: st) M (k) (n)) : J κ bc bs Q (pc) L (.ref a :: st) M (k) (n) := by
  intro p l e s m args below meth c H locs ls D B hc hB hZ hW hS hL
  obtain ⟨hx, hb, hr, hml, hown, hts, hlo, htab, hfl, hnm⟩ := id hc
  obtain ⟨ws, tys, hP, hK, hD, hR⟩ := id hW
  obtain ⟨q0, hq⟩ := hR a _ hM
  exact va_get (D := D) (cl := vwCl) hx hb hts cl.2.1 hown hK hP q0 hq cl.1 j hj (hts _ hl) (fun _ h9 => h9) hv d (kk p l e s m args below meth c H locs ls D B hc hB hZ hW hS hL)

theorem r_putfield {κ : Kp} {bc bs : Nat} {Q : Rs → Mem → Prop} {pc : Nat} {L : Ls} {st : List Value} {M : Mem} {k n : Nat} {a ci ix N : Nat} {C : String} {T : u_T} {ty : Nat → FieldType} {fs : List Value} {v : Value} (cl : Cl ci C T N ty) (j : Nat) (hj : j < N) (hl : Cond.fieldLink (kY κ).cls ix (T j).1 (T j).2.1 (T j).2.2.1 ∈ lw_g) (hF : (T j).2.2.2 = false) (hM : M a = some (oC ci fs)) (hn : narrow (ty j) v = v) (hf : fits (ty j) v = true) (hlen : j < fs.length) (d : Dc κ pc (.putfield ix) 3) (kk : J κ bc bs Q (pc + 3) L (st) (up M a (oC ci (fs.set j v))) (k) (n)) : J κ bc bs Q (pc) L (v :: .ref a :: st) M (k) (n) := by
  intro p l e s m args below meth c H locs ls D B hc hB hZ hW hS hL
  obtain ⟨hx, hb, hr, hml, hown, hts, hlo, htab, hfl, hnm⟩ := id hc
  obtain ⟨ws, tys, hP, hK, hD, hR⟩ := id hW
  obtain ⟨q0, hq⟩ := hR a _ hM
  refine va_put (D := D) (cl := vwCl) hx hb hts cl.2.1 ty cl.2.2.1 cl.2.2.2 hown hK hP hD hS q0 hq cl.1 j hj (hts _ hl) (fun _ h9 => h9) hF (cl.2.2.1 j hj) hn hf hlen d (fun H1 locs1 hP1 hD1 hS1 => ?_)
  exact kk p l e s m args below meth c H1 locs1 ls D B hc hB hZ ⟨_, _, hP1, hK, hD1, Rl.set hD hq (fun _ => ⟨q0, set_self hq⟩) (low_eq hB hS hS1) hR⟩ hS1 hL

theorem r_putfieldF {κ : Kp} {bc bs : Nat} {Q : Rs → Mem → Prop} {pc : Nat} {L : Ls} {st : List Value} {M : Mem} {k n : Nat} {a ci ix N : Nat} {C : String} {T : u_T} {ty : Nat → FieldType} {fs : List Value} {v : Value} (cl : Cl ci C T N ty) (j : Nat) (hj : j < N) (hl : Cond.fieldLink (kY κ).cls ix (T j).1 (T j).2.1 (T j).2.2.1 ∈ lw_g) (hF : (T j).2.2.2 = true) (hI : (kY κ).name = "<init>") (hdF : (T j).1 = (kY κ).cls) (hM : M a = some (oC ci fs)) (hn : narrow (ty j) v = v) (hf : fits (ty j) v = true) (hlen : j < fs.length) (d : Dc κ pc (.putfield ix) 3) (kk : J κ bc bs Q (pc + 3) L (st) (up M a (oC ci (fs.set j v))) (k) (n)) : J κ bc bs Q (pc) L (v :: .ref a :: st) M (k) (n) := by
  intro p l e s m args below meth c H locs ls D B hc hB hZ hW hS hL
  obtain ⟨hx, hb, hr, hml, hown, hts, hlo, htab, hfl, hnm⟩ := id hc
  obtain ⟨ws, tys, hP, hK, hD, hR⟩ := id hW
  obtain ⟨q0, hq⟩ := hR a _ hM
  refine va_putF (D := D) (cl := vwCl) hx hb hts cl.2.1 ty cl.2.2.1 cl.2.2.2 hown hK hP hD hS q0 hq cl.1 j hj (hts _ hl) (fun _ h9 => h9) hF (hnm.trans hI) hdF (cl.2.2.1 j hj) hn hf hlen d (fun H1 locs1 hP1 hD1 hS1 => ?_)
  exact kk p l e s m args below meth c H1 locs1 ls D B hc hB hZ ⟨_, _, hP1, hK, hD1, Rl.set hD hq (fun _ => ⟨q0, set_self hq⟩) (low_eq hB hS hS1) hR⟩ hS1 hL

theorem r_iaload {κ : Kp} {bc bs : Nat} {Q : Rs → Mem → Prop} {pc : Nat} {L : Ls} {st : List Value} {M : Mem} {k n : Nat} {a N : Nat} {f : Int → Int} {i : Int} (hM : M a = some (aI N f)) (h0 : 0 ≤ i) (h1 : i < N) (h2 : R32 i) (d : Dc κ pc .iaload 1) (kk : J κ bc bs Q (pc + 1) L (vI (f i) :: st) M (k) (n)) : J κ bc bs Q (pc) L (vI i :: .ref a :: st) M (k) (n) := by
  intro p l e s m args below meth c H locs ls D B hc hB hZ hW hS hL
  obtain ⟨hx, hb, hr, hml, hown, hts, hlo, htab, hfl, hnm⟩ := id hc
  obtain ⟨ws, tys, hP, hK, hD, hR⟩ := id hW
  obtain ⟨q0, t0, cA, hq, ht⟩ := hR a _ hM
  refine va_iald (D := D) (cl := vwCl) (i := iN i) hx hb hK hP q0 t0 hq ht (iN_in h0 h1 h2) d ?_
  rw [iN_clamp h2, Int.toNat_of_nonneg h0]
  exact kk p l e s m args below meth c H locs ls D B hc hB hZ hW hS hL

theorem r_ialoadS {κ : Kp} {bc bs : Nat} {Q : Rs → Mem → Prop} {pc : Nat} {L : Ls} {st : List Value} {M : Mem} {k n : Nat} {a N : Nat} {f : Int → Int} {i : Int} (hM : M a = some (aS N f)) (h0 : 0 ≤ i) (h1 : i < N) (h2 : R32 i) (d : Dc κ pc .iaload 1) (kk : J κ bc bs Q (pc + 1) L (vI (f i) :: st) M (k) (n)) : J κ bc bs Q (pc) L (vI i :: .ref a :: st) M (k) (n) := by
  intro p l e s m args below meth c H locs ls D B hc hB hZ hW hS hL
  obtain ⟨hx, hb, hr, hml, hown, hts, hlo, htab, hfl, hnm⟩ := id hc
  obtain ⟨ws, tys, hP, hK, hD, hR⟩ := id hW
  obtain ⟨⟨scr, g1, g2, g3, g4, g5⟩, -⟩ := hR a _ hM
  have hi2 := iN_in h0 h1 h2
  have g6 : scr.slots[i.toNat]? = some (vI (f i)) := by
    have g7 := g5 i.toNat (by omega)
    dsimp only at g7
    rw [Int.toNat_of_nonneg h0] at g7
    exact g7
  refine W.iald hx hb (j := iN i) g1 g2 g3 (by rw [g4]; exact hi2) (by rw [iN_clamp h2]; exact g6) rfl rfl d ?_
  exact kk p l e s m args below meth c H locs ls D B hc hB hZ hW hS hL

theorem r_iastore {κ : Kp} {bc bs : Nat} {Q : Rs → Mem → Prop} {pc : Nat} {L : Ls} {st : List Value} {M : Mem} {k n : Nat} {a N : Nat} {f : Int → Int} {i x : Int} (hM : M a = some (aI N f)) (h0 : 0 ≤ i) (h1 : i < N) (h2 : R32 i) (d : Dc κ pc .iastore 1) (kk : J κ bc bs Q (pc + 1) L (st) (up M a (aI N (uI f i x))) (k) (n)) : J κ bc bs Q (pc) L (vI x :: vI i :: .ref a :: st) M (k) (n) := by
  intro p l e s m args below meth c H locs ls D B hc hB hZ hW hS hL
  obtain ⟨hx, hb, hr, hml, hown, hts, hlo, htab, hfl, hnm⟩ := id hc
  obtain ⟨ws, tys, hP, hK, hD, hR⟩ := id hW
  obtain ⟨q0, t0, cA, hq, ht⟩ := hR a _ hM
  have e9 : (fun j : Nat => iN (uI f i x j)) = upd (fun j : Nat => iN (f j)) (iN i).toNatClampNeg (iN x) := by
    funext j
    rw [iN_clamp h2]
    unfold uI upd
    by_cases h : j = i.toNat
    · have h9 : (j : Int) = i := by omega
      rw [if_pos h, if_pos h9]
    · have h9 : ¬ (j : Int) = i := by omega
      rw [if_neg h, if_neg h9]
  refine va_iast (D := D) (cl := vwCl) (i := iN i) (x := iN x) hx hb hK hP hD hS q0 t0 hq ht (iN_in h0 h1 h2) d (fun H1 locs1 hP1 hD1 hS1 => ?_)
  rw [← e9] at hP1 hD1
  exact kk p l e s m args below meth c H1 locs1 ls D B hc hB hZ ⟨_, _, hP1, hK, hD1, Rl.set hD hq (fun _ => ⟨q0, t0, cA, set_self hq, ht⟩) (low_eq hB hS hS1) hR⟩ hS1 hL

theorem r_laload {κ : Kp} {bc bs : Nat} {Q : Rs → Mem → Prop} {pc : Nat} {L : Ls} {st : List Value} {M : Mem} {k n : Nat} {a N : Nat} {f : Int → Int64} {i : Int} (hM : M a = some (aL N f)) (h0 : 0 ≤ i) (h1 : i < N) (h2 : R32 i) (d : Dc κ pc .laload 1) (kk : J κ bc bs Q (pc + 1) L (.long (f i) :: st) M (k) (n)) : J κ bc bs Q (pc) L (vI i :: .ref a :: st) M (k) (n) := by
  intro p l e s m args below meth c H locs ls D B hc hB hZ hW hS hL
  obtain ⟨hx, hb, hr, hml, hown, hts, hlo, htab, hfl, hnm⟩ := id hc
  obtain ⟨ws, tys, hP, hK, hD, hR⟩ := id hW
  obtain ⟨q0, t0, cA, hq, ht⟩ := hR a _ hM
  refine va_lald (D := D) (cl := vwCl) (i := iN i) hx hb hK hP q0 t0 hq ht (iN_in h0 h1 h2) d ?_
  rw [iN_clamp h2, Int.toNat_of_nonneg h0]
  exact kk p l e s m args below meth c H locs ls D B hc hB hZ hW hS hL

theorem r_lastore {κ : Kp} {bc bs : Nat} {Q : Rs → Mem → Prop} {pc : Nat} {L : Ls} {st : List Value} {M : Mem} {k n : Nat} {a N : Nat} {f : Int → Int64} {i : Int} {x : Int64} (hM : M a = some (aL N f)) (h0 : 0 ≤ i) (h1 : i < N) (h2 : R32 i) (d : Dc κ pc .lastore 1) (kk : J κ bc bs Q (pc + 1) L (st) (up M a (aL N (uI f i x))) (k) (n)) : J κ bc bs Q (pc) L (.long x :: vI i :: .ref a :: st) M (k) (n) := by
  intro p l e s m args below meth c H locs ls D B hc hB hZ hW hS hL
  obtain ⟨hx, hb, hr, hml, hown, hts, hlo, htab, hfl, hnm⟩ := id hc
  obtain ⟨ws, tys, hP, hK, hD, hR⟩ := id hW
  obtain ⟨q0, t0, cA, hq, ht⟩ := hR a _ hM
  have e9 : (fun j : Nat => uI f i x j) = vp_updL (fun j : Nat => f j) (iN i).toNatClampNeg x := by
    funext j
    rw [iN_clamp h2]
    unfold uI vp_updL
    by_cases h : j = i.toNat
    · have h9 : (j : Int) = i := by omega
      rw [if_pos h, if_pos h9]
    · have h9 : ¬ (j : Int) = i := by omega
      rw [if_neg h, if_neg h9]
  refine va_last (D := D) (cl := vwCl) (i := iN i) hx hb hK hP hD hS q0 t0 hq ht (iN_in h0 h1 h2) d (fun H1 locs1 hP1 hD1 hS1 => ?_)
  rw [← e9] at hP1 hD1
  exact kk p l e s m args below meth c H1 locs1 ls D B hc hB hZ ⟨_, _, hP1, hK, hD1, Rl.set hD hq (fun _ => ⟨q0, t0, cA, set_self hq, ht⟩) (low_eq hB hS hS1) hR⟩ hS1 hL

theorem r_aaload {κ : Kp} {bc bs : Nat} {Q : Rs → Mem → Prop} {pc : Nat} {L : Ls} {st : List Value} {M : Mem} {k n : Nat} {a N ci : Nat} {f : Int → Option Nat} {i : Int} (hM : M a = some (aR ci N f)) (h0 : 0 ≤ i) (h1 : i < N) (h2 : R32 i) (d : Dc κ pc .aaload 1) (kk : J κ bc bs Q (pc + 1) L (va_rf (f i) :: st) M (k) (n)) : J κ bc bs Q (pc) L (vI i :: .ref a :: st) M (k) (n) := by
  intro p l e s m args below meth c H locs ls D B hc hB hZ hW hS hL
  obtain ⟨hx, hb, hr, hml, hown, hts, hlo, htab, hfl, hnm⟩ := id hc
  obtain ⟨ws, tys, hP, hK, hD, hR⟩ := id hW
  obtain ⟨q0, t0, cA, r9, hq, ht, hr9⟩ := hR a _ hM
  refine va_aldq (D := D) (cl := vwCl) (i := iN i) hx hb hK hP q0 t0 hq ht (iN_in h0 h1 h2) d ?_
  rw [iN_clamp h2, Int.toNat_of_nonneg h0]
  exact kk p l e s m args below meth c H locs ls D B hc hB hZ hW hS hL

theorem r_aastore {κ : Kp} {bc bs : Nat} {Q : Rs → Mem → Prop} {pc : Nat} {L : Ls} {st : List Value} {M : Mem} {k n : Nat} {a N ci v : Nat} {f : Int → Option Nat} {i : Int} {vs : List Value} (hM : M a = some (aR ci N f)) (hV : M v = some (oC ci vs)) (h0 : 0 ≤ i) (h1 : i < N) (h2 : R32 i) (d : Dc κ pc .aastore 1) (kk : J κ bc bs Q (pc + 1) L (st) (up M a (aR ci N (uI f i (some v)))) (k) (n)) : J κ bc bs Q (pc) L (.ref v :: vI i :: .ref a :: st) M (k) (n) := by
  intro p l e s m args below meth c H locs ls D B hc hB hZ hW hS hL
  obtain ⟨hx, hb, hr, hml, hown, hts, hlo, htab, hfl, hnm⟩ := id hc
  obtain ⟨ws, tys, hP, hK, hD, hR⟩ := id hW
  obtain ⟨q0, t0, cA, r9, hq, ht, hr9⟩ := hR a _ hM
  obtain ⟨qk, hqk⟩ := hR v _ hV
  have e9 : (fun j : Nat => uI f i (some v) j) = va_up (fun j : Nat => f j) (iN i).toNatClampNeg (some v) := by
    funext j
    rw [iN_clamp h2]
    unfold uI va_up
    by_cases h : j = i.toNat
    · have h9 : (j : Int) = i := by omega
      rw [if_pos h, if_pos h9]
    · have h9 : ¬ (j : Int) = i := by omega
      rw [if_neg h, if_neg h9]
  refine va_astq (D := D) (cl := vwCl) (i := iN i) hx hb hK hP hD hS q0 t0 qk ci hq ht hqk hr9 (iN_in h0 h1 h2) d (fun H1 locs1 hP1 hD1 hS1 => ?_)
  rw [← e9] at hP1 hD1
  exact kk p l e s m args below meth c H1 locs1 ls D B hc hB hZ ⟨_, _, hP1, hK, hD1, Rl.set hD hq (fun _ => ⟨q0, t0, cA, r9, set_self hq, ht, hr9⟩) (low_eq hB hS hS1) hR⟩ hS1 hL

theorem r_alenI {κ : Kp} {bc bs : Nat} {Q : Rs → Mem → Prop} {pc : Nat} {L : Ls} {st : List Value} {M : Mem} {k n : Nat} {a N : Nat} {f : Int → Int} (hM : M a = some (aI N f)) (d : Dc κ pc .arraylength 1) (kk : J κ bc bs Q (pc + 1) L (vI N :: st) M (k) (n)) : J κ bc bs Q (pc) L (.ref a :: st) M (k) (n) := by
  intro p l e s m args below meth c H locs ls D B hc hB hZ hW hS hL
  obtain ⟨hx, hb, hr, hml, hown, hts, hlo, htab, hfl, hnm⟩ := id hc
  obtain ⟨ws, tys, hP, hK, hD, hR⟩ := id hW
  obtain ⟨q0, t0, cA, hq, ht⟩ := hR a _ hM
  exact va_alen (D := D) (cl := vwCl) hx hb hK hP q0 t0 hq ht (v := iN N) rfl d (kk p l e s m args below meth c H locs ls D B hc hB hZ hW hS hL)

theorem r_alenR {κ : Kp} {bc bs : Nat} {Q : Rs → Mem → Prop} {pc : Nat} {L : Ls} {st : List Value} {M : Mem} {k n : Nat} {a N ci : Nat} {f : Int → Option Nat} (hM : M a = some (aR ci N f)) (d : Dc κ pc .arraylength 1) (kk : J κ bc bs Q (pc + 1) L (vI N :: st) M (k) (n)) : J κ bc bs Q (pc) L (.ref a :: st) M (k) (n) := by
  intro p l e s m args below meth c H locs ls D B hc hB hZ hW hS hL
  obtain ⟨hx, hb, hr, hml, hown, hts, hlo, htab, hfl, hnm⟩ := id hc
  obtain ⟨ws, tys, hP, hK, hD, hR⟩ := id hW
  obtain ⟨q0, t0, cA, r9, hq, ht, hr9⟩ := hR a _ hM
  exact va_alen (D := D) (cl := vwCl) hx hb hK hP q0 t0 hq ht (v := iN N) rfl d (kk p l e s m args below meth c H locs ls D B hc hB hZ hW hS hL)

theorem r_alenS {κ : Kp} {bc bs : Nat} {Q : Rs → Mem → Prop} {pc : Nat} {L : Ls} {st : List Value} {M : Mem} {k n : Nat} {a N : Nat} {f : Int → Int} (hM : M a = some (aS N f)) (d : Dc κ pc .arraylength 1) (kk : J κ bc bs Q (pc + 1) L (vI N :: st) M (k) (n)) : J κ bc bs Q (pc) L (.ref a :: st) M (k) (n) := by
  intro p l e s m args below meth c H locs ls D B hc hB hZ hW hS hL
  obtain ⟨hx, hb, hr, hml, hown, hts, hlo, htab, hfl, hnm⟩ := id hc
  obtain ⟨ws, tys, hP, hK, hD, hR⟩ := id hW
  obtain ⟨⟨scr, g1, g2, g3, g4, g5⟩, -⟩ := hR a _ hM
  exact W.alen hx hb (n := iN N) g1 g2 (by rw [g4]; rfl) rfl rfl d (kk p l e s m args below meth c H locs ls D B hc hB hZ hW hS hL)

theorem r_newI {κ : Kp} {bc bs : Nat} {Q : Rs → Mem → Prop} {pc : Nat} {L : Ls} {st : List Value} {M : Mem} {k n : Nat} {N : Nat} {z : Int} (hz : z = N) (hN : N ≤ 10000) (harr : Cond.arrayClass .int ∈ lw_g) (hk : k + 1 ≤ bc) (hn : n + N ≤ bs) (d : Dc κ pc (.newarray .int) 2) (kk : ∀ q : Nat, M q = none → J κ bc bs Q (pc + 2) L (.ref q :: st) (up M q (aI N (fun _ => 0))) (k + 1) (n + N)) : J κ bc bs Q (pc) L (vI z :: st) M (k) (n) := by
  intro p l e s m args below meth c H locs ls D B hc hB hZ hW hS hL
  obtain ⟨hx, hb, hr, hml, hown, hts, hlo, htab, hfl, hnm⟩ := id hc
  subst hz
  have h2 : R32 (N : Int) := by omega
  obtain ⟨ws, tys, hP, hK, hD, hR⟩ := id hW
  refine va_newa (D := D) (cl := vwCl) (atype := .int) hx hb (hts _ harr) rfl hK hP hD hS (fun q h => Nat.le_trans hB h) (n := iN (N : Int)) (N' := N) (a0 := (N, .inl (fun _ => iN 0))) (fun cA => rfl) (by have h9 := (iN_lt (y := 0) h2 (by omega)); intro h; have := h9.mp h; omega) (by rw [iN_clamp h2]; omega) (by show N * 4 ≤ 536870912; omega) hk hn d (fun q cA H1 hK1 hP1 hD1 hS1 => ?_)
  exact kk q (Rl.fresh hD1 hR) p l e s m args below meth c H1 locs ls D B hc hB hZ ⟨_, _, hP1, hK1, hD1, Rl.push ⟨ws.length, tys.length, cA, app_last, app_last⟩ (low_eq hB hS hS1) hR⟩ hS1 hL

theorem r_newL {κ : Kp} {bc bs : Nat} {Q : Rs → Mem → Prop} {pc : Nat} {L : Ls} {st : List Value} {M : Mem} {k n : Nat} {N : Nat} {z : Int} (hz : z = N) (hN : N ≤ 10000) (harr : Cond.arrayClass .long ∈ lw_g) (hk : k + 1 ≤ bc) (hn : n + N ≤ bs) (d : Dc κ pc (.newarray .long) 2) (kk : ∀ q : Nat, M q = none → J κ bc bs Q (pc + 2) L (.ref q :: st) (up M q (aL N (fun _ => 0))) (k + 1) (n + N)) : J κ bc bs Q (pc) L (vI z :: st) M (k) (n) := by
  intro p l e s m args below meth c H locs ls D B hc hB hZ hW hS hL
  obtain ⟨hx, hb, hr, hml, hown, hts, hlo, htab, hfl, hnm⟩ := id hc
  subst hz
  have h2 : R32 (N : Int) := by omega
  obtain ⟨ws, tys, hP, hK, hD, hR⟩ := id hW
  refine va_newa (D := D) (cl := vwCl) (atype := .long) hx hb (hts _ harr) rfl hK hP hD hS (fun q h => Nat.le_trans hB h) (n := iN (N : Int)) (N' := N) (a0 := (N, .inr (.inl (fun _ => 0)))) (fun cA => rfl) (by have h9 := (iN_lt (y := 0) h2 (by omega)); intro h; have := h9.mp h; omega) (by rw [iN_clamp h2]; omega) (by show N * 8 ≤ 536870912; omega) hk hn d (fun q cA H1 hK1 hP1 hD1 hS1 => ?_)
  exact kk q (Rl.fresh hD1 hR) p l e s m args below meth c H1 locs ls D B hc hB hZ ⟨_, _, hP1, hK1, hD1, Rl.push ⟨ws.length, tys.length, cA, app_last, app_last⟩ (low_eq hB hS hS1) hR⟩ hS1 hL

