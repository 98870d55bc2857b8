/-! the law: an intersection beside the class' own -/
theorem StP.some {M : Mem} {ad : Int → Nat} {s : Int} {n : Int → Int} {F : Int → Int → Int} {g : Int → Int} (h : StP M ad s n F g) : ∀ j, s ≤ j → j < s + 13 → M (ad j) ≠ none := by
  obtain ⟨h1, ⟨f, h2, -⟩, h3, h4, ⟨g', h5, -⟩⟩ := h
  intro j a b
  have key : ∀ (i : Int) (x : AC), M (ad i) = Option.some x → j = i → M (ad j) ≠ none := fun i x h e => by rw [e, h]; exact fun h => nomatch h
  by_cases e0 : j = s
  · exact key _ _ h1 e0
  · by_cases e1 : j = s + 1
    · exact key _ _ h2 e1
    · by_cases e2 : j < s + 6
      · exact key (s + 2 + (j - (s + 2))) _ (h3 (j - (s + 2)) (by omega) (by omega)).1 (by omega)
      · by_cases e3 : j < s + 10
        · obtain ⟨q, hq, -⟩ := (h3 (j - (s + 6)) (by omega) (by omega)).2.1
          exact key (s + 6 + (j - (s + 6))) _ hq (by omega)
        · by_cases e4 : j = s + 10
          · exact key _ _ h4.1 e4
          · by_cases e5 : j = s + 11
            · obtain ⟨q, hq, -⟩ := h4.2.1
              exact key _ _ hq e5
            · exact key _ _ h5 (by omega)
theorem XSt.some {M : Mem} {ad : Int → Nat} {σ : Sg3} {m : Int} {S : Int → Sg3} {len : Int} {c : Int → Int} (h : XSt M ad σ m S len c) : ∀ j, 0 ≤ j → j < 112 → M (ad j) ≠ none := by
  obtain ⟨a0, a1, ⟨nx, -, -, -, -, b1, ⟨b2, b3, -⟩, b4, -⟩, ⟨c1, ⟨c2, c3, -⟩, -⟩, ⟨⟨p1, p2, p3, p4, p5, p6, p7⟩, ⟨p8, p9⟩, ⟨p10, p11⟩⟩, ⟨d1, d2, d3, d4, d5⟩, ⟨⟨e1, e2⟩, ⟨⟨f1, f2, f3, f4, f5⟩, ⟨f6, f7, f8, f9, f10⟩⟩, ⟨⟨g1, g2, g3, g4, g5⟩, ⟨g6, g7, g8, g9, g10⟩⟩⟩, ⟨tn, tF, t1, ⟨t2, t3, -⟩, -⟩, ⟨wn, wF, w1, ⟨w2, w3, -⟩, -⟩⟩ := h
  intro j h0 h9
  have key : ∀ (i : Int) (x : AC), M (ad i) = Option.some x → j = i → M (ad j) ≠ none := fun i x h e => by rw [e, h]; exact fun h => nomatch h
  by_cases q0 : j < 14
  · by_cases q1 : j = 0
    · exact key _ _ a0 q1
    · exact StP.some a1 j (by omega) (by omega)
  · by_cases q2 : j < 94
    · by_cases q3 : j < 16
      · by_cases q4 : j = 14
        · exact key _ _ b1 q4
        · exact key _ _ b3 (by omega)
      · obtain ⟨σ', hs⟩ := b4 ((j - 16) / 13) (by omega) (by omega)
        exact StP.some hs j (by omega) (by omega)
    · by_cases r0 : j < 99
      · rcases (show j = 94 ∨ j = 95 ∨ j = 96 ∨ j = 97 ∨ j = 98 by omega) with e | e | e | e | e
        · exact key _ _ c1 e
        · exact key _ _ c3 e
        · exact key _ _ p7 e
        · exact key _ _ p9 e
        · exact key _ _ p11 e
      · by_cases r1 : j < 105
        · rcases (show j = 99 ∨ j = 99 + 1 ∨ j = 101 ∨ j = 102 ∨ j = 102 + 1 ∨ j = 102 + 1 + 1 by omega) with e | e | e | e | e | e
          · exact key _ _ d4 e
          · exact key _ _ d5 e
          · exact key _ _ e2 e
          · exact key _ _ f5 e
          · exact key _ _ f9 e
          · exact key _ _ f10 e
        · rcases (show j = 105 ∨ j = 105 + 1 ∨ j = 105 + 1 + 1 ∨ j = 108 ∨ j = 109 ∨ j = 110 ∨ j = 111 by omega) with e | e | e | e | e | e | e
          · exact key _ _ g5 e
          · exact key _ _ g9 e
          · exact key _ _ g10 e
          · exact key _ _ t1 e
          · exact key _ _ t3 e
          · exact key _ _ w1 e
          · exact key _ _ w3 e
/-- the class beside the law's rows -/
def CL (M : Mem) (ad : Int → Nat) (n : Int → Int) (F : Int → Int → Int) (g : Int → Int) (m : Int) (S : Int → Sg3) (len : Int) (c : Int → Int) : Prop := XSt M ad (n, F, g) m S len c ∧ LwR M ad n F g m
section CLS
variable {M M2 : Mem} {ad : Int → Nat} {n : Int → Int} {F : Int → Int → Int} {g : Int → Int} {m : Int} {S : Int → Sg3} {len : Int} {c : Int → Int}
theorem CL.new (h : CL M ad n F g m S len c) {q : Nat} (hq : M q = none) : ∀ j, 0 ≤ j → j < 114 → q ≠ ad j := fun j a b e => by
  obtain ⟨h1, w, v, h2, h3, -⟩ := h
  by_cases e1 : j < 112
  · exact h1.some j a e1 (by rw [← e]; exact hq)
  · by_cases e2 : j = 112
    · rw [e, e2, h2] at hq; cases hq
    · rw [e, show j = 113 by omega, h3] at hq; cases hq
theorem CL.frame (h : CL M ad n F g m S len c) (hk : ∀ i, 0 ≤ i → i < 114 → M2 (ad i) = M (ad i)) : CL M2 ad n F g m S len c :=
  ⟨h.1.frame (fun i a b => hk i a (by omega)), h.2.frame (hk 112 (by omega) (by omega)) (hk 113 (by omega) (by omega))⟩
theorem CL.upQ (h : CL M ad n F g m S len c) {q : Nat} (hq : ∀ j, 0 ≤ j → j < 114 → q ≠ ad j) (x : AC) : CL (up M q x) ad n F g m S len c := h.frame (fun i a b => up_n _ (hq i a b).symm)
theorem CL.fr1 (h : CL M ad n F g m S len c) {q : Nat} (hq : ∀ j, 0 ≤ j → j < 114 → q ≠ ad j) (hf : Fr1 q M M2) : CL M2 ad n F g m S len c := h.frame (fun i a b => hf _ (hq i a b).symm)
theorem CL.goX (h : CL M ad n F g m S len c) (hi : Inj ad) (hx : XSt M2 ad (n, F, g) m S len c ∧ FrI ad 0 112 M M2) : CL M2 ad n F g m S len c :=
  ⟨hx.1, h.2.frame (hx.2.at hi ⟨by omega, by omega⟩ ⟨by omega, by omega⟩ (by omega)) (hx.2.at hi ⟨by omega, by omega⟩ ⟨by omega, by omega⟩ (by omega))⟩
/-- .. with a row of five at q1 and the ends of blocks at q7 -/
def LwS (M0 M : Mem) (ad : Int → Nat) (n : Int → Int) (F : Int → Int → Int) (g : Int → Int) (m : Int) (S : Int → Sg3) (len : Int) (c : Int → Int) (q1 q7 : Nat) (τ f : Int → Int) : Prop := CL M ad n F g m S len c ∧ FrK ad M0 M ∧ (M q1 = some (aI 5 τ) ∧ M q7 = some (aI 17 f)) ∧ (M0 q1 = none ∧ q7 ≠ q1) ∧ (∀ j, 0 ≤ j → j < 114 → q1 ≠ ad j) ∧ ∀ j, 0 ≤ j → j < 114 → q7 ≠ ad j
variable {M0 : Mem} {q1 q7 : Nat} {τ f τ' : Int → Int}
theorem LwS.upT (h : LwS M0 M ad n F g m S len c q1 q7 τ f) (τ' : Int → Int) : LwS M0 (up M q1 (aI 5 τ')) ad n F g m S len c q1 q7 τ' f := by
  obtain ⟨a, b, ⟨c1, c2⟩, ⟨d1, d2⟩, e, e'⟩ := h
  exact ⟨a.upQ e _, b.of1 d1 Fr1.rf.up, ⟨up_s _ _ _, (up_n _ d2).trans c2⟩, ⟨d1, d2⟩, e, e'⟩
theorem LwS.leap (h : LwS M0 M ad n F g m S len c q1 q7 τ f) {r : Int × (Int × Int)} (hr : LpT q1 τ r M M2) : ∃ τ2, LwS M0 M2 ad n F g m S len c q1 q7 τ2 f ∧ (τ2 0 = τ 0 ∧ τ2 1 = τ 1 ∧ τ2 2 = τ 2) ∧ τ2 3 = τ 3 + r.2.1 ∧ (0 ≤ r.1 → τ2 4 = r.2.2) := by
  obtain ⟨a, b, ⟨c1, c2⟩, ⟨d1, d2⟩, e, e'⟩ := h
  obtain ⟨h1, τ2, h2, h3, h4, h5⟩ := hr
  have hA : ∀ j, 0 ≤ j → j < 114 → M (ad j) ≠ none := fun j x y => by
    obtain ⟨w, v, k2, k3, -⟩ := a.2
    by_cases z1 : j < 112
    · exact a.1.some j x z1
    · by_cases z2 : j = 112
      · rw [z2, k2]; exact fun h => nomatch h
      · rw [show j = 113 by omega, k3]; exact fun h => nomatch h
  refine ⟨τ2, ⟨a.frame (fun i x y => h1 _ (e i x y).symm (hA i x y)), fun q hq ha => ?_, ⟨h2, (h1 _ d2 (by rw [c2]; exact fun h => nomatch h)).trans c2⟩, ⟨d1, d2⟩, e, e'⟩, h3, h4, h5⟩
  have h6 := b q hq ha
  rw [h1 q (fun e9 => hq (by rw [e9]; exact d1)) (by rw [h6]; exact hq)]
  exact h6
theorem LwS.goX (h : LwS M0 M ad n F g m S len c q1 q7 τ f) (hi : Inj ad) (hx : XSt M2 ad (n, F, g) m S len c ∧ FrI ad 0 112 M M2) : LwS M0 M2 ad n F g m S len c q1 q7 τ f := by
  obtain ⟨a, b, ⟨c1, c2⟩, d, e, e'⟩ := h
  exact ⟨a.goX hi hx, b.trans (FrK.ofI hx.2), ⟨(hx.2 q1 (fun i x y => e i x (by omega))).trans c1, (hx.2 q7 (fun i x y => e' i x (by omega))).trans c2⟩, d, e, e'⟩
end CLS
theorem J.gen {κ : Kp} {bc bs : Nat} {Q : Rs → Mem → Prop} {pc : Nat} {L : Ls} {st : List Value} {M : Mem} {k n : Nat} {P : Mem → Prop} (h : P M) (kk : ∀ M', P M' → J κ bc bs Q pc L st M' k n) : J κ bc bs Q pc L st M k n := kk M h
/-- where the law's loop over candidates stands: candidate e, place's block th in the other set, r rounds behind it -/
def MtI (n : Int → Int) (F : Int → Int → Int) (g : Int → Int) (a b e th : Int) (r : Nat) (τ : Int → Int) : Prop :=
  (e = -1 ∧ (r : Int) ≤ 16 ∧ mtS n F g a b = (τ 0, τ 1, τ 2, τ 3)) ∨ (0 ≤ e ∧ e < n a ∧ (r : Int) ≤ e ∧ ∃ (fl : Nat) (p2 : Int), n a - e ≤ fl ∧ mtS n F g a b = mtF (n a) (nbF (n a) (F a) (g 0) (g 1)) (stF (n a) (F a) (g 0) (g 1)) (F a) (n b) (nbF (n b) (F b) (g 0) (g 1)) (stF (n b) (F b) (g 0) (g 1)) (F b) fl e p2 (τ 0) (τ 1) (τ 2) (τ 3) ∧ th = batF (nbF (n b) (F b) (g 0) (g 1)) (stF (n b) (F b) (g 0) (g 1)) p2 ∧ (0 < n b → 0 ≤ p2 ∧ p2 < n b))
theorem MtI.start {n : Int → Int} {F : Int → Int → Int} {g : Int → Int} {a b : Int} {τ : Int → Int} (ha : 0 ≤ n a) (hB : BkS (n b) (nbF (n b) (F b) (g 0) (g 1)) (stF (n b) (F b) (g 0) (g 1))) (h0 : τ 0 = 0 ∧ τ 1 = 0 ∧ τ 2 = 0 ∧ τ 3 = 0) : MtI n F g a b (if n a = 0 then -1 else 0) 0 0 τ := by
  unfold MtI mtS mtR
  rw [h0.1, h0.2.1, h0.2.2.1, h0.2.2.2]
  by_cases e : n a = 0
  · rw [if_pos e, if_pos e]; exact Or.inl ⟨rfl, by decide, rfl⟩
  · rw [if_neg e, if_neg e]
    refine Or.inr ⟨by omega, by omega, by decide, (n a).toNat, 0, by omega, rfl, ?_, fun h => ⟨by omega, h⟩⟩
    obtain ⟨b1, b2, b3, b4, b5, b6, b7, b8, b9⟩ := id hB
    by_cases e2 : 0 < n b
    · have h1 := b5 e2
      have h2 := b9 0 1 (by omega) (by omega) (by omega)
      exact (batF_at hB ⟨by omega, h1⟩ ⟨by rw [b6]; omega, by rw [show (0 : Int) + 1 = 1 from rfl]; omega⟩).symm
    · unfold batF
      rw [show (nbF (n b) (F b) (g 0) (g 1) - 1).toNat = 0 by omega, ff]
      rfl
/-- what a round leaves -/
theorem MtI.stop {n : Int → Int} {F : Int → Int → Int} {g : Int → Int} {a b e th : Int} {r : Nat} {τ τ' : Int → Int} {A : Int × (Int × Int)} (h : MtI n F g a b e th r τ) (he : 0 ≤ e) (hA : A = lpN (n b) (nbF (n b) (F b) (g 0) (g 1)) (stF (n b) (F b) (g 0) (g 1)) (F b) (F a e) th) (h1 : A.1 < 0) (ht : τ' 0 = τ 0 ∧ τ' 1 = τ 1 ∧ τ' 2 = τ 2 + 1 ∧ τ' 3 = τ 3 + A.2.1) : mtS n F g a b = (τ' 0, τ' 1, τ' 2, τ' 3) := by
  rcases h with ⟨h, -⟩ | ⟨h2, h3, h4, fl, p2, h5, h6, h7, h8⟩
  · omega
  · obtain ⟨fl, rfl⟩ : ∃ f9, fl = f9 + 1 := ⟨fl - 1, by omega⟩
    rw [h6, mtF]
    dsimp only
    rw [← h7, ← hA, if_pos h1, ht.1, ht.2.1, ht.2.2.1, ht.2.2.2]
theorem MtI.eq {n : Int → Int} {F : Int → Int → Int} {g : Int → Int} {a b e th : Int} {r : Nat} {τ τ' : Int → Int} {A : Int × (Int × Int)} (hB : BkS (n b) (nbF (n b) (F b) (g 0) (g 1)) (stF (n b) (F b) (g 0) (g 1))) (h16 : n a ≤ 16) (h : MtI n F g a b e th r τ) (he : 0 ≤ e) (hA : A = lpN (n b) (nbF (n b) (F b) (g 0) (g 1)) (stF (n b) (F b) (g 0) (g 1)) (F b) (F a e) th) (h1 : 0 ≤ A.1) (hq : F b A.1 = F a e) (ht : τ' 0 = τ 0 + 1 ∧ τ' 1 = τ 1 ∧ τ' 2 = τ 2 + 1 ∧ τ' 3 = τ 3 + A.2.1) : MtI n F g a b (if e + 1 < n a then e + 1 else -1) A.2.2 (r + 1) τ' := by
  rcases h with ⟨h, -⟩ | ⟨h2, h3, h4, fl, p2, h5, h6, h7, h8⟩
  · omega
  · obtain ⟨fl, rfl⟩ : ∃ f9, fl = f9 + 1 := ⟨fl - 1, by omega⟩
    have hb0 : 0 < n b → 0 ≤ th ∧ th < nbF (n b) (F b) (g 0) (g 1) := fun h => by rw [h7]; exact batF_r hB h _
    have hsp := lpN_spec (F b) (F a e) hB hb0
    rw [← hA] at hsp
    rcases hsp with hsp | ⟨s1, s2, s3, s4, s5, s6, s7, s8⟩
    · omega
    · rw [mtF] at h6
      dsimp only at h6
      rw [← h7, ← hA, if_neg (by omega), if_pos hq] at h6
      by_cases e9 : e + 1 < n a
      · rw [if_pos e9] at h6 ⊢
        exact Or.inr ⟨by omega, e9, by omega, fl, A.1, by omega, by rw [h6, ht.1, ht.2.1, ht.2.2.1, ht.2.2.2], (batF_at hB ⟨s5, s6⟩ ⟨s7, s8⟩).symm, fun _ => ⟨s2, s3⟩⟩
      · rw [if_neg e9] at h6 ⊢
        exact Or.inl ⟨rfl, by omega, by rw [h6, ht.1, ht.2.1, ht.2.2.1, ht.2.2.2]⟩
theorem MtI.ne {n : Int → Int} {F : Int → Int → Int} {g : Int → Int} {a b e th bl : Int} {r : Nat} {τ τ' : Int → Int} {A B : Int × (Int × Int)} (hB : BkS (n b) (nbF (n b) (F b) (g 0) (g 1)) (stF (n b) (F b) (g 0) (g 1))) (hC : BkS (n a) (nbF (n a) (F a) (g 0) (g 1)) (stF (n a) (F a) (g 0) (g 1))) (hs : Srt (n a) (F a)) (h16 : n a ≤ 16) (h : MtI n F g a b e th r τ) (he : 0 ≤ e)
    (hA : A = lpN (n b) (nbF (n b) (F b) (g 0) (g 1)) (stF (n b) (F b) (g 0) (g 1)) (F b) (F a e) th) (h1 : 0 ≤ A.1) (hq : F b A.1 ≠ F a e) (hbl : 0 ≤ bl ∧ bl < nbF (n a) (F a) (g 0) (g 1)) (hbe : stF (n a) (F a) (g 0) (g 1) bl ≤ e ∧ e < stF (n a) (F a) (g 0) (g 1) (bl + 1)) (hBB : B = lpN (n a) (nbF (n a) (F a) (g 0) (g 1)) (stF (n a) (F a) (g 0) (g 1)) (F a) (F b A.1) bl) (ht : τ' 0 = τ 0 ∧ τ' 1 = τ 1 + 1 ∧ τ' 2 = τ 2 + 1 ∧ τ' 3 = τ 3 + A.2.1 + B.2.1) : MtI n F g a b B.1 A.2.2 (r + 1) τ' := by
  rcases h with ⟨h, -⟩ | ⟨h2, h3, h4, fl, p2, h5, h6, h7, h8⟩
  · omega
  · obtain ⟨fl, rfl⟩ : ∃ f9, fl = f9 + 1 := ⟨fl - 1, by omega⟩
    have hb0 : 0 < n b → 0 ≤ th ∧ th < nbF (n b) (F b) (g 0) (g 1) := fun h => by rw [h7]; exact batF_r hB h _
    have hsp := lpN_spec (F b) (F a e) hB hb0
    rw [← hA] at hsp
    rcases hsp with hsp | ⟨s1, s2, s3, s4, s5, s6, s7, s8⟩
    · omega
    · rw [mtF] at h6
      dsimp only at h6
      rw [← h7, ← hA, if_neg (by omega), if_neg hq, batF_at hC hbl hbe, ← hBB] at h6
      have hsq := lpN_spec (F a) (F b A.1) hC (b0 := bl) (fun _ => hbl)
      rw [← hBB] at hsq
      rcases hsq with hsq | ⟨u1, u2, u3, u4, u5, u6, u7, u8⟩
      · rw [if_pos (by omega)] at h6
        exact Or.inl ⟨hsq, by omega, by rw [h6, ht.1, ht.2.1, ht.2.2.1, ht.2.2.2]⟩
      · rw [if_neg (by omega)] at h6
        have h9 : e < B.1 := hs.lt ⟨he, h3⟩ ⟨u2, u3⟩ (by omega)
        exact Or.inr ⟨u2, u3, by omega, fl, A.1, by omega, by rw [h6, ht.1, ht.2.1, ht.2.2.1, ht.2.2.2], (batF_at hB ⟨s5, s6⟩ ⟨s7, s8⟩).symm, fun _ => ⟨s2, s3⟩⟩
theorem tol4 {r : Int × (Int × (Int × Int))} {τ : Int → Int} (h : r = (τ 0, τ 1, τ 2, τ 3)) : ∀ k, 0 ≤ k → k < 4 → τ k = tolF r k := fun k a b => by
  rw [h]
  unfold tolF
  rcases (show k = 0 ∨ k = 1 ∨ k = 2 ∨ k = 3 by omega) with rfl | rfl | rfl | rfl <;> rfl
theorem j27 {bc bs : Nat} {Q : Rs → Mem → Prop} {L : Ls} {st : List Value} {M : Mem} {k n : Nat} {x : Int} (hx : R32 x) (kk : J KL_leaps bc bs Q 35 L (vI (if x = 0 then -1 else 0) :: st) M k n) : J KL_leaps bc bs Q 27 L (vI x :: st) M k n := by
  refine r_if_ne (tgt := 34) dL_leaps_27 (by decide) hx (fun h => ?_) (fun h => ?_)
  · rw [if_neg h] at kk
    exact r_iconst dL_leaps_34 kk
  · rw [if_pos h] at kk
    refine r_iconst dL_leaps_30 ?_
    exact r_goto (tgt := 35) dL_leaps_31 (by decide) kk
set_option maxHeartbeats 1000000 in
theorem mL_leaps {M : Mem} {ad : Int → Nat} {n : Int → Int} {F : Int → Int → Int} {g : Int → Int} {m : Int} {S : Int → Sg3} {len : Int} {c : Int → Int} {a b : Int} (hc : CL M ad n F g m S len c) (hi : Inj ad) (q0 : 0 ≤ a ∧ a < 4) (r0 : 0 ≤ b ∧ b < 4) : Ct KL_leaps [.ref (ad 0), .ref (ad 112), .ref (ad 113), vI a, vI b] M 34 566 (atI 1 (fun M2 => CL M2 ad n F g m S len c ∧ FrK ad M M2)) := by
  refine Ct.of _ (by decide) rfl (Nat.le_of_ble_eq_true rfl) ?_
  obtain ⟨hx, hl⟩ := id hc
  obtain ⟨w, v, hn1, hm1, hlv⟩ := id hl
  obtain ⟨hset, hw4, hw5, hw6, hg0, hg1, hm6⟩ := id hlv
  obtain ⟨hwa, hna, hsa, hva⟩ := hset a q0.1 q0.2
  obtain ⟨hwb, hnb, hsb, hvb⟩ := hset b r0.1 r0.2
  have hv := hlv.vld
  have hBa := BkS.of hna.1 (by omega) (F a) (g 0) (g 1)
  have hBb := BkS.of hnb.1 (by omega) (F b) (g 0) (g 1)
  obtain ⟨ba1, ba2, ba3, ba4, ba5, ba6, ba7, ba8, ba9⟩ := id hBa
  obtain ⟨bb1, bb2, bb3, bb4, bb5, bb6, bb7, bb8, bb9⟩ := id hBb
  refine r_iconst dL_leaps_0 ?_
  refine r_newI (N := 5) rfl (by decide) ac_int (Nat.le_of_ble_eq_true rfl) (Nat.le_of_ble_eq_true rfl) dL_leaps_1 (fun q1 hq1 => ?_)
  have hqo1 := hc.new hq1
  refine r_astore dL_leaps_3 (by decide) rfl ?_
  refine r_bipush dL_leaps_5 (by decide) ?_
  refine r_newI (N := 17) rfl (by decide) ac_int (Nat.le_of_ble_eq_true rfl) (Nat.le_of_ble_eq_true rfl) dL_leaps_7 (fun q7 hq7 => ?_)
  have hne71 : q7 ≠ q1 := fun e => by rw [e, up_s] at hq7; cases hq7
  have hq7n : M q7 = none := (up_n _ hne71).symm.trans hq7
  have hqo7 := hc.new hq7n
  have hls : LwS M (up (up M q1 (aI 5 fun _ => 0)) q7 (aI 17 fun _ => 0)) ad n F g m S len c q1 q7 (fun _ => 0) (fun _ => 0) := ⟨(hc.upQ hqo1 _).upQ hqo7 _, ((FrK.new hq1 _).of1 hq7n Fr1.rf.up), ⟨(up_n _ hne71.symm).trans (up_s _ _ _), up_s _ _ _⟩, ⟨hq1, hne71⟩, hqo1, hqo7⟩
  refine J.gen (P := fun M' => LwS M M' ad n F g m S len c q1 q7 (fun _ => 0) (fun _ => 0)) hls (fun M1 hls => ?_)
  obtain ⟨wz, vz, hnz, hmz, hlvz⟩ := id hls.1.2
  have hq1z := hls.2.2.1.1
  have hq7z := hls.2.2.1.2
  obtain ⟨hwaz, -, -, hvaz⟩ := hlvz.1 a q0.1 q0.2
  obtain ⟨hwbz, -, -, hvbz⟩ := hlvz.1 b r0.1 r0.2
  have hq1az := (hls.2.2.2.2.1 112 (by omega) (by omega)).symm
  have hq1bz := (hls.2.2.2.2.1 113 (by omega) (by omega)).symm
  have hq17z := hls.2.2.2.1.2
  refine r_astore dL_leaps_9 (by decide) rfl ?_
  refine r_aload_n dL_leaps_11 rfl ?_
  refine r_aload_n dL_leaps_12 rfl ?_
  refine r_iload_n dL_leaps_13 rfl ?_
  refine r_aload dL_leaps_14 rfl ?_
  refine r_callS4 okL_blocks ⟨by decide, by decide⟩ ml_L_14 (mL_blocks hls.1.2 hi q0 hq7z ⟨hqo7 112 (by omega) (by omega), hqo7 113 (by omega) (by omega)⟩) (Nat.le_of_ble_eq_true rfl) (Nat.le_of_ble_eq_true rfl) (Nat.le_of_ble_eq_true rfl) rfl dL_leaps_16 (nx_tI) (kx_tI ?_)
  intro M3 hM3
  obtain ⟨hfr3, f, hf7, hf⟩ := hM3
  have hls3 : LwS M M3 ad n F g m S len c q1 q7 (fun _ => 0) f := ⟨hls.1.fr1 hqo7 hfr3, hls.2.1.of1 hq7n hfr3, ⟨(hfr3 _ hne71.symm).trans hq1z, hf7⟩, ⟨hq1, hne71⟩, hqo1, hqo7⟩
  obtain ⟨wz3, vz3, hnz3, hmz3, hlvz3⟩ := id hls3.1.2
  have hq1z3 := hls3.2.2.1.1
  have hq7z3 := hls3.2.2.1.2
  obtain ⟨hwaz3, -, -, hvaz3⟩ := hlvz3.1 a q0.1 q0.2
  obtain ⟨hwbz3, -, -, hvbz3⟩ := hlvz3.1 b r0.1 r0.2
  have hq1az3 := (hls3.2.2.2.2.1 112 (by omega) (by omega)).symm
  have hq1bz3 := (hls3.2.2.2.2.1 113 (by omega) (by omega)).symm
  have hq17z3 := hls3.2.2.2.1.2
  refine r_istore dL_leaps_19 (by decide) rfl ?_
  refine r_iconst dL_leaps_21 ?_
  refine r_istore dL_leaps_22 (by decide) rfl ?_
  refine r_aload_n dL_leaps_24 rfl ?_
  refine r_iload_n dL_leaps_25 rfl ?_
  refine r_iaload hnz3 (by omega) (by omega) (by omega) dL_leaps_26 ?_
  rw [hwaz3]
  refine j27 (by omega) ?_
  refine r_istore dL_leaps_35 (by decide) rfl ?_
  refine J.loc (L' := [(0, some _), (1, some _), (2, some _), (3, some _), (4, some _), (5, some _), (6, some _), (7, some _), (8, some _), (9, some _)]) (lsub_cons rfl (lsub_cons rfl (lsub_cons rfl (lsub_cons rfl (lsub_cons rfl (lsub_cons rfl (lsub_cons rfl (lsub_cons rfl (lsub_cons rfl (lsub_cons rfl (lsub_nil))))))))))) (loop4 (fun (e : Int) (th : Int) (r : Nat) (M4 : Mem) => ∃ τ : Int → Int, LwS M M4 ad n F g m S len c q1 q7 τ f ∧ MtI n F g a b e th r τ) (fun (e : Int) (th : Int) (r : Nat) (M4 : Mem) => if e < 0 then 0 else (n a - e).toNat) (fun (e : Int) (th : Int) (r : Nat) (M4 : Mem) => J KL_leaps 34 566 _ 37 [(0, some (.ref (ad 0))), (1, some (.ref (ad 112))), (2, some (.ref (ad 113))), (3, some (vI a)), (4, some (vI b)), (5, some (.ref q1)), (6, some (.ref q7)), (7, some (vI (nbF (n a) (F a) (g 0) (g 1)))), (8, some (vI th)), (9, some (vI e))] [] M4 (2 + 2 * r) (22 + 34 * r)) (fun e th r M4 hI37 ih37 => ?_) _ _ 0 _ ?_)
  ·
    obtain ⟨τ, hls4, hmt⟩ := hI37
    obtain ⟨w4, v4, hn4, hm4, hlv4⟩ := id hls4.1.2
    have hq14 := hls4.2.2.1.1
    have hq74 := hls4.2.2.1.2
    obtain ⟨hwa4, -, -, hva4⟩ := hlv4.1 a q0.1 q0.2
    obtain ⟨hwb4, -, -, hvb4⟩ := hlv4.1 b r0.1 r0.2
    have hq1a4 := (hls4.2.2.2.2.1 112 (by omega) (by omega)).symm
    have hq1b4 := (hls4.2.2.2.2.1 113 (by omega) (by omega)).symm
    have hq174 := hls4.2.2.2.1.2
    have hr16 : r ≤ 16 := by
      rcases id hmt with ⟨-, h1, -⟩ | ⟨-, h1, h2, -⟩ <;> omega
    have her : -1 ≤ e ∧ e < 16 := by
      rcases id hmt with ⟨h1, -, -⟩ | ⟨h1, h2, -, -⟩ <;> omega
    refine r_iload dL_leaps_37 rfl ?_
    refine r_if_lt (tgt := 191) dL_leaps_39 (by decide) (by omega) (fun h39 => ?_) (fun h39 => ?_)
    ·
      have hend : ∃ τ9 : Int → Int, LwS M M4 ad n F g m S len c q1 q7 τ9 f ∧ ∀ k, 0 ≤ k → k < 4 → τ9 k = tolF (mtS n F g a b) k := by
        rcases hmt with ⟨-, -, h⟩ | ⟨h1, -⟩
        · exact ⟨τ, hls4, tol4 h⟩
        · omega
      refine r_iconst dL_leaps_191 ?_
      refine r_istore dL_leaps_192 (by decide) rfl ?_
      obtain ⟨τ9, hls9a, hT9⟩ := hend
      refine J.loc (L' := [(0, some _), (1, some _), (2, some _), (3, some _), (4, some _), (5, some _), (6, some _), (7, some _), (9, some _), (10, some _)]) (lsub_cons rfl (lsub_cons rfl (lsub_cons rfl (lsub_cons rfl (lsub_cons rfl (lsub_cons rfl (lsub_cons rfl (lsub_cons rfl (lsub_cons rfl (lsub_cons rfl (lsub_nil))))))))))) (loop2 (fun (k : Int) (M9 : Mem) => 0 ≤ k ∧ k ≤ 4 ∧ LwS M M9 ad n F g m S len c q1 q7 τ9 f) (fun (k : Int) (M9 : Mem) => (4 - k).toNat) (fun (k : Int) (M9 : Mem) => J KL_leaps 34 566 _ 194 [(0, some (.ref (ad 0))), (1, some (.ref (ad 112))), (2, some (.ref (ad 113))), (3, some (vI a)), (4, some (vI b)), (5, some (.ref q1)), (6, some (.ref q7)), (7, some (vI (nbF (n a) (F a) (g 0) (g 1)))), (9, some (vI e)), (10, some (vI k))] [] M9 _ _) (fun k M9 hI194 ih194 => ?_) _ _ ?_)
      ·
        obtain ⟨hk0, hk1, hls9⟩ := hI194
        refine r_iload dL_leaps_194 rfl ?_
        refine r_iconst dL_leaps_196 ?_
        refine r_icmp_ge (tgt := 225) dL_leaps_197 (by decide) (by omega) (by omega) (fun h197 => ?_) (fun h197 => ?_)
        ·
          refine r_iload dL_leaps_225 rfl ?_
          refine r_aload_n dL_leaps_227 rfl ?_
          refine r_iload_n dL_leaps_228 rfl ?_
          refine r_iconst dL_leaps_229 ?_
          refine r_callV2 okX8_of ⟨by decide, by decide⟩ ml_L_28 (mX8_of_ok (bc := 0) (bs := 0) (w := 1) hls9.1.1 hls9.1.2.vld hi (by omega) (by omega) q0 (by omega)) hls9.1.1.1 rfl rfl (Nat.le_of_ble_eq_true rfl) (by omega) (by omega) rfl dL_leaps_230 (nx_tI) (kx_tI ?_)
          intro M10 hM10
          have hls10 := hls9.goX hi hM10
          rw [show ofV (n a) (F a) g 1 = nbF (n a) (F a) (g 0) (g 1) from rfl]
          refine r_icmpNe (tgt := 240) dL_leaps_233 (by decide) ?_
          refine r_iconst dL_leaps_236 ?_
          refine r_goto (tgt := 241) dL_leaps_237 (by decide) ?_
          refine e_zreturn dL_leaps_241 rfl (by omega) (by omega) (by omega) ?_
          exact oktI rfl ⟨hls10.1, hls10.2.1⟩
        ·
          refine r_aload_n dL_leaps_200 rfl ?_
          refine r_iload_n dL_leaps_201 rfl ?_
          refine r_iload dL_leaps_202 rfl ?_
          refine r_iload dL_leaps_204 rfl ?_
          refine r_callV3 okX8_leaps ⟨by decide, by decide⟩ ml_L_22 (mX8_leaps_ok (bc := 0) (bs := 0) hls9.1.1 hls9.1.2.vld hi q0 r0 ⟨by omega, by omega⟩) hls9.1.1.1 rfl rfl (Nat.le_of_ble_eq_true rfl) (by omega) (by omega) rfl dL_leaps_206 (nx_tI) (kx_tI ?_)
          intro M10 hM10
          have hls10 := hls9.goX hi hM10
          have hq110 := hls10.2.2.1.1
          refine r_aload dL_leaps_209 rfl ?_
          refine r_iload dL_leaps_211 rfl ?_
          refine r_iaload hq110 (by omega) (by omega) (by omega) dL_leaps_213 ?_
          rw [hT9 k (by omega) (by omega)]
          refine r_icmpEq (tgt := 219) dL_leaps_214 (by decide) ?_
          refine r_iinc dL_leaps_219 rfl rfl ?_
          refine r_goto (tgt := 194) dL_leaps_222 (by decide) ?_
          refine J.loc (lsub_cons rfl (lsub_cons rfl (lsub_cons rfl (lsub_cons rfl (lsub_cons rfl (lsub_cons rfl (lsub_cons rfl (lsub_cons rfl (lsub_cons rfl (lsub_cons rfl (lsub_nil))))))))))) (ih194 _ _ ?_ ?_)
          · exact ⟨by omega, by omega, hls10⟩
          · omega
      · exact ⟨by omega, by omega, hls9a⟩
    ·
      rcases id hmt with ⟨h1, -⟩ | ⟨hc0, hc1, hrc, -⟩
      · omega
      have hthb : 0 < n b → 0 ≤ th ∧ th < (nbF (n b) (F b) (g 0) (g 1)) := fun h => by
        rcases hmt with ⟨h1, -⟩ | ⟨-, -, -, fl, p2, -, -, h7, -⟩
        · omega
        · rw [h7]; exact batF_r hBb h _
      refine r_aload dL_leaps_42 rfl ?_
      refine r_iconst dL_leaps_44 ?_
      refine r_dup2 dL_leaps_45 ?_
      refine r_iaload hq14 (by omega) (by omega) (by omega) dL_leaps_46 ?_
      refine r_iconst dL_leaps_47 ?_
      refine r_iadd dL_leaps_48 ?_
      refine r_iastore hq14 (by omega) (by omega) (by omega) dL_leaps_49 ?_
      have hls5 := hls4.upT (uI τ 2 (τ 2 + 1))
      refine J.gen (P := fun M' => LwS M M' ad n F g m S len c q1 q7 (uI τ 2 (τ 2 + 1)) f) hls5 (fun M5 hls5 => ?_)
      obtain ⟨w5, v5, hn5, hm5, hlv5⟩ := id hls5.1.2
      have hq15 := hls5.2.2.1.1
      have hq75 := hls5.2.2.1.2
      obtain ⟨hwa5, -, -, hva5⟩ := hlv5.1 a q0.1 q0.2
      obtain ⟨hwb5, -, -, hvb5⟩ := hlv5.1 b r0.1 r0.2
      have hq1a5 := (hls5.2.2.2.2.1 112 (by omega) (by omega)).symm
      have hq1b5 := (hls5.2.2.2.2.1 113 (by omega) (by omega)).symm
      have hq175 := hls5.2.2.2.1.2
      refine r_aload_n dL_leaps_50 rfl ?_
      refine r_aload_n dL_leaps_51 rfl ?_
      refine r_iload dL_leaps_52 rfl ?_
      refine r_aload_n dL_leaps_54 rfl ?_
      refine r_bipush dL_leaps_55 (by decide) ?_
      refine r_iload_n dL_leaps_57 rfl ?_
      refine r_imul dL_leaps_58 ?_
      refine r_iload dL_leaps_59 rfl ?_
      refine r_iadd dL_leaps_61 ?_
      refine r_iaload hm5 (by omega) (by omega) (by omega) dL_leaps_62 ?_
      rw [(hva5 e hc0 hc1).1]
      have hbe := (hva5 e hc0 hc1).2
      refine r_iload dL_leaps_63 rfl ?_
      refine r_aload dL_leaps_65 rfl ?_
      refine r_callS6 okL_leap ⟨by decide, by decide⟩ ml_L_18 (mL_leap (s := b) (x := F a e) (b0 := th) hls5.1.2 hi r0 hq15 ⟨hq1a5.symm, hq1b5.symm⟩ (by omega) hthb) (Nat.le_of_ble_eq_true rfl) (by omega) (by omega) rfl dL_leaps_67 (nx_tI) (kx_tI ?_)
      intro M6 hM6
      obtain ⟨τ6, hls6, ⟨k60, k61, k62⟩, k63, h64⟩ := hls5.leap hM6
      generalize hA : (lpN (n b) (nbF (n b) (F b) (g 0) (g 1)) (stF (n b) (F b) (g 0) (g 1)) (F b) (F a e) th) = A at k63 h64 ⊢
      rw [uI_n _ (by omega)] at k60 k61 k63
      rw [uI_s] at k62
      have hAr : -1 ≤ A.1 ∧ A.1 < 16 := by
        have := lpN_spec (F b) (F a e) hBb hthb
        rw [hA] at this
        omega
      obtain ⟨w6, v6, hn6, hm6, hlv6⟩ := id hls6.1.2
      have hq16 := hls6.2.2.1.1
      have hq76 := hls6.2.2.1.2
      obtain ⟨hwa6, -, -, hva6⟩ := hlv6.1 a q0.1 q0.2
      obtain ⟨hwb6, -, -, hvb6⟩ := hlv6.1 b r0.1 r0.2
      have hq1a6 := (hls6.2.2.2.2.1 112 (by omega) (by omega)).symm
      have hq1b6 := (hls6.2.2.2.2.1 113 (by omega) (by omega)).symm
      have hq176 := hls6.2.2.2.1.2
      refine r_istore dL_leaps_70 (by decide) rfl ?_
      refine r_iload dL_leaps_72 rfl ?_
      refine r_if_ge (tgt := 80) dL_leaps_74 (by decide) (by omega) (fun h74 => ?_) (fun h74 => ?_)
      ·
        refine r_aload dL_leaps_80 rfl ?_
        refine r_iconst dL_leaps_82 ?_
        refine r_iaload hq16 (by omega) (by omega) (by omega) dL_leaps_83 ?_
        rw [h64 (by omega)]
        rcases lpN_spec (F b) (F a e) hBb hthb with hsp | ⟨sp1, sp2, sp3, sp4, sp5, sp6, sp7, sp8⟩
        · rw [hA] at hsp; omega
        rw [hA] at sp2 sp3 sp4
        have hbA := (hvb6 A.1 sp2 sp3).2
        refine r_istore dL_leaps_84 (by decide) rfl ?_
        refine r_aload_n dL_leaps_86 rfl ?_
        refine r_bipush dL_leaps_87 (by decide) ?_
        refine r_iload dL_leaps_89 rfl ?_
        refine r_imul dL_leaps_91 ?_
        refine r_iload dL_leaps_92 rfl ?_
        refine r_iadd dL_leaps_94 ?_
        refine r_iaload hm6 (by omega) (by omega) (by omega) dL_leaps_95 ?_
        rw [(hvb6 A.1 sp2 sp3).1]
        refine r_aload_n dL_leaps_96 rfl ?_
        refine r_bipush dL_leaps_97 (by decide) ?_
        refine r_iload_n dL_leaps_99 rfl ?_
        refine r_imul dL_leaps_100 ?_
        refine r_iload dL_leaps_101 rfl ?_
        refine r_iadd dL_leaps_103 ?_
        refine r_iaload hm6 (by omega) (by omega) (by omega) dL_leaps_104 ?_
        rw [(hva6 e hc0 hc1).1]
        refine r_icmp_ne (tgt := 139) dL_leaps_105 (by decide) (by omega) (by omega) (fun h105 => ?_) (fun h105 => ?_)
        ·
          refine r_aload dL_leaps_139 rfl ?_
          refine r_iconst dL_leaps_141 ?_
          refine r_dup2 dL_leaps_142 ?_
          refine r_iaload hq16 (by omega) (by omega) (by omega) dL_leaps_143 ?_
          refine r_iconst dL_leaps_144 ?_
          refine r_iadd dL_leaps_145 ?_
          refine r_iastore hq16 (by omega) (by omega) (by omega) dL_leaps_146 ?_
          have hls7 := hls6.upT (uI τ6 1 (τ6 1 + 1))
          refine J.gen (P := fun M' => LwS M M' ad n F g m S len c q1 q7 (uI τ6 1 (τ6 1 + 1)) f) hls7 (fun M7 hls7 => ?_)
          obtain ⟨w7, v7, hn7, hm7, hlv7⟩ := id hls7.1.2
          have hq17 := hls7.2.2.1.1
          have hq77 := hls7.2.2.1.2
          obtain ⟨hwa7, -, -, hva7⟩ := hlv7.1 a q0.1 q0.2
          obtain ⟨hwb7, -, -, hvb7⟩ := hlv7.1 b r0.1 r0.2
          have hq1a7 := (hls7.2.2.2.2.1 112 (by omega) (by omega)).symm
          have hq1b7 := (hls7.2.2.2.2.1 113 (by omega) (by omega)).symm
          have hq177 := hls7.2.2.2.1.2
          refine r_iconst dL_leaps_147 ?_
          refine r_istore dL_leaps_148 (by decide) rfl ?_
          refine J.loc (L' := [(0, some _), (1, some _), (2, some _), (3, some _), (4, some _), (5, some _), (6, some _), (7, some _), (8, some _), (9, some _), (10, some _), (11, some _)]) (lsub_cons rfl (lsub_cons rfl (lsub_cons rfl (lsub_cons rfl (lsub_cons rfl (lsub_cons rfl (lsub_cons rfl (lsub_cons rfl (lsub_cons rfl (lsub_cons rfl (lsub_cons rfl (lsub_cons rfl (lsub_nil))))))))))))) (loop1 (fun (bl : Int) => 0 ≤ bl ∧ bl < (nbF (n a) (F a) (g 0) (g 1)) ∧ (stF (n a) (F a) (g 0) (g 1)) bl ≤ e) (fun (bl : Int) => ((nbF (n a) (F a) (g 0) (g 1)) - bl).toNat) (fun (bl : Int) => J KL_leaps 34 566 _ 150 [(0, some (.ref (ad 0))), (1, some (.ref (ad 112))), (2, some (.ref (ad 113))), (3, some (vI a)), (4, some (vI b)), (5, some (.ref q1)), (6, some (.ref q7)), (7, some (vI (nbF (n a) (F a) (g 0) (g 1)))), (8, some (vI A.2.2)), (9, some (vI e)), (10, some (vI A.1)), (11, some (vI bl))] [] M7 _ _) (fun bl hI150 ih150 => ?_) _ ?_)
          ·
            obtain ⟨hbl0a, hbl1a, hbl2⟩ := hI150
            refine r_aload dL_leaps_150 rfl ?_
            refine r_iload dL_leaps_152 rfl ?_
            refine r_iaload hq77 (by omega) (by omega) (by omega) dL_leaps_154 ?_
            rw [hf bl (by omega) (by omega)]
            have hblr : (stF (n a) (F a) (g 0) (g 1)) (bl + 1) ≤ n a := by
              by_cases e9 : bl + 1 = (nbF (n a) (F a) (g 0) (g 1))
              · rw [e9, ba7]; omega
              · have := ba8 (bl + 1) (by omega) (by omega); omega
            have hbl0 := ba9 bl (bl + 1) (by omega) (by omega) (by omega)
            have hbl1 := ba8 bl (by omega) (by omega)
            refine r_iload dL_leaps_155 rfl ?_
            refine r_icmp_gt (tgt := 166) dL_leaps_157 (by decide) (by omega) (by omega) (fun h157 => ?_) (fun h157 => ?_)
            ·
              refine r_aload_n dL_leaps_166 rfl ?_
              refine r_aload_n dL_leaps_167 rfl ?_
              refine r_iload_n dL_leaps_168 rfl ?_
              refine r_aload_n dL_leaps_169 rfl ?_
              refine r_bipush dL_leaps_170 (by decide) ?_
              refine r_iload dL_leaps_172 rfl ?_
              refine r_imul dL_leaps_174 ?_
              refine r_iload dL_leaps_175 rfl ?_
              refine r_iadd dL_leaps_177 ?_
              refine r_iaload hm7 (by omega) (by omega) (by omega) dL_leaps_178 ?_
              rw [(hvb7 A.1 sp2 sp3).1]
              refine r_iload dL_leaps_179 rfl ?_
              refine r_aload dL_leaps_181 rfl ?_
              refine r_callS6 okL_leap ⟨by decide, by decide⟩ ml_L_18 (mL_leap (s := a) (x := F b A.1) (b0 := bl) hls7.1.2 hi q0 hq17 ⟨hq1a7.symm, hq1b7.symm⟩ (by omega) (fun _ => ⟨by omega, by omega⟩)) (Nat.le_of_ble_eq_true rfl) (by omega) (by omega) rfl dL_leaps_183 (nx_tI) (kx_tI ?_)
              intro M8 hM8
              obtain ⟨τ8, hls8, ⟨k80, k81, k82⟩, k83, h84⟩ := hls7.leap hM8
              generalize hB8 : (lpN (n a) (nbF (n a) (F a) (g 0) (g 1)) (stF (n a) (F a) (g 0) (g 1)) (F a) (F b A.1) bl) = B at k83 h84 ⊢
              refine r_istore dL_leaps_186 (by decide) rfl ?_
              refine J.wide (k' := 2 + 2 * (r + 1)) (n' := 22 + 34 * (r + 1)) (by omega) (by omega) ?_
              refine r_goto (tgt := 37) dL_leaps_188 (by decide) ?_
              refine J.loc (lsub_cons rfl (lsub_cons rfl (lsub_cons rfl (lsub_cons rfl (lsub_cons rfl (lsub_cons rfl (lsub_cons rfl (lsub_cons rfl (lsub_cons rfl (lsub_cons rfl (lsub_nil))))))))))) (ih37 _ _ (r + 1) _ ?_ ?_)
              · refine ⟨_, hls8, MtI.ne (bl := bl) (B := B) hBb hBa hsa hna.2 hmt hc0 hA.symm (by omega) (by omega) ⟨by omega, by omega⟩ ⟨by omega, by omega⟩ hB8.symm ⟨?_, ?_, ?_, ?_⟩⟩
                · rw [k80, uI_n _ (by omega), k60]
                · rw [k81, uI_s, k61]
                · rw [k82, uI_n _ (by omega), k62]
                · rw [k83, uI_n _ (by omega), k63]
              · have hBr : B.1 = -1 ∨ (e < B.1 ∧ B.1 < n a) := by
                  have := lpN_spec (F a) (F b A.1) hBa (b0 := bl) (fun _ => ⟨by omega, by omega⟩)
                  rw [hB8] at this
                  rcases this with h | ⟨-, h2, h3, h4, -⟩
                  · exact Or.inl h
                  · exact Or.inr ⟨hsa.lt ⟨hc0, hc1⟩ ⟨h2, h3⟩ (by omega), h3⟩
                rw [if_neg (show ¬ e < 0 by omega)]
                split <;> omega
            ·
              refine r_iinc dL_leaps_160 rfl rfl ?_
              refine r_goto (tgt := 150) dL_leaps_163 (by decide) ?_
              refine J.loc (lsub_cons rfl (lsub_cons rfl (lsub_cons rfl (lsub_cons rfl (lsub_cons rfl (lsub_cons rfl (lsub_cons rfl (lsub_cons rfl (lsub_cons rfl (lsub_cons rfl (lsub_cons rfl (lsub_cons rfl (lsub_nil))))))))))))) (ih150 _ ?_ ?_)
              · refine ⟨by omega, ?_, by omega⟩
                by_cases e9 : bl + 1 = (nbF (n a) (F a) (g 0) (g 1))
                · rw [e9, ba7] at h157; omega
                · omega
              · omega
          · exact ⟨by omega, by omega, by rw [ba6]; omega⟩
        ·
          refine r_aload dL_leaps_108 rfl ?_
          refine r_iconst dL_leaps_110 ?_
          refine r_dup2 dL_leaps_111 ?_
          refine r_iaload hq16 (by omega) (by omega) (by omega) dL_leaps_112 ?_
          refine r_iconst dL_leaps_113 ?_
          refine r_iadd dL_leaps_114 ?_
          refine r_iastore hq16 (by omega) (by omega) (by omega) dL_leaps_115 ?_
          have hls7 := hls6.upT (uI τ6 0 (τ6 0 + 1))
          refine J.gen (P := fun M' => LwS M M' ad n F g m S len c q1 q7 (uI τ6 0 (τ6 0 + 1)) f) hls7 (fun M7 hls7 => ?_)
          obtain ⟨w7, v7, hn7, hm7, hlv7⟩ := id hls7.1.2
          have hq17 := hls7.2.2.1.1
          have hq77 := hls7.2.2.1.2
          obtain ⟨hwa7, -, -, hva7⟩ := hlv7.1 a q0.1 q0.2
          obtain ⟨hwb7, -, -, hvb7⟩ := hlv7.1 b r0.1 r0.2
          have hq1a7 := (hls7.2.2.2.2.1 112 (by omega) (by omega)).symm
          have hq1b7 := (hls7.2.2.2.2.1 113 (by omega) (by omega)).symm
          have hq177 := hls7.2.2.2.1.2
          refine r_iload dL_leaps_116 rfl ?_
          refine r_iconst dL_leaps_118 ?_
          refine r_iadd dL_leaps_119 ?_
          refine r_aload_n dL_leaps_120 rfl ?_
          refine r_iload_n dL_leaps_121 rfl ?_
          refine r_iaload hn7 (by omega) (by omega) (by omega) dL_leaps_122 ?_
          rw [hwa7]
          refine r_icmp_ge (tgt := 133) dL_leaps_123 (by decide) (by omega) (by omega) (fun h123 => ?_) (fun h123 => ?_)
          ·
            refine r_iconst dL_leaps_133 ?_
            refine r_istore dL_leaps_134 (by decide) rfl ?_
            refine J.wide (k' := 2 + 2 * (r + 1)) (n' := 22 + 34 * (r + 1)) (by omega) (by omega) ?_
            refine r_goto (tgt := 37) dL_leaps_136 (by decide) ?_
            refine J.loc (lsub_cons rfl (lsub_cons rfl (lsub_cons rfl (lsub_cons rfl (lsub_cons rfl (lsub_cons rfl (lsub_cons rfl (lsub_cons rfl (lsub_cons rfl (lsub_cons rfl (lsub_nil))))))))))) (ih37 _ _ (r + 1) _ ?_ ?_)
            · have h9 := MtI.eq (τ' := uI τ6 0 (τ6 0 + 1)) hBb hna.2 hmt hc0 hA.symm (by omega) (by omega) ⟨by rw [uI_s, k60], by rw [uI_n _ (by omega), k61], by rw [uI_n _ (by omega), k62], by rw [uI_n _ (by omega), k63]⟩
              rw [if_neg (by omega)] at h9
              exact ⟨_, hls7, h9⟩
            · rw [if_pos (show (-1 : Int) < 0 by omega), if_neg (show ¬ e < 0 by omega)]; omega
          ·
            refine r_iload dL_leaps_126 rfl ?_
            refine r_iconst dL_leaps_128 ?_
            refine r_iadd dL_leaps_129 ?_
            refine r_goto (tgt := 134) dL_leaps_130 (by decide) ?_
            refine r_istore dL_leaps_134 (by decide) rfl ?_
            refine J.wide (k' := 2 + 2 * (r + 1)) (n' := 22 + 34 * (r + 1)) (by omega) (by omega) ?_
            refine r_goto (tgt := 37) dL_leaps_136 (by decide) ?_
            refine J.loc (lsub_cons rfl (lsub_cons rfl (lsub_cons rfl (lsub_cons rfl (lsub_cons rfl (lsub_cons rfl (lsub_cons rfl (lsub_cons rfl (lsub_cons rfl (lsub_cons rfl (lsub_nil))))))))))) (ih37 _ _ (r + 1) _ ?_ ?_)
            · have h9 := MtI.eq (τ' := uI τ6 0 (τ6 0 + 1)) hBb hna.2 hmt hc0 hA.symm (by omega) (by omega) ⟨by rw [uI_s, k60], by rw [uI_n _ (by omega), k61], by rw [uI_n _ (by omega), k62], by rw [uI_n _ (by omega), k63]⟩
              rw [if_pos (by omega)] at h9
              exact ⟨_, hls7, h9⟩
            · rw [if_neg (by omega), if_neg (by omega)]; omega
      ·
        refine r_goto (tgt := 191) dL_leaps_77 (by decide) ?_
        have hend : ∃ τ9 : Int → Int, LwS M M6 ad n F g m S len c q1 q7 τ9 f ∧ ∀ k, 0 ≤ k → k < 4 → τ9 k = tolF (mtS n F g a b) k := ⟨τ6, hls6, tol4 (hmt.stop hc0 hA.symm (by omega) ⟨k60, k61, k62, k63⟩)⟩
        refine r_iconst dL_leaps_191 ?_
        refine r_istore dL_leaps_192 (by decide) rfl ?_
        obtain ⟨τ9, hls9a, hT9⟩ := hend
        refine J.loc (L' := [(0, some _), (1, some _), (2, some _), (3, some _), (4, some _), (5, some _), (6, some _), (7, some _), (9, some _), (10, some _)]) (lsub_cons rfl (lsub_cons rfl (lsub_cons rfl (lsub_cons rfl (lsub_cons rfl (lsub_cons rfl (lsub_cons rfl (lsub_cons rfl (lsub_cons rfl (lsub_cons rfl (lsub_nil))))))))))) (loop2 (fun (k : Int) (M9 : Mem) => 0 ≤ k ∧ k ≤ 4 ∧ LwS M M9 ad n F g m S len c q1 q7 τ9 f) (fun (k : Int) (M9 : Mem) => (4 - k).toNat) (fun (k : Int) (M9 : Mem) => J KL_leaps 34 566 _ 194 [(0, some (.ref (ad 0))), (1, some (.ref (ad 112))), (2, some (.ref (ad 113))), (3, some (vI a)), (4, some (vI b)), (5, some (.ref q1)), (6, some (.ref q7)), (7, some (vI (nbF (n a) (F a) (g 0) (g 1)))), (9, some (vI e)), (10, some (vI k))] [] M9 _ _) (fun k M9 hI194 ih194 => ?_) _ _ ?_)
        ·
          obtain ⟨hk0, hk1, hls9⟩ := hI194
          refine r_iload dL_leaps_194 rfl ?_
          refine r_iconst dL_leaps_196 ?_
          refine r_icmp_ge (tgt := 225) dL_leaps_197 (by decide) (by omega) (by omega) (fun h197 => ?_) (fun h197 => ?_)
          ·
            refine r_iload dL_leaps_225 rfl ?_
            refine r_aload_n dL_leaps_227 rfl ?_
            refine r_iload_n dL_leaps_228 rfl ?_
            refine r_iconst dL_leaps_229 ?_
            refine r_callV2 okX8_of ⟨by decide, by decide⟩ ml_L_28 (mX8_of_ok (bc := 0) (bs := 0) (w := 1) hls9.1.1 hls9.1.2.vld hi (by omega) (by omega) q0 (by omega)) hls9.1.1.1 rfl rfl (Nat.le_of_ble_eq_true rfl) (by omega) (by omega) rfl dL_leaps_230 (nx_tI) (kx_tI ?_)
            intro M10 hM10
            have hls10 := hls9.goX hi hM10
            rw [show ofV (n a) (F a) g 1 = nbF (n a) (F a) (g 0) (g 1) from rfl]
            refine r_icmpNe (tgt := 240) dL_leaps_233 (by decide) ?_
            refine r_iconst dL_leaps_236 ?_
            refine r_goto (tgt := 241) dL_leaps_237 (by decide) ?_
            refine e_zreturn dL_leaps_241 rfl (by omega) (by omega) (by omega) ?_
            exact oktI rfl ⟨hls10.1, hls10.2.1⟩
          ·
            refine r_aload_n dL_leaps_200 rfl ?_
            refine r_iload_n dL_leaps_201 rfl ?_
            refine r_iload dL_leaps_202 rfl ?_
            refine r_iload dL_leaps_204 rfl ?_
            refine r_callV3 okX8_leaps ⟨by decide, by decide⟩ ml_L_22 (mX8_leaps_ok (bc := 0) (bs := 0) hls9.1.1 hls9.1.2.vld hi q0 r0 ⟨by omega, by omega⟩) hls9.1.1.1 rfl rfl (Nat.le_of_ble_eq_true rfl) (by omega) (by omega) rfl dL_leaps_206 (nx_tI) (kx_tI ?_)
            intro M10 hM10
            have hls10 := hls9.goX hi hM10
            have hq110 := hls10.2.2.1.1
            refine r_aload dL_leaps_209 rfl ?_
            refine r_iload dL_leaps_211 rfl ?_
            refine r_iaload hq110 (by omega) (by omega) (by omega) dL_leaps_213 ?_
            rw [hT9 k (by omega) (by omega)]
            refine r_icmpEq (tgt := 219) dL_leaps_214 (by decide) ?_
            refine r_iinc dL_leaps_219 rfl rfl ?_
            refine r_goto (tgt := 194) dL_leaps_222 (by decide) ?_
            refine J.loc (lsub_cons rfl (lsub_cons rfl (lsub_cons rfl (lsub_cons rfl (lsub_cons rfl (lsub_cons rfl (lsub_cons rfl (lsub_cons rfl (lsub_cons rfl (lsub_cons rfl (lsub_nil))))))))))) (ih194 _ _ ?_ ?_)
            · exact ⟨by omega, by omega, hls10⟩
            · omega
        · exact ⟨by omega, by omega, hls9a⟩
  · exact ⟨_, hls3, MtI.start (F := F) (g := g) (a := a) (b := b) (τ := fun _ => 0) hna.1 hBb ⟨rfl, rfl, rfl, rfl⟩⟩
