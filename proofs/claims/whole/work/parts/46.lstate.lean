/-! the class and the model side by side -/
theorem e2_nil {a b : String} (h : e2 a b = "") : a = "" ∧ b = "" := by
  unfold e2 at h
  by_cases e : a = ""
  · rw [if_pos e] at h; exact ⟨e, h⟩
  · rw [if_neg e] at h; exact absurd h e
theorem eStg_nil {k : Int} (h : eStg k = "") : 0 ≤ k ∧ k < 2 := by
  unfold eStg at h
  by_cases e : 0 ≤ k ∧ k < 2
  · exact e
  · rw [if_neg e] at h; exact absurd h (by decide +kernel)
theorem Vld.set1 {n : Int → Int} {F : Int → Int → Int} {g : Int → Int} (hv : Vld (n, F, g)) {k n' : Int} {F' : Int → Int} (h : Srt n' F') : Vld (uI n k n', uI F k F', g) := by
  refine ⟨fun j a b => ?_, hv.2⟩
  show Srt (uI n k n' j) (uI F k F' j)
  by_cases e : j = k
  · rw [e, uI_s, uI_s]; exact h
  · rw [uI_n _ e, uI_n _ e]; exact hv.1 j a b
theorem XSt.sts {M : Mem} {ad : Int → Nat} {n : Int → Int} {F : Int → Int → Int} {g : Int → Int} {m : Int} {S : Int → Sg3} {len : Int} {c : Int → Int} (h : XSt M ad (n, F, g) m S len c) (hv : Vld (n, F, g)) : Sts n F := fun k a b => by
  have hm : Mb M (ad (1 + 2 + k)) (ad (1 + 6 + k)) 60 (n k) (F k) := h.2.1.mb a b
  exact ⟨hm.2.2.1, hm.2.2.2.1, hv.1 k a b, hm.2.2.2.2.2⟩
theorem vld_add {n : Int → Int} {F : Int → Int → Int} {g : Int → Int} {k x : Int} (hs : Sts n F) (hv : Vld (n, F, g)) (hE : e2 (eSet k) (e2 (eB (0 ≤ x ∧ x ≤ 9999) xA) (eB (hasF (n k) (F k) x = true ∨ n k < 60) xS)) = "") : Vld (uI n k (putN 60 (n k) (F k) x), uI F k (putF 60 (n k) (F k) x), g) := by
  obtain ⟨h1, h2⟩ := e2_nil hE
  have hk := eSet_ok h1
  have h3 := eS_ok (e2_nil h2).2
  have h4 := hs k hk.1 hk.2
  refine hv.set1 ?_
  by_cases hh : hasF (n k) (F k) x = true
  · have e : putOk 60 (n k) (F k) x = false := by unfold putOk; rw [hh]; rfl
    unfold putN putF
    rw [e, if_neg (by decide), if_neg (by decide)]; exact h4.2.2.1
  · exact (put_spec h4.1 (by rcases h3 with h3 | h3; exact absurd h3 hh; exact h3) h4.2.2.1 x).1
theorem vld_cut {n : Int → Int} {F : Int → Int → Int} {g : Int → Int} {k lo hi : Int} {E : String} (hs : Sts n F) (hv : Vld (n, F, g)) (hE : e2 (eSet k) E = "") : Vld (uI n k ((cutP (n k) (F k) lo hi).1), uI F k ((cutP (n k) (F k) lo hi).2), g) := by
  have hk := eSet_ok (e2_nil hE).1
  have h4 := hs k hk.1 hk.2
  exact hv.set1 (cutP_spec h4.1 h4.2.2.1 lo hi).1
theorem vld_shift {n : Int → Int} {F : Int → Int → Int} {g : Int → Int} {k b : Int} {E : String} (hs : Sts n F) (hv : Vld (n, F, g)) (hE : e2 (eSet k) E = "") : Vld (uI n k (n k), uI F k (fun i => F k i + b), g) := by
  have hk := eSet_ok (e2_nil hE).1
  have h4 := (hs k hk.1 hk.2).2.2.1
  exact hv.set1 (fun i j a c d => by have := h4 i j a c d; show F k i + b < F k j + b; omega)
theorem vld_combine {n : Int → Int} {F : Int → Int → Int} {g : Int → Int} {k k1 k2 how : Int} {E : String} (hs : Sts n F) (hv : Vld (n, F, g)) (hE : e2 (eSet k) (e2 (eSet k1) (e2 (eSet k2) (e2 (eB (0 ≤ how ∧ how ≤ 3) xA) E))) = "") : Vld (uI n k ((jnF (n k1) (F k1) (n k2) (F k2) how).1), uI F k ((jnF (n k1) (F k1) (n k2) (F k2) how).2), g) := by
  obtain ⟨-, h1⟩ := e2_nil hE
  obtain ⟨h2, h1⟩ := e2_nil h1
  obtain ⟨h3, h1⟩ := e2_nil h1
  have h5 := eA_ok (e2_nil h1).1
  have hk1 := eSet_ok h2
  have hk2 := eSet_ok h3
  have g1 := hs k1 hk1.1 hk1.2
  have g2 := hs k2 hk2.1 hk2.2
  exact hv.set1 (jnF_spec ⟨g1.1, g1.2.1⟩ ⟨g2.1, g2.2.1⟩ g1.2.2.1 g2.2.2.1 h5).1
theorem vld_set {n : Int → Int} {F : Int → Int → Int} {g : Int → Int} {k v : Int} (hv : Vld (n, F, g)) (hE : e2 (eStg k) (eB ((k = 0 ∧ 2 ≤ v ∧ v ≤ 16) ∨ (k ≠ 0 ∧ 1 ≤ v ∧ v ≤ 9999)) xA) = "") : Vld (n, F, uI g k v) := by
  obtain ⟨h1, h2⟩ := e2_nil hE
  have hk := eStg_nil h1
  have h3 := eA_ok h2
  obtain ⟨a0, a1, a2, a3, a4⟩ := hv
  dsimp only at a1 a2 a3 a4
  refine ⟨a0, ?_⟩
  show 2 ≤ uI g k v 0 ∧ uI g k v 0 ≤ 16 ∧ 1 ≤ uI g k v 1 ∧ uI g k v 1 ≤ 9999
  by_cases e : k = 0
  · subst e
    rw [uI_s, uI_n _ (by omega)]; omega
  · obtain rfl : k = 1 := by omega
    rw [uI_s, uI_n _ (by omega)]; omega
theorem Srt.snoc {n x : Int} {F : Int → Int} (h : Srt n F) (hx : ∀ i, 0 ≤ i → i < n → F i < x) : Srt (n + 1) (uI F n x) := fun i j a b c => by
  rw [uI_n (j := i) _ (by omega)]
  by_cases e : j = n
  · rw [e, uI_s]; exact hx i a (by omega)
  · rw [uI_n _ e]; exact h i j a b (by omega)
theorem rgF_srt : ∀ (k : Nat) (v n : Int) (F : Int → Int), 0 ≤ n → Srt n F → (∀ i, 0 ≤ i → i < n → F i < v) → Srt (rgF k v n F).1 (rgF k v n F).2 ∧ ∀ i, 0 ≤ i → i < (rgF k v n F).1 → (rgF k v n F).2 i < v + k
  | 0, v, n, F, h0, hs, h => by unfold rgF; exact ⟨hs, fun i a b => by have := h i a b; show F i < v + ((0 : Nat) : Int); omega⟩
  | k + 1, v, n, F, h0, hs, h => by
    unfold rgF
    have h9 := rgF_srt k (v + 1) (n + 1) (uI F n v) (by omega) (hs.snoc h) (fun i a b => by
      by_cases e : i = n
      · rw [e, uI_s]; omega
      · rw [uI_n _ e]; have := h i a (by omega); omega)
    exact ⟨h9.1, fun i a b => by have := h9.2 i a b; omega⟩
theorem flF_srt {pa : Int} {A B : Int → Int} (ha : Asc pa A B) : ∀ (k : Nat) (j n : Int) (F : Int → Int), 0 ≤ n → 0 ≤ j → j + k ≤ pa → Srt n F → (0 < j → ∀ i, 0 ≤ i → i < n → F i ≤ B (j - 1)) → (j = 0 → n = 0) → Srt (flF A B k j n F).1 (flF A B k j n F).2
  | 0, j, n, F, h0, hj, hk, hs, h1, h2 => by unfold flF; exact hs
  | k + 1, j, n, F, h0, hj, hk, hs, h1, h2 => by
    unfold flF
    have hA := ha.1 j hj (by omega)
    have hr := rgF_srt (B j - A j + 1).toNat (A j) n F h0 hs (fun i a b => by
      by_cases e : j = 0
      · have := h2 e; omega
      · have g1 := h1 (by omega) i a b
        have g2 := ha.2 j (by omega) (by omega)
        omega)
    have hn := rgF_n (B j - A j + 1).toNat (A j) n F
    exact flF_srt ha k (j + 1) _ _ (by omega) (by omega) (by omega) hr.1 (fun _ i a b => by
      have := hr.2 i a b
      rw [show j + 1 - 1 = j by omega]; omega) (fun e => by omega)
theorem vld_read {n : Int → Int} {F : Int → Int → Int} {g : Int → Int} {k len : Int} {c : Int → Int} {E : String} (hl : 0 ≤ len) (hv : Vld (n, F, g)) (hE : e2 (eSet k) (e2 (eB (pwF len c = true) xA) E) = "") : Vld (uI n k ((flF (ptA len c) (ptB len c) (ptN len c).toNat 0 0 (fun _ => 0)).1), uI F k ((flF (ptA len c) (ptB len c) (ptN len c).toNat 0 0 (fun _ => 0)).2), g) := by
  have h1 := eA_ok (e2_nil (e2_nil hE).2).1
  have h2 := pt_asc hl h1
  exact hv.set1 (flF_srt h2.1 _ 0 0 _ (by omega) (by omega) (by omega) (fun i j a b c => by omega) (fun h => by omega) (fun _ => rfl))
theorem vld_sv {m : Int} {S : Int → Sg3} {σ : Sg3} (hm : 0 ≤ m ∧ m ≤ 6) (hs : ∀ k, 0 ≤ k → k < m → Vld (S k)) (hv : Vld σ) : ∀ k, 0 ≤ k → k < svM m → Vld (svS m S σ k) := fun k a b => by
  unfold svM at b
  unfold svS
  by_cases h : m < 6
  · rw [if_pos h] at b ⊢
    split
    · exact hv
    · exact hs k a (by omega)
  · rw [if_neg h] at b ⊢
    split
    · exact hv
    · exact hs (k + 1) (by omega) (by omega)
/-- nothing of the class has changed -/
theorem XSt.frame {M M2 : Mem} {ad : Int → Nat} {σ : Sg3} {m : Int} {S : Int → Sg3} {len : Int} {c : Int → Int} (h : XSt M ad σ m S len c) (hk : ∀ i, 0 ≤ i → i < 112 → M2 (ad i) = M (ad i)) : XSt M2 ad σ m S len c := by
  obtain ⟨a0, a1, a2, a3, a4, a5, a6, ⟨tn, tF, a7⟩, ⟨wn, wF, a8⟩⟩ := h
  exact ⟨(hk 0 (by omega) (by omega)).trans a0, a1.frame (fun i a b => hk i (by omega) (by omega)), a2.frame (fun i a b => hk i (by omega) (by omega)), a3.frame (hk _ (by omega) (by omega)) (hk _ (by omega) (by omega)), a4.frame (fun i a b => hk i (by omega) (by omega)), a5.frame (hk _ (by omega) (by omega)) (hk _ (by omega) (by omega)), a6.frame (fun i a b => hk i (by omega) (by omega)), ⟨tn, tF, a7.frame (hk _ (by omega) (by omega)) (hk _ (by omega) (by omega))⟩, ⟨wn, wF, a8.frame (hk _ (by omega) (by omega)) (hk _ (by omega) (by omega))⟩⟩
/-- .. of the model -/
theorem RS.re {M0 M M2 : Mem} {ad : Int → Nat} {σ : Sg3} {m : Int} {S : Int → Sg3} {len : Int} {c : Int → Int} {th : Int} (h : RS M0 M ad σ m S len c th) (hk : ∀ i, 112 ≤ i → i < 121 → M2 (ad i) = M (ad i)) : RS M2 M2 ad σ m S len c th := by
  obtain ⟨zA, hA, tA, pA, rd, nu, bd, sc, hs, ⟨rA, sA, bA, wA, rm, bk, b0, b1, b2, b3, b4, b5, b6, b7, b8, -⟩, h2⟩ := h
  exact ⟨zA, hA, tA, pA, rd, nu, bd, sc, hs, ⟨rA, sA, bA, wA, rm, bk, (hk _ (by omega) (by omega)).trans b0, (hk _ (by omega) (by omega)).trans b1, (hk _ (by omega) (by omega)).trans b2, (hk _ (by omega) (by omega)).trans b3, (hk _ (by omega) (by omega)).trans b4, (hk _ (by omega) (by omega)).trans b5, (hk _ (by omega) (by omega)).trans b6, (hk _ (by omega) (by omega)).trans b7, (hk _ (by omega) (by omega)).trans b8, FrI.rf⟩, h2⟩
theorem RS.fr {M0 M : Mem} {ad : Int → Nat} {σ : Sg3} {m : Int} {S : Int → Sg3} {len : Int} {c : Int → Int} {th : Int} (h : RS M0 M ad σ m S len c th) : FrI ad 112 121 M0 M := by
  obtain ⟨zA, hA, tA, pA, rd, nu, bd, sc, hs, ⟨rA, sA, bA, wA, rm, bk, hm⟩, h2⟩ := h
  exact hm.fr
theorem RS.ob {M0 M : Mem} {ad : Int → Nat} {σ : Sg3} {m : Int} {S : Int → Sg3} {len : Int} {c : Int → Int} {th : Int} (h : RS M0 M ad σ m S len c th) : ∃ fs : List Value, M (ad 112) = some (oC 9 fs) := by
  obtain ⟨zA, hA, tA, pA, rd, nu, bd, sc, hs, ⟨rA, sA, bA, wA, rm, bk, hm⟩, h2⟩ := h
  exact ⟨_, hm.o⟩
theorem RS.thrown {M0 M : Mem} {ad : Int → Nat} {σ : Sg3} {m : Int} {S : Int → Sg3} {len : Int} {c : Int → Int} {th : Int} (h : RS M0 M ad σ m S len c th) : Ct KX9_thrown [.ref (ad 112)] M 0 0 (rtI th M) := by
  obtain ⟨zA, hA, tA, pA, rd, nu, bd, sc, hs, ⟨rA, sA, bA, wA, rm, bk, hm⟩, h2⟩ := h
  exact mX9_thrown hm
/-- both, and the law's array -/
def Bth (M : Mem) (ad : Int → Nat) (σ : Sg3) (m : Int) (S : Int → Sg3) (len : Int) (c : Int → Int) (th : Int) : Prop := XSt M ad σ m S len c ∧ RS M M ad σ m S len c th ∧ (∃ f : Int → Int64, M (ad 121) = some (aL 1 f)) ∧ Vld σ ∧ ∀ k, 0 ≤ k → k < m → Vld (S k)
def BthG (M : Mem) (ad : Int → Nat) : Prop := ∃ (σ : Sg3) (m : Int) (S : Int → Sg3) (len : Int) (c : Int → Int) (th : Int), Bth M ad σ m S len c th
section BthS
variable {M M1 M2 : Mem} {ad : Int → Nat} {σ σ' : Sg3} {m m' : Int} {S S' : Int → Sg3} {len len' : Int} {c c' : Int → Int} {th th' : Int}
theorem FrI.w {lo hi : Int} (h : FrI ad lo hi M M1) (h0 : 0 ≤ lo) (h1 : hi ≤ 122) : FrI ad 0 122 M M1 := h.mono h0 h1
theorem Bth.m6 (h : Bth M ad σ m S len c th) : 0 ≤ m ∧ m ≤ 6 := by
  obtain ⟨nx, -, -, a, b, -⟩ := h.1.2.2.1
  exact ⟨a, b⟩
theorem Bth.rs1 (h : Bth M ad σ m S len c th) (hi : Inj ad) (hf : FrI ad 0 112 M M1) : RS M1 M1 ad σ m S len c th := h.2.1.re (fun i a b => hf.at hi ⟨by omega, by omega⟩ ⟨by omega, by omega⟩ (by omega))
theorem Bth.out1 (h : Bth M ad σ m S len c th) (hi : Inj ad) (hf : FrI ad 0 112 M M1) : ∃ f : Int → Int64, M1 (ad 121) = some (aL 1 f) := by
  obtain ⟨f, ho⟩ := h.2.2.1
  exact ⟨f, (hf.at hi ⟨by omega, by omega⟩ (j := 121) ⟨by omega, by omega⟩ (by omega)).trans ho⟩
/-- both have gone on -/
theorem Bth.join (hi : Inj ad) (hx : XSt M1 ad σ' m' S' len' c') (ho : ∃ f : Int → Int64, M1 (ad 121) = some (aL 1 f)) (hr : RS M1 M2 ad σ' m' S' len' c' th') (hv : Vld σ') (hs : ∀ k, 0 ≤ k → k < m' → Vld (S' k)) : Bth M2 ad σ' m' S' len' c' th' := by
  have hf := hr.fr
  obtain ⟨f, ho⟩ := ho
  exact ⟨hx.frame (fun i a b => hf.at hi ⟨by omega, by omega⟩ ⟨by omega, by omega⟩ (by omega)), hr.re (fun _ _ _ => rfl), ⟨f, (hf.at hi ⟨by omega, by omega⟩ (j := 121) ⟨by omega, by omega⟩ (by omega)).trans ho⟩, hv, hs⟩
theorem Bth.mid {E : String} {z : Int} {tc : String → Int} {v : Option Value} (h : Bth M ad σ m S len c th) (hi : Inj ad) (hu : UL ad E z tc (fun M2 => XSt M2 ad σ' m' S' len' c' ∧ FrI ad 0 112 M M2) (fun M2 => XSt M2 ad σ m S len c ∧ FrI ad 0 112 M M2) (.inl v) M1) :
    ∃ v5 : Int, v = some (vI v5) ∧ RS M1 M1 ad σ m S len c th ∧ FrI ad 0 122 M M1 ∧ (∃ f : Int → Int64, M1 (ad 121) = some (aL 1 f) ∧ (E = "" → f 0 = (iN z).toInt64)) ∧ (if E = "" then v5 = 0 ∧ XSt M1 ad σ' m' S' len' c' else v5 = tc E ∧ XSt M1 ad σ m S len c) := by
  obtain ⟨v5, hv, hu⟩ := hu
  cases hv
  by_cases e : E = ""
  · rw [if_pos e] at hu
    obtain ⟨rfl, M9, f, ⟨hx, hf⟩, rfl, hz⟩ := hu
    have hk : ∀ i, 0 ≤ i → i < 121 → up M9 (ad 121) (aL 1 f) (ad i) = M9 (ad i) := fun i a b => up_n _ (hi.ne ⟨by omega, by omega⟩ ⟨by omega, by omega⟩ (by omega))
    refine ⟨0, rfl, (h.rs1 hi hf).re (fun i a b => hk i (by omega) (by omega)), (hf.w (by omega) (by omega)).up ⟨by omega, by omega⟩, ⟨f, up_s _ _ _, fun _ => hz⟩, ?_⟩
    rw [if_pos e]
    exact ⟨rfl, hx.frame (fun i a b => hk i (by omega) (by omega))⟩
  · rw [if_neg e] at hu
    obtain ⟨rfl, hx, hf⟩ := hu
    obtain ⟨f, ho⟩ := h.out1 hi hf
    refine ⟨_, rfl, h.rs1 hi hf, hf.w (by omega) (by omega), ⟨f, ho, fun h => absurd h e⟩, ?_⟩
    rw [if_neg e]
    exact ⟨rfl, hx⟩
def tcOk (tc : String → Int) : Prop := ∀ E, E ≠ "" → 1 ≤ tc E ∧ tc E ≤ 3
theorem tc3_ok : tcOk tc3 := fun E h => by unfold tc3; rw [if_neg h]; split; omega; split <;> omega
theorem tcA_ok : tcOk tcA := fun E h => by unfold tcA; rw [if_neg h]; split <;> omega
theorem tc1_ok : tcOk tc1 := fun E h => by unfold tc1; rw [if_neg h]; omega
theorem Bth.fin {E : String} {z v5 : Int} {tc : String → Int} {v : Option Value} (h : Bth M ad σ m S len c th) (hi : Inj ad) (htc : tcOk tc) (hvs : E = "" → Vld σ' ∧ ∀ k, 0 ≤ k → k < m' → Vld (S' k)) (hf : FrI ad 0 122 M M1) (ho : ∃ f : Int → Int64, M1 (ad 121) = some (aL 1 f) ∧ (E = "" → f 0 = (iN z).toInt64)) (h5 : if E = "" then v5 = 0 ∧ XSt M1 ad σ' m' S' len' c' else v5 = tc E ∧ XSt M1 ad σ m S len c)
    (hr : UR E z tc (fun M2 => RS M1 M2 ad σ' m' S' len' c' 0) (fun t M2 => RS M1 M2 ad σ m S len c t) (.inl v) M2) :
    ∃ v6 : Int, v = some (vI v6) ∧ (0 ≤ v5 ∧ v5 ≤ 3) ∧ FrI ad 0 122 M M2 ∧ (∃ f : Int → Int64, M2 (ad 121) = some (aL 1 f) ∧ (v5 = 0 → f 0 = (iN v6).toInt64)) ∧ ∃ (σ9 : Sg3) (m9 : Int) (S9 : Int → Sg3) (len9 : Int) (c9 : Int → Int), Bth M2 ad σ9 m9 S9 len9 c9 v5 := by
  obtain ⟨v6, hv, hr⟩ := hr
  cases hv
  obtain ⟨f, ho, hz⟩ := ho
  by_cases e : E = ""
  · rw [if_pos e] at hr h5
    obtain ⟨rfl, hr⟩ := hr
    obtain ⟨rfl, hx⟩ := h5
    have hj := Bth.join hi hx ⟨f, ho⟩ hr (hvs e).1 (hvs e).2
    exact ⟨_, rfl, ⟨by omega, by omega⟩, hf.trans (hr.fr.w (by omega) (by omega)), ⟨f, (hr.fr.at hi ⟨by omega, by omega⟩ (j := 121) ⟨by omega, by omega⟩ (by omega)).trans ho, fun _ => hz e⟩, _, _, _, _, _, hj⟩
  · rw [if_neg e] at hr h5
    obtain ⟨rfl, hx⟩ := h5
    have h9 := htc E e
    have hj := Bth.join hi hx ⟨f, ho⟩ hr h.2.2.2.1 h.2.2.2.2
    exact ⟨_, rfl, ⟨by omega, by omega⟩, hf.trans (hr.fr.w (by omega) (by omega)), ⟨f, (hr.fr.at hi ⟨by omega, by omega⟩ (j := 121) ⟨by omega, by omega⟩ (by omega)).trans ho, fun h0 => absurd h0 (by omega)⟩, _, _, _, _, _, hj⟩
end BthS
theorem nx_UL {ad : Int → Nat} {E : String} {z : Int} {tc : String → Int} {P P0 : Mem → Prop} {Q : Rs → Mem → Prop} : ∀ (E2 : String) (M2 : Mem), UL ad E z tc P P0 (.inr E2) M2 → Q (.inr E2) M2 := fun _ _ h => by obtain ⟨v, h, -⟩ := h; exact nomatch h
theorem nx_UR {E : String} {z : Int} {tc : String → Int} {P : Mem → Prop} {P0 : Int → Mem → Prop} {Q : Rs → Mem → Prop} : ∀ (E2 : String) (M2 : Mem), UR E z tc P P0 (.inr E2) M2 → Q (.inr E2) M2 := fun _ _ h => by obtain ⟨v, h, -⟩ := h; exact nomatch h
