/-! the law: one act -/
theorem e2_ok {a b : String} (h1 : a = "") (h2 : b = "") : e2 a b = "" := by unfold e2; rw [if_pos h1]; exact h2
theorem eSet_in {k : Int} (h : 0 ≤ k ∧ k < 4) : eSet k = "" := by unfold eSet; rw [if_pos h]
theorem eStg_in {k : Int} (h : 0 ≤ k ∧ k < 2) : eStg k = "" := by unfold eStg; rw [if_pos h]
theorem eB_in {b : Prop} [Decidable b] {E : String} (h : b) : eB b E = "" := by unfold eB; rw [if_pos h]
/-- some state of the class, and the law's rows like it -/
def CLG (M : Mem) (ad : Int → Nat) : Prop := ∃ (n : Int → Int) (F : Int → Int → Int) (g : Int → Int) (m : Int) (S : Int → Sg3) (len : Int) (c : Int → Int), CL M ad n F g m S len c
theorem XSt.fr2 {M M2 : Mem} {ad : Int → Nat} {σ : Sg3} {m : Int} {S : Int → Sg3} {len : Int} {c : Int → Int} (h : XSt M ad σ m S len c) (hi : Inj ad) (hf : Fr2 (ad 112) (ad 113) M M2) : XSt M2 ad σ m S len c :=
  h.frame (fun i a b => hf _ (hi.ne ⟨by omega, by omega⟩ ⟨by omega, by omega⟩ (by omega)) (hi.ne ⟨by omega, by omega⟩ ⟨by omega, by omega⟩ (by omega)))
theorem LwR.frI {M M2 : Mem} {ad : Int → Nat} {n : Int → Int} {F : Int → Int → Int} {g : Int → Int} {m : Int} (h : LwR M ad n F g m) (hi : Inj ad) (hf : FrI ad 0 112 M M2) : LwR M2 ad n F g m :=
  h.frame (hf.at hi ⟨by omega, by omega⟩ ⟨by omega, by omega⟩ (by omega)) (hf.at hi ⟨by omega, by omega⟩ ⟨by omega, by omega⟩ (by omega))
theorem svM_r {m : Int} (h : 0 ≤ m ∧ m ≤ 6) : 0 ≤ svM m ∧ svM m ≤ 6 := by unfold svM; split <;> omega
theorem cut_one {n x : Int} {F : Int → Int} (hn : 0 ≤ n) (hs : Srt n F) (hx : Memb n F x) : n - (cutP n F x x).1 = 1 := by
  obtain ⟨h1, h2, h3⟩ := cutP_spec hn hs x x
  have h4 : ¬ Memb (cutP n F x x).1 (cutP n F x x).2 x := fun h => by have := ((h2 x).mp h).2; omega
  obtain ⟨h5, h6⟩ := ins_spec h3 h1 h4
  have h7 := srt_unique hn (by omega) hs h5 (fun y => by
    rw [h6 y, h2 y]
    constructor
    · intro h
      by_cases e : y = x
      · exact Or.inr e
      · exact Or.inl ⟨h, by omega⟩
    · rintro (h | rfl)
      · exact h.1
      · exact hx)
  omega
theorem uI_uI {α : Type} (f : Int → α) (i : Int) (x y : α) : uI (uI f i x) i y = uI f i y := by
  funext j
  unfold uI
  split <;> rfl
/-- the numbers of a row put into an empty set one by one -/
def fdF (D : Int → Int) : Nat → Int × (Int → Int)
  | 0 => (0, fun _ => 0)
  | k + 1 => (putN 120 (fdF D k).1 (fdF D k).2 (D k), putF 120 (fdF D k).1 (fdF D k).2 (D k))
theorem fdF_cong {D D' : Int → Int} : ∀ (k : Nat), (∀ j : Int, 0 ≤ j → j < k → D j = D' j) → fdF D k = fdF D' k
  | 0, _ => rfl
  | k + 1, h => by
    unfold fdF
    rw [fdF_cong k (fun j a b => h j a (by omega)), h k (by omega) (by omega)]
def FdS (D : Int → Int) (mn : Int) (P : Int → Prop) : Prop := (0 ≤ mn ∧ mn ≤ 32) ∧ (fdF D mn.toNat).1 = mn ∧ Srt mn (fdF D mn.toNat).2 ∧ (∀ y, Memb mn (fdF D mn.toNat).2 y → P y) ∧ ∀ j, 0 ≤ j → j < mn → 0 ≤ D j ∧ D j ≤ 9999
theorem FdS.weak {D : Int → Int} {mn : Int} {P P' : Int → Prop} (h : FdS D mn P) (hp : ∀ y, P y → P' y) : FdS D mn P' := ⟨h.1, h.2.1, h.2.2.1, fun y hy => hp y (h.2.2.2.1 y hy), h.2.2.2.2⟩
theorem FdS.start (D : Int → Int) (P : Int → Prop) : FdS D 0 P := ⟨by omega, rfl, fun i j a b c => by omega, fun y ⟨i, a, b, _⟩ => by omega, fun j a b => by omega⟩
theorem fdF_step {D : Int → Int} {mn x : Int} (h0 : 0 ≤ mn) : fdF (uI D mn x) (mn + 1).toNat = (putN 120 (fdF D mn.toNat).1 (fdF D mn.toNat).2 x, putF 120 (fdF D mn.toNat).1 (fdF D mn.toNat).2 x) := by
  rw [show (mn + 1).toNat = mn.toNat + 1 by omega, fdF, Int.toNat_of_nonneg h0, uI_s, fdF_cong mn.toNat (D := uI D mn x) (D' := D) (fun j a b => uI_n _ (by omega))]
theorem FdS.step {D : Int → Int} {mn x : Int} {P P' : Int → Prop} (h : FdS D mn P) (hx : ¬ P x) (h0 : 0 ≤ x ∧ x ≤ 9999) (h1 : mn < 32) (hp : ∀ y, P y ∨ y = x → P' y) : FdS (uI D mn x) (mn + 1) P' := by
  obtain ⟨a, b, c, d, e⟩ := h
  have hnm : ¬ Memb mn (fdF D mn.toNat).2 x := fun h => hx (d x h)
  have hnh : hasF mn (fdF D mn.toNat).2 x = false := by
    cases h9 : hasF mn (fdF D mn.toNat).2 x
    · rfl
    · exact absurd ((hasF_iff a.1 c x).mp h9) hnm
  have hpo : putOk 120 mn (fdF D mn.toNat).2 x = true := by
    unfold putOk
    rw [hnh, decide_eq_true (show mn < ((120 : Nat) : Int) by omega)]; rfl
  obtain ⟨i1, i2⟩ := ins_spec a.1 c hnm
  have e1 : (fdF (uI D mn x) (mn + 1).toNat).1 = mn + 1 := by rw [fdF_step a.1, b]; show putN 120 mn _ x = _; unfold putN; rw [if_pos hpo]
  have e2 : (fdF (uI D mn x) (mn + 1).toNat).2 = insF (fdF D mn.toNat).2 (plc mn (fdF D mn.toNat).2 x) x := by rw [fdF_step a.1, b]; show putF 120 mn _ x = _; unfold putF; rw [if_pos hpo]
  refine ⟨by omega, e1, by rw [e2]; exact i1, fun y hy => ?_, fun j j0 j1 => ?_⟩
  · rw [e2] at hy
    rcases (i2 y).mp hy with h | h
    · exact hp y (Or.inl (d y h))
    · exact hp y (Or.inr h)
  · by_cases ej : j = mn
    · rw [ej, uI_s]; exact h0
    · rw [uI_n _ ej]; exact e j j0 (by omega)
theorem fdF_r {D : Int → Int} : ∀ (k : Nat), 0 ≤ (fdF D k).1 ∧ (fdF D k).1 ≤ k
  | 0 => by show (0 : Int) ≤ 0 ∧ (0 : Int) ≤ ((0 : Nat) : Int); omega
  | k + 1 => by
    have h := fdF_r (D := D) k
    show 0 ≤ putN 120 _ _ _ ∧ putN 120 _ _ _ ≤ ((k + 1 : Nat) : Int)
    unfold putN
    split <;> omega
/-- where the first loop of combine stands -/
def JaI (n : Int → Int) (F : Int → Int → Int) (a b how p mn : Int) (D : Int → Int) : Prop := mn ≤ p ∧ FdS D mn (fun y => ∃ j, 0 ≤ j ∧ j < p ∧ F a j = y) ∧ jnA (F a) (n b) (F b) how (n a).toNat 0 0 (fun _ => 0) = jnA (F a) (n b) (F b) how (n a - p).toNat p (fdF D mn.toNat).1 (fdF D mn.toNat).2
theorem JaI.start (n : Int → Int) (F : Int → Int → Int) (a b how : Int) (D : Int → Int) : JaI n F a b how 0 0 D := ⟨by omega, FdS.start _ _, by rw [show n a - 0 = n a by omega]; rfl⟩
theorem JaI.yes {n : Int → Int} {F : Int → Int → Int} {a b how p mn : Int} {D : Int → Int} (h : JaI n F a b how p mn D) (hs : Srt (n a) (F a)) (hp : 0 ≤ p ∧ p < n a) (h16 : n a ≤ 16) (hv : 0 ≤ F a p ∧ F a p ≤ 9999) (hc : how = 0 ∨ bI (hasF (n b) (F b) (F a p)) = (if how = 1 then 1 else 0)) : JaI n F a b how (p + 1) (mn + 1) (uI D mn (F a p)) := by
  obtain ⟨h1, h2, h3⟩ := h
  refine ⟨by omega, h2.step ?_ hv (by omega) ?_, ?_⟩
  · rintro ⟨j, j0, j1, j2⟩
    have := hs j p j0 j1 hp.2
    omega
  · rintro y (⟨j, j0, j1, j2⟩ | rfl)
    · exact ⟨j, j0, by omega, j2⟩
    · exact ⟨p, hp.1, by omega, rfl⟩
  · rw [h3, show (n a - p).toNat = (n a - (p + 1)).toNat + 1 by omega, jnA, if_pos hc, fdF_step h2.1.1]
theorem JaI.no {n : Int → Int} {F : Int → Int → Int} {a b how p mn : Int} {D : Int → Int} (h : JaI n F a b how p mn D) (hp : 0 ≤ p ∧ p < n a) (hc : ¬ (how = 0 ∨ bI (hasF (n b) (F b) (F a p)) = (if how = 1 then 1 else 0))) : JaI n F a b how (p + 1) mn D := by
  obtain ⟨h1, h2, h3⟩ := h
  refine ⟨by omega, h2.weak ?_, ?_⟩
  · rintro y ⟨j, j0, j1, j2⟩
    exact ⟨j, j0, by omega, j2⟩
  · rw [h3, show (n a - p).toNat = (n a - (p + 1)).toNat + 1 by omega, jnA, if_neg hc]
/-- where the second one stands -/
def JbI (n : Int → Int) (F : Int → Int → Int) (a b how p mn : Int) (D : Int → Int) : Prop := mn ≤ n a + p ∧ FdS D mn (fun y => Memb (n a) (F a) y ∨ ∃ j, 0 ≤ j ∧ j < p ∧ F b j = y) ∧ jnF (n a) (F a) (n b) (F b) how = if how = 0 ∨ how = 3 then jnB (n a) (F a) (F b) (n b - p).toNat p (fdF D mn.toNat).1 (fdF D mn.toNat).2 else fdF D mn.toNat
theorem JbI.start {n : Int → Int} {F : Int → Int → Int} {a b how p mn : Int} {D : Int → Int} (h : JaI n F a b how p mn D) (hp : p = n a) : JbI n F a b how 0 mn D := by
  obtain ⟨h1, h2, h3⟩ := h
  subst hp
  rw [show (n a - n a).toNat = 0 by omega, jnA] at h3
  refine ⟨by omega, h2.weak (fun y hy => Or.inl hy), ?_⟩
  unfold jnF
  rw [h3, show n b - 0 = n b by omega]
theorem JbI.yes {n : Int → Int} {F : Int → Int → Int} {a b how p mn : Int} {D : Int → Int} (h : JbI n F a b how p mn D) (ha : 0 ≤ n a) (hs : Srt (n a) (F a)) (hs2 : Srt (n b) (F b)) (hp : 0 ≤ p ∧ p < n b) (h16 : n a ≤ 16 ∧ n b ≤ 16) (hv : 0 ≤ F b p ∧ F b p ≤ 9999) (hh : how = 0 ∨ how = 3) (hc : bI (hasF (n a) (F a) (F b p)) = 0) : JbI n F a b how (p + 1) (mn + 1) (uI D mn (F b p)) := by
  obtain ⟨h1, h2, h3⟩ := h
  rw [if_pos hh] at h3
  refine ⟨by omega, h2.step ?_ hv (by omega) ?_, ?_⟩
  · rintro (h | ⟨j, j0, j1, j2⟩)
    · rw [(hasF_iff ha hs _).mpr h] at hc
      exact absurd hc (by decide)
    · have := hs2 j p j0 j1 hp.2
      omega
  · rintro y ((h | ⟨j, j0, j1, j2⟩) | rfl)
    · exact Or.inl h
    · exact Or.inr ⟨j, j0, by omega, j2⟩
    · exact Or.inr ⟨p, hp.1, by omega, rfl⟩
  · rw [if_pos hh, h3, show (n b - p).toNat = (n b - (p + 1)).toNat + 1 by omega, jnB, if_pos hc, fdF_step h2.1.1]
theorem JbI.no {n : Int → Int} {F : Int → Int → Int} {a b how p mn : Int} {D : Int → Int} (h : JbI n F a b how p mn D) (hp : 0 ≤ p ∧ p < n b) (hc : (how = 0 ∨ how = 3) → ¬ bI (hasF (n a) (F a) (F b p)) = 0) : JbI n F a b how (p + 1) mn D := by
  obtain ⟨h1, h2, h3⟩ := h
  refine ⟨by omega, h2.weak ?_, ?_⟩
  · rintro y (h | ⟨j, j0, j1, j2⟩)
    · exact Or.inl h
    · exact Or.inr ⟨j, j0, by omega, j2⟩
  · rw [h3]
    by_cases e : how = 0 ∨ how = 3
    · rw [if_pos e, if_pos e, show (n b - p).toNat = (n b - (p + 1)).toNat + 1 by omega, jnB, if_neg (hc e)]
    · rw [if_neg e, if_neg e]
theorem JbI.fin {n : Int → Int} {F : Int → Int → Int} {a b how p mn : Int} {D : Int → Int} (h : JbI n F a b how p mn D) (hp : p = n b) : jnF (n a) (F a) (n b) (F b) how = fdF D mn.toNat := by
  obtain ⟨h1, h2, h3⟩ := h
  subst hp
  rw [h3, show (n b - n b).toNat = 0 by omega, jnB]
  split <;> rfl
theorem jsv_119 {bc bs : Nat} {Q : Rs → Mem → Prop} {L : Ls} {M : Mem} {ad : Int → Nat} {n : Int → Int} {F : Int → Int → Int} {g : Int → Int} {m : Int} {k9 n9 : Nat} (hl : LwR M ad n F g m) (hi : Inj ad) (h3 : lk L 3 = some (.ref (ad 112))) (kk : ∀ M', LwR M' ad n F g (svM m) → Fr2 (ad 112) (ad 113) M M' → J KL_act bc bs Q 136 L [] M' k9 n9) : J KL_act bc bs Q 119 L [] M k9 n9 := by
  obtain ⟨w, v, hn1, hm1, hlv⟩ := id hl
  obtain ⟨-, -, -, hw6, -, -, hm6⟩ := id hlv
  have hBA : ad 113 ≠ ad 112 := hi.ne ⟨by omega, by omega⟩ ⟨by omega, by omega⟩ (by omega)
  refine r_aload_n dL_act_119 h3 ?_
  refine r_bipush dL_act_120 (by decide) ?_
  refine r_iaload hn1 (by omega) (by omega) (by omega) dL_act_122 ?_
  rw [hw6]
  refine r_bipush dL_act_123 (by decide) ?_
  refine r_icmp_ge (tgt := 136) dL_act_125 (by decide) (by omega) (by omega) (fun h => ?_) (fun h => ?_)
  · have e : svM m = m := by unfold svM; rw [if_neg (by omega)]; omega
    exact kk M (by rw [e]; exact hl) (fun _ _ _ => rfl)
  · have e : svM m = m + 1 := by unfold svM; rw [if_pos (by omega)]
    refine r_aload_n dL_act_128 h3 ?_
    refine r_bipush dL_act_129 (by decide) ?_
    refine r_dup2 dL_act_131 ?_
    refine r_iaload hn1 (by omega) (by omega) (by omega) dL_act_132 ?_
    refine r_iconst dL_act_133 ?_
    refine r_iadd dL_act_134 ?_
    refine r_iastore hn1 (by omega) (by omega) (by omega) dL_act_135 ?_
    exact kk _ ⟨_, v, up_s _ _ _, (up_n _ hBA).trans hm1, hlv.upd6 (svM_r hm6) (by rw [uI_s, hw6, e]) (fun j hj => uI_n _ hj)⟩ Fr2.rf.up1

theorem jsv_211 {bc bs : Nat} {Q : Rs → Mem → Prop} {L : Ls} {M : Mem} {ad : Int → Nat} {n : Int → Int} {F : Int → Int → Int} {g : Int → Int} {m : Int} {k9 n9 : Nat} (hl : LwR M ad n F g m) (hi : Inj ad) (h3 : lk L 3 = some (.ref (ad 112))) (kk : ∀ M', LwR M' ad n F g (svM m) → Fr2 (ad 112) (ad 113) M M' → J KL_act bc bs Q 228 L [] M' k9 n9) : J KL_act bc bs Q 211 L [] M k9 n9 := by
  obtain ⟨w, v, hn1, hm1, hlv⟩ := id hl
  obtain ⟨-, -, -, hw6, -, -, hm6⟩ := id hlv
  have hBA : ad 113 ≠ ad 112 := hi.ne ⟨by omega, by omega⟩ ⟨by omega, by omega⟩ (by omega)
  refine r_aload_n dL_act_211 h3 ?_
  refine r_bipush dL_act_212 (by decide) ?_
  refine r_iaload hn1 (by omega) (by omega) (by omega) dL_act_214 ?_
  rw [hw6]
  refine r_bipush dL_act_215 (by decide) ?_
  refine r_icmp_ge (tgt := 228) dL_act_217 (by decide) (by omega) (by omega) (fun h => ?_) (fun h => ?_)
  · have e : svM m = m := by unfold svM; rw [if_neg (by omega)]; omega
    exact kk M (by rw [e]; exact hl) (fun _ _ _ => rfl)
  · have e : svM m = m + 1 := by unfold svM; rw [if_pos (by omega)]
    refine r_aload_n dL_act_220 h3 ?_
    refine r_bipush dL_act_221 (by decide) ?_
    refine r_dup2 dL_act_223 ?_
    refine r_iaload hn1 (by omega) (by omega) (by omega) dL_act_224 ?_
    refine r_iconst dL_act_225 ?_
    refine r_iadd dL_act_226 ?_
    refine r_iastore hn1 (by omega) (by omega) (by omega) dL_act_227 ?_
    exact kk _ ⟨_, v, up_s _ _ _, (up_n _ hBA).trans hm1, hlv.upd6 (svM_r hm6) (by rw [uI_s, hw6, e]) (fun j hj => uI_n _ hj)⟩ Fr2.rf.up1

theorem jsv_279 {bc bs : Nat} {Q : Rs → Mem → Prop} {L : Ls} {M : Mem} {ad : Int → Nat} {n : Int → Int} {F : Int → Int → Int} {g : Int → Int} {m : Int} {k9 n9 : Nat} (hl : LwR M ad n F g m) (hi : Inj ad) (h3 : lk L 3 = some (.ref (ad 112))) (kk : ∀ M', LwR M' ad n F g (svM m) → Fr2 (ad 112) (ad 113) M M' → J KL_act bc bs Q 296 L [] M' k9 n9) : J KL_act bc bs Q 279 L [] M k9 n9 := by
  obtain ⟨w, v, hn1, hm1, hlv⟩ := id hl
  obtain ⟨-, -, -, hw6, -, -, hm6⟩ := id hlv
  have hBA : ad 113 ≠ ad 112 := hi.ne ⟨by omega, by omega⟩ ⟨by omega, by omega⟩ (by omega)
  refine r_aload_n dL_act_279 h3 ?_
  refine r_bipush dL_act_280 (by decide) ?_
  refine r_iaload hn1 (by omega) (by omega) (by omega) dL_act_282 ?_
  rw [hw6]
  refine r_bipush dL_act_283 (by decide) ?_
  refine r_icmp_ge (tgt := 296) dL_act_285 (by decide) (by omega) (by omega) (fun h => ?_) (fun h => ?_)
  · have e : svM m = m := by unfold svM; rw [if_neg (by omega)]; omega
    exact kk M (by rw [e]; exact hl) (fun _ _ _ => rfl)
  · have e : svM m = m + 1 := by unfold svM; rw [if_pos (by omega)]
    refine r_aload_n dL_act_288 h3 ?_
    refine r_bipush dL_act_289 (by decide) ?_
    refine r_dup2 dL_act_291 ?_
    refine r_iaload hn1 (by omega) (by omega) (by omega) dL_act_292 ?_
    refine r_iconst dL_act_293 ?_
    refine r_iadd dL_act_294 ?_
    refine r_iastore hn1 (by omega) (by omega) (by omega) dL_act_295 ?_
    exact kk _ ⟨_, v, up_s _ _ _, (up_n _ hBA).trans hm1, hlv.upd6 (svM_r hm6) (by rw [uI_s, hw6, e]) (fun j hj => uI_n _ hj)⟩ Fr2.rf.up1

theorem jsv_430 {bc bs : Nat} {Q : Rs → Mem → Prop} {L : Ls} {M : Mem} {ad : Int → Nat} {n : Int → Int} {F : Int → Int → Int} {g : Int → Int} {m : Int} {k9 n9 : Nat} (hl : LwR M ad n F g m) (hi : Inj ad) (h3 : lk L 3 = some (.ref (ad 112))) (kk : ∀ M', LwR M' ad n F g (svM m) → Fr2 (ad 112) (ad 113) M M' → J KL_act bc bs Q 447 L [] M' k9 n9) : J KL_act bc bs Q 430 L [] M k9 n9 := by
  obtain ⟨w, v, hn1, hm1, hlv⟩ := id hl
  obtain ⟨-, -, -, hw6, -, -, hm6⟩ := id hlv
  have hBA : ad 113 ≠ ad 112 := hi.ne ⟨by omega, by omega⟩ ⟨by omega, by omega⟩ (by omega)
  refine r_aload_n dL_act_430 h3 ?_
  refine r_bipush dL_act_431 (by decide) ?_
  refine r_iaload hn1 (by omega) (by omega) (by omega) dL_act_433 ?_
  rw [hw6]
  refine r_bipush dL_act_434 (by decide) ?_
  refine r_icmp_ge (tgt := 447) dL_act_436 (by decide) (by omega) (by omega) (fun h => ?_) (fun h => ?_)
  · have e : svM m = m := by unfold svM; rw [if_neg (by omega)]; omega
    exact kk M (by rw [e]; exact hl) (fun _ _ _ => rfl)
  · have e : svM m = m + 1 := by unfold svM; rw [if_pos (by omega)]
    refine r_aload_n dL_act_439 h3 ?_
    refine r_bipush dL_act_440 (by decide) ?_
    refine r_dup2 dL_act_442 ?_
    refine r_iaload hn1 (by omega) (by omega) (by omega) dL_act_443 ?_
    refine r_iconst dL_act_444 ?_
    refine r_iadd dL_act_445 ?_
    refine r_iastore hn1 (by omega) (by omega) (by omega) dL_act_446 ?_
    exact kk _ ⟨_, v, up_s _ _ _, (up_n _ hBA).trans hm1, hlv.upd6 (svM_r hm6) (by rw [uI_s, hw6, e]) (fun j hj => uI_n _ hj)⟩ Fr2.rf.up1

theorem jsv_725 {bc bs : Nat} {Q : Rs → Mem → Prop} {L : Ls} {M : Mem} {ad : Int → Nat} {n : Int → Int} {F : Int → Int → Int} {g : Int → Int} {m : Int} {k9 n9 : Nat} (hl : LwR M ad n F g m) (hi : Inj ad) (h3 : lk L 3 = some (.ref (ad 112))) (kk : ∀ M', LwR M' ad n F g (svM m) → Fr2 (ad 112) (ad 113) M M' → J KL_act bc bs Q 742 L [] M' k9 n9) : J KL_act bc bs Q 725 L [] M k9 n9 := by
  obtain ⟨w, v, hn1, hm1, hlv⟩ := id hl
  obtain ⟨-, -, -, hw6, -, -, hm6⟩ := id hlv
  have hBA : ad 113 ≠ ad 112 := hi.ne ⟨by omega, by omega⟩ ⟨by omega, by omega⟩ (by omega)
  refine r_aload_n dL_act_725 h3 ?_
  refine r_bipush dL_act_726 (by decide) ?_
  refine r_iaload hn1 (by omega) (by omega) (by omega) dL_act_728 ?_
  rw [hw6]
  refine r_bipush dL_act_729 (by decide) ?_
  refine r_icmp_ge (tgt := 742) dL_act_731 (by decide) (by omega) (by omega) (fun h => ?_) (fun h => ?_)
  · have e : svM m = m := by unfold svM; rw [if_neg (by omega)]; omega
    exact kk M (by rw [e]; exact hl) (fun _ _ _ => rfl)
  · have e : svM m = m + 1 := by unfold svM; rw [if_pos (by omega)]
    refine r_aload_n dL_act_734 h3 ?_
    refine r_bipush dL_act_735 (by decide) ?_
    refine r_dup2 dL_act_737 ?_
    refine r_iaload hn1 (by omega) (by omega) (by omega) dL_act_738 ?_
    refine r_iconst dL_act_739 ?_
    refine r_iadd dL_act_740 ?_
    refine r_iastore hn1 (by omega) (by omega) (by omega) dL_act_741 ?_
    exact kk _ ⟨_, v, up_s _ _ _, (up_n _ hBA).trans hm1, hlv.upd6 (svM_r hm6) (by rw [uI_s, hw6, e]) (fun j hj => uI_n _ hj)⟩ Fr2.rf.up1

theorem jsv_829 {bc bs : Nat} {Q : Rs → Mem → Prop} {L : Ls} {M : Mem} {ad : Int → Nat} {n : Int → Int} {F : Int → Int → Int} {g : Int → Int} {m : Int} {k9 n9 : Nat} (hl : LwR M ad n F g m) (hi : Inj ad) (h3 : lk L 3 = some (.ref (ad 112))) (kk : ∀ M', LwR M' ad n F g (svM m) → Fr2 (ad 112) (ad 113) M M' → J KL_act bc bs Q 846 L [] M' k9 n9) : J KL_act bc bs Q 829 L [] M k9 n9 := by
  obtain ⟨w, v, hn1, hm1, hlv⟩ := id hl
  obtain ⟨-, -, -, hw6, -, -, hm6⟩ := id hlv
  have hBA : ad 113 ≠ ad 112 := hi.ne ⟨by omega, by omega⟩ ⟨by omega, by omega⟩ (by omega)
  refine r_aload_n dL_act_829 h3 ?_
  refine r_bipush dL_act_830 (by decide) ?_
  refine r_iaload hn1 (by omega) (by omega) (by omega) dL_act_832 ?_
  rw [hw6]
  refine r_bipush dL_act_833 (by decide) ?_
  refine r_icmp_ge (tgt := 846) dL_act_835 (by decide) (by omega) (by omega) (fun h => ?_) (fun h => ?_)
  · have e : svM m = m := by unfold svM; rw [if_neg (by omega)]; omega
    exact kk M (by rw [e]; exact hl) (fun _ _ _ => rfl)
  · have e : svM m = m + 1 := by unfold svM; rw [if_pos (by omega)]
    refine r_aload_n dL_act_838 h3 ?_
    refine r_bipush dL_act_839 (by decide) ?_
    refine r_dup2 dL_act_841 ?_
    refine r_iaload hn1 (by omega) (by omega) (by omega) dL_act_842 ?_
    refine r_iconst dL_act_843 ?_
    refine r_iadd dL_act_844 ?_
    refine r_iastore hn1 (by omega) (by omega) (by omega) dL_act_845 ?_
    exact kk _ ⟨_, v, up_s _ _ _, (up_n _ hBA).trans hm1, hlv.upd6 (svM_r hm6) (by rw [uI_s, hw6, e]) (fun j hj => uI_n _ hj)⟩ Fr2.rf.up1

set_option maxHeartbeats 1000000 in
theorem aL_109 {M : Mem} {ad : Int → Nat} {n : Int → Int} {F : Int → Int → Int} {g : Int → Int} {m : Int} {S : Int → Sg3} {len : Int} {c : Int → Int} {x y t s z : Int} (hc : CL M ad n F g m S len c) (hi : Inj ad) (q0 : 0 ≤ s ∧ s < 4) (qz : 0 ≤ z ∧ z ≤ 9999) (qt : 0 ≤ t ∧ t < 14) (hlt : hasF (n s) (F s) z = true ∨ n s < 16) : J KL_act 7 68 (atI 1 (fun M2 => CLG M2 ad ∧ FrK ad M M2)) 109 [(0, some (.ref (ad 0))), (1, some (vI x)), (2, some (vI y)), (3, some (.ref (ad 112))), (4, some (.ref (ad 113))), (5, some (vI t)), (6, some (vI s)), (7, some (vI z)), (8, some (vI (bI (hasF (n s) (F s) z))))] [] M 0 0 := by
  obtain ⟨hx, hl⟩ := id hc
  have hv := hl.vld
  obtain ⟨w, v, hn1, hm1, hlv⟩ := id hl
  obtain ⟨hset, hw4, hw5, hw6, hg0, hg1, hm6⟩ := id hlv
  obtain ⟨hws, hns, hsr, hvs⟩ := hset s q0.1 q0.2
  have hAB : ad 112 ≠ ad 113 := hi.ne ⟨by omega, by omega⟩ ⟨by omega, by omega⟩ (by omega)
  have hBA := hAB.symm
  have hv1 : ∀ k, 0 ≤ k → k < n s → v (16 * s + k) = F s k := fun k a b => (hvs k a b).1
  have hv2 : ∀ k, 0 ≤ k → k < n s → 0 ≤ F s k ∧ F s k ≤ 9999 := fun k a b => (hvs k a b).2
  have hv3 : ∀ k, 0 < k → k ≤ n s → v (16 * s + k - 1) = F s (k - 1) := fun k a b => by rw [← hv1 (k - 1) (by omega) (by omega)]; congr 1; omega
  have hbr := bI_r (hasF (n s) (F s) z)
  refine r_aload_n dL_act_109 rfl ?_
  refine r_aload dL_act_110 rfl ?_
  refine r_iload dL_act_112 rfl ?_
  refine r_iload dL_act_114 rfl ?_
  refine r_callS4 okL_insert ⟨by decide, by decide⟩ ml_L_37 (mL_insert (N := 60) hl hi q0 qz hlt (by omega)) (Nat.le_of_ble_eq_true rfl) (by omega) (by omega) rfl dL_act_116 (nx_tV) (kx_tV ?_)
  intro M2 hM2
  obtain ⟨hl2, hfr2⟩ := hM2
  have hx2 := hx.fr2 hi hfr2
  refine jsv_119 hl2 hi rfl (fun M3 hl3 hfr3 => ?_)
  have hx3 := hx2.fr2 hi hfr3
  refine r_aload_n dL_act_136 rfl ?_
  refine r_iload dL_act_137 rfl ?_
  refine r_iload dL_act_139 rfl ?_
  refine r_callV2 okX8_add ⟨by decide, by decide⟩ ml_L_41 ((mX8_add hx3 hv hi (k := s) (x := z) (by omega) (by omega)).mono (fun _ _ h => UX.ok (e2_ok (eSet_in q0) (e2_ok (eB_in qz) (eB_in (by rcases hlt with h | h; exact Or.inl h; exact Or.inr (by omega))))) h)) hx3.1 rfl rfl (Nat.le_of_ble_eq_true rfl) (by omega) (by omega) rfl dL_act_141 (nx_tI) (kx_tI ?_)
  intro M4 hM4
  obtain ⟨hx4, hf4⟩ := hM4
  have hl4 := hl3.frI hi hf4
  refine r_iload dL_act_144 rfl ?_
  refine r_if_eq (tgt := 153) dL_act_146 (by decide) (by omega) (fun h146 => ?_) (fun h146 => ?_)
  ·
    refine r_iconst dL_act_153 ?_
    refine r_icmp_ne (tgt := 161) dL_act_154 (by decide) (by omega) (by omega) (fun h154 => ?_) (fun h154 => ?_)
    · omega
    ·
      refine r_iconst dL_act_157 ?_
      refine r_goto (tgt := 162) dL_act_158 (by decide) ?_
      refine e_zreturn dL_act_162 rfl (by omega) (by omega) (by omega) ?_
      exact oktI rfl ⟨⟨_, _, _, _, _, _, _, ⟨hx4, hl4⟩⟩, ((FrK.of2 hfr2).trans (FrK.of2 hfr3)).trans (FrK.ofI hf4)⟩
  ·
    refine r_iconst dL_act_149 ?_
    refine r_goto (tgt := 154) dL_act_150 (by decide) ?_
    refine r_icmp_ne (tgt := 161) dL_act_154 (by decide) (by omega) (by omega) (fun h154 => ?_) (fun h154 => ?_)
    · omega
    ·
      refine r_iconst dL_act_157 ?_
      refine r_goto (tgt := 162) dL_act_158 (by decide) ?_
      refine e_zreturn dL_act_162 rfl (by omega) (by omega) (by omega) ?_
      exact oktI rfl ⟨⟨_, _, _, _, _, _, _, ⟨hx4, hl4⟩⟩, ((FrK.of2 hfr2).trans (FrK.of2 hfr3)).trans (FrK.ofI hf4)⟩

set_option maxHeartbeats 1000000 in
theorem aL_66 {M : Mem} {ad : Int → Nat} {n : Int → Int} {F : Int → Int → Int} {g : Int → Int} {m : Int} {S : Int → Sg3} {len : Int} {c : Int → Int} {x y t s z : Int} (hc : CL M ad n F g m S len c) (hi : Inj ad) (q0 : 0 ≤ s ∧ s < 4) (qz : 0 ≤ z ∧ z ≤ 9999) (qt : 0 ≤ t ∧ t < 14) : J KL_act 7 68 (atI 1 (fun M2 => CLG M2 ad ∧ FrK ad M M2)) 66 [(0, some (.ref (ad 0))), (1, some (vI x)), (2, some (vI y)), (3, some (.ref (ad 112))), (4, some (.ref (ad 113))), (5, some (vI t)), (6, some (vI s)), (7, some (vI z))] [] M 0 0 := by
  obtain ⟨hx, hl⟩ := id hc
  have hv := hl.vld
  obtain ⟨w, v, hn1, hm1, hlv⟩ := id hl
  obtain ⟨hset, hw4, hw5, hw6, hg0, hg1, hm6⟩ := id hlv
  obtain ⟨hws, hns, hsr, hvs⟩ := hset s q0.1 q0.2
  have hAB : ad 112 ≠ ad 113 := hi.ne ⟨by omega, by omega⟩ ⟨by omega, by omega⟩ (by omega)
  have hBA := hAB.symm
  have hv1 : ∀ k, 0 ≤ k → k < n s → v (16 * s + k) = F s k := fun k a b => (hvs k a b).1
  have hv2 : ∀ k, 0 ≤ k → k < n s → 0 ≤ F s k ∧ F s k ≤ 9999 := fun k a b => (hvs k a b).2
  have hv3 : ∀ k, 0 < k → k ≤ n s → v (16 * s + k - 1) = F s (k - 1) := fun k a b => by rw [← hv1 (k - 1) (by omega) (by omega)]; congr 1; omega
  have hbr := bI_r (hasF (n s) (F s) z)
  refine r_aload_n dL_act_66 rfl ?_
  refine r_aload dL_act_67 rfl ?_
  refine r_iload dL_act_69 rfl ?_
  refine r_iload dL_act_71 rfl ?_
  refine r_callS4 okL_has ⟨by decide, by decide⟩ ml_L_8 (mL_has hl hi q0 (by omega)) (Nat.le_of_ble_eq_true rfl) (by omega) (by omega) rfl dL_act_73 (nx_I) (kx_I ?_)
  refine r_istore dL_act_76 (by decide) rfl ?_
  refine r_aload_n dL_act_78 rfl ?_
  refine r_iload dL_act_79 rfl ?_
  refine r_iaload (by first | assumption | exact up_s _ _ _ | exact (up_n _ (by assumption)).trans (by assumption) | exact (up_n _ (by assumption)).trans (up_s _ _ _) | exact (up_n _ (by assumption)).trans ((up_n _ (by assumption)).trans (by assumption))) (by omega) (by omega) (by omega) dL_act_81 ?_
  rw [hws]
  refine r_bipush dL_act_82 (by decide) ?_
  refine r_icmp_ne (tgt := 109) dL_act_84 (by decide) (by omega) (by omega) (fun h84 => ?_) (fun h84 => ?_)
  ·
    exact J.loc (lsub_cons rfl (lsub_cons rfl (lsub_cons rfl (lsub_cons rfl (lsub_cons rfl (lsub_cons rfl (lsub_cons rfl (lsub_cons rfl (lsub_cons rfl lsub_nil))))))))) (aL_109 hc hi q0 qz qt (x := x) (y := y) (t := t) (by first | exact Or.inl (bI_t (by omega)) | exact Or.inr (by omega)))
  ·
    refine r_iload dL_act_87 rfl ?_
    refine r_if_ne (tgt := 109) dL_act_89 (by decide) (by omega) (fun h89 => ?_) (fun h89 => ?_)
    ·
      exact J.loc (lsub_cons rfl (lsub_cons rfl (lsub_cons rfl (lsub_cons rfl (lsub_cons rfl (lsub_cons rfl (lsub_cons rfl (lsub_cons rfl (lsub_cons rfl lsub_nil))))))))) (aL_109 hc hi q0 qz qt (x := x) (y := y) (t := t) (by first | exact Or.inl (bI_t (by omega)) | exact Or.inr (by omega)))
    ·
      refine r_aload_n dL_act_92 rfl ?_
      refine r_iload dL_act_93 rfl ?_
      refine r_iload dL_act_95 rfl ?_
      refine r_callV2 okX8_has ⟨by decide, by decide⟩ ml_L_35 ((mX8_has hx hv hi (k := s) (x := z) (by omega) (by omega)).mono (fun _ _ h => UX.ok (e2_ok (eSet_in q0) (eB_in qz)) h)) hx.1 rfl rfl (Nat.le_of_ble_eq_true rfl) (by omega) (by omega) rfl dL_act_97 (nx_tI) (kx_tI ?_)
      intro M4 hM4
      obtain ⟨hx4, hf4⟩ := hM4
      have hl4 := hl.frI hi hf4
      refine r_if_ne (tgt := 107) dL_act_100 (by decide) (by omega) (fun h100 => ?_) (fun h100 => ?_)
      · omega
      ·
        refine r_iconst dL_act_103 ?_
        refine r_goto (tgt := 108) dL_act_104 (by decide) ?_
        refine e_zreturn dL_act_108 rfl (by omega) (by omega) (by omega) ?_
        exact oktI rfl ⟨⟨_, _, _, _, _, _, _, ⟨hx4, hl4⟩⟩, FrK.ofI hf4⟩

set_option maxHeartbeats 1000000 in
theorem aL_177 {M : Mem} {ad : Int → Nat} {n : Int → Int} {F : Int → Int → Int} {g : Int → Int} {m : Int} {S : Int → Sg3} {len : Int} {c : Int → Int} {x y t s z : Int} (hc : CL M ad n F g m S len c) (hi : Inj ad) (q0 : 0 ≤ s ∧ s < 4) (qz : 0 ≤ z ∧ z ≤ 9999) (qt : 0 ≤ t ∧ t < 14) (hn0 : 0 < n s) : J KL_act 7 68 (atI 1 (fun M2 => CLG M2 ad ∧ FrK ad M M2)) 177 [(0, some (.ref (ad 0))), (1, some (vI x)), (2, some (vI y)), (3, some (.ref (ad 112))), (4, some (.ref (ad 113))), (5, some (vI t)), (6, some (vI s)), (7, some (vI z))] [] M 0 0 := by
  obtain ⟨hx, hl⟩ := id hc
  have hv := hl.vld
  obtain ⟨w, v, hn1, hm1, hlv⟩ := id hl
  obtain ⟨hset, hw4, hw5, hw6, hg0, hg1, hm6⟩ := id hlv
  obtain ⟨hws, hns, hsr, hvs⟩ := hset s q0.1 q0.2
  have hAB : ad 112 ≠ ad 113 := hi.ne ⟨by omega, by omega⟩ ⟨by omega, by omega⟩ (by omega)
  have hBA := hAB.symm
  have hv1 : ∀ k, 0 ≤ k → k < n s → v (16 * s + k) = F s k := fun k a b => (hvs k a b).1
  have hv2 : ∀ k, 0 ≤ k → k < n s → 0 ≤ F s k ∧ F s k ≤ 9999 := fun k a b => (hvs k a b).2
  have hv3 : ∀ k, 0 < k → k ≤ n s → v (16 * s + k - 1) = F s (k - 1) := fun k a b => by rw [← hv1 (k - 1) (by omega) (by omega)]; congr 1; omega
  refine r_aload dL_act_177 rfl ?_
  refine r_bipush dL_act_179 (by decide) ?_
  refine r_iload dL_act_181 rfl ?_
  refine r_imul dL_act_183 ?_
  refine r_iload_n dL_act_184 rfl ?_
  refine r_iconst dL_act_185 ?_
  refine r_ishr dL_act_186 (fun z186 hz186 => ?_)
  refine r_aload_n dL_act_187 rfl ?_
  refine r_iload dL_act_188 rfl ?_
  refine r_iaload (by first | assumption | exact up_s _ _ _ | exact (up_n _ (by assumption)).trans (by assumption) | exact (up_n _ (by assumption)).trans (up_s _ _ _) | exact (up_n _ (by assumption)).trans ((up_n _ (by assumption)).trans (by assumption))) (by omega) (by omega) (by omega) dL_act_190 ?_
  rw [hws]
  refine r_callS2 okL_at ⟨by decide, by decide⟩ ml_L_32 (mL_at (x := z186) (n := n s) (by omega)) (Nat.le_of_ble_eq_true rfl) (by omega) (by omega) rfl dL_act_191 (nx_R) (kx_R ?_)
  intro z191 hz191
  refine r_iadd dL_act_194 ?_
  refine r_iaload (by first | assumption | exact up_s _ _ _ | exact (up_n _ (by assumption)).trans (by assumption) | exact (up_n _ (by assumption)).trans (up_s _ _ _) | exact (up_n _ (by assumption)).trans ((up_n _ (by assumption)).trans (by assumption))) (by omega) (by omega) (by omega) dL_act_195 ?_
  have hzr : 0 ≤ z191 ∧ z191 < n s := hz191
  rw [hv1 z191 hzr.1 hzr.2]
  have hvb := hv2 z191 hzr.1 hzr.2
  have hcut := cut_one hns.1 hsr ⟨z191, hzr.1, hzr.2, rfl⟩
  refine r_istore dL_act_196 (by decide) rfl ?_
  refine r_aload_n dL_act_198 rfl ?_
  refine r_aload dL_act_199 rfl ?_
  refine r_iload dL_act_201 rfl ?_
  refine r_iload dL_act_203 rfl ?_
  refine r_iload dL_act_205 rfl ?_
  refine r_callS5 okL_drop ⟨by decide, by decide⟩ ml_L_44 (mL_drop (lo := F s z191) (hi_ := F s z191) hl hi q0 (by omega) (by omega)) (Nat.le_of_ble_eq_true rfl) (by omega) (by omega) rfl dL_act_207 (nx_tI) (kx_tI ?_)
  intro M2 hM2
  obtain ⟨hl2, hfr2⟩ := hM2
  have hx2 := hx.fr2 hi hfr2
  refine r_popI dL_act_210 ?_
  refine jsv_211 hl2 hi rfl (fun M3 hl3 hfr3 => ?_)
  have hx3 := hx2.fr2 hi hfr3
  refine r_aload_n dL_act_228 rfl ?_
  refine r_iload dL_act_229 rfl ?_
  refine r_iload dL_act_231 rfl ?_
  refine r_callV2 okX8_remove ⟨by decide, by decide⟩ ml_L_48 ((mX8_remove hx3 hv hi (k := s) (x := F s z191) (by omega) (by omega)).mono (fun _ _ h => UX.ok (e2_ok (eSet_in q0) (eB_in hvb)) h)) hx3.1 rfl rfl (Nat.le_of_ble_eq_true rfl) (by omega) (by omega) rfl dL_act_233 (nx_tI) (kx_tI ?_)
  intro M4 hM4
  obtain ⟨hx4, hf4⟩ := hM4
  have hl4 := hl3.frI hi hf4
  refine r_iconst dL_act_236 ?_
  refine r_icmp_ne (tgt := 244) dL_act_237 (by decide) (by omega) (by omega) (fun h237 => ?_) (fun h237 => ?_)
  · omega
  ·
    refine r_iconst dL_act_240 ?_
    refine r_goto (tgt := 245) dL_act_241 (by decide) ?_
    refine e_zreturn dL_act_245 rfl (by omega) (by omega) (by omega) ?_
    exact oktI rfl ⟨⟨_, _, _, _, _, _, _, ⟨hx4, hl4⟩⟩, ((FrK.of2 hfr2).trans (FrK.of2 hfr3)).trans (FrK.ofI hf4)⟩

set_option maxHeartbeats 1000000 in
theorem aL_279 {M : Mem} {ad : Int → Nat} {n : Int → Int} {F : Int → Int → Int} {g : Int → Int} {m : Int} {S : Int → Sg3} {len : Int} {c : Int → Int} {x y t s z : Int} {e : Int} (hc : CL M ad n F g m S len c) (hi : Inj ad) (q0 : 0 ≤ s ∧ s < 4) (qz : 0 ≤ z ∧ z ≤ 9999) (qt : 0 ≤ t ∧ t < 14) (qe : z ≤ e ∧ e ≤ 9999) : J KL_act 7 68 (atI 1 (fun M2 => CLG M2 ad ∧ FrK ad M M2)) 279 [(0, some (.ref (ad 0))), (1, some (vI x)), (2, some (vI y)), (3, some (.ref (ad 112))), (4, some (.ref (ad 113))), (5, some (vI t)), (6, some (vI s)), (7, some (vI z)), (8, some (vI e))] [] M 0 0 := by
  obtain ⟨hx, hl⟩ := id hc
  have hv := hl.vld
  obtain ⟨w, v, hn1, hm1, hlv⟩ := id hl
  obtain ⟨hset, hw4, hw5, hw6, hg0, hg1, hm6⟩ := id hlv
  obtain ⟨hws, hns, hsr, hvs⟩ := hset s q0.1 q0.2
  have hAB : ad 112 ≠ ad 113 := hi.ne ⟨by omega, by omega⟩ ⟨by omega, by omega⟩ (by omega)
  have hBA := hAB.symm
  have hv1 : ∀ k, 0 ≤ k → k < n s → v (16 * s + k) = F s k := fun k a b => (hvs k a b).1
  have hv2 : ∀ k, 0 ≤ k → k < n s → 0 ≤ F s k ∧ F s k ≤ 9999 := fun k a b => (hvs k a b).2
  have hv3 : ∀ k, 0 < k → k ≤ n s → v (16 * s + k - 1) = F s (k - 1) := fun k a b => by rw [← hv1 (k - 1) (by omega) (by omega)]; congr 1; omega
  refine jsv_279 hl hi rfl (fun M3 hl3 hfr3 => ?_)
  have hx3 := hx.fr2 hi hfr3
  refine r_aload_n dL_act_296 rfl ?_
  refine r_iload dL_act_297 rfl ?_
  refine r_iload dL_act_299 rfl ?_
  refine r_iload dL_act_301 rfl ?_
  refine r_callV3 okX8_removeRange ⟨by decide, by decide⟩ ml_L_51 ((mX8_removeRange hx3 hv hi (k := s) (x := z) (y := e) (by omega) (by omega) (by omega)).mono (fun _ _ h => UX.ok (e2_ok (eSet_in q0) (e2_ok (eB_in qz) (e2_ok (eB_in (by omega)) (eB_in (by omega))))) h)) hx3.1 rfl rfl (Nat.le_of_ble_eq_true rfl) (by omega) (by omega) rfl dL_act_303 (nx_tI) (kx_tI ?_)
  intro M4 hM4
  obtain ⟨hx4, hf4⟩ := hM4
  have hl4 := hl3.frI hi hf4
  refine r_aload_n dL_act_306 rfl ?_
  refine r_aload dL_act_307 rfl ?_
  refine r_iload dL_act_309 rfl ?_
  refine r_iload dL_act_311 rfl ?_
  refine r_iload dL_act_313 rfl ?_
  refine r_callS5 okL_drop ⟨by decide, by decide⟩ ml_L_44 (mL_drop (lo := z) (hi_ := e) hl4 hi q0 (by omega) (by omega)) (Nat.le_of_ble_eq_true rfl) (by omega) (by omega) rfl dL_act_315 (nx_tI) (kx_tI ?_)
  intro M5 hM5
  obtain ⟨hl5, hfr5⟩ := hM5
  have hx5 := hx4.fr2 hi hfr5
  refine r_icmpNe (tgt := 325) dL_act_318 (by decide) ?_
  refine r_iconst dL_act_321 ?_
  refine r_goto (tgt := 326) dL_act_322 (by decide) ?_
  refine e_zreturn dL_act_326 rfl (by omega) (by omega) (by omega) ?_
  exact oktI rfl ⟨⟨_, _, _, _, _, _, _, ⟨hx5, hl5⟩⟩, ((FrK.of2 hfr3).trans (FrK.ofI hf4)).trans (FrK.of2 hfr5)⟩

set_option maxHeartbeats 1000000 in
theorem aL_253 {M : Mem} {ad : Int → Nat} {n : Int → Int} {F : Int → Int → Int} {g : Int → Int} {m : Int} {S : Int → Sg3} {len : Int} {c : Int → Int} {x y t s z : Int} (hc : CL M ad n F g m S len c) (hi : Inj ad) (q0 : 0 ≤ s ∧ s < 4) (qz : 0 ≤ z ∧ z ≤ 9999) (qt : 0 ≤ t ∧ t < 14) : J KL_act 7 68 (atI 1 (fun M2 => CLG M2 ad ∧ FrK ad M M2)) 253 [(0, some (.ref (ad 0))), (1, some (vI x)), (2, some (vI y)), (3, some (.ref (ad 112))), (4, some (.ref (ad 113))), (5, some (vI t)), (6, some (vI s)), (7, some (vI z))] [] M 0 0 := by
  refine r_iload dL_act_253 rfl ?_
  refine r_iload_n dL_act_255 rfl ?_
  refine r_iconst dL_act_256 ?_
  refine r_ishr dL_act_257 (fun z257 hz257 => ?_)
  refine r_bipush dL_act_258 (by decide) ?_
  refine r_callS2 okL_at ⟨by decide, by decide⟩ ml_L_32 (mL_at (by omega)) (Nat.le_of_ble_eq_true rfl) (by omega) (by omega) rfl dL_act_260 (nx_R) (kx_R ?_)
  intro z260 hz260
  refine r_iadd dL_act_263 ?_
  refine r_istore dL_act_264 (by decide) rfl ?_
  refine r_iload dL_act_266 rfl ?_
  refine r_sipush dL_act_268 (by decide) ?_
  refine r_icmp_le (tgt := 279) dL_act_271 (by decide) (by omega) (by omega) (fun h271 => ?_) (fun h271 => ?_)
  ·
    exact J.loc (lsub_cons rfl (lsub_cons rfl (lsub_cons rfl (lsub_cons rfl (lsub_cons rfl (lsub_cons rfl (lsub_cons rfl (lsub_cons rfl (lsub_cons rfl (lsub_nil)))))))))) (aL_279 hc hi q0 qz qt (x := x) (y := y) (t := t) (by omega))
  ·
    refine r_sipush dL_act_274 (by decide) ?_
    refine r_istore dL_act_277 (by decide) rfl ?_
    exact J.loc (lsub_cons rfl (lsub_cons rfl (lsub_cons rfl (lsub_cons rfl (lsub_cons rfl (lsub_cons rfl (lsub_cons rfl (lsub_cons rfl (lsub_cons rfl (lsub_nil)))))))))) (aL_279 hc hi q0 qz qt (x := x) (y := y) (t := t) (by omega))

set_option maxHeartbeats 1000000 in
theorem aL_396 {M : Mem} {ad : Int → Nat} {n : Int → Int} {F : Int → Int → Int} {g : Int → Int} {m : Int} {S : Int → Sg3} {len : Int} {c : Int → Int} {x y t s z : Int} {b : Int} (hc : CL M ad n F g m S len c) (hi : Inj ad) (q0 : 0 ≤ s ∧ s < 4) (qz : 0 ≤ z ∧ z ≤ 9999) (qt : 0 ≤ t ∧ t < 14) (qb : -200 ≤ b ∧ b < 200) (qd : n s = 0 ∨ (0 ≤ atF (n s) (F s) 0 + b ∧ atF (n s) (F s) (n s - 1) + b ≤ 9999)) : J KL_act 7 68 (atI 1 (fun M2 => CLG M2 ad ∧ FrK ad M M2)) 396 [(0, some (.ref (ad 0))), (1, some (vI x)), (2, some (vI y)), (3, some (.ref (ad 112))), (4, some (.ref (ad 113))), (5, some (vI t)), (6, some (vI s)), (7, some (vI z)), (8, some (vI b))] [] M 0 0 := by
  obtain ⟨hx, hl⟩ := id hc
  have hv := hl.vld
  obtain ⟨w, v, hn1, hm1, hlv⟩ := id hl
  obtain ⟨hset, hw4, hw5, hw6, hg0, hg1, hm6⟩ := id hlv
  obtain ⟨hws, hns, hsr, hvs⟩ := hset s q0.1 q0.2
  have hAB : ad 112 ≠ ad 113 := hi.ne ⟨by omega, by omega⟩ ⟨by omega, by omega⟩ (by omega)
  have hBA := hAB.symm
  have hv1 : ∀ k, 0 ≤ k → k < n s → v (16 * s + k) = F s k := fun k a b => (hvs k a b).1
  have hv2 : ∀ k, 0 ≤ k → k < n s → 0 ≤ F s k ∧ F s k ≤ 9999 := fun k a b => (hvs k a b).2
  have hv3 : ∀ k, 0 < k → k ≤ n s → v (16 * s + k - 1) = F s (k - 1) := fun k a b => by rw [← hv1 (k - 1) (by omega) (by omega)]; congr 1; omega
  have hsk := shift_ok hsr hns.1 qd
  refine r_iconst dL_act_396 ?_
  refine r_istore dL_act_397 (by decide) rfl ?_
  refine J.loc (L' := [(0, some _), (1, some _), (2, some _), (3, some _), (4, some _), (5, some _), (6, some _), (7, some _), (8, some _), (9, some _)]) (lsub_cons rfl (lsub_cons rfl (lsub_cons rfl (lsub_cons rfl (lsub_cons rfl (lsub_cons rfl (lsub_cons rfl (lsub_cons rfl (lsub_cons rfl (lsub_cons rfl (lsub_nil))))))))))) (loop2 (fun (k : Int) (M1 : Mem) => 0 ≤ k ∧ k ≤ n s ∧ M1 (ad 112) = some (aI 7 w) ∧ Fr2 (ad 112) (ad 113) M M1 ∧ ∃ v1 : Int → Int, M1 (ad 113) = some (aI 64 v1) ∧ (∀ j, 0 ≤ j → j < k → v1 (16 * s + j) = F s j + b) ∧ (∀ j, k ≤ j → j < n s → v1 (16 * s + j) = F s j) ∧ ∀ j, (j < 16 * s ∨ 16 * s + 16 ≤ j) → v1 j = v j) (fun (k : Int) (M1 : Mem) => (n s - k).toNat) (fun (k : Int) (M1 : Mem) => J KL_act 7 68 _ 399 [(0, some (.ref (ad 0))), (1, some (vI x)), (2, some (vI y)), (3, some (.ref (ad 112))), (4, some (.ref (ad 113))), (5, some (vI t)), (6, some (vI s)), (7, some (vI z)), (8, some (vI b)), (9, some (vI k))] [] M1 _ _) (fun k M1 hI399 ih399 => ?_) _ _ ?_)
  ·
    obtain ⟨hk0, hk1, hn2, hfr, v1, hm2, hg1a, hg2, hg3⟩ := hI399
    refine r_iload dL_act_399 rfl ?_
    refine r_aload_n dL_act_401 rfl ?_
    refine r_iload dL_act_402 rfl ?_
    refine r_iaload hn2 (by omega) (by omega) (by omega) dL_act_404 ?_
    rw [hws]
    refine r_icmp_ge (tgt := 430) dL_act_405 (by decide) (by omega) (by omega) (fun h405 => ?_) (fun h405 => ?_)
    ·
      have hl2 : LwR M1 ad (uI n s (n s)) (uI F s (fun i => F s i + b)) g m := ⟨w, v1, hn2, hm2, hlv.upd q0.1 q0.2 hns (fun i j a b c => by have := hsr i j a b c; omega) (fun j a b => ⟨hg1a j a (by omega), hsk j a b⟩) hg3 hws (fun _ _ => rfl)⟩
      have hx2 := hx.fr2 hi hfr
      refine jsv_430 hl2 hi rfl (fun M3 hl3 hfr3 => ?_)
      have hx3 := hx2.fr2 hi hfr3
      refine r_aload_n dL_act_447 rfl ?_
      refine r_iload dL_act_448 rfl ?_
      refine r_iload dL_act_450 rfl ?_
      refine r_callV2 okX8_shift ⟨by decide, by decide⟩ ml_L_54 ((mX8_shift hx3 hv hi (k := s) (b := b) (by omega) (by omega)).mono (fun _ _ h => UX.ok (e2_ok (eSet_in q0) (e2_ok (eB_in (by omega)) (eB_in qd))) h)) hx3.1 rfl rfl (Nat.le_of_ble_eq_true rfl) (by omega) (by omega) rfl dL_act_452 (nx_tI) (kx_tI ?_)
      intro M4 hM4
      obtain ⟨hx4, hf4⟩ := hM4
      have hl4 := hl3.frI hi hf4
      obtain ⟨w4, v4, hn4, hm4, hlv4⟩ := id hl4
      obtain ⟨hws4, -, -, hvs4⟩ := hlv4.1 s q0.1 q0.2
      rw [uI_s] at hws4
      have hv4 : ∀ k, 0 ≤ k → k < n s → v4 (16 * s) = F s 0 + b := fun k a b9 => by have := (hvs4 0 (by omega) (by rw [uI_s]; omega)).1; rw [uI_s, Int.add_zero] at this; exact this
      refine r_aload_n dL_act_455 rfl ?_
      refine r_iload dL_act_456 rfl ?_
      refine r_iaload hn4 (by omega) (by omega) (by omega) dL_act_458 ?_
      rw [hws4]
      refine r_if_ne (tgt := 466) dL_act_459 (by decide) (by omega) (fun h459 => ?_) (fun h459 => ?_)
      ·
        refine r_aload dL_act_466 rfl ?_
        refine r_bipush dL_act_468 (by decide) ?_
        refine r_iload dL_act_470 rfl ?_
        refine r_imul dL_act_472 ?_
        refine r_iaload hm4 (by omega) (by omega) (by omega) dL_act_473 ?_
        rw [hv4 0 (by omega) (by omega)]
        rw [atF_in (by omega) (by omega)]
        refine r_icmpNe (tgt := 481) dL_act_474 (by decide) ?_
        refine r_iconst dL_act_477 ?_
        refine r_goto (tgt := 482) dL_act_478 (by decide) ?_
        refine e_zreturn dL_act_482 rfl (by omega) (by omega) (by omega) ?_
        exact oktI rfl ⟨⟨_, _, _, _, _, _, _, ⟨hx4, hl4⟩⟩, ((FrK.of2 hfr).trans (FrK.of2 hfr3)).trans (FrK.ofI hf4)⟩
      ·
        refine r_iconst dL_act_462 ?_
        refine r_goto (tgt := 474) dL_act_463 (by decide) ?_
        rw [atF_out (by omega)]
        refine r_icmpNe (tgt := 481) dL_act_474 (by decide) ?_
        refine r_iconst dL_act_477 ?_
        refine r_goto (tgt := 482) dL_act_478 (by decide) ?_
        refine e_zreturn dL_act_482 rfl (by omega) (by omega) (by omega) ?_
        exact oktI rfl ⟨⟨_, _, _, _, _, _, _, ⟨hx4, hl4⟩⟩, ((FrK.of2 hfr).trans (FrK.of2 hfr3)).trans (FrK.ofI hf4)⟩
    ·
      refine r_aload dL_act_408 rfl ?_
      refine r_bipush dL_act_410 (by decide) ?_
      refine r_iload dL_act_412 rfl ?_
      refine r_imul dL_act_414 ?_
      refine r_iload dL_act_415 rfl ?_
      refine r_iadd dL_act_417 ?_
      refine r_dup2 dL_act_418 ?_
      refine r_iaload hm2 (by omega) (by omega) (by omega) dL_act_419 ?_
      rw [hg2 k (by omega) (by omega)]
      refine r_iload dL_act_420 rfl ?_
      refine r_iadd dL_act_422 ?_
      refine r_iastore hm2 (by omega) (by omega) (by omega) dL_act_423 ?_
      refine r_iinc dL_act_424 rfl rfl ?_
      refine r_goto (tgt := 399) dL_act_427 (by decide) ?_
      refine J.loc (lsub_cons rfl (lsub_cons rfl (lsub_cons rfl (lsub_cons rfl (lsub_cons rfl (lsub_cons rfl (lsub_cons rfl (lsub_cons rfl (lsub_cons rfl (lsub_cons rfl (lsub_nil))))))))))) (ih399 _ _ ?_ ?_)
      · refine ⟨by omega, by omega, (up_n _ hAB).trans hn2, hfr.up2, _, up_s _ _ _, fun j a b => ?_, fun j a b => ?_, fun j hj => ?_⟩
        · by_cases e : j = k
          · rw [e, uI_s]
          · rw [uI_n _ (by omega)]; exact hg1a j a (by omega)
        · rw [uI_n _ (by omega)]; exact hg2 j (by omega) b
        · rw [uI_n _ (by omega)]; exact hg3 j hj
      · omega
  · exact ⟨by omega, by omega, hn1, Fr2.rf, v, hm1, fun j a b => by omega, fun j a b => hv1 j (by omega) b, fun j _ => rfl⟩

set_option maxHeartbeats 1000000 in
theorem aL_334 {M : Mem} {ad : Int → Nat} {n : Int → Int} {F : Int → Int → Int} {g : Int → Int} {m : Int} {S : Int → Sg3} {len : Int} {c : Int → Int} {x y t s z : Int} (hc : CL M ad n F g m S len c) (hi : Inj ad) (q0 : 0 ≤ s ∧ s < 4) (qz : 0 ≤ z ∧ z ≤ 9999) (qt : 0 ≤ t ∧ t < 14) : J KL_act 7 68 (atI 1 (fun M2 => CLG M2 ad ∧ FrK ad M M2)) 334 [(0, some (.ref (ad 0))), (1, some (vI x)), (2, some (vI y)), (3, some (.ref (ad 112))), (4, some (.ref (ad 113))), (5, some (vI t)), (6, some (vI s)), (7, some (vI z))] [] M 0 0 := by
  obtain ⟨hx, hl⟩ := id hc
  have hv := hl.vld
  obtain ⟨w, v, hn1, hm1, hlv⟩ := id hl
  obtain ⟨hset, hw4, hw5, hw6, hg0, hg1, hm6⟩ := id hlv
  obtain ⟨hws, hns, hsr, hvs⟩ := hset s q0.1 q0.2
  have hAB : ad 112 ≠ ad 113 := hi.ne ⟨by omega, by omega⟩ ⟨by omega, by omega⟩ (by omega)
  have hBA := hAB.symm
  have hv1 : ∀ k, 0 ≤ k → k < n s → v (16 * s + k) = F s k := fun k a b => (hvs k a b).1
  have hv2 : ∀ k, 0 ≤ k → k < n s → 0 ≤ F s k ∧ F s k ≤ 9999 := fun k a b => (hvs k a b).2
  have hv3 : ∀ k, 0 < k → k ≤ n s → v (16 * s + k - 1) = F s (k - 1) := fun k a b => by rw [← hv1 (k - 1) (by omega) (by omega)]; congr 1; omega
  have hv0 : 0 < n s → v (16 * s) = F s 0 := fun a => by have := hv1 0 (by omega) a; rw [Int.add_zero] at this; exact this
  refine r_iload_n dL_act_334 rfl ?_
  refine r_iconst dL_act_335 ?_
  refine r_ishr dL_act_336 (fun z336 hz336 => ?_)
  refine r_sipush dL_act_337 (by decide) ?_
  refine r_callS2 okL_at ⟨by decide, by decide⟩ ml_L_32 (mL_at (by omega)) (Nat.le_of_ble_eq_true rfl) (by omega) (by omega) rfl dL_act_340 (nx_R) (kx_R ?_)
  intro z340 hz340
  refine r_sipush dL_act_343 (by decide) ?_
  refine r_isub dL_act_346 ?_
  refine r_istore dL_act_347 (by decide) rfl ?_
  refine r_aload_n dL_act_349 rfl ?_
  refine r_iload dL_act_350 rfl ?_
  refine r_iaload (by first | assumption | exact up_s _ _ _ | exact (up_n _ (by assumption)).trans (by assumption) | exact (up_n _ (by assumption)).trans (up_s _ _ _) | exact (up_n _ (by assumption)).trans ((up_n _ (by assumption)).trans (by assumption))) (by omega) (by omega) (by omega) dL_act_352 ?_
  rw [hws]
  refine r_if_le (tgt := 396) dL_act_353 (by decide) (by omega) (fun h353 => ?_) (fun h353 => ?_)
  ·
    exact J.loc (lsub_cons rfl (lsub_cons rfl (lsub_cons rfl (lsub_cons rfl (lsub_cons rfl (lsub_cons rfl (lsub_cons rfl (lsub_cons rfl (lsub_cons rfl (lsub_nil)))))))))) (aL_396 hc hi q0 qz qt (x := x) (y := y) (t := t) (by omega) (by first | exact Or.inl (by omega) | exact Or.inr (by rw [atF_in (by omega) (by omega), atF_in (by omega) (by omega)]; omega)))
  ·
    refine r_aload dL_act_356 rfl ?_
    refine r_bipush dL_act_358 (by decide) ?_
    refine r_iload dL_act_360 rfl ?_
    refine r_imul dL_act_362 ?_
    refine r_iaload (by first | assumption | exact up_s _ _ _ | exact (up_n _ (by assumption)).trans (by assumption) | exact (up_n _ (by assumption)).trans (up_s _ _ _) | exact (up_n _ (by assumption)).trans ((up_n _ (by assumption)).trans (by assumption))) (by omega) (by omega) (by omega) dL_act_363 ?_
    rw [hv0 (by omega)]
    have hb0 := hv2 0 (by omega) (by omega)
    refine r_iload dL_act_364 rfl ?_
    refine r_iadd dL_act_366 ?_
    refine r_if_lt (tgt := 394) dL_act_367 (by decide) (by omega) (fun h367 => ?_) (fun h367 => ?_)
    ·
      refine r_iconst dL_act_394 ?_
      refine e_zreturn dL_act_395 rfl (by omega) (by omega) (by omega) ?_
      exact oktI rfl ⟨⟨_, _, _, _, _, _, _, hc⟩, FrK.rf⟩
    ·
      refine r_aload dL_act_370 rfl ?_
      refine r_bipush dL_act_372 (by decide) ?_
      refine r_iload dL_act_374 rfl ?_
      refine r_imul dL_act_376 ?_
      refine r_aload_n dL_act_377 rfl ?_
      refine r_iload dL_act_378 rfl ?_
      refine r_iaload (by first | assumption | exact up_s _ _ _ | exact (up_n _ (by assumption)).trans (by assumption) | exact (up_n _ (by assumption)).trans (up_s _ _ _) | exact (up_n _ (by assumption)).trans ((up_n _ (by assumption)).trans (by assumption))) (by omega) (by omega) (by omega) dL_act_380 ?_
      rw [hws]
      refine r_iadd dL_act_381 ?_
      refine r_iconst dL_act_382 ?_
      refine r_isub dL_act_383 ?_
      refine r_iaload (by first | assumption | exact up_s _ _ _ | exact (up_n _ (by assumption)).trans (by assumption) | exact (up_n _ (by assumption)).trans (up_s _ _ _) | exact (up_n _ (by assumption)).trans ((up_n _ (by assumption)).trans (by assumption))) (by omega) (by omega) (by omega) dL_act_384 ?_
      rw [hv3 (n s) (by omega) (by omega)]
      have hb1 := hv2 (n s - 1) (by omega) (by omega)
      refine r_iload dL_act_385 rfl ?_
      refine r_iadd dL_act_387 ?_
      refine r_sipush dL_act_388 (by decide) ?_
      refine r_icmp_le (tgt := 396) dL_act_391 (by decide) (by omega) (by omega) (fun h391 => ?_) (fun h391 => ?_)
      ·
        exact J.loc (lsub_cons rfl (lsub_cons rfl (lsub_cons rfl (lsub_cons rfl (lsub_cons rfl (lsub_cons rfl (lsub_cons rfl (lsub_cons rfl (lsub_cons rfl (lsub_nil)))))))))) (aL_396 hc hi q0 qz qt (x := x) (y := y) (t := t) (by omega) (by first | exact Or.inl (by omega) | exact Or.inr (by rw [atF_in (by omega) (by omega), atF_in (by omega) (by omega)]; omega)))
      ·
        refine r_iconst dL_act_394 ?_
        refine e_zreturn dL_act_395 rfl (by omega) (by omega) (by omega) ?_
        exact oktI rfl ⟨⟨_, _, _, _, _, _, _, hc⟩, FrK.rf⟩
