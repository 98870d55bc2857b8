theorem psR_r (c : Int → Int) : ∀ (k : Nat) (i : Int) (s : Ps), i ≤ (psR c k i s).1 ∧ (psR c k i s).1 ≤ i + k
  | 0, i, s => by simp [psR]
  | k + 1, i, s => by
    unfold psR
    split
    · simp; omega
    · next s' _ => have := psR_r c k (i + 1) s'; omega
theorem psR_ok (c : Int → Int) : ∀ (k : Nat) (i : Int) (s : Ps), PsOk s i → PsOk (psR c k i s).2 (psR c k i s).1
  | 0, i, s, h => by simpa [psR] using h
  | k + 1, i, s, h => by
    unfold psR
    split
    · exact h
    · next s' hs => exact psR_ok c k (i + 1) s' (psT_ok h hs)
def Asc (pa : Int) (A B : Int → Int) : Prop := (∀ j, 0 ≤ j → j < pa → 0 ≤ A j ∧ A j ≤ B j ∧ B j ≤ 9999) ∧ ∀ j, 0 < j → j < pa → B (j - 1) < A j
def PsAsc (s : Ps) : Prop := Asc s.1 s.2.2.2.2.2.2.1 s.2.2.2.2.2.2.2 ∧ (s.2.1 = 0 → 0 < s.1 → s.2.2.2.2.2.2.2 (s.1 - 1) < s.2.2.2.1) ∧ (s.2.1 = 1 → s.2.2.2.1 = s.2.2.1 ∧ (0 < s.1 → s.2.2.2.2.2.2.2 (s.1 - 1) < s.2.2.1))
def clS (s : Ps) : Ps := match s with
  | (pa, ir, fi, le, va, di, A, B) => (pa + 1, ir, fi, le, va, di, uI A pa (if ir = 0 then va else fi), uI B pa va)
theorem Asc.close {pa ir fi le va di i : Int} {A B : Int → Int} (h : PsAsc (pa, ir, fi, le, va, di, A, B)) (hok : PsOk (pa, ir, fi, le, va, di, A, B) i) (hw : whF le va di = true) : Asc (pa + 1) (uI A pa (if ir = 0 then va else fi)) (uI B pa va) := by
  unfold PsAsc at h
  unfold PsOk at hok
  unfold whF at hw
  simp at hw
  dsimp only at h hok
  obtain ⟨⟨h1, h2⟩, h3, h4⟩ := h
  refine ⟨fun j a b => ?_, fun j a b => ?_⟩
  · by_cases e : j = pa
    · rw [e, uI_s, uI_s]
      split
      · omega
      · have := h4 (by omega); omega
    · rw [uI_n _ e, uI_n _ e]; exact h1 j a (by omega)
  · rw [uI_n _ (show j - 1 ≠ pa by omega)]
    by_cases e : j = pa
    · rw [e, uI_s]
      split
      · next q => have := h3 q (by omega); omega
      · have := (h4 (by omega)).2 (by omega); omega
    · rw [uI_n _ e]; exact h2 j a (by omega)
theorem psT_asc {c i : Int} {s s' : Ps} (h : PsAsc s) (hok : PsOk s i) (ht : psT c s = some s') : PsAsc s' := by
  obtain ⟨pa, ir, fi, le, va, di, A, B⟩ := s
  have hc := h
  unfold PsAsc at h
  have hok9 := hok
  unfold PsOk at hok9
  dsimp only at h hok9
  unfold psT at ht
  split at ht
  · unfold psC at ht
    dsimp only at ht
    split at ht
    · next q =>
      cases ht
      refine ⟨Asc.close hc hok q.1, fun _ _ => ?_, fun h9 => by dsimp only at h9; omega⟩
      dsimp only
      rw [show pa + 1 - 1 = pa by omega, uI_s]
      omega
    · cases ht
  · split at ht
    · unfold psD at ht
      dsimp only at ht
      split at ht
      · next q =>
        cases ht
        have hw := q.1
        unfold whF at hw
        simp at hw
        refine ⟨h.1, fun h9 => by dsimp only at h9; omega, fun _ => ⟨rfl, fun h9 => ?_⟩⟩
        have := h.2.1 q.2 h9
        dsimp only
        omega
      · cases ht
    · split at ht
      · unfold psG at ht
        dsimp only at ht
        split at ht
        · cases ht
        · split at ht
          · cases ht
          · cases ht
            exact h
      · cases ht
theorem psR_asc (c : Int → Int) : ∀ (k : Nat) (i : Int) (s : Ps), PsAsc s → PsOk s i → PsAsc (psR c k i s).2
  | 0, i, s, h, _ => by simpa [psR] using h
  | k + 1, i, s, h, hok => by
    unfold psR
    split
    · exact h
    · next s' hs => exact psR_asc c k (i + 1) s' (psT_asc h hok hs) (psT_ok hok hs)
theorem ps0_ok : PsOk ps0 0 := by unfold PsOk ps0; dsimp only; rw [if_neg (by omega)]; omega
theorem ps0_asc : PsAsc ps0 := ⟨⟨fun j a b => by unfold ps0 at b; dsimp only at b; omega, fun j a b => by unfold ps0 at b; dsimp only at b; omega⟩, fun _ h => by unfold ps0 at h; dsimp only at h; omega, fun h => by unfold ps0 at h; dsimp only at h; omega⟩
/-- what the text says -/
def prR (len : Int) (c : Int → Int) : Int × Ps := psR c len.toNat 0 ps0
def pwF (len : Int) (c : Int → Int) : Bool := decide (len ≤ (prR len c).1) && whF (prR len c).2.2.2.2.1 (prR len c).2.2.2.2.2.1 (prR len c).2.2.2.2.2.2.1
def ptA (len : Int) (c : Int → Int) : Int → Int := (clS (prR len c).2).2.2.2.2.2.2.1
def ptB (len : Int) (c : Int → Int) : Int → Int := (clS (prR len c).2).2.2.2.2.2.2.2
def ptN (len : Int) (c : Int → Int) : Int := (clS (prR len c).2).1
theorem pt_asc {len : Int} {c : Int → Int} (hl : 0 ≤ len) (h : pwF len c = true) : Asc (ptN len c) (ptA len c) (ptB len c) ∧ 0 < ptN len c ∧ 2 * ptN len c ≤ len + 1 := by
  have h1 := psR_asc c len.toNat 0 ps0 ps0_asc ps0_ok
  have h2 := psR_ok c len.toNat 0 ps0 ps0_ok
  have h3 := psR_r c len.toNat 0 ps0
  unfold pwF prR at h
  unfold ptN ptA ptB prR
  generalize psR c len.toNat 0 ps0 = R at h h1 h2 h3 ⊢
  obtain ⟨r, pa, ir, fi, le, va, di, A, B⟩ := R
  simp only [Bool.and_eq_true, decide_eq_true_eq] at h
  refine ⟨Asc.close h1 h2 h.2, ?_, ?_⟩
  · unfold PsOk at h2; dsimp only [clS] at h2 ⊢; omega
  · have hw := h.2
    unfold whF at hw
    simp at hw
    unfold PsOk at h2; dsimp only [clS] at h2 h3 ⊢; rw [if_pos hw.1] at h2; omega
/-- numbers behind a row, one by one; and the numbers of the parts -/
def rgF : Nat → Int → Int → (Int → Int) → Int × (Int → Int)
  | 0, _, n, F => (n, F)
  | k + 1, v, n, F => rgF k (v + 1) (n + 1) (uI F n v)
def flF (A B : Int → Int) : Nat → Int → Int → (Int → Int) → Int × (Int → Int)
  | 0, _, n, F => (n, F)
  | k + 1, j, n, F => flF A B k (j + 1) (rgF (B j - A j + 1).toNat (A j) n F).1 (rgF (B j - A j + 1).toNat (A j) n F).2
def cntP (A B : Int → Int) : Int → Int := fun j => B j - A j + 1
theorem rgF_n : ∀ (k : Nat) (v n : Int) (F : Int → Int), (rgF k v n F).1 = n + k
  | 0, v, n, F => by simp [rgF]
  | k + 1, v, n, F => by unfold rgF; rw [rgF_n k]; omega
theorem plc_end {n x : Int} {F : Int → Int} (hn : 0 ≤ n) (h : ∀ i, 0 ≤ i → i < n → F i < x) : plc n F x = n := by
  unfold plc
  refine ff_unique (by omega) (by omega) (fun j a b => decide_eq_false ?_) (fun h9 => by omega)
  have := h j a b
  omega
theorem Mb.cong {M : Mem} {o a N : Nat} {n : Int} {F F' : Int → Int} (h : Mb M o a N n F) (hF : ∀ i, 0 ≤ i → i < n → F' i = F i) : Mb M o a N n F' := by
  obtain ⟨h1, ⟨f, h2, h3⟩, h4, h5, h6, h7⟩ := h
  exact ⟨h1, ⟨f, h2, fun i a b => (h3 i a b).trans (hF i a b).symm⟩, h4, h5, h6, fun i a b => by rw [hF i a b]; exact h7 i a b⟩
/-- a put behind the end -/
theorem Mb.append {M : Mem} {o a N : Nat} {n x : Int} {F : Int → Int} (hn : 0 ≤ n) (hN : n < N) (h : ∀ i, 0 ≤ i → i < n → F i < x) (hm : Mb M o a N (putN N n F x) (putF N n F x)) : Mb M o a N (n + 1) (uI F n x) := by
  have e1 : hasF n F x = false := by unfold hasF; rw [plc_end hn h, decide_eq_false (by omega)]; rfl
  have e2 : putOk N n F x = true := by unfold putOk; rw [e1, decide_eq_true hN]; rfl
  unfold putN putF at hm
  rw [if_pos e2, if_pos e2, plc_end hn h] at hm
  refine hm.cong (fun i a b => ?_)
  unfold insF
  by_cases e : i = n
  · rw [e, uI_s, if_neg (by omega), if_pos rfl]
  · rw [uI_n _ e, if_pos (by omega)]
theorem cnt_pos {pa : Int} {A B : Int → Int} (h : Asc pa A B) : ∀ (k : Nat) (j : Int), 0 ≤ j → j + k ≤ pa → (k : Int) ≤ smF (cntP A B) k j
  | 0, j, h0, h1 => by simp [smF]
  | k + 1, j, h0, h1 => by
    unfold smF
    have h2 := cnt_pos h k (j + 1) (by omega) (by omega)
    have h3 := h.1 j h0 (by omega)
    have h4 : cntP A B j = B j - A j + 1 := rfl
    omega



