theorem psR_r (c : Int → Int) : ∀ (k : Nat) (i : Int) (s : Ps), i ≤ (psR c k i s).1 ∧ (psR c k i s).1 ≤ i + k
  | 0, i, s => by simp [psR]
  | k + 1, i, s => by
    unfold psR
    split
    · simp; omega
    · next s' _ => have := psR_r c k (i + 1) s'; omega
theorem psR_ok (c : Int → Int) : ∀ (k : Nat) (i : Int) (s : Ps), PsOk s i → PsOk (psR c k i s).2 (psR c k i s).1
  | 0, i, s, h => by simpa [psR] using h
  | k + 1, i, s, h => by
    unfold psR
    split
    · exact h
    · next s' hs => exact psR_ok c k (i + 1) s' (psT_ok h hs)
def Asc (pa : Int) (A B : Int → Int) : Prop := (∀ j, 0 ≤ j → j < pa → 0 ≤ A j ∧ A j ≤ B j ∧ B j ≤ 9999) ∧ ∀ j, 0 < j → j < pa → B (j - 1) < A j
def PsAsc (s : Ps) : Prop := Asc s.1 s.2.2.2.2.2.2.1 s.2.2.2.2.2.2.2 ∧ (s.2.1 = 0 → 0 < s.1 → s.2.2.2.2.2.2.2 (s.1 - 1) < s.2.2.2.1) ∧ (s.2.1 = 1 → s.2.2.2.1 = s.2.2.1 ∧ (0 < s.1 → s.2.2.2.2.2.2.2 (s.1 - 1) < s.2.2.1))
def clS (s : Ps) : Ps := match s with
  | (pa, ir, fi, le, va, di, A, B) => (pa + 1, ir, fi, le, va, di, uI A pa (if ir = 0 then va else fi), uI B pa va)
theorem Asc.close {pa ir fi le va di i : Int} {A B : Int → Int} (h : PsAsc (pa, ir, fi, le, va, di, A, B)) (hok : PsOk (pa, ir, fi, le, va, di, A, B) i) (hw : whF le va di = true) : Asc (pa + 1) (uI A pa (if ir = 0 then va else fi)) (uI B pa va) := by
  unfold PsAsc at h
  unfold PsOk at hok
  unfold whF at hw
  simp at hw
  dsimp only at h hok
  obtain ⟨⟨h1, h2⟩, h3, h4⟩ := h
  refine ⟨fun j a b => ?_, fun j a b => ?_⟩
  · by_cases e : j = pa
    · rw [e, uI_s, uI_s]
      split
      · omega
      · have := h4 (by omega); omega
    · rw [uI_n _ e, uI_n _ e]; exact h1 j a (by omega)
  · rw [uI_n _ (show j - 1 ≠ pa by omega)]
    by_cases e : j = pa
    · rw [e, uI_s]
      split
      · next q => have := h3 q (by omega); omega
      · have := (h4 (by omega)).2 (by omega); omega
    · rw [uI_n _ e]; exact h2 j a (by omega)
theorem psT_asc {c i : Int} {s s' : Ps} (h : PsAsc s) (hok : PsOk s i) (ht : psT c s = some s') : PsAsc s' := by
  obtain ⟨pa, ir, fi, le, va, di, A, B⟩ := s
  have hc := h
  unfold PsAsc at h
  have hok9 := hok
  unfold PsOk at hok9
  dsimp only at h hok9
  unfold psT at ht
  split at ht
  · unfold psC at ht
    dsimp only at ht
    split at ht
    · next q =>
      cases ht
      refine ⟨Asc.close hc hok q.1, fun _ _ => ?_, fun h9 => by dsimp only at h9; omega⟩
      dsimp only
      rw [show pa + 1 - 1 = pa by omega, uI_s]
      omega
    · cases ht
  · split at ht
    · unfold psD at ht
      dsimp only at ht
      split at ht
      · next q =>
        cases ht
        have hw := q.1
        unfold whF at hw
        simp at hw
        refine ⟨h.1, fun h9 => by dsimp only at h9; omega, fun _ => ⟨rfl, fun h9 => ?_⟩⟩
        have := h.2.1 q.2 h9
        dsimp only
        omega
      · cases ht
    · split at ht
      · unfold psG at ht
        dsimp only at ht
        split at ht
        · cases ht
        · split at ht
          · cases ht
          · cases ht
            exact h
      · cases ht
theorem psR_asc (c : Int → Int) : ∀ (k : Nat) (i : Int) (s : Ps), PsAsc s → PsOk s i → PsAsc (psR c k i s).2
  | 0, i, s, h, _ => by simpa [psR] using h
  | k + 1, i, s, h, hok => by
    unfold psR
    split
    · exact h
    · next s' hs => exact psR_asc c k (i + 1) s' (psT_asc h hok hs) (psT_ok hok hs)
theorem ps0_ok : PsOk ps0 0 := by unfold PsOk ps0; dsimp only; rw [if_neg (by omega)]; omega
theorem ps0_asc : PsAsc ps0 := ⟨⟨fun j a b => by unfold ps0 at b; dsimp only at b; omega, fun j a b => by unfold ps0 at b; dsimp only at b; omega⟩, fun _ h => by unfold ps0 at h; dsimp only at h; omega, fun h => by unfold ps0 at h; dsimp only at h; omega⟩
/-- what the text says -/
def prR (len : Int) (c : Int → Int) : Int × Ps := psR c len.toNat 0 ps0
def pwF (len : Int) (c : Int → Int) : Bool := decide (len ≤ (prR len c).1) && whF (prR len c).2.2.2.2.1 (prR len c).2.2.2.2.2.1 (prR len c).2.2.2.2.2.2.1
def ptA (len : Int) (c : Int → Int) : Int → Int := (clS (prR len c).2).2.2.2.2.2.2.1
def ptB (len : Int) (c : Int → Int) : Int → Int := (clS (prR len c).2).2.2.2.2.2.2.2
def ptN (len : Int) (c : Int → Int) : Int := (clS (prR len c).2).1
theorem pt_asc {len : Int} {c : Int → Int} (hl : 0 ≤ len) (h : pwF len c = true) : Asc (ptN len c) (ptA len c) (ptB len c) ∧ 0 < ptN len c ∧ 2 * ptN len c ≤ len + 1 := by
  have h1 := psR_asc c len.toNat 0 ps0 ps0_asc ps0_ok
  have h2 := psR_ok c len.toNat 0 ps0 ps0_ok
  have h3 := psR_r c len.toNat 0 ps0
  unfold pwF prR at h
  unfold ptN ptA ptB prR
  generalize psR c len.toNat 0 ps0 = R at h h1 h2 h3 ⊢
  obtain ⟨r, pa, ir, fi, le, va, di, A, B⟩ := R
  simp only [Bool.and_eq_true, decide_eq_true_eq] at h
  refine ⟨Asc.close h1 h2 h.2, ?_, ?_⟩
  · unfold PsOk at h2; dsimp only [clS] at h2 ⊢; omega
  · have hw := h.2
    unfold whF at hw
    simp at hw
    unfold PsOk at h2; dsimp only [clS] at h2 h3 ⊢; rw [if_pos hw.1] at h2; omega
/-- numbers behind a row, one by one; and the numbers of the parts -/
def rgF : Nat → Int → Int → (Int → Int) → Int × (Int → Int)
  | 0, _, n, F => (n, F)
  | k + 1, v, n, F => rgF k (v + 1) (n + 1) (uI F n v)
def flF (A B : Int → Int) : Nat → Int → Int → (Int → Int) → Int × (Int → Int)
  | 0, _, n, F => (n, F)
  | k + 1, j, n, F => flF A B k (j + 1) (rgF (B j - A j + 1).toNat (A j) n F).1 (rgF (B j - A j + 1).toNat (A j) n F).2
def cntP (A B : Int → Int) : Int → Int := fun j => B j - A j + 1
theorem rgF_n : ∀ (k : Nat) (v n : Int) (F : Int → Int), (rgF k v n F).1 = n + k
  | 0, v, n, F => by simp [rgF]
  | k + 1, v, n, F => by unfold rgF; rw [rgF_n k]; omega
theorem plc_end {n x : Int} {F : Int → Int} (hn : 0 ≤ n) (h : ∀ i, 0 ≤ i → i < n → F i < x) : plc n F x = n := by
  unfold plc
  refine ff_unique (by omega) (by omega) (fun j a b => decide_eq_false ?_) (fun h9 => by omega)
  have := h j a b
  omega
theorem Mb.cong {M : Mem} {o a N : Nat} {n : Int} {F F' : Int → Int} (h : Mb M o a N n F) (hF : ∀ i, 0 ≤ i → i < n → F' i = F i) : Mb M o a N n F' := by
  obtain ⟨h1, ⟨f, h2, h3⟩, h4, h5, h6, h7⟩ := h
  exact ⟨h1, ⟨f, h2, fun i a b => (h3 i a b).trans (hF i a b).symm⟩, h4, h5, h6, fun i a b => by rw [hF i a b]; exact h7 i a b⟩
/-- a put behind the end -/
theorem Mb.append {M : Mem} {o a N : Nat} {n x : Int} {F : Int → Int} (hn : 0 ≤ n) (hN : n < N) (h : ∀ i, 0 ≤ i → i < n → F i < x) (hm : Mb M o a N (putN N n F x) (putF N n F x)) : Mb M o a N (n + 1) (uI F n x) := by
  have e1 : hasF n F x = false := by unfold hasF; rw [plc_end hn h, decide_eq_false (by omega)]; rfl
  have e2 : putOk N n F x = true := by unfold putOk; rw [e1, decide_eq_true hN]; rfl
  unfold putN putF at hm
  rw [if_pos e2, if_pos e2, plc_end hn h] at hm
  refine hm.cong (fun i a b => ?_)
  unfold insF
  by_cases e : i = n
  · rw [e, uI_s, if_neg (by omega), if_pos rfl]
  · rw [uI_n _ e, if_pos (by omega)]
theorem cnt_pos {pa : Int} {A B : Int → Int} (h : Asc pa A B) : ∀ (k : Nat) (j : Int), 0 ≤ j → j + k ≤ pa → (k : Int) ≤ smF (cntP A B) k j
  | 0, j, h0, h1 => by simp [smF]
  | k + 1, j, h0, h1 => by
    unfold smF
    have h2 := cnt_pos h k (j + 1) (by omega) (by omega)
    have h3 := h.1 j h0 (by omega)
    have h4 : cntP A B j = B j - A j + 1 := rfl
    omega
set_option maxHeartbeats 4000000 in
theorem mX6_parse {M : Mem} {ad : Int → Nat} {len : Int} {c : Int → Int} (hw : PrW M ad) (hb : BfP M ad len c) (hi : Inj ad) : Ct KX6_parse [.ref (ad 96), .ref (ad 94)] M 0 0 (atI (prR len c).1 (fun M2 => PrP M2 ad (prR len c).2 ∧ FrI ad 96 99 M M2)) := by
  refine Ct.of _ (by decide) rfl (Nat.le_of_ble_eq_true rfl) ?_
  obtain ⟨hbo, ⟨bf, hba, hbf⟩, hl0, hl1, hbr⟩ := id hb
  obtain ⟨⟨x1, x2, x3, x4, x5, x6, hpo⟩, -, -⟩ := id hw
  refine r_aload_n dX6_parse_0 rfl ?_
  refine r_callV0 okX6_restart ⟨by decide, by decide⟩ ml_X6_18 (mX6_restart hw hi) hpo rfl rfl (Nat.le_of_ble_eq_true rfl) (Nat.le_of_ble_eq_true rfl) (Nat.le_of_ble_eq_true rfl) rfl dX6_parse_1 (nx_tV) (kx_tV ?_)
  intro M0 hM0
  refine r_iconst dX6_parse_4 ?_
  refine r_istore_n dX6_parse_5 (by decide) rfl ?_
  refine J.loc (L' := [(0, some _), (1, some _), (2, some _)]) (lsub_cons rfl (lsub_cons rfl (lsub_cons rfl (lsub_nil)))) (loop3 (fun (i : Int) (M1 : Mem) (s : Ps) => 0 ≤ i ∧ i ≤ len ∧ PrP M1 ad s ∧ PsOk s i ∧ FrI ad 96 99 M M1 ∧ prR len c = psR c (len - i).toNat i s) (fun (i : Int) (M1 : Mem) (s : Ps) => (len - i).toNat) (fun (i : Int) (M1 : Mem) (s : Ps) => J KX6_parse 0 0 _ 6 [(0, some (.ref (ad 96))), (1, some (.ref (ad 94))), (2, some (vI i))] [] M1 _ _) (fun i M1 s hI6 ih6 => ?_) _ _ ps0 ?_)
  ·
    obtain ⟨hi0, hi1, hp1, hok, hfr, hR⟩ := hI6
    obtain ⟨pa, ir, fi, le, va, di, A, B⟩ := s
    have hb1 : BfP M1 ad len c := hb.frame (hfr.at hi ⟨by omega, by omega⟩ ⟨by omega, by omega⟩ (by omega)) (hfr.at hi ⟨by omega, by omega⟩ ⟨by omega, by omega⟩ (by omega))
    refine r_iload_n dX6_parse_6 rfl ?_
    refine r_aload_n dX6_parse_7 rfl ?_
    refine r_callV0 okX1_length ⟨by decide, by decide⟩ ml_X6_21 (mX1_length hb1) hb1.1 rfl rfl (Nat.le_of_ble_eq_true rfl) (Nat.le_of_ble_eq_true rfl) (Nat.le_of_ble_eq_true rfl) rfl dX6_parse_8 (nx_I) (kx_I ?_)
    refine r_icmp_ge (tgt := 34) dX6_parse_11 (by decide) (by omega) (by omega) (fun h11 => ?_) (fun h11 => ?_)
    ·
      refine r_aload_n dX6_parse_34 rfl ?_
      refine r_callV0 okX1_length ⟨by decide, by decide⟩ ml_X6_21 (mX1_length hb1) hb1.1 rfl rfl (Nat.le_of_ble_eq_true rfl) (Nat.le_of_ble_eq_true rfl) (Nat.le_of_ble_eq_true rfl) rfl dX6_parse_35 (nx_I) (kx_I ?_)
      refine e_ireturn dX6_parse_38 rfl (Nat.le_of_ble_eq_true rfl) (Nat.le_of_ble_eq_true rfl) ?_
      have e : prR len c = (i, (pa, ir, fi, le, va, di, A, B)) := by rw [hR, show (len - i).toNat = 0 by omega, psR]
      rw [e]
      exact oktI (by omega) ⟨hp1, hfr⟩
    ·
      refine r_aload_n dX6_parse_14 rfl ?_
      refine r_aload_n dX6_parse_15 rfl ?_
      refine r_iload_n dX6_parse_16 rfl ?_
      refine r_callV1 okX1_at ⟨by decide, by decide⟩ ml_X6_27 (mX1_at hb1 (by omega) (by omega)) hb1.1 rfl rfl (Nat.le_of_ble_eq_true rfl) (Nat.le_of_ble_eq_true rfl) (Nat.le_of_ble_eq_true rfl) rfl dX6_parse_17 (nx_I) (kx_I ?_)
      have hci := hbr i (by omega) (by omega)
      refine r_callV1 okX6_takes ⟨by decide, by decide⟩ ml_X6_31 (mX6_takes hp1 hi hok (by omega) (by omega)) hp1.1 rfl rfl (Nat.le_of_ble_eq_true rfl) (Nat.le_of_ble_eq_true rfl) (Nat.le_of_ble_eq_true rfl) rfl dX6_parse_20 (nx_tI) (kx_tI ?_)
      intro M2 hM2
      have hbg := bI_r (psT (c i) (pa, ir, fi, le, va, di, A, B)).isSome
      refine r_if_ne (tgt := 28) dX6_parse_23 (by decide) (by omega) (fun h23 => ?_) (fun h23 => ?_)
      ·
        refine r_iinc dX6_parse_28 rfl rfl ?_
        refine r_goto (tgt := 6) dX6_parse_31 (by decide) ?_
        refine J.loc (lsub_cons rfl (lsub_cons rfl (lsub_cons rfl (lsub_nil)))) (ih6 _ _ ((psT (c i) (pa, ir, fi, le, va, di, A, B)).getD (pa, ir, fi, le, va, di, A, B)) ?_ ?_)
        · obtain ⟨s2, hs2⟩ := Option.isSome_iff_exists.mp (bI_t h23)
          rw [hs2] at hM2 ⊢
          refine ⟨by omega, by omega, hM2.1, psT_ok hok hs2, hfr.trans hM2.2, ?_⟩
          rw [hR, show (len - i).toNat = (len - (i + 1)).toNat + 1 by omega, psR, hs2]
          rfl
        · omega
      ·
        refine r_iload_n dX6_parse_26 rfl ?_
        refine e_ireturn dX6_parse_27 rfl (Nat.le_of_ble_eq_true rfl) (Nat.le_of_ble_eq_true rfl) ?_
        have hs2 : psT (c i) (pa, ir, fi, le, va, di, A, B) = none := by
          cases h9 : psT (c i) (pa, ir, fi, le, va, di, A, B) with
          | none => rfl
          | some s2 => rw [h9] at h23; exact absurd h23 (by simp [bI])
        rw [hs2] at hM2
        have e : prR len c = (i, (pa, ir, fi, le, va, di, A, B)) := by rw [hR, show (len - i).toNat = (len - (i + 1)).toNat + 1 by omega, psR, hs2]
        rw [e]
        exact oktI rfl ⟨hM2.1, hfr.trans hM2.2⟩
  · exact ⟨by omega, by omega, hM0.1, ps0_ok, hM0.2, by simp [prR]⟩

set_option maxHeartbeats 4000000 in
theorem mX6_parsesWhole {M : Mem} {ad : Int → Nat} {len : Int} {c : Int → Int} (hw : PrW M ad) (hb : BfP M ad len c) (hi : Inj ad) : Ct KX6_parsesWhole [.ref (ad 96), .ref (ad 94)] M 0 0 (atI (bI (pwF len c)) (fun M2 => (pwF len c = true → PrP M2 ad (clS (prR len c).2)) ∧ PrW M2 ad ∧ FrI ad 96 99 M M2)) := by
  refine Ct.of _ (by decide) rfl (Nat.le_of_ble_eq_true rfl) ?_
  obtain ⟨hbo, ⟨bf, hba, hbf⟩, hl0, hl1, hbr⟩ := id hb
  obtain ⟨⟨x1, x2, x3, x4, x5, x6, hpo⟩, -, -⟩ := id hw
  have hrr := psR_r c len.toNat 0 ps0
  have hok := psR_ok c len.toNat 0 ps0 ps0_ok
  rw [show psR c len.toNat 0 ps0 = prR len c from rfl] at hrr hok
  refine r_aload_n dX6_parsesWhole_0 rfl ?_
  refine r_aload_n dX6_parsesWhole_1 rfl ?_
  refine r_callV1 okX6_parse ⟨by decide, by decide⟩ ml_X6_35 (mX6_parse hw hb hi) hpo rfl rfl (Nat.le_of_ble_eq_true rfl) (Nat.le_of_ble_eq_true rfl) (Nat.le_of_ble_eq_true rfl) rfl dX6_parsesWhole_2 (nx_tI) (kx_tI ?_)
  intro M2 hM2
  have hb2 : BfP M2 ad len c := hb.frame (hM2.2.at hi ⟨by omega, by omega⟩ ⟨by omega, by omega⟩ (by omega)) (hM2.2.at hi ⟨by omega, by omega⟩ ⟨by omega, by omega⟩ (by omega))
  have hpw : pwF len c = (decide (len ≤ (prR len c).1) && whF (prR len c).2.2.2.2.1 (prR len c).2.2.2.2.2.1 (prR len c).2.2.2.2.2.2.1) := rfl
  generalize prR len c = R at hM2 hrr hok hpw ⊢
  obtain ⟨r, pa, ir, fi, le, va, di, A, B⟩ := R
  dsimp only at hM2 hrr hok hpw ⊢
  have hbw := bI_r (whF le va di)
  refine r_aload_n dX6_parsesWhole_5 rfl ?_
  refine r_callV0 okX1_length ⟨by decide, by decide⟩ ml_X6_21 (mX1_length hb2) hb2.1 rfl rfl (Nat.le_of_ble_eq_true rfl) (Nat.le_of_ble_eq_true rfl) (Nat.le_of_ble_eq_true rfl) rfl dX6_parsesWhole_6 (nx_I) (kx_I ?_)
  refine r_icmp_lt (tgt := 19) dX6_parsesWhole_9 (by decide) (by omega) (by omega) (fun h9 => ?_) (fun h9 => ?_)
  ·
    refine r_iconst dX6_parsesWhole_19 ?_
    refine e_zreturn dX6_parsesWhole_20 rfl (by omega) (Nat.le_of_ble_eq_true rfl) (Nat.le_of_ble_eq_true rfl) ?_
    have e : pwF len c = false := by
      rw [hpw]
      first | (rw [decide_eq_false (by omega)]; rfl) | (cases h9 : whF le va di with
      | false => simp
      | true => rw [h9] at h16; exact absurd h16 (by decide))
    rw [e]
    exact oktI rfl ⟨(fun h => nomatch h), hM2.1.w, hM2.2⟩
  ·
    refine r_aload_n dX6_parsesWhole_12 rfl ?_
    refine r_callV0 okX6_isWhole ⟨by decide, by decide⟩ ml_X6_39 (mX6_isWhole hM2.1 hi hok) hM2.1.1 rfl rfl (Nat.le_of_ble_eq_true rfl) (Nat.le_of_ble_eq_true rfl) (Nat.le_of_ble_eq_true rfl) rfl dX6_parsesWhole_13 (nx_I) (kx_I ?_)
    refine r_if_ne (tgt := 21) dX6_parsesWhole_16 (by decide) (by omega) (fun h16 => ?_) (fun h16 => ?_)
    ·
      refine r_aload_n dX6_parsesWhole_21 rfl ?_
      refine r_callV0 okX6_closePart ⟨by decide, by decide⟩ ml_X6_43 (mX6_closePart hM2.1 hi hok (by have hw9 := bI_t h16; unfold whF at hw9; simp at hw9; unfold PsOk at hok; dsimp only at hok; rw [if_pos hw9.1] at hok; omega)) hM2.1.1 rfl rfl (Nat.le_of_ble_eq_true rfl) (Nat.le_of_ble_eq_true rfl) (Nat.le_of_ble_eq_true rfl) rfl dX6_parsesWhole_22 (nx_tV) (kx_tV ?_)
      intro M3 hM3
      refine r_iconst dX6_parsesWhole_25 ?_
      refine e_zreturn dX6_parsesWhole_26 rfl (by omega) (Nat.le_of_ble_eq_true rfl) (Nat.le_of_ble_eq_true rfl) ?_
      have e : pwF len c = true := by rw [hpw, decide_eq_true (by omega), bI_t h16]; rfl
      rw [e]
      exact oktI rfl ⟨fun _ => hM3.1, hM3.1.w, hM2.2.trans hM3.2⟩
    ·
      refine r_iconst dX6_parsesWhole_19 ?_
      refine e_zreturn dX6_parsesWhole_20 rfl (by omega) (Nat.le_of_ble_eq_true rfl) (Nat.le_of_ble_eq_true rfl) ?_
      have e : pwF len c = false := by
        rw [hpw]
        first | (rw [decide_eq_false (by omega)]; rfl) | (cases h9 : whF le va di with
        | false => simp
        | true => rw [h9] at h16; exact absurd h16 (by decide))
      rw [e]
      exact oktI rfl ⟨(fun h => nomatch h), hM2.1.w, hM2.2⟩

set_option maxHeartbeats 4000000 in
theorem mX6_amount {M : Mem} {ad : Int → Nat} {pa ir fi le va di : Int} {A B : Int → Int} (hp : PrP M ad (pa, ir, fi, le, va, di, A, B)) (hpa : 0 ≤ pa ∧ pa ≤ 60) : Ct KX6_amount [.ref (ad 96)] M 0 0 (rtI (smF (cntP A B) pa.toNat 0) M) := by
  refine Ct.of _ (by decide) rfl (Nat.le_of_ble_eq_true rfl) ?_
  obtain ⟨hpo, ⟨fa, hfa, hfa2⟩, ⟨fb, hfb, hfb2⟩⟩ := id hp
  dsimp only at hpo hfa2 hfb2
  refine r_iconst dX6_amount_0 ?_
  refine r_istore_n dX6_amount_1 (by decide) rfl ?_
  refine r_iconst dX6_amount_2 ?_
  refine r_istore_n dX6_amount_3 (by decide) rfl ?_
  refine J.loc (L' := [(0, some _), (1, some _), (2, some _)]) (lsub_cons rfl (lsub_cons rfl (lsub_cons rfl (lsub_nil)))) (loop2 (fun (j : Int) (y : Int) => 0 ≤ j ∧ j ≤ pa ∧ smF (cntP A B) pa.toNat 0 = y + smF (cntP A B) (pa - j).toNat j) (fun (j : Int) (y : Int) => (pa - j).toNat) (fun (j : Int) (y : Int) => J KX6_amount 0 0 _ 4 [(0, some (.ref (ad 96))), (1, some (vI y)), (2, some (vI j))] [] M _ _) (fun j y hI4 ih4 => ?_) _ _ ?_)
  ·
    obtain ⟨hj0, hj1, hy⟩ := hI4
    refine r_iload_n dX6_amount_4 rfl ?_
    refine r_aload_n dX6_amount_5 rfl ?_
    refine r_getfield clX6 2 (by decide) fl_X6_46 (by first | assumption | exact up_s _ _ _ | exact (up_n _ (by assumption)).trans (by assumption) | exact (up_n _ (by assumption)).trans (up_s _ _ _) | exact (up_n _ (by assumption)).trans ((up_n _ (by assumption)).trans (by assumption))) rfl dX6_amount_6 ?_
    refine r_icmp_ge (tgt := 54) dX6_amount_9 (by decide) (by omega) (by omega) (fun h9 => ?_) (fun h9 => ?_)
    ·
      refine r_iload_n dX6_amount_54 rfl ?_
      refine e_ireturn dX6_amount_55 rfl (Nat.le_of_ble_eq_true rfl) (Nat.le_of_ble_eq_true rfl) ?_
      exact okI (by rw [hy, show (pa - j).toNat = 0 by omega, smF]; omega)
    ·
      refine r_iload_n dX6_amount_12 rfl ?_
      refine r_aload_n dX6_amount_13 rfl ?_
      refine r_getfield clX6 0 (by decide) fl_X6_9 (by first | assumption | exact up_s _ _ _ | exact (up_n _ (by assumption)).trans (by assumption) | exact (up_n _ (by assumption)).trans (up_s _ _ _) | exact (up_n _ (by assumption)).trans ((up_n _ (by assumption)).trans (by assumption))) rfl dX6_amount_14 ?_
      refine r_alenI (by first | assumption | exact up_s _ _ _ | exact (up_n _ (by assumption)).trans (by assumption) | exact (up_n _ (by assumption)).trans (up_s _ _ _) | exact (up_n _ (by assumption)).trans ((up_n _ (by assumption)).trans (by assumption))) dX6_amount_17 ?_
      refine r_icmp_ge (tgt := 54) dX6_amount_18 (by decide) (by omega) (by omega) (fun h18 => ?_) (fun h18 => ?_)
      · omega
      ·
        refine r_iload_n dX6_amount_21 rfl ?_
        refine r_aload_n dX6_amount_22 rfl ?_
        refine r_getfield clX6 1 (by decide) fl_X6_15 (by first | assumption | exact up_s _ _ _ | exact (up_n _ (by assumption)).trans (by assumption) | exact (up_n _ (by assumption)).trans (up_s _ _ _) | exact (up_n _ (by assumption)).trans ((up_n _ (by assumption)).trans (by assumption))) rfl dX6_amount_23 ?_
        refine r_alenI (by first | assumption | exact up_s _ _ _ | exact (up_n _ (by assumption)).trans (by assumption) | exact (up_n _ (by assumption)).trans (up_s _ _ _) | exact (up_n _ (by assumption)).trans ((up_n _ (by assumption)).trans (by assumption))) dX6_amount_26 ?_
        refine r_icmp_ge (tgt := 54) dX6_amount_27 (by decide) (by omega) (by omega) (fun h27 => ?_) (fun h27 => ?_)
        · omega
        ·
          refine r_iload_n dX6_amount_30 rfl ?_
          refine r_aload_n dX6_amount_31 rfl ?_
          refine r_getfield clX6 1 (by decide) fl_X6_15 (by first | assumption | exact up_s _ _ _ | exact (up_n _ (by assumption)).trans (by assumption) | exact (up_n _ (by assumption)).trans (up_s _ _ _) | exact (up_n _ (by assumption)).trans ((up_n _ (by assumption)).trans (by assumption))) rfl dX6_amount_32 ?_
          refine r_iload_n dX6_amount_35 rfl ?_
          refine r_iaload (by first | assumption | exact up_s _ _ _ | exact (up_n _ (by assumption)).trans (by assumption) | exact (up_n _ (by assumption)).trans (up_s _ _ _) | exact (up_n _ (by assumption)).trans ((up_n _ (by assumption)).trans (by assumption))) (by omega) (by omega) (by omega) dX6_amount_36 ?_
          refine r_aload_n dX6_amount_37 rfl ?_
          refine r_getfield clX6 0 (by decide) fl_X6_9 (by first | assumption | exact up_s _ _ _ | exact (up_n _ (by assumption)).trans (by assumption) | exact (up_n _ (by assumption)).trans (up_s _ _ _) | exact (up_n _ (by assumption)).trans ((up_n _ (by assumption)).trans (by assumption))) rfl dX6_amount_38 ?_
          refine r_iload_n dX6_amount_41 rfl ?_
          refine r_iaload (by first | assumption | exact up_s _ _ _ | exact (up_n _ (by assumption)).trans (by assumption) | exact (up_n _ (by assumption)).trans (up_s _ _ _) | exact (up_n _ (by assumption)).trans ((up_n _ (by assumption)).trans (by assumption))) (by omega) (by omega) (by omega) dX6_amount_42 ?_
          refine r_isub dX6_amount_43 ?_
          refine r_iconst dX6_amount_44 ?_
          refine r_iadd dX6_amount_45 ?_
          refine r_iadd dX6_amount_46 ?_
          refine r_istore_n dX6_amount_47 (by decide) rfl ?_
          refine r_iinc dX6_amount_48 rfl rfl ?_
          refine r_goto (tgt := 4) dX6_amount_51 (by decide) ?_
          refine J.loc (lsub_cons rfl (lsub_cons rfl (lsub_cons rfl (lsub_nil)))) (ih4 _ _ ?_ ?_)
          · refine ⟨by omega, by omega, ?_⟩
            rw [hy, show (pa - j).toNat = (pa - (j + 1)).toNat + 1 by omega, smF, hfa2 j hj0 (by omega), hfb2 j hj0 (by omega)]
            unfold cntP
            omega
          · omega
  · exact ⟨by omega, by omega, by simp⟩

set_option maxHeartbeats 4000000 in
theorem mX6_fill {M : Mem} {ad : Int → Nat} {pa ir fi le va di : Int} {A B : Int → Int} {o a : Nat} {n : Int} {F : Int → Int} (hp : PrP M ad (pa, ir, fi, le, va, di, A, B)) (hpa : 0 ≤ pa ∧ pa ≤ 60) (hm : Mb M o a 60 n F) (hmd : ∀ i, 96 ≤ i → i < 99 → ad i ≠ o ∧ ad i ≠ a) (hasc : Asc pa A B) (htot : smF (cntP A B) pa.toNat 0 ≤ 60) : Ct KX6_fill [.ref (ad 96), .ref o] M 0 0 (atV (fun M2 => Mb M2 o a 60 (flF A B pa.toNat 0 0 (fun _ => (0 : Int))).1 (flF A B pa.toNat 0 0 (fun _ => (0 : Int))).2 ∧ Fr2 o a M M2)) := by
  refine Ct.of _ (by decide) rfl (Nat.le_of_ble_eq_true rfl) ?_
  obtain ⟨hpo, ⟨fa, hfa, hfa2⟩, ⟨fb, hfb, hfb2⟩⟩ := id hp
  dsimp only at hpo hfa2 hfb2
  have hmo := hm.1
  refine r_aload_n dX6_fill_0 rfl ?_
  refine r_callV0 okX5_empty ⟨by decide, by decide⟩ ml_X6_50 (mX5_empty hm) (by first | assumption | exact up_s _ _ _ | exact (up_n _ (by assumption)).trans (by assumption) | exact (up_n _ (by assumption)).trans (up_s _ _ _) | exact (up_n _ (by assumption)).trans ((up_n _ (by assumption)).trans (by assumption))) rfl rfl (Nat.le_of_ble_eq_true rfl) (Nat.le_of_ble_eq_true rfl) (Nat.le_of_ble_eq_true rfl) rfl dX6_fill_1 (nx_tV) (kx_tV ?_)
  intro M0 hM0
  refine r_iconst dX6_fill_4 ?_
  refine r_istore_n dX6_fill_5 (by decide) rfl ?_
  refine J.loc (L' := [(0, some _), (1, some _), (2, some _)]) (lsub_cons rfl (lsub_cons rfl (lsub_cons rfl (lsub_nil)))) (loop4 (fun (j : Int) (M1 : Mem) (m : Int) (G : Int → Int) => 0 ≤ j ∧ j ≤ pa ∧ Mb M1 o a 60 m G ∧ Fr2 o a M M1 ∧ m + smF (cntP A B) (pa - j).toNat j = smF (cntP A B) pa.toNat 0 ∧ flF A B pa.toNat 0 0 (fun _ => (0 : Int)) = flF A B (pa - j).toNat j m G ∧ ∀ i, 0 ≤ i → i < m → 0 < j ∧ G i ≤ B (j - 1)) (fun (j : Int) (M1 : Mem) (m : Int) (G : Int → Int) => (pa - j).toNat) (fun (j : Int) (M1 : Mem) (m : Int) (G : Int → Int) => J KX6_fill 0 0 _ 6 [(0, some (.ref (ad 96))), (1, some (.ref o)), (2, some (vI j))] [] M1 _ _) (fun j M1 m G hI6 ih6 => ?_) _ _ 0 (fun _ => (0 : Int)) ?_)
  ·
    obtain ⟨hj0, hj1, hm1, hfr, hcn, hfl, hlt⟩ := hI6
    have hp1 : PrP M1 ad (pa, ir, fi, le, va, di, A, B) := hp.frame (fun i x y => hfr _ (hmd i x y).1 (hmd i x y).2)
    obtain ⟨-, ⟨fa3, hfa1, hfa3⟩, ⟨fb3, hfb1, hfb3⟩⟩ := id hp1
    dsimp only at hfa3 hfb3
    refine r_iload_n dX6_fill_6 rfl ?_
    refine r_aload_n dX6_fill_7 rfl ?_
    refine r_getfield clX6 2 (by decide) fl_X6_46 hp1.1 rfl dX6_fill_8 ?_
    refine r_icmp_ge (tgt := 66) dX6_fill_11 (by decide) (by omega) (by omega) (fun h11 => ?_) (fun h11 => ?_)
    ·
      refine e_return dX6_fill_66 rfl (Nat.le_of_ble_eq_true rfl) (Nat.le_of_ble_eq_true rfl) ?_
      have e : flF A B pa.toNat 0 0 (fun _ => (0 : Int)) = (m, G) := by rw [hfl, show (pa - j).toNat = 0 by omega, flF]
      rw [e]
      exact oktV ⟨hm1, hfr⟩
    ·
      refine r_iload_n dX6_fill_14 rfl ?_
      refine r_aload_n dX6_fill_15 rfl ?_
      refine r_getfield clX6 0 (by decide) fl_X6_9 hp1.1 rfl dX6_fill_16 ?_
      refine r_alenI hfa1 dX6_fill_19 ?_
      refine r_icmp_ge (tgt := 66) dX6_fill_20 (by decide) (by omega) (by omega) (fun h20 => ?_) (fun h20 => ?_)
      · omega
      ·
        refine r_iload_n dX6_fill_23 rfl ?_
        refine r_aload_n dX6_fill_24 rfl ?_
        refine r_getfield clX6 1 (by decide) fl_X6_15 hp1.1 rfl dX6_fill_25 ?_
        refine r_alenI hfb1 dX6_fill_28 ?_
        refine r_icmp_ge (tgt := 66) dX6_fill_29 (by decide) (by omega) (by omega) (fun h29 => ?_) (fun h29 => ?_)
        · omega
        ·
          refine r_aload_n dX6_fill_32 rfl ?_
          refine r_getfield clX6 0 (by decide) fl_X6_9 hp1.1 rfl dX6_fill_33 ?_
          refine r_iload_n dX6_fill_36 rfl ?_
          refine r_iaload hfa1 (by omega) (by omega) (by omega) dX6_fill_37 ?_
          rw [hfa3 j hj0 (by omega)]
          have haj := hasc.1 j hj0 (by omega)
          refine r_istore_n dX6_fill_38 (by decide) rfl ?_
          refine J.loc (L' := [(0, some _), (1, some _), (2, some _), (3, some _)]) (lsub_cons rfl (lsub_cons rfl (lsub_cons rfl (lsub_cons rfl (lsub_nil))))) (loop4 (fun (v : Int) (M4 : Mem) (m2 : Int) (G2 : Int → Int) => A j ≤ v ∧ v ≤ B j + 1 ∧ Mb M4 o a 60 m2 G2 ∧ Fr2 o a M M4 ∧ m2 + (B j - v + 1) + smF (cntP A B) (pa - (j + 1)).toNat (j + 1) = smF (cntP A B) pa.toNat 0 ∧ rgF (B j - A j + 1).toNat (A j) m G = rgF (B j - v + 1).toNat v m2 G2 ∧ ∀ i, 0 ≤ i → i < m2 → G2 i < v) (fun (v : Int) (M4 : Mem) (m2 : Int) (G2 : Int → Int) => (B j - v + 1).toNat) (fun (v : Int) (M4 : Mem) (m2 : Int) (G2 : Int → Int) => J KX6_fill 0 0 _ 39 [(0, some (.ref (ad 96))), (1, some (.ref o)), (2, some (vI j)), (3, some (vI v))] [] M4 _ _) (fun v M4 m2 G2 hI39 ih39 => ?_) _ _ m G ?_)
          ·
            obtain ⟨hv0, hv1, hm4, hfr4, hcn4, hrg, hlt4⟩ := hI39
            have hp4 : PrP M4 ad (pa, ir, fi, le, va, di, A, B) := hp.frame (fun i x y => hfr4 _ (hmd i x y).1 (hmd i x y).2)
            obtain ⟨-, -, ⟨fb5, hfb4, hfb5⟩⟩ := id hp4
            dsimp only at hfb5
            have hcp := cnt_pos hasc (pa - (j + 1)).toNat (j + 1) (by omega) (by omega)
            have hm20 := hm4.n0
            refine r_iload_n dX6_fill_39 rfl ?_
            refine r_aload_n dX6_fill_40 rfl ?_
            refine r_getfield clX6 1 (by decide) fl_X6_15 hp4.1 rfl dX6_fill_41 ?_
            refine r_iload_n dX6_fill_44 rfl ?_
            refine r_iaload hfb4 (by omega) (by omega) (by omega) dX6_fill_45 ?_
            rw [hfb5 j hj0 (by omega)]
            refine r_icmp_gt (tgt := 60) dX6_fill_46 (by decide) (by omega) (by omega) (fun h46 => ?_) (fun h46 => ?_)
            ·
              refine r_iinc dX6_fill_60 rfl rfl ?_
              refine r_goto (tgt := 6) dX6_fill_63 (by decide) ?_
              refine J.loc (lsub_cons rfl (lsub_cons rfl (lsub_cons rfl (lsub_nil)))) (ih6 _ _ m2 G2 ?_ ?_)
              · have e : rgF (B j - A j + 1).toNat (A j) m G = (m2, G2) := by rw [hrg, show (B j - v + 1).toNat = 0 by omega, rgF]
                refine ⟨by omega, by omega, hm4, hfr4, by omega, ?_, fun i x y => ⟨by omega, ?_⟩⟩
                · rw [hfl, show (pa - j).toNat = (pa - (j + 1)).toNat + 1 by omega, flF, e]
                · have := hlt4 i x y; rw [show j + 1 - 1 = j by omega]; omega
              · omega
            ·
              refine r_aload_n dX6_fill_49 rfl ?_
              refine r_iload_n dX6_fill_50 rfl ?_
              refine r_callV1 okX5_put ⟨by decide, by decide⟩ ml_X6_55 (mX5_put hm4 (by omega)) hm4.1 rfl rfl (Nat.le_of_ble_eq_true rfl) (Nat.le_of_ble_eq_true rfl) (Nat.le_of_ble_eq_true rfl) rfl dX6_fill_51 (nx_tV) (kx_tV ?_)
              intro M5 hM5
              refine r_iinc dX6_fill_54 rfl rfl ?_
              refine r_goto (tgt := 39) dX6_fill_57 (by decide) ?_
              refine J.loc (lsub_cons rfl (lsub_cons rfl (lsub_cons rfl (lsub_cons rfl (lsub_nil))))) (ih39 _ _ (m2 + 1) (uI G2 m2 v) ?_ ?_)
              · refine ⟨by omega, by omega, Mb.append (by omega) (by omega) hlt4 hM5.1, fun q x y => (hM5.2 q x y).trans (hfr4 q x y), by omega, ?_, fun i x y => ?_⟩
                · rw [hrg, show (B j - v + 1).toNat = (B j - (v + 1) + 1).toNat + 1 by omega, rgF]
                · by_cases e : i = m2
                  · rw [e, uI_s]; omega
                  · rw [uI_n _ e]; have := hlt4 i x (by omega); omega
              · omega
          · refine ⟨by omega, by omega, hm1, hfr, ?_, rfl, fun i x y => ?_⟩
            · rw [show (pa - j).toNat = (pa - (j + 1)).toNat + 1 by omega, smF] at hcn; unfold cntP at hcn ⊢; omega
            · have h5 := hlt i x y; have := hasc.2 j (by omega) (by omega); omega
  · exact ⟨by omega, by omega, hM0.1.cong (fun i x y => by omega), hM0.2, by simp, by simp, fun i x y => by omega⟩
