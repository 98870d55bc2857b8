/-! History: a ring of six States, read as a row of saved ones, the oldest first -/
abbrev Sg3 : Type := (Int → Int) × ((Int → Int → Int) × (Int → Int))
abbrev StQ (M : Mem) (ad : Int → Nat) (s : Int) (σ : Sg3) : Prop := StP M ad s σ.1 σ.2.1 σ.2.2
def HsP (M : Mem) (ad : Int → Nat) (m : Int) (S : Int → Sg3) : Prop :=
  ∃ nx : Int, 0 ≤ nx ∧ nx < 6 ∧ 0 ≤ m ∧ m ≤ 6 ∧ M (ad 14) = some (oC 2 [.ref (ad 15), vI nx, vI m]) ∧ (∃ f : Int → Option Nat, M (ad 15) = some (aR 7 6 f) ∧ ∀ i, 0 ≤ i → i < 6 → f i = some (ad (16 + 13 * i))) ∧
  (∀ j, 0 ≤ j → j < 6 → ∃ σ : Sg3, StQ M ad (16 + 13 * j) σ) ∧ ∀ k, 0 ≤ k → k < m → StQ M ad (16 + 13 * ((nx - m + k) % 6)) (S k)
def svM (m : Int) : Int := if m < 6 then m + 1 else 6
def svS (m : Int) (S : Int → Sg3) (σ : Sg3) : Int → Sg3 := fun k => if m < 6 then (if k = m then σ else S k) else (if k = 5 then σ else S (k + 1))
theorem HsP.frame {M M1 : Mem} {ad : Int → Nat} {m : Int} {S : Int → Sg3} (h : HsP M ad m S) (hq : ∀ i, 14 ≤ i → i < 94 → M1 (ad i) = M (ad i)) : HsP M1 ad m S := by
  obtain ⟨nx, h1, h2, h3, h4, h5, ⟨f, h6, h7⟩, h8, h9⟩ := h
  refine ⟨nx, h1, h2, h3, h4, (hq _ (by omega) (by omega)).trans h5, ⟨f, (hq _ (by omega) (by omega)).trans h6, h7⟩, fun j a b => ?_, fun k a b => (h9 k a b).frame (fun i c d => hq i (by omega) (by omega))⟩
  obtain ⟨σ, h⟩ := h8 j a b
  exact ⟨σ, h.frame (fun i c d => hq i (by omega) (by omega))⟩
/-- what is saved -/
theorem HsP.saved {M M2 : Mem} {ad : Int → Nat} {m nx : Int} {S : Int → Sg3} {σ : Sg3} (hi : Inj ad) (h1 : 0 ≤ nx) (h2 : nx < 6) (h3 : 0 ≤ m) (h4 : m ≤ 6) (h6 : ∃ f : Int → Option Nat, M (ad 15) = some (aR 7 6 f) ∧ ∀ i, 0 ≤ i → i < 6 → f i = some (ad (16 + 13 * i)))
    (h8 : ∀ j, 0 ≤ j → j < 6 → ∃ σ : Sg3, StQ M ad (16 + 13 * j) σ) (h9 : ∀ k, 0 ≤ k → k < m → StQ M ad (16 + 13 * ((nx - m + k) % 6)) (S k)) (hs : StQ M2 ad (16 + 13 * nx) σ) (hf : FrI ad (16 + 13 * nx) (16 + 13 * nx + 13) M M2)
    {M3 : Mem} (h5 : M3 (ad 14) = some (oC 2 [.ref (ad 15), vI ((nx + 1) % 6), vI (svM m)])) (h7 : ∀ i, 0 ≤ i → i < 122 → i ≠ 14 → M3 (ad i) = M2 (ad i)) : HsP M3 ad (svM m) (svS m S σ) := by
  obtain ⟨f, g1, g2⟩ := h6
  have hs3 : StQ M3 ad (16 + 13 * nx) σ := hs.frame (fun i a b => h7 i (by omega) (by omega) (by omega))
  have ho : ∀ j σ', 0 ≤ j → j < 6 → j ≠ nx → StQ M ad (16 + 13 * j) σ' → StQ M3 ad (16 + 13 * j) σ' := fun j σ' a b c h => h.frame (fun i d e => (h7 i (by omega) (by omega) (by omega)).trans (hf.at hi ⟨by omega, by omega⟩ ⟨by omega, by omega⟩ (by omega)))
  refine ⟨(nx + 1) % 6, by omega, by omega, by unfold svM; split <;> omega, by unfold svM; split <;> omega, h5, ⟨f, (h7 15 (by omega) (by omega) (by omega)).trans ((hf.at hi ⟨by omega, by omega⟩ ⟨by omega, by omega⟩ (by omega)).trans g1), g2⟩, fun j a b => ?_, fun k a b => ?_⟩
  · by_cases e : j = nx
    · rw [e]; exact ⟨σ, hs3⟩
    · obtain ⟨σ', h⟩ := h8 j a b
      exact ⟨σ', ho j σ' a b e h⟩
  · unfold svM at b ⊢
    unfold svS
    by_cases hm : m < 6
    · rw [if_pos hm] at b ⊢
      rw [if_pos hm]
      by_cases e : k = m
      · rw [if_pos e, show ((nx + 1) % 6 - (m + 1) + k) % 6 = nx by omega]; exact hs3
      · rw [if_neg e, show ((nx + 1) % 6 - (m + 1) + k) % 6 = (nx - m + k) % 6 by omega]
        exact ho _ _ (by omega) (by omega) (by omega) (h9 k a (by omega))
    · rw [if_neg hm] at b ⊢
      rw [if_neg hm]
      by_cases e : k = 5
      · rw [if_pos e, show ((nx + 1) % 6 - 6 + k) % 6 = nx by omega]; exact hs3
      · rw [if_neg e, show ((nx + 1) % 6 - 6 + k) % 6 = (nx - m + (k + 1)) % 6 by omega]
        exact ho _ _ (by omega) (by omega) (by omega) (h9 (k + 1) (by omega) (by omega))
/-! Buffer -/
def BfP (M : Mem) (ad : Int → Nat) (len : Int) (c : Int → Int) : Prop :=
  M (ad 94) = some (oC 1 [.ref (ad 95), vI len]) ∧ (∃ f : Int → Int, M (ad 95) = some (aI 60 f) ∧ ∀ i, 0 ≤ i → i < len → f i = c i) ∧ 0 ≤ len ∧ len ≤ 60 ∧ ∀ i, 0 ≤ i → i < len → 33 ≤ c i ∧ c i ≤ 126
theorem BfP.frame {M M1 : Mem} {ad : Int → Nat} {len : Int} {c : Int → Int} (h : BfP M ad len c) (h0 : M1 (ad 94) = M (ad 94)) (h1 : M1 (ad 95) = M (ad 95)) : BfP M1 ad len c := by
  obtain ⟨a1, ⟨f, a2, a3⟩, a4⟩ := h
  exact ⟨h0.trans a1, ⟨f, h1.trans a2, a3⟩, a4⟩
/-! Blocks -/
/-- the blocks of a row, as a loop lays them: how many, and where each begins -/
def ctF (n : Int) (F : Int → Int) (most width : Int) : Nat → Int → Int → Int → (Int → Int) → Int × (Int → Int)
  | 0, _, _, fd, st => (fd, st)
  | k + 1, p, c, fd, st => if beg n F most width p c = true then ctF n F most width k (p + 1) 1 (fd + 1) (uI st fd p) else ctF n F most width k (p + 1) (c + 1) fd st
def nbF (n : Int) (F : Int → Int) (most width : Int) : Int := (ctF n F most width n.toNat 0 0 0 (fun _ => 0)).1
def stF (n : Int) (F : Int → Int) (most width : Int) : Int → Int := uI (ctF n F most width n.toNat 0 0 0 (fun _ => 0)).2 (nbF n F most width) n
/-- laid so far: fd blocks over the places ahead of p -/
def Laid (p fd : Int) (st : Int → Int) : Prop := 0 ≤ fd ∧ fd ≤ p ∧ (0 < p → 0 < fd) ∧ (0 < fd → st 0 = 0) ∧ (∀ j, 0 ≤ j → j < fd → 0 ≤ st j ∧ st j < p) ∧ ∀ i j, 0 ≤ i → i < j → j < fd → st i < st j
theorem ctF_laid (n : Int) (F : Int → Int) (most width : Int) : ∀ (k : Nat) (p c fd : Int) (st : Int → Int), 0 ≤ p → Laid p fd st → Laid (p + k) (ctF n F most width k p c fd st).1 (ctF n F most width k p c fd st).2
  | 0, p, c, fd, st, hp, h => by unfold ctF; simpa using h
  | k + 1, p, c, fd, st, hp, h => by
    unfold ctF
    obtain ⟨h1, h2, h3, h4, h5, h6⟩ := h
    split
    · have := ctF_laid n F most width k (p + 1) 1 (fd + 1) (uI st fd p) (by omega) ⟨by omega, by omega, fun _ => by omega, fun _ => by
        by_cases e : (0 : Int) = fd
        · have : p = 0 := by omega
          rw [← e, uI_s]; exact this
        · rw [uI_n _ e]; exact h4 (by omega), fun j a b => by
        by_cases e : j = fd
        · rw [e, uI_s]; omega
        · rw [uI_n _ e]; have := h5 j a (by omega); omega, fun i j a b c => by
        rw [uI_n _ (show i ≠ fd by omega)]
        by_cases e : j = fd
        · rw [e, uI_s]; have := h5 i a (by omega); omega
        · rw [uI_n _ e]; exact h6 i j a b (by omega)⟩
      rw [show p + ((k + 1 : Nat) : Int) = p + 1 + k by omega]; exact this
    · next hb =>
      have := ctF_laid n F most width k (p + 1) (c + 1) fd st (by omega) ⟨h1, by omega, fun _ => h3 (by
        by_cases e : p = 0
        · exfalso; apply hb; unfold beg; simp [e]
        · omega), h4, fun j a b => by have := h5 j a b; omega, h6⟩
      rw [show p + ((k + 1 : Nat) : Int) = p + 1 + k by omega]; exact this
theorem blk_spec {n : Int} (hn : 0 ≤ n) (F : Int → Int) (most width : Int) : 0 ≤ nbF n F most width ∧ nbF n F most width ≤ n ∧ (0 < n → 0 < nbF n F most width) ∧ stF n F most width 0 = 0 ∧ stF n F most width (nbF n F most width) = n ∧ (∀ j, 0 ≤ j → j < nbF n F most width → 0 ≤ stF n F most width j ∧ stF n F most width j < n) ∧ ∀ i j, 0 ≤ i → i < j → j ≤ nbF n F most width → stF n F most width i < stF n F most width j := by
  obtain ⟨h1, h2, h3, h4, h5, h6⟩ := ctF_laid n F most width n.toNat 0 0 0 (fun _ => 0) (by omega) ⟨by omega, by omega, fun h => by omega, fun h => by omega, fun j a b => by omega, fun i j a b c => by omega⟩
  rw [show (0 : Int) + (n.toNat : Int) = n by omega] at h2 h3 h5
  have e1 : ∀ j, j ≠ nbF n F most width → stF n F most width j = (ctF n F most width n.toNat 0 0 0 (fun _ => 0)).2 j := fun j hj => uI_n _ hj
  have e2 : stF n F most width (nbF n F most width) = n := uI_s _ _ _
  refine ⟨h1, h2, h3, ?_, e2, fun j a b => ?_, fun i j a b c => ?_⟩
  · by_cases e : (0 : Int) = nbF n F most width
    · refine (congrArg (stF n F most width) e).trans (e2.trans ?_)
      by_cases e3 : 0 < n
      · have := h3 e3; unfold nbF at e; omega
      · omega
    · rw [e1 0 e]; exact h4 (by unfold nbF at e; omega)
  · rw [e1 j (by omega)]; exact h5 j a b
  · rw [e1 i (by omega)]
    by_cases e : j = nbF n F most width
    · rw [e, e2]; exact (h5 i a (show i < nbF n F most width by omega)).2
    · rw [e1 j e]; exact h6 i j a b (by unfold nbF at e c; omega)
/-- a Blocks object that stands for nothing yet -/
def BlW (M : Mem) (ad : Int → Nat) (bo : Int) : Prop := ∃ (v : Value) (am : Int) (f : Int → Int), M (ad bo) = some (oC 0 [.ref (ad (bo + 1)), vI am, v]) ∧ M (ad (bo + 1)) = some (aI 61 f)
/-- .. and one that was cut -/
def BlP (M : Mem) (ad : Int → Nat) (bo : Int) (mo : Nat) (nb : Int) (st : Int → Int) : Prop :=
  M (ad bo) = some (oC 0 [.ref (ad (bo + 1)), vI nb, .ref mo]) ∧ (∃ f : Int → Int, M (ad (bo + 1)) = some (aI 61 f) ∧ ∀ i, 0 ≤ i → i ≤ nb → f i = st i) ∧ 0 ≤ nb ∧ nb ≤ 60 ∧ ∀ i, 0 ≤ i → i ≤ nb → 0 ≤ st i ∧ st i ≤ 60
theorem BlP.w {M : Mem} {ad : Int → Nat} {bo : Int} {mo : Nat} {nb : Int} {st : Int → Int} (h : BlP M ad bo mo nb st) : BlW M ad bo := by
  obtain ⟨h1, ⟨f, h2, -⟩, -⟩ := h
  exact ⟨_, _, f, h1, h2⟩
theorem BlW.frame {M M1 : Mem} {ad : Int → Nat} {bo : Int} (h : BlW M ad bo) (h0 : M1 (ad bo) = M (ad bo)) (h1 : M1 (ad (bo + 1)) = M (ad (bo + 1))) : BlW M1 ad bo := by
  obtain ⟨v, am, f, a1, a2⟩ := h
  exact ⟨v, am, f, h0.trans a1, h1.trans a2⟩
theorem BlP.frame {M M1 : Mem} {ad : Int → Nat} {bo : Int} {mo : Nat} {nb : Int} {st : Int → Int} (h : BlP M ad bo mo nb st) (h0 : M1 (ad bo) = M (ad bo)) (h1 : M1 (ad (bo + 1)) = M (ad (bo + 1))) : BlP M1 ad bo mo nb st := by
  obtain ⟨a1, ⟨f, a2, a3⟩, a4⟩ := h
  exact ⟨h0.trans a1, ⟨f, h1.trans a2, a3⟩, a4⟩
def staF (nb : Int) (st : Int → Int) (b : Int) : Int := if 0 ≤ b ∧ b ≤ nb then st b else -1
theorem staF_in {nb : Int} {st : Int → Int} {b : Int} (h0 : 0 ≤ b) (h1 : b ≤ nb) : staF nb st b = st b := by unfold staF; rw [if_pos ⟨h0, h1⟩]
theorem BlP.sta {M : Mem} {ad : Int → Nat} {bo : Int} {mo : Nat} {nb : Int} {st : Int → Int} (h : BlP M ad bo mo nb st) (b : Int) : -1 ≤ staF nb st b ∧ staF nb st b ≤ 60 := by
  unfold staF
  split
  · next q => have := h.2.2.2.2 b q.1 q.2; omega
  · omega
/-- a sum of k from p on -/
def smF (f : Int → Int) : Nat → Int → Int
  | 0, _ => 0
  | k + 1, p => f p + smF f k (p + 1)
theorem smF_r {f : Int → Int} {lo hi : Int} : ∀ (k : Nat) (p : Int), (∀ j, p ≤ j → j < p + k → lo ≤ f j ∧ f j ≤ hi) → lo * k ≤ smF f k p ∧ smF f k p ≤ hi * k
  | 0, p, h => by simp [smF]
  | k + 1, p, h => by
    unfold smF
    have h1 := h p (by omega) (by omega)
    have h2 := smF_r k (p + 1) (fun j a b => h j (by omega) (by omega))
    rw [show ((k + 1 : Nat) : Int) = (k : Int) + 1 by omega, Int.mul_add, Int.mul_add, Int.mul_one, Int.mul_one]
    omega
/-- the greatest of k from p on, and b -/
def mxF (f : Int → Int) : Nat → Int → Int → Int
  | 0, _, b => b
  | k + 1, p, b => mxF f k (p + 1) (if b < f p then f p else b)
def bbyF (n : Int) (F : Int → Int) (st : Int → Int) (b : Int) : Int := 3 + smF (fun p => gby (gapF n F p)) (st (b + 1) - (st b + 1)).toNat (st b + 1)
def bgpF (n : Int) (F : Int → Int) (st : Int → Int) (b : Int) : Int := mxF (gapF n F) (st (b + 1) - (st b + 1)).toNat (st b + 1) 0
def widF (n : Int) (F : Int → Int) (st : Int → Int) (b : Int) : Int := smF (fun p => if gapF n F p < 128 then 0 else 1) (st (b + 1) - (st b + 1)).toNat (st b + 1)
/-- the block in which a place is -/
def batF (nb : Int) (st : Int → Int) (p : Int) : Int := ff (fun b => decide (p < st b)) (nb - 1).toNat 1 - 1
set_option maxHeartbeats 4000000 in
theorem mX2_amount {M : Mem} {ad : Int → Nat} {m : Int} {S : Int → Sg3} (hh : HsP M ad m S) : Ct KX2_amount [.ref (ad 14)] M 0 0 (rtI m M) := by
  refine Ct.of _ (by decide) rfl (Nat.le_of_ble_eq_true rfl) ?_
  obtain ⟨nx, hx0, hx1, hm0, hm1, hho, ⟨rf, hra, hrf⟩, hsl, hsv⟩ := id hh
  refine r_aload_n dX2_amount_0 rfl ?_
  refine r_getfield clX2 2 (by decide) fl_X2_22 (by first | assumption | exact up_s _ _ _ | exact (up_n _ (by assumption)).trans (by assumption) | exact (up_n _ (by assumption)).trans (up_s _ _ _) | exact (up_n _ (by assumption)).trans ((up_n _ (by assumption)).trans (by assumption))) rfl dX2_amount_1 ?_
  refine e_ireturn dX2_amount_4 rfl (Nat.le_of_ble_eq_true rfl) (Nat.le_of_ble_eq_true rfl) ?_
  exact okI rfl

set_option maxHeartbeats 4000000 in
theorem mX2_slotAt {M : Mem} {ad : Int → Nat} {m : Int} {S : Int → Sg3} {k : Int} (hh : HsP M ad m S) (h0 : 0 ≤ k) (h1 : k < 6) : Ct KX2_slotAt [.ref (ad 14), vI k] M 0 0 (rtA (ad (16 + 13 * k)) M) := by
  refine Ct.of _ (by decide) rfl (Nat.le_of_ble_eq_true rfl) ?_
  obtain ⟨nx, hx0, hx1, hm0, hm1, hho, ⟨rf, hra, hrf⟩, hsl, hsv⟩ := id hh
  refine r_iload_n dX2_slotAt_0 rfl ?_
  refine r_if_lt (tgt := 22) dX2_slotAt_1 (by decide) (by omega) (fun h1 => ?_) (fun h1 => ?_)
  · omega
  ·
    refine r_iload_n dX2_slotAt_4 rfl ?_
    refine r_aload_n dX2_slotAt_5 rfl ?_
    refine r_getfield clX2 0 (by decide) fl_X2_11 (by first | assumption | exact up_s _ _ _ | exact (up_n _ (by assumption)).trans (by assumption) | exact (up_n _ (by assumption)).trans (up_s _ _ _) | exact (up_n _ (by assumption)).trans ((up_n _ (by assumption)).trans (by assumption))) rfl dX2_slotAt_6 ?_
    refine r_alenR (by first | assumption | exact up_s _ _ _ | exact (up_n _ (by assumption)).trans (by assumption) | exact (up_n _ (by assumption)).trans (up_s _ _ _) | exact (up_n _ (by assumption)).trans ((up_n _ (by assumption)).trans (by assumption))) dX2_slotAt_9 ?_
    refine r_icmp_ge (tgt := 22) dX2_slotAt_10 (by decide) (by omega) (by omega) (fun h10 => ?_) (fun h10 => ?_)
    · omega
    ·
      refine r_aload_n dX2_slotAt_13 rfl ?_
      refine r_getfield clX2 0 (by decide) fl_X2_11 (by first | assumption | exact up_s _ _ _ | exact (up_n _ (by assumption)).trans (by assumption) | exact (up_n _ (by assumption)).trans (up_s _ _ _) | exact (up_n _ (by assumption)).trans ((up_n _ (by assumption)).trans (by assumption))) rfl dX2_slotAt_14 ?_
      refine r_iload_n dX2_slotAt_17 rfl ?_
      refine r_aaload (by first | assumption | exact up_s _ _ _ | exact (up_n _ (by assumption)).trans (by assumption) | exact (up_n _ (by assumption)).trans (up_s _ _ _) | exact (up_n _ (by assumption)).trans ((up_n _ (by assumption)).trans (by assumption))) (by omega) (by omega) (by omega) dX2_slotAt_18 ?_
      rw [hrf k (by omega) (by omega)]
      change J _ _ _ _ _ _ (Value.ref _ :: _) _ _ _
      refine r_goto (tgt := 23) dX2_slotAt_19 (by decide) ?_
      refine e_areturn dX2_slotAt_23 rfl (Or.inl ⟨_, rfl⟩) (Nat.le_of_ble_eq_true rfl) (Nat.le_of_ble_eq_true rfl) ?_
      exact okA rfl

set_option maxHeartbeats 4000000 in
theorem mX2_save {M : Mem} {ad : Int → Nat} {m : Int} {S : Int → Sg3} {s : Int} {σ : Sg3} (hh : HsP M ad m S) (hst : StQ M ad 1 σ) (hi : Inj ad) : Ct KX2_save [.ref (ad 14), .ref (ad 1)] M 0 0 (atV (fun M2 => HsP M2 ad (svM m) (svS m S σ) ∧ FrI ad 14 94 M M2)) := by
  refine Ct.of _ (by decide) rfl (Nat.le_of_ble_eq_true rfl) ?_
  obtain ⟨nx, hx0, hx1, hm0, hm1, hho, ⟨rf, hra, hrf⟩, hsl, hsv⟩ := id hh
  obtain ⟨σ0, hs0⟩ := hsl nx hx0 hx1
  refine r_aload_n dX2_save_0 rfl ?_
  refine r_aload_n dX2_save_1 rfl ?_
  refine r_getfield clX2 1 (by decide) fl_X2_18 (by first | assumption | exact up_s _ _ _ | exact (up_n _ (by assumption)).trans (by assumption) | exact (up_n _ (by assumption)).trans (up_s _ _ _) | exact (up_n _ (by assumption)).trans ((up_n _ (by assumption)).trans (by assumption))) rfl dX2_save_2 ?_
  refine r_callV1 okX2_slotAt ⟨by decide, by decide⟩ ml_X2_25 (mX2_slotAt (by assumption) (by omega) (by omega)) (by first | assumption | exact up_s _ _ _ | exact (up_n _ (by assumption)).trans (by assumption) | exact (up_n _ (by assumption)).trans (up_s _ _ _) | exact (up_n _ (by assumption)).trans ((up_n _ (by assumption)).trans (by assumption))) rfl rfl (Nat.le_of_ble_eq_true rfl) (Nat.le_of_ble_eq_true rfl) (Nat.le_of_ble_eq_true rfl) rfl dX2_save_5 (nx_A) (kx_A ?_)
  refine r_astore_n dX2_save_8 (by decide) rfl ?_
  refine r_aload_n dX2_save_9 rfl ?_
  refine r_ifnull dX2_save_10 ?_
  refine r_aload_n dX2_save_13 rfl ?_
  refine r_aload_n dX2_save_14 rfl ?_
  refine r_callV1 okX7_copyFrom ⟨by decide, by decide⟩ ml_X2_29 (mX7_copyFrom hs0 hst hi (by omega) (by omega) (by omega)) hs0.1 rfl rfl (Nat.le_of_ble_eq_true rfl) (Nat.le_of_ble_eq_true rfl) (Nat.le_of_ble_eq_true rfl) rfl dX2_save_15 (nx_tV) (kx_tV ?_)
  intro M2 hM2
  have hho2 := (hM2.2.at hi ⟨by omega, by omega⟩ (j := 14) ⟨by omega, by omega⟩ (by omega)).trans hho
  refine r_aload_n dX2_save_18 rfl ?_
  refine r_aload_n dX2_save_19 rfl ?_
  refine r_getfield clX2 1 (by decide) fl_X2_18 (by first | assumption | exact up_s _ _ _ | exact (up_n _ (by assumption)).trans (by assumption) | exact (up_n _ (by assumption)).trans (up_s _ _ _) | exact (up_n _ (by assumption)).trans ((up_n _ (by assumption)).trans (by assumption))) rfl dX2_save_20 ?_
  refine r_iconst dX2_save_23 ?_
  refine r_iadd dX2_save_24 ?_
  refine r_bipush dX2_save_25 (by decide) ?_
  refine r_irem dX2_save_27 (by omega) (by omega) (by omega) (by omega) ?_
  refine r_putfield clX2 1 (by decide) fl_X2_18 rfl (by first | assumption | exact up_s _ _ _ | exact (up_n _ (by assumption)).trans (by assumption) | exact (up_n _ (by assumption)).trans (up_s _ _ _) | exact (up_n _ (by assumption)).trans ((up_n _ (by assumption)).trans (by assumption))) rfl rfl (Nat.le_of_ble_eq_true rfl) dX2_save_28 ?_
  refine r_aload_n dX2_save_31 rfl ?_
  refine r_aload_n dX2_save_32 rfl ?_
  refine r_getfield clX2 2 (by decide) fl_X2_22 (by first | assumption | exact up_s _ _ _ | exact (up_n _ (by assumption)).trans (by assumption) | exact (up_n _ (by assumption)).trans (up_s _ _ _) | exact (up_n _ (by assumption)).trans ((up_n _ (by assumption)).trans (by assumption))) rfl dX2_save_33 ?_
  refine r_iconst dX2_save_36 ?_
  refine r_iadd dX2_save_37 ?_
  refine r_bipush dX2_save_38 (by decide) ?_
  refine r_min ml_X2_33 (by decide) (Nat.le_of_ble_eq_true rfl) (Nat.le_of_ble_eq_true rfl) (Nat.le_of_ble_eq_true rfl) (by omega) (by omega) dX2_save_40 ?_
  refine r_putfield clX2 2 (by decide) fl_X2_22 rfl (by first | assumption | exact up_s _ _ _ | exact (up_n _ (by assumption)).trans (by assumption) | exact (up_n _ (by assumption)).trans (up_s _ _ _) | exact (up_n _ (by assumption)).trans ((up_n _ (by assumption)).trans (by assumption))) rfl rfl (Nat.le_of_ble_eq_true rfl) dX2_save_43 ?_
  refine e_return dX2_save_46 rfl (Nat.le_of_ble_eq_true rfl) (Nat.le_of_ble_eq_true rfl) ?_
  refine oktV ⟨HsP.saved hi hx0 hx1 hm0 hm1 ⟨rf, hra, hrf⟩ hsl hsv hM2.1 hM2.2 ((up_s _ _ _).trans ?_) (fun i a b c => (up_n _ (hi.ne ⟨a, b⟩ ⟨by omega, by omega⟩ c)).trans (up_n _ (hi.ne ⟨a, b⟩ ⟨by omega, by omega⟩ c))), (((hM2.2.mono (by omega) (by omega)).up ⟨by omega, by omega⟩).up ⟨by omega, by omega⟩)⟩
  rw [show svM m = (if (6 : Int) < m + 1 then 6 else m + 1) by unfold svM; split <;> split <;> omega]
  rfl





