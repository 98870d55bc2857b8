/-! one address function for all: the class from 0, the model from 112, the law's array at 121 -/
def Inj (ad : Int → Nat) : Prop := ∀ i j : Int, 0 ≤ i → i < 122 → 0 ≤ j → j < 122 → ad i = ad j → i = j
theorem Inj.ne {ad : Int → Nat} (h : Inj ad) {i j : Int} (hi : 0 ≤ i ∧ i < 122) (hj : 0 ≤ j ∧ j < 122) (hij : i ≠ j) : ad i ≠ ad j := fun e => hij (h i j hi.1 hi.2 hj.1 hj.2 e)
/-- nothing outside the places lo to hi has changed -/
def FrI (ad : Int → Nat) (lo hi : Int) (M M' : Mem) : Prop := ∀ q, (∀ i, lo ≤ i → i < hi → q ≠ ad i) → M' q = M q
theorem FrI.rf {ad : Int → Nat} {lo hi : Int} {M : Mem} : FrI ad lo hi M M := fun _ _ => rfl
theorem FrI.trans {ad : Int → Nat} {lo hi : Int} {M M1 M2 : Mem} (h1 : FrI ad lo hi M M1) (h2 : FrI ad lo hi M1 M2) : FrI ad lo hi M M2 := fun q hq => (h2 q hq).trans (h1 q hq)
theorem FrI.mono {ad : Int → Nat} {lo hi lo' hi' : Int} {M M1 : Mem} (h1 : FrI ad lo hi M M1) (hl : lo' ≤ lo) (hh : hi ≤ hi') : FrI ad lo' hi' M M1 := fun q hq => h1 q (fun i h2 h3 => hq i (by omega) (by omega))
theorem FrI.up {ad : Int → Nat} {lo hi i : Int} {M M1 : Mem} {x : AC} (h1 : FrI ad lo hi M M1) (h2 : lo ≤ i ∧ i < hi) : FrI ad lo hi M (up M1 (ad i) x) := fun q hq => by rw [up_n _ (hq i h2.1 h2.2)]; exact h1 q hq
theorem FrI.of2 {ad : Int → Nat} {lo hi i j : Int} {M M1 : Mem} (h1 : Fr2 (ad i) (ad j) M M1) (hi' : lo ≤ i ∧ i < hi) (hj : lo ≤ j ∧ j < hi) : FrI ad lo hi M M1 := fun q hq => h1 q (hq i hi'.1 hi'.2) (hq j hj.1 hj.2)
/-- a cell outside the places is as it was -/
theorem FrI.at {ad : Int → Nat} {lo hi : Int} {M M1 : Mem} (h : FrI ad lo hi M M1) (hi' : Inj ad) (h0 : 0 ≤ lo ∧ hi ≤ 122) {j : Int} (hj : 0 ≤ j ∧ j < 122) (hn : j < lo ∨ hi ≤ j) : M1 (ad j) = M (ad j) := h _ (fun i a b => hi'.ne hj ⟨by omega, by omega⟩ (by omega))
theorem Fr2.at {ad : Int → Nat} {x y : Int} {M M1 : Mem} (h : Fr2 (ad x) (ad y) M M1) (hi' : Inj ad) (hx : 0 ≤ x ∧ x < 122) (hy : 0 ≤ y ∧ y < 122) {j : Int} (hj : 0 ≤ j ∧ j < 122) (hn : j ≠ x ∧ j ≠ y) : M1 (ad j) = M (ad j) := h _ (hi'.ne hj hx hn.1) (hi'.ne hj hy hn.2)
theorem Mb.frame {M M1 : Mem} {o a N : Nat} {n : Int} {F : Int → Int} (h : Mb M o a N n F) (ho : M1 o = M o) (ha : M1 a = M a) : Mb M1 o a N n F := by
  obtain ⟨h1, ⟨f, h2, h3⟩, h4⟩ := h
  exact ⟨ho.trans h1, ⟨f, ha.trans h2, h3⟩, h4⟩
/-- a State: object at s, its row of sets, four Members with their rows, noSet with its row, the settings -/
def StP (M : Mem) (ad : Int → Nat) (s : Int) (n : Int → Int) (F : Int → Int → Int) (g : Int → Int) : Prop :=
  M (ad s) = some (oC 7 [.ref (ad (s + 1)), .ref (ad (s + 10)), .ref (ad (s + 12))]) ∧ (∃ f : Int → Option Nat, M (ad (s + 1)) = some (aR 5 4 f) ∧ ∀ i, 0 ≤ i → i < 4 → f i = some (ad (s + 2 + i))) ∧
  (∀ k, 0 ≤ k → k < 4 → Mb M (ad (s + 2 + k)) (ad (s + 6 + k)) 60 (n k) (F k)) ∧ Mb M (ad (s + 10)) (ad (s + 11)) 0 0 (fun _ => 0) ∧ ∃ f : Int → Int, M (ad (s + 12)) = some (aI 2 f) ∧ f 0 = g 0 ∧ f 1 = g 1
theorem StP.mb {M : Mem} {ad : Int → Nat} {s : Int} {n : Int → Int} {F : Int → Int → Int} {g : Int → Int} (h : StP M ad s n F g) {k : Int} (h0 : 0 ≤ k) (h1 : k < 4) : Mb M (ad (s + 2 + k)) (ad (s + 6 + k)) 60 (n k) (F k) := h.2.2.1 k h0 h1
theorem StP.frame {M M1 : Mem} {ad : Int → Nat} {s : Int} {n : Int → Int} {F : Int → Int → Int} {g : Int → Int} (h : StP M ad s n F g) (hq : ∀ i, s ≤ i → i < s + 13 → M1 (ad i) = M (ad i)) : StP M1 ad s n F g := by
  obtain ⟨h1, ⟨f, h2, h3⟩, h4, h5, ⟨f', h6, h7⟩⟩ := h
  exact ⟨(hq s (by omega) (by omega)).trans h1, ⟨f, (hq (s + 1) (by omega) (by omega)).trans h2, h3⟩, fun k a b => (h4 k a b).frame (hq _ (by omega) (by omega)) (hq _ (by omega) (by omega)), h5.frame (hq _ (by omega) (by omega)) (hq _ (by omega) (by omega)), ⟨f', (hq (s + 12) (by omega) (by omega)).trans h6, h7⟩⟩
theorem StP.cong {M : Mem} {ad : Int → Nat} {s : Int} {n n' : Int → Int} {F F' : Int → Int → Int} {g g' : Int → Int} (h : StP M ad s n F g) (hn : ∀ k, 0 ≤ k → k < 4 → n' k = n k ∧ F' k = F k) (hg : g' 0 = g 0 ∧ g' 1 = g 1) : StP M ad s n' F' g' := by
  obtain ⟨h1, h2, h4, h5, ⟨f', h6, h7, h8⟩⟩ := h
  exact ⟨h1, h2, fun k a b => by rw [(hn k a b).1, (hn k a b).2]; exact h4 k a b, h5, ⟨f', h6, h7.trans hg.1.symm, h8.trans hg.2.symm⟩⟩
/-- one of its sets has changed -/
theorem StP.setMb {M M1 : Mem} {ad : Int → Nat} {s : Int} {n : Int → Int} {F : Int → Int → Int} {g : Int → Int} (h : StP M ad s n F g) (hi : Inj ad) (hs : 0 ≤ s ∧ s + 13 ≤ 122) {k n' : Int} {F' : Int → Int} (h0 : 0 ≤ k) (h1 : k < 4) (hm : Mb M1 (ad (s + 2 + k)) (ad (s + 6 + k)) 60 n' F') (hf : Fr2 (ad (s + 2 + k)) (ad (s + 6 + k)) M M1) : StP M1 ad s (uI n k n') (uI F k F') g := by
  obtain ⟨h2, ⟨f, h3, h3'⟩, h4, h5, ⟨f', h6, h7⟩⟩ := h
  have key : ∀ j, 0 ≤ j ∧ j < 122 → (j ≠ s + 2 + k ∧ j ≠ s + 6 + k) → M1 (ad j) = M (ad j) := fun j a b => hf.at hi ⟨by omega, by omega⟩ ⟨by omega, by omega⟩ a b
  refine ⟨(key s ⟨by omega, by omega⟩ ⟨by omega, by omega⟩).trans h2, ⟨f, (key _ ⟨by omega, by omega⟩ ⟨by omega, by omega⟩).trans h3, h3'⟩, fun j a b => ?_, h5.frame (key _ ⟨by omega, by omega⟩ ⟨by omega, by omega⟩) (key _ ⟨by omega, by omega⟩ ⟨by omega, by omega⟩), ⟨f', (key _ ⟨by omega, by omega⟩ ⟨by omega, by omega⟩).trans h6, h7⟩⟩
  by_cases e : j = k
  · rw [e, uI_s, uI_s]; exact hm
  · rw [uI_n _ e, uI_n _ e]
    exact (h4 j a b).frame (key _ ⟨by omega, by omega⟩ ⟨by omega, by omega⟩) (key _ ⟨by omega, by omega⟩ ⟨by omega, by omega⟩)
/-- a setting has changed -/
theorem StP.setG {M : Mem} {ad : Int → Nat} {s : Int} {n : Int → Int} {F : Int → Int → Int} {g g' f : Int → Int} (h : StP M ad s n F g) (hi : Inj ad) (hs : 0 ≤ s ∧ s + 13 ≤ 122) (hf : f 0 = g' 0 ∧ f 1 = g' 1) : StP (up M (ad (s + 12)) (aI 2 f)) ad s n F g' := by
  obtain ⟨h2, ⟨f1, h3, h3'⟩, h4, h5, -⟩ := h
  have key : ∀ j, 0 ≤ j ∧ j < 122 → j ≠ s + 12 → up M (ad (s + 12)) (aI 2 f) (ad j) = M (ad j) := fun j a b => up_n _ (hi.ne a ⟨by omega, by omega⟩ b)
  exact ⟨(key s ⟨by omega, by omega⟩ (by omega)).trans h2, ⟨f1, (key _ ⟨by omega, by omega⟩ (by omega)).trans h3, h3'⟩, fun k a b => (h4 k a b).frame (key _ ⟨by omega, by omega⟩ (by omega)) (key _ ⟨by omega, by omega⟩ (by omega)), h5.frame (key _ ⟨by omega, by omega⟩ (by omega)) (key _ ⟨by omega, by omega⟩ (by omega)), ⟨f, up_s _ _ _, hf⟩⟩
def valG (g : Int → Int) (k : Int) : Int := if 0 ≤ k ∧ k < 2 then g k else -1
theorem StP.obj {M : Mem} {ad : Int → Nat} {s : Int} {n : Int → Int} {F : Int → Int → Int} {g : Int → Int} (h : StP M ad s n F g) : M (ad s) = some (oC 7 [.ref (ad (s + 1)), .ref (ad (s + 10)), .ref (ad (s + 12))]) := h.1
set_option maxHeartbeats 4000000 in
theorem mX7_members {M : Mem} {ad : Int → Nat} {s : Int} {n : Int → Int} {F : Int → Int → Int} {g : Int → Int} {k : Int} (hst : StP M ad s n F g) (h0 : 0 ≤ k) (h1 : k < 4) : Ct KX7_members [.ref (ad s), vI k] M 0 0 (rtA (ad (s + 2 + k)) M) := by
  refine Ct.of _ (by decide) rfl (Nat.le_of_ble_eq_true rfl) ?_
  obtain ⟨hso, ⟨sf, hsa, hsf⟩, hsm, hsn, ⟨gf, hga, hg0, hg1⟩⟩ := id hst
  refine r_iload_n dX7_members_0 rfl ?_
  refine r_if_lt (tgt := 22) dX7_members_1 (by decide) (by omega) (fun h1 => ?_) (fun h1 => ?_)
  · omega
  ·
    refine r_iload_n dX7_members_4 rfl ?_
    refine r_aload_n dX7_members_5 rfl ?_
    refine r_getfield clX7 0 (by decide) fl_X7_11 (by first | assumption | exact up_s _ _ _ | exact (up_n _ (by assumption)).trans (by assumption) | exact (up_n _ (by assumption)).trans (up_s _ _ _) | exact (up_n _ (by assumption)).trans ((up_n _ (by assumption)).trans (by assumption))) rfl dX7_members_6 ?_
    refine r_alenR (by first | assumption | exact up_s _ _ _ | exact (up_n _ (by assumption)).trans (by assumption) | exact (up_n _ (by assumption)).trans (up_s _ _ _) | exact (up_n _ (by assumption)).trans ((up_n _ (by assumption)).trans (by assumption))) dX7_members_9 ?_
    refine r_icmp_ge (tgt := 22) dX7_members_10 (by decide) (by omega) (by omega) (fun h10 => ?_) (fun h10 => ?_)
    · omega
    ·
      refine r_aload_n dX7_members_13 rfl ?_
      refine r_getfield clX7 0 (by decide) fl_X7_11 (by first | assumption | exact up_s _ _ _ | exact (up_n _ (by assumption)).trans (by assumption) | exact (up_n _ (by assumption)).trans (up_s _ _ _) | exact (up_n _ (by assumption)).trans ((up_n _ (by assumption)).trans (by assumption))) rfl dX7_members_14 ?_
      refine r_iload_n dX7_members_17 rfl ?_
      refine r_aaload (by first | assumption | exact up_s _ _ _ | exact (up_n _ (by assumption)).trans (by assumption) | exact (up_n _ (by assumption)).trans (up_s _ _ _) | exact (up_n _ (by assumption)).trans ((up_n _ (by assumption)).trans (by assumption))) (by omega) (by omega) (by omega) dX7_members_18 ?_
      rw [hsf k (by omega) (by omega)]
      change J _ _ _ _ _ _ (Value.ref _ :: _) _ _ _
      refine r_goto (tgt := 23) dX7_members_19 (by decide) ?_
      refine r_astore_n dX7_members_23 (by decide) rfl ?_
      refine r_aload_n dX7_members_24 rfl ?_
      refine r_ifnonnull (tgt := 35) dX7_members_25 (by decide) ?_
      refine r_aload_n dX7_members_35 rfl ?_
      refine e_areturn dX7_members_36 rfl (Or.inl ⟨_, rfl⟩) (Nat.le_of_ble_eq_true rfl) (Nat.le_of_ble_eq_true rfl) ?_
      exact okA rfl

set_option maxHeartbeats 4000000 in
theorem mX7_valueOf {M : Mem} {ad : Int → Nat} {s : Int} {n : Int → Int} {F : Int → Int → Int} {g : Int → Int} {k : Int} (hst : StP M ad s n F g) (h0 : R32 k) : Ct KX7_valueOf [.ref (ad s), vI k] M 0 0 (rtI (valG g k) M) := by
  refine Ct.of _ (by decide) rfl (Nat.le_of_ble_eq_true rfl) ?_
  obtain ⟨hso, ⟨sf, hsa, hsf⟩, hsm, hsn, ⟨gf, hga, hg0, hg1⟩⟩ := id hst
  refine r_iload_n dX7_valueOf_0 rfl ?_
  refine r_if_lt (tgt := 22) dX7_valueOf_1 (by decide) (by omega) (fun h1 => ?_) (fun h1 => ?_)
  ·
    refine r_iconst dX7_valueOf_22 ?_
    refine e_ireturn dX7_valueOf_23 rfl (Nat.le_of_ble_eq_true rfl) (Nat.le_of_ble_eq_true rfl) ?_
    exact okI (by unfold valG; first | rw [if_neg (by omega)] | (rw [if_pos (by omega)]; rcases (show k = 0 ∨ k = 1 by omega) with rfl | rfl <;> assumption))
  ·
    refine r_iload_n dX7_valueOf_4 rfl ?_
    refine r_aload_n dX7_valueOf_5 rfl ?_
    refine r_getfield clX7 2 (by decide) fl_X7_24 (by first | assumption | exact up_s _ _ _ | exact (up_n _ (by assumption)).trans (by assumption) | exact (up_n _ (by assumption)).trans (up_s _ _ _) | exact (up_n _ (by assumption)).trans ((up_n _ (by assumption)).trans (by assumption))) rfl dX7_valueOf_6 ?_
    refine r_alenI (by first | assumption | exact up_s _ _ _ | exact (up_n _ (by assumption)).trans (by assumption) | exact (up_n _ (by assumption)).trans (up_s _ _ _) | exact (up_n _ (by assumption)).trans ((up_n _ (by assumption)).trans (by assumption))) dX7_valueOf_9 ?_
    refine r_icmp_ge (tgt := 22) dX7_valueOf_10 (by decide) (by omega) (by omega) (fun h10 => ?_) (fun h10 => ?_)
    ·
      refine r_iconst dX7_valueOf_22 ?_
      refine e_ireturn dX7_valueOf_23 rfl (Nat.le_of_ble_eq_true rfl) (Nat.le_of_ble_eq_true rfl) ?_
      exact okI (by unfold valG; first | rw [if_neg (by omega)] | (rw [if_pos (by omega)]; rcases (show k = 0 ∨ k = 1 by omega) with rfl | rfl <;> assumption))
    ·
      refine r_aload_n dX7_valueOf_13 rfl ?_
      refine r_getfield clX7 2 (by decide) fl_X7_24 (by first | assumption | exact up_s _ _ _ | exact (up_n _ (by assumption)).trans (by assumption) | exact (up_n _ (by assumption)).trans (up_s _ _ _) | exact (up_n _ (by assumption)).trans ((up_n _ (by assumption)).trans (by assumption))) rfl dX7_valueOf_14 ?_
      refine r_iload_n dX7_valueOf_17 rfl ?_
      refine r_iaload (by first | assumption | exact up_s _ _ _ | exact (up_n _ (by assumption)).trans (by assumption) | exact (up_n _ (by assumption)).trans (up_s _ _ _) | exact (up_n _ (by assumption)).trans ((up_n _ (by assumption)).trans (by assumption))) (by omega) (by omega) (by omega) dX7_valueOf_18 ?_
      refine r_goto (tgt := 23) dX7_valueOf_19 (by decide) ?_
      refine e_ireturn dX7_valueOf_23 rfl (Nat.le_of_ble_eq_true rfl) (Nat.le_of_ble_eq_true rfl) ?_
      exact okI (by unfold valG; first | rw [if_neg (by omega)] | (rw [if_pos (by omega)]; rcases (show k = 0 ∨ k = 1 by omega) with rfl | rfl <;> assumption))

set_option maxHeartbeats 4000000 in
theorem mX7_change {M : Mem} {ad : Int → Nat} {s : Int} {n : Int → Int} {F : Int → Int → Int} {g : Int → Int} {k v : Int} (hst : StP M ad s n F g) (hi : Inj ad) (hs : 0 ≤ s ∧ s + 13 ≤ 122) (h0 : 0 ≤ k ∧ k < 2) : Ct KX7_change [.ref (ad s), vI k, vI v] M 0 0 (atV (fun M2 => StP M2 ad s n F (uI g k v) ∧ FrI ad s (s + 13) M M2)) := by
  refine Ct.of _ (by decide) rfl (Nat.le_of_ble_eq_true rfl) ?_
  obtain ⟨hso, ⟨sf, hsa, hsf⟩, hsm, hsn, ⟨gf, hga, hg0, hg1⟩⟩ := id hst
  refine r_iload_n dX7_change_0 rfl ?_
  refine r_if_lt (tgt := 20) dX7_change_1 (by decide) (by omega) (fun h1 => ?_) (fun h1 => ?_)
  · omega
  ·
    refine r_iload_n dX7_change_4 rfl ?_
    refine r_aload_n dX7_change_5 rfl ?_
    refine r_getfield clX7 2 (by decide) fl_X7_24 (by first | assumption | exact up_s _ _ _ | exact (up_n _ (by assumption)).trans (by assumption) | exact (up_n _ (by assumption)).trans (up_s _ _ _) | exact (up_n _ (by assumption)).trans ((up_n _ (by assumption)).trans (by assumption))) rfl dX7_change_6 ?_
    refine r_alenI (by first | assumption | exact up_s _ _ _ | exact (up_n _ (by assumption)).trans (by assumption) | exact (up_n _ (by assumption)).trans (up_s _ _ _) | exact (up_n _ (by assumption)).trans ((up_n _ (by assumption)).trans (by assumption))) dX7_change_9 ?_
    refine r_icmp_ge (tgt := 20) dX7_change_10 (by decide) (by omega) (by omega) (fun h10 => ?_) (fun h10 => ?_)
    · omega
    ·
      refine r_aload_n dX7_change_13 rfl ?_
      refine r_getfield clX7 2 (by decide) fl_X7_24 (by first | assumption | exact up_s _ _ _ | exact (up_n _ (by assumption)).trans (by assumption) | exact (up_n _ (by assumption)).trans (up_s _ _ _) | exact (up_n _ (by assumption)).trans ((up_n _ (by assumption)).trans (by assumption))) rfl dX7_change_14 ?_
      refine r_iload_n dX7_change_17 rfl ?_
      refine r_iload_n dX7_change_18 rfl ?_
      refine r_iastore (by first | assumption | exact up_s _ _ _ | exact (up_n _ (by assumption)).trans (by assumption) | exact (up_n _ (by assumption)).trans (up_s _ _ _) | exact (up_n _ (by assumption)).trans ((up_n _ (by assumption)).trans (by assumption))) (by omega) (by omega) (by omega) dX7_change_19 ?_
      refine e_return dX7_change_20 rfl (Nat.le_of_ble_eq_true rfl) (Nat.le_of_ble_eq_true rfl) ?_
      exact oktV ⟨hst.setG hi hs (by rcases (show k = 0 ∨ k = 1 by omega) with rfl | rfl <;> simp [uI, *]), FrI.rf.up ⟨by omega, by omega⟩⟩

set_option maxHeartbeats 4000000 in
theorem mX7_copyFrom {M : Mem} {ad : Int → Nat} {s : Int} {n : Int → Int} {F : Int → Int → Int} {g : Int → Int} {s2 : Int} {n2 : Int → Int} {F2 : Int → Int → Int} {g2 : Int → Int} (hst : StP M ad s n F g) (hst2 : StP M ad s2 n2 F2 g2) (hi : Inj ad) (hs : 0 ≤ s ∧ s + 13 ≤ 122) (hs2 : 0 ≤ s2 ∧ s2 + 13 ≤ 122) (hd : s + 13 ≤ s2 ∨ s2 + 13 ≤ s) : Ct KX7_copyFrom [.ref (ad s), .ref (ad s2)] M 0 0 (atV (fun M2 => StP M2 ad s n2 F2 g2 ∧ FrI ad s (s + 13) M M2)) := by
  refine Ct.of _ (by decide) rfl (Nat.le_of_ble_eq_true rfl) ?_
  refine r_iconst dX7_copyFrom_0 ?_
  refine r_istore_n dX7_copyFrom_1 (by decide) rfl ?_
  refine J.loc (L' := [(0, some _), (1, some _), (2, some _)]) (lsub_cons rfl (lsub_cons rfl (lsub_cons rfl (lsub_nil)))) (loop2 (fun (i : Int) (M1 : Mem) => 0 ≤ i ∧ i ≤ 4 ∧ StP M1 ad s (fun k => if k < i then n2 k else n k) (fun k => if k < i then F2 k else F k) g ∧ FrI ad s (s + 13) M M1) (fun (i : Int) (M1 : Mem) => (4 - i).toNat) (fun (i : Int) (M1 : Mem) => J KX7_copyFrom 0 0 _ 2 [(0, some (.ref (ad s))), (1, some (.ref (ad s2))), (2, some (vI i))] [] M1 _ _) (fun i M1 hI2 ih2 => ?_) _ _ ?_)
  ·
    obtain ⟨hi0, hi1, hs3, hfr⟩ := hI2
    have hs4 : StP M1 ad s2 n2 F2 g2 := hst2.frame (fun j a b => hfr.at hi ⟨by omega, by omega⟩ ⟨by omega, by omega⟩ (by omega))
    refine r_iload_n dX7_copyFrom_2 rfl ?_
    refine r_iconst dX7_copyFrom_3 ?_
    refine r_icmp_ge (tgt := 26) dX7_copyFrom_4 (by decide) (by omega) (by omega) (fun h4 => ?_) (fun h4 => ?_)
    ·
      refine r_iconst dX7_copyFrom_26 ?_
      refine r_istore_n dX7_copyFrom_27 (by decide) rfl ?_
      refine J.loc (L' := [(0, some _), (1, some _), (2, some _)]) (lsub_cons rfl (lsub_cons rfl (lsub_cons rfl (lsub_nil)))) (loop2 (fun (i : Int) (M1 : Mem) => 0 ≤ i ∧ i ≤ 2 ∧ StP M1 ad s n2 F2 (fun k => if k < i then g2 k else g k) ∧ FrI ad s (s + 13) M M1) (fun (i : Int) (M1 : Mem) => (2 - i).toNat) (fun (i : Int) (M1 : Mem) => J KX7_copyFrom 0 0 _ 28 [(0, some (.ref (ad s))), (1, some (.ref (ad s2))), (2, some (vI i))] [] M1 _ _) (fun i M1 hI28 ih28 => ?_) _ _ ?_)
      ·
        obtain ⟨hi2, hi3, hs5, hfr5⟩ := hI28
        have hs6 : StP M1 ad s2 n2 F2 g2 := hst2.frame (fun j a b => hfr5.at hi ⟨by omega, by omega⟩ ⟨by omega, by omega⟩ (by omega))
        refine r_iload_n dX7_copyFrom_28 rfl ?_
        refine r_iconst dX7_copyFrom_29 ?_
        refine r_icmp_ge (tgt := 49) dX7_copyFrom_30 (by decide) (by omega) (by omega) (fun h30 => ?_) (fun h30 => ?_)
        ·
          refine e_return dX7_copyFrom_49 rfl (Nat.le_of_ble_eq_true rfl) (Nat.le_of_ble_eq_true rfl) ?_
          exact oktV ⟨hs5.cong (fun k a b => ⟨rfl, rfl⟩) (by simp [show (0 : Int) < i by omega, show (1 : Int) < i by omega]), hfr5⟩
        ·
          refine r_aload_n dX7_copyFrom_33 rfl ?_
          refine r_iload_n dX7_copyFrom_34 rfl ?_
          refine r_aload_n dX7_copyFrom_35 rfl ?_
          refine r_iload_n dX7_copyFrom_36 rfl ?_
          refine r_callV1 okX7_valueOf ⟨by decide, by decide⟩ ml_X7_36 (mX7_valueOf hs6 (by omega)) (by first | assumption | exact (StP.mb (by assumption) (by omega) (by omega)).1 | exact StP.obj (by assumption)) rfl rfl (Nat.le_of_ble_eq_true rfl) (Nat.le_of_ble_eq_true rfl) (Nat.le_of_ble_eq_true rfl) rfl dX7_copyFrom_37 (nx_I) (kx_I ?_)
          refine r_callV2 okX7_change ⟨by decide, by decide⟩ ml_X7_40 (mX7_change hs5 hi hs (by omega)) (by first | assumption | exact (StP.mb (by assumption) (by omega) (by omega)).1 | exact StP.obj (by assumption)) rfl rfl (Nat.le_of_ble_eq_true rfl) (Nat.le_of_ble_eq_true rfl) (Nat.le_of_ble_eq_true rfl) rfl dX7_copyFrom_40 (nx_tV) (kx_tV ?_)
          intro M2 hM2
          refine r_iinc dX7_copyFrom_43 rfl rfl ?_
          refine r_goto (tgt := 28) dX7_copyFrom_46 (by decide) ?_
          refine J.loc (lsub_cons rfl (lsub_cons rfl (lsub_cons rfl (lsub_nil)))) (ih28 _ _ ?_ ?_)
          · refine ⟨by omega, by omega, hM2.1.cong (fun k a b => ⟨rfl, rfl⟩) ?_, hfr5.trans hM2.2⟩
            rcases (show i = 0 ∨ i = 1 by omega) with rfl | rfl <;> simp [uI, valG]
          · omega
      · exact ⟨by omega, by omega, hs3.cong (fun k a b => by simp [show k < i by omega]) (by simp), hfr⟩
    ·
      refine r_aload_n dX7_copyFrom_7 rfl ?_
      refine r_iload_n dX7_copyFrom_8 rfl ?_
      refine r_callV1 okX7_members ⟨by decide, by decide⟩ ml_X7_28 (mX7_members hs3 hi0 (by omega)) (by first | assumption | exact (StP.mb (by assumption) (by omega) (by omega)).1 | exact StP.obj (by assumption)) rfl rfl (Nat.le_of_ble_eq_true rfl) (Nat.le_of_ble_eq_true rfl) (Nat.le_of_ble_eq_true rfl) rfl dX7_copyFrom_9 (nx_A) (kx_A ?_)
      refine r_aload_n dX7_copyFrom_12 rfl ?_
      refine r_iload_n dX7_copyFrom_13 rfl ?_
      refine r_callV1 okX7_members ⟨by decide, by decide⟩ ml_X7_28 (mX7_members hs4 hi0 (by omega)) (by first | assumption | exact (StP.mb (by assumption) (by omega) (by omega)).1 | exact StP.obj (by assumption)) rfl rfl (Nat.le_of_ble_eq_true rfl) (Nat.le_of_ble_eq_true rfl) (Nat.le_of_ble_eq_true rfl) rfl dX7_copyFrom_14 (nx_A) (kx_A ?_)
      refine r_callV1 okX5_copyFrom ⟨by decide, by decide⟩ ml_X7_32 (mX5_copyFrom (hs3.mb hi0 (by omega)) (hs4.mb hi0 (by omega)) ⟨hi.ne ⟨by omega, by omega⟩ ⟨by omega, by omega⟩ (by omega), hi.ne ⟨by omega, by omega⟩ ⟨by omega, by omega⟩ (by omega), hi.ne ⟨by omega, by omega⟩ ⟨by omega, by omega⟩ (by omega), hi.ne ⟨by omega, by omega⟩ ⟨by omega, by omega⟩ (by omega)⟩ (hs4.mb hi0 (by omega)).2.2.2.1) (by first | assumption | exact (StP.mb (by assumption) (by omega) (by omega)).1 | exact StP.obj (by assumption)) rfl rfl (Nat.le_of_ble_eq_true rfl) (Nat.le_of_ble_eq_true rfl) (Nat.le_of_ble_eq_true rfl) rfl dX7_copyFrom_17 (nx_tV) (kx_tV ?_)
      intro M2 hM2
      refine r_iinc dX7_copyFrom_20 rfl rfl ?_
      refine r_goto (tgt := 2) dX7_copyFrom_23 (by decide) ?_
      refine J.loc (lsub_cons rfl (lsub_cons rfl (lsub_cons rfl (lsub_nil)))) (ih2 _ _ ?_ ?_)
      · refine ⟨by omega, by omega, (hs3.setMb hi hs hi0 (by omega) hM2.1 hM2.2).cong (fun k a b => ?_) ⟨rfl, rfl⟩, hfr.trans (FrI.of2 hM2.2 ⟨by omega, by omega⟩ ⟨by omega, by omega⟩)⟩
        by_cases e : k = i
        · rw [e, uI_s, uI_s, if_pos (by omega), if_pos (by omega)]; exact ⟨rfl, rfl⟩
        · rw [uI_n _ e, uI_n _ e]
          by_cases e2 : k < i
          · rw [if_pos e2, if_pos (by omega), if_pos e2, if_pos (by omega)]; exact ⟨rfl, rfl⟩
          · rw [if_neg e2, if_neg (by omega), if_neg e2, if_neg (by omega)]; exact ⟨rfl, rfl⟩
      · omega
  · exact ⟨by omega, by omega, hst.cong (fun k a b => by simp [show ¬ k < 0 by omega]) ⟨rfl, rfl⟩, FrI.rf⟩
