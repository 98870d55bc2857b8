/-! the law's own rows beside the class: four sets of at most sixteen members -/
def LwV (w v : Int → Int) (n : Int → Int) (F : Int → Int → Int) (g : Int → Int) (m : Int) : Prop :=
  (∀ s, 0 ≤ s → s < 4 → w s = n s ∧ (0 ≤ n s ∧ n s ≤ 16) ∧ Srt (n s) (F s) ∧ ∀ k, 0 ≤ k → k < n s → v (16 * s + k) = F s k ∧ 0 ≤ F s k ∧ F s k ≤ 9999) ∧ w 4 = g 0 ∧ w 5 = g 1 ∧ w 6 = m ∧ (2 ≤ g 0 ∧ g 0 ≤ 16) ∧ (1 ≤ g 1 ∧ g 1 ≤ 9999) ∧ (0 ≤ m ∧ m ≤ 6)
def LwR (M : Mem) (ad : Int → Nat) (n : Int → Int) (F : Int → Int → Int) (g : Int → Int) (m : Int) : Prop := ∃ w v : Int → Int, M (ad 112) = some (aI 7 w) ∧ M (ad 113) = some (aI 64 v) ∧ LwV w v n F g m
theorem LwR.frame {M M2 : Mem} {ad : Int → Nat} {n : Int → Int} {F : Int → Int → Int} {g : Int → Int} {m : Int} (h : LwR M ad n F g m) (h1 : M2 (ad 112) = M (ad 112)) (h2 : M2 (ad 113) = M (ad 113)) : LwR M2 ad n F g m := by
  obtain ⟨w, v, a, b, c⟩ := h
  exact ⟨w, v, h1.trans a, h2.trans b, c⟩
theorem LwV.upd {w v w' v' : Int → Int} {n : Int → Int} {F : Int → Int → Int} {g : Int → Int} {m : Int} (h : LwV w v n F g m) {s n' : Int} {F' : Int → Int} (h0 : 0 ≤ s) (h1 : s < 4) (hn : 0 ≤ n' ∧ n' ≤ 16) (hs : Srt n' F') (hv : ∀ k, 0 ≤ k → k < n' → v' (16 * s + k) = F' k ∧ 0 ≤ F' k ∧ F' k ≤ 9999) (ho : ∀ j, (j < 16 * s ∨ 16 * s + 16 ≤ j) → v' j = v j) (hw : w' s = n') (hwo : ∀ j, j ≠ s → w' j = w j) : LwV w' v' (uI n s n') (uI F s F') g m := by
  obtain ⟨a, b, c, d, e⟩ := h
  refine ⟨fun t t0 t1 => ?_, (hwo 4 (by omega)).trans b, (hwo 5 (by omega)).trans c, (hwo 6 (by omega)).trans d, e⟩
  by_cases et : t = s
  · rw [et, uI_s, uI_s]; exact ⟨hw, hn, hs, hv⟩
  · rw [uI_n _ et, uI_n _ et, hwo t et]
    obtain ⟨a1, a2, a3, a4⟩ := a t t0 t1
    exact ⟨a1, a2, a3, fun k k0 k1 => by rw [ho (16 * t + k) (by omega)]; exact a4 k k0 k1⟩
theorem LwV.upd6 {w v w' : Int → Int} {n : Int → Int} {F : Int → Int → Int} {g : Int → Int} {m m' : Int} (h : LwV w v n F g m) (hm : 0 ≤ m' ∧ m' ≤ 6) (h6 : w' 6 = m') (ho : ∀ j, j ≠ 6 → w' j = w j) : LwV w' v n F g m' := by
  obtain ⟨a, b, c, d, e, f, i⟩ := h
  refine ⟨fun t t0 t1 => ?_, (ho 4 (by omega)).trans b, (ho 5 (by omega)).trans c, h6, e, f, hm⟩
  rw [ho t (by omega)]; exact a t t0 t1
theorem LwV.updG {w v w' : Int → Int} {n : Int → Int} {F : Int → Int → Int} {g : Int → Int} {m k x : Int} (h : LwV w v n F g m) (hk : (k = 0 ∧ 2 ≤ x ∧ x ≤ 16) ∨ (k = 1 ∧ 1 ≤ x ∧ x ≤ 9999)) (h4 : w' (4 + k) = x) (ho : ∀ j, j ≠ 4 + k → w' j = w j) : LwV w' v n F (uI g k x) m := by
  obtain ⟨a, b, c, d, e, f, i⟩ := h
  rcases hk with ⟨rfl, h1, h2⟩ | ⟨rfl, h1, h2⟩
  · refine ⟨fun t t0 t1 => ?_, ?_, ?_, (ho 6 (by omega)).trans d, ?_, ?_, i⟩
    · rw [ho t (by omega)]; exact a t t0 t1
    · rw [uI_s]; exact h4
    · rw [uI_n _ (by omega)]; exact (ho 5 (by omega)).trans c
    · rw [uI_s]; exact ⟨h1, h2⟩
    · rw [uI_n _ (by omega)]; exact f
  · refine ⟨fun t t0 t1 => ?_, ?_, ?_, (ho 6 (by omega)).trans d, ?_, ?_, i⟩
    · rw [ho t (by omega)]; exact a t t0 t1
    · rw [uI_n _ (by omega)]; exact (ho 4 (by omega)).trans b
    · rw [uI_s]; exact h4
    · rw [uI_n _ (by omega)]; exact e
    · rw [uI_s]; exact ⟨h1, h2⟩
theorem LwV.vld {w v : Int → Int} {n : Int → Int} {F : Int → Int → Int} {g : Int → Int} {m : Int} (h : LwV w v n F g m) : Vld (n, F, g) := ⟨fun k a b => (h.1 k a b).2.2.1, h.2.2.2.2.1.1, h.2.2.2.2.1.2, h.2.2.2.2.2.1.1, h.2.2.2.2.2.1.2⟩
theorem LwR.vld {M : Mem} {ad : Int → Nat} {n : Int → Int} {F : Int → Int → Int} {g : Int → Int} {m : Int} (h : LwR M ad n F g m) : Vld (n, F, g) := by
  obtain ⟨w, v, -, -, h⟩ := h
  exact h.vld
theorem uI_id {α : Type} (f : Int → α) (i : Int) : uI f i (f i) = f := by
  funext j
  unfold uI
  split
  · next h => rw [h]
  · rfl
/-- but for o nothing has changed -/
def Fr1 (o : Nat) (M M' : Mem) : Prop := ∀ q, q ≠ o → M' q = M q
theorem Fr1.rf {o : Nat} {M : Mem} : Fr1 o M M := fun _ _ => rfl
theorem Fr1.up {o : Nat} {M M' : Mem} {x : AC} (h : Fr1 o M M') : Fr1 o M (up M' o x) := fun q h1 => by rw [up_n _ h1]; exact h q h1
/-- but for ad 0 .. 113 nothing that was has changed -/
def FrK (ad : Int → Nat) (M M' : Mem) : Prop := ∀ q, M q ≠ none → (∀ j, 0 ≤ j → j < 114 → q ≠ ad j) → M' q = M q
theorem FrK.rf {ad : Int → Nat} {M : Mem} : FrK ad M M := fun _ _ _ => rfl
theorem FrK.trans {ad : Int → Nat} {M M1 M2 : Mem} (h1 : FrK ad M M1) (h2 : FrK ad M1 M2) : FrK ad M M2 := fun q hq ha => (h2 q (by rw [h1 q hq ha]; exact hq) ha).trans (h1 q hq ha)
theorem FrK.of2 {ad : Int → Nat} {M M1 : Mem} (h : Fr2 (ad 112) (ad 113) M M1) : FrK ad M M1 := fun q _ ha => h q (ha 112 (by omega) (by omega)) (ha 113 (by omega) (by omega))
theorem FrK.ofI {ad : Int → Nat} {M M1 : Mem} (h : FrI ad 0 112 M M1) : FrK ad M M1 := fun q _ ha => h q (fun i a b => ha i a (by omega))
theorem FrK.new {ad : Int → Nat} {M : Mem} {q : Nat} (h : M q = none) (x : AC) : FrK ad M (up M q x) := fun a ha _ => up_n _ (fun e => ha (by rw [e]; exact h))
theorem FrK.of1 {ad : Int → Nat} {M M1 M2 : Mem} {o : Nat} (hk : FrK ad M M1) (hn : M o = none) (h : Fr1 o M1 M2) : FrK ad M M2 := fun q hq ha => (h q (fun e => hq (by rw [e]; exact hn))).trans (hk q hq ha)
theorem FrK.upA {ad : Int → Nat} {M M1 : Mem} (hk : FrK ad M M1) (x : AC) : FrK ad M (up M1 (ad 112) x) := fun q hq ha => (up_n _ (ha 112 (by omega) (by omega))).trans (hk q hq ha)
theorem FrK.upB {ad : Int → Nat} {M M1 : Mem} (hk : FrK ad M M1) (x : AC) : FrK ad M (up M1 (ad 113) x) := fun q hq ha => (up_n _ (ha 113 (by omega) (by omega))).trans (hk q hq ha)
set_option maxHeartbeats 4000000 in
theorem mL_at {M : Mem} {x n : Int} (q0 : 0 < n ∧ n ≤ 10000) : Ct KL_at [vI x, vI n] M 0 0 (atR n M) := by
  refine Ct.of _ (by decide) rfl (Nat.le_of_ble_eq_true rfl) ?_
  refine r_iload_n dL_at_0 rfl ?_
  refine r_iconst dL_at_1 ?_
  refine r_iushr1 dL_at_2 (fun z2 za2 zb2 => ?_)
  refine r_iload_n dL_at_3 rfl ?_
  refine r_irem dL_at_4 (by omega) (by omega) (by omega) (by omega) ?_
  refine e_ireturn dL_at_5 rfl (Nat.le_of_ble_eq_true rfl) (Nat.le_of_ble_eq_true rfl) ?_
  exact ⟨⟨_, Int.emod_nonneg _ (by omega), Int.emod_lt_of_pos _ (by omega), rfl⟩, rfl⟩

set_option maxHeartbeats 4000000 in
theorem mL_cell {M : Mem} {sA N : Nat} {w : Int → Int} {k : Int} (hsc : M sA = some (aS N w)) (hN : N ≤ 260) (q0 : 0 ≤ k ∧ k ≤ 1000) : Ct KL_cell [.ref sA, vI k] M 0 0 (atZ M) := by
  refine Ct.of _ (by decide) rfl (Nat.le_of_ble_eq_true rfl) ?_
  refine r_iload_n dL_cell_0 rfl ?_
  refine r_aload_n dL_cell_1 rfl ?_
  refine r_alenS hsc dL_cell_2 ?_
  refine r_icmp_ge (tgt := 12) dL_cell_3 (by decide) (by omega) (by omega) (fun h3 => ?_) (fun h3 => ?_)
  ·
    refine r_ldcI dL_cell_12 kc_L_7 ?_
    refine r_iload_n dL_cell_14 rfl ?_
    refine r_sipush dL_cell_15 (by decide) ?_
    refine r_iadd dL_cell_18 ?_
    refine r_imul dL_cell_19 ?_
    refine e_ireturn dL_cell_20 rfl (Nat.le_of_ble_eq_true rfl) (Nat.le_of_ble_eq_true rfl) ?_
    exact ⟨⟨_, r32_of _, congrArg (fun q => Sum.inl (some (Value.int q))) (iN_of _)⟩, rfl⟩
  ·
    refine r_aload_n dL_cell_6 rfl ?_
    refine r_iload_n dL_cell_7 rfl ?_
    refine r_ialoadS hsc (by omega) (by omega) (by omega) dL_cell_8 ?_
    refine r_goto (tgt := 20) dL_cell_9 (by decide) ?_
    refine e_ireturn dL_cell_20 rfl (Nat.le_of_ble_eq_true rfl) (Nat.le_of_ble_eq_true rfl) ?_
    exact ⟨⟨_, r32_of _, congrArg (fun q => Sum.inl (some (Value.int q))) (iN_of _)⟩, rfl⟩

set_option maxHeartbeats 4000000 in
theorem mL_has {M : Mem} {ad : Int → Nat} {n : Int → Int} {F : Int → Int → Int} {g : Int → Int} {m s : Int} {x : Int} (hl : LwR M ad n F g m) (hi : Inj ad) (q0 : 0 ≤ s ∧ s < 4) (q1 : R32 x) : Ct KL_has [.ref (ad 112), .ref (ad 113), vI s, vI x] M 0 0 (rtI (bI (hasF (n s) (F s) x)) M) := by
  refine Ct.of _ (by decide) rfl (Nat.le_of_ble_eq_true rfl) ?_
  obtain ⟨w, v, hn1, hm1, hlv⟩ := id hl
  obtain ⟨hset, hw4, hw5, hw6, hg0, hg1, hm6⟩ := id hlv
  obtain ⟨hws, hns, hsr, hvs⟩ := hset s q0.1 q0.2
  have hAB : ad 112 ≠ ad 113 := hi.ne ⟨by omega, by omega⟩ ⟨by omega, by omega⟩ (by omega)
  have hBA := hAB.symm
  have hv1 : ∀ k, 0 ≤ k → k < n s → v (16 * s + k) = F s k := fun k a b => (hvs k a b).1
  have hv2 : ∀ k, 0 ≤ k → k < n s → 0 ≤ F s k ∧ F s k ≤ 9999 := fun k a b => (hvs k a b).2
  have hv3 : ∀ k, 0 < k → k ≤ n s → v (16 * s + k - 1) = F s (k - 1) := fun k a b => by rw [← hv1 (k - 1) (by omega) (by omega)]; congr 1; omega
  refine r_iconst dL_has_0 ?_
  refine r_istore dL_has_1 (by decide) rfl ?_
  refine J.loc (L' := [(0, some _), (1, some _), (2, some _), (3, some _), (4, some _)]) (lsub_cons rfl (lsub_cons rfl (lsub_cons rfl (lsub_cons rfl (lsub_cons rfl (lsub_nil)))))) (loop1 (fun (k : Int) => 0 ≤ k ∧ k ≤ n s ∧ ∀ j, 0 ≤ j → j < k → F s j ≠ x) (fun (k : Int) => (n s - k).toNat) (fun (k : Int) => J KL_has 0 0 _ 3 [(0, some (.ref (ad 112))), (1, some (.ref (ad 113))), (2, some (vI s)), (3, some (vI x)), (4, some (vI k))] [] M _ _) (fun k hI3 ih3 => ?_) _ ?_)
  ·
    obtain ⟨hk0, hk1, hk2⟩ := hI3
    refine r_iload dL_has_3 rfl ?_
    refine r_aload_n dL_has_5 rfl ?_
    refine r_iload_n dL_has_6 rfl ?_
    refine r_iaload (by first | assumption | exact up_s _ _ _ | exact (up_n _ (by assumption)).trans (by assumption) | exact (up_n _ (by assumption)).trans (up_s _ _ _) | exact (up_n _ (by assumption)).trans ((up_n _ (by assumption)).trans (by assumption))) (by omega) (by omega) (by omega) dL_has_7 ?_
    rw [hws]
    refine r_icmp_ge (tgt := 32) dL_has_8 (by decide) (by omega) (by omega) (fun h8 => ?_) (fun h8 => ?_)
    ·
      refine r_iconst dL_has_32 ?_
      refine e_zreturn dL_has_33 rfl (by omega) (Nat.le_of_ble_eq_true rfl) (Nat.le_of_ble_eq_true rfl) ?_
      exact okI (bI_eq0 (fun h => by obtain ⟨j, a, b, c⟩ := (hasF_iff (by omega) hsr x).mp h; exact hk2 j a (by omega) c)).symm
    ·
      refine r_aload_n dL_has_11 rfl ?_
      refine r_bipush dL_has_12 (by decide) ?_
      refine r_iload_n dL_has_14 rfl ?_
      refine r_imul dL_has_15 ?_
      refine r_iload dL_has_16 rfl ?_
      refine r_iadd dL_has_18 ?_
      refine r_iaload (by first | assumption | exact up_s _ _ _ | exact (up_n _ (by assumption)).trans (by assumption) | exact (up_n _ (by assumption)).trans (up_s _ _ _) | exact (up_n _ (by assumption)).trans ((up_n _ (by assumption)).trans (by assumption))) (by omega) (by omega) (by omega) dL_has_19 ?_
      rw [hv1 k (by omega) (by omega)]
      have hb := hv2 k (by omega) (by omega)
      refine r_iload_n dL_has_20 rfl ?_
      refine r_icmp_ne (tgt := 26) dL_has_21 (by decide) (by omega) (by omega) (fun h21 => ?_) (fun h21 => ?_)
      ·
        refine r_iinc dL_has_26 rfl rfl ?_
        refine r_goto (tgt := 3) dL_has_29 (by decide) ?_
        refine J.loc (lsub_cons rfl (lsub_cons rfl (lsub_cons rfl (lsub_cons rfl (lsub_cons rfl (lsub_nil)))))) (ih3 _ ?_ ?_)
        · refine ⟨by omega, by omega, fun j a b => ?_⟩
          by_cases e : j = k
          · rw [e]; exact h21
          · exact hk2 j a (by omega)
        · omega
      ·
        refine r_iconst dL_has_24 ?_
        refine e_zreturn dL_has_25 rfl (by omega) (Nat.le_of_ble_eq_true rfl) (Nat.le_of_ble_eq_true rfl) ?_
        exact okI (bI_eq1 ((hasF_iff (by omega) hsr x).mpr ⟨k, by omega, by omega, by omega⟩)).symm
  · exact ⟨by omega, by omega, fun j a b => by omega⟩

set_option maxHeartbeats 4000000 in
theorem mL_insert {M : Mem} {ad : Int → Nat} {n : Int → Int} {F : Int → Int → Int} {g : Int → Int} {m s : Int} {x : Int} {N : Nat} (hl : LwR M ad n F g m) (hi : Inj ad) (q0 : 0 ≤ s ∧ s < 4) (q1 : 0 ≤ x ∧ x ≤ 9999) (hlt : hasF (n s) (F s) x = true ∨ n s < 16) (hN : 16 < N) : Ct KL_insert [.ref (ad 112), .ref (ad 113), vI s, vI x] M 0 0 (atV (fun M2 => LwR M2 ad (uI n s (putN N (n s) (F s) x)) (uI F s (putF N (n s) (F s) x)) g m ∧ Fr2 (ad 112) (ad 113) M M2)) := by
  refine Ct.of _ (by decide) rfl (Nat.le_of_ble_eq_true rfl) ?_
  obtain ⟨w, v, hn1, hm1, hlv⟩ := id hl
  obtain ⟨hset, hw4, hw5, hw6, hg0, hg1, hm6⟩ := id hlv
  obtain ⟨hws, hns, hsr, hvs⟩ := hset s q0.1 q0.2
  have hAB : ad 112 ≠ ad 113 := hi.ne ⟨by omega, by omega⟩ ⟨by omega, by omega⟩ (by omega)
  have hBA := hAB.symm
  have hv1 : ∀ k, 0 ≤ k → k < n s → v (16 * s + k) = F s k := fun k a b => (hvs k a b).1
  have hv2 : ∀ k, 0 ≤ k → k < n s → 0 ≤ F s k ∧ F s k ≤ 9999 := fun k a b => (hvs k a b).2
  have hv3 : ∀ k, 0 < k → k ≤ n s → v (16 * s + k - 1) = F s (k - 1) := fun k a b => by rw [← hv1 (k - 1) (by omega) (by omega)]; congr 1; omega
  have hpl := plc_spec hns.1 (F s) x
  have hbr := bI_r (hasF (n s) (F s) x)
  refine r_aload_n dL_insert_0 rfl ?_
  refine r_aload_n dL_insert_1 rfl ?_
  refine r_iload_n dL_insert_2 rfl ?_
  refine r_iload_n dL_insert_3 rfl ?_
  refine r_callS4 okL_has ⟨by decide, by decide⟩ ml_L_8 (mL_has hl hi q0 (by omega)) (Nat.le_of_ble_eq_true rfl) (Nat.le_of_ble_eq_true rfl) (Nat.le_of_ble_eq_true rfl) rfl dL_insert_4 (nx_I) (kx_I ?_)
  refine r_if_eq (tgt := 11) dL_insert_7 (by decide) (by omega) (fun h7 => ?_) (fun h7 => ?_)
  ·
    refine r_aload_n dL_insert_11 rfl ?_
    refine r_iload_n dL_insert_12 rfl ?_
    refine r_dup2 dL_insert_13 ?_
    refine r_iaload hn1 (by omega) (by omega) (by omega) dL_insert_14 ?_
    rw [hws]
    refine r_dup_x2 dL_insert_15 ?_
    refine r_iconst dL_insert_16 ?_
    refine r_iadd dL_insert_17 ?_
    refine r_iastore hn1 (by omega) (by omega) (by omega) dL_insert_18 ?_
    refine r_istore dL_insert_19 (by decide) rfl ?_
    have hnh : ¬ hasF (n s) (F s) x = true := bI_f h7
    have hn16 : n s < 16 := hlt.resolve_left hnh
    refine J.loc (L' := [(0, some _), (1, some _), (2, some _), (3, some _), (4, some _)]) (lsub_cons rfl (lsub_cons rfl (lsub_cons rfl (lsub_cons rfl (lsub_cons rfl (lsub_nil)))))) (loop2 (fun (k : Int) (M1 : Mem) => plc (n s) (F s) x ≤ k ∧ k ≤ n s ∧ M1 (ad 112) = some (aI 7 (uI w s (n s + 1))) ∧ Fr2 (ad 112) (ad 113) M M1 ∧ ∃ v1 : Int → Int, M1 (ad 113) = some (aI 64 v1) ∧ (∀ i, 0 ≤ i → i < k → v1 (16 * s + i) = F s i) ∧ (∀ i, k < i → i ≤ n s → v1 (16 * s + i) = F s (i - 1)) ∧ ∀ j, (j < 16 * s ∨ 16 * s + 16 ≤ j) → v1 j = v j) (fun (k : Int) (M1 : Mem) => k.toNat) (fun (k : Int) (M1 : Mem) => J KL_insert 0 0 _ 21 [(0, some (.ref (ad 112))), (1, some (.ref (ad 113))), (2, some (vI s)), (3, some (vI x)), (4, some (vI k))] [] M1 _ _) (fun k M1 hI21 ih21 => ?_) _ _ ?_)
    ·
      obtain ⟨hk0, hk1, hn2, hfr, v1, hm2, hi1, hi2, hi3⟩ := hI21
      have hj1 : ∀ i, 0 ≤ i → i < k → ∀ j, j = 16 * s + i → v1 j = F s i := fun i a b j e => by rw [e]; exact hi1 i a b
      refine r_iload dL_insert_21 rfl ?_
      refine r_if_le (tgt := 67) dL_insert_23 (by decide) (by omega) (fun h23 => ?_) (fun h23 => ?_)
      ·
        refine r_aload_n dL_insert_67 rfl ?_
        refine r_bipush dL_insert_68 (by decide) ?_
        refine r_iload_n dL_insert_70 rfl ?_
        refine r_imul dL_insert_71 ?_
        refine r_iload dL_insert_72 rfl ?_
        refine r_iadd dL_insert_74 ?_
        refine r_iload_n dL_insert_75 rfl ?_
        refine r_iastore hm2 (by omega) (by omega) (by omega) dL_insert_76 ?_
        refine e_return dL_insert_77 rfl (Nat.le_of_ble_eq_true rfl) (Nat.le_of_ble_eq_true rfl) ?_
        have hp : putOk N (n s) (F s) x = true := by
          unfold putOk
          rw [decide_eq_true (by omega)]
          simp [hnh]
        have hkp : k = plc (n s) (F s) x := by
          by_cases e : k = plc (n s) (F s) x
          · exact e
          · have h1 := hpl.2.2.2 (by omega)
            have h2 : F s (plc (n s) (F s) x) ≠ x := fun e2 => hnh ((hasF_iff hns.1 hsr x).mpr ⟨_, hpl.1, by omega, e2⟩)
            have h3 : F s (plc (n s) (F s) x) ≤ F s (k - 1) := by
              by_cases e3 : plc (n s) (F s) x = k - 1
              · rw [← e3]; omega
              · have := hsr (plc (n s) (F s) x) (k - 1) hpl.1 (by omega) (by omega); omega
            omega
        have hins := ins_spec hns.1 hsr (fun q => hnh ((hasF_iff hns.1 hsr x).mpr q))
        have hir := insF_r hpl.1 hpl.2.1 q1 hv2
        refine oktV ⟨?_, hfr.up2⟩
        unfold putN putF
        rw [hp, if_pos rfl, if_pos rfl]
        refine ⟨_, _, (up_n _ hAB).trans hn2, up_s _ _ _, hlv.upd q0.1 q0.2 (by omega) hins.1 (fun i a b => ⟨?_, hir i a b⟩) (fun j hj => ?_) (uI_s _ _ _) (fun j hj => uI_n _ hj)⟩
        · unfold insF
          by_cases e1 : i < plc (n s) (F s) x
          · rw [if_pos e1, uI_n _ (by omega)]; exact hi1 i a (by omega)
          · rw [if_neg e1]
            by_cases e2 : i = plc (n s) (F s) x
            · rw [if_pos e2, e2, hkp, uI_s]
            · rw [if_neg e2, uI_n _ (by omega)]; exact hi2 i (by omega) (by omega)
        · rw [uI_n _ (by omega)]; exact hi3 j hj
      ·
        refine r_aload_n dL_insert_26 rfl ?_
        refine r_bipush dL_insert_27 (by decide) ?_
        refine r_iload_n dL_insert_29 rfl ?_
        refine r_imul dL_insert_30 ?_
        refine r_iload dL_insert_31 rfl ?_
        refine r_iadd dL_insert_33 ?_
        refine r_iconst dL_insert_34 ?_
        refine r_isub dL_insert_35 ?_
        have hk9 : 0 < k := by omega
        refine r_iaload hm2 (by omega) (by omega) (by omega) dL_insert_36 ?_
        refine r_iload_n dL_insert_37 rfl ?_
        rw [hj1 (k - 1) (by omega) (by omega) (16 * s + k - 1) (by omega)]
        have hb := hv2 (k - 1) (by omega) (by omega)
        refine r_icmp_le (tgt := 67) dL_insert_38 (by decide) (by omega) (by omega) (fun h38 => ?_) (fun h38 => ?_)
        ·
          refine r_aload_n dL_insert_67 rfl ?_
          refine r_bipush dL_insert_68 (by decide) ?_
          refine r_iload_n dL_insert_70 rfl ?_
          refine r_imul dL_insert_71 ?_
          refine r_iload dL_insert_72 rfl ?_
          refine r_iadd dL_insert_74 ?_
          refine r_iload_n dL_insert_75 rfl ?_
          refine r_iastore hm2 (by omega) (by omega) (by omega) dL_insert_76 ?_
          refine e_return dL_insert_77 rfl (Nat.le_of_ble_eq_true rfl) (Nat.le_of_ble_eq_true rfl) ?_
          have hp : putOk N (n s) (F s) x = true := by
            unfold putOk
            rw [decide_eq_true (by omega)]
            simp [hnh]
          have hkp : k = plc (n s) (F s) x := by
            by_cases e : k = plc (n s) (F s) x
            · exact e
            · have h1 := hpl.2.2.2 (by omega)
              have h2 : F s (plc (n s) (F s) x) ≠ x := fun e2 => hnh ((hasF_iff hns.1 hsr x).mpr ⟨_, hpl.1, by omega, e2⟩)
              have h3 : F s (plc (n s) (F s) x) ≤ F s (k - 1) := by
                by_cases e3 : plc (n s) (F s) x = k - 1
                · rw [← e3]; omega
                · have := hsr (plc (n s) (F s) x) (k - 1) hpl.1 (by omega) (by omega); omega
              omega
          have hins := ins_spec hns.1 hsr (fun q => hnh ((hasF_iff hns.1 hsr x).mpr q))
          have hir := insF_r hpl.1 hpl.2.1 q1 hv2
          refine oktV ⟨?_, hfr.up2⟩
          unfold putN putF
          rw [hp, if_pos rfl, if_pos rfl]
          refine ⟨_, _, (up_n _ hAB).trans hn2, up_s _ _ _, hlv.upd q0.1 q0.2 (by omega) hins.1 (fun i a b => ⟨?_, hir i a b⟩) (fun j hj => ?_) (uI_s _ _ _) (fun j hj => uI_n _ hj)⟩
          · unfold insF
            by_cases e1 : i < plc (n s) (F s) x
            · rw [if_pos e1, uI_n _ (by omega)]; exact hi1 i a (by omega)
            · rw [if_neg e1]
              by_cases e2 : i = plc (n s) (F s) x
              · rw [if_pos e2, e2, hkp, uI_s]
              · rw [if_neg e2, uI_n _ (by omega)]; exact hi2 i (by omega) (by omega)
          · rw [uI_n _ (by omega)]; exact hi3 j hj
        ·
          refine r_aload_n dL_insert_41 rfl ?_
          refine r_bipush dL_insert_42 (by decide) ?_
          refine r_iload_n dL_insert_44 rfl ?_
          refine r_imul dL_insert_45 ?_
          refine r_iload dL_insert_46 rfl ?_
          refine r_iadd dL_insert_48 ?_
          refine r_aload_n dL_insert_49 rfl ?_
          refine r_bipush dL_insert_50 (by decide) ?_
          refine r_iload_n dL_insert_52 rfl ?_
          refine r_imul dL_insert_53 ?_
          refine r_iload dL_insert_54 rfl ?_
          refine r_iadd dL_insert_56 ?_
          refine r_iconst dL_insert_57 ?_
          refine r_isub dL_insert_58 ?_
          refine r_iaload hm2 (by omega) (by omega) (by omega) dL_insert_59 ?_
          rw [hj1 (k - 1) (by omega) (by omega) (16 * s + k - 1) (by omega)]
          refine r_iastore hm2 (by omega) (by omega) (by omega) dL_insert_60 ?_
          refine r_iinc dL_insert_61 rfl rfl ?_
          refine r_goto (tgt := 21) dL_insert_64 (by decide) ?_
          refine J.loc (lsub_cons rfl (lsub_cons rfl (lsub_cons rfl (lsub_cons rfl (lsub_cons rfl (lsub_nil)))))) (ih21 _ _ ?_ ?_)
          · refine ⟨?_, by omega, (up_n _ hAB).trans hn2, hfr.up2, _, up_s _ _ _, fun i a b => ?_, fun i a b => ?_, fun j hj => ?_⟩
            · by_cases e : plc (n s) (F s) x ≤ k + -1
              · exact e
              · have := hpl.2.2.1 (k - 1) (by omega) (by omega); omega
            · rw [uI_n _ (by omega)]; exact hi1 i a (by omega)
            · by_cases e : i = k
              · rw [e, uI_s]
              · rw [uI_n _ (by omega)]; exact hi2 i (by omega) b
            · rw [uI_n _ (by omega)]; exact hi3 j hj
          · omega
    · exact ⟨by omega, by omega, up_s _ _ _, Fr2.rf.up1, v, (up_n _ hBA).trans hm1, fun i a b => hv1 i a b, fun i a b => by omega, fun j _ => rfl⟩
  ·
    refine e_return dL_insert_10 rfl (Nat.le_of_ble_eq_true rfl) (Nat.le_of_ble_eq_true rfl) ?_
    have hp : putOk N (n s) (F s) x = false := by unfold putOk; rw [bI_t h7]; rfl
    refine oktV ⟨?_, Fr2.rf⟩
    unfold putN putF
    rw [hp, if_neg (by decide), if_neg (by decide), uI_id, uI_id]
    exact hl

set_option maxHeartbeats 4000000 in
theorem mL_drop {M : Mem} {ad : Int → Nat} {n : Int → Int} {F : Int → Int → Int} {g : Int → Int} {m s : Int} {lo hi_ : Int} (hl : LwR M ad n F g m) (hi : Inj ad) (q0 : 0 ≤ s ∧ s < 4) (q1 : R32 lo) (q2 : R32 hi_) : Ct KL_drop [.ref (ad 112), .ref (ad 113), vI s, vI lo, vI hi_] M 0 0 (atI (n s - (cutP (n s) (F s) lo hi_).1) (fun M2 => LwR M2 ad (uI n s (cutP (n s) (F s) lo hi_).1) (uI F s (cutP (n s) (F s) lo hi_).2) g m ∧ Fr2 (ad 112) (ad 113) M M2)) := by
  refine Ct.of _ (by decide) rfl (Nat.le_of_ble_eq_true rfl) ?_
  obtain ⟨w, v, hn1, hm1, hlv⟩ := id hl
  obtain ⟨hset, hw4, hw5, hw6, hg0, hg1, hm6⟩ := id hlv
  obtain ⟨hws, hns, hsr, hvs⟩ := hset s q0.1 q0.2
  have hAB : ad 112 ≠ ad 113 := hi.ne ⟨by omega, by omega⟩ ⟨by omega, by omega⟩ (by omega)
  have hBA := hAB.symm
  have hv1 : ∀ k, 0 ≤ k → k < n s → v (16 * s + k) = F s k := fun k a b => (hvs k a b).1
  have hv2 : ∀ k, 0 ≤ k → k < n s → 0 ≤ F s k ∧ F s k ≤ 9999 := fun k a b => (hvs k a b).2
  have hv3 : ∀ k, 0 < k → k ≤ n s → v (16 * s + k - 1) = F s (k - 1) := fun k a b => by rw [← hv1 (k - 1) (by omega) (by omega)]; congr 1; omega
  have hkp := cutP_r lo hi_ hns.1 hv2
  have hks := cutP_spec hns.1 hsr lo hi_
  refine r_iconst dL_drop_0 ?_
  refine r_istore dL_drop_1 (by decide) rfl ?_
  refine r_iconst dL_drop_3 ?_
  refine r_istore dL_drop_4 (by decide) rfl ?_
  refine J.loc (L' := [(0, some _), (1, some _), (2, some _), (3, some _), (4, some _), (5, some _), (6, some _)]) (lsub_cons rfl (lsub_cons rfl (lsub_cons rfl (lsub_cons rfl (lsub_cons rfl (lsub_cons rfl (lsub_cons rfl (lsub_nil)))))))) (loop4 (fun (i : Int) (r : Int) (M1 : Mem) (G : Int → Int) => 0 ≤ i ∧ i ≤ n s ∧ 0 ≤ r ∧ r ≤ i ∧ M1 (ad 112) = some (aI 7 w) ∧ Fr2 (ad 112) (ad 113) M M1 ∧ cutP (n s) (F s) lo hi_ = kpF (outP lo hi_) (F s) (n s - i).toNat i r G ∧ ∃ v1 : Int → Int, M1 (ad 113) = some (aI 64 v1) ∧ (∀ j, 0 ≤ j → j < r → v1 (16 * s + j) = G j) ∧ (∀ j, i ≤ j → j < n s → v1 (16 * s + j) = F s j) ∧ ∀ j, (j < 16 * s ∨ 16 * s + 16 ≤ j) → v1 j = v j) (fun (i : Int) (r : Int) (M1 : Mem) (G : Int → Int) => (n s - i).toNat) (fun (i : Int) (r : Int) (M1 : Mem) (G : Int → Int) => J KL_drop 0 0 _ 6 [(0, some (.ref (ad 112))), (1, some (.ref (ad 113))), (2, some (vI s)), (3, some (vI lo)), (4, some (vI hi_)), (5, some (vI r)), (6, some (vI i))] [] M1 _ _) (fun i r M1 G hI6 ih6 => ?_) _ _ _ (fun _ => 0) ?_)
  ·
    obtain ⟨hi0, hi1, hr0, hr1, hn2, hfr, hkp1, v1, hm2, hg1a, hg2a, hg3a⟩ := hI6
    refine r_iload dL_drop_6 rfl ?_
    refine r_aload_n dL_drop_8 rfl ?_
    refine r_iload_n dL_drop_9 rfl ?_
    refine r_iaload hn2 (by omega) (by omega) (by omega) dL_drop_10 ?_
    rw [hws]
    refine r_icmp_ge (tgt := 58) dL_drop_11 (by decide) (by omega) (by omega) (fun h11 => ?_) (fun h11 => ?_)
    ·
      refine r_aload_n dL_drop_58 rfl ?_
      refine r_iload_n dL_drop_59 rfl ?_
      refine r_iaload hn2 (by omega) (by omega) (by omega) dL_drop_60 ?_
      rw [hws]
      refine r_iload dL_drop_61 rfl ?_
      refine r_isub dL_drop_63 ?_
      refine r_istore dL_drop_64 (by decide) rfl ?_
      refine r_aload_n dL_drop_66 rfl ?_
      refine r_iload_n dL_drop_67 rfl ?_
      refine r_iload dL_drop_68 rfl ?_
      refine r_iastore hn2 (by omega) (by omega) (by omega) dL_drop_70 ?_
      refine r_iload dL_drop_71 rfl ?_
      refine e_ireturn dL_drop_73 rfl (Nat.le_of_ble_eq_true rfl) (Nat.le_of_ble_eq_true rfl) ?_
      rw [show (n s - i).toNat = 0 by omega, kpF] at hkp1
      rw [hkp1] at hkp hks ⊢
      exact oktI rfl ⟨⟨_, _, up_s _ _ _, (up_n _ hBA).trans hm2, hlv.upd q0.1 q0.2 (by omega) hks.1 (fun j a b => ⟨hg1a j a b, hkp.2.2 j a b⟩) hg3a (uI_s _ _ _) (fun j hj => uI_n _ hj)⟩, hfr.up1⟩
    ·
      refine r_aload_n dL_drop_14 rfl ?_
      refine r_bipush dL_drop_15 (by decide) ?_
      refine r_iload_n dL_drop_17 rfl ?_
      refine r_imul dL_drop_18 ?_
      refine r_iload dL_drop_19 rfl ?_
      refine r_iadd dL_drop_21 ?_
      refine r_iaload hm2 (by omega) (by omega) (by omega) dL_drop_22 ?_
      rw [hg2a i (by omega) (by omega)]
      have hb := hv2 i (by omega) (by omega)
      refine r_istore dL_drop_23 (by decide) rfl ?_
      refine r_iload dL_drop_25 rfl ?_
      refine r_iload_n dL_drop_27 rfl ?_
      refine r_icmp_lt (tgt := 38) dL_drop_28 (by decide) (by omega) (by omega) (fun h28 => ?_) (fun h28 => ?_)
      ·
        refine r_aload_n dL_drop_38 rfl ?_
        refine r_bipush dL_drop_39 (by decide) ?_
        refine r_iload_n dL_drop_41 rfl ?_
        refine r_imul dL_drop_42 ?_
        refine r_iload dL_drop_43 rfl ?_
        refine r_iinc dL_drop_45 rfl rfl ?_
        refine r_iadd dL_drop_48 ?_
        refine r_iload dL_drop_49 rfl ?_
        refine r_iastore hm2 (by omega) (by omega) (by omega) dL_drop_51 ?_
        refine r_iinc dL_drop_52 rfl rfl ?_
        refine r_goto (tgt := 6) dL_drop_55 (by decide) ?_
        refine J.loc (lsub_cons rfl (lsub_cons rfl (lsub_cons rfl (lsub_cons rfl (lsub_cons rfl (lsub_cons rfl (lsub_cons rfl (lsub_nil)))))))) (ih6 _ _ _ (uI G r (F s i)) ?_ ?_)
        · refine ⟨by omega, by omega, by omega, by omega, (up_n _ hAB).trans hn2, hfr.up2, ?_, _, up_s _ _ _, fun j a1 b1 => ?_, fun j a1 b1 => ?_, fun j hj => ?_⟩
          · rw [hkp1, show (n s - i).toNat = (n s - (i + 1)).toNat + 1 by omega, kpF, if_pos (by simp [outP]; omega)]
          · by_cases e : j = r
            · rw [e, uI_s, uI_s]
            · rw [uI_n _ (by omega), uI_n _ e]; exact hg1a j a1 (by omega)
          · rw [uI_n _ (by omega)]; exact hg2a j (by omega) b1
          · rw [uI_n _ (by omega)]; exact hg3a j hj
        · omega
      ·
        refine r_iload dL_drop_31 rfl ?_
        refine r_iload dL_drop_33 rfl ?_
        refine r_icmp_le (tgt := 52) dL_drop_35 (by decide) (by omega) (by omega) (fun h35 => ?_) (fun h35 => ?_)
        ·
          refine r_iinc dL_drop_52 rfl rfl ?_
          refine r_goto (tgt := 6) dL_drop_55 (by decide) ?_
          refine J.loc (lsub_cons rfl (lsub_cons rfl (lsub_cons rfl (lsub_cons rfl (lsub_cons rfl (lsub_cons rfl (lsub_cons rfl (lsub_nil)))))))) (ih6 _ _ _ G ?_ ?_)
          · refine ⟨by omega, by omega, by omega, by omega, hn2, hfr, ?_, v1, hm2, hg1a, fun j a1 b1 => hg2a j (by omega) b1, hg3a⟩
            rw [hkp1, show (n s - i).toNat = (n s - (i + 1)).toNat + 1 by omega, kpF, if_neg (by simp [outP]; omega)]
          · omega
        ·
          refine r_aload_n dL_drop_38 rfl ?_
          refine r_bipush dL_drop_39 (by decide) ?_
          refine r_iload_n dL_drop_41 rfl ?_
          refine r_imul dL_drop_42 ?_
          refine r_iload dL_drop_43 rfl ?_
          refine r_iinc dL_drop_45 rfl rfl ?_
          refine r_iadd dL_drop_48 ?_
          refine r_iload dL_drop_49 rfl ?_
          refine r_iastore hm2 (by omega) (by omega) (by omega) dL_drop_51 ?_
          refine r_iinc dL_drop_52 rfl rfl ?_
          refine r_goto (tgt := 6) dL_drop_55 (by decide) ?_
          refine J.loc (lsub_cons rfl (lsub_cons rfl (lsub_cons rfl (lsub_cons rfl (lsub_cons rfl (lsub_cons rfl (lsub_cons rfl (lsub_nil)))))))) (ih6 _ _ _ (uI G r (F s i)) ?_ ?_)
          · refine ⟨by omega, by omega, by omega, by omega, (up_n _ hAB).trans hn2, hfr.up2, ?_, _, up_s _ _ _, fun j a1 b1 => ?_, fun j a1 b1 => ?_, fun j hj => ?_⟩
            · rw [hkp1, show (n s - i).toNat = (n s - (i + 1)).toNat + 1 by omega, kpF, if_pos (by simp [outP]; omega)]
            · by_cases e : j = r
              · rw [e, uI_s, uI_s]
              · rw [uI_n _ (by omega), uI_n _ e]; exact hg1a j a1 (by omega)
            · rw [uI_n _ (by omega)]; exact hg2a j (by omega) b1
            · rw [uI_n _ (by omega)]; exact hg3a j hj
          · omega
  · exact ⟨by omega, by omega, by omega, by omega, hn1, Fr2.rf, by simp [cutP], v, hm1, fun j a b => by omega, fun j a b => hv1 j (by omega) b, fun j _ => rfl⟩
