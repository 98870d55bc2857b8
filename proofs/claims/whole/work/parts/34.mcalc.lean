/-! what the model does to rows: a range taken away, two sets combined, what is nearest -/
theorem away_eq {n : Int} {F : Int → Int} (hn : 0 ≤ n) (hs : Srt n F) {lo hi : Int} (hl : lo ≤ hi + 1) : plc n F lo ≤ plc n F (hi + 1) ∧ plc n F (hi + 1) ≤ n ∧ (cutP n F lo hi).1 = n - (plc n F (hi + 1) - plc n F lo) ∧ ∀ i, 0 ≤ i → i < n - (plc n F (hi + 1) - plc n F lo) → (if i < plc n F lo then F i else F (i + (plc n F (hi + 1) - plc n F lo))) = (cutP n F lo hi).2 i := by
  obtain ⟨a1, a2, a3, a4⟩ := plc_spec hn F lo
  obtain ⟨b1, b2, b3, b4⟩ := plc_spec hn F (hi + 1)
  obtain ⟨c1, c2, c3⟩ := cutP_spec hn hs lo hi
  generalize plc n F lo = f at *
  generalize plc n F (hi + 1) = l at *
  have hfl : f ≤ l := by
    by_cases e : f ≤ l
    · exact e
    · have h1 := a3 l b1 (by omega)
      have h2 := b4 (by omega)
      omega
  have hge : ∀ j, l ≤ j → j < n → hi < F j := fun j x y => by
    have h2 := b4 (by omega)
    by_cases e : j = l
    · rw [e]; omega
    · have := hs l j b1 (by omega) y; omega
  have hge2 : ∀ j, f ≤ j → j < n → lo ≤ F j := fun j x y => by
    have h2 := a4 (by omega)
    by_cases e : j = f
    · rw [e]; omega
    · have := hs f j a1 (by omega) y; omega
  have hsR : Srt (n - (l - f)) (fun i => if i < f then F i else F (i + (l - f))) := fun i j x y z => by
    dsimp only
    by_cases e1 : j < f
    · rw [if_pos e1, if_pos (by omega)]; exact hs i j x y (by omega)
    · rw [if_neg e1]
      by_cases e2 : i < f
      · rw [if_pos e2]; exact hs i _ x (by omega) (by omega)
      · rw [if_neg e2]; exact hs _ _ (by omega) (by omega) (by omega)
  have hu := srt_unique (by omega) c3 hsR c1 (fun y => (show _ ↔ _ from ⟨fun ⟨i, x, z, w⟩ => (c2 y).mpr (by
    dsimp only at w
    by_cases e1 : i < f
    · rw [if_pos e1] at w; exact ⟨⟨i, x, by omega, w⟩, Or.inl (by have := a3 i x e1; omega)⟩
    · rw [if_neg e1] at w; exact ⟨⟨i + (l - f), by omega, by omega, w⟩, Or.inr (by have := hge (i + (l - f)) (by omega) (by omega); omega)⟩), fun h => by
    obtain ⟨⟨j, x, z, w⟩, h2⟩ := (c2 y).mp h
    rcases h2 with h2 | h2
    · have e : j < f := by
        by_cases e : j < f
        · exact e
        · have := hge2 j (by omega) z; omega
      exact ⟨j, x, by omega, by dsimp only; rw [if_pos e]; exact w⟩
    · have e : l ≤ j := by
        by_cases e : l ≤ j
        · exact e
        · have := b3 j x (by omega); omega
      exact ⟨j - (l - f), by omega, by omega, by dsimp only; rw [if_neg (by omega), show j - (l - f) + (l - f) = j by omega]; exact w⟩⟩))
  exact ⟨hfl, b2, hu.1.symm, fun i x y => hu.2 i x y⟩
/-- what one of the two loops of a join lays -/
theorem jnA_spec {n1 n2 : Int} (F1 F2 : Int → Int) (how : Int) (hs1 : Srt n1 F1) (h60 : n1 ≤ 60) : ∀ (k : Nat) (p m : Int) (G : Int → Int), 0 ≤ p → p + k = n1 → 0 ≤ m → m ≤ p → Srt m G → (∀ y, Memb m G y ↔ (∃ j, 0 ≤ j ∧ j < p ∧ F1 j = y) ∧ (how = 0 ∨ bI (hasF n2 F2 y) = (if how = 1 then 1 else 0))) →
    Srt (jnA F1 n2 F2 how k p m G).1 (jnA F1 n2 F2 how k p m G).2 ∧ 0 ≤ (jnA F1 n2 F2 how k p m G).1 ∧ (jnA F1 n2 F2 how k p m G).1 ≤ n1 ∧ ∀ y, Memb (jnA F1 n2 F2 how k p m G).1 (jnA F1 n2 F2 how k p m G).2 y ↔ Memb n1 F1 y ∧ (how = 0 ∨ bI (hasF n2 F2 y) = (if how = 1 then 1 else 0))
  | 0, p, m, G, h0, h1, h2, h3, h4, h5 => by
    unfold jnA
    have e : p = n1 := by omega
    rw [e] at h5 h3
    exact ⟨h4, h2, h3, h5⟩
  | k + 1, p, m, G, h0, h1, h2, h3, h4, h5 => by
    unfold jnA
    by_cases hc : how = 0 ∨ bI (hasF n2 F2 (F1 p)) = (if how = 1 then 1 else 0)
    · rw [if_pos hc]
      obtain ⟨g1, g2, g3, g4⟩ := put_spec (N := 120) h2 (by omega) h4 (F1 p)
      refine jnA_spec F1 F2 how hs1 h60 k (p + 1) _ _ (by omega) (by omega) (by omega) (by omega) g1 (fun y => (g2 y).trans ⟨?_, ?_⟩)
      · rintro (h | rfl)
        · obtain ⟨⟨j, a, b, c⟩, d⟩ := (h5 y).mp h
          exact ⟨⟨j, a, by omega, c⟩, d⟩
        · exact ⟨⟨p, h0, by omega, rfl⟩, hc⟩
      · rintro ⟨⟨j, a, b, c⟩, d⟩
        by_cases e : j = p
        · rw [e] at c; exact Or.inr c.symm
        · exact Or.inl ((h5 y).mpr ⟨⟨j, a, by omega, c⟩, d⟩)
    · rw [if_neg hc]
      refine jnA_spec F1 F2 how hs1 h60 k (p + 1) m G (by omega) (by omega) h2 (by omega) h4 (fun y => (h5 y).trans ⟨fun ⟨⟨j, a, b, c⟩, d⟩ => ⟨⟨j, a, by omega, c⟩, d⟩, fun ⟨⟨j, a, b, c⟩, d⟩ => ⟨⟨j, a, ?_, c⟩, d⟩⟩)
      by_cases e : j = p
      · rw [e] at c; rw [← c] at d; exact absurd d hc
      · omega
theorem jnB_spec {n1 n2 m0 : Int} (F1 F2 G0 : Int → Int) (h60 : n2 ≤ 60) (h61 : m0 ≤ 60) : ∀ (k : Nat) (p m : Int) (G : Int → Int), 0 ≤ p → p + k = n2 → 0 ≤ m → m ≤ m0 + p → Srt m G → (∀ y, Memb m G y ↔ Memb m0 G0 y ∨ ((∃ j, 0 ≤ j ∧ j < p ∧ F2 j = y) ∧ bI (hasF n1 F1 y) = 0)) →
    Srt (jnB n1 F1 F2 k p m G).1 (jnB n1 F1 F2 k p m G).2 ∧ 0 ≤ (jnB n1 F1 F2 k p m G).1 ∧ (jnB n1 F1 F2 k p m G).1 ≤ m0 + n2 ∧ ∀ y, Memb (jnB n1 F1 F2 k p m G).1 (jnB n1 F1 F2 k p m G).2 y ↔ Memb m0 G0 y ∨ (Memb n2 F2 y ∧ bI (hasF n1 F1 y) = 0)
  | 0, p, m, G, h0, h1, h2, h3, h4, h5 => by
    unfold jnB
    have e : p = n2 := by omega
    rw [e] at h5 h3
    exact ⟨h4, h2, h3, h5⟩
  | k + 1, p, m, G, h0, h1, h2, h3, h4, h5 => by
    unfold jnB
    by_cases hc : bI (hasF n1 F1 (F2 p)) = 0
    · rw [if_pos hc]
      obtain ⟨g1, g2, g3, g4⟩ := put_spec (N := 120) h2 (by omega) h4 (F2 p)
      refine jnB_spec F1 F2 G0 h60 h61 k (p + 1) _ _ (by omega) (by omega) (by omega) (by omega) g1 (fun y => (g2 y).trans ⟨?_, ?_⟩)
      · rintro (h | rfl)
        · rcases (h5 y).mp h with h | ⟨⟨j, a, b, c⟩, d⟩
          · exact Or.inl h
          · exact Or.inr ⟨⟨j, a, by omega, c⟩, d⟩
        · exact Or.inr ⟨⟨p, h0, by omega, rfl⟩, hc⟩
      · rintro (h | ⟨⟨j, a, b, c⟩, d⟩)
        · exact Or.inl ((h5 y).mpr (Or.inl h))
        · by_cases e : j = p
          · rw [e] at c; exact Or.inr c.symm
          · exact Or.inl ((h5 y).mpr (Or.inr ⟨⟨j, a, by omega, c⟩, d⟩))
    · rw [if_neg hc]
      refine jnB_spec F1 F2 G0 h60 h61 k (p + 1) m G (by omega) (by omega) h2 (by omega) h4 (fun y => (h5 y).trans (or_congr Iff.rfl ⟨fun ⟨⟨j, a, b, c⟩, d⟩ => ⟨⟨j, a, by omega, c⟩, d⟩, fun ⟨⟨j, a, b, c⟩, d⟩ => ⟨⟨j, a, ?_, c⟩, d⟩⟩))
      by_cases e : j = p
      · rw [e] at c; rw [← c] at d; exact absurd d hc
      · omega
/-- two sets joined: sorted, and which numbers -/
theorem jnF_spec {n1 n2 : Int} {F1 F2 : Int → Int} (h1 : 0 ≤ n1 ∧ n1 ≤ 60) (h2 : 0 ≤ n2 ∧ n2 ≤ 60) (hs1 : Srt n1 F1) (hs2 : Srt n2 F2) {how : Int} (hh : 0 ≤ how ∧ how ≤ 3) : Srt (jnF n1 F1 n2 F2 how).1 (jnF n1 F1 n2 F2 how).2 ∧ 0 ≤ (jnF n1 F1 n2 F2 how).1 ∧ (jnF n1 F1 n2 F2 how).1 ≤ 120 ∧ ∀ y, Memb (jnF n1 F1 n2 F2 how).1 (jnF n1 F1 n2 F2 how).2 y ↔ blg (bI (hasF n1 F1 y)) (bI (hasF n2 F2 y)) how = 1 := by
  obtain ⟨a1, a2, a3, a4⟩ := jnA_spec (n2 := n2) F1 F2 how hs1 h1.2 n1.toNat 0 0 (fun _ => 0) (by omega) (by omega) (by omega) (by omega) (fun i j a b c => by omega) (fun y => ⟨fun ⟨j, a, b, c⟩ => by omega, fun ⟨⟨j, a, b, c⟩, d⟩ => by omega⟩)
  have m1 := hasF_iff h1.1 hs1
  have m2 := hasF_iff h2.1 hs2
  unfold jnF
  by_cases e : how = 0 ∨ how = 3
  · rw [if_pos e]
    generalize jnA F1 n2 F2 how n1.toNat 0 0 (fun _ => 0) = A at a1 a2 a3 a4 ⊢
    obtain ⟨b1, b2, b3, b4⟩ := jnB_spec (n1 := n1) (n2 := n2) (m0 := A.1) F1 F2 A.2 h2.2 (by omega) n2.toNat 0 A.1 A.2 (by omega) (by omega) a2 (by omega) a1 (fun y => ⟨Or.inl, fun h => h.elim id (fun ⟨⟨j, a, b, c⟩, d⟩ => by omega)⟩)
    refine ⟨b1, b2, by omega, fun y => (b4 y).trans ?_⟩
    rw [a4 y, ← m1 y, ← m2 y]
    unfold blg
    rcases e with rfl | rfl <;> cases hasF n1 F1 y <;> cases hasF n2 F2 y <;> simp [bI]
  · rw [if_neg e]
    refine ⟨a1, a2, by omega, fun y => (a4 y).trans ?_⟩
    rw [← m1 y]
    unfold blg
    rcases (show how = 1 ∨ how = 2 by omega) with rfl | rfl <;> cases hasF n1 F1 y <;> cases hasF n2 F2 y <;> simp [bI]
/-- how far apart -/
def dst (a x : Int) : Int := if x < a then a - x else x - a
theorem nr_step {F : Int → Int} {i x : Int} (h : 0 ≤ i) (hs : Srt (i + 1) F) : nrF (i + 1) F x = if i = 0 ∨ dst (F i) x < dst (nrF i F x) x then F i else nrF i F x := by
  obtain ⟨g1, g2, g3, g4⟩ := plc_spec h F x
  have key : ∀ q, plc i F x = q → nrF i F x = (if q = 0 then atF i F 0 else if i ≤ q then atF i F (i - 1) else if x - F (q - 1) ≤ F q - x then F (q - 1) else F q) := fun q e => by unfold nrF; rw [e]
  have key2 : ∀ q, plc (i + 1) F x = q → nrF (i + 1) F x = (if q = 0 then atF (i + 1) F 0 else if i + 1 ≤ q then atF (i + 1) F (i + 1 - 1) else if x - F (q - 1) ≤ F q - x then F (q - 1) else F q) := fun q e => by unfold nrF; rw [e]
  generalize hq : plc i F x = q at *
  by_cases e : q < i
  · have h2 : plc (i + 1) F x = q := plc_eq g1 (by omega) g3 (fun _ => g4 e)
    have h3 := g4 e
    have h4 := hs q i g1 e (by omega)
    have h6 := key q rfl
    have h7 := key2 q h2
    rw [if_neg (show ¬ i ≤ q by omega)] at h6
    rw [if_neg (show ¬ i + 1 ≤ q by omega)] at h7
    have h8 : nrF (i + 1) F x = nrF i F x := by
      rw [h6, h7]
      by_cases e0 : q = 0
      · rw [if_pos e0, if_pos e0, atF_in (by omega) (by omega), atF_in (by omega) (by omega)]
      · rw [if_neg e0, if_neg e0]
    have h9 : dst (nrF i F x) x ≤ F q - x := by
      rw [h6]
      by_cases e0 : q = 0
      · rw [if_pos e0, atF_in (by omega) (by omega), ← e0]
        unfold dst
        split <;> omega
      · have h5 := g3 (q - 1) (by omega) (by omega)
        rw [if_neg e0]
        unfold dst
        split <;> split <;> omega
    have h10 : dst (F i) x = F i - x := by unfold dst; split <;> omega
    rw [h8, if_neg (by omega)]
  · have e1 : q = i := by omega
    by_cases e0 : i = 0
    · rw [if_pos (Or.inl e0)]
      by_cases e2 : x ≤ F i
      · rw [key2 0 (plc_eq (by omega) (by omega) (fun j a b => by omega) (fun _ => by rw [e0] at e2; exact e2)), if_pos rfl, atF_in (by omega) (by omega), e0]
      · rw [key2 (i + 1) (plc_eq (by omega) (by omega) (fun j a b => by rw [show j = i by omega]; omega) (fun hh => by omega)), if_neg (by omega), if_pos (by omega), atF_in (by omega) (by omega), show i + 1 - 1 = i by omega]
    · have h5 := g3 (i - 1) (by omega) (by omega)
      have h6 := hs (i - 1) i (by omega) (by omega) (by omega)
      have h7 : nrF i F x = F (i - 1) := by rw [key q rfl, if_neg (by omega), if_pos (by omega), atF_in (by omega) (by omega)]
      have h8 : dst (F (i - 1)) x = x - F (i - 1) := by unfold dst; split <;> omega
      by_cases e2 : x ≤ F i
      · have h9 : nrF (i + 1) F x = if x - F (i - 1) ≤ F i - x then F (i - 1) else F i := by rw [key2 i (plc_eq h (by omega) (fun j a b => g3 j a (by omega)) (fun _ => e2)), if_neg e0, if_neg (by omega)]
        have h10 : dst (F i) x = F i - x := by unfold dst; split <;> omega
        rw [h7, h9]
        by_cases e3 : x - F (i - 1) ≤ F i - x
        · rw [if_pos e3, if_neg (by omega)]
        · rw [if_neg e3, if_pos (by omega)]
      · have h9 : nrF (i + 1) F x = F i := by
          rw [key2 (i + 1) (plc_eq (by omega) (by omega) (fun j a b => by
            by_cases e4 : j = i
            · rw [e4]; omega
            · exact g3 j a (by omega)) (fun hh => by omega)), if_neg (by omega), if_pos (by omega), atF_in (by omega) (by omega), show i + 1 - 1 = i by omega]
        have h10 : dst (F i) x = x - F i := by unfold dst; split <;> omega
        rw [h7, h9, if_pos (by omega)]
set_option maxHeartbeats 4000000 in
theorem mX9_takeAway {M0 M : Mem} {ad : Int → Nat} {zA hA tA pA : Int → Int} {m len th rd nu bd sc : Int} {hs : Int64} {n : Int → Int} {F : Int → Int → Int} {g : Int → Int} {k x y : Int} (hq : RQ M0 M ad zA hA tA pA m len th rd nu bd sc hs) (hi : Inj ad) (hz : Zr zA n F g) (h0 : 0 ≤ k) (h1 : k < 4) (hsr : Srt (n k) (F k)) (q0 : 0 ≤ x ∧ x ≤ y ∧ y ≤ 9999) : Ct KX9_takeAway [.ref (ad 112), vI k, vI x, vI y] M 0 0 (atI (n k - (cutP (n k) (F k) x y).1) (fun M2 => ∃ z2 : Int → Int, RQ M0 M2 ad z2 hA tA pA m len th rd nu bd sc hs ∧ Zr z2 (uI n k (cutP (n k) (F k) x y).1) (uI F k (cutP (n k) (F k) x y).2) g)) := by
  refine Ct.of _ (by decide) rfl (Nat.le_of_ble_eq_true rfl) ?_
  obtain ⟨rA, sA, bA, wA, rm, bk, hm⟩ := hq
  have hzn := hz.n h0 h1
  have haw := away_eq hzn.2.1 hsr (lo := x) (hi := y) (by omega)
  have hpl := plc_spec hzn.2.1 (F k) x
  refine r_aload_n dX9_takeAway_0 rfl ?_
  refine r_iload_n dX9_takeAway_1 rfl ?_
  refine r_iload_n dX9_takeAway_2 rfl ?_
  refine r_callV2 okX9_lessThan ⟨by decide, by decide⟩ ml_X9_53 (mX9_lessThan hm hz (by omega) (by omega) (by omega)) hm.o rfl rfl (Nat.le_of_ble_eq_true rfl) (Nat.le_of_ble_eq_true rfl) (Nat.le_of_ble_eq_true rfl) rfl dX9_takeAway_3 (nx_I) (kx_I ?_)
  refine r_istore dX9_takeAway_6 (by decide) rfl ?_
  refine r_aload_n dX9_takeAway_8 rfl ?_
  refine r_iload_n dX9_takeAway_9 rfl ?_
  refine r_iload_n dX9_takeAway_10 rfl ?_
  refine r_iconst dX9_takeAway_11 ?_
  refine r_iadd dX9_takeAway_12 ?_
  refine r_callV2 okX9_lessThan ⟨by decide, by decide⟩ ml_X9_53 (mX9_lessThan hm hz (by omega) (by omega) (by omega)) hm.o rfl rfl (Nat.le_of_ble_eq_true rfl) (Nat.le_of_ble_eq_true rfl) (Nat.le_of_ble_eq_true rfl) rfl dX9_takeAway_13 (nx_I) (kx_I ?_)
  refine r_iload dX9_takeAway_16 rfl ?_
  refine r_isub dX9_takeAway_18 ?_
  refine r_istore dX9_takeAway_19 (by decide) rfl ?_
  refine r_aload_n dX9_takeAway_21 rfl ?_
  refine r_iload_n dX9_takeAway_22 rfl ?_
  refine r_callV1 okX9_takeRow ⟨by decide, by decide⟩ ml_X9_62 (mX9_takeRow hm hi hz (by omega) (by omega)) hm.o rfl rfl (Nat.le_of_ble_eq_true rfl) (Nat.le_of_ble_eq_true rfl) (Nat.le_of_ble_eq_true rfl) rfl dX9_takeAway_23 (nx_tV) (kx_tV ?_)
  intro Mx hM
  obtain ⟨rA, hm, hrA⟩ := hM
  have hr : ∀ p, 0 ≤ p → p < n k → rA p = F k p ∧ 0 ≤ F k p ∧ F k p ≤ 9999 := fun p a b => ⟨hrA p a b, (hz.f (by omega) (by omega) a b).2⟩
  refine r_iload dX9_takeAway_26 rfl ?_
  refine r_istore dX9_takeAway_28 (by decide) rfl ?_
  refine J.loc (L' := [(0, some _), (1, some _), (2, some _), (3, some _), (4, some _), (5, some _), (6, some _)]) (lsub_cons rfl (lsub_cons rfl (lsub_cons rfl (lsub_cons rfl (lsub_cons rfl (lsub_cons rfl (lsub_cons rfl (lsub_nil)))))))) (loop3 (fun (i : Int) (M1 : Mem) (r1 : Int → Int) => plc (n k) (F k) x ≤ i ∧ i + (plc (n k) (F k) (y + 1) - plc (n k) (F k) x) ≤ n k ∧ RM M0 M1 ad zA hA tA r1 sA pA bA wA m len th (n k) bk rd nu bd sc hs ∧ (∀ p, 0 ≤ p → p < plc (n k) (F k) x → r1 p = F k p) ∧ (∀ p, plc (n k) (F k) x ≤ p → p < i → r1 p = F k (p + (plc (n k) (F k) (y + 1) - plc (n k) (F k) x))) ∧ ∀ p, i ≤ p → p < n k → r1 p = F k p) (fun (i : Int) (M1 : Mem) (r1 : Int → Int) => (n k - i).toNat) (fun (i : Int) (M1 : Mem) (r1 : Int → Int) => J KX9_takeAway 0 0 _ 30 [(0, some (.ref (ad 112))), (1, some (vI k)), (2, some (vI x)), (3, some (vI y)), (4, some (vI (plc (n k) (F k) x))), (5, some (vI (plc (n k) (F k) (y + 1) - plc (n k) (F k) x))), (6, some (vI i))] [] M1 _ _) (fun i M1 r1 hI30 ih30 => ?_) _ _ rA ?_)
  ·
    obtain ⟨hi0, hi1, hm, hr1, hr2, hr3⟩ := hI30
    refine r_iload dX9_takeAway_30 rfl ?_
    refine r_iload dX9_takeAway_32 rfl ?_
    refine r_iadd dX9_takeAway_34 ?_
    refine r_aload_n dX9_takeAway_35 rfl ?_
    refine r_getfield clX9 7 (by decide) fl_X9_56 hm.o rfl dX9_takeAway_36 ?_
    refine r_icmp_ge (tgt := 65) dX9_takeAway_39 (by decide) (by omega) (by omega) (fun h39 => ?_) (fun h39 => ?_)
    ·
      refine r_aload_n dX9_takeAway_65 rfl ?_
      refine r_dup dX9_takeAway_66 ?_
      refine r_getfield clX9 7 (by decide) fl_X9_56 hm.o rfl dX9_takeAway_67 ?_
      refine r_iload dX9_takeAway_70 rfl ?_
      refine r_isub dX9_takeAway_72 ?_
      refine r_putfield clX9 7 (by decide) fl_X9_56 rfl hm.o rfl rfl (Nat.le_of_ble_eq_true rfl) dX9_takeAway_73 ?_
      refine hm.w_rowMany hi (fun Mx hm => ?_)
      have hrw : ∀ p, 0 ≤ p → p < n k - (plc (n k) (F k) (y + 1) - plc (n k) (F k) x) → r1 p = (cutP (n k) (F k) x y).2 p ∧ 0 ≤ (cutP (n k) (F k) x y).2 p ∧ (cutP (n k) (F k) x y).2 p ≤ 9999 := fun p a b => by
        rw [← haw.2.2.2 p a b]
        by_cases e : p < plc (n k) (F k) x
        · rw [if_pos e, hr1 p a e]; exact ⟨rfl, (hz.f h0 h1 a (by omega)).2⟩
        · rw [if_neg e, hr2 p (by omega) (by omega)]; exact ⟨rfl, (hz.f h0 h1 (by omega) (by omega)).2⟩
      refine r_aload_n dX9_takeAway_76 rfl ?_
      refine r_iload_n dX9_takeAway_77 rfl ?_
      refine r_callV1 okX9_layRow ⟨by decide, by decide⟩ ml_X9_98 (mX9_layRow (R := (cutP (n k) (F k) x y).2) hm hi hz h0 h1 (by omega) hrw) hm.o rfl rfl (Nat.le_of_ble_eq_true rfl) (Nat.le_of_ble_eq_true rfl) (Nat.le_of_ble_eq_true rfl) rfl dX9_takeAway_78 (nx_tV) (kx_tV ?_)
      intro Mx hM
      obtain ⟨zA, hm, hz2⟩ := hM
      refine r_iload dX9_takeAway_81 rfl ?_
      refine e_ireturn dX9_takeAway_83 rfl (Nat.le_of_ble_eq_true rfl) (Nat.le_of_ble_eq_true rfl) ?_
      rw [← haw.2.2.1] at hz2
      exact oktI (by omega) ⟨zA, hm.q, hz2⟩
    ·
      refine r_aload_n dX9_takeAway_42 rfl ?_
      refine r_getfield clX9 6 (by decide) fl_X9_19 hm.o rfl dX9_takeAway_43 ?_
      refine r_iload dX9_takeAway_46 rfl ?_
      refine r_aload_n dX9_takeAway_48 rfl ?_
      refine r_getfield clX9 6 (by decide) fl_X9_19 hm.o rfl dX9_takeAway_49 ?_
      refine r_iload dX9_takeAway_52 rfl ?_
      refine r_iload dX9_takeAway_54 rfl ?_
      refine r_iadd dX9_takeAway_56 ?_
      refine r_iaload hm.r (by omega) (by omega) (by omega) dX9_takeAway_57 ?_
      refine r_iastore hm.r (by omega) (by omega) (by omega) dX9_takeAway_58 ?_
      refine hm.w_r hi (fun Mx hm => ?_)
      refine r_iinc dX9_takeAway_59 rfl rfl ?_
      refine r_goto (tgt := 30) dX9_takeAway_62 (by decide) ?_
      refine J.loc (lsub_cons rfl (lsub_cons rfl (lsub_cons rfl (lsub_cons rfl (lsub_cons rfl (lsub_cons rfl (lsub_cons rfl (lsub_nil)))))))) (ih30 _ _ (uI r1 i (r1 (i + (plc (n k) (F k) (y + 1) - plc (n k) (F k) x)))) ?_ ?_)
      · refine ⟨by omega, by omega, hm, fun p a b => (uI_n _ (by omega)).trans (hr1 p a b), fun p a b => ?_, fun p a b => (uI_n _ (by omega)).trans (hr3 p (by omega) b)⟩
        by_cases e : p = i
        · rw [e, uI_s]; exact hr3 _ (by omega) (by omega)
        · rw [uI_n _ e]; exact hr2 p a (by omega)
      · omega
  · exact ⟨by omega, by omega, hm, fun p a b => (hr p a (by omega)).1, fun p a b => by omega, fun p a b => (hr p (by omega) b).1⟩

set_option maxHeartbeats 4000000 in
theorem mX9_nearestTo {M0 M : Mem} {ad : Int → Nat} {zA hA tA rA sA pA bA wA : Int → Int} {m len th rm bk rd nu bd sc : Int} {hs : Int64} {n : Int → Int} {F : Int → Int → Int} {g : Int → Int} {k x : Int} (hm : RM M0 M ad zA hA tA rA sA pA bA wA m len th rm bk rd nu bd sc hs) (hz : Zr zA n F g) (h0 : 0 ≤ k) (h1 : k < 4) (hsr : Srt (n k) (F k)) (q0 : 0 ≤ x ∧ x ≤ 9999) : Ct KX9_nearestTo [.ref (ad 112), vI k, vI x] M 0 0 (rtI (nrF (n k) (F k) x) M) := by
  refine Ct.of _ (by decide) rfl (Nat.le_of_ble_eq_true rfl) ?_
  have hzn := hz.n h0 h1
  refine r_iconst dX9_nearestTo_0 ?_
  refine r_istore_n dX9_nearestTo_1 (by decide) rfl ?_
  refine r_iconst dX9_nearestTo_2 ?_
  refine r_istore dX9_nearestTo_3 (by decide) rfl ?_
  refine r_iconst dX9_nearestTo_5 ?_
  refine r_istore dX9_nearestTo_6 (by decide) rfl ?_
  refine J.loc (L' := [(0, some _), (1, some _), (2, some _), (3, some _), (4, some _), (5, some _)]) (lsub_cons rfl (lsub_cons rfl (lsub_cons rfl (lsub_cons rfl (lsub_cons rfl (lsub_cons rfl (lsub_nil))))))) (loop3 (fun (i : Int) (y : Int) (l : Int) => 0 ≤ i ∧ i ≤ n k ∧ y = nrF i (F k) x ∧ (i = 0 → y = -1 ∧ l = 0) ∧ (0 < i → l = dst y x ∧ 0 ≤ y ∧ y ≤ 9999)) (fun (i : Int) (y : Int) (l : Int) => (n k - i).toNat) (fun (i : Int) (y : Int) (l : Int) => J KX9_nearestTo 0 0 _ 8 [(0, some (.ref (ad 112))), (1, some (vI k)), (2, some (vI x)), (3, some (vI y)), (4, some (vI l)), (5, some (vI i))] [] M _ _) (fun i y l hI8 ih8 => ?_) _ _ _ ?_)
  ·
    obtain ⟨hi0, hi1, hy, hl0, hl1⟩ := hI8
    have hlr : 0 ≤ l ∧ l ≤ 20000 := by
      by_cases e : i = 0
      · have := hl0 e; omega
      · have h9 := hl1 (by omega); unfold dst at h9; revert h9; split <;> omega
    refine r_iload dX9_nearestTo_8 rfl ?_
    refine r_aload_n dX9_nearestTo_10 rfl ?_
    refine r_iload_n dX9_nearestTo_11 rfl ?_
    refine r_callV1 okX9_many ⟨by decide, by decide⟩ ml_X9_45 (mX9_many hm hz (by omega) (by omega)) hm.o rfl rfl (Nat.le_of_ble_eq_true rfl) (Nat.le_of_ble_eq_true rfl) (Nat.le_of_ble_eq_true rfl) rfl dX9_nearestTo_12 (nx_I) (kx_I ?_)
    refine r_icmp_ge (tgt := 108) dX9_nearestTo_15 (by decide) (by omega) (by omega) (fun h15 => ?_) (fun h15 => ?_)
    ·
      refine r_iload_n dX9_nearestTo_108 rfl ?_
      refine e_ireturn dX9_nearestTo_109 rfl (Nat.le_of_ble_eq_true rfl) (Nat.le_of_ble_eq_true rfl) ?_
      exact okI (by rw [hy, show i = n k by omega])
    ·
      have hfi := (hz.f h0 h1 (p := i) hi0 (by omega)).2
      have hst := nr_step (F := F k) (x := x) hi0 (fun a b c d e => hsr a b c d (by omega))
      refine r_aload_n dX9_nearestTo_18 rfl ?_
      refine r_iload_n dX9_nearestTo_19 rfl ?_
      refine r_iload dX9_nearestTo_20 rfl ?_
      refine r_callV2 okX9_at ⟨by decide, by decide⟩ ml_X9_49 (mX9_at hm hz (by omega) (by omega) (by omega) (by omega)) hm.o rfl rfl (Nat.le_of_ble_eq_true rfl) (Nat.le_of_ble_eq_true rfl) (Nat.le_of_ble_eq_true rfl) rfl dX9_nearestTo_22 (nx_I) (kx_I ?_)
      refine r_iload_n dX9_nearestTo_25 rfl ?_
      refine r_icmp_le (tgt := 41) dX9_nearestTo_26 (by decide) (by omega) (by omega) (fun h26 => ?_) (fun h26 => ?_)
      ·
        refine r_iload_n dX9_nearestTo_41 rfl ?_
        refine r_aload_n dX9_nearestTo_42 rfl ?_
        refine r_iload_n dX9_nearestTo_43 rfl ?_
        refine r_iload dX9_nearestTo_44 rfl ?_
        refine r_callV2 okX9_at ⟨by decide, by decide⟩ ml_X9_49 (mX9_at hm hz (by omega) (by omega) (by omega) (by omega)) hm.o rfl rfl (Nat.le_of_ble_eq_true rfl) (Nat.le_of_ble_eq_true rfl) (Nat.le_of_ble_eq_true rfl) rfl dX9_nearestTo_46 (nx_I) (kx_I ?_)
        refine r_isub dX9_nearestTo_49 ?_
        refine r_istore dX9_nearestTo_50 (by decide) rfl ?_
        refine r_iload_n dX9_nearestTo_52 rfl ?_
        refine r_iconst dX9_nearestTo_53 ?_
        refine r_icmp_eq (tgt := 64) dX9_nearestTo_54 (by decide) (by omega) (by omega) (fun h54 => ?_) (fun h54 => ?_)
        ·
          refine r_iconst dX9_nearestTo_64 ?_
          refine r_goto (tgt := 69) dX9_nearestTo_65 (by decide) ?_
          refine r_istore dX9_nearestTo_69 (by decide) rfl ?_
          refine r_iload dX9_nearestTo_71 rfl ?_
          refine r_if_eq (tgt := 86) dX9_nearestTo_73 (by decide) (by omega) (fun h73 => ?_) (fun h73 => ?_)
          · omega
          ·
            refine r_aload_n dX9_nearestTo_76 rfl ?_
            refine r_iload_n dX9_nearestTo_77 rfl ?_
            refine r_iload dX9_nearestTo_78 rfl ?_
            refine r_callV2 okX9_at ⟨by decide, by decide⟩ ml_X9_49 (mX9_at hm hz (by omega) (by omega) (by omega) (by omega)) hm.o rfl rfl (Nat.le_of_ble_eq_true rfl) (Nat.le_of_ble_eq_true rfl) (Nat.le_of_ble_eq_true rfl) rfl dX9_nearestTo_80 (nx_I) (kx_I ?_)
            refine r_goto (tgt := 87) dX9_nearestTo_83 (by decide) ?_
            refine r_istore_n dX9_nearestTo_87 (by decide) rfl ?_
            refine r_iload dX9_nearestTo_88 rfl ?_
            refine r_if_eq (tgt := 98) dX9_nearestTo_90 (by decide) (by omega) (fun h90 => ?_) (fun h90 => ?_)
            · omega
            ·
              refine r_iload dX9_nearestTo_93 rfl ?_
              refine r_goto (tgt := 100) dX9_nearestTo_95 (by decide) ?_
              refine r_istore dX9_nearestTo_100 (by decide) rfl ?_
              refine r_iinc dX9_nearestTo_102 rfl rfl ?_
              refine r_goto (tgt := 8) dX9_nearestTo_105 (by decide) ?_
              refine J.loc (lsub_cons rfl (lsub_cons rfl (lsub_cons rfl (lsub_cons rfl (lsub_cons rfl (lsub_cons rfl (lsub_nil))))))) (ih8 _ _ _ ?_ ?_)
              · have hdi : dst (F k i) x = (if x < F k i then F k i - x else x - F k i) := rfl
                first | rw [if_pos (by omega)] at hdi | rw [if_neg (by omega)] at hdi
                rw [← hy] at hst
                have hcs : i = 0 ∨ 0 < i := by omega
                refine ⟨by omega, by omega, ?_, fun h => by omega, fun _ => ?_⟩
                · rw [hst]
                  rcases hcs with hc | hc
                  · have h9 := hl0 hc
                    first | (exfalso; omega) | rw [if_pos (by omega)]
                  · have h9 := hl1 hc
                    first | rw [if_pos (by omega)] | rw [if_neg (by omega)]
                · rcases hcs with hc | hc
                  · have h9 := hl0 hc
                    first | exact ⟨by omega, by omega, by omega⟩ | (exfalso; omega)
                  · have h9 := hl1 hc
                    first | exact ⟨by omega, by omega, by omega⟩
              · omega
        ·
          refine r_iload dX9_nearestTo_57 rfl ?_
          refine r_iload dX9_nearestTo_59 rfl ?_
          refine r_icmp_ge (tgt := 68) dX9_nearestTo_61 (by decide) (by omega) (by omega) (fun h61 => ?_) (fun h61 => ?_)
          ·
            refine r_iconst dX9_nearestTo_68 ?_
            refine r_istore dX9_nearestTo_69 (by decide) rfl ?_
            refine r_iload dX9_nearestTo_71 rfl ?_
            refine r_if_eq (tgt := 86) dX9_nearestTo_73 (by decide) (by omega) (fun h73 => ?_) (fun h73 => ?_)
            ·
              refine r_iload_n dX9_nearestTo_86 rfl ?_
              refine r_istore_n dX9_nearestTo_87 (by decide) rfl ?_
              refine r_iload dX9_nearestTo_88 rfl ?_
              refine r_if_eq (tgt := 98) dX9_nearestTo_90 (by decide) (by omega) (fun h90 => ?_) (fun h90 => ?_)
              ·
                refine r_iload dX9_nearestTo_98 rfl ?_
                refine r_istore dX9_nearestTo_100 (by decide) rfl ?_
                refine r_iinc dX9_nearestTo_102 rfl rfl ?_
                refine r_goto (tgt := 8) dX9_nearestTo_105 (by decide) ?_
                refine J.loc (lsub_cons rfl (lsub_cons rfl (lsub_cons rfl (lsub_cons rfl (lsub_cons rfl (lsub_cons rfl (lsub_nil))))))) (ih8 _ _ _ ?_ ?_)
                · have hdi : dst (F k i) x = (if x < F k i then F k i - x else x - F k i) := rfl
                  first | rw [if_pos (by omega)] at hdi | rw [if_neg (by omega)] at hdi
                  rw [← hy] at hst
                  have hcs : i = 0 ∨ 0 < i := by omega
                  refine ⟨by omega, by omega, ?_, fun h => by omega, fun _ => ?_⟩
                  · rw [hst]
                    rcases hcs with hc | hc
                    · have h9 := hl0 hc
                      first | (exfalso; omega) | rw [if_pos (by omega)]
                    · have h9 := hl1 hc
                      first | rw [if_pos (by omega)] | rw [if_neg (by omega)]
                  · rcases hcs with hc | hc
                    · have h9 := hl0 hc
                      first | exact ⟨by omega, by omega, by omega⟩ | (exfalso; omega)
                    · have h9 := hl1 hc
                      first | exact ⟨by omega, by omega, by omega⟩
                · omega
              · omega
            · omega
          ·
            refine r_iconst dX9_nearestTo_64 ?_
            refine r_goto (tgt := 69) dX9_nearestTo_65 (by decide) ?_
            refine r_istore dX9_nearestTo_69 (by decide) rfl ?_
            refine r_iload dX9_nearestTo_71 rfl ?_
            refine r_if_eq (tgt := 86) dX9_nearestTo_73 (by decide) (by omega) (fun h73 => ?_) (fun h73 => ?_)
            · omega
            ·
              refine r_aload_n dX9_nearestTo_76 rfl ?_
              refine r_iload_n dX9_nearestTo_77 rfl ?_
              refine r_iload dX9_nearestTo_78 rfl ?_
              refine r_callV2 okX9_at ⟨by decide, by decide⟩ ml_X9_49 (mX9_at hm hz (by omega) (by omega) (by omega) (by omega)) hm.o rfl rfl (Nat.le_of_ble_eq_true rfl) (Nat.le_of_ble_eq_true rfl) (Nat.le_of_ble_eq_true rfl) rfl dX9_nearestTo_80 (nx_I) (kx_I ?_)
              refine r_goto (tgt := 87) dX9_nearestTo_83 (by decide) ?_
              refine r_istore_n dX9_nearestTo_87 (by decide) rfl ?_
              refine r_iload dX9_nearestTo_88 rfl ?_
              refine r_if_eq (tgt := 98) dX9_nearestTo_90 (by decide) (by omega) (fun h90 => ?_) (fun h90 => ?_)
              · omega
              ·
                refine r_iload dX9_nearestTo_93 rfl ?_
                refine r_goto (tgt := 100) dX9_nearestTo_95 (by decide) ?_
                refine r_istore dX9_nearestTo_100 (by decide) rfl ?_
                refine r_iinc dX9_nearestTo_102 rfl rfl ?_
                refine r_goto (tgt := 8) dX9_nearestTo_105 (by decide) ?_
                refine J.loc (lsub_cons rfl (lsub_cons rfl (lsub_cons rfl (lsub_cons rfl (lsub_cons rfl (lsub_cons rfl (lsub_nil))))))) (ih8 _ _ _ ?_ ?_)
                · have hdi : dst (F k i) x = (if x < F k i then F k i - x else x - F k i) := rfl
                  first | rw [if_pos (by omega)] at hdi | rw [if_neg (by omega)] at hdi
                  rw [← hy] at hst
                  have hcs : i = 0 ∨ 0 < i := by omega
                  refine ⟨by omega, by omega, ?_, fun h => by omega, fun _ => ?_⟩
                  · rw [hst]
                    rcases hcs with hc | hc
                    · have h9 := hl0 hc
                      first | (exfalso; omega) | rw [if_pos (by omega)]
                    · have h9 := hl1 hc
                      first | rw [if_pos (by omega)] | rw [if_neg (by omega)]
                  · rcases hcs with hc | hc
                    · have h9 := hl0 hc
                      first | exact ⟨by omega, by omega, by omega⟩ | (exfalso; omega)
                    · have h9 := hl1 hc
                      first | exact ⟨by omega, by omega, by omega⟩
                · omega
      ·
        refine r_aload_n dX9_nearestTo_29 rfl ?_
        refine r_iload_n dX9_nearestTo_30 rfl ?_
        refine r_iload dX9_nearestTo_31 rfl ?_
        refine r_callV2 okX9_at ⟨by decide, by decide⟩ ml_X9_49 (mX9_at hm hz (by omega) (by omega) (by omega) (by omega)) hm.o rfl rfl (Nat.le_of_ble_eq_true rfl) (Nat.le_of_ble_eq_true rfl) (Nat.le_of_ble_eq_true rfl) rfl dX9_nearestTo_33 (nx_I) (kx_I ?_)
        refine r_iload_n dX9_nearestTo_36 rfl ?_
        refine r_isub dX9_nearestTo_37 ?_
        refine r_goto (tgt := 50) dX9_nearestTo_38 (by decide) ?_
        refine r_istore dX9_nearestTo_50 (by decide) rfl ?_
        refine r_iload_n dX9_nearestTo_52 rfl ?_
        refine r_iconst dX9_nearestTo_53 ?_
        refine r_icmp_eq (tgt := 64) dX9_nearestTo_54 (by decide) (by omega) (by omega) (fun h54 => ?_) (fun h54 => ?_)
        ·
          refine r_iconst dX9_nearestTo_64 ?_
          refine r_goto (tgt := 69) dX9_nearestTo_65 (by decide) ?_
          refine r_istore dX9_nearestTo_69 (by decide) rfl ?_
          refine r_iload dX9_nearestTo_71 rfl ?_
          refine r_if_eq (tgt := 86) dX9_nearestTo_73 (by decide) (by omega) (fun h73 => ?_) (fun h73 => ?_)
          · omega
          ·
            refine r_aload_n dX9_nearestTo_76 rfl ?_
            refine r_iload_n dX9_nearestTo_77 rfl ?_
            refine r_iload dX9_nearestTo_78 rfl ?_
            refine r_callV2 okX9_at ⟨by decide, by decide⟩ ml_X9_49 (mX9_at hm hz (by omega) (by omega) (by omega) (by omega)) hm.o rfl rfl (Nat.le_of_ble_eq_true rfl) (Nat.le_of_ble_eq_true rfl) (Nat.le_of_ble_eq_true rfl) rfl dX9_nearestTo_80 (nx_I) (kx_I ?_)
            refine r_goto (tgt := 87) dX9_nearestTo_83 (by decide) ?_
            refine r_istore_n dX9_nearestTo_87 (by decide) rfl ?_
            refine r_iload dX9_nearestTo_88 rfl ?_
            refine r_if_eq (tgt := 98) dX9_nearestTo_90 (by decide) (by omega) (fun h90 => ?_) (fun h90 => ?_)
            · omega
            ·
              refine r_iload dX9_nearestTo_93 rfl ?_
              refine r_goto (tgt := 100) dX9_nearestTo_95 (by decide) ?_
              refine r_istore dX9_nearestTo_100 (by decide) rfl ?_
              refine r_iinc dX9_nearestTo_102 rfl rfl ?_
              refine r_goto (tgt := 8) dX9_nearestTo_105 (by decide) ?_
              refine J.loc (lsub_cons rfl (lsub_cons rfl (lsub_cons rfl (lsub_cons rfl (lsub_cons rfl (lsub_cons rfl (lsub_nil))))))) (ih8 _ _ _ ?_ ?_)
              · have hdi : dst (F k i) x = (if x < F k i then F k i - x else x - F k i) := rfl
                first | rw [if_pos (by omega)] at hdi | rw [if_neg (by omega)] at hdi
                rw [← hy] at hst
                have hcs : i = 0 ∨ 0 < i := by omega
                refine ⟨by omega, by omega, ?_, fun h => by omega, fun _ => ?_⟩
                · rw [hst]
                  rcases hcs with hc | hc
                  · have h9 := hl0 hc
                    first | (exfalso; omega) | rw [if_pos (by omega)]
                  · have h9 := hl1 hc
                    first | rw [if_pos (by omega)] | rw [if_neg (by omega)]
                · rcases hcs with hc | hc
                  · have h9 := hl0 hc
                    first | exact ⟨by omega, by omega, by omega⟩ | (exfalso; omega)
                  · have h9 := hl1 hc
                    first | exact ⟨by omega, by omega, by omega⟩
              · omega
        ·
          refine r_iload dX9_nearestTo_57 rfl ?_
          refine r_iload dX9_nearestTo_59 rfl ?_
          refine r_icmp_ge (tgt := 68) dX9_nearestTo_61 (by decide) (by omega) (by omega) (fun h61 => ?_) (fun h61 => ?_)
          ·
            refine r_iconst dX9_nearestTo_68 ?_
            refine r_istore dX9_nearestTo_69 (by decide) rfl ?_
            refine r_iload dX9_nearestTo_71 rfl ?_
            refine r_if_eq (tgt := 86) dX9_nearestTo_73 (by decide) (by omega) (fun h73 => ?_) (fun h73 => ?_)
            ·
              refine r_iload_n dX9_nearestTo_86 rfl ?_
              refine r_istore_n dX9_nearestTo_87 (by decide) rfl ?_
              refine r_iload dX9_nearestTo_88 rfl ?_
              refine r_if_eq (tgt := 98) dX9_nearestTo_90 (by decide) (by omega) (fun h90 => ?_) (fun h90 => ?_)
              ·
                refine r_iload dX9_nearestTo_98 rfl ?_
                refine r_istore dX9_nearestTo_100 (by decide) rfl ?_
                refine r_iinc dX9_nearestTo_102 rfl rfl ?_
                refine r_goto (tgt := 8) dX9_nearestTo_105 (by decide) ?_
                refine J.loc (lsub_cons rfl (lsub_cons rfl (lsub_cons rfl (lsub_cons rfl (lsub_cons rfl (lsub_cons rfl (lsub_nil))))))) (ih8 _ _ _ ?_ ?_)
                · have hdi : dst (F k i) x = (if x < F k i then F k i - x else x - F k i) := rfl
                  first | rw [if_pos (by omega)] at hdi | rw [if_neg (by omega)] at hdi
                  rw [← hy] at hst
                  have hcs : i = 0 ∨ 0 < i := by omega
                  refine ⟨by omega, by omega, ?_, fun h => by omega, fun _ => ?_⟩
                  · rw [hst]
                    rcases hcs with hc | hc
                    · have h9 := hl0 hc
                      first | (exfalso; omega) | rw [if_pos (by omega)]
                    · have h9 := hl1 hc
                      first | rw [if_pos (by omega)] | rw [if_neg (by omega)]
                  · rcases hcs with hc | hc
                    · have h9 := hl0 hc
                      first | exact ⟨by omega, by omega, by omega⟩ | (exfalso; omega)
                    · have h9 := hl1 hc
                      first | exact ⟨by omega, by omega, by omega⟩
                · omega
              · omega
            · omega
          ·
            refine r_iconst dX9_nearestTo_64 ?_
            refine r_goto (tgt := 69) dX9_nearestTo_65 (by decide) ?_
            refine r_istore dX9_nearestTo_69 (by decide) rfl ?_
            refine r_iload dX9_nearestTo_71 rfl ?_
            refine r_if_eq (tgt := 86) dX9_nearestTo_73 (by decide) (by omega) (fun h73 => ?_) (fun h73 => ?_)
            · omega
            ·
              refine r_aload_n dX9_nearestTo_76 rfl ?_
              refine r_iload_n dX9_nearestTo_77 rfl ?_
              refine r_iload dX9_nearestTo_78 rfl ?_
              refine r_callV2 okX9_at ⟨by decide, by decide⟩ ml_X9_49 (mX9_at hm hz (by omega) (by omega) (by omega) (by omega)) hm.o rfl rfl (Nat.le_of_ble_eq_true rfl) (Nat.le_of_ble_eq_true rfl) (Nat.le_of_ble_eq_true rfl) rfl dX9_nearestTo_80 (nx_I) (kx_I ?_)
              refine r_goto (tgt := 87) dX9_nearestTo_83 (by decide) ?_
              refine r_istore_n dX9_nearestTo_87 (by decide) rfl ?_
              refine r_iload dX9_nearestTo_88 rfl ?_
              refine r_if_eq (tgt := 98) dX9_nearestTo_90 (by decide) (by omega) (fun h90 => ?_) (fun h90 => ?_)
              · omega
              ·
                refine r_iload dX9_nearestTo_93 rfl ?_
                refine r_goto (tgt := 100) dX9_nearestTo_95 (by decide) ?_
                refine r_istore dX9_nearestTo_100 (by decide) rfl ?_
                refine r_iinc dX9_nearestTo_102 rfl rfl ?_
                refine r_goto (tgt := 8) dX9_nearestTo_105 (by decide) ?_
                refine J.loc (lsub_cons rfl (lsub_cons rfl (lsub_cons rfl (lsub_cons rfl (lsub_cons rfl (lsub_cons rfl (lsub_nil))))))) (ih8 _ _ _ ?_ ?_)
                · have hdi : dst (F k i) x = (if x < F k i then F k i - x else x - F k i) := rfl
                  first | rw [if_pos (by omega)] at hdi | rw [if_neg (by omega)] at hdi
                  rw [← hy] at hst
                  have hcs : i = 0 ∨ 0 < i := by omega
                  refine ⟨by omega, by omega, ?_, fun h => by omega, fun _ => ?_⟩
                  · rw [hst]
                    rcases hcs with hc | hc
                    · have h9 := hl0 hc
                      first | (exfalso; omega) | rw [if_pos (by omega)]
                    · have h9 := hl1 hc
                      first | rw [if_pos (by omega)] | rw [if_neg (by omega)]
                  · rcases hcs with hc | hc
                    · have h9 := hl0 hc
                      first | exact ⟨by omega, by omega, by omega⟩ | (exfalso; omega)
                    · have h9 := hl1 hc
                      first | exact ⟨by omega, by omega, by omega⟩
                · omega
  · exact ⟨by omega, by omega, by unfold nrF plc; simp [ff, atF], fun _ => ⟨rfl, rfl⟩, fun h => by omega⟩

set_option maxHeartbeats 4000000 in
theorem mX9_blockNow {M0 M : Mem} {ad : Int → Nat} {zA hA tA pA : Int → Int} {m len th rd nu bd sc : Int} {hs : Int64} {n : Int → Int} {F : Int → Int → Int} {g : Int → Int} {k b w : Int} (hq : RQ M0 M ad zA hA tA pA m len th rd nu bd sc hs) (hi : Inj ad) (hz : Zr zA n F g) (h0 : 0 ≤ k) (h1 : k < 4) (hg : (2 ≤ g 0 ∧ g 0 ≤ 16) ∧ 1 ≤ g 1 ∧ g 1 ≤ 9999) (q0 : 0 ≤ b ∧ b ≤ 2147483647) (q1 : R32 w) : Ct KX9_blockNow [.ref (ad 112), vI k, vI b, vI w] M 0 0 (atI (blkV (n k) (F k) g b w) (fun M2 => RQ M0 M2 ad zA hA tA pA m len th rd nu bd sc hs)) := by
  refine Ct.of _ (by decide) rfl (Nat.le_of_ble_eq_true rfl) ?_
  obtain ⟨rA, sA, bA, wA, rm, bk, hm⟩ := hq
  have hzn := hz.n h0 h1
  have hsp := blk_spec hzn.2.1 (F k) (g 0) (g 1)
  refine r_aload_n dX9_blockNow_0 rfl ?_
  refine r_iload_n dX9_blockNow_1 rfl ?_
  refine r_callV1 okX9_blocksOf ⟨by decide, by decide⟩ ml_X9_168 (mX9_blocksOf hm hi hz (by omega) (by omega) hg) hm.o rfl rfl (Nat.le_of_ble_eq_true rfl) (Nat.le_of_ble_eq_true rfl) (Nat.le_of_ble_eq_true rfl) rfl dX9_blockNow_2 (nx_tV) (kx_tV ?_)
  intro Mx hM
  obtain ⟨rA, sA, hm, hrA, hsA⟩ := hM
  have hr : ∀ p, 0 ≤ p → p < n k → rA p = F k p ∧ 0 ≤ F k p ∧ F k p ≤ 9999 := fun p a b => ⟨hrA p a b, (hz.f (by omega) (by omega) a b).2⟩
  refine r_iload_n dX9_blockNow_5 rfl ?_
  refine r_aload_n dX9_blockNow_6 rfl ?_
  refine r_getfield clX9 9 (by decide) fl_X9_59 hm.o rfl dX9_blockNow_7 ?_
  refine r_icmp_lt (tgt := 15) dX9_blockNow_10 (by decide) (by omega) (by omega) (fun h10 => ?_) (fun h10 => ?_)
  ·
    have hs0 := hsp.2.2.2.2.2.1 b (by omega) (by omega)
    have hs1 : 0 ≤ stF (n k) (F k) (g 0) (g 1) (b + 1) ∧ stF (n k) (F k) (g 0) (g 1) (b + 1) ≤ n k := by
      by_cases e : b + 1 = nbF (n k) (F k) (g 0) (g 1)
      · rw [e, hsp.2.2.2.2.1]; omega
      · have := hsp.2.2.2.2.2.1 (b + 1) (by omega) (by omega); omega
    have hs2 := hsp.2.2.2.2.2.2 b (b + 1) (by omega) (by omega) (by omega)
    have hsa0 := hsA b (by omega) (by omega)
    have hsa1 := hsA (b + 1) (by omega) (by omega)
    refine r_iload_n dX9_blockNow_15 rfl ?_
    by_cases hw16 : w < 0 ∨ 4 < w
    · refine r_tableOut (tgt := 108) dX9_blockNow_16 (by omega) hw16 (by decide) ?_
      refine r_aload_n dX9_blockNow_108 rfl ?_
      refine r_getfield clX9 8 (by decide) fl_X9_22 hm.o rfl dX9_blockNow_109 ?_
      refine r_iload_n dX9_blockNow_112 rfl ?_
      refine r_iaload hm.s (by omega) (by omega) (by omega) dX9_blockNow_113 ?_
      rw [hsa0]
      refine e_ireturn dX9_blockNow_114 rfl (Nat.le_of_ble_eq_true rfl) (Nat.le_of_ble_eq_true rfl) ?_
      exact oktI (by unfold blkV; rw [if_neg (by omega), if_neg (by omega), if_neg (by omega), if_neg (by omega), if_neg (by omega), if_neg (by omega)]) hm.q
    · rcases (show w = 0 ∨ w = 1 ∨ w = 2 ∨ w = 3 ∨ w = 4 by omega) with e16 | e16 | e16 | e16 | e16
      · refine r_tableIn (off := 36) (tgt := 52) dX9_blockNow_16 (by omega) (by omega) (by omega) (by rw [e16]; rfl) (by decide) ?_
        refine r_aload_n dX9_blockNow_52 rfl ?_
        refine r_getfield clX9 6 (by decide) fl_X9_19 hm.o rfl dX9_blockNow_53 ?_
        refine r_aload_n dX9_blockNow_56 rfl ?_
        refine r_getfield clX9 8 (by decide) fl_X9_22 hm.o rfl dX9_blockNow_57 ?_
        refine r_iload_n dX9_blockNow_60 rfl ?_
        refine r_iaload hm.s (by omega) (by omega) (by omega) dX9_blockNow_61 ?_
        rw [hsa0]
        refine r_iaload hm.r (by omega) (by omega) (by omega) dX9_blockNow_62 ?_
        refine e_ireturn dX9_blockNow_63 rfl (Nat.le_of_ble_eq_true rfl) (Nat.le_of_ble_eq_true rfl) ?_
        exact oktI (by unfold blkV; rw [if_neg (by omega), if_pos (by omega)]; rw [atF_in (by omega) (by omega)]; exact (hr _ (by omega) (by omega)).1) hm.q
      · refine r_tableIn (off := 48) (tgt := 64) dX9_blockNow_16 (by omega) (by omega) (by omega) (by rw [e16]; rfl) (by decide) ?_
        refine r_aload_n dX9_blockNow_64 rfl ?_
        refine r_getfield clX9 8 (by decide) fl_X9_22 hm.o rfl dX9_blockNow_65 ?_
        refine r_iload_n dX9_blockNow_68 rfl ?_
        refine r_iconst dX9_blockNow_69 ?_
        refine r_iadd dX9_blockNow_70 ?_
        refine r_iaload hm.s (by omega) (by omega) (by omega) dX9_blockNow_71 ?_
        rw [hsa1]
        refine r_aload_n dX9_blockNow_72 rfl ?_
        refine r_getfield clX9 8 (by decide) fl_X9_22 hm.o rfl dX9_blockNow_73 ?_
        refine r_iload_n dX9_blockNow_76 rfl ?_
        refine r_iaload hm.s (by omega) (by omega) (by omega) dX9_blockNow_77 ?_
        rw [hsa0]
        refine r_isub dX9_blockNow_78 ?_
        refine e_ireturn dX9_blockNow_79 rfl (Nat.le_of_ble_eq_true rfl) (Nat.le_of_ble_eq_true rfl) ?_
        exact oktI (by unfold blkV; rw [if_neg (by omega), if_neg (by omega), if_pos (by omega)]) hm.q
      · refine r_tableIn (off := 64) (tgt := 80) dX9_blockNow_16 (by omega) (by omega) (by omega) (by rw [e16]; rfl) (by decide) ?_
        refine r_aload_n dX9_blockNow_80 rfl ?_
        refine r_getfield clX9 6 (by decide) fl_X9_19 hm.o rfl dX9_blockNow_81 ?_
        refine r_aload_n dX9_blockNow_84 rfl ?_
        refine r_getfield clX9 8 (by decide) fl_X9_22 hm.o rfl dX9_blockNow_85 ?_
        refine r_iload_n dX9_blockNow_88 rfl ?_
        refine r_iconst dX9_blockNow_89 ?_
        refine r_iadd dX9_blockNow_90 ?_
        refine r_iaload hm.s (by omega) (by omega) (by omega) dX9_blockNow_91 ?_
        rw [hsa1]
        refine r_iconst dX9_blockNow_92 ?_
        refine r_isub dX9_blockNow_93 ?_
        refine r_iaload hm.r (by omega) (by omega) (by omega) dX9_blockNow_94 ?_
        refine e_ireturn dX9_blockNow_95 rfl (Nat.le_of_ble_eq_true rfl) (Nat.le_of_ble_eq_true rfl) ?_
        exact oktI (by unfold blkV; rw [if_neg (by omega), if_neg (by omega), if_neg (by omega), if_pos (by omega)]; rw [atF_in (by omega) (by omega)]; exact (hr _ (by omega) (by omega)).1) hm.q
      · refine r_tableIn (off := 80) (tgt := 96) dX9_blockNow_16 (by omega) (by omega) (by omega) (by rw [e16]; rfl) (by decide) ?_
        refine r_aload_n dX9_blockNow_96 rfl ?_
        refine r_iload_n dX9_blockNow_97 rfl ?_
        refine r_callV1 okX9_bytesOf ⟨by decide, by decide⟩ ml_X9_70 (mX9_bytesOf (R := F k) (a := g 0) (b := g 1) hm (by omega) hr rfl hsA (by omega)) hm.o rfl rfl (Nat.le_of_ble_eq_true rfl) (Nat.le_of_ble_eq_true rfl) (Nat.le_of_ble_eq_true rfl) rfl dX9_blockNow_98 (nx_I) (kx_I ?_)
        refine e_ireturn dX9_blockNow_101 rfl (Nat.le_of_ble_eq_true rfl) (Nat.le_of_ble_eq_true rfl) ?_
        exact oktI (by unfold blkV; rw [if_neg (by omega), if_neg (by omega), if_neg (by omega), if_neg (by omega), if_pos (by omega)]) hm.q
      · refine r_tableIn (off := 86) (tgt := 102) dX9_blockNow_16 (by omega) (by omega) (by omega) (by rw [e16]; rfl) (by decide) ?_
        refine r_aload_n dX9_blockNow_102 rfl ?_
        refine r_iload_n dX9_blockNow_103 rfl ?_
        refine r_callV1 okX9_greatestGap ⟨by decide, by decide⟩ ml_X9_171 (mX9_greatestGap (R := F k) (a := g 0) (b := g 1) hm (by omega) hr rfl hsA (by omega)) hm.o rfl rfl (Nat.le_of_ble_eq_true rfl) (Nat.le_of_ble_eq_true rfl) (Nat.le_of_ble_eq_true rfl) rfl dX9_blockNow_104 (nx_I) (kx_I ?_)
        refine e_ireturn dX9_blockNow_107 rfl (Nat.le_of_ble_eq_true rfl) (Nat.le_of_ble_eq_true rfl) ?_
        exact oktI (by unfold blkV; rw [if_neg (by omega), if_neg (by omega), if_neg (by omega), if_neg (by omega), if_neg (by omega), if_pos (by omega)]) hm.q
  ·
    refine r_iconst dX9_blockNow_13 ?_
    refine e_ireturn dX9_blockNow_14 rfl (Nat.le_of_ble_eq_true rfl) (Nat.le_of_ble_eq_true rfl) ?_
    exact oktI (by unfold blkV; rw [if_pos (by omega)]) hm.q

set_option maxHeartbeats 4000000 in
theorem mX9_longestRun {M0 M : Mem} {ad : Int → Nat} {zA hA tA rA sA pA bA wA : Int → Int} {m len th rm bk rd nu bd sc : Int} {hs : Int64} {n : Int → Int} {F : Int → Int → Int} {g : Int → Int} {k : Int} (hm : RM M0 M ad zA hA tA rA sA pA bA wA m len th rm bk rd nu bd sc hs) (hz : Zr zA n F g) (h0 : 0 ≤ k) (h1 : k < 4) : Ct KX9_longestRun [.ref (ad 112), vI k] M 0 0 (rtI (lrF (n k) (F k) (n k).toNat 0 0 0) M) := by
  refine Ct.of _ (by decide) rfl (Nat.le_of_ble_eq_true rfl) ?_
  have hzn := hz.n h0 h1
  refine r_iconst dX9_longestRun_0 ?_
  refine r_istore_n dX9_longestRun_1 (by decide) rfl ?_
  refine r_iconst dX9_longestRun_2 ?_
  refine r_istore_n dX9_longestRun_3 (by decide) rfl ?_
  refine r_iconst dX9_longestRun_4 ?_
  refine r_istore dX9_longestRun_5 (by decide) rfl ?_
  refine J.loc (L' := [(0, some _), (1, some _), (2, some _), (3, some _), (4, some _)]) (lsub_cons rfl (lsub_cons rfl (lsub_cons rfl (lsub_cons rfl (lsub_cons rfl (lsub_nil)))))) (loop3 (fun (i : Int) (r : Int) (y : Int) => 0 ≤ i ∧ i ≤ n k ∧ 0 ≤ r ∧ r ≤ i ∧ 0 ≤ y ∧ y ≤ i ∧ lrF (n k) (F k) (n k).toNat 0 0 0 = lrF (n k) (F k) (n k - i).toNat i r y) (fun (i : Int) (r : Int) (y : Int) => (n k - i).toNat) (fun (i : Int) (r : Int) (y : Int) => J KX9_longestRun 0 0 _ 7 [(0, some (.ref (ad 112))), (1, some (vI k)), (2, some (vI y)), (3, some (vI r)), (4, some (vI i))] [] M _ _) (fun i r y hI7 ih7 => ?_) _ _ _ ?_)
  ·
    obtain ⟨hi0, hi1, hr0, hr1, hy0, hy1, hy⟩ := hI7
    refine r_iload dX9_longestRun_7 rfl ?_
    refine r_aload_n dX9_longestRun_9 rfl ?_
    refine r_iload_n dX9_longestRun_10 rfl ?_
    refine r_callV1 okX9_many ⟨by decide, by decide⟩ ml_X9_45 (mX9_many hm hz (by omega) (by omega)) hm.o rfl rfl (Nat.le_of_ble_eq_true rfl) (Nat.le_of_ble_eq_true rfl) (Nat.le_of_ble_eq_true rfl) rfl dX9_longestRun_11 (nx_I) (kx_I ?_)
    refine r_icmp_ge (tgt := 80) dX9_longestRun_14 (by decide) (by omega) (by omega) (fun h14 => ?_) (fun h14 => ?_)
    ·
      refine r_iload_n dX9_longestRun_80 rfl ?_
      refine e_ireturn dX9_longestRun_81 rfl (Nat.le_of_ble_eq_true rfl) (Nat.le_of_ble_eq_true rfl) ?_
      exact okI (by rw [hy, show (n k - i).toNat = 0 by omega, lrF])
    ·
      have hgp : gapF (n k) (F k) i = gapF (n k) (F k) i := rfl
      refine r_iload dX9_longestRun_17 rfl ?_
      refine r_if_le (tgt := 47) dX9_longestRun_19 (by decide) (by omega) (fun h19 => ?_) (fun h19 => ?_)
      ·
        refine r_iconst dX9_longestRun_47 ?_
        refine r_istore dX9_longestRun_48 (by decide) rfl ?_
        refine r_iload dX9_longestRun_50 rfl ?_
        refine r_if_eq (tgt := 61) dX9_longestRun_52 (by decide) (by omega) (fun h52 => ?_) (fun h52 => ?_)
        ·
          refine r_iconst dX9_longestRun_61 ?_
          refine r_istore_n dX9_longestRun_62 (by decide) rfl ?_
          refine r_iload_n dX9_longestRun_63 rfl ?_
          refine r_iload_n dX9_longestRun_64 rfl ?_
          refine r_icmp_le (tgt := 72) dX9_longestRun_65 (by decide) (by omega) (by omega) (fun h65 => ?_) (fun h65 => ?_)
          ·
            refine r_iload_n dX9_longestRun_72 rfl ?_
            refine r_istore_n dX9_longestRun_73 (by decide) rfl ?_
            refine r_iinc dX9_longestRun_74 rfl rfl ?_
            refine r_goto (tgt := 7) dX9_longestRun_77 (by decide) ?_
            refine J.loc (lsub_cons rfl (lsub_cons rfl (lsub_cons rfl (lsub_cons rfl (lsub_cons rfl (lsub_nil)))))) (ih7 _ _ _ ?_ ?_)
            · refine ⟨by omega, by omega, by omega, by omega, by omega, by omega, ?_⟩
              rw [hy, show (n k - i).toNat = (n k - (i + 1)).toNat + 1 by omega, lrF]
              first | rw [if_neg (show ¬ (i > 0 ∧ gapF (n k) (F k) i = 1) by omega)] | rw [if_pos (show i > 0 ∧ gapF (n k) (F k) i = 1 from ⟨by omega, by rw [gapF_in (by omega) (by omega)]; omega⟩)] | rw [if_neg (show ¬ (i > 0 ∧ gapF (n k) (F k) i = 1) from fun h => by rw [gapF_in (by omega) (by omega)] at h; omega)]
              try dsimp only
              first | (exfalso; omega) | rw [if_pos (by omega)] | rw [if_neg (by omega)]
            · omega
          ·
            refine r_iload_n dX9_longestRun_68 rfl ?_
            refine r_goto (tgt := 73) dX9_longestRun_69 (by decide) ?_
            refine r_istore_n dX9_longestRun_73 (by decide) rfl ?_
            refine r_iinc dX9_longestRun_74 rfl rfl ?_
            refine r_goto (tgt := 7) dX9_longestRun_77 (by decide) ?_
            refine J.loc (lsub_cons rfl (lsub_cons rfl (lsub_cons rfl (lsub_cons rfl (lsub_cons rfl (lsub_nil)))))) (ih7 _ _ _ ?_ ?_)
            · refine ⟨by omega, by omega, by omega, by omega, by omega, by omega, ?_⟩
              rw [hy, show (n k - i).toNat = (n k - (i + 1)).toNat + 1 by omega, lrF]
              first | rw [if_neg (show ¬ (i > 0 ∧ gapF (n k) (F k) i = 1) by omega)] | rw [if_pos (show i > 0 ∧ gapF (n k) (F k) i = 1 from ⟨by omega, by rw [gapF_in (by omega) (by omega)]; omega⟩)] | rw [if_neg (show ¬ (i > 0 ∧ gapF (n k) (F k) i = 1) from fun h => by rw [gapF_in (by omega) (by omega)] at h; omega)]
              try dsimp only
              first | (exfalso; omega) | rw [if_pos (by omega)] | rw [if_neg (by omega)]
            · omega
        · omega
      ·
        have hf0 := (hz.f h0 h1 (p := i) hi0 (by omega)).2
        have hf1 := (hz.f h0 h1 (p := i - 1) (by omega) (by omega)).2
        refine r_aload_n dX9_longestRun_22 rfl ?_
        refine r_iload_n dX9_longestRun_23 rfl ?_
        refine r_iload dX9_longestRun_24 rfl ?_
        refine r_callV2 okX9_at ⟨by decide, by decide⟩ ml_X9_49 (mX9_at hm hz (by omega) (by omega) (by omega) (by omega)) hm.o rfl rfl (Nat.le_of_ble_eq_true rfl) (Nat.le_of_ble_eq_true rfl) (Nat.le_of_ble_eq_true rfl) rfl dX9_longestRun_26 (nx_I) (kx_I ?_)
        refine r_aload_n dX9_longestRun_29 rfl ?_
        refine r_iload_n dX9_longestRun_30 rfl ?_
        refine r_iload dX9_longestRun_31 rfl ?_
        refine r_iconst dX9_longestRun_33 ?_
        refine r_isub dX9_longestRun_34 ?_
        refine r_callV2 okX9_at ⟨by decide, by decide⟩ ml_X9_49 (mX9_at hm hz (by omega) (by omega) (by omega) (by omega)) hm.o rfl rfl (Nat.le_of_ble_eq_true rfl) (Nat.le_of_ble_eq_true rfl) (Nat.le_of_ble_eq_true rfl) rfl dX9_longestRun_35 (nx_I) (kx_I ?_)
        refine r_iconst dX9_longestRun_38 ?_
        refine r_iadd dX9_longestRun_39 ?_
        refine r_icmp_ne (tgt := 47) dX9_longestRun_40 (by decide) (by omega) (by omega) (fun h40 => ?_) (fun h40 => ?_)
        ·
          refine r_iconst dX9_longestRun_47 ?_
          refine r_istore dX9_longestRun_48 (by decide) rfl ?_
          refine r_iload dX9_longestRun_50 rfl ?_
          refine r_if_eq (tgt := 61) dX9_longestRun_52 (by decide) (by omega) (fun h52 => ?_) (fun h52 => ?_)
          ·
            refine r_iconst dX9_longestRun_61 ?_
            refine r_istore_n dX9_longestRun_62 (by decide) rfl ?_
            refine r_iload_n dX9_longestRun_63 rfl ?_
            refine r_iload_n dX9_longestRun_64 rfl ?_
            refine r_icmp_le (tgt := 72) dX9_longestRun_65 (by decide) (by omega) (by omega) (fun h65 => ?_) (fun h65 => ?_)
            ·
              refine r_iload_n dX9_longestRun_72 rfl ?_
              refine r_istore_n dX9_longestRun_73 (by decide) rfl ?_
              refine r_iinc dX9_longestRun_74 rfl rfl ?_
              refine r_goto (tgt := 7) dX9_longestRun_77 (by decide) ?_
              refine J.loc (lsub_cons rfl (lsub_cons rfl (lsub_cons rfl (lsub_cons rfl (lsub_cons rfl (lsub_nil)))))) (ih7 _ _ _ ?_ ?_)
              · refine ⟨by omega, by omega, by omega, by omega, by omega, by omega, ?_⟩
                rw [hy, show (n k - i).toNat = (n k - (i + 1)).toNat + 1 by omega, lrF]
                first | rw [if_neg (show ¬ (i > 0 ∧ gapF (n k) (F k) i = 1) by omega)] | rw [if_pos (show i > 0 ∧ gapF (n k) (F k) i = 1 from ⟨by omega, by rw [gapF_in (by omega) (by omega)]; omega⟩)] | rw [if_neg (show ¬ (i > 0 ∧ gapF (n k) (F k) i = 1) from fun h => by rw [gapF_in (by omega) (by omega)] at h; omega)]
                try dsimp only
                first | (exfalso; omega) | rw [if_pos (by omega)] | rw [if_neg (by omega)]
              · omega
            ·
              refine r_iload_n dX9_longestRun_68 rfl ?_
              refine r_goto (tgt := 73) dX9_longestRun_69 (by decide) ?_
              refine r_istore_n dX9_longestRun_73 (by decide) rfl ?_
              refine r_iinc dX9_longestRun_74 rfl rfl ?_
              refine r_goto (tgt := 7) dX9_longestRun_77 (by decide) ?_
              refine J.loc (lsub_cons rfl (lsub_cons rfl (lsub_cons rfl (lsub_cons rfl (lsub_cons rfl (lsub_nil)))))) (ih7 _ _ _ ?_ ?_)
              · refine ⟨by omega, by omega, by omega, by omega, by omega, by omega, ?_⟩
                rw [hy, show (n k - i).toNat = (n k - (i + 1)).toNat + 1 by omega, lrF]
                first | rw [if_neg (show ¬ (i > 0 ∧ gapF (n k) (F k) i = 1) by omega)] | rw [if_pos (show i > 0 ∧ gapF (n k) (F k) i = 1 from ⟨by omega, by rw [gapF_in (by omega) (by omega)]; omega⟩)] | rw [if_neg (show ¬ (i > 0 ∧ gapF (n k) (F k) i = 1) from fun h => by rw [gapF_in (by omega) (by omega)] at h; omega)]
                try dsimp only
                first | (exfalso; omega) | rw [if_pos (by omega)] | rw [if_neg (by omega)]
              · omega
          · omega
        ·
          refine r_iconst dX9_longestRun_43 ?_
          refine r_goto (tgt := 48) dX9_longestRun_44 (by decide) ?_
          refine r_istore dX9_longestRun_48 (by decide) rfl ?_
          refine r_iload dX9_longestRun_50 rfl ?_
          refine r_if_eq (tgt := 61) dX9_longestRun_52 (by decide) (by omega) (fun h52 => ?_) (fun h52 => ?_)
          · omega
          ·
            refine r_iload_n dX9_longestRun_55 rfl ?_
            refine r_iconst dX9_longestRun_56 ?_
            refine r_iadd dX9_longestRun_57 ?_
            refine r_goto (tgt := 62) dX9_longestRun_58 (by decide) ?_
            refine r_istore_n dX9_longestRun_62 (by decide) rfl ?_
            refine r_iload_n dX9_longestRun_63 rfl ?_
            refine r_iload_n dX9_longestRun_64 rfl ?_
            refine r_icmp_le (tgt := 72) dX9_longestRun_65 (by decide) (by omega) (by omega) (fun h65 => ?_) (fun h65 => ?_)
            ·
              refine r_iload_n dX9_longestRun_72 rfl ?_
              refine r_istore_n dX9_longestRun_73 (by decide) rfl ?_
              refine r_iinc dX9_longestRun_74 rfl rfl ?_
              refine r_goto (tgt := 7) dX9_longestRun_77 (by decide) ?_
              refine J.loc (lsub_cons rfl (lsub_cons rfl (lsub_cons rfl (lsub_cons rfl (lsub_cons rfl (lsub_nil)))))) (ih7 _ _ _ ?_ ?_)
              · refine ⟨by omega, by omega, by omega, by omega, by omega, by omega, ?_⟩
                rw [hy, show (n k - i).toNat = (n k - (i + 1)).toNat + 1 by omega, lrF]
                first | rw [if_neg (show ¬ (i > 0 ∧ gapF (n k) (F k) i = 1) by omega)] | rw [if_pos (show i > 0 ∧ gapF (n k) (F k) i = 1 from ⟨by omega, by rw [gapF_in (by omega) (by omega)]; omega⟩)] | rw [if_neg (show ¬ (i > 0 ∧ gapF (n k) (F k) i = 1) from fun h => by rw [gapF_in (by omega) (by omega)] at h; omega)]
                try dsimp only
                first | (exfalso; omega) | rw [if_pos (by omega)] | rw [if_neg (by omega)]
              · omega
            ·
              refine r_iload_n dX9_longestRun_68 rfl ?_
              refine r_goto (tgt := 73) dX9_longestRun_69 (by decide) ?_
              refine r_istore_n dX9_longestRun_73 (by decide) rfl ?_
              refine r_iinc dX9_longestRun_74 rfl rfl ?_
              refine r_goto (tgt := 7) dX9_longestRun_77 (by decide) ?_
              refine J.loc (lsub_cons rfl (lsub_cons rfl (lsub_cons rfl (lsub_cons rfl (lsub_cons rfl (lsub_nil)))))) (ih7 _ _ _ ?_ ?_)
              · refine ⟨by omega, by omega, by omega, by omega, by omega, by omega, ?_⟩
                rw [hy, show (n k - i).toNat = (n k - (i + 1)).toNat + 1 by omega, lrF]
                first | rw [if_neg (show ¬ (i > 0 ∧ gapF (n k) (F k) i = 1) by omega)] | rw [if_pos (show i > 0 ∧ gapF (n k) (F k) i = 1 from ⟨by omega, by rw [gapF_in (by omega) (by omega)]; omega⟩)] | rw [if_neg (show ¬ (i > 0 ∧ gapF (n k) (F k) i = 1) from fun h => by rw [gapF_in (by omega) (by omega)] at h; omega)]
                try dsimp only
                first | (exfalso; omega) | rw [if_pos (by omega)] | rw [if_neg (by omega)]
              · omega
  · exact ⟨by omega, by omega, by omega, by omega, by omega, by omega, by simp⟩

set_option maxHeartbeats 4000000 in
theorem mX9_wideGaps {M0 M : Mem} {ad : Int → Nat} {zA hA tA pA : Int → Int} {m len th rd nu bd sc : Int} {hs : Int64} {n : Int → Int} {F : Int → Int → Int} {g : Int → Int} {k : Int} (hq : RQ M0 M ad zA hA tA pA m len th rd nu bd sc hs) (hi : Inj ad) (hz : Zr zA n F g) (h0 : 0 ≤ k) (h1 : k < 4) (hg : (2 ≤ g 0 ∧ g 0 ≤ 16) ∧ 1 ≤ g 1 ∧ g 1 ≤ 9999) : Ct KX9_wideGaps [.ref (ad 112), vI k] M 0 0 (atI (smF (widF (n k) (F k) (stF (n k) (F k) (g 0) (g 1))) (nbF (n k) (F k) (g 0) (g 1)).toNat 0) (fun M2 => RQ M0 M2 ad zA hA tA pA m len th rd nu bd sc hs)) := by
  refine Ct.of _ (by decide) rfl (Nat.le_of_ble_eq_true rfl) ?_
  obtain ⟨rA, sA, bA, wA, rm, bk, hm⟩ := hq
  have hzn := hz.n h0 h1
  have hsp := blk_spec hzn.2.1 (F k) (g 0) (g 1)
  refine r_aload_n dX9_wideGaps_0 rfl ?_
  refine r_iload_n dX9_wideGaps_1 rfl ?_
  refine r_callV1 okX9_blocksOf ⟨by decide, by decide⟩ ml_X9_168 (mX9_blocksOf hm hi hz (by omega) (by omega) hg) hm.o rfl rfl (Nat.le_of_ble_eq_true rfl) (Nat.le_of_ble_eq_true rfl) (Nat.le_of_ble_eq_true rfl) rfl dX9_wideGaps_2 (nx_tV) (kx_tV ?_)
  intro Mx hM
  obtain ⟨rA, sA, hm, hrA, hsA⟩ := hM
  have hr : ∀ p, 0 ≤ p → p < n k → rA p = F k p ∧ 0 ≤ F k p ∧ F k p ≤ 9999 := fun p a b => ⟨hrA p a b, (hz.f (by omega) (by omega) a b).2⟩
  refine r_iconst dX9_wideGaps_5 ?_
  refine r_istore_n dX9_wideGaps_6 (by decide) rfl ?_
  refine r_iconst dX9_wideGaps_7 ?_
  refine r_istore_n dX9_wideGaps_8 (by decide) rfl ?_
  refine J.loc (L' := [(0, some _), (1, some _), (2, some _), (3, some _)]) (lsub_cons rfl (lsub_cons rfl (lsub_cons rfl (lsub_cons rfl (lsub_nil))))) (loop2 (fun (b : Int) (y : Int) => 0 ≤ b ∧ b ≤ nbF (n k) (F k) (g 0) (g 1) ∧ 0 ≤ y ∧ y ≤ 60 * b ∧ smF (widF (n k) (F k) (stF (n k) (F k) (g 0) (g 1))) (nbF (n k) (F k) (g 0) (g 1)).toNat 0 = y + smF (widF (n k) (F k) (stF (n k) (F k) (g 0) (g 1))) (nbF (n k) (F k) (g 0) (g 1) - b).toNat b) (fun (b : Int) (y : Int) => (nbF (n k) (F k) (g 0) (g 1) - b).toNat) (fun (b : Int) (y : Int) => J KX9_wideGaps 0 0 _ 9 [(0, some (.ref (ad 112))), (1, some (vI k)), (2, some (vI y)), (3, some (vI b))] [] Mx _ _) (fun b y hI9 ih9 => ?_) _ _ ?_)
  ·
    obtain ⟨hb0, hb1, hy0, hy1, hy2⟩ := hI9
    refine r_iload_n dX9_wideGaps_9 rfl ?_
    refine r_aload_n dX9_wideGaps_10 rfl ?_
    refine r_getfield clX9 9 (by decide) fl_X9_59 hm.o rfl dX9_wideGaps_11 ?_
    refine r_icmp_ge (tgt := 83) dX9_wideGaps_14 (by decide) (by omega) (by omega) (fun h14 => ?_) (fun h14 => ?_)
    ·
      refine r_iload_n dX9_wideGaps_83 rfl ?_
      refine e_ireturn dX9_wideGaps_84 rfl (Nat.le_of_ble_eq_true rfl) (Nat.le_of_ble_eq_true rfl) ?_
      exact oktI (by rw [hy2, show (nbF (n k) (F k) (g 0) (g 1) - b).toNat = 0 by omega, smF]; omega) hm.q
    ·
      have hs0 := hsp.2.2.2.2.2.1 b (by omega) (by omega)
      have hs1 : 0 ≤ stF (n k) (F k) (g 0) (g 1) (b + 1) ∧ stF (n k) (F k) (g 0) (g 1) (b + 1) ≤ n k := by
        by_cases e : b + 1 = nbF (n k) (F k) (g 0) (g 1)
        · rw [e, hsp.2.2.2.2.1]; omega
        · have := hsp.2.2.2.2.2.1 (b + 1) (by omega) (by omega); omega
      have hs2 := hsp.2.2.2.2.2.2 b (b + 1) (by omega) (by omega) (by omega)
      have hsa0 := hsA b (by omega) (by omega)
      have hsa1 := hsA (b + 1) (by omega) (by omega)
      refine r_aload_n dX9_wideGaps_17 rfl ?_
      refine r_getfield clX9 8 (by decide) fl_X9_22 hm.o rfl dX9_wideGaps_18 ?_
      refine r_iload_n dX9_wideGaps_21 rfl ?_
      refine r_iaload hm.s (by omega) (by omega) (by omega) dX9_wideGaps_22 ?_
      rw [hsa0]
      refine r_iconst dX9_wideGaps_23 ?_
      refine r_iadd dX9_wideGaps_24 ?_
      refine r_istore dX9_wideGaps_25 (by decide) rfl ?_
      refine J.loc (L' := [(0, some _), (1, some _), (2, some _), (3, some _), (4, some _)]) (lsub_cons rfl (lsub_cons rfl (lsub_cons rfl (lsub_cons rfl (lsub_cons rfl (lsub_nil)))))) (loop2 (fun (p : Int) (z : Int) => stF (n k) (F k) (g 0) (g 1) b + 1 ≤ p ∧ (p ≤ stF (n k) (F k) (g 0) (g 1) (b + 1) ∨ p = stF (n k) (F k) (g 0) (g 1) b + 1) ∧ y ≤ z ∧ z ≤ y + p - (stF (n k) (F k) (g 0) (g 1) b + 1) ∧ y + widF (n k) (F k) (stF (n k) (F k) (g 0) (g 1)) b = z + smF (fun p => if gapF (n k) (F k) p < 128 then 0 else 1) (stF (n k) (F k) (g 0) (g 1) (b + 1) - p).toNat p) (fun (p : Int) (z : Int) => (stF (n k) (F k) (g 0) (g 1) (b + 1) - p).toNat) (fun (p : Int) (z : Int) => J KX9_wideGaps 0 0 _ 27 [(0, some (.ref (ad 112))), (1, some (vI k)), (2, some (vI z)), (3, some (vI b)), (4, some (vI p))] [] Mx _ _) (fun p z hI27 ih27 => ?_) _ _ ?_)
      ·
        obtain ⟨hp0, hp1, hz0, hz1, hz2⟩ := hI27
        refine r_iload dX9_wideGaps_27 rfl ?_
        refine r_aload_n dX9_wideGaps_29 rfl ?_
        refine r_getfield clX9 8 (by decide) fl_X9_22 hm.o rfl dX9_wideGaps_30 ?_
        refine r_iload_n dX9_wideGaps_33 rfl ?_
        refine r_iconst dX9_wideGaps_34 ?_
        refine r_iadd dX9_wideGaps_35 ?_
        refine r_iaload hm.s (by omega) (by omega) (by omega) dX9_wideGaps_36 ?_
        rw [hsa1]
        refine r_icmp_ge (tgt := 77) dX9_wideGaps_37 (by decide) (by omega) (by omega) (fun h37 => ?_) (fun h37 => ?_)
        ·
          refine r_iinc dX9_wideGaps_77 rfl rfl ?_
          refine r_goto (tgt := 9) dX9_wideGaps_80 (by decide) ?_
          refine J.loc (lsub_cons rfl (lsub_cons rfl (lsub_cons rfl (lsub_cons rfl (lsub_nil))))) (ih9 _ _ ?_ ?_)
          · refine ⟨by omega, by omega, by omega, by omega, ?_⟩
            rw [hy2, show (nbF (n k) (F k) (g 0) (g 1) - b).toNat = (nbF (n k) (F k) (g 0) (g 1) - (b + 1)).toNat + 1 by omega, smF]
            rw [show (stF (n k) (F k) (g 0) (g 1) (b + 1) - p).toNat = 0 by omega, smF] at hz2
            omega
          · omega
        ·
          have hr0 := hr p (by omega) (by omega)
          have hr1 := hr (p - 1) (by omega) (by omega)
          have hgp : rA p - rA (p - 1) = gapF (n k) (F k) p := by rw [gapF_in (by omega) (by omega)]; omega
          refine r_iload_n dX9_wideGaps_40 rfl ?_
          refine r_aload_n dX9_wideGaps_41 rfl ?_
          refine r_getfield clX9 6 (by decide) fl_X9_19 hm.o rfl dX9_wideGaps_42 ?_
          refine r_iload dX9_wideGaps_45 rfl ?_
          refine r_iaload hm.r (by omega) (by omega) (by omega) dX9_wideGaps_47 ?_
          refine r_aload_n dX9_wideGaps_48 rfl ?_
          refine r_getfield clX9 6 (by decide) fl_X9_19 hm.o rfl dX9_wideGaps_49 ?_
          refine r_iload dX9_wideGaps_52 rfl ?_
          refine r_iconst dX9_wideGaps_54 ?_
          refine r_isub dX9_wideGaps_55 ?_
          refine r_iaload hm.r (by omega) (by omega) (by omega) dX9_wideGaps_56 ?_
          refine r_isub dX9_wideGaps_57 ?_
          refine r_sipush dX9_wideGaps_58 (by decide) ?_
          refine r_icmp_ge (tgt := 68) dX9_wideGaps_61 (by decide) (by omega) (by omega) (fun h61 => ?_) (fun h61 => ?_)
          ·
            refine r_iconst dX9_wideGaps_68 ?_
            refine r_iadd dX9_wideGaps_69 ?_
            refine r_istore_n dX9_wideGaps_70 (by decide) rfl ?_
            refine r_iinc dX9_wideGaps_71 rfl rfl ?_
            refine r_goto (tgt := 27) dX9_wideGaps_74 (by decide) ?_
            refine J.loc (lsub_cons rfl (lsub_cons rfl (lsub_cons rfl (lsub_cons rfl (lsub_cons rfl (lsub_nil)))))) (ih27 _ _ ?_ ?_)
            · refine ⟨by omega, by omega, by omega, by omega, ?_⟩
              rw [hz2, show (stF (n k) (F k) (g 0) (g 1) (b + 1) - p).toNat = (stF (n k) (F k) (g 0) (g 1) (b + 1) - (p + 1)).toNat + 1 by omega, smF, if_neg (by omega)]
              omega
            · omega
          ·
            refine r_iconst dX9_wideGaps_64 ?_
            refine r_goto (tgt := 69) dX9_wideGaps_65 (by decide) ?_
            refine r_iadd dX9_wideGaps_69 ?_
            refine r_istore_n dX9_wideGaps_70 (by decide) rfl ?_
            refine r_iinc dX9_wideGaps_71 rfl rfl ?_
            refine r_goto (tgt := 27) dX9_wideGaps_74 (by decide) ?_
            refine J.loc (lsub_cons rfl (lsub_cons rfl (lsub_cons rfl (lsub_cons rfl (lsub_cons rfl (lsub_nil)))))) (ih27 _ _ ?_ ?_)
            · refine ⟨by omega, by omega, by omega, by omega, ?_⟩
              rw [hz2, show (stF (n k) (F k) (g 0) (g 1) (b + 1) - p).toNat = (stF (n k) (F k) (g 0) (g 1) (b + 1) - (p + 1)).toNat + 1 by omega, smF, if_pos (by omega)]
              omega
            · omega
      · exact ⟨by omega, by omega, by omega, by omega, rfl⟩
  · exact ⟨by omega, by omega, by omega, by omega, by simp⟩

set_option maxHeartbeats 4000000 in
theorem mX9_blockCount {M0 M : Mem} {ad : Int → Nat} {zA hA tA pA : Int → Int} {m len th rd nu bd sc : Int} {hs : Int64} {n : Int → Int} {F : Int → Int → Int} {g : Int → Int} {k : Int} (hq : RQ M0 M ad zA hA tA pA m len th rd nu bd sc hs) (hi : Inj ad) (hz : Zr zA n F g) (h0 : 0 ≤ k) (h1 : k < 4) (hg : (2 ≤ g 0 ∧ g 0 ≤ 16) ∧ 1 ≤ g 1 ∧ g 1 ≤ 9999) : Ct KX9_blockCount [.ref (ad 112), vI k] M 0 0 (atI (nbF (n k) (F k) (g 0) (g 1)) (fun M2 => RQ M0 M2 ad zA hA tA pA m len th rd nu bd sc hs)) := by
  refine Ct.of _ (by decide) rfl (Nat.le_of_ble_eq_true rfl) ?_
  obtain ⟨rA, sA, bA, wA, rm, bk, hm⟩ := hq
  have hzn := hz.n h0 h1
  refine r_aload_n dX9_blockCount_0 rfl ?_
  refine r_iload_n dX9_blockCount_1 rfl ?_
  refine r_callV1 okX9_blocksOf ⟨by decide, by decide⟩ ml_X9_168 (mX9_blocksOf hm hi hz (by omega) (by omega) hg) hm.o rfl rfl (Nat.le_of_ble_eq_true rfl) (Nat.le_of_ble_eq_true rfl) (Nat.le_of_ble_eq_true rfl) rfl dX9_blockCount_2 (nx_tV) (kx_tV ?_)
  intro Mx hM
  obtain ⟨rA, sA, hm, hrA, hsA⟩ := hM
  refine r_aload_n dX9_blockCount_5 rfl ?_
  refine r_getfield clX9 9 (by decide) fl_X9_59 hm.o rfl dX9_blockCount_6 ?_
  refine e_ireturn dX9_blockCount_9 rfl (Nat.le_of_ble_eq_true rfl) (Nat.le_of_ble_eq_true rfl) ?_
  exact oktI rfl hm.q

set_option maxHeartbeats 4000000 in
theorem mX9_setNow {M0 M : Mem} {ad : Int → Nat} {zA hA tA pA : Int → Int} {m len th rd nu bd sc : Int} {hs : Int64} {n : Int → Int} {F : Int → Int → Int} {g : Int → Int} {k w : Int} (hq : RQ M0 M ad zA hA tA pA m len th rd nu bd sc hs) (hi : Inj ad) (hz : Zr zA n F g) (h0 : 0 ≤ k) (h1 : k < 4) (hg : (2 ≤ g 0 ∧ g 0 ≤ 16) ∧ 1 ≤ g 1 ∧ g 1 ≤ 9999) (q1 : R32 w) : Ct KX9_setNow [.ref (ad 112), vI k, vI w] M 0 0 (atI (ofV (n k) (F k) g w) (fun M2 => RQ M0 M2 ad zA hA tA pA m len th rd nu bd sc hs)) := by
  refine Ct.of _ (by decide) rfl (Nat.le_of_ble_eq_true rfl) ?_
  obtain ⟨rA, sA, bA, wA, rm, bk, hm⟩ := hq
  have hzn := hz.n h0 h1
  refine r_iload_n dX9_setNow_0 rfl ?_
  by_cases hw1 : w < 0 ∨ 6 < w
  · refine r_tableOut (tgt := 88) dX9_setNow_1 (by omega) hw1 (by decide) ?_
    refine r_aload_n dX9_setNow_88 rfl ?_
    refine r_iload_n dX9_setNow_89 rfl ?_
    refine r_callV1 okX9_wideGaps ⟨by decide, by decide⟩ ml_X9_186 (mX9_wideGaps hm.q hi hz h0 h1 hg) hm.o rfl rfl (Nat.le_of_ble_eq_true rfl) (Nat.le_of_ble_eq_true rfl) (Nat.le_of_ble_eq_true rfl) rfl dX9_setNow_90 (nx_tI) (kx_tI ?_)
    intro Mx hq
    obtain ⟨rA, sA, bA, wA, rm, bk, hm⟩ := hq
    refine e_ireturn dX9_setNow_93 rfl (Nat.le_of_ble_eq_true rfl) (Nat.le_of_ble_eq_true rfl) ?_
    exact oktI (by unfold ofV; rw [if_neg (by omega), if_neg (by omega), if_neg (by omega), if_neg (by omega), if_neg (by omega), if_neg (by omega), if_neg (by omega)]) hm.q
  · rcases (show w = 0 ∨ w = 1 ∨ w = 2 ∨ w = 3 ∨ w = 4 ∨ w = 5 ∨ w = 6 by omega) with e1 | e1 | e1 | e1 | e1 | e1 | e1
    · refine r_tableIn (off := 43) (tgt := 44) dX9_setNow_1 (by omega) (by omega) (by omega) (by rw [e1]; rfl) (by decide) ?_
      refine r_aload_n dX9_setNow_44 rfl ?_
      refine r_iload_n dX9_setNow_45 rfl ?_
      refine r_callV1 okX9_many ⟨by decide, by decide⟩ ml_X9_45 (mX9_many hm hz (by omega) (by omega)) hm.o rfl rfl (Nat.le_of_ble_eq_true rfl) (Nat.le_of_ble_eq_true rfl) (Nat.le_of_ble_eq_true rfl) rfl dX9_setNow_46 (nx_I) (kx_I ?_)
      refine e_ireturn dX9_setNow_49 rfl (Nat.le_of_ble_eq_true rfl) (Nat.le_of_ble_eq_true rfl) ?_
      exact oktI (by unfold ofV; rw [if_pos (by omega)]) hm.q
    · refine r_tableIn (off := 49) (tgt := 50) dX9_setNow_1 (by omega) (by omega) (by omega) (by rw [e1]; rfl) (by decide) ?_
      refine r_aload_n dX9_setNow_50 rfl ?_
      refine r_iload_n dX9_setNow_51 rfl ?_
      refine r_callV1 okX9_blockCount ⟨by decide, by decide⟩ ml_X9_177 (mX9_blockCount hm.q hi hz h0 h1 hg) hm.o rfl rfl (Nat.le_of_ble_eq_true rfl) (Nat.le_of_ble_eq_true rfl) (Nat.le_of_ble_eq_true rfl) rfl dX9_setNow_52 (nx_tI) (kx_tI ?_)
      intro Mx hq
      obtain ⟨rA, sA, bA, wA, rm, bk, hm⟩ := hq
      refine e_ireturn dX9_setNow_55 rfl (Nat.le_of_ble_eq_true rfl) (Nat.le_of_ble_eq_true rfl) ?_
      exact oktI (by unfold ofV; rw [if_neg (by omega), if_pos (by omega)]) hm.q
    · refine r_tableIn (off := 55) (tgt := 56) dX9_setNow_1 (by omega) (by omega) (by omega) (by rw [e1]; rfl) (by decide) ?_
      refine r_aload_n dX9_setNow_56 rfl ?_
      refine r_iload_n dX9_setNow_57 rfl ?_
      refine r_callV1 okX9_sizeOf ⟨by decide, by decide⟩ ml_X9_180 (mX9_sizeOf hm.q hi hz h0 h1 hg) hm.o rfl rfl (Nat.le_of_ble_eq_true rfl) (Nat.le_of_ble_eq_true rfl) (Nat.le_of_ble_eq_true rfl) rfl dX9_setNow_58 (nx_tI) (kx_tI ?_)
      intro Mx hq
      obtain ⟨rA, sA, bA, wA, rm, bk, hm⟩ := hq
      refine e_ireturn dX9_setNow_61 rfl (Nat.le_of_ble_eq_true rfl) (Nat.le_of_ble_eq_true rfl) ?_
      exact oktI (by unfold ofV; rw [if_neg (by omega), if_neg (by omega), if_pos (by omega)]) hm.q
    · refine r_tableIn (off := 61) (tgt := 62) dX9_setNow_1 (by omega) (by omega) (by omega) (by rw [e1]; rfl) (by decide) ?_
      refine r_iconst dX9_setNow_62 ?_
      refine r_aload_n dX9_setNow_63 rfl ?_
      refine r_iload_n dX9_setNow_64 rfl ?_
      refine r_callV1 okX9_many ⟨by decide, by decide⟩ ml_X9_45 (mX9_many hm hz (by omega) (by omega)) hm.o rfl rfl (Nat.le_of_ble_eq_true rfl) (Nat.le_of_ble_eq_true rfl) (Nat.le_of_ble_eq_true rfl) rfl dX9_setNow_65 (nx_I) (kx_I ?_)
      refine r_imul dX9_setNow_68 ?_
      refine e_ireturn dX9_setNow_69 rfl (Nat.le_of_ble_eq_true rfl) (Nat.le_of_ble_eq_true rfl) ?_
      exact oktI (by unfold ofV; rw [if_neg (by omega), if_neg (by omega), if_neg (by omega), if_pos (by omega)]) hm.q
    · refine r_tableIn (off := 69) (tgt := 70) dX9_setNow_1 (by omega) (by omega) (by omega) (by rw [e1]; rfl) (by decide) ?_
      refine r_aload_n dX9_setNow_70 rfl ?_
      refine r_iload_n dX9_setNow_71 rfl ?_
      refine r_callV1 okX9_leastOf ⟨by decide, by decide⟩ ml_X9_104 (mX9_leastOf hm hz h0 h1) hm.o rfl rfl (Nat.le_of_ble_eq_true rfl) (Nat.le_of_ble_eq_true rfl) (Nat.le_of_ble_eq_true rfl) rfl dX9_setNow_72 (nx_I) (kx_I ?_)
      refine e_ireturn dX9_setNow_75 rfl (Nat.le_of_ble_eq_true rfl) (Nat.le_of_ble_eq_true rfl) ?_
      exact oktI (by unfold ofV; rw [if_neg (by omega), if_neg (by omega), if_neg (by omega), if_neg (by omega), if_pos (by omega)]) hm.q
    · refine r_tableIn (off := 75) (tgt := 76) dX9_setNow_1 (by omega) (by omega) (by omega) (by rw [e1]; rfl) (by decide) ?_
      refine r_aload_n dX9_setNow_76 rfl ?_
      refine r_iload_n dX9_setNow_77 rfl ?_
      refine r_callV1 okX9_greatestOf ⟨by decide, by decide⟩ ml_X9_107 (mX9_greatestOf hm hz h0 h1) hm.o rfl rfl (Nat.le_of_ble_eq_true rfl) (Nat.le_of_ble_eq_true rfl) (Nat.le_of_ble_eq_true rfl) rfl dX9_setNow_78 (nx_I) (kx_I ?_)
      refine e_ireturn dX9_setNow_81 rfl (Nat.le_of_ble_eq_true rfl) (Nat.le_of_ble_eq_true rfl) ?_
      exact oktI (by unfold ofV; rw [if_neg (by omega), if_neg (by omega), if_neg (by omega), if_neg (by omega), if_neg (by omega), if_pos (by omega)]) hm.q
    · refine r_tableIn (off := 81) (tgt := 82) dX9_setNow_1 (by omega) (by omega) (by omega) (by rw [e1]; rfl) (by decide) ?_
      refine r_aload_n dX9_setNow_82 rfl ?_
      refine r_iload_n dX9_setNow_83 rfl ?_
      refine r_callV1 okX9_longestRun ⟨by decide, by decide⟩ ml_X9_183 (mX9_longestRun hm hz h0 h1) hm.o rfl rfl (Nat.le_of_ble_eq_true rfl) (Nat.le_of_ble_eq_true rfl) (Nat.le_of_ble_eq_true rfl) rfl dX9_setNow_84 (nx_I) (kx_I ?_)
      refine e_ireturn dX9_setNow_87 rfl (Nat.le_of_ble_eq_true rfl) (Nat.le_of_ble_eq_true rfl) ?_
      exact oktI (by unfold ofV; rw [if_neg (by omega), if_neg (by omega), if_neg (by omega), if_neg (by omega), if_neg (by omega), if_neg (by omega), if_pos (by omega)]) hm.q
