/-! leaps -/
/-- the blocks of a row of n -/
def BkS (n nb : Int) (st : Int → Int) : Prop := 0 ≤ n ∧ n ≤ 60 ∧ 0 ≤ nb ∧ nb ≤ n ∧ (0 < n → 0 < nb) ∧ st 0 = 0 ∧ st nb = n ∧ (∀ j, 0 ≤ j → j < nb → 0 ≤ st j ∧ st j < n) ∧ ∀ i j, 0 ≤ i → i < j → j ≤ nb → st i < st j
theorem BkS.of {n : Int} (h0 : 0 ≤ n) (h1 : n ≤ 60) (F : Int → Int) (most width : Int) : BkS n (nbF n F most width) (stF n F most width) := by
  obtain ⟨a1, a2, a3, a4, a5, a6, a7⟩ := blk_spec h0 F most width
  exact ⟨h0, h1, a1, a2, a3, a4, a5, a6, a7⟩
theorem batF_r {n nb : Int} {st : Int → Int} (h : BkS n nb st) (hn : 0 < n) (p : Int) : 0 ≤ batF nb st p ∧ batF nb st p < nb := by
  have h1 := h.2.2.2.2.1 hn
  obtain ⟨g1, g2, -, -⟩ := ff_spec (fun b => decide (p < st b)) (nb - 1).toNat 1
  unfold batF
  omega
/-- the block of a place -/
theorem batF_at {n nb : Int} {st : Int → Int} (h : BkS n nb st) {b p : Int} (hb : 0 ≤ b ∧ b < nb) (hp : st b ≤ p ∧ p < st (b + 1)) : batF nb st p = b := by
  unfold batF
  have hm := h.2.2.2.2.2.2.2.2
  rw [ff_unique (r := b + 1) (by omega) (by omega) (fun j h1 h2 => ?_) (fun h1 => ?_)]
  · omega
  · apply decide_eq_false
    by_cases e : j = b
    · rw [e]; omega
    · have := hm j b (by omega) (by omega) (by omega); omega
  · exact decide_eq_true hp.2
/-- one leap from the block b0: the place found (-1: none), the looks, the block then -/
def lpQ (nb : Int) (st F : Int → Int) (x b0 : Int) : Int := ff (fun b => decide (x < F (st b))) (nb - (b0 + 1)).toNat (b0 + 1)
def lpK (nb : Int) (st F : Int → Int) (x b0 : Int) : Int := lpQ nb st F x b0 - 1 - b0 + (if lpQ nb st F x b0 < nb then 1 else 0)
def lpR (st F : Int → Int) (x q : Int) : Int := ff (fun i => decide (x ≤ F i)) (st q - st (q - 1)).toNat (st (q - 1))
def lpF (nb : Int) (st F : Int → Int) (x b0 : Int) : Int × (Int × Int) :=
  let q := lpQ nb st F x b0
  let r := lpR st F x q
  if r < st q then (r, lpK nb st F x b0 + (r - st (q - 1) + 1), q - 1)
  else if nb ≤ q then (-1, lpK nb st F x b0 + (st q - st (q - 1)), q - 1)
  else (st q, lpK nb st F x b0 + (st q - st (q - 1)) + 1, q)
def lpN (n nb : Int) (st F : Int → Int) (x b0 : Int) : Int × (Int × Int) := if n = 0 then (-1, 0, b0) else lpF nb st F x b0
theorem lpQ_r {n nb : Int} {st : Int → Int} (F : Int → Int) (x : Int) {b0 : Int} (h : BkS n nb st) (hb : 0 ≤ b0 ∧ b0 < nb) : b0 + 1 ≤ lpQ nb st F x b0 ∧ lpQ nb st F x b0 ≤ nb ∧ (lpQ nb st F x b0 < nb → x < F (st (lpQ nb st F x b0))) := by
  obtain ⟨g1, g2, g3, g4⟩ := ff_spec (fun b => decide (x < F (st b))) (nb - (b0 + 1)).toNat (b0 + 1)
  exact ⟨g1, by unfold lpQ; omega, fun h9 => of_decide_eq_true (g4 (by unfold lpQ at h9; omega))⟩
/-- what a leap finds: a place, whose member is not less, in the block that it tells -/
theorem lpN_spec {n nb : Int} {st : Int → Int} (F : Int → Int) (x : Int) {b0 : Int} (h : BkS n nb st) (hb : 0 < n → 0 ≤ b0 ∧ b0 < nb) : (lpN n nb st F x b0).1 = -1 ∨ (0 < n ∧ 0 ≤ (lpN n nb st F x b0).1 ∧ (lpN n nb st F x b0).1 < n ∧ x ≤ F (lpN n nb st F x b0).1 ∧ 0 ≤ (lpN n nb st F x b0).2.2 ∧ (lpN n nb st F x b0).2.2 < nb ∧ st (lpN n nb st F x b0).2.2 ≤ (lpN n nb st F x b0).1 ∧ (lpN n nb st F x b0).1 < st ((lpN n nb st F x b0).2.2 + 1)) := by
  unfold lpN
  by_cases e : n = 0
  · rw [if_pos e]; exact Or.inl rfl
  · rw [if_neg e]
    have hn : 0 < n := by have := h.1; omega
    have hb' := hb hn
    obtain ⟨q1, q2, q3⟩ := lpQ_r F x h hb'
    obtain ⟨-, -, -, -, -, -, a5, a6, a7⟩ := id h
    unfold lpF
    obtain ⟨r1, r2, r3, r4⟩ := ff_spec (fun i => decide (x ≤ F i)) (st (lpQ nb st F x b0) - st (lpQ nb st F x b0 - 1)).toNat (st (lpQ nb st F x b0 - 1))
    have h8 := a7 (lpQ nb st F x b0 - 1) (lpQ nb st F x b0) (by omega) (by omega) q2
    have h7 := a6 (lpQ nb st F x b0 - 1) (by omega) (by omega)
    have h6 : st (lpQ nb st F x b0) ≤ n := by
      by_cases e2 : lpQ nb st F x b0 = nb
      · rw [e2, a5]; omega
      · have := a6 (lpQ nb st F x b0) (by omega) (by omega); omega
    dsimp only
    split
    · next hr =>
      right
      unfold lpR at hr ⊢
      dsimp only
      refine ⟨hn, by omega, by omega, of_decide_eq_true (r4 (by omega)), by omega, by omega, r1, ?_⟩
      rw [show lpQ nb st F x b0 - 1 + 1 = lpQ nb st F x b0 by omega]
      exact hr
    · split
      · exact Or.inl rfl
      · next hq =>
        right
        have h5 := a6 (lpQ nb st F x b0) (by omega) (by omega)
        have h4 := a7 (lpQ nb st F x b0) (lpQ nb st F x b0 + 1) (by omega) (by omega) (by omega)
        have h3 := q3 (by omega)
        dsimp only
        exact ⟨hn, by omega, by omega, by omega, by omega, by omega, by omega, by omega⟩
/-- a Leaper: object at lo, its Blocks at lo + 1 -/
def LpW (M : Mem) (ad : Int → Nat) (lo : Int) : Prop := (∃ (v : Value) (pl lp lk : Int), M (ad lo) = some (oC 3 [.ref (ad (lo + 1)), v, vI pl, vI lp, vI lk])) ∧ BlW M ad (lo + 1)
def LpP (M : Mem) (ad : Int → Nat) (lo : Int) (mo : Nat) (nb : Int) (st : Int → Int) (pl lp lk : Int) : Prop := M (ad lo) = some (oC 3 [.ref (ad (lo + 1)), .ref mo, vI pl, vI lp, vI lk]) ∧ BlP M ad (lo + 1) mo nb st
theorem LpP.w {M : Mem} {ad : Int → Nat} {lo : Int} {mo : Nat} {nb : Int} {st : Int → Int} {pl lp lk : Int} (h : LpP M ad lo mo nb st pl lp lk) : LpW M ad lo := ⟨⟨_, _, _, _, h.1⟩, h.2.w⟩
theorem LpP.up {M : Mem} {ad : Int → Nat} {lo : Int} {mo : Nat} {nb : Int} {st : Int → Int} {pl lp lk : Int} (h : LpP M ad lo mo nb st pl lp lk) (hi : Inj ad) (hl : 0 ≤ lo ∧ lo + 3 ≤ 122) (pl' lp' lk' : Int) : LpP (up M (ad lo) (oC 3 [.ref (ad (lo + 1)), .ref mo, vI pl', vI lp', vI lk'])) ad lo mo nb st pl' lp' lk' :=
  ⟨up_s _ _ _, h.2.frame (up_n _ (hi.ne ⟨by omega, by omega⟩ ⟨by omega, by omega⟩ (by omega))) (up_n _ (hi.ne ⟨by omega, by omega⟩ ⟨by omega, by omega⟩ (by omega)))⟩
theorem LpP.frame {M M1 : Mem} {ad : Int → Nat} {lo : Int} {mo : Nat} {nb : Int} {st : Int → Int} {pl lp lk : Int} (h : LpP M ad lo mo nb st pl lp lk) (hq : ∀ i, lo ≤ i → i < lo + 3 → M1 (ad i) = M (ad i)) : LpP M1 ad lo mo nb st pl lp lk :=
  ⟨(hq lo (by omega) (by omega)).trans h.1, h.2.frame (hq _ (by omega) (by omega)) (hq _ (by omega) (by omega))⟩
theorem LpW.frame {M M1 : Mem} {ad : Int → Nat} {lo : Int} (h : LpW M ad lo) (hq : ∀ i, lo ≤ i → i < lo + 3 → M1 (ad i) = M (ad i)) : LpW M1 ad lo := by
  obtain ⟨⟨v, a, b, c, h1⟩, h2⟩ := h
  exact ⟨⟨v, a, b, c, (hq lo (by omega) (by omega)).trans h1⟩, h2.frame (hq _ (by omega) (by omega)) (hq _ (by omega) (by omega))⟩
/-- the whole intersection, as a loop goes: common, leaps in the first and in the second, looks -/
def mtF (n1 nb1 : Int) (st1 F1 : Int → Int) (n2 nb2 : Int) (st2 F2 : Int → Int) : Nat → Int → Int → Int → Int → Int → Int → Int × (Int × (Int × Int))
  | 0, _, _, cm, l1, l2, lk => (cm, l1, l2, lk)
  | k + 1, p1, p2, cm, l1, l2, lk =>
    let a := lpN n2 nb2 st2 F2 (F1 p1) (batF nb2 st2 p2)
    if a.1 < 0 then (cm, l1, l2 + 1, lk + a.2.1)
    else if F2 a.1 = F1 p1 then (if p1 + 1 < n1 then mtF n1 nb1 st1 F1 n2 nb2 st2 F2 k (p1 + 1) a.1 (cm + 1) l1 (l2 + 1) (lk + a.2.1) else (cm + 1, l1, l2 + 1, lk + a.2.1))
    else
      let b := lpN n1 nb1 st1 F1 (F2 a.1) (batF nb1 st1 p1)
      if b.1 < 0 then (cm, l1 + 1, l2 + 1, lk + a.2.1 + b.2.1) else mtF n1 nb1 st1 F1 n2 nb2 st2 F2 k b.1 a.1 cm (l1 + 1) (l2 + 1) (lk + a.2.1 + b.2.1)
def Srt (n : Int) (F : Int → Int) : Prop := ∀ i j, 0 ≤ i → i < j → j < n → F i < F j
theorem Srt.lt {n : Int} {F : Int → Int} (h : Srt n F) {i j : Int} (hi : 0 ≤ i ∧ i < n) (hj : 0 ≤ j ∧ j < n) (hF : F i < F j) : i < j := by
  by_cases e : i < j
  · exact e
  · by_cases e2 : i = j
    · rw [e2] at hF; omega
    · have := h j i hj.1 (by omega) hi.2; omega
def mtR (n1 nb1 : Int) (st1 F1 : Int → Int) (n2 nb2 : Int) (st2 F2 : Int → Int) : Int × (Int × (Int × Int)) := if n1 = 0 then (0, 0, 0, 0) else mtF n1 nb1 st1 F1 n2 nb2 st2 F2 n1.toNat 0 0 0 0 0 0
set_option maxHeartbeats 4000000 in
theorem mX3_allLeaps {M : Mem} {o : Nat} {v1 v2 : Value} {pl lp lk : Int} (ho : M o = some (oC 3 [v1, v2, vI pl, vI lp, vI lk])) : Ct KX3_allLeaps [.ref o] M 0 0 (rtI lp M) := by
  refine Ct.of _ (by decide) rfl (Nat.le_of_ble_eq_true rfl) ?_
  refine r_aload_n dX3_allLeaps_0 rfl ?_
  refine r_getfield clX3 3 (by decide) fl_X3_29 (by first | assumption | exact up_s _ _ _ | exact (up_n _ (by assumption)).trans (by assumption) | exact (up_n _ (by assumption)).trans (up_s _ _ _) | exact (up_n _ (by assumption)).trans ((up_n _ (by assumption)).trans (by assumption))) rfl dX3_allLeaps_1 ?_
  refine e_ireturn dX3_allLeaps_4 rfl (Nat.le_of_ble_eq_true rfl) (Nat.le_of_ble_eq_true rfl) ?_
  exact okI rfl

set_option maxHeartbeats 4000000 in
theorem mX3_allLooks {M : Mem} {o : Nat} {v1 v2 : Value} {pl lp lk : Int} (ho : M o = some (oC 3 [v1, v2, vI pl, vI lp, vI lk])) : Ct KX3_allLooks [.ref o] M 0 0 (rtI lk M) := by
  refine Ct.of _ (by decide) rfl (Nat.le_of_ble_eq_true rfl) ?_
  refine r_aload_n dX3_allLooks_0 rfl ?_
  refine r_getfield clX3 4 (by decide) fl_X3_32 (by first | assumption | exact up_s _ _ _ | exact (up_n _ (by assumption)).trans (by assumption) | exact (up_n _ (by assumption)).trans (up_s _ _ _) | exact (up_n _ (by assumption)).trans ((up_n _ (by assumption)).trans (by assumption))) rfl dX3_allLooks_1 ?_
  refine e_ireturn dX3_allLooks_4 rfl (Nat.le_of_ble_eq_true rfl) (Nat.le_of_ble_eq_true rfl) ?_
  exact okI rfl

set_option maxHeartbeats 4000000 in
theorem mX3_reached {M : Mem} {ad : Int → Nat} {lo : Int} {mo : Nat} {nb : Int} {st : Int → Int} {pl lp lk : Int} {ma N : Nat} {n : Int} {F : Int → Int} (hl : LpP M ad lo mo nb st pl lp lk) (hm : Mb M mo ma N n F) (q0 : R32 pl) : Ct KX3_reached [.ref (ad lo)] M 0 0 (rtI (atF n F pl) M) := by
  refine Ct.of _ (by decide) rfl (Nat.le_of_ble_eq_true rfl) ?_
  obtain ⟨hlo9, hbl⟩ := id hl
  have hmo := hm.1
  have hmn := hm.n0
  refine r_aload_n dX3_reached_0 rfl ?_
  refine r_getfield clX3 1 (by decide) fl_X3_21 (by first | assumption | exact up_s _ _ _ | exact (up_n _ (by assumption)).trans (by assumption) | exact (up_n _ (by assumption)).trans (up_s _ _ _) | exact (up_n _ (by assumption)).trans ((up_n _ (by assumption)).trans (by assumption))) rfl dX3_reached_1 ?_
  refine r_aload_n dX3_reached_4 rfl ?_
  refine r_getfield clX3 2 (by decide) fl_X3_25 (by first | assumption | exact up_s _ _ _ | exact (up_n _ (by assumption)).trans (by assumption) | exact (up_n _ (by assumption)).trans (up_s _ _ _) | exact (up_n _ (by assumption)).trans ((up_n _ (by assumption)).trans (by assumption))) rfl dX3_reached_5 ?_
  refine r_callV1 okX5_at ⟨by decide, by decide⟩ ml_X3_44 (mX5_at hm (by omega)) (by first | assumption | exact up_s _ _ _ | exact (up_n _ (by assumption)).trans (by assumption) | exact (up_n _ (by assumption)).trans (up_s _ _ _) | exact (up_n _ (by assumption)).trans ((up_n _ (by assumption)).trans (by assumption))) rfl rfl (Nat.le_of_ble_eq_true rfl) (Nat.le_of_ble_eq_true rfl) (Nat.le_of_ble_eq_true rfl) rfl dX3_reached_8 (nx_I) (kx_I ?_)
  refine e_ireturn dX3_reached_11 rfl (Nat.le_of_ble_eq_true rfl) (Nat.le_of_ble_eq_true rfl) ?_
  exact okI rfl

set_option maxHeartbeats 4000000 in
theorem mX3_steps {M : Mem} {ad : Int → Nat} {lo : Int} {mo : Nat} {nb : Int} {st : Int → Int} {pl lp lk : Int} {ma N : Nat} {n : Int} {F : Int → Int} (hl : LpP M ad lo mo nb st pl lp lk) (hm : Mb M mo ma N n F) (hi : Inj ad) (hlr : 94 ≤ lo ∧ lo + 3 ≤ 112) (hmd : mo ≠ ad lo ∧ ma ≠ ad lo) (q0 : 0 ≤ pl ∧ pl ≤ 100) : Ct KX3_steps [.ref (ad lo)] M 0 0 (atI (bI (decide (pl + 1 < n))) (fun M2 => LpP M2 ad lo mo nb st (pl + 1) lp lk ∧ FrI ad lo (lo + 1) M M2)) := by
  refine Ct.of _ (by decide) rfl (Nat.le_of_ble_eq_true rfl) ?_
  obtain ⟨hlo9, hbl⟩ := id hl
  have hmo := hm.1
  have hmn := hm.n0
  refine r_aload_n dX3_steps_0 rfl ?_
  refine r_dup dX3_steps_1 ?_
  refine r_getfield clX3 2 (by decide) fl_X3_25 (by first | assumption | exact up_s _ _ _ | exact (up_n _ (by assumption)).trans (by assumption) | exact (up_n _ (by assumption)).trans (up_s _ _ _) | exact (up_n _ (by assumption)).trans ((up_n _ (by assumption)).trans (by assumption))) rfl dX3_steps_2 ?_
  refine r_iconst dX3_steps_5 ?_
  refine r_iadd dX3_steps_6 ?_
  refine r_putfield clX3 2 (by decide) fl_X3_25 rfl (by first | assumption | exact up_s _ _ _ | exact (up_n _ (by assumption)).trans (by assumption) | exact (up_n _ (by assumption)).trans (up_s _ _ _) | exact (up_n _ (by assumption)).trans ((up_n _ (by assumption)).trans (by assumption))) rfl rfl (Nat.le_of_ble_eq_true rfl) dX3_steps_7 ?_
  refine r_aload_n dX3_steps_10 rfl ?_
  refine r_getfield clX3 2 (by decide) fl_X3_25 (up_s _ _ _) rfl dX3_steps_11 ?_
  refine r_aload_n dX3_steps_14 rfl ?_
  refine r_getfield clX3 1 (by decide) fl_X3_21 (up_s _ _ _) rfl dX3_steps_15 ?_
  refine r_callV0 okX5_amount ⟨by decide, by decide⟩ ml_X3_48 (mX5_amount (hm.frame (up_n _ hmd.1) (up_n _ hmd.2))) ((up_n _ hmd.1).trans hmo) rfl rfl (Nat.le_of_ble_eq_true rfl) (Nat.le_of_ble_eq_true rfl) (Nat.le_of_ble_eq_true rfl) rfl dX3_steps_18 (nx_I) (kx_I ?_)
  refine r_icmp_ge (tgt := 28) dX3_steps_21 (by decide) (by omega) (by omega) (fun h21 => ?_) (fun h21 => ?_)
  ·
    refine r_iconst dX3_steps_28 ?_
    refine e_zreturn dX3_steps_29 rfl (by omega) (Nat.le_of_ble_eq_true rfl) (Nat.le_of_ble_eq_true rfl) ?_
    exact oktI (by unfold bI; simp <;> omega) ⟨hl.up hi (by omega) _ _ _, FrI.rf.up ⟨by omega, by omega⟩⟩
  ·
    refine r_iconst dX3_steps_24 ?_
    refine r_goto (tgt := 29) dX3_steps_25 (by decide) ?_
    refine e_zreturn dX3_steps_29 rfl (by omega) (Nat.le_of_ble_eq_true rfl) (Nat.le_of_ble_eq_true rfl) ?_
    exact oktI (by unfold bI; simp <;> omega) ⟨hl.up hi (by omega) _ _ _, FrI.rf.up ⟨by omega, by omega⟩⟩

set_option maxHeartbeats 4000000 in
theorem mX3_lookForBlock {M : Mem} {ad : Int → Nat} {lo : Int} {mo : Nat} {nb : Int} {st : Int → Int} {pl lp lk : Int} {ma N : Nat} {n : Int} {F : Int → Int} {x : Int} (hl : LpP M ad lo mo nb st pl lp lk) (hm : Mb M mo ma N n F) (hi : Inj ad) (hlr : 94 ≤ lo ∧ lo + 3 ≤ 112) (hmd : mo ≠ ad lo ∧ ma ≠ ad lo) (hbk : BkS n nb st) (hx : R32 x) (q0 : 0 ≤ pl) (q1 : pl < n) : Ct KX3_lookForBlock [.ref (ad lo), vI x] M 0 0 (atI (lpQ nb st F x (batF nb st pl) - 1) (fun M2 => LpP M2 ad lo mo nb st pl lp (lk + lpK nb st F x (batF nb st pl)) ∧ FrI ad lo (lo + 1) M M2)) := by
  refine Ct.of _ (by decide) rfl (Nat.le_of_ble_eq_true rfl) ?_
  obtain ⟨hlo9, hbl⟩ := id hl
  have hmo := hm.1
  have hmn := hm.n0
  have hbo := hbl.1
  have hbr := batF_r hbk (by omega) pl
  have hnb : nb ≤ 60 := hbl.2.2.2.1
  refine r_aload_n dX3_lookForBlock_0 rfl ?_
  refine r_getfield clX3 0 (by decide) fl_X3_10 hlo9 rfl dX3_lookForBlock_1 ?_
  refine r_aload_n dX3_lookForBlock_4 rfl ?_
  refine r_getfield clX3 2 (by decide) fl_X3_25 hlo9 rfl dX3_lookForBlock_5 ?_
  refine r_callV1 okX0_blockAt ⟨by decide, by decide⟩ ml_X3_66 (mX0_blockAt hbl (by omega)) hbo rfl rfl (Nat.le_of_ble_eq_true rfl) (Nat.le_of_ble_eq_true rfl) (Nat.le_of_ble_eq_true rfl) rfl dX3_lookForBlock_8 (nx_I) (kx_I ?_)
  refine r_istore_n dX3_lookForBlock_11 (by decide) rfl ?_
  refine r_iload_n dX3_lookForBlock_12 rfl ?_
  refine r_iconst dX3_lookForBlock_13 ?_
  refine r_iadd dX3_lookForBlock_14 ?_
  refine r_istore_n dX3_lookForBlock_15 (by decide) rfl ?_
  refine J.loc (L' := [(0, some _), (1, some _), (2, some _), (3, some _)]) (lsub_cons rfl (lsub_cons rfl (lsub_cons (by rw [show batF nb st pl + 1 - 1 = batF nb st pl by omega]; rfl) (lsub_cons rfl lsub_nil)))) (loop3 (fun (b : Int) (lc : Int) (M1 : Mem) => batF nb st pl + 1 ≤ b ∧ b ≤ nb ∧ LpP M1 ad lo mo nb st pl lp lc ∧ FrI ad lo (lo + 1) M M1 ∧ lc = lk + (b - 1 - batF nb st pl) ∧ lpQ nb st F x (batF nb st pl) = ff (fun b => decide (x < F (st b))) (nb - b).toNat b) (fun (b : Int) (lc : Int) (M1 : Mem) => (nb - b).toNat) (fun (b : Int) (lc : Int) (M1 : Mem) => J KX3_lookForBlock 0 0 _ 16 [(0, some (.ref (ad lo))), (1, some (vI x)), (2, some (vI (b - 1))), (3, some (vI b))] [] M1 _ _) (fun b lc M1 hI16 ih16 => ?_) (batF nb st pl + 1) lk _ ?_)
  ·
    obtain ⟨hb0, hb1, hl1, hfr, hlc, hq⟩ := hI16
    have hm1 : Mb M1 mo ma N n F := hm.frame (hfr mo (fun i a b => by rw [show i = lo by omega]; exact hmd.1)) (hfr ma (fun i a b => by rw [show i = lo by omega]; exact hmd.2))
    refine r_iload_n dX3_lookForBlock_16 rfl ?_
    refine r_aload_n dX3_lookForBlock_17 rfl ?_
    refine r_getfield clX3 0 (by decide) fl_X3_10 hl1.1 rfl dX3_lookForBlock_18 ?_
    refine r_callV0 okX0_amount ⟨by decide, by decide⟩ ml_X3_65 (mX0_amount hl1.2) hl1.2.1 rfl rfl (Nat.le_of_ble_eq_true rfl) (Nat.le_of_ble_eq_true rfl) (Nat.le_of_ble_eq_true rfl) rfl dX3_lookForBlock_21 (nx_I) (kx_I ?_)
    refine r_icmp_ge (tgt := 59) dX3_lookForBlock_24 (by decide) (by omega) (by omega) (fun h24 => ?_) (fun h24 => ?_)
    ·
      refine r_iload_n dX3_lookForBlock_59 rfl ?_
      refine e_ireturn dX3_lookForBlock_60 rfl (Nat.le_of_ble_eq_true rfl) (Nat.le_of_ble_eq_true rfl) ?_
      rw [show (nb - b).toNat = 0 by omega, ff] at hq
      refine oktI (by rw [hq]) ⟨?_, hfr⟩
      rw [show lk + lpK nb st F x (batF nb st pl) = lc by unfold lpK; rw [hq, if_neg (by omega)]; omega]
      exact hl1
    ·
      have hsb := hbk.2.2.2.2.2.2.2.1 b (by omega) (by omega)
      refine r_aload_n dX3_lookForBlock_27 rfl ?_
      refine r_dup dX3_lookForBlock_28 ?_
      refine r_getfield clX3 4 (by decide) fl_X3_32 hl1.1 rfl dX3_lookForBlock_29 ?_
      refine r_iconst dX3_lookForBlock_32 ?_
      refine r_iadd dX3_lookForBlock_33 ?_
      refine r_putfield clX3 4 (by decide) fl_X3_32 rfl hl1.1 rfl rfl (Nat.le_of_ble_eq_true rfl) dX3_lookForBlock_34 ?_
      refine r_aload_n dX3_lookForBlock_37 rfl ?_
      refine r_getfield clX3 0 (by decide) fl_X3_10 (up_s _ _ _) rfl dX3_lookForBlock_38 ?_
      refine r_iload_n dX3_lookForBlock_41 rfl ?_
      refine r_callV1 okX0_base ⟨by decide, by decide⟩ ml_X3_69 (mX0_base (hl1.up hi (by omega) _ _ _).2 (hm1.frame (up_n _ hmd.1) (up_n _ hmd.2)) (by omega) (by omega)) (hl1.up hi (by omega) _ _ _).2.1 rfl rfl (Nat.le_of_ble_eq_true rfl) (Nat.le_of_ble_eq_true rfl) (Nat.le_of_ble_eq_true rfl) rfl dX3_lookForBlock_42 (nx_I) (kx_I ?_)
      rw [atF_in (by omega) (by omega)]
      have hFb := hm.2.2.2.2.2 (st b) (by omega) (by omega)
      refine r_iload_n dX3_lookForBlock_45 rfl ?_
      refine r_icmp_le (tgt := 51) dX3_lookForBlock_46 (by decide) (by omega) (by omega) (fun h46 => ?_) (fun h46 => ?_)
      ·
        refine r_iload_n dX3_lookForBlock_51 rfl ?_
        refine r_istore_n dX3_lookForBlock_52 (by decide) rfl ?_
        refine r_iinc dX3_lookForBlock_53 rfl rfl ?_
        refine r_goto (tgt := 16) dX3_lookForBlock_56 (by decide) ?_
        refine J.loc (lsub_cons rfl (lsub_cons rfl (lsub_cons (by rw [show b + 1 - 1 = b by omega]; rfl) (lsub_cons rfl lsub_nil)))) (ih16 (b + 1) (lc + 1) _ ?_ ?_)
        · refine ⟨by omega, by omega, hl1.up hi (by omega) _ _ _, hfr.up ⟨by omega, by omega⟩, by omega, ?_⟩
          rw [hq, show (nb - b).toNat = (nb - (b + 1)).toNat + 1 by omega, ff, if_neg (by simp; omega)]
        · omega
      ·
        refine r_iload_n dX3_lookForBlock_49 rfl ?_
        refine e_ireturn dX3_lookForBlock_50 rfl (Nat.le_of_ble_eq_true rfl) (Nat.le_of_ble_eq_true rfl) ?_
        rw [show (nb - b).toNat = (nb - (b + 1)).toNat + 1 by omega, ff, if_pos (by simp; omega)] at hq
        refine oktI (by rw [hq]) ⟨?_, hfr.up ⟨by omega, by omega⟩⟩
        rw [show lk + lpK nb st F x (batF nb st pl) = lc + 1 by unfold lpK; rw [hq, if_pos (by omega)]; omega]
        exact hl1.up hi (by omega) _ _ _
  · exact ⟨by omega, by omega, hl, FrI.rf, by omega, rfl⟩

set_option maxHeartbeats 4000000 in
theorem mX3_leapsTo {M : Mem} {ad : Int → Nat} {lo : Int} {mo : Nat} {nb : Int} {st : Int → Int} {pl lp lk : Int} {ma N : Nat} {n : Int} {F : Int → Int} {x : Int} (hl : LpP M ad lo mo nb st pl lp lk) (hm : Mb M mo ma N n F) (hi : Inj ad) (hlr : 94 ≤ lo ∧ lo + 3 ≤ 112) (hmd : mo ≠ ad lo ∧ ma ≠ ad lo) (hbk : BkS n nb st) (hx : R32 x) (hq0 : 0 < n → 0 ≤ pl ∧ pl < n) : Ct KX3_leapsTo [.ref (ad lo), vI x] M 0 0 (atI (bI (decide (0 ≤ (lpN n nb st F x (batF nb st pl)).1))) (fun M2 => LpP M2 ad lo mo nb st (if 0 ≤ (lpN n nb st F x (batF nb st pl)).1 then (lpN n nb st F x (batF nb st pl)).1 else pl) (lp + 1) (lk + (lpN n nb st F x (batF nb st pl)).2.1) ∧ FrI ad lo (lo + 1) M M2)) := by
  refine Ct.of _ (by decide) rfl (Nat.le_of_ble_eq_true rfl) ?_
  obtain ⟨hlo9, hbl⟩ := id hl
  have hmo := hm.1
  have hmn := hm.n0
  have hib := bI_r (decide (n = 0))
  have hl1 := hl.up hi (by omega) pl (lp + 1) lk
  have hm1 : Mb (up M (ad lo) (oC 3 [.ref (ad (lo + 1)), .ref mo, vI pl, vI (lp + 1), vI lk])) mo ma N n F := hm.frame (up_n _ hmd.1) (up_n _ hmd.2)
  have hnb : nb ≤ 60 := hbl.2.2.2.1
  have hfx : ∀ M1, FrI ad lo (lo + 1) M M1 → Mb M1 mo ma N n F := fun M1 hfr => hm.frame (hfr mo (fun i a b => by rw [show i = lo by omega]; exact hmd.1)) (hfr ma (fun i a b => by rw [show i = lo by omega]; exact hmd.2))
  have hfa : ∀ M1 x, FrI ad lo (lo + 1) M M1 → FrI ad lo (lo + 1) M (up M1 (ad lo) x) := fun M1 x h => h.up ⟨by omega, by omega⟩
  refine r_aload_n dX3_leapsTo_0 rfl ?_
  refine r_dup dX3_leapsTo_1 ?_
  refine r_getfield clX3 3 (by decide) fl_X3_29 hlo9 rfl dX3_leapsTo_2 ?_
  refine r_iconst dX3_leapsTo_5 ?_
  refine r_iadd dX3_leapsTo_6 ?_
  refine r_putfield clX3 3 (by decide) fl_X3_29 rfl hlo9 rfl rfl (Nat.le_of_ble_eq_true rfl) dX3_leapsTo_7 ?_
  refine r_aload_n dX3_leapsTo_10 rfl ?_
  refine r_getfield clX3 1 (by decide) fl_X3_21 (up_s _ _ _) rfl dX3_leapsTo_11 ?_
  refine r_callV0 okX5_isEmpty ⟨by decide, by decide⟩ ml_X3_52 (mX5_isEmpty hm1) hm1.1 rfl rfl (Nat.le_of_ble_eq_true rfl) (Nat.le_of_ble_eq_true rfl) (Nat.le_of_ble_eq_true rfl) rfl dX3_leapsTo_14 (nx_I) (kx_I ?_)
  refine r_if_eq (tgt := 22) dX3_leapsTo_17 (by decide) (by omega) (fun h17 => ?_) (fun h17 => ?_)
  ·
    have hne : ¬ n = 0 := fun e => by rw [e] at h17; simp [bI] at h17
    have hn : 0 < n := by omega
    have hqq := hq0 hn
    refine r_aload_n dX3_leapsTo_22 rfl ?_
    refine r_iload_n dX3_leapsTo_23 rfl ?_
    refine r_callV1 okX3_lookForBlock ⟨by decide, by decide⟩ ml_X3_56 (mX3_lookForBlock hl1 hm1 hi hlr hmd hbk hx (by omega) (by omega)) (up_s _ _ _) rfl rfl (Nat.le_of_ble_eq_true rfl) (Nat.le_of_ble_eq_true rfl) (Nat.le_of_ble_eq_true rfl) rfl dX3_leapsTo_24 (nx_tI) (kx_tI ?_)
    intro M2 hM2
    obtain ⟨q, hqd⟩ : ∃ q, q = lpQ nb st F x (batF nb st pl) := ⟨_, rfl⟩
    rw [← hqd]
    have hfr2 : FrI ad lo (lo + 1) M M2 := (FrI.rf.up ⟨by omega, by omega⟩).trans hM2.2
    obtain ⟨hq1, hq2, hq3⟩ := lpQ_r F x hbk (batF_r hbk (by omega) pl)
    rw [← hqd] at hq1 hq2 hq3
    have hbt := batF_r hbk (by omega) pl
    have hs0 := hbk.2.2.2.2.2.2.2.1 (q - 1) (by omega) (by omega)
    have hs1 : st q ≤ n := by
      by_cases e2 : q = nb
      · rw [e2, hbk.2.2.2.2.2.2.1]; omega
      · have := hbk.2.2.2.2.2.2.2.1 q (by omega) (by omega); omega
    have hs2 := hbk.2.2.2.2.2.2.2.2 (q - 1) q (by omega) (by omega) (by omega)
    refine r_istore_n dX3_leapsTo_27 (by decide) rfl ?_
    refine r_aload_n dX3_leapsTo_28 rfl ?_
    refine r_getfield clX3 0 (by decide) fl_X3_10 hM2.1.1 rfl dX3_leapsTo_29 ?_
    refine r_iload_n dX3_leapsTo_32 rfl ?_
    refine r_callV1 okX0_start ⟨by decide, by decide⟩ ml_X3_59 (mX0_start hM2.1.2 (by omega)) hM2.1.2.1 rfl rfl (Nat.le_of_ble_eq_true rfl) (Nat.le_of_ble_eq_true rfl) (Nat.le_of_ble_eq_true rfl) rfl dX3_leapsTo_33 (nx_I) (kx_I ?_)
    rw [staF_in (by omega) (by omega)]
    refine r_istore_n dX3_leapsTo_36 (by decide) rfl ?_
    refine J.loc (L' := [(0, some _), (1, some _), (2, some _), (3, some _)]) (lsub_cons rfl (lsub_cons rfl (lsub_cons rfl (lsub_cons rfl (lsub_nil))))) (loop3 (fun (i : Int) (lc : Int) (M1 : Mem) => st (q - 1) ≤ i ∧ i ≤ st q ∧ LpP M1 ad lo mo nb st pl (lp + 1) lc ∧ FrI ad lo (lo + 1) M M1 ∧ lc = lk + lpK nb st F x (batF nb st pl) + (i - st (q - 1)) ∧ lpR st F x q = ff (fun i => decide (x ≤ F i)) (st q - i).toNat i) (fun (i : Int) (lc : Int) (M1 : Mem) => (st q - i).toNat) (fun (i : Int) (lc : Int) (M1 : Mem) => J KX3_leapsTo 0 0 _ 37 [(0, some (.ref (ad lo))), (1, some (vI x)), (2, some (vI (q - 1))), (3, some (vI i))] [] M1 _ _) (fun i lc M1 hI37 ih37 => ?_) _ (lk + lpK nb st F x (batF nb st pl)) _ ?_)
    ·
      obtain ⟨hi0, hi1, hl3, hfr3, hlc, hr⟩ := hI37
      refine r_iload_n dX3_leapsTo_37 rfl ?_
      refine r_aload_n dX3_leapsTo_38 rfl ?_
      refine r_getfield clX3 0 (by decide) fl_X3_10 hl3.1 rfl dX3_leapsTo_39 ?_
      refine r_iload_n dX3_leapsTo_42 rfl ?_
      refine r_callV1 okX0_end ⟨by decide, by decide⟩ ml_X3_62 (mX0_end hl3.2 (by omega)) hl3.2.1 rfl rfl (Nat.le_of_ble_eq_true rfl) (Nat.le_of_ble_eq_true rfl) (Nat.le_of_ble_eq_true rfl) rfl dX3_leapsTo_43 (nx_I) (kx_I ?_)
      rw [show q - 1 + 1 = q by omega, staF_in (by omega) (by omega)]
      refine r_icmp_ge (tgt := 84) dX3_leapsTo_46 (by decide) (by omega) (by omega) (fun h46 => ?_) (fun h46 => ?_)
      ·
        refine r_iload_n dX3_leapsTo_84 rfl ?_
        refine r_iconst dX3_leapsTo_85 ?_
        refine r_iadd dX3_leapsTo_86 ?_
        refine r_aload_n dX3_leapsTo_87 rfl ?_
        refine r_getfield clX3 0 (by decide) fl_X3_10 hl3.1 rfl dX3_leapsTo_88 ?_
        refine r_callV0 okX0_amount ⟨by decide, by decide⟩ ml_X3_65 (mX0_amount hl3.2) hl3.2.1 rfl rfl (Nat.le_of_ble_eq_true rfl) (Nat.le_of_ble_eq_true rfl) (Nat.le_of_ble_eq_true rfl) rfl dX3_leapsTo_91 (nx_I) (kx_I ?_)
        refine r_icmp_lt (tgt := 99) dX3_leapsTo_94 (by decide) (by omega) (by omega) (fun h94 => ?_) (fun h94 => ?_)
        ·
          have hl4 := hl3.up hi (by omega) pl (lp + 1) (lc + 1)
          refine r_aload_n dX3_leapsTo_99 rfl ?_
          refine r_dup dX3_leapsTo_100 ?_
          refine r_getfield clX3 4 (by decide) fl_X3_32 hl3.1 rfl dX3_leapsTo_101 ?_
          refine r_iconst dX3_leapsTo_104 ?_
          refine r_iadd dX3_leapsTo_105 ?_
          refine r_putfield clX3 4 (by decide) fl_X3_32 rfl hl3.1 rfl rfl (Nat.le_of_ble_eq_true rfl) dX3_leapsTo_106 ?_
          refine r_aload_n dX3_leapsTo_109 rfl ?_
          refine r_aload_n dX3_leapsTo_110 rfl ?_
          refine r_getfield clX3 0 (by decide) fl_X3_10 (up_s _ _ _) rfl dX3_leapsTo_111 ?_
          refine r_iload_n dX3_leapsTo_114 rfl ?_
          refine r_iconst dX3_leapsTo_115 ?_
          refine r_iadd dX3_leapsTo_116 ?_
          refine r_callV1 okX0_start ⟨by decide, by decide⟩ ml_X3_59 (mX0_start hl4.2 (by omega)) hl4.2.1 rfl rfl (Nat.le_of_ble_eq_true rfl) (Nat.le_of_ble_eq_true rfl) (Nat.le_of_ble_eq_true rfl) rfl dX3_leapsTo_117 (nx_I) (kx_I ?_)
          rw [show q - 1 + 1 = q by omega, staF_in (by omega) (by omega)]
          refine r_putfield clX3 2 (by decide) fl_X3_25 rfl (up_s _ _ _) rfl rfl (Nat.le_of_ble_eq_true rfl) dX3_leapsTo_120 ?_
          refine r_iconst dX3_leapsTo_123 ?_
          refine e_zreturn dX3_leapsTo_124 rfl (by omega) (Nat.le_of_ble_eq_true rfl) (Nat.le_of_ble_eq_true rfl) ?_
          rw [show (st q - i).toNat = 0 by omega, ff] at hr
          have hsq := hbk.2.2.2.2.2.2.2.1 q (by omega) (by omega)
          rw [show lpN n nb st F x (batF nb st pl) = (st q, lpK nb st F x (batF nb st pl) + (st q - st (q - 1)) + 1, q) by unfold lpN lpF; rw [if_neg hne]; dsimp only; rw [← hqd, hr, if_neg (by omega), if_neg (by omega)]]
          refine oktI (by rw [decide_eq_true (by omega)]; rfl) ⟨?_, hfa _ _ (hfa _ _ hfr3)⟩
          rw [if_pos (by omega), show lk + (lpK nb st F x (batF nb st pl) + (st q - st (q - 1)) + 1) = lc + 1 by omega]
          exact hl4.up hi (by omega) (st q) (lp + 1) (lc + 1)
        ·
          refine r_iconst dX3_leapsTo_97 ?_
          refine e_zreturn dX3_leapsTo_98 rfl (by omega) (Nat.le_of_ble_eq_true rfl) (Nat.le_of_ble_eq_true rfl) ?_
          rw [show (st q - i).toNat = 0 by omega, ff] at hr
          rw [show lpN n nb st F x (batF nb st pl) = (-1, lpK nb st F x (batF nb st pl) + (st q - st (q - 1)), q - 1) by unfold lpN lpF; rw [if_neg hne]; dsimp only; rw [← hqd, hr, if_neg (by omega), if_pos (by omega)]]
          refine oktI rfl ⟨?_, hfr3⟩
          rw [if_neg (by omega), show lk + (lpK nb st F x (batF nb st pl) + (st q - st (q - 1))) = lc by omega]
          exact hl3
      ·
        refine r_aload_n dX3_leapsTo_49 rfl ?_
        refine r_dup dX3_leapsTo_50 ?_
        refine r_getfield clX3 4 (by decide) fl_X3_32 hl3.1 rfl dX3_leapsTo_51 ?_
        refine r_iconst dX3_leapsTo_54 ?_
        refine r_iadd dX3_leapsTo_55 ?_
        refine r_putfield clX3 4 (by decide) fl_X3_32 rfl hl3.1 rfl rfl (Nat.le_of_ble_eq_true rfl) dX3_leapsTo_56 ?_
        refine r_aload_n dX3_leapsTo_59 rfl ?_
        refine r_getfield clX3 1 (by decide) fl_X3_21 (up_s _ _ _) rfl dX3_leapsTo_60 ?_
        refine r_iload_n dX3_leapsTo_63 rfl ?_
        refine r_callV1 okX5_at ⟨by decide, by decide⟩ ml_X3_44 (mX5_at (hfx _ (hfa _ _ hfr3)) (by omega)) (hfx _ (hfa _ _ hfr3)).1 rfl rfl (Nat.le_of_ble_eq_true rfl) (Nat.le_of_ble_eq_true rfl) (Nat.le_of_ble_eq_true rfl) rfl dX3_leapsTo_64 (nx_I) (kx_I ?_)
        rw [atF_in (by omega) (by omega)]
        have hFb := hm.2.2.2.2.2 i (by omega) (by omega)
        refine r_iload_n dX3_leapsTo_67 rfl ?_
        refine r_icmp_lt (tgt := 78) dX3_leapsTo_68 (by decide) (by omega) (by omega) (fun h68 => ?_) (fun h68 => ?_)
        ·
          refine r_iinc dX3_leapsTo_78 rfl rfl ?_
          refine r_goto (tgt := 37) dX3_leapsTo_81 (by decide) ?_
          refine J.loc (lsub_cons rfl (lsub_cons rfl (lsub_cons rfl (lsub_cons rfl (lsub_nil))))) (ih37 _ (lc + 1) _ ?_ ?_)
          · refine ⟨by omega, by omega, hl3.up hi (by omega) _ _ _, hfa _ _ hfr3, by omega, ?_⟩
            rw [hr, show (st q - i).toNat = (st q - (i + 1)).toNat + 1 by omega, ff, if_neg (by simp; omega)]
          · omega
        ·
          refine r_aload_n dX3_leapsTo_71 rfl ?_
          refine r_iload_n dX3_leapsTo_72 rfl ?_
          refine r_putfield clX3 2 (by decide) fl_X3_25 rfl (up_s _ _ _) rfl rfl (Nat.le_of_ble_eq_true rfl) dX3_leapsTo_73 ?_
          refine r_iconst dX3_leapsTo_76 ?_
          refine e_zreturn dX3_leapsTo_77 rfl (by omega) (Nat.le_of_ble_eq_true rfl) (Nat.le_of_ble_eq_true rfl) ?_
          rw [show (st q - i).toNat = (st q - (i + 1)).toNat + 1 by omega, ff, if_pos (by simp; omega)] at hr
          rw [show lpN n nb st F x (batF nb st pl) = (i, lpK nb st F x (batF nb st pl) + (i - st (q - 1) + 1), q - 1) by unfold lpN lpF; rw [if_neg hne]; dsimp only; rw [← hqd, hr, if_pos (by omega)]]
          refine oktI (by rw [decide_eq_true (by omega)]; rfl) ⟨?_, hfa _ _ (hfa _ _ hfr3)⟩
          rw [if_pos (by omega), show lk + (lpK nb st F x (batF nb st pl) + (i - st (q - 1) + 1)) = lc + 1 by omega]
          exact (hl3.up hi (by omega) pl (lp + 1) (lc + 1)).up hi (by omega) i (lp + 1) (lc + 1)
    · exact ⟨by omega, by omega, hM2.1, hfr2, by omega, rfl⟩
  ·
    refine r_iconst dX3_leapsTo_20 ?_
    refine e_zreturn dX3_leapsTo_21 rfl (by omega) (Nat.le_of_ble_eq_true rfl) (Nat.le_of_ble_eq_true rfl) ?_
    have hn0 : n = 0 := by
      by_cases e : n = 0
      · exact e
      · exfalso; rw [decide_eq_false e] at h17; exact h17 rfl
    rw [show lpN n nb st F x (batF nb st pl) = (-1, 0, batF nb st pl) by unfold lpN; rw [if_pos hn0]]
    refine oktI rfl ⟨?_, FrI.rf.up ⟨by omega, by omega⟩⟩
    rw [if_neg (by omega), show lk + 0 = lk by omega]
    exact hl1

set_option maxHeartbeats 4000000 in
theorem mX3_begin {M : Mem} {ad : Int → Nat} {n : Int → Int} {F : Int → Int → Int} {g : Int → Int} {lo k : Int} (hw : LpW M ad lo) (hst : StP M ad 1 n F g) (hi : Inj ad) (hlr : 94 ≤ lo ∧ lo + 3 ≤ 112) (q0 : 0 ≤ k) (q1 : k < 4) (hg0 : 2 ≤ g 0 ∧ g 0 ≤ 16) (hg1 : 1 ≤ g 1 ∧ g 1 ≤ 9999) : Ct KX3_begin [.ref (ad lo), .ref (ad 1), vI k] M 0 0 (atV (fun M2 => LpP M2 ad lo (ad (1 + 2 + k)) (nbF (n k) (F k) (g 0) (g 1)) (stF (n k) (F k) (g 0) (g 1)) 0 0 0 ∧ FrI ad lo (lo + 3) M M2)) := by
  refine Ct.of _ (by decide) rfl (Nat.le_of_ble_eq_true rfl) ?_
  obtain ⟨⟨v0, pl, lp, lk, hlo9⟩, hbw⟩ := id hw
  have hso := hst.1
  refine r_aload_n dX3_begin_0 rfl ?_
  refine r_aload_n dX3_begin_1 rfl ?_
  refine r_iload_n dX3_begin_2 rfl ?_
  refine r_callV1 okX7_members ⟨by decide, by decide⟩ ml_X3_35 (mX7_members hst q0 q1) (by first | assumption | exact up_s _ _ _ | exact (up_n _ (by assumption)).trans (by assumption) | exact (up_n _ (by assumption)).trans (up_s _ _ _) | exact (up_n _ (by assumption)).trans ((up_n _ (by assumption)).trans (by assumption))) rfl rfl (Nat.le_of_ble_eq_true rfl) (Nat.le_of_ble_eq_true rfl) (Nat.le_of_ble_eq_true rfl) rfl dX3_begin_3 (nx_A) (kx_A ?_)
  refine r_putfield clX3 1 (by decide) fl_X3_21 rfl (by first | assumption | exact up_s _ _ _ | exact (up_n _ (by assumption)).trans (by assumption) | exact (up_n _ (by assumption)).trans (up_s _ _ _) | exact (up_n _ (by assumption)).trans ((up_n _ (by assumption)).trans (by assumption))) rfl rfl (Nat.le_of_ble_eq_true rfl) dX3_begin_6 ?_
  have hst1 : StP (up M (ad lo) (oC 3 [.ref (ad (lo + 1)), .ref (ad (1 + 2 + k)), vI pl, vI lp, vI lk])) ad 1 n F g := hst.frame (fun i a b => up_n _ (hi.ne ⟨by omega, by omega⟩ ⟨by omega, by omega⟩ (by omega)))
  have hbw1 : BlW (up M (ad lo) (oC 3 [.ref (ad (lo + 1)), .ref (ad (1 + 2 + k)), vI pl, vI lp, vI lk])) ad (lo + 1) := hbw.frame (up_n _ (hi.ne ⟨by omega, by omega⟩ ⟨by omega, by omega⟩ (by omega))) (up_n _ (hi.ne ⟨by omega, by omega⟩ ⟨by omega, by omega⟩ (by omega)))
  obtain ⟨v9, am9, f9, hbo9, hba9⟩ := id hbw1
  refine r_aload_n dX3_begin_9 rfl ?_
  refine r_getfield clX3 0 (by decide) fl_X3_10 (by first | assumption | exact up_s _ _ _ | exact (up_n _ (by assumption)).trans (by assumption) | exact (up_n _ (by assumption)).trans (up_s _ _ _) | exact (up_n _ (by assumption)).trans ((up_n _ (by assumption)).trans (by assumption))) rfl dX3_begin_10 ?_
  refine r_aload_n dX3_begin_13 rfl ?_
  refine r_iload_n dX3_begin_14 rfl ?_
  refine r_callV2 okX0_cut ⟨by decide, by decide⟩ ml_X3_40 (mX0_cut hbw1 hst1 hi (by omega) q0 q1 hg0 hg1) hbo9 rfl rfl (Nat.le_of_ble_eq_true rfl) (Nat.le_of_ble_eq_true rfl) (Nat.le_of_ble_eq_true rfl) rfl dX3_begin_15 (nx_tI) (kx_tI ?_)
  intro M2 hM2
  have hlo2 : M2 (ad lo) = some (oC 3 [.ref (ad (lo + 1)), .ref (ad (1 + 2 + k)), vI pl, vI lp, vI lk]) := (hM2.2.at hi ⟨by omega, by omega⟩ ⟨by omega, by omega⟩ (by omega)).trans (up_s _ _ _)
  have hl2 : LpP M2 ad lo (ad (1 + 2 + k)) (nbF (n k) (F k) (g 0) (g 1)) (stF (n k) (F k) (g 0) (g 1)) pl lp lk := ⟨hlo2, hM2.1⟩
  have hfr2 : FrI ad lo (lo + 3) M M2 := (FrI.rf.up ⟨by omega, by omega⟩).trans (hM2.2.mono (by omega) (by omega))
  refine r_popI dX3_begin_18 ?_
  refine r_aload_n dX3_begin_19 rfl ?_
  refine r_iconst dX3_begin_20 ?_
  refine r_putfield clX3 2 (by decide) fl_X3_25 rfl hlo2 rfl rfl (Nat.le_of_ble_eq_true rfl) dX3_begin_21 ?_
  refine r_aload_n dX3_begin_24 rfl ?_
  refine r_iconst dX3_begin_25 ?_
  refine r_putfield clX3 3 (by decide) fl_X3_29 rfl (by first | assumption | exact up_s _ _ _ | exact (up_n _ (by assumption)).trans (by assumption) | exact (up_n _ (by assumption)).trans (up_s _ _ _) | exact (up_n _ (by assumption)).trans ((up_n _ (by assumption)).trans (by assumption))) rfl rfl (Nat.le_of_ble_eq_true rfl) dX3_begin_26 ?_
  refine r_aload_n dX3_begin_29 rfl ?_
  refine r_iconst dX3_begin_30 ?_
  refine r_putfield clX3 4 (by decide) fl_X3_32 rfl (by first | assumption | exact up_s _ _ _ | exact (up_n _ (by assumption)).trans (by assumption) | exact (up_n _ (by assumption)).trans (up_s _ _ _) | exact (up_n _ (by assumption)).trans ((up_n _ (by assumption)).trans (by assumption))) rfl rfl (Nat.le_of_ble_eq_true rfl) dX3_begin_31 ?_
  refine e_return dX3_begin_34 rfl (Nat.le_of_ble_eq_true rfl) (Nat.le_of_ble_eq_true rfl) ?_
  exact oktV ⟨((hl2.up hi (by omega) 0 lp lk).up hi (by omega) 0 0 lk).up hi (by omega) 0 0 0, ((hfr2.up ⟨by omega, by omega⟩).up ⟨by omega, by omega⟩).up ⟨by omega, by omega⟩⟩
