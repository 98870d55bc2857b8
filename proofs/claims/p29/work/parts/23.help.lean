/-! numbers about all sets -/
def hdF (n : Int → Int) (F : Int → Int → Int) (x e : Int) : Int := smF (fun k => bI (hasF (n k) (F k) x)) e.toNat 0
theorem hdF_r (n : Int → Int) (F : Int → Int → Int) (x : Int) {e : Int} (h : 0 ≤ e) : 0 ≤ hdF n F x e ∧ hdF n F x e ≤ e := by
  have := smF_r (f := fun k => bI (hasF (n k) (F k) x)) (lo := 0) (hi := 1) e.toNat 0 (fun j _ _ => bI_r _)
  unfold hdF
  omega
def ulF (n : Int → Int) (F : Int → Int → Int) (k : Int) : Int := smF (fun p => if hdF n F (F k p) k = 0 then 1 else 0) (n k).toNat 0
def maF (n : Int → Int) (F : Int → Int → Int) : Int := smF (fun p => if hdF n F (F 3 p) 3 = 3 then 1 else 0) (n 3).toNat 0
def szA (n : Int → Int) (F : Int → Int → Int) (g : Int → Int) (w : Int) : Int := smF (fun k => byF (n k) (F k) (g 0) w (n k).toNat 0 0) 4 0
def abF (n : Int → Int) (F : Int → Int → Int) (g : Int → Int) : Int := smF (fun k => nbF (n k) (F k) (g 0) (g 1)) 4 0
def plF (n : Int → Int) (F : Int → Int → Int) (i : Int) : Int := smF (fun j => bI (likeF (n i) (F i) (n j) (F j))) (4 - (i + 1)).toNat (i + 1)
def gwI (n : Int) (F : Int → Int) : Nat → Int → Int → (Int → Int) → Int × (Int → Int)
  | 0, _, m, G => (m, G)
  | k + 1, p, m, G => gwI n F k (p + 1) (putN 241 m G (gapF n F p)) (putF 241 m G (gapF n F p))
def gwO (n : Int → Int) (F : Int → Int → Int) : Nat → Int → Int → (Int → Int) → Int × (Int → Int)
  | 0, _, m, G => (m, G)
  | k + 1, i, m, G => gwO n F k (i + 1) (gwI (n i) (F i) (n i - 1).toNat 1 m G).1 (gwI (n i) (F i) (n i - 1).toNat 1 m G).2
def gwF (n : Int → Int) (F : Int → Int → Int) : Int × (Int → Int) := gwO n F 4 0 (putN 241 0 (fun _ => 0) 1) (putF 241 0 (fun _ => 0) 1)
def bwF (W sz : Int → Int) : Nat → Int → Int → Int → Int
  | 0, _, b, _ => b
  | k + 1, p, b, s => if sz (W p) < s then bwF W sz k (p + 1) (W p) (sz (W p)) else bwF W sz k (p + 1) b s
def bwV (n : Int → Int) (F : Int → Int → Int) (g : Int → Int) : Int := bwF (gwF n F).2 (szA n F g) ((gwF n F).1 - 1).toNat 1 1 (szA n F g 1)
def cntV (n : Int → Int) (F : Int → Int → Int) (g : Int → Int) (m w : Int) : Int :=
  if w = 0 then smF n 4 0 else if w = 1 then smF (ulF n F) 4 0 else if w = 2 then maF n F else if w = 3 then szA n F g (g 1) else if w = 4 then abF n F g else if w = 5 then smF (plF n F) 4 0 else m
def iaV (n : Int) (F : Int → Int) (g : Int → Int) (x : Int) : Int := szF (putN 120 n F x) (putF 120 n F x) g - szF n F g
def drS (n : Int) (F : Int → Int) (g : Int → Int) (p : Int) : Int := szF (cutP n F (F p) (F p)).1 (cutP n F (F p) (F p)).2 g
def drF (n : Int) (F : Int → Int) (g : Int → Int) : Nat → Int → Int → Int → Int × Int
  | 0, _, d, s => (d, s)
  | k + 1, p, d, s => if p = 0 ∨ drS n F g p < s then drF n F g k (p + 1) (F p) (drS n F g p) else drF n F g k (p + 1) d s
def drV (n : Int) (F : Int → Int) (g : Int → Int) (w : Int) : Int := if w = 0 then (drF n F g n.toNat 0 (-1) (-1)).1 else (drF n F g n.toNat 0 (-1) (-1)).2
theorem szF_r {n : Int} (h : 0 ≤ n) (F g : Int → Int) : 0 ≤ szF n F g ∧ szF n F g ≤ 3 * n := by
  have := byF_r n F (g 0) (g 1) n.toNat 0 0
  unfold szF
  omega
theorem szA_r {n : Int → Int} {F : Int → Int → Int} {g : Int → Int} (h : ∀ j, 0 ≤ j → j < 4 → 0 ≤ n j ∧ n j ≤ 300) (w : Int) : 0 ≤ szA n F g w ∧ szA n F g w ≤ 3600 := by
  have := smF_r (f := fun k => byF (n k) (F k) (g 0) w (n k).toNat 0 0) (lo := 0) (hi := 900) 4 0 (fun j a b => by
    have h1 := byF_r (n j) (F j) (g 0) w (n j).toNat 0 0
    have h2 := h j a (by omega)
    show 0 ≤ byF (n j) (F j) (g 0) w (n j).toNat 0 0 ∧ byF (n j) (F j) (g 0) w (n j).toNat 0 0 ≤ 900
    omega)
  unfold szA
  omega
set_option maxHeartbeats 4000000 in
theorem mX8_holdersAhead {M : Mem} {ad : Int → Nat} {n : Int → Int} {F : Int → Int → Int} {g : Int → Int} {m : Int} {S : Int → Sg3} {len : Int} {c : Int → Int} {e x : Int} (hx : XSt M ad (n, F, g) m S len c) (hv : Vld (n, F, g)) (hi : Inj ad) (q0 : 0 ≤ e ∧ e ≤ 4) (q1 : R32 x) : Ct KX8_holdersAhead [.ref (ad 0), vI e, vI x] M 0 0 (rtI (hdF n F x e) M) := by
  refine Ct.of _ (by decide) rfl (Nat.le_of_ble_eq_true rfl) ?_
  obtain ⟨h00, hst, hhs, hbf, hpw, hbw, hmw, ⟨tn, tF, htr⟩, ⟨wn, wF, hwi⟩⟩ := id hx
  obtain ⟨hvs, hv0, hv1, hv2, hv3⟩ := id hv
  change StP _ ad 1 n F g at hst
  dsimp only at hvs hv0 hv1 hv2 hv3
  have hob1 := hst.1
  obtain ⟨hh_1, hh_2, hh_3, hh_4, hh_5, hho, -⟩ := id hhs
  have hob94 := hbf.1
  obtain ⟨⟨y1, y2, y3, y4, y5, y6, hob96⟩, -, -⟩ := id hpw
  obtain ⟨z1, z2, z3, hob99, -⟩ := id hbw
  obtain ⟨⟨u1, hob101⟩, -, -⟩ := id hmw
  have hob108 := htr.1
  have hob110 := hwi.1
  refine r_iconst dX8_holdersAhead_0 ?_
  refine r_istore_n dX8_holdersAhead_1 (by decide) rfl ?_
  refine r_iconst dX8_holdersAhead_2 ?_
  refine r_istore dX8_holdersAhead_3 (by decide) rfl ?_
  refine J.loc (L' := [(0, some _), (1, some _), (2, some _), (3, some _), (4, some _)]) (lsub_cons rfl (lsub_cons rfl (lsub_cons rfl (lsub_cons rfl (lsub_cons rfl (lsub_nil)))))) (loop2 (fun (i : Int) (y : Int) => 0 ≤ i ∧ i ≤ e ∧ 0 ≤ y ∧ y ≤ i ∧ hdF n F x e = y + smF (fun k => bI (hasF (n k) (F k) x)) (e - i).toNat i) (fun (i : Int) (y : Int) => (e - i).toNat) (fun (i : Int) (y : Int) => J KX8_holdersAhead 0 0 _ 5 [(0, some (.ref (ad 0))), (1, some (vI e)), (2, some (vI x)), (3, some (vI y)), (4, some (vI i))] [] M _ _) (fun i y hI5 ih5 => ?_) _ _ ?_)
  ·
    obtain ⟨hi0, hi1, hy0, hy1, hy⟩ := hI5
    refine r_iload dX8_holdersAhead_5 rfl ?_
    refine r_iload_n dX8_holdersAhead_7 rfl ?_
    refine r_icmp_ge (tgt := 36) dX8_holdersAhead_8 (by decide) (by omega) (by omega) (fun h8 => ?_) (fun h8 => ?_)
    ·
      refine r_iload_n dX8_holdersAhead_36 rfl ?_
      refine e_ireturn dX8_holdersAhead_37 rfl (Nat.le_of_ble_eq_true rfl) (Nat.le_of_ble_eq_true rfl) ?_
      exact okI (by rw [hy, show (e - i).toNat = 0 by omega, smF]; omega)
    ·
      refine r_aload_n dX8_holdersAhead_11 rfl ?_
      refine r_getfield clX8 0 (by decide) fl_X8_10 (by first | assumption | exact up_s _ _ _ | exact (up_n _ (by assumption)).trans (by assumption) | exact (up_n _ (by assumption)).trans (up_s _ _ _) | exact (up_n _ (by assumption)).trans ((up_n _ (by assumption)).trans (by assumption))) rfl dX8_holdersAhead_12 ?_
      refine r_iload dX8_holdersAhead_15 rfl ?_
      refine r_callV1 okX7_members ⟨by decide, by decide⟩ ml_X8_69 (mX7_members hst (k := i) (by omega) (by omega)) (by first | assumption | exact up_s _ _ _ | exact (up_n _ (by assumption)).trans (by assumption) | exact (up_n _ (by assumption)).trans (up_s _ _ _) | exact (up_n _ (by assumption)).trans ((up_n _ (by assumption)).trans (by assumption))) rfl rfl (Nat.le_of_ble_eq_true rfl) (Nat.le_of_ble_eq_true rfl) (Nat.le_of_ble_eq_true rfl) rfl dX8_holdersAhead_17 (nx_A) (kx_A ?_)
      have hmk := hst.mb (k := i) (by omega) (by omega)
      have hmo := hmk.1
      have hmn : 0 ≤ n (i) ∧ n (i) ≤ 60 := by have h60 := hmk.2.2.2.1; have h59 := hmk.2.2.1; omega
      refine r_iload_n dX8_holdersAhead_20 rfl ?_
      refine r_callV1 okX5_holds ⟨by decide, by decide⟩ ml_X8_73 (mX5_holds hmk (by omega)) (by first | assumption | exact up_s _ _ _ | exact (up_n _ (by assumption)).trans (by assumption) | exact (up_n _ (by assumption)).trans (up_s _ _ _) | exact (up_n _ (by assumption)).trans ((up_n _ (by assumption)).trans (by assumption))) rfl rfl (Nat.le_of_ble_eq_true rfl) (Nat.le_of_ble_eq_true rfl) (Nat.le_of_ble_eq_true rfl) rfl dX8_holdersAhead_21 (nx_I) (kx_I ?_)
      have hbb := bI_r (hasF (n i) (F i) x)
      refine r_if_eq (tgt := 30) dX8_holdersAhead_24 (by decide) (by omega) (fun h24 => ?_) (fun h24 => ?_)
      ·
        refine r_iinc dX8_holdersAhead_30 rfl rfl ?_
        refine r_goto (tgt := 5) dX8_holdersAhead_33 (by decide) ?_
        refine J.loc (lsub_cons rfl (lsub_cons rfl (lsub_cons rfl (lsub_cons rfl (lsub_cons rfl (lsub_nil)))))) (ih5 _ _ ?_ ?_)
        · refine ⟨by omega, by omega, by omega, by omega, ?_⟩
          rw [hy, show (e - i).toNat = (e - (i + 1)).toNat + 1 by omega, smF]
          omega
        · omega
      ·
        refine r_iinc dX8_holdersAhead_27 rfl rfl ?_
        refine r_iinc dX8_holdersAhead_30 rfl rfl ?_
        refine r_goto (tgt := 5) dX8_holdersAhead_33 (by decide) ?_
        refine J.loc (lsub_cons rfl (lsub_cons rfl (lsub_cons rfl (lsub_cons rfl (lsub_cons rfl (lsub_nil)))))) (ih5 _ _ ?_ ?_)
        · refine ⟨by omega, by omega, by omega, by omega, ?_⟩
          rw [hy, show (e - i).toNat = (e - (i + 1)).toNat + 1 by omega, smF]
          omega
        · omega
  · exact ⟨by omega, by omega, by omega, by omega, by unfold hdF; simp⟩

set_option maxHeartbeats 4000000 in
theorem mX8_allMembers {M : Mem} {ad : Int → Nat} {n : Int → Int} {F : Int → Int → Int} {g : Int → Int} {m : Int} {S : Int → Sg3} {len : Int} {c : Int → Int} (hx : XSt M ad (n, F, g) m S len c) (hv : Vld (n, F, g)) (hi : Inj ad) : Ct KX8_allMembers [.ref (ad 0)] M 0 0 (rtI (smF n 4 0) M) := by
  refine Ct.of _ (by decide) rfl (Nat.le_of_ble_eq_true rfl) ?_
  obtain ⟨h00, hst, hhs, hbf, hpw, hbw, hmw, ⟨tn, tF, htr⟩, ⟨wn, wF, hwi⟩⟩ := id hx
  obtain ⟨hvs, hv0, hv1, hv2, hv3⟩ := id hv
  change StP _ ad 1 n F g at hst
  dsimp only at hvs hv0 hv1 hv2 hv3
  have hob1 := hst.1
  obtain ⟨hh_1, hh_2, hh_3, hh_4, hh_5, hho, -⟩ := id hhs
  have hob94 := hbf.1
  obtain ⟨⟨y1, y2, y3, y4, y5, y6, hob96⟩, -, -⟩ := id hpw
  obtain ⟨z1, z2, z3, hob99, -⟩ := id hbw
  obtain ⟨⟨u1, hob101⟩, -, -⟩ := id hmw
  have hob108 := htr.1
  have hob110 := hwi.1
  refine r_iconst dX8_allMembers_0 ?_
  refine r_istore_n dX8_allMembers_1 (by decide) rfl ?_
  refine r_iconst dX8_allMembers_2 ?_
  refine r_istore_n dX8_allMembers_3 (by decide) rfl ?_
  refine J.loc (L' := [(0, some _), (1, some _), (2, some _)]) (lsub_cons rfl (lsub_cons rfl (lsub_cons rfl (lsub_nil)))) (loop2 (fun (i : Int) (y : Int) => 0 ≤ i ∧ i ≤ 4 ∧ 0 ≤ y ∧ y ≤ 300 * i ∧ smF n 4 0 = y + smF n (4 - i).toNat i) (fun (i : Int) (y : Int) => (4 - i).toNat) (fun (i : Int) (y : Int) => J KX8_allMembers 0 0 _ 4 [(0, some (.ref (ad 0))), (1, some (vI y)), (2, some (vI i))] [] M _ _) (fun i y hI4 ih4 => ?_) _ _ ?_)
  ·
    obtain ⟨hi0, hi1, hy0, hy1, hy⟩ := hI4
    refine r_iload_n dX8_allMembers_4 rfl ?_
    refine r_iconst dX8_allMembers_5 ?_
    refine r_icmp_ge (tgt := 29) dX8_allMembers_6 (by decide) (by omega) (by omega) (fun h6 => ?_) (fun h6 => ?_)
    ·
      refine r_iload_n dX8_allMembers_29 rfl ?_
      refine e_ireturn dX8_allMembers_30 rfl (Nat.le_of_ble_eq_true rfl) (Nat.le_of_ble_eq_true rfl) ?_
      exact okI (by rw [hy, show ((4 : Int) - i).toNat = 0 by omega, smF]; omega)
    ·
      refine r_iload_n dX8_allMembers_9 rfl ?_
      refine r_aload_n dX8_allMembers_10 rfl ?_
      refine r_getfield clX8 0 (by decide) fl_X8_10 (by first | assumption | exact up_s _ _ _ | exact (up_n _ (by assumption)).trans (by assumption) | exact (up_n _ (by assumption)).trans (up_s _ _ _) | exact (up_n _ (by assumption)).trans ((up_n _ (by assumption)).trans (by assumption))) rfl dX8_allMembers_11 ?_
      refine r_iload_n dX8_allMembers_14 rfl ?_
      refine r_callV1 okX7_members ⟨by decide, by decide⟩ ml_X8_69 (mX7_members hst (k := i) (by omega) (by omega)) (by first | assumption | exact up_s _ _ _ | exact (up_n _ (by assumption)).trans (by assumption) | exact (up_n _ (by assumption)).trans (up_s _ _ _) | exact (up_n _ (by assumption)).trans ((up_n _ (by assumption)).trans (by assumption))) rfl rfl (Nat.le_of_ble_eq_true rfl) (Nat.le_of_ble_eq_true rfl) (Nat.le_of_ble_eq_true rfl) rfl dX8_allMembers_15 (nx_A) (kx_A ?_)
      have hmk := hst.mb (k := i) (by omega) (by omega)
      have hmo := hmk.1
      have hmn : 0 ≤ n (i) ∧ n (i) ≤ 60 := by have h60 := hmk.2.2.2.1; have h59 := hmk.2.2.1; omega
      refine r_callV0 okX5_amount ⟨by decide, by decide⟩ ml_X8_77 (mX5_amount hmk) (by first | assumption | exact up_s _ _ _ | exact (up_n _ (by assumption)).trans (by assumption) | exact (up_n _ (by assumption)).trans (up_s _ _ _) | exact (up_n _ (by assumption)).trans ((up_n _ (by assumption)).trans (by assumption))) rfl rfl (Nat.le_of_ble_eq_true rfl) (Nat.le_of_ble_eq_true rfl) (Nat.le_of_ble_eq_true rfl) rfl dX8_allMembers_18 (nx_I) (kx_I ?_)
      refine r_iadd dX8_allMembers_21 ?_
      refine r_istore_n dX8_allMembers_22 (by decide) rfl ?_
      refine r_iinc dX8_allMembers_23 rfl rfl ?_
      refine r_goto (tgt := 4) dX8_allMembers_26 (by decide) ?_
      refine J.loc (lsub_cons rfl (lsub_cons rfl (lsub_cons rfl (lsub_nil)))) (ih4 _ _ ?_ ?_)
      · refine ⟨by omega, by omega, by omega, by omega, ?_⟩
        rw [hy, show ((4 : Int) - i).toNat = (4 - (i + 1)).toNat + 1 by omega, smF]
        omega
      · omega
  · exact ⟨by omega, by omega, by omega, by omega, (by rw [show ((4 : Int) - 0).toNat = 4 from rfl]; omega)⟩

set_option maxHeartbeats 4000000 in
theorem mX8_unlikeMembers {M : Mem} {ad : Int → Nat} {n : Int → Int} {F : Int → Int → Int} {g : Int → Int} {m : Int} {S : Int → Sg3} {len : Int} {c : Int → Int} (hx : XSt M ad (n, F, g) m S len c) (hv : Vld (n, F, g)) (hi : Inj ad) : Ct KX8_unlikeMembers [.ref (ad 0)] M 0 0 (rtI (smF (ulF n F) 4 0) M) := by
  refine Ct.of _ (by decide) rfl (Nat.le_of_ble_eq_true rfl) ?_
  obtain ⟨h00, hst, hhs, hbf, hpw, hbw, hmw, ⟨tn, tF, htr⟩, ⟨wn, wF, hwi⟩⟩ := id hx
  obtain ⟨hvs, hv0, hv1, hv2, hv3⟩ := id hv
  change StP _ ad 1 n F g at hst
  dsimp only at hvs hv0 hv1 hv2 hv3
  have hob1 := hst.1
  obtain ⟨hh_1, hh_2, hh_3, hh_4, hh_5, hho, -⟩ := id hhs
  have hob94 := hbf.1
  obtain ⟨⟨y1, y2, y3, y4, y5, y6, hob96⟩, -, -⟩ := id hpw
  obtain ⟨z1, z2, z3, hob99, -⟩ := id hbw
  obtain ⟨⟨u1, hob101⟩, -, -⟩ := id hmw
  have hob108 := htr.1
  have hob110 := hwi.1
  refine r_iconst dX8_unlikeMembers_0 ?_
  refine r_istore_n dX8_unlikeMembers_1 (by decide) rfl ?_
  refine r_iconst dX8_unlikeMembers_2 ?_
  refine r_istore_n dX8_unlikeMembers_3 (by decide) rfl ?_
  refine J.loc (L' := [(0, some _), (1, some _), (2, some _)]) (lsub_cons rfl (lsub_cons rfl (lsub_cons rfl (lsub_nil)))) (loop2 (fun (i : Int) (y : Int) => 0 ≤ i ∧ i ≤ 4 ∧ 0 ≤ y ∧ y ≤ 300 * i ∧ smF (ulF n F) 4 0 = y + smF (ulF n F) (4 - i).toNat i) (fun (i : Int) (y : Int) => (4 - i).toNat) (fun (i : Int) (y : Int) => J KX8_unlikeMembers 0 0 _ 4 [(0, some (.ref (ad 0))), (1, some (vI y)), (2, some (vI i))] [] M _ _) (fun i y hI4 ih4 => ?_) _ _ ?_)
  ·
    obtain ⟨hi0, hi1, hy0, hy1, hy⟩ := hI4
    refine r_iload_n dX8_unlikeMembers_4 rfl ?_
    refine r_iconst dX8_unlikeMembers_5 ?_
    refine r_icmp_ge (tgt := 59) dX8_unlikeMembers_6 (by decide) (by omega) (by omega) (fun h6 => ?_) (fun h6 => ?_)
    ·
      refine r_iload_n dX8_unlikeMembers_59 rfl ?_
      refine e_ireturn dX8_unlikeMembers_60 rfl (Nat.le_of_ble_eq_true rfl) (Nat.le_of_ble_eq_true rfl) ?_
      exact okI (by rw [hy, show ((4 : Int) - i).toNat = 0 by omega, smF]; omega)
    ·
      refine r_aload_n dX8_unlikeMembers_9 rfl ?_
      refine r_getfield clX8 0 (by decide) fl_X8_10 (by first | assumption | exact up_s _ _ _ | exact (up_n _ (by assumption)).trans (by assumption) | exact (up_n _ (by assumption)).trans (up_s _ _ _) | exact (up_n _ (by assumption)).trans ((up_n _ (by assumption)).trans (by assumption))) rfl dX8_unlikeMembers_10 ?_
      refine r_iload_n dX8_unlikeMembers_13 rfl ?_
      refine r_callV1 okX7_members ⟨by decide, by decide⟩ ml_X8_69 (mX7_members hst (k := i) (by omega) (by omega)) (by first | assumption | exact up_s _ _ _ | exact (up_n _ (by assumption)).trans (by assumption) | exact (up_n _ (by assumption)).trans (up_s _ _ _) | exact (up_n _ (by assumption)).trans ((up_n _ (by assumption)).trans (by assumption))) rfl rfl (Nat.le_of_ble_eq_true rfl) (Nat.le_of_ble_eq_true rfl) (Nat.le_of_ble_eq_true rfl) rfl dX8_unlikeMembers_14 (nx_A) (kx_A ?_)
      have hmk := hst.mb (k := i) (by omega) (by omega)
      have hmo := hmk.1
      have hmn : 0 ≤ n (i) ∧ n (i) ≤ 60 := by have h60 := hmk.2.2.2.1; have h59 := hmk.2.2.1; omega
      refine r_astore_n dX8_unlikeMembers_17 (by decide) rfl ?_
      refine r_iconst dX8_unlikeMembers_18 ?_
      refine r_istore dX8_unlikeMembers_19 (by decide) rfl ?_
      refine J.loc (L' := [(0, some _), (1, some _), (2, some _), (3, some _), (4, some _)]) (lsub_cons rfl (lsub_cons rfl (lsub_cons rfl (lsub_cons rfl (lsub_cons rfl (lsub_nil)))))) (loop2 (fun (p : Int) (z : Int) => 0 ≤ p ∧ p ≤ n i ∧ y ≤ z ∧ z ≤ y + p ∧ y + ulF n F i = z + smF (fun p => if hdF n F (F i p) i = 0 then (1 : Int) else 0) (n i - p).toNat p) (fun (p : Int) (z : Int) => (n i - p).toNat) (fun (p : Int) (z : Int) => J KX8_unlikeMembers 0 0 _ 21 [(0, some (.ref (ad 0))), (1, some (vI z)), (2, some (vI i)), (3, some (.ref (ad (1 + 2 + i)))), (4, some (vI p))] [] M _ _) (fun p z hI21 ih21 => ?_) _ _ ?_)
      ·
        obtain ⟨hp0, hp1, hz0, hz1, hz⟩ := hI21
        refine r_iload dX8_unlikeMembers_21 rfl ?_
        refine r_aload_n dX8_unlikeMembers_23 rfl ?_
        refine r_callV0 okX5_amount ⟨by decide, by decide⟩ ml_X8_77 (mX5_amount hmk) (by first | assumption | exact up_s _ _ _ | exact (up_n _ (by assumption)).trans (by assumption) | exact (up_n _ (by assumption)).trans (up_s _ _ _) | exact (up_n _ (by assumption)).trans ((up_n _ (by assumption)).trans (by assumption))) rfl rfl (Nat.le_of_ble_eq_true rfl) (Nat.le_of_ble_eq_true rfl) (Nat.le_of_ble_eq_true rfl) rfl dX8_unlikeMembers_24 (nx_I) (kx_I ?_)
        refine r_icmp_ge (tgt := 53) dX8_unlikeMembers_27 (by decide) (by omega) (by omega) (fun h27 => ?_) (fun h27 => ?_)
        ·
          refine r_iinc dX8_unlikeMembers_53 rfl rfl ?_
          refine r_goto (tgt := 4) dX8_unlikeMembers_56 (by decide) ?_
          refine J.loc (lsub_cons rfl (lsub_cons rfl (lsub_cons rfl (lsub_nil)))) (ih4 _ _ ?_ ?_)
          · refine ⟨by omega, by omega, by omega, by omega, ?_⟩
            rw [hy, show ((4 : Int) - i).toNat = (4 - (i + 1)).toNat + 1 by omega, smF]
            rw [show (n i - p).toNat = 0 by omega, smF] at hz
            omega
          · omega
        ·
          refine r_aload_n dX8_unlikeMembers_30 rfl ?_
          refine r_iload_n dX8_unlikeMembers_31 rfl ?_
          refine r_aload_n dX8_unlikeMembers_32 rfl ?_
          refine r_iload dX8_unlikeMembers_33 rfl ?_
          refine r_callV1 okX5_at ⟨by decide, by decide⟩ ml_X8_160 (mX5_at hmk (by omega)) (by first | assumption | exact up_s _ _ _ | exact (up_n _ (by assumption)).trans (by assumption) | exact (up_n _ (by assumption)).trans (up_s _ _ _) | exact (up_n _ (by assumption)).trans ((up_n _ (by assumption)).trans (by assumption))) rfl rfl (Nat.le_of_ble_eq_true rfl) (Nat.le_of_ble_eq_true rfl) (Nat.le_of_ble_eq_true rfl) rfl dX8_unlikeMembers_35 (nx_I) (kx_I ?_)
          have hat := hmk.at p
          rw [atF_in hp0 (by omega)] at hat ⊢
          refine r_callV2 okX8_holdersAhead ⟨by decide, by decide⟩ ml_X8_286 (mX8_holdersAhead hx hv hi (e := i) (by omega) (by omega)) (by first | assumption | exact up_s _ _ _ | exact (up_n _ (by assumption)).trans (by assumption) | exact (up_n _ (by assumption)).trans (up_s _ _ _) | exact (up_n _ (by assumption)).trans ((up_n _ (by assumption)).trans (by assumption))) rfl rfl (Nat.le_of_ble_eq_true rfl) (Nat.le_of_ble_eq_true rfl) (Nat.le_of_ble_eq_true rfl) rfl dX8_unlikeMembers_38 (nx_I) (kx_I ?_)
          have hhd := hdF_r n F (F i p) (e := i) (by omega)
          refine r_if_ne (tgt := 47) dX8_unlikeMembers_41 (by decide) (by omega) (fun h41 => ?_) (fun h41 => ?_)
          ·
            refine r_iinc dX8_unlikeMembers_47 rfl rfl ?_
            refine r_goto (tgt := 21) dX8_unlikeMembers_50 (by decide) ?_
            refine J.loc (lsub_cons rfl (lsub_cons rfl (lsub_cons rfl (lsub_cons rfl (lsub_cons rfl (lsub_nil)))))) (ih21 _ _ ?_ ?_)
            · refine ⟨by omega, by omega, by omega, by omega, ?_⟩
              rw [hz, show (n i - p).toNat = (n i - (p + 1)).toNat + 1 by omega, smF, if_neg (by omega)]
              omega
            · omega
          ·
            refine r_iinc dX8_unlikeMembers_44 rfl rfl ?_
            refine r_iinc dX8_unlikeMembers_47 rfl rfl ?_
            refine r_goto (tgt := 21) dX8_unlikeMembers_50 (by decide) ?_
            refine J.loc (lsub_cons rfl (lsub_cons rfl (lsub_cons rfl (lsub_cons rfl (lsub_cons rfl (lsub_nil)))))) (ih21 _ _ ?_ ?_)
            · refine ⟨by omega, by omega, by omega, by omega, ?_⟩
              rw [hz, show (n i - p).toNat = (n i - (p + 1)).toNat + 1 by omega, smF, if_pos (by omega)]
              omega
            · omega
      · exact ⟨by omega, by omega, by omega, by omega, by unfold ulF; simp⟩
  · exact ⟨by omega, by omega, by omega, by omega, (by rw [show ((4 : Int) - 0).toNat = 4 from rfl]; omega)⟩

set_option maxHeartbeats 4000000 in
theorem mX8_membersOfAllFour {M : Mem} {ad : Int → Nat} {n : Int → Int} {F : Int → Int → Int} {g : Int → Int} {m : Int} {S : Int → Sg3} {len : Int} {c : Int → Int} (hx : XSt M ad (n, F, g) m S len c) (hv : Vld (n, F, g)) (hi : Inj ad) : Ct KX8_membersOfAllFour [.ref (ad 0)] M 0 0 (rtI (maF n F) M) := by
  refine Ct.of _ (by decide) rfl (Nat.le_of_ble_eq_true rfl) ?_
  obtain ⟨h00, hst, hhs, hbf, hpw, hbw, hmw, ⟨tn, tF, htr⟩, ⟨wn, wF, hwi⟩⟩ := id hx
  obtain ⟨hvs, hv0, hv1, hv2, hv3⟩ := id hv
  change StP _ ad 1 n F g at hst
  dsimp only at hvs hv0 hv1 hv2 hv3
  have hob1 := hst.1
  obtain ⟨hh_1, hh_2, hh_3, hh_4, hh_5, hho, -⟩ := id hhs
  have hob94 := hbf.1
  obtain ⟨⟨y1, y2, y3, y4, y5, y6, hob96⟩, -, -⟩ := id hpw
  obtain ⟨z1, z2, z3, hob99, -⟩ := id hbw
  obtain ⟨⟨u1, hob101⟩, -, -⟩ := id hmw
  have hob108 := htr.1
  have hob110 := hwi.1
  have hmk := hst.mb (k := 3) (by omega) (by omega)
  have hmo := hmk.1
  have hmn : 0 ≤ n (3) ∧ n (3) ≤ 60 := by have h60 := hmk.2.2.2.1; have h59 := hmk.2.2.1; omega
  refine r_iconst dX8_membersOfAllFour_0 ?_
  refine r_istore_n dX8_membersOfAllFour_1 (by decide) rfl ?_
  refine r_aload_n dX8_membersOfAllFour_2 rfl ?_
  refine r_getfield clX8 0 (by decide) fl_X8_10 (by first | assumption | exact up_s _ _ _ | exact (up_n _ (by assumption)).trans (by assumption) | exact (up_n _ (by assumption)).trans (up_s _ _ _) | exact (up_n _ (by assumption)).trans ((up_n _ (by assumption)).trans (by assumption))) rfl dX8_membersOfAllFour_3 ?_
  refine r_iconst dX8_membersOfAllFour_6 ?_
  refine r_callV1 okX7_members ⟨by decide, by decide⟩ ml_X8_69 (mX7_members hst (k := 3) (by omega) (by omega)) (by first | assumption | exact up_s _ _ _ | exact (up_n _ (by assumption)).trans (by assumption) | exact (up_n _ (by assumption)).trans (up_s _ _ _) | exact (up_n _ (by assumption)).trans ((up_n _ (by assumption)).trans (by assumption))) rfl rfl (Nat.le_of_ble_eq_true rfl) (Nat.le_of_ble_eq_true rfl) (Nat.le_of_ble_eq_true rfl) rfl dX8_membersOfAllFour_7 (nx_A) (kx_A ?_)
  refine r_astore_n dX8_membersOfAllFour_10 (by decide) rfl ?_
  refine r_iconst dX8_membersOfAllFour_11 ?_
  refine r_istore_n dX8_membersOfAllFour_12 (by decide) rfl ?_
  refine J.loc (L' := [(0, some _), (1, some _), (2, some _), (3, some _)]) (lsub_cons rfl (lsub_cons rfl (lsub_cons rfl (lsub_cons rfl (lsub_nil))))) (loop2 (fun (p : Int) (z : Int) => 0 ≤ p ∧ p ≤ n 3 ∧ 0 ≤ z ∧ z ≤ p ∧ maF n F = z + smF (fun p => if hdF n F (F 3 p) 3 = 3 then (1 : Int) else 0) (n 3 - p).toNat p) (fun (p : Int) (z : Int) => (n 3 - p).toNat) (fun (p : Int) (z : Int) => J KX8_membersOfAllFour 0 0 _ 13 [(0, some (.ref (ad 0))), (1, some (vI z)), (2, some (.ref (ad (1 + 2 + 3)))), (3, some (vI p))] [] M _ _) (fun p z hI13 ih13 => ?_) _ _ ?_)
  ·
    obtain ⟨hp0, hp1, hz0, hz1, hz⟩ := hI13
    refine r_iload_n dX8_membersOfAllFour_13 rfl ?_
    refine r_aload_n dX8_membersOfAllFour_14 rfl ?_
    refine r_callV0 okX5_amount ⟨by decide, by decide⟩ ml_X8_77 (mX5_amount hmk) (by first | assumption | exact up_s _ _ _ | exact (up_n _ (by assumption)).trans (by assumption) | exact (up_n _ (by assumption)).trans (up_s _ _ _) | exact (up_n _ (by assumption)).trans ((up_n _ (by assumption)).trans (by assumption))) rfl rfl (Nat.le_of_ble_eq_true rfl) (Nat.le_of_ble_eq_true rfl) (Nat.le_of_ble_eq_true rfl) rfl dX8_membersOfAllFour_15 (nx_I) (kx_I ?_)
    refine r_icmp_ge (tgt := 44) dX8_membersOfAllFour_18 (by decide) (by omega) (by omega) (fun h18 => ?_) (fun h18 => ?_)
    ·
      refine r_iload_n dX8_membersOfAllFour_44 rfl ?_
      refine e_ireturn dX8_membersOfAllFour_45 rfl (Nat.le_of_ble_eq_true rfl) (Nat.le_of_ble_eq_true rfl) ?_
      exact okI (by rw [hz, show (n 3 - p).toNat = 0 by omega, smF]; omega)
    ·
      refine r_aload_n dX8_membersOfAllFour_21 rfl ?_
      refine r_iconst dX8_membersOfAllFour_22 ?_
      refine r_aload_n dX8_membersOfAllFour_23 rfl ?_
      refine r_iload_n dX8_membersOfAllFour_24 rfl ?_
      refine r_callV1 okX5_at ⟨by decide, by decide⟩ ml_X8_160 (mX5_at hmk (by omega)) (by first | assumption | exact up_s _ _ _ | exact (up_n _ (by assumption)).trans (by assumption) | exact (up_n _ (by assumption)).trans (up_s _ _ _) | exact (up_n _ (by assumption)).trans ((up_n _ (by assumption)).trans (by assumption))) rfl rfl (Nat.le_of_ble_eq_true rfl) (Nat.le_of_ble_eq_true rfl) (Nat.le_of_ble_eq_true rfl) rfl dX8_membersOfAllFour_25 (nx_I) (kx_I ?_)
      have hat := hmk.at p
      rw [atF_in hp0 (by omega)] at hat ⊢
      refine r_callV2 okX8_holdersAhead ⟨by decide, by decide⟩ ml_X8_286 (mX8_holdersAhead hx hv hi (e := 3) (by omega) (by omega)) (by first | assumption | exact up_s _ _ _ | exact (up_n _ (by assumption)).trans (by assumption) | exact (up_n _ (by assumption)).trans (up_s _ _ _) | exact (up_n _ (by assumption)).trans ((up_n _ (by assumption)).trans (by assumption))) rfl rfl (Nat.le_of_ble_eq_true rfl) (Nat.le_of_ble_eq_true rfl) (Nat.le_of_ble_eq_true rfl) rfl dX8_membersOfAllFour_28 (nx_I) (kx_I ?_)
      have hhd := hdF_r n F (F 3 p) (e := 3) (by omega)
      refine r_iconst dX8_membersOfAllFour_31 ?_
      refine r_icmp_ne (tgt := 38) dX8_membersOfAllFour_32 (by decide) (by omega) (by omega) (fun h32 => ?_) (fun h32 => ?_)
      ·
        refine r_iinc dX8_membersOfAllFour_38 rfl rfl ?_
        refine r_goto (tgt := 13) dX8_membersOfAllFour_41 (by decide) ?_
        refine J.loc (lsub_cons rfl (lsub_cons rfl (lsub_cons rfl (lsub_cons rfl (lsub_nil))))) (ih13 _ _ ?_ ?_)
        · refine ⟨by omega, by omega, by omega, by omega, ?_⟩
          rw [hz, show (n 3 - p).toNat = (n 3 - (p + 1)).toNat + 1 by omega, smF, if_neg (by omega)]
          omega
        · omega
      ·
        refine r_iinc dX8_membersOfAllFour_35 rfl rfl ?_
        refine r_iinc dX8_membersOfAllFour_38 rfl rfl ?_
        refine r_goto (tgt := 13) dX8_membersOfAllFour_41 (by decide) ?_
        refine J.loc (lsub_cons rfl (lsub_cons rfl (lsub_cons rfl (lsub_cons rfl (lsub_nil))))) (ih13 _ _ ?_ ?_)
        · refine ⟨by omega, by omega, by omega, by omega, ?_⟩
          rw [hz, show (n 3 - p).toNat = (n 3 - (p + 1)).toNat + 1 by omega, smF, if_pos (by omega)]
          omega
        · omega
  · exact ⟨by omega, by omega, by omega, by omega, by unfold maF; simp⟩

set_option maxHeartbeats 4000000 in
theorem mX8_allSizes {M : Mem} {ad : Int → Nat} {n : Int → Int} {F : Int → Int → Int} {g : Int → Int} {m : Int} {S : Int → Sg3} {len : Int} {c : Int → Int} {w : Int} (hx : XSt M ad (n, F, g) m S len c) (hv : Vld (n, F, g)) (hi : Inj ad) (q0 : R32 w) : Ct KX8_allSizes [.ref (ad 0), vI w] M 0 0 (rtI (szA n F g w) M) := by
  refine Ct.of _ (by decide) rfl (Nat.le_of_ble_eq_true rfl) ?_
  obtain ⟨h00, hst, hhs, hbf, hpw, hbw, hmw, ⟨tn, tF, htr⟩, ⟨wn, wF, hwi⟩⟩ := id hx
  obtain ⟨hvs, hv0, hv1, hv2, hv3⟩ := id hv
  change StP _ ad 1 n F g at hst
  dsimp only at hvs hv0 hv1 hv2 hv3
  have hob1 := hst.1
  obtain ⟨hh_1, hh_2, hh_3, hh_4, hh_5, hho, -⟩ := id hhs
  have hob94 := hbf.1
  obtain ⟨⟨y1, y2, y3, y4, y5, y6, hob96⟩, -, -⟩ := id hpw
  obtain ⟨z1, z2, z3, hob99, -⟩ := id hbw
  obtain ⟨⟨u1, hob101⟩, -, -⟩ := id hmw
  have hob108 := htr.1
  have hob110 := hwi.1
  refine r_iconst dX8_allSizes_0 ?_
  refine r_istore_n dX8_allSizes_1 (by decide) rfl ?_
  refine r_iconst dX8_allSizes_2 ?_
  refine r_istore_n dX8_allSizes_3 (by decide) rfl ?_
  refine J.loc (L' := [(0, some _), (1, some _), (2, some _), (3, some _)]) (lsub_cons rfl (lsub_cons rfl (lsub_cons rfl (lsub_cons rfl (lsub_nil))))) (loop2 (fun (i : Int) (y : Int) => 0 ≤ i ∧ i ≤ 4 ∧ 0 ≤ y ∧ y ≤ 900 * i ∧ smF (fun k => byF (n k) (F k) (g 0) w (n k).toNat 0 0) 4 0 = y + smF (fun k => byF (n k) (F k) (g 0) w (n k).toNat 0 0) (4 - i).toNat i) (fun (i : Int) (y : Int) => (4 - i).toNat) (fun (i : Int) (y : Int) => J KX8_allSizes 0 0 _ 4 [(0, some (.ref (ad 0))), (1, some (vI w)), (2, some (vI y)), (3, some (vI i))] [] M _ _) (fun i y hI4 ih4 => ?_) _ _ ?_)
  ·
    obtain ⟨hi0, hi1, hy0, hy1, hy⟩ := hI4
    refine r_iload_n dX8_allSizes_4 rfl ?_
    refine r_iconst dX8_allSizes_5 ?_
    refine r_icmp_ge (tgt := 38) dX8_allSizes_6 (by decide) (by omega) (by omega) (fun h6 => ?_) (fun h6 => ?_)
    ·
      refine r_iload_n dX8_allSizes_38 rfl ?_
      refine e_ireturn dX8_allSizes_39 rfl (Nat.le_of_ble_eq_true rfl) (Nat.le_of_ble_eq_true rfl) ?_
      exact okI (by unfold szA; rw [hy, show ((4 : Int) - i).toNat = 0 by omega, smF]; omega)
    ·
      refine r_iload_n dX8_allSizes_9 rfl ?_
      refine r_aload_n dX8_allSizes_10 rfl ?_
      refine r_getfield clX8 0 (by decide) fl_X8_10 (by first | assumption | exact up_s _ _ _ | exact (up_n _ (by assumption)).trans (by assumption) | exact (up_n _ (by assumption)).trans (up_s _ _ _) | exact (up_n _ (by assumption)).trans ((up_n _ (by assumption)).trans (by assumption))) rfl dX8_allSizes_11 ?_
      refine r_iload_n dX8_allSizes_14 rfl ?_
      refine r_callV1 okX7_members ⟨by decide, by decide⟩ ml_X8_69 (mX7_members hst (k := i) (by omega) (by omega)) (by first | assumption | exact up_s _ _ _ | exact (up_n _ (by assumption)).trans (by assumption) | exact (up_n _ (by assumption)).trans (up_s _ _ _) | exact (up_n _ (by assumption)).trans ((up_n _ (by assumption)).trans (by assumption))) rfl rfl (Nat.le_of_ble_eq_true rfl) (Nat.le_of_ble_eq_true rfl) (Nat.le_of_ble_eq_true rfl) rfl dX8_allSizes_15 (nx_A) (kx_A ?_)
      have hmk := hst.mb (k := i) (by omega) (by omega)
      have hmo := hmk.1
      have hmn : 0 ≤ n (i) ∧ n (i) ≤ 60 := by have h60 := hmk.2.2.2.1; have h59 := hmk.2.2.1; omega
      refine r_aload_n dX8_allSizes_18 rfl ?_
      refine r_getfield clX8 0 (by decide) fl_X8_10 (by first | assumption | exact up_s _ _ _ | exact (up_n _ (by assumption)).trans (by assumption) | exact (up_n _ (by assumption)).trans (up_s _ _ _) | exact (up_n _ (by assumption)).trans ((up_n _ (by assumption)).trans (by assumption))) rfl dX8_allSizes_19 ?_
      refine r_iconst dX8_allSizes_22 ?_
      refine r_callV1 okX7_valueOf ⟨by decide, by decide⟩ ml_X8_129 (mX7_valueOf hst (by omega)) (by first | assumption | exact up_s _ _ _ | exact (up_n _ (by assumption)).trans (by assumption) | exact (up_n _ (by assumption)).trans (up_s _ _ _) | exact (up_n _ (by assumption)).trans ((up_n _ (by assumption)).trans (by assumption))) rfl rfl (Nat.le_of_ble_eq_true rfl) (Nat.le_of_ble_eq_true rfl) (Nat.le_of_ble_eq_true rfl) rfl dX8_allSizes_23 (nx_I) (kx_I ?_)
      rw [show valG g 0 = g 0 from rfl]
      refine r_iload_n dX8_allSizes_26 rfl ?_
      refine r_callV2 okX5_bytes ⟨by decide, by decide⟩ ml_X8_226 (mX5_bytes hmk (by omega) (by omega)) (by first | assumption | exact up_s _ _ _ | exact (up_n _ (by assumption)).trans (by assumption) | exact (up_n _ (by assumption)).trans (up_s _ _ _) | exact (up_n _ (by assumption)).trans ((up_n _ (by assumption)).trans (by assumption))) rfl rfl (Nat.le_of_ble_eq_true rfl) (Nat.le_of_ble_eq_true rfl) (Nat.le_of_ble_eq_true rfl) rfl dX8_allSizes_27 (nx_I) (kx_I ?_)
      have hby := byF_r (n i) (F i) (g 0) w (n i).toNat 0 0
      refine r_iadd dX8_allSizes_30 ?_
      refine r_istore_n dX8_allSizes_31 (by decide) rfl ?_
      refine r_iinc dX8_allSizes_32 rfl rfl ?_
      refine r_goto (tgt := 4) dX8_allSizes_35 (by decide) ?_
      refine J.loc (lsub_cons rfl (lsub_cons rfl (lsub_cons rfl (lsub_cons rfl (lsub_nil))))) (ih4 _ _ ?_ ?_)
      · refine ⟨by omega, by omega, by omega, by omega, ?_⟩
        rw [hy, show ((4 : Int) - i).toNat = (4 - (i + 1)).toNat + 1 by omega, smF]
        omega
      · omega
  · exact ⟨by omega, by omega, by omega, by omega, (by rw [show ((4 : Int) - 0).toNat = 4 from rfl]; omega)⟩

set_option maxHeartbeats 4000000 in
theorem mX8_allBlocks {M : Mem} {ad : Int → Nat} {n : Int → Int} {F : Int → Int → Int} {g : Int → Int} {m : Int} {S : Int → Sg3} {len : Int} {c : Int → Int} (hx : XSt M ad (n, F, g) m S len c) (hv : Vld (n, F, g)) (hi : Inj ad) : Ct KX8_allBlocks [.ref (ad 0)] M 0 0 (atI (abF n F g) (fun M2 => XSt M2 ad (n, F, g) m S len c ∧ FrI ad 0 112 M M2)) := by
  refine Ct.of _ (by decide) rfl (Nat.le_of_ble_eq_true rfl) ?_
  obtain ⟨h00, hst, hhs, hbf, hpw, hbw, hmw, ⟨tn, tF, htr⟩, ⟨wn, wF, hwi⟩⟩ := id hx
  obtain ⟨hvs, hv0, hv1, hv2, hv3⟩ := id hv
  change StP _ ad 1 n F g at hst
  dsimp only at hvs hv0 hv1 hv2 hv3
  refine r_iconst dX8_allBlocks_0 ?_
  refine r_istore_n dX8_allBlocks_1 (by decide) rfl ?_
  refine r_iconst dX8_allBlocks_2 ?_
  refine r_istore_n dX8_allBlocks_3 (by decide) rfl ?_
  refine J.loc (L' := [(0, some _), (1, some _), (2, some _)]) (lsub_cons rfl (lsub_cons rfl (lsub_cons rfl (lsub_nil)))) (loop3 (fun (i : Int) (y : Int) (M1 : Mem) => 0 ≤ i ∧ i ≤ 4 ∧ 0 ≤ y ∧ y ≤ 300 * i ∧ abF n F g = y + smF (fun k => nbF (n k) (F k) (g 0) (g 1)) (4 - i).toNat i ∧ XSt M1 ad (n, F, g) m S len c ∧ FrI ad 0 112 M M1) (fun (i : Int) (y : Int) (M1 : Mem) => (4 - i).toNat) (fun (i : Int) (y : Int) (M1 : Mem) => J KX8_allBlocks 0 0 _ 4 [(0, some (.ref (ad 0))), (1, some (vI y)), (2, some (vI i))] [] M1 _ _) (fun i y M1 hI4 ih4 => ?_) _ _ M ?_)
  ·
    obtain ⟨hi0, hi1, hy0, hy1, hy, hx1, hfr1⟩ := hI4
    obtain ⟨h00, hst, hhs, hbf, hpw, hbw, hmw, ⟨tn, tF, htr⟩, ⟨wn, wF, hwi⟩⟩ := id hx1
    change StP _ ad 1 n F g at hst
    have hob1 := hst.1
    obtain ⟨hh_1, hh_2, hh_3, hh_4, hh_5, hho, -⟩ := id hhs
    have hob94 := hbf.1
    obtain ⟨⟨y1, y2, y3, y4, y5, y6, hob96⟩, -, -⟩ := id hpw
    obtain ⟨z1, z2, z3, hob99, -⟩ := id hbw
    obtain ⟨⟨u1, hob101⟩, -, -⟩ := id hmw
    have hob108 := htr.1
    have hob110 := hwi.1
    refine r_iload_n dX8_allBlocks_4 rfl ?_
    refine r_iconst dX8_allBlocks_5 ?_
    refine r_icmp_ge (tgt := 30) dX8_allBlocks_6 (by decide) (by omega) (by omega) (fun h6 => ?_) (fun h6 => ?_)
    ·
      refine r_iload_n dX8_allBlocks_30 rfl ?_
      refine e_ireturn dX8_allBlocks_31 rfl (Nat.le_of_ble_eq_true rfl) (Nat.le_of_ble_eq_true rfl) ?_
      exact oktI (by rw [hy, show ((4 : Int) - i).toNat = 0 by omega, smF]; omega) ⟨hx1, hfr1⟩
    ·
      refine r_iload_n dX8_allBlocks_9 rfl ?_
      refine r_aload_n dX8_allBlocks_10 rfl ?_
      refine r_getfield clX8 4 (by decide) fl_X8_40 (by first | assumption | exact up_s _ _ _ | exact (up_n _ (by assumption)).trans (by assumption) | exact (up_n _ (by assumption)).trans (up_s _ _ _) | exact (up_n _ (by assumption)).trans ((up_n _ (by assumption)).trans (by assumption))) rfl dX8_allBlocks_11 ?_
      refine r_aload_n dX8_allBlocks_14 rfl ?_
      refine r_getfield clX8 0 (by decide) fl_X8_10 (by first | assumption | exact up_s _ _ _ | exact (up_n _ (by assumption)).trans (by assumption) | exact (up_n _ (by assumption)).trans (up_s _ _ _) | exact (up_n _ (by assumption)).trans ((up_n _ (by assumption)).trans (by assumption))) rfl dX8_allBlocks_15 ?_
      refine r_iload_n dX8_allBlocks_18 rfl ?_
      refine r_callV2 okX0_cut ⟨by decide, by decide⟩ ml_X8_169 (mX0_cut (k := i) hbw hst hi (by omega) (by omega) (by omega) ⟨hv0, hv1⟩ ⟨hv2, hv3⟩) (by first | assumption | exact up_s _ _ _ | exact (up_n _ (by assumption)).trans (by assumption) | exact (up_n _ (by assumption)).trans (up_s _ _ _) | exact (up_n _ (by assumption)).trans ((up_n _ (by assumption)).trans (by assumption))) rfl rfl (Nat.le_of_ble_eq_true rfl) (Nat.le_of_ble_eq_true rfl) (Nat.le_of_ble_eq_true rfl) rfl dX8_allBlocks_19 (nx_tI) (kx_tI ?_)
      intro M2 hM2
      have hx2 := hx1.goB hi hM2.1.w hM2.2
      have hmn := (hst.mb (k := i) (by omega) (by omega)).n0
      have hbs := BkS.of (hst.mb (k := i) (by omega) (by omega)).2.2.1 (hst.mb (k := i) (by omega) (by omega)).2.2.2.1 (F i) (g 0) (g 1)
      have hnb1 := hbs.2.2.1
      have hnb2 := hbs.2.2.2.1
      refine r_iadd dX8_allBlocks_22 ?_
      refine r_istore_n dX8_allBlocks_23 (by decide) rfl ?_
      refine r_iinc dX8_allBlocks_24 rfl rfl ?_
      refine r_goto (tgt := 4) dX8_allBlocks_27 (by decide) ?_
      refine J.loc (lsub_cons rfl (lsub_cons rfl (lsub_cons rfl (lsub_nil)))) (ih4 _ _ M2 ?_ ?_)
      · refine ⟨by omega, by omega, by omega, by omega, ?_, hx2.1, hfr1.trans hx2.2⟩
        rw [hy, show ((4 : Int) - i).toNat = (4 - (i + 1)).toNat + 1 by omega, smF]
        omega
      · omega
  · exact ⟨by omega, by omega, by omega, by omega, by unfold abF; rw [show ((4 : Int) - 0).toNat = 4 from rfl]; omega, hx, FrI.rf⟩

set_option maxHeartbeats 4000000 in
theorem mX8_pairsAlike {M : Mem} {ad : Int → Nat} {n : Int → Int} {F : Int → Int → Int} {g : Int → Int} {m : Int} {S : Int → Sg3} {len : Int} {c : Int → Int} (hx : XSt M ad (n, F, g) m S len c) (hv : Vld (n, F, g)) (hi : Inj ad) : Ct KX8_pairsAlike [.ref (ad 0)] M 0 0 (rtI (smF (plF n F) 4 0) M) := by
  refine Ct.of _ (by decide) rfl (Nat.le_of_ble_eq_true rfl) ?_
  obtain ⟨h00, hst, hhs, hbf, hpw, hbw, hmw, ⟨tn, tF, htr⟩, ⟨wn, wF, hwi⟩⟩ := id hx
  obtain ⟨hvs, hv0, hv1, hv2, hv3⟩ := id hv
  change StP _ ad 1 n F g at hst
  dsimp only at hvs hv0 hv1 hv2 hv3
  have hob1 := hst.1
  obtain ⟨hh_1, hh_2, hh_3, hh_4, hh_5, hho, -⟩ := id hhs
  have hob94 := hbf.1
  obtain ⟨⟨y1, y2, y3, y4, y5, y6, hob96⟩, -, -⟩ := id hpw
  obtain ⟨z1, z2, z3, hob99, -⟩ := id hbw
  obtain ⟨⟨u1, hob101⟩, -, -⟩ := id hmw
  have hob108 := htr.1
  have hob110 := hwi.1
  refine r_iconst dX8_pairsAlike_0 ?_
  refine r_istore_n dX8_pairsAlike_1 (by decide) rfl ?_
  refine r_iconst dX8_pairsAlike_2 ?_
  refine r_istore_n dX8_pairsAlike_3 (by decide) rfl ?_
  refine J.loc (L' := [(0, some _), (1, some _), (2, some _)]) (lsub_cons rfl (lsub_cons rfl (lsub_cons rfl (lsub_nil)))) (loop2 (fun (i : Int) (y : Int) => 0 ≤ i ∧ i ≤ 4 ∧ 0 ≤ y ∧ y ≤ 4 * i ∧ smF (plF n F) 4 0 = y + smF (plF n F) (4 - i).toNat i) (fun (i : Int) (y : Int) => (4 - i).toNat) (fun (i : Int) (y : Int) => J KX8_pairsAlike 0 0 _ 4 [(0, some (.ref (ad 0))), (1, some (vI y)), (2, some (vI i))] [] M _ _) (fun i y hI4 ih4 => ?_) _ _ ?_)
  ·
    obtain ⟨hi0, hi1, hy0, hy1, hy⟩ := hI4
    refine r_iload_n dX8_pairsAlike_4 rfl ?_
    refine r_iconst dX8_pairsAlike_5 ?_
    refine r_icmp_ge (tgt := 55) dX8_pairsAlike_6 (by decide) (by omega) (by omega) (fun h6 => ?_) (fun h6 => ?_)
    ·
      refine r_iload_n dX8_pairsAlike_55 rfl ?_
      refine e_ireturn dX8_pairsAlike_56 rfl (Nat.le_of_ble_eq_true rfl) (Nat.le_of_ble_eq_true rfl) ?_
      exact okI (by rw [hy, show ((4 : Int) - i).toNat = 0 by omega, smF]; omega)
    ·
      refine r_iload_n dX8_pairsAlike_9 rfl ?_
      refine r_iconst dX8_pairsAlike_10 ?_
      refine r_iadd dX8_pairsAlike_11 ?_
      refine r_istore_n dX8_pairsAlike_12 (by decide) rfl ?_
      refine J.loc (L' := [(0, some _), (1, some _), (2, some _), (3, some _)]) (lsub_cons rfl (lsub_cons rfl (lsub_cons rfl (lsub_cons rfl (lsub_nil))))) (loop2 (fun (j : Int) (z : Int) => i + 1 ≤ j ∧ j ≤ 4 ∧ y ≤ z ∧ z ≤ y + (j - i - 1) ∧ y + plF n F i = z + smF (fun j => bI (likeF (n i) (F i) (n j) (F j))) (4 - j).toNat j) (fun (j : Int) (z : Int) => (4 - j).toNat) (fun (j : Int) (z : Int) => J KX8_pairsAlike 0 0 _ 13 [(0, some (.ref (ad 0))), (1, some (vI z)), (2, some (vI i)), (3, some (vI j))] [] M _ _) (fun j z hI13 ih13 => ?_) _ _ ?_)
      ·
        obtain ⟨hj0, hj1, hz0, hz1, hz⟩ := hI13
        refine r_iload_n dX8_pairsAlike_13 rfl ?_
        refine r_iconst dX8_pairsAlike_14 ?_
        refine r_icmp_ge (tgt := 49) dX8_pairsAlike_15 (by decide) (by omega) (by omega) (fun h15 => ?_) (fun h15 => ?_)
        ·
          refine r_iinc dX8_pairsAlike_49 rfl rfl ?_
          refine r_goto (tgt := 4) dX8_pairsAlike_52 (by decide) ?_
          refine J.loc (lsub_cons rfl (lsub_cons rfl (lsub_cons rfl (lsub_nil)))) (ih4 _ _ ?_ ?_)
          · refine ⟨by omega, by omega, by omega, by omega, ?_⟩
            rw [hy, show ((4 : Int) - i).toNat = (4 - (i + 1)).toNat + 1 by omega, smF]
            rw [show (4 - j).toNat = 0 by omega, smF] at hz
            omega
          · omega
        ·
          refine r_aload_n dX8_pairsAlike_18 rfl ?_
          refine r_getfield clX8 0 (by decide) fl_X8_10 (by first | assumption | exact up_s _ _ _ | exact (up_n _ (by assumption)).trans (by assumption) | exact (up_n _ (by assumption)).trans (up_s _ _ _) | exact (up_n _ (by assumption)).trans ((up_n _ (by assumption)).trans (by assumption))) rfl dX8_pairsAlike_19 ?_
          refine r_iload_n dX8_pairsAlike_22 rfl ?_
          refine r_callV1 okX7_members ⟨by decide, by decide⟩ ml_X8_69 (mX7_members hst (k := i) (by omega) (by omega)) (by first | assumption | exact up_s _ _ _ | exact (up_n _ (by assumption)).trans (by assumption) | exact (up_n _ (by assumption)).trans (up_s _ _ _) | exact (up_n _ (by assumption)).trans ((up_n _ (by assumption)).trans (by assumption))) rfl rfl (Nat.le_of_ble_eq_true rfl) (Nat.le_of_ble_eq_true rfl) (Nat.le_of_ble_eq_true rfl) rfl dX8_pairsAlike_23 (nx_A) (kx_A ?_)
          refine r_aload_n dX8_pairsAlike_26 rfl ?_
          refine r_getfield clX8 0 (by decide) fl_X8_10 (by first | assumption | exact up_s _ _ _ | exact (up_n _ (by assumption)).trans (by assumption) | exact (up_n _ (by assumption)).trans (up_s _ _ _) | exact (up_n _ (by assumption)).trans ((up_n _ (by assumption)).trans (by assumption))) rfl dX8_pairsAlike_27 ?_
          refine r_iload_n dX8_pairsAlike_30 rfl ?_
          refine r_callV1 okX7_members ⟨by decide, by decide⟩ ml_X8_69 (mX7_members hst (k := j) (by omega) (by omega)) (by first | assumption | exact up_s _ _ _ | exact (up_n _ (by assumption)).trans (by assumption) | exact (up_n _ (by assumption)).trans (up_s _ _ _) | exact (up_n _ (by assumption)).trans ((up_n _ (by assumption)).trans (by assumption))) rfl rfl (Nat.le_of_ble_eq_true rfl) (Nat.le_of_ble_eq_true rfl) (Nat.le_of_ble_eq_true rfl) rfl dX8_pairsAlike_31 (nx_A) (kx_A ?_)
          have hmk := hst.mb (k := i) (by omega) (by omega)
          have hmo := hmk.1
          have hmn : 0 ≤ n (i) ∧ n (i) ≤ 60 := by have h60 := hmk.2.2.2.1; have h59 := hmk.2.2.1; omega
          have hmkj := hst.mb (k := j) (by omega) (by omega)
          have hmoj := hmkj.1
          have hmnj : 0 ≤ n (j) ∧ n (j) ≤ 60 := by have h60 := hmkj.2.2.2.1; have h59 := hmkj.2.2.1; omega
          refine r_callV1 okX5_isLike ⟨by decide, by decide⟩ ml_X8_289 (mX5_isLike hmk hmkj) (by first | assumption | exact up_s _ _ _ | exact (up_n _ (by assumption)).trans (by assumption) | exact (up_n _ (by assumption)).trans (up_s _ _ _) | exact (up_n _ (by assumption)).trans ((up_n _ (by assumption)).trans (by assumption))) rfl rfl (Nat.le_of_ble_eq_true rfl) (Nat.le_of_ble_eq_true rfl) (Nat.le_of_ble_eq_true rfl) rfl dX8_pairsAlike_34 (nx_I) (kx_I ?_)
          have hbb := bI_r (likeF (n i) (F i) (n j) (F j))
          refine r_if_eq (tgt := 43) dX8_pairsAlike_37 (by decide) (by omega) (fun h37 => ?_) (fun h37 => ?_)
          ·
            refine r_iinc dX8_pairsAlike_43 rfl rfl ?_
            refine r_goto (tgt := 13) dX8_pairsAlike_46 (by decide) ?_
            refine J.loc (lsub_cons rfl (lsub_cons rfl (lsub_cons rfl (lsub_cons rfl (lsub_nil))))) (ih13 _ _ ?_ ?_)
            · refine ⟨by omega, by omega, by omega, by omega, ?_⟩
              rw [hz, show (4 - j).toNat = (4 - (j + 1)).toNat + 1 by omega, smF]
              omega
            · omega
          ·
            refine r_iinc dX8_pairsAlike_40 rfl rfl ?_
            refine r_iinc dX8_pairsAlike_43 rfl rfl ?_
            refine r_goto (tgt := 13) dX8_pairsAlike_46 (by decide) ?_
            refine J.loc (lsub_cons rfl (lsub_cons rfl (lsub_cons rfl (lsub_cons rfl (lsub_nil))))) (ih13 _ _ ?_ ?_)
            · refine ⟨by omega, by omega, by omega, by omega, ?_⟩
              rw [hz, show (4 - j).toNat = (4 - (j + 1)).toNat + 1 by omega, smF]
              omega
            · omega
      · exact ⟨by omega, by omega, by omega, by omega, rfl⟩
  · exact ⟨by omega, by omega, by omega, by omega, (by rw [show ((4 : Int) - 0).toNat = 4 from rfl]; omega)⟩

