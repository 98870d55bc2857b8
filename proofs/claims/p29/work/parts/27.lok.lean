/-! the class: looks without a room of their own, and its frame -/
/-- nothing of the class has changed -/
theorem XSt.frame {M M2 : Mem} {ad : Int → Nat} {σ : Sg3} {m : Int} {S : Int → Sg3} {len : Int} {c : Int → Int} (h : XSt M ad σ m S len c) (hk : ∀ i, 0 ≤ i → i < 112 → M2 (ad i) = M (ad i)) : XSt M2 ad σ m S len c := by
  obtain ⟨a0, a1, a2, a3, a4, a5, a6, ⟨tn, tF, a7⟩, ⟨wn, wF, a8⟩⟩ := h
  exact ⟨(hk 0 (by omega) (by omega)).trans a0, a1.frame (fun i a b => hk i (by omega) (by omega)), a2.frame (fun i a b => hk i (by omega) (by omega)), a3.frame (hk _ (by omega) (by omega)) (hk _ (by omega) (by omega)), a4.frame (fun i a b => hk i (by omega) (by omega)), a5.frame (hk _ (by omega) (by omega)) (hk _ (by omega) (by omega)), a6.frame (fun i a b => hk i (by omega) (by omega)), ⟨tn, tF, a7.frame (hk _ (by omega) (by omega)) (hk _ (by omega) (by omega))⟩, ⟨wn, wF, a8.frame (hk _ (by omega) (by omega)) (hk _ (by omega) (by omega))⟩⟩
set_option maxHeartbeats 4000000 in
theorem mX8_member_ok {M : Mem} {ad : Int → Nat} {n : Int → Int} {F : Int → Int → Int} {g : Int → Int} {m : Int} {S : Int → Sg3} {len : Int} {c : Int → Int} {k p : Int} {bc bs : Nat} (hx : XSt M ad (n, F, g) m S len c) (hv : Vld (n, F, g)) (hi : Inj ad) (q0 : 0 ≤ k ∧ k < 4) (q1 : 0 ≤ p ∧ p ≤ 1000) : Ct KX8_member [.ref (ad 0), vI k, vI p] M bc bs (atI (atF (n k) (F k) p) (fun M2 => XSt M2 ad (n, F, g) m S len c ∧ FrI ad 0 112 M M2)) := by
  refine Ct.of _ (by decide) rfl (Nat.le_of_ble_eq_true rfl) ?_
  obtain ⟨h00, hst, hhs, hbf, hpw, hbw, hmw, ⟨tn, tF, htr⟩, ⟨wn, wF, hwi⟩⟩ := id hx
  obtain ⟨hvs, hv0, hv1, hv2, hv3⟩ := id hv
  change StP _ ad 1 n F g at hst
  dsimp only at hvs hv0 hv1 hv2 hv3
  have hob1 := hst.1
  obtain ⟨hh_1, hh_2, hh_3, hh_4, hh_5, hho, -⟩ := id hhs
  have hob94 := hbf.1
  obtain ⟨⟨y1, y2, y3, y4, y5, y6, hob96⟩, -, -⟩ := id hpw
  obtain ⟨z1, z2, z3, hob99, -⟩ := id hbw
  obtain ⟨⟨u1, hob101⟩, -, -⟩ := id hmw
  have hob108 := htr.1
  have hob110 := hwi.1
  refine r_iload_n dX8_member_0 rfl ?_
  refine r_callS1 okX8_requireSet ⟨by decide, by decide⟩ ml_X8_63 (mX8_requireSet_ok (bc := 0) (bs := 0) (by omega)) (Nat.le_of_ble_eq_true rfl) (by omega) (by omega) rfl dX8_member_1 (nx_V) (kx_V ?_)
  refine r_iload_n dX8_member_4 rfl ?_
  refine r_if_lt (tgt := 12) dX8_member_5 (by decide) (by omega) (fun h5 => ?_) (fun h5 => ?_)
  ·
    refine r_iconst dX8_member_12 ?_
    refine r_callS1 okX8_requireArgument ⟨by decide, by decide⟩ ml_X8_96 (mX8_requireArgument_ok (bc := 0) (bs := 0) (by first | rfl | omega)) (Nat.le_of_ble_eq_true rfl) (by omega) (by omega) rfl dX8_member_13 (nx_V) (kx_V ?_)
    refine r_aload_n dX8_member_16 rfl ?_
    refine r_getfield clX8 0 (by decide) fl_X8_10 (by first | assumption | exact up_s _ _ _ | exact (up_n _ (by assumption)).trans (by assumption) | exact (up_n _ (by assumption)).trans (up_s _ _ _) | exact (up_n _ (by assumption)).trans ((up_n _ (by assumption)).trans (by assumption))) rfl dX8_member_17 ?_
    refine r_iload_n dX8_member_20 rfl ?_
    refine r_callV1 okX7_members ⟨by decide, by decide⟩ ml_X8_69 (mX7_members hst (by omega) (by omega)) (by first | assumption | exact up_s _ _ _ | exact (up_n _ (by assumption)).trans (by assumption) | exact (up_n _ (by assumption)).trans (up_s _ _ _) | exact (up_n _ (by assumption)).trans ((up_n _ (by assumption)).trans (by assumption))) rfl rfl (Nat.le_of_ble_eq_true rfl) (by omega) (by omega) rfl dX8_member_21 (nx_A) (kx_A ?_)
    have hmk := hst.mb (k := k) (by omega) (by omega)
    have hmo := hmk.1
    have hmn := hmk.n0
    refine r_iload_n dX8_member_24 rfl ?_
    refine r_callV1 okX5_at ⟨by decide, by decide⟩ ml_X8_160 (mX5_at hmk (by omega)) (by first | assumption | exact up_s _ _ _ | exact (up_n _ (by assumption)).trans (by assumption) | exact (up_n _ (by assumption)).trans (up_s _ _ _) | exact (up_n _ (by assumption)).trans ((up_n _ (by assumption)).trans (by assumption))) rfl rfl (Nat.le_of_ble_eq_true rfl) (by omega) (by omega) rfl dX8_member_25 (nx_I) (kx_I ?_)
    refine e_ireturn dX8_member_28 rfl (by omega) (by omega) ?_
    exact oktI rfl ⟨hx, FrI.rf⟩
  ·
    refine r_iconst dX8_member_8 ?_
    refine r_goto (tgt := 13) dX8_member_9 (by decide) ?_
    refine r_callS1 okX8_requireArgument ⟨by decide, by decide⟩ ml_X8_96 (mX8_requireArgument_ok (bc := 0) (bs := 0) (by first | rfl | omega)) (Nat.le_of_ble_eq_true rfl) (by omega) (by omega) rfl dX8_member_13 (nx_V) (kx_V ?_)
    refine r_aload_n dX8_member_16 rfl ?_
    refine r_getfield clX8 0 (by decide) fl_X8_10 (by first | assumption | exact up_s _ _ _ | exact (up_n _ (by assumption)).trans (by assumption) | exact (up_n _ (by assumption)).trans (up_s _ _ _) | exact (up_n _ (by assumption)).trans ((up_n _ (by assumption)).trans (by assumption))) rfl dX8_member_17 ?_
    refine r_iload_n dX8_member_20 rfl ?_
    refine r_callV1 okX7_members ⟨by decide, by decide⟩ ml_X8_69 (mX7_members hst (by omega) (by omega)) (by first | assumption | exact up_s _ _ _ | exact (up_n _ (by assumption)).trans (by assumption) | exact (up_n _ (by assumption)).trans (up_s _ _ _) | exact (up_n _ (by assumption)).trans ((up_n _ (by assumption)).trans (by assumption))) rfl rfl (Nat.le_of_ble_eq_true rfl) (by omega) (by omega) rfl dX8_member_21 (nx_A) (kx_A ?_)
    have hmk := hst.mb (k := k) (by omega) (by omega)
    have hmo := hmk.1
    have hmn := hmk.n0
    refine r_iload_n dX8_member_24 rfl ?_
    refine r_callV1 okX5_at ⟨by decide, by decide⟩ ml_X8_160 (mX5_at hmk (by omega)) (by first | assumption | exact up_s _ _ _ | exact (up_n _ (by assumption)).trans (by assumption) | exact (up_n _ (by assumption)).trans (up_s _ _ _) | exact (up_n _ (by assumption)).trans ((up_n _ (by assumption)).trans (by assumption))) rfl rfl (Nat.le_of_ble_eq_true rfl) (by omega) (by omega) rfl dX8_member_25 (nx_I) (kx_I ?_)
    refine e_ireturn dX8_member_28 rfl (by omega) (by omega) ?_
    exact oktI rfl ⟨hx, FrI.rf⟩

set_option maxHeartbeats 4000000 in
theorem mX8_leaps_ok {M : Mem} {ad : Int → Nat} {n : Int → Int} {F : Int → Int → Int} {g : Int → Int} {m : Int} {S : Int → Sg3} {len : Int} {c : Int → Int} {k x w : Int} {bc bs : Nat} (hx : XSt M ad (n, F, g) m S len c) (hv : Vld (n, F, g)) (hi : Inj ad) (hk9 : 0 ≤ k ∧ k < 4) (hx9 : 0 ≤ x ∧ x < 4) (hq9 : 0 ≤ w ∧ w ≤ 3) : Ct KX8_leaps [.ref (ad 0), vI k, vI x, vI w] M bc bs (atI (tolF (mtS n F g k x) w) (fun M2 => XSt M2 ad (n, F, g) m S len c ∧ FrI ad 0 112 M M2)) := by
  refine Ct.of _ (by decide) rfl (Nat.le_of_ble_eq_true rfl) ?_
  obtain ⟨h00, hst, hhs, hbf, hpw, hbw, hmw, ⟨tn, tF, htr⟩, ⟨wn, wF, hwi⟩⟩ := id hx
  obtain ⟨hvs, hv0, hv1, hv2, hv3⟩ := id hv
  change StP _ ad 1 n F g at hst
  dsimp only at hvs hv0 hv1 hv2 hv3
  have hob1 := hst.1
  obtain ⟨hh_1, hh_2, hh_3, hh_4, hh_5, hho, -⟩ := id hhs
  have hob94 := hbf.1
  obtain ⟨⟨y1, y2, y3, y4, y5, y6, hob96⟩, -, -⟩ := id hpw
  obtain ⟨z1, z2, z3, hob99, -⟩ := id hbw
  obtain ⟨⟨u1, hob101⟩, -, -⟩ := id hmw
  have hob108 := htr.1
  have hob110 := hwi.1
  refine r_iload_n dX8_leaps_0 rfl ?_
  refine r_callS1 okX8_requireSet ⟨by decide, by decide⟩ ml_X8_63 (mX8_requireSet_ok (bc := 0) (bs := 0) (by omega)) (Nat.le_of_ble_eq_true rfl) (by omega) (by omega) rfl dX8_leaps_1 (nx_V) (kx_V ?_)
  refine r_iload_n dX8_leaps_4 rfl ?_
  refine r_callS1 okX8_requireSet ⟨by decide, by decide⟩ ml_X8_63 (mX8_requireSet_ok (bc := 0) (bs := 0) (by omega)) (Nat.le_of_ble_eq_true rfl) (by omega) (by omega) rfl dX8_leaps_5 (nx_V) (kx_V ?_)
  refine r_iload_n dX8_leaps_8 rfl ?_
  refine r_if_lt (tgt := 21) dX8_leaps_9 (by decide) (by omega) (fun h9 => ?_) (fun h9 => ?_)
  ·
    refine r_iconst dX8_leaps_21 ?_
    refine r_callS1 okX8_requireArgument ⟨by decide, by decide⟩ ml_X8_96 (mX8_requireArgument_ok (bc := 0) (bs := 0) (by first | rfl | omega)) (Nat.le_of_ble_eq_true rfl) (by omega) (by omega) rfl dX8_leaps_22 (nx_V) (kx_V ?_)
    refine r_aload_n dX8_leaps_25 rfl ?_
    refine r_getfield clX8 5 (by decide) fl_X8_47 (by first | assumption | exact up_s _ _ _ | exact (up_n _ (by assumption)).trans (by assumption) | exact (up_n _ (by assumption)).trans (up_s _ _ _) | exact (up_n _ (by assumption)).trans ((up_n _ (by assumption)).trans (by assumption))) rfl dX8_leaps_26 ?_
    refine r_aload_n dX8_leaps_29 rfl ?_
    refine r_getfield clX8 0 (by decide) fl_X8_10 (by first | assumption | exact up_s _ _ _ | exact (up_n _ (by assumption)).trans (by assumption) | exact (up_n _ (by assumption)).trans (up_s _ _ _) | exact (up_n _ (by assumption)).trans ((up_n _ (by assumption)).trans (by assumption))) rfl dX8_leaps_30 ?_
    refine r_iload_n dX8_leaps_33 rfl ?_
    refine r_iload_n dX8_leaps_34 rfl ?_
    refine r_callV3 okX4_run ⟨by decide, by decide⟩ ml_X8_201 (mX4_run hmw hst hi hk9 hx9 ⟨hv0, hv1⟩ ⟨hv2, hv3⟩ (hvs k hk9.1 hk9.2)) (by first | assumption | exact up_s _ _ _ | exact (up_n _ (by assumption)).trans (by assumption) | exact (up_n _ (by assumption)).trans (up_s _ _ _) | exact (up_n _ (by assumption)).trans ((up_n _ (by assumption)).trans (by assumption))) rfl rfl (Nat.le_of_ble_eq_true rfl) (by omega) (by omega) rfl dX8_leaps_35 (nx_tV) (kx_tV ?_)
    intro M2 hM2
    obtain ⟨hmd, hmw2, hfr2⟩ := hM2
    have hx2 := hx.goM hi hmw2 hfr2
    have h002 := hx2.1.1
    have hob2 := hmw2.1.choose_spec
    refine r_aload_n dX8_leaps_38 rfl ?_
    refine r_getfield clX8 5 (by decide) fl_X8_47 (by first | assumption | exact up_s _ _ _ | exact (up_n _ (by assumption)).trans (by assumption) | exact (up_n _ (by assumption)).trans (up_s _ _ _) | exact (up_n _ (by assumption)).trans ((up_n _ (by assumption)).trans (by assumption))) rfl dX8_leaps_39 ?_
    refine r_iload_n dX8_leaps_42 rfl ?_
    refine r_callV1 okX4_result ⟨by decide, by decide⟩ ml_X8_205 (mX4_result hmd (by omega)) (by first | assumption | exact up_s _ _ _ | exact (up_n _ (by assumption)).trans (by assumption) | exact (up_n _ (by assumption)).trans (up_s _ _ _) | exact (up_n _ (by assumption)).trans ((up_n _ (by assumption)).trans (by assumption))) rfl rfl (Nat.le_of_ble_eq_true rfl) (by omega) (by omega) rfl dX8_leaps_43 (nx_I) (kx_I ?_)
    refine e_ireturn dX8_leaps_46 rfl (by omega) (by omega) ?_
    exact oktI rfl hx2
  ·
    refine r_iload_n dX8_leaps_12 rfl ?_
    refine r_iconst dX8_leaps_13 ?_
    refine r_icmp_gt (tgt := 21) dX8_leaps_14 (by decide) (by omega) (by omega) (fun h14 => ?_) (fun h14 => ?_)
    ·
      refine r_iconst dX8_leaps_21 ?_
      refine r_callS1 okX8_requireArgument ⟨by decide, by decide⟩ ml_X8_96 (mX8_requireArgument_ok (bc := 0) (bs := 0) (by first | rfl | omega)) (Nat.le_of_ble_eq_true rfl) (by omega) (by omega) rfl dX8_leaps_22 (nx_V) (kx_V ?_)
      refine r_aload_n dX8_leaps_25 rfl ?_
      refine r_getfield clX8 5 (by decide) fl_X8_47 (by first | assumption | exact up_s _ _ _ | exact (up_n _ (by assumption)).trans (by assumption) | exact (up_n _ (by assumption)).trans (up_s _ _ _) | exact (up_n _ (by assumption)).trans ((up_n _ (by assumption)).trans (by assumption))) rfl dX8_leaps_26 ?_
      refine r_aload_n dX8_leaps_29 rfl ?_
      refine r_getfield clX8 0 (by decide) fl_X8_10 (by first | assumption | exact up_s _ _ _ | exact (up_n _ (by assumption)).trans (by assumption) | exact (up_n _ (by assumption)).trans (up_s _ _ _) | exact (up_n _ (by assumption)).trans ((up_n _ (by assumption)).trans (by assumption))) rfl dX8_leaps_30 ?_
      refine r_iload_n dX8_leaps_33 rfl ?_
      refine r_iload_n dX8_leaps_34 rfl ?_
      refine r_callV3 okX4_run ⟨by decide, by decide⟩ ml_X8_201 (mX4_run hmw hst hi hk9 hx9 ⟨hv0, hv1⟩ ⟨hv2, hv3⟩ (hvs k hk9.1 hk9.2)) (by first | assumption | exact up_s _ _ _ | exact (up_n _ (by assumption)).trans (by assumption) | exact (up_n _ (by assumption)).trans (up_s _ _ _) | exact (up_n _ (by assumption)).trans ((up_n _ (by assumption)).trans (by assumption))) rfl rfl (Nat.le_of_ble_eq_true rfl) (by omega) (by omega) rfl dX8_leaps_35 (nx_tV) (kx_tV ?_)
      intro M2 hM2
      obtain ⟨hmd, hmw2, hfr2⟩ := hM2
      have hx2 := hx.goM hi hmw2 hfr2
      have h002 := hx2.1.1
      have hob2 := hmw2.1.choose_spec
      refine r_aload_n dX8_leaps_38 rfl ?_
      refine r_getfield clX8 5 (by decide) fl_X8_47 (by first | assumption | exact up_s _ _ _ | exact (up_n _ (by assumption)).trans (by assumption) | exact (up_n _ (by assumption)).trans (up_s _ _ _) | exact (up_n _ (by assumption)).trans ((up_n _ (by assumption)).trans (by assumption))) rfl dX8_leaps_39 ?_
      refine r_iload_n dX8_leaps_42 rfl ?_
      refine r_callV1 okX4_result ⟨by decide, by decide⟩ ml_X8_205 (mX4_result hmd (by omega)) (by first | assumption | exact up_s _ _ _ | exact (up_n _ (by assumption)).trans (by assumption) | exact (up_n _ (by assumption)).trans (up_s _ _ _) | exact (up_n _ (by assumption)).trans ((up_n _ (by assumption)).trans (by assumption))) rfl rfl (Nat.le_of_ble_eq_true rfl) (by omega) (by omega) rfl dX8_leaps_43 (nx_I) (kx_I ?_)
      refine e_ireturn dX8_leaps_46 rfl (by omega) (by omega) ?_
      exact oktI rfl hx2
    ·
      refine r_iconst dX8_leaps_17 ?_
      refine r_goto (tgt := 22) dX8_leaps_18 (by decide) ?_
      refine r_callS1 okX8_requireArgument ⟨by decide, by decide⟩ ml_X8_96 (mX8_requireArgument_ok (bc := 0) (bs := 0) (by first | rfl | omega)) (Nat.le_of_ble_eq_true rfl) (by omega) (by omega) rfl dX8_leaps_22 (nx_V) (kx_V ?_)
      refine r_aload_n dX8_leaps_25 rfl ?_
      refine r_getfield clX8 5 (by decide) fl_X8_47 (by first | assumption | exact up_s _ _ _ | exact (up_n _ (by assumption)).trans (by assumption) | exact (up_n _ (by assumption)).trans (up_s _ _ _) | exact (up_n _ (by assumption)).trans ((up_n _ (by assumption)).trans (by assumption))) rfl dX8_leaps_26 ?_
      refine r_aload_n dX8_leaps_29 rfl ?_
      refine r_getfield clX8 0 (by decide) fl_X8_10 (by first | assumption | exact up_s _ _ _ | exact (up_n _ (by assumption)).trans (by assumption) | exact (up_n _ (by assumption)).trans (up_s _ _ _) | exact (up_n _ (by assumption)).trans ((up_n _ (by assumption)).trans (by assumption))) rfl dX8_leaps_30 ?_
      refine r_iload_n dX8_leaps_33 rfl ?_
      refine r_iload_n dX8_leaps_34 rfl ?_
      refine r_callV3 okX4_run ⟨by decide, by decide⟩ ml_X8_201 (mX4_run hmw hst hi hk9 hx9 ⟨hv0, hv1⟩ ⟨hv2, hv3⟩ (hvs k hk9.1 hk9.2)) (by first | assumption | exact up_s _ _ _ | exact (up_n _ (by assumption)).trans (by assumption) | exact (up_n _ (by assumption)).trans (up_s _ _ _) | exact (up_n _ (by assumption)).trans ((up_n _ (by assumption)).trans (by assumption))) rfl rfl (Nat.le_of_ble_eq_true rfl) (by omega) (by omega) rfl dX8_leaps_35 (nx_tV) (kx_tV ?_)
      intro M2 hM2
      obtain ⟨hmd, hmw2, hfr2⟩ := hM2
      have hx2 := hx.goM hi hmw2 hfr2
      have h002 := hx2.1.1
      have hob2 := hmw2.1.choose_spec
      refine r_aload_n dX8_leaps_38 rfl ?_
      refine r_getfield clX8 5 (by decide) fl_X8_47 (by first | assumption | exact up_s _ _ _ | exact (up_n _ (by assumption)).trans (by assumption) | exact (up_n _ (by assumption)).trans (up_s _ _ _) | exact (up_n _ (by assumption)).trans ((up_n _ (by assumption)).trans (by assumption))) rfl dX8_leaps_39 ?_
      refine r_iload_n dX8_leaps_42 rfl ?_
      refine r_callV1 okX4_result ⟨by decide, by decide⟩ ml_X8_205 (mX4_result hmd (by omega)) (by first | assumption | exact up_s _ _ _ | exact (up_n _ (by assumption)).trans (by assumption) | exact (up_n _ (by assumption)).trans (up_s _ _ _) | exact (up_n _ (by assumption)).trans ((up_n _ (by assumption)).trans (by assumption))) rfl rfl (Nat.le_of_ble_eq_true rfl) (by omega) (by omega) rfl dX8_leaps_43 (nx_I) (kx_I ?_)
      refine e_ireturn dX8_leaps_46 rfl (by omega) (by omega) ?_
      exact oktI rfl hx2
