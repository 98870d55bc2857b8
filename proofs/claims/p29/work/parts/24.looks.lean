set_option maxHeartbeats 4000000 in
theorem mX8_count {M : Mem} {ad : Int → Nat} {n : Int → Int} {F : Int → Int → Int} {g : Int → Int} {m : Int} {S : Int → Sg3} {len : Int} {c : Int → Int} {w : Int} (hx : XSt M ad (n, F, g) m S len c) (hv : Vld (n, F, g)) (hi : Inj ad) (q0 : R32 w) : Ct KX8_count [.ref (ad 0), vI w] M 6 36 (UX (eB (0 ≤ w ∧ w ≤ 6) xA) (cntV n F g m w) (fun M2 => XSt M2 ad (n, F, g) m S len c ∧ FrI ad 0 112 M M2) M) := by
  refine Ct.of _ (by decide) rfl (Nat.le_of_ble_eq_true rfl) ?_
  obtain ⟨h00, hst, hhs, hbf, hpw, hbw, hmw, ⟨tn, tF, htr⟩, ⟨wn, wF, hwi⟩⟩ := id hx
  obtain ⟨hvs, hv0, hv1, hv2, hv3⟩ := id hv
  change StP _ ad 1 n F g at hst
  dsimp only at hvs hv0 hv1 hv2 hv3
  have hob1 := hst.1
  obtain ⟨hh_1, hh_2, hh_3, hh_4, hh_5, hho, -⟩ := id hhs
  have hob94 := hbf.1
  obtain ⟨⟨y1, y2, y3, y4, y5, y6, hob96⟩, -, -⟩ := id hpw
  obtain ⟨z1, z2, z3, hob99, -⟩ := id hbw
  obtain ⟨⟨u1, hob101⟩, -, -⟩ := id hmw
  have hob108 := htr.1
  have hob110 := hwi.1
  refine r_iload_n dX8_count_0 rfl ?_
  refine r_if_lt (tgt := 14) dX8_count_1 (by decide) (by omega) (fun h1 => ?_) (fun h1 => ?_)
  ·
    refine r_iconst dX8_count_14 ?_
    refine r_callS1 okX8_requireArgument ⟨by decide, by decide⟩ ml_X8_96 (mX8_requireArgument (b := 0 ≤ w ∧ w ≤ 6) (by first | (rw [if_pos (by omega)]; done) | (rw [if_neg (by omega)]; done))) (Nat.le_of_ble_eq_true rfl) (Nat.le_of_ble_eq_true rfl) (Nat.le_of_ble_eq_true rfl) rfl dX8_count_15 (tUX (fun hne => by rfl)) (kx_U ?_)
    intro hE1
    have hq9 := eA_ok hE1
    refine r_iload_n dX8_count_18 rfl ?_
    by_cases hw19 : w < 0 ∨ 5 < w
    · refine r_tableOut (tgt := 94) dX8_count_19 (by omega) hw19 (by decide) ?_
      refine r_aload_n dX8_count_94 rfl ?_
      refine r_getfield clX8 1 (by decide) fl_X8_19 (by first | assumption | exact up_s _ _ _ | exact (up_n _ (by assumption)).trans (by assumption) | exact (up_n _ (by assumption)).trans (up_s _ _ _) | exact (up_n _ (by assumption)).trans ((up_n _ (by assumption)).trans (by assumption))) rfl dX8_count_95 ?_
      refine r_callV0 okX2_amount ⟨by decide, by decide⟩ ml_X8_156 (mX2_amount hhs) (by first | assumption | exact up_s _ _ _ | exact (up_n _ (by assumption)).trans (by assumption) | exact (up_n _ (by assumption)).trans (up_s _ _ _) | exact (up_n _ (by assumption)).trans ((up_n _ (by assumption)).trans (by assumption))) rfl rfl (Nat.le_of_ble_eq_true rfl) (Nat.le_of_ble_eq_true rfl) (Nat.le_of_ble_eq_true rfl) rfl dX8_count_98 (nx_I) (kx_I ?_)
      refine e_ireturn dX8_count_101 rfl (Nat.le_of_ble_eq_true rfl) (Nat.le_of_ble_eq_true rfl) ?_
      exact okUX (by exact hE1) (by unfold cntV; rw [if_neg (by omega), if_neg (by omega), if_neg (by omega), if_neg (by omega), if_neg (by omega), if_neg (by omega)]) ⟨hx, FrI.rf⟩
    · rcases (show w = 0 ∨ w = 1 ∨ w = 2 ∨ w = 3 ∨ w = 4 ∨ w = 5 by omega) with e19 | e19 | e19 | e19 | e19 | e19
      · refine r_tableIn (off := 37) (tgt := 56) dX8_count_19 (by omega) (by omega) (by omega) (by rw [e19]; rfl) (by decide) ?_
        refine r_aload_n dX8_count_56 rfl ?_
        refine r_callV0 okX8_allMembers ⟨by decide, by decide⟩ ml_X8_208 (mX8_allMembers hx hv hi) (by first | assumption | exact up_s _ _ _ | exact (up_n _ (by assumption)).trans (by assumption) | exact (up_n _ (by assumption)).trans (up_s _ _ _) | exact (up_n _ (by assumption)).trans ((up_n _ (by assumption)).trans (by assumption))) rfl rfl (Nat.le_of_ble_eq_true rfl) (Nat.le_of_ble_eq_true rfl) (Nat.le_of_ble_eq_true rfl) rfl dX8_count_57 (nx_I) (kx_I ?_)
        refine e_ireturn dX8_count_60 rfl (Nat.le_of_ble_eq_true rfl) (Nat.le_of_ble_eq_true rfl) ?_
        exact okUX (by exact hE1) (by unfold cntV; rw [if_pos (by omega)]) ⟨hx, FrI.rf⟩
      · refine r_tableIn (off := 42) (tgt := 61) dX8_count_19 (by omega) (by omega) (by omega) (by rw [e19]; rfl) (by decide) ?_
        refine r_aload_n dX8_count_61 rfl ?_
        refine r_callV0 okX8_unlikeMembers ⟨by decide, by decide⟩ ml_X8_211 (mX8_unlikeMembers hx hv hi) (by first | assumption | exact up_s _ _ _ | exact (up_n _ (by assumption)).trans (by assumption) | exact (up_n _ (by assumption)).trans (up_s _ _ _) | exact (up_n _ (by assumption)).trans ((up_n _ (by assumption)).trans (by assumption))) rfl rfl (Nat.le_of_ble_eq_true rfl) (Nat.le_of_ble_eq_true rfl) (Nat.le_of_ble_eq_true rfl) rfl dX8_count_62 (nx_I) (kx_I ?_)
        refine e_ireturn dX8_count_65 rfl (Nat.le_of_ble_eq_true rfl) (Nat.le_of_ble_eq_true rfl) ?_
        exact okUX (by exact hE1) (by unfold cntV; rw [if_neg (by omega), if_pos (by omega)]) ⟨hx, FrI.rf⟩
      · refine r_tableIn (off := 47) (tgt := 66) dX8_count_19 (by omega) (by omega) (by omega) (by rw [e19]; rfl) (by decide) ?_
        refine r_aload_n dX8_count_66 rfl ?_
        refine r_callV0 okX8_membersOfAllFour ⟨by decide, by decide⟩ ml_X8_214 (mX8_membersOfAllFour hx hv hi) (by first | assumption | exact up_s _ _ _ | exact (up_n _ (by assumption)).trans (by assumption) | exact (up_n _ (by assumption)).trans (up_s _ _ _) | exact (up_n _ (by assumption)).trans ((up_n _ (by assumption)).trans (by assumption))) rfl rfl (Nat.le_of_ble_eq_true rfl) (Nat.le_of_ble_eq_true rfl) (Nat.le_of_ble_eq_true rfl) rfl dX8_count_67 (nx_I) (kx_I ?_)
        refine e_ireturn dX8_count_70 rfl (Nat.le_of_ble_eq_true rfl) (Nat.le_of_ble_eq_true rfl) ?_
        exact okUX (by exact hE1) (by unfold cntV; rw [if_neg (by omega), if_neg (by omega), if_pos (by omega)]) ⟨hx, FrI.rf⟩
      · refine r_tableIn (off := 52) (tgt := 71) dX8_count_19 (by omega) (by omega) (by omega) (by rw [e19]; rfl) (by decide) ?_
        refine r_aload_n dX8_count_71 rfl ?_
        refine r_aload_n dX8_count_72 rfl ?_
        refine r_getfield clX8 0 (by decide) fl_X8_10 (by first | assumption | exact up_s _ _ _ | exact (up_n _ (by assumption)).trans (by assumption) | exact (up_n _ (by assumption)).trans (up_s _ _ _) | exact (up_n _ (by assumption)).trans ((up_n _ (by assumption)).trans (by assumption))) rfl dX8_count_73 ?_
        refine r_iconst dX8_count_76 ?_
        refine r_callV1 okX7_valueOf ⟨by decide, by decide⟩ ml_X8_129 (mX7_valueOf hst (by omega)) (by first | assumption | exact up_s _ _ _ | exact (up_n _ (by assumption)).trans (by assumption) | exact (up_n _ (by assumption)).trans (up_s _ _ _) | exact (up_n _ (by assumption)).trans ((up_n _ (by assumption)).trans (by assumption))) rfl rfl (Nat.le_of_ble_eq_true rfl) (Nat.le_of_ble_eq_true rfl) (Nat.le_of_ble_eq_true rfl) rfl dX8_count_77 (nx_I) (kx_I ?_)
        rw [show valG g 1 = g 1 from rfl]
        refine r_callV1 okX8_allSizes ⟨by decide, by decide⟩ ml_X8_217 (mX8_allSizes hx hv hi (by omega)) (by first | assumption | exact up_s _ _ _ | exact (up_n _ (by assumption)).trans (by assumption) | exact (up_n _ (by assumption)).trans (up_s _ _ _) | exact (up_n _ (by assumption)).trans ((up_n _ (by assumption)).trans (by assumption))) rfl rfl (Nat.le_of_ble_eq_true rfl) (Nat.le_of_ble_eq_true rfl) (Nat.le_of_ble_eq_true rfl) rfl dX8_count_80 (nx_I) (kx_I ?_)
        refine e_ireturn dX8_count_83 rfl (Nat.le_of_ble_eq_true rfl) (Nat.le_of_ble_eq_true rfl) ?_
        exact okUX (by exact hE1) (by unfold cntV; rw [if_neg (by omega), if_neg (by omega), if_neg (by omega), if_pos (by omega)]) ⟨hx, FrI.rf⟩
      · refine r_tableIn (off := 65) (tgt := 84) dX8_count_19 (by omega) (by omega) (by omega) (by rw [e19]; rfl) (by decide) ?_
        refine r_aload_n dX8_count_84 rfl ?_
        refine r_callV0 okX8_allBlocks ⟨by decide, by decide⟩ ml_X8_220 (mX8_allBlocks hx hv hi) (by first | assumption | exact up_s _ _ _ | exact (up_n _ (by assumption)).trans (by assumption) | exact (up_n _ (by assumption)).trans (up_s _ _ _) | exact (up_n _ (by assumption)).trans ((up_n _ (by assumption)).trans (by assumption))) rfl rfl (Nat.le_of_ble_eq_true rfl) (Nat.le_of_ble_eq_true rfl) (Nat.le_of_ble_eq_true rfl) rfl dX8_count_85 (nx_tI) (kx_tI ?_)
        intro M2 hM2
        refine e_ireturn dX8_count_88 rfl (Nat.le_of_ble_eq_true rfl) (Nat.le_of_ble_eq_true rfl) ?_
        exact okUX (by exact hE1) (by unfold cntV; rw [if_neg (by omega), if_neg (by omega), if_neg (by omega), if_neg (by omega), if_pos (by omega)]) hM2
      · refine r_tableIn (off := 70) (tgt := 89) dX8_count_19 (by omega) (by omega) (by omega) (by rw [e19]; rfl) (by decide) ?_
        refine r_aload_n dX8_count_89 rfl ?_
        refine r_callV0 okX8_pairsAlike ⟨by decide, by decide⟩ ml_X8_223 (mX8_pairsAlike hx hv hi) (by first | assumption | exact up_s _ _ _ | exact (up_n _ (by assumption)).trans (by assumption) | exact (up_n _ (by assumption)).trans (up_s _ _ _) | exact (up_n _ (by assumption)).trans ((up_n _ (by assumption)).trans (by assumption))) rfl rfl (Nat.le_of_ble_eq_true rfl) (Nat.le_of_ble_eq_true rfl) (Nat.le_of_ble_eq_true rfl) rfl dX8_count_90 (nx_I) (kx_I ?_)
        refine e_ireturn dX8_count_93 rfl (Nat.le_of_ble_eq_true rfl) (Nat.le_of_ble_eq_true rfl) ?_
        exact okUX (by exact hE1) (by unfold cntV; rw [if_neg (by omega), if_neg (by omega), if_neg (by omega), if_neg (by omega), if_neg (by omega), if_pos (by omega)]) ⟨hx, FrI.rf⟩
  ·
    refine r_iload_n dX8_count_4 rfl ?_
    refine r_bipush dX8_count_5 (by decide) ?_
    refine r_icmp_gt (tgt := 14) dX8_count_7 (by decide) (by omega) (by omega) (fun h7 => ?_) (fun h7 => ?_)
    ·
      refine r_iconst dX8_count_14 ?_
      refine r_callS1 okX8_requireArgument ⟨by decide, by decide⟩ ml_X8_96 (mX8_requireArgument (b := 0 ≤ w ∧ w ≤ 6) (by first | (rw [if_pos (by omega)]; done) | (rw [if_neg (by omega)]; done))) (Nat.le_of_ble_eq_true rfl) (Nat.le_of_ble_eq_true rfl) (Nat.le_of_ble_eq_true rfl) rfl dX8_count_15 (tUX (fun hne => by rfl)) (kx_U ?_)
      intro hE1
      have hq9 := eA_ok hE1
      refine r_iload_n dX8_count_18 rfl ?_
      by_cases hw19 : w < 0 ∨ 5 < w
      · refine r_tableOut (tgt := 94) dX8_count_19 (by omega) hw19 (by decide) ?_
        refine r_aload_n dX8_count_94 rfl ?_
        refine r_getfield clX8 1 (by decide) fl_X8_19 (by first | assumption | exact up_s _ _ _ | exact (up_n _ (by assumption)).trans (by assumption) | exact (up_n _ (by assumption)).trans (up_s _ _ _) | exact (up_n _ (by assumption)).trans ((up_n _ (by assumption)).trans (by assumption))) rfl dX8_count_95 ?_
        refine r_callV0 okX2_amount ⟨by decide, by decide⟩ ml_X8_156 (mX2_amount hhs) (by first | assumption | exact up_s _ _ _ | exact (up_n _ (by assumption)).trans (by assumption) | exact (up_n _ (by assumption)).trans (up_s _ _ _) | exact (up_n _ (by assumption)).trans ((up_n _ (by assumption)).trans (by assumption))) rfl rfl (Nat.le_of_ble_eq_true rfl) (Nat.le_of_ble_eq_true rfl) (Nat.le_of_ble_eq_true rfl) rfl dX8_count_98 (nx_I) (kx_I ?_)
        refine e_ireturn dX8_count_101 rfl (Nat.le_of_ble_eq_true rfl) (Nat.le_of_ble_eq_true rfl) ?_
        exact okUX (by exact hE1) (by unfold cntV; rw [if_neg (by omega), if_neg (by omega), if_neg (by omega), if_neg (by omega), if_neg (by omega), if_neg (by omega)]) ⟨hx, FrI.rf⟩
      · rcases (show w = 0 ∨ w = 1 ∨ w = 2 ∨ w = 3 ∨ w = 4 ∨ w = 5 by omega) with e19 | e19 | e19 | e19 | e19 | e19
        · refine r_tableIn (off := 37) (tgt := 56) dX8_count_19 (by omega) (by omega) (by omega) (by rw [e19]; rfl) (by decide) ?_
          refine r_aload_n dX8_count_56 rfl ?_
          refine r_callV0 okX8_allMembers ⟨by decide, by decide⟩ ml_X8_208 (mX8_allMembers hx hv hi) (by first | assumption | exact up_s _ _ _ | exact (up_n _ (by assumption)).trans (by assumption) | exact (up_n _ (by assumption)).trans (up_s _ _ _) | exact (up_n _ (by assumption)).trans ((up_n _ (by assumption)).trans (by assumption))) rfl rfl (Nat.le_of_ble_eq_true rfl) (Nat.le_of_ble_eq_true rfl) (Nat.le_of_ble_eq_true rfl) rfl dX8_count_57 (nx_I) (kx_I ?_)
          refine e_ireturn dX8_count_60 rfl (Nat.le_of_ble_eq_true rfl) (Nat.le_of_ble_eq_true rfl) ?_
          exact okUX (by exact hE1) (by unfold cntV; rw [if_pos (by omega)]) ⟨hx, FrI.rf⟩
        · refine r_tableIn (off := 42) (tgt := 61) dX8_count_19 (by omega) (by omega) (by omega) (by rw [e19]; rfl) (by decide) ?_
          refine r_aload_n dX8_count_61 rfl ?_
          refine r_callV0 okX8_unlikeMembers ⟨by decide, by decide⟩ ml_X8_211 (mX8_unlikeMembers hx hv hi) (by first | assumption | exact up_s _ _ _ | exact (up_n _ (by assumption)).trans (by assumption) | exact (up_n _ (by assumption)).trans (up_s _ _ _) | exact (up_n _ (by assumption)).trans ((up_n _ (by assumption)).trans (by assumption))) rfl rfl (Nat.le_of_ble_eq_true rfl) (Nat.le_of_ble_eq_true rfl) (Nat.le_of_ble_eq_true rfl) rfl dX8_count_62 (nx_I) (kx_I ?_)
          refine e_ireturn dX8_count_65 rfl (Nat.le_of_ble_eq_true rfl) (Nat.le_of_ble_eq_true rfl) ?_
          exact okUX (by exact hE1) (by unfold cntV; rw [if_neg (by omega), if_pos (by omega)]) ⟨hx, FrI.rf⟩
        · refine r_tableIn (off := 47) (tgt := 66) dX8_count_19 (by omega) (by omega) (by omega) (by rw [e19]; rfl) (by decide) ?_
          refine r_aload_n dX8_count_66 rfl ?_
          refine r_callV0 okX8_membersOfAllFour ⟨by decide, by decide⟩ ml_X8_214 (mX8_membersOfAllFour hx hv hi) (by first | assumption | exact up_s _ _ _ | exact (up_n _ (by assumption)).trans (by assumption) | exact (up_n _ (by assumption)).trans (up_s _ _ _) | exact (up_n _ (by assumption)).trans ((up_n _ (by assumption)).trans (by assumption))) rfl rfl (Nat.le_of_ble_eq_true rfl) (Nat.le_of_ble_eq_true rfl) (Nat.le_of_ble_eq_true rfl) rfl dX8_count_67 (nx_I) (kx_I ?_)
          refine e_ireturn dX8_count_70 rfl (Nat.le_of_ble_eq_true rfl) (Nat.le_of_ble_eq_true rfl) ?_
          exact okUX (by exact hE1) (by unfold cntV; rw [if_neg (by omega), if_neg (by omega), if_pos (by omega)]) ⟨hx, FrI.rf⟩
        · refine r_tableIn (off := 52) (tgt := 71) dX8_count_19 (by omega) (by omega) (by omega) (by rw [e19]; rfl) (by decide) ?_
          refine r_aload_n dX8_count_71 rfl ?_
          refine r_aload_n dX8_count_72 rfl ?_
          refine r_getfield clX8 0 (by decide) fl_X8_10 (by first | assumption | exact up_s _ _ _ | exact (up_n _ (by assumption)).trans (by assumption) | exact (up_n _ (by assumption)).trans (up_s _ _ _) | exact (up_n _ (by assumption)).trans ((up_n _ (by assumption)).trans (by assumption))) rfl dX8_count_73 ?_
          refine r_iconst dX8_count_76 ?_
          refine r_callV1 okX7_valueOf ⟨by decide, by decide⟩ ml_X8_129 (mX7_valueOf hst (by omega)) (by first | assumption | exact up_s _ _ _ | exact (up_n _ (by assumption)).trans (by assumption) | exact (up_n _ (by assumption)).trans (up_s _ _ _) | exact (up_n _ (by assumption)).trans ((up_n _ (by assumption)).trans (by assumption))) rfl rfl (Nat.le_of_ble_eq_true rfl) (Nat.le_of_ble_eq_true rfl) (Nat.le_of_ble_eq_true rfl) rfl dX8_count_77 (nx_I) (kx_I ?_)
          rw [show valG g 1 = g 1 from rfl]
          refine r_callV1 okX8_allSizes ⟨by decide, by decide⟩ ml_X8_217 (mX8_allSizes hx hv hi (by omega)) (by first | assumption | exact up_s _ _ _ | exact (up_n _ (by assumption)).trans (by assumption) | exact (up_n _ (by assumption)).trans (up_s _ _ _) | exact (up_n _ (by assumption)).trans ((up_n _ (by assumption)).trans (by assumption))) rfl rfl (Nat.le_of_ble_eq_true rfl) (Nat.le_of_ble_eq_true rfl) (Nat.le_of_ble_eq_true rfl) rfl dX8_count_80 (nx_I) (kx_I ?_)
          refine e_ireturn dX8_count_83 rfl (Nat.le_of_ble_eq_true rfl) (Nat.le_of_ble_eq_true rfl) ?_
          exact okUX (by exact hE1) (by unfold cntV; rw [if_neg (by omega), if_neg (by omega), if_neg (by omega), if_pos (by omega)]) ⟨hx, FrI.rf⟩
        · refine r_tableIn (off := 65) (tgt := 84) dX8_count_19 (by omega) (by omega) (by omega) (by rw [e19]; rfl) (by decide) ?_
          refine r_aload_n dX8_count_84 rfl ?_
          refine r_callV0 okX8_allBlocks ⟨by decide, by decide⟩ ml_X8_220 (mX8_allBlocks hx hv hi) (by first | assumption | exact up_s _ _ _ | exact (up_n _ (by assumption)).trans (by assumption) | exact (up_n _ (by assumption)).trans (up_s _ _ _) | exact (up_n _ (by assumption)).trans ((up_n _ (by assumption)).trans (by assumption))) rfl rfl (Nat.le_of_ble_eq_true rfl) (Nat.le_of_ble_eq_true rfl) (Nat.le_of_ble_eq_true rfl) rfl dX8_count_85 (nx_tI) (kx_tI ?_)
          intro M2 hM2
          refine e_ireturn dX8_count_88 rfl (Nat.le_of_ble_eq_true rfl) (Nat.le_of_ble_eq_true rfl) ?_
          exact okUX (by exact hE1) (by unfold cntV; rw [if_neg (by omega), if_neg (by omega), if_neg (by omega), if_neg (by omega), if_pos (by omega)]) hM2
        · refine r_tableIn (off := 70) (tgt := 89) dX8_count_19 (by omega) (by omega) (by omega) (by rw [e19]; rfl) (by decide) ?_
          refine r_aload_n dX8_count_89 rfl ?_
          refine r_callV0 okX8_pairsAlike ⟨by decide, by decide⟩ ml_X8_223 (mX8_pairsAlike hx hv hi) (by first | assumption | exact up_s _ _ _ | exact (up_n _ (by assumption)).trans (by assumption) | exact (up_n _ (by assumption)).trans (up_s _ _ _) | exact (up_n _ (by assumption)).trans ((up_n _ (by assumption)).trans (by assumption))) rfl rfl (Nat.le_of_ble_eq_true rfl) (Nat.le_of_ble_eq_true rfl) (Nat.le_of_ble_eq_true rfl) rfl dX8_count_90 (nx_I) (kx_I ?_)
          refine e_ireturn dX8_count_93 rfl (Nat.le_of_ble_eq_true rfl) (Nat.le_of_ble_eq_true rfl) ?_
          exact okUX (by exact hE1) (by unfold cntV; rw [if_neg (by omega), if_neg (by omega), if_neg (by omega), if_neg (by omega), if_neg (by omega), if_pos (by omega)]) ⟨hx, FrI.rf⟩
    ·
      refine r_iconst dX8_count_10 ?_
      refine r_goto (tgt := 15) dX8_count_11 (by decide) ?_
      refine r_callS1 okX8_requireArgument ⟨by decide, by decide⟩ ml_X8_96 (mX8_requireArgument (b := 0 ≤ w ∧ w ≤ 6) (by first | (rw [if_pos (by omega)]; done) | (rw [if_neg (by omega)]; done))) (Nat.le_of_ble_eq_true rfl) (Nat.le_of_ble_eq_true rfl) (Nat.le_of_ble_eq_true rfl) rfl dX8_count_15 (tUX (fun hne => by rfl)) (kx_U ?_)
      intro hE1
      have hq9 := eA_ok hE1
      refine r_iload_n dX8_count_18 rfl ?_
      by_cases hw19 : w < 0 ∨ 5 < w
      · refine r_tableOut (tgt := 94) dX8_count_19 (by omega) hw19 (by decide) ?_
        refine r_aload_n dX8_count_94 rfl ?_
        refine r_getfield clX8 1 (by decide) fl_X8_19 (by first | assumption | exact up_s _ _ _ | exact (up_n _ (by assumption)).trans (by assumption) | exact (up_n _ (by assumption)).trans (up_s _ _ _) | exact (up_n _ (by assumption)).trans ((up_n _ (by assumption)).trans (by assumption))) rfl dX8_count_95 ?_
        refine r_callV0 okX2_amount ⟨by decide, by decide⟩ ml_X8_156 (mX2_amount hhs) (by first | assumption | exact up_s _ _ _ | exact (up_n _ (by assumption)).trans (by assumption) | exact (up_n _ (by assumption)).trans (up_s _ _ _) | exact (up_n _ (by assumption)).trans ((up_n _ (by assumption)).trans (by assumption))) rfl rfl (Nat.le_of_ble_eq_true rfl) (Nat.le_of_ble_eq_true rfl) (Nat.le_of_ble_eq_true rfl) rfl dX8_count_98 (nx_I) (kx_I ?_)
        refine e_ireturn dX8_count_101 rfl (Nat.le_of_ble_eq_true rfl) (Nat.le_of_ble_eq_true rfl) ?_
        exact okUX (by exact hE1) (by unfold cntV; rw [if_neg (by omega), if_neg (by omega), if_neg (by omega), if_neg (by omega), if_neg (by omega), if_neg (by omega)]) ⟨hx, FrI.rf⟩
      · rcases (show w = 0 ∨ w = 1 ∨ w = 2 ∨ w = 3 ∨ w = 4 ∨ w = 5 by omega) with e19 | e19 | e19 | e19 | e19 | e19
        · refine r_tableIn (off := 37) (tgt := 56) dX8_count_19 (by omega) (by omega) (by omega) (by rw [e19]; rfl) (by decide) ?_
          refine r_aload_n dX8_count_56 rfl ?_
          refine r_callV0 okX8_allMembers ⟨by decide, by decide⟩ ml_X8_208 (mX8_allMembers hx hv hi) (by first | assumption | exact up_s _ _ _ | exact (up_n _ (by assumption)).trans (by assumption) | exact (up_n _ (by assumption)).trans (up_s _ _ _) | exact (up_n _ (by assumption)).trans ((up_n _ (by assumption)).trans (by assumption))) rfl rfl (Nat.le_of_ble_eq_true rfl) (Nat.le_of_ble_eq_true rfl) (Nat.le_of_ble_eq_true rfl) rfl dX8_count_57 (nx_I) (kx_I ?_)
          refine e_ireturn dX8_count_60 rfl (Nat.le_of_ble_eq_true rfl) (Nat.le_of_ble_eq_true rfl) ?_
          exact okUX (by exact hE1) (by unfold cntV; rw [if_pos (by omega)]) ⟨hx, FrI.rf⟩
        · refine r_tableIn (off := 42) (tgt := 61) dX8_count_19 (by omega) (by omega) (by omega) (by rw [e19]; rfl) (by decide) ?_
          refine r_aload_n dX8_count_61 rfl ?_
          refine r_callV0 okX8_unlikeMembers ⟨by decide, by decide⟩ ml_X8_211 (mX8_unlikeMembers hx hv hi) (by first | assumption | exact up_s _ _ _ | exact (up_n _ (by assumption)).trans (by assumption) | exact (up_n _ (by assumption)).trans (up_s _ _ _) | exact (up_n _ (by assumption)).trans ((up_n _ (by assumption)).trans (by assumption))) rfl rfl (Nat.le_of_ble_eq_true rfl) (Nat.le_of_ble_eq_true rfl) (Nat.le_of_ble_eq_true rfl) rfl dX8_count_62 (nx_I) (kx_I ?_)
          refine e_ireturn dX8_count_65 rfl (Nat.le_of_ble_eq_true rfl) (Nat.le_of_ble_eq_true rfl) ?_
          exact okUX (by exact hE1) (by unfold cntV; rw [if_neg (by omega), if_pos (by omega)]) ⟨hx, FrI.rf⟩
        · refine r_tableIn (off := 47) (tgt := 66) dX8_count_19 (by omega) (by omega) (by omega) (by rw [e19]; rfl) (by decide) ?_
          refine r_aload_n dX8_count_66 rfl ?_
          refine r_callV0 okX8_membersOfAllFour ⟨by decide, by decide⟩ ml_X8_214 (mX8_membersOfAllFour hx hv hi) (by first | assumption | exact up_s _ _ _ | exact (up_n _ (by assumption)).trans (by assumption) | exact (up_n _ (by assumption)).trans (up_s _ _ _) | exact (up_n _ (by assumption)).trans ((up_n _ (by assumption)).trans (by assumption))) rfl rfl (Nat.le_of_ble_eq_true rfl) (Nat.le_of_ble_eq_true rfl) (Nat.le_of_ble_eq_true rfl) rfl dX8_count_67 (nx_I) (kx_I ?_)
          refine e_ireturn dX8_count_70 rfl (Nat.le_of_ble_eq_true rfl) (Nat.le_of_ble_eq_true rfl) ?_
          exact okUX (by exact hE1) (by unfold cntV; rw [if_neg (by omega), if_neg (by omega), if_pos (by omega)]) ⟨hx, FrI.rf⟩
        · refine r_tableIn (off := 52) (tgt := 71) dX8_count_19 (by omega) (by omega) (by omega) (by rw [e19]; rfl) (by decide) ?_
          refine r_aload_n dX8_count_71 rfl ?_
          refine r_aload_n dX8_count_72 rfl ?_
          refine r_getfield clX8 0 (by decide) fl_X8_10 (by first | assumption | exact up_s _ _ _ | exact (up_n _ (by assumption)).trans (by assumption) | exact (up_n _ (by assumption)).trans (up_s _ _ _) | exact (up_n _ (by assumption)).trans ((up_n _ (by assumption)).trans (by assumption))) rfl dX8_count_73 ?_
          refine r_iconst dX8_count_76 ?_
          refine r_callV1 okX7_valueOf ⟨by decide, by decide⟩ ml_X8_129 (mX7_valueOf hst (by omega)) (by first | assumption | exact up_s _ _ _ | exact (up_n _ (by assumption)).trans (by assumption) | exact (up_n _ (by assumption)).trans (up_s _ _ _) | exact (up_n _ (by assumption)).trans ((up_n _ (by assumption)).trans (by assumption))) rfl rfl (Nat.le_of_ble_eq_true rfl) (Nat.le_of_ble_eq_true rfl) (Nat.le_of_ble_eq_true rfl) rfl dX8_count_77 (nx_I) (kx_I ?_)
          rw [show valG g 1 = g 1 from rfl]
          refine r_callV1 okX8_allSizes ⟨by decide, by decide⟩ ml_X8_217 (mX8_allSizes hx hv hi (by omega)) (by first | assumption | exact up_s _ _ _ | exact (up_n _ (by assumption)).trans (by assumption) | exact (up_n _ (by assumption)).trans (up_s _ _ _) | exact (up_n _ (by assumption)).trans ((up_n _ (by assumption)).trans (by assumption))) rfl rfl (Nat.le_of_ble_eq_true rfl) (Nat.le_of_ble_eq_true rfl) (Nat.le_of_ble_eq_true rfl) rfl dX8_count_80 (nx_I) (kx_I ?_)
          refine e_ireturn dX8_count_83 rfl (Nat.le_of_ble_eq_true rfl) (Nat.le_of_ble_eq_true rfl) ?_
          exact okUX (by exact hE1) (by unfold cntV; rw [if_neg (by omega), if_neg (by omega), if_neg (by omega), if_pos (by omega)]) ⟨hx, FrI.rf⟩
        · refine r_tableIn (off := 65) (tgt := 84) dX8_count_19 (by omega) (by omega) (by omega) (by rw [e19]; rfl) (by decide) ?_
          refine r_aload_n dX8_count_84 rfl ?_
          refine r_callV0 okX8_allBlocks ⟨by decide, by decide⟩ ml_X8_220 (mX8_allBlocks hx hv hi) (by first | assumption | exact up_s _ _ _ | exact (up_n _ (by assumption)).trans (by assumption) | exact (up_n _ (by assumption)).trans (up_s _ _ _) | exact (up_n _ (by assumption)).trans ((up_n _ (by assumption)).trans (by assumption))) rfl rfl (Nat.le_of_ble_eq_true rfl) (Nat.le_of_ble_eq_true rfl) (Nat.le_of_ble_eq_true rfl) rfl dX8_count_85 (nx_tI) (kx_tI ?_)
          intro M2 hM2
          refine e_ireturn dX8_count_88 rfl (Nat.le_of_ble_eq_true rfl) (Nat.le_of_ble_eq_true rfl) ?_
          exact okUX (by exact hE1) (by unfold cntV; rw [if_neg (by omega), if_neg (by omega), if_neg (by omega), if_neg (by omega), if_pos (by omega)]) hM2
        · refine r_tableIn (off := 70) (tgt := 89) dX8_count_19 (by omega) (by omega) (by omega) (by rw [e19]; rfl) (by decide) ?_
          refine r_aload_n dX8_count_89 rfl ?_
          refine r_callV0 okX8_pairsAlike ⟨by decide, by decide⟩ ml_X8_223 (mX8_pairsAlike hx hv hi) (by first | assumption | exact up_s _ _ _ | exact (up_n _ (by assumption)).trans (by assumption) | exact (up_n _ (by assumption)).trans (up_s _ _ _) | exact (up_n _ (by assumption)).trans ((up_n _ (by assumption)).trans (by assumption))) rfl rfl (Nat.le_of_ble_eq_true rfl) (Nat.le_of_ble_eq_true rfl) (Nat.le_of_ble_eq_true rfl) rfl dX8_count_90 (nx_I) (kx_I ?_)
          refine e_ireturn dX8_count_93 rfl (Nat.le_of_ble_eq_true rfl) (Nat.le_of_ble_eq_true rfl) ?_
          exact okUX (by exact hE1) (by unfold cntV; rw [if_neg (by omega), if_neg (by omega), if_neg (by omega), if_neg (by omega), if_neg (by omega), if_pos (by omega)]) ⟨hx, FrI.rf⟩

set_option maxHeartbeats 4000000 in
theorem mX8_count_ok {M : Mem} {ad : Int → Nat} {n : Int → Int} {F : Int → Int → Int} {g : Int → Int} {m : Int} {S : Int → Sg3} {len : Int} {c : Int → Int} {w : Int} {bc bs : Nat} (hx : XSt M ad (n, F, g) m S len c) (hv : Vld (n, F, g)) (hi : Inj ad) (q0 : R32 w) (hq9 : 0 ≤ w ∧ w ≤ 6) : Ct KX8_count [.ref (ad 0), vI w] M bc bs (atI (cntV n F g m w) (fun M2 => XSt M2 ad (n, F, g) m S len c ∧ FrI ad 0 112 M M2)) := by
  refine Ct.of _ (by decide) rfl (Nat.le_of_ble_eq_true rfl) ?_
  obtain ⟨h00, hst, hhs, hbf, hpw, hbw, hmw, ⟨tn, tF, htr⟩, ⟨wn, wF, hwi⟩⟩ := id hx
  obtain ⟨hvs, hv0, hv1, hv2, hv3⟩ := id hv
  change StP _ ad 1 n F g at hst
  dsimp only at hvs hv0 hv1 hv2 hv3
  have hob1 := hst.1
  obtain ⟨hh_1, hh_2, hh_3, hh_4, hh_5, hho, -⟩ := id hhs
  have hob94 := hbf.1
  obtain ⟨⟨y1, y2, y3, y4, y5, y6, hob96⟩, -, -⟩ := id hpw
  obtain ⟨z1, z2, z3, hob99, -⟩ := id hbw
  obtain ⟨⟨u1, hob101⟩, -, -⟩ := id hmw
  have hob108 := htr.1
  have hob110 := hwi.1
  refine r_iload_n dX8_count_0 rfl ?_
  refine r_if_lt (tgt := 14) dX8_count_1 (by decide) (by omega) (fun h1 => ?_) (fun h1 => ?_)
  ·
    refine r_iconst dX8_count_14 ?_
    refine r_callS1 okX8_requireArgument ⟨by decide, by decide⟩ ml_X8_96 (mX8_requireArgument_ok (bc := 0) (bs := 0) (by omega)) (Nat.le_of_ble_eq_true rfl) (by omega) (by omega) rfl dX8_count_15 (nx_V) (kx_V ?_)
    refine r_iload_n dX8_count_18 rfl ?_
    by_cases hw19 : w < 0 ∨ 5 < w
    · refine r_tableOut (tgt := 94) dX8_count_19 (by omega) hw19 (by decide) ?_
      refine r_aload_n dX8_count_94 rfl ?_
      refine r_getfield clX8 1 (by decide) fl_X8_19 (by first | assumption | exact up_s _ _ _ | exact (up_n _ (by assumption)).trans (by assumption) | exact (up_n _ (by assumption)).trans (up_s _ _ _) | exact (up_n _ (by assumption)).trans ((up_n _ (by assumption)).trans (by assumption))) rfl dX8_count_95 ?_
      refine r_callV0 okX2_amount ⟨by decide, by decide⟩ ml_X8_156 (mX2_amount hhs) (by first | assumption | exact up_s _ _ _ | exact (up_n _ (by assumption)).trans (by assumption) | exact (up_n _ (by assumption)).trans (up_s _ _ _) | exact (up_n _ (by assumption)).trans ((up_n _ (by assumption)).trans (by assumption))) rfl rfl (Nat.le_of_ble_eq_true rfl) (by omega) (by omega) rfl dX8_count_98 (nx_I) (kx_I ?_)
      refine e_ireturn dX8_count_101 rfl (by omega) (by omega) ?_
      exact oktI (by unfold cntV; rw [if_neg (by omega), if_neg (by omega), if_neg (by omega), if_neg (by omega), if_neg (by omega), if_neg (by omega)]) ⟨hx, FrI.rf⟩
    · rcases (show w = 0 ∨ w = 1 ∨ w = 2 ∨ w = 3 ∨ w = 4 ∨ w = 5 by omega) with e19 | e19 | e19 | e19 | e19 | e19
      · refine r_tableIn (off := 37) (tgt := 56) dX8_count_19 (by omega) (by omega) (by omega) (by rw [e19]; rfl) (by decide) ?_
        refine r_aload_n dX8_count_56 rfl ?_
        refine r_callV0 okX8_allMembers ⟨by decide, by decide⟩ ml_X8_208 (mX8_allMembers hx hv hi) (by first | assumption | exact up_s _ _ _ | exact (up_n _ (by assumption)).trans (by assumption) | exact (up_n _ (by assumption)).trans (up_s _ _ _) | exact (up_n _ (by assumption)).trans ((up_n _ (by assumption)).trans (by assumption))) rfl rfl (Nat.le_of_ble_eq_true rfl) (by omega) (by omega) rfl dX8_count_57 (nx_I) (kx_I ?_)
        refine e_ireturn dX8_count_60 rfl (by omega) (by omega) ?_
        exact oktI (by unfold cntV; rw [if_pos (by omega)]) ⟨hx, FrI.rf⟩
      · refine r_tableIn (off := 42) (tgt := 61) dX8_count_19 (by omega) (by omega) (by omega) (by rw [e19]; rfl) (by decide) ?_
        refine r_aload_n dX8_count_61 rfl ?_
        refine r_callV0 okX8_unlikeMembers ⟨by decide, by decide⟩ ml_X8_211 (mX8_unlikeMembers hx hv hi) (by first | assumption | exact up_s _ _ _ | exact (up_n _ (by assumption)).trans (by assumption) | exact (up_n _ (by assumption)).trans (up_s _ _ _) | exact (up_n _ (by assumption)).trans ((up_n _ (by assumption)).trans (by assumption))) rfl rfl (Nat.le_of_ble_eq_true rfl) (by omega) (by omega) rfl dX8_count_62 (nx_I) (kx_I ?_)
        refine e_ireturn dX8_count_65 rfl (by omega) (by omega) ?_
        exact oktI (by unfold cntV; rw [if_neg (by omega), if_pos (by omega)]) ⟨hx, FrI.rf⟩
      · refine r_tableIn (off := 47) (tgt := 66) dX8_count_19 (by omega) (by omega) (by omega) (by rw [e19]; rfl) (by decide) ?_
        refine r_aload_n dX8_count_66 rfl ?_
        refine r_callV0 okX8_membersOfAllFour ⟨by decide, by decide⟩ ml_X8_214 (mX8_membersOfAllFour hx hv hi) (by first | assumption | exact up_s _ _ _ | exact (up_n _ (by assumption)).trans (by assumption) | exact (up_n _ (by assumption)).trans (up_s _ _ _) | exact (up_n _ (by assumption)).trans ((up_n _ (by assumption)).trans (by assumption))) rfl rfl (Nat.le_of_ble_eq_true rfl) (by omega) (by omega) rfl dX8_count_67 (nx_I) (kx_I ?_)
        refine e_ireturn dX8_count_70 rfl (by omega) (by omega) ?_
        exact oktI (by unfold cntV; rw [if_neg (by omega), if_neg (by omega), if_pos (by omega)]) ⟨hx, FrI.rf⟩
      · refine r_tableIn (off := 52) (tgt := 71) dX8_count_19 (by omega) (by omega) (by omega) (by rw [e19]; rfl) (by decide) ?_
        refine r_aload_n dX8_count_71 rfl ?_
        refine r_aload_n dX8_count_72 rfl ?_
        refine r_getfield clX8 0 (by decide) fl_X8_10 (by first | assumption | exact up_s _ _ _ | exact (up_n _ (by assumption)).trans (by assumption) | exact (up_n _ (by assumption)).trans (up_s _ _ _) | exact (up_n _ (by assumption)).trans ((up_n _ (by assumption)).trans (by assumption))) rfl dX8_count_73 ?_
        refine r_iconst dX8_count_76 ?_
        refine r_callV1 okX7_valueOf ⟨by decide, by decide⟩ ml_X8_129 (mX7_valueOf hst (by omega)) (by first | assumption | exact up_s _ _ _ | exact (up_n _ (by assumption)).trans (by assumption) | exact (up_n _ (by assumption)).trans (up_s _ _ _) | exact (up_n _ (by assumption)).trans ((up_n _ (by assumption)).trans (by assumption))) rfl rfl (Nat.le_of_ble_eq_true rfl) (by omega) (by omega) rfl dX8_count_77 (nx_I) (kx_I ?_)
        rw [show valG g 1 = g 1 from rfl]
        refine r_callV1 okX8_allSizes ⟨by decide, by decide⟩ ml_X8_217 (mX8_allSizes hx hv hi (by omega)) (by first | assumption | exact up_s _ _ _ | exact (up_n _ (by assumption)).trans (by assumption) | exact (up_n _ (by assumption)).trans (up_s _ _ _) | exact (up_n _ (by assumption)).trans ((up_n _ (by assumption)).trans (by assumption))) rfl rfl (Nat.le_of_ble_eq_true rfl) (by omega) (by omega) rfl dX8_count_80 (nx_I) (kx_I ?_)
        refine e_ireturn dX8_count_83 rfl (by omega) (by omega) ?_
        exact oktI (by unfold cntV; rw [if_neg (by omega), if_neg (by omega), if_neg (by omega), if_pos (by omega)]) ⟨hx, FrI.rf⟩
      · refine r_tableIn (off := 65) (tgt := 84) dX8_count_19 (by omega) (by omega) (by omega) (by rw [e19]; rfl) (by decide) ?_
        refine r_aload_n dX8_count_84 rfl ?_
        refine r_callV0 okX8_allBlocks ⟨by decide, by decide⟩ ml_X8_220 (mX8_allBlocks hx hv hi) (by first | assumption | exact up_s _ _ _ | exact (up_n _ (by assumption)).trans (by assumption) | exact (up_n _ (by assumption)).trans (up_s _ _ _) | exact (up_n _ (by assumption)).trans ((up_n _ (by assumption)).trans (by assumption))) rfl rfl (Nat.le_of_ble_eq_true rfl) (by omega) (by omega) rfl dX8_count_85 (nx_tI) (kx_tI ?_)
        intro M2 hM2
        refine e_ireturn dX8_count_88 rfl (by omega) (by omega) ?_
        exact oktI (by unfold cntV; rw [if_neg (by omega), if_neg (by omega), if_neg (by omega), if_neg (by omega), if_pos (by omega)]) hM2
      · refine r_tableIn (off := 70) (tgt := 89) dX8_count_19 (by omega) (by omega) (by omega) (by rw [e19]; rfl) (by decide) ?_
        refine r_aload_n dX8_count_89 rfl ?_
        refine r_callV0 okX8_pairsAlike ⟨by decide, by decide⟩ ml_X8_223 (mX8_pairsAlike hx hv hi) (by first | assumption | exact up_s _ _ _ | exact (up_n _ (by assumption)).trans (by assumption) | exact (up_n _ (by assumption)).trans (up_s _ _ _) | exact (up_n _ (by assumption)).trans ((up_n _ (by assumption)).trans (by assumption))) rfl rfl (Nat.le_of_ble_eq_true rfl) (by omega) (by omega) rfl dX8_count_90 (nx_I) (kx_I ?_)
        refine e_ireturn dX8_count_93 rfl (by omega) (by omega) ?_
        exact oktI (by unfold cntV; rw [if_neg (by omega), if_neg (by omega), if_neg (by omega), if_neg (by omega), if_neg (by omega), if_pos (by omega)]) ⟨hx, FrI.rf⟩
  ·
    refine r_iload_n dX8_count_4 rfl ?_
    refine r_bipush dX8_count_5 (by decide) ?_
    refine r_icmp_gt (tgt := 14) dX8_count_7 (by decide) (by omega) (by omega) (fun h7 => ?_) (fun h7 => ?_)
    ·
      refine r_iconst dX8_count_14 ?_
      refine r_callS1 okX8_requireArgument ⟨by decide, by decide⟩ ml_X8_96 (mX8_requireArgument_ok (bc := 0) (bs := 0) (by omega)) (Nat.le_of_ble_eq_true rfl) (by omega) (by omega) rfl dX8_count_15 (nx_V) (kx_V ?_)
      refine r_iload_n dX8_count_18 rfl ?_
      by_cases hw19 : w < 0 ∨ 5 < w
      · refine r_tableOut (tgt := 94) dX8_count_19 (by omega) hw19 (by decide) ?_
        refine r_aload_n dX8_count_94 rfl ?_
        refine r_getfield clX8 1 (by decide) fl_X8_19 (by first | assumption | exact up_s _ _ _ | exact (up_n _ (by assumption)).trans (by assumption) | exact (up_n _ (by assumption)).trans (up_s _ _ _) | exact (up_n _ (by assumption)).trans ((up_n _ (by assumption)).trans (by assumption))) rfl dX8_count_95 ?_
        refine r_callV0 okX2_amount ⟨by decide, by decide⟩ ml_X8_156 (mX2_amount hhs) (by first | assumption | exact up_s _ _ _ | exact (up_n _ (by assumption)).trans (by assumption) | exact (up_n _ (by assumption)).trans (up_s _ _ _) | exact (up_n _ (by assumption)).trans ((up_n _ (by assumption)).trans (by assumption))) rfl rfl (Nat.le_of_ble_eq_true rfl) (by omega) (by omega) rfl dX8_count_98 (nx_I) (kx_I ?_)
        refine e_ireturn dX8_count_101 rfl (by omega) (by omega) ?_
        exact oktI (by unfold cntV; rw [if_neg (by omega), if_neg (by omega), if_neg (by omega), if_neg (by omega), if_neg (by omega), if_neg (by omega)]) ⟨hx, FrI.rf⟩
      · rcases (show w = 0 ∨ w = 1 ∨ w = 2 ∨ w = 3 ∨ w = 4 ∨ w = 5 by omega) with e19 | e19 | e19 | e19 | e19 | e19
        · refine r_tableIn (off := 37) (tgt := 56) dX8_count_19 (by omega) (by omega) (by omega) (by rw [e19]; rfl) (by decide) ?_
          refine r_aload_n dX8_count_56 rfl ?_
          refine r_callV0 okX8_allMembers ⟨by decide, by decide⟩ ml_X8_208 (mX8_allMembers hx hv hi) (by first | assumption | exact up_s _ _ _ | exact (up_n _ (by assumption)).trans (by assumption) | exact (up_n _ (by assumption)).trans (up_s _ _ _) | exact (up_n _ (by assumption)).trans ((up_n _ (by assumption)).trans (by assumption))) rfl rfl (Nat.le_of_ble_eq_true rfl) (by omega) (by omega) rfl dX8_count_57 (nx_I) (kx_I ?_)
          refine e_ireturn dX8_count_60 rfl (by omega) (by omega) ?_
          exact oktI (by unfold cntV; rw [if_pos (by omega)]) ⟨hx, FrI.rf⟩
        · refine r_tableIn (off := 42) (tgt := 61) dX8_count_19 (by omega) (by omega) (by omega) (by rw [e19]; rfl) (by decide) ?_
          refine r_aload_n dX8_count_61 rfl ?_
          refine r_callV0 okX8_unlikeMembers ⟨by decide, by decide⟩ ml_X8_211 (mX8_unlikeMembers hx hv hi) (by first | assumption | exact up_s _ _ _ | exact (up_n _ (by assumption)).trans (by assumption) | exact (up_n _ (by assumption)).trans (up_s _ _ _) | exact (up_n _ (by assumption)).trans ((up_n _ (by assumption)).trans (by assumption))) rfl rfl (Nat.le_of_ble_eq_true rfl) (by omega) (by omega) rfl dX8_count_62 (nx_I) (kx_I ?_)
          refine e_ireturn dX8_count_65 rfl (by omega) (by omega) ?_
          exact oktI (by unfold cntV; rw [if_neg (by omega), if_pos (by omega)]) ⟨hx, FrI.rf⟩
        · refine r_tableIn (off := 47) (tgt := 66) dX8_count_19 (by omega) (by omega) (by omega) (by rw [e19]; rfl) (by decide) ?_
          refine r_aload_n dX8_count_66 rfl ?_
          refine r_callV0 okX8_membersOfAllFour ⟨by decide, by decide⟩ ml_X8_214 (mX8_membersOfAllFour hx hv hi) (by first | assumption | exact up_s _ _ _ | exact (up_n _ (by assumption)).trans (by assumption) | exact (up_n _ (by assumption)).trans (up_s _ _ _) | exact (up_n _ (by assumption)).trans ((up_n _ (by assumption)).trans (by assumption))) rfl rfl (Nat.le_of_ble_eq_true rfl) (by omega) (by omega) rfl dX8_count_67 (nx_I) (kx_I ?_)
          refine e_ireturn dX8_count_70 rfl (by omega) (by omega) ?_
          exact oktI (by unfold cntV; rw [if_neg (by omega), if_neg (by omega), if_pos (by omega)]) ⟨hx, FrI.rf⟩
        · refine r_tableIn (off := 52) (tgt := 71) dX8_count_19 (by omega) (by omega) (by omega) (by rw [e19]; rfl) (by decide) ?_
          refine r_aload_n dX8_count_71 rfl ?_
          refine r_aload_n dX8_count_72 rfl ?_
          refine r_getfield clX8 0 (by decide) fl_X8_10 (by first | assumption | exact up_s _ _ _ | exact (up_n _ (by assumption)).trans (by assumption) | exact (up_n _ (by assumption)).trans (up_s _ _ _) | exact (up_n _ (by assumption)).trans ((up_n _ (by assumption)).trans (by assumption))) rfl dX8_count_73 ?_
          refine r_iconst dX8_count_76 ?_
          refine r_callV1 okX7_valueOf ⟨by decide, by decide⟩ ml_X8_129 (mX7_valueOf hst (by omega)) (by first | assumption | exact up_s _ _ _ | exact (up_n _ (by assumption)).trans (by assumption) | exact (up_n _ (by assumption)).trans (up_s _ _ _) | exact (up_n _ (by assumption)).trans ((up_n _ (by assumption)).trans (by assumption))) rfl rfl (Nat.le_of_ble_eq_true rfl) (by omega) (by omega) rfl dX8_count_77 (nx_I) (kx_I ?_)
          rw [show valG g 1 = g 1 from rfl]
          refine r_callV1 okX8_allSizes ⟨by decide, by decide⟩ ml_X8_217 (mX8_allSizes hx hv hi (by omega)) (by first | assumption | exact up_s _ _ _ | exact (up_n _ (by assumption)).trans (by assumption) | exact (up_n _ (by assumption)).trans (up_s _ _ _) | exact (up_n _ (by assumption)).trans ((up_n _ (by assumption)).trans (by assumption))) rfl rfl (Nat.le_of_ble_eq_true rfl) (by omega) (by omega) rfl dX8_count_80 (nx_I) (kx_I ?_)
          refine e_ireturn dX8_count_83 rfl (by omega) (by omega) ?_
          exact oktI (by unfold cntV; rw [if_neg (by omega), if_neg (by omega), if_neg (by omega), if_pos (by omega)]) ⟨hx, FrI.rf⟩
        · refine r_tableIn (off := 65) (tgt := 84) dX8_count_19 (by omega) (by omega) (by omega) (by rw [e19]; rfl) (by decide) ?_
          refine r_aload_n dX8_count_84 rfl ?_
          refine r_callV0 okX8_allBlocks ⟨by decide, by decide⟩ ml_X8_220 (mX8_allBlocks hx hv hi) (by first | assumption | exact up_s _ _ _ | exact (up_n _ (by assumption)).trans (by assumption) | exact (up_n _ (by assumption)).trans (up_s _ _ _) | exact (up_n _ (by assumption)).trans ((up_n _ (by assumption)).trans (by assumption))) rfl rfl (Nat.le_of_ble_eq_true rfl) (by omega) (by omega) rfl dX8_count_85 (nx_tI) (kx_tI ?_)
          intro M2 hM2
          refine e_ireturn dX8_count_88 rfl (by omega) (by omega) ?_
          exact oktI (by unfold cntV; rw [if_neg (by omega), if_neg (by omega), if_neg (by omega), if_neg (by omega), if_pos (by omega)]) hM2
        · refine r_tableIn (off := 70) (tgt := 89) dX8_count_19 (by omega) (by omega) (by omega) (by rw [e19]; rfl) (by decide) ?_
          refine r_aload_n dX8_count_89 rfl ?_
          refine r_callV0 okX8_pairsAlike ⟨by decide, by decide⟩ ml_X8_223 (mX8_pairsAlike hx hv hi) (by first | assumption | exact up_s _ _ _ | exact (up_n _ (by assumption)).trans (by assumption) | exact (up_n _ (by assumption)).trans (up_s _ _ _) | exact (up_n _ (by assumption)).trans ((up_n _ (by assumption)).trans (by assumption))) rfl rfl (Nat.le_of_ble_eq_true rfl) (by omega) (by omega) rfl dX8_count_90 (nx_I) (kx_I ?_)
          refine e_ireturn dX8_count_93 rfl (by omega) (by omega) ?_
          exact oktI (by unfold cntV; rw [if_neg (by omega), if_neg (by omega), if_neg (by omega), if_neg (by omega), if_neg (by omega), if_pos (by omega)]) ⟨hx, FrI.rf⟩
    ·
      refine r_iconst dX8_count_10 ?_
      refine r_goto (tgt := 15) dX8_count_11 (by decide) ?_
      refine r_callS1 okX8_requireArgument ⟨by decide, by decide⟩ ml_X8_96 (mX8_requireArgument_ok (bc := 0) (bs := 0) (by omega)) (Nat.le_of_ble_eq_true rfl) (by omega) (by omega) rfl dX8_count_15 (nx_V) (kx_V ?_)
      refine r_iload_n dX8_count_18 rfl ?_
      by_cases hw19 : w < 0 ∨ 5 < w
      · refine r_tableOut (tgt := 94) dX8_count_19 (by omega) hw19 (by decide) ?_
        refine r_aload_n dX8_count_94 rfl ?_
        refine r_getfield clX8 1 (by decide) fl_X8_19 (by first | assumption | exact up_s _ _ _ | exact (up_n _ (by assumption)).trans (by assumption) | exact (up_n _ (by assumption)).trans (up_s _ _ _) | exact (up_n _ (by assumption)).trans ((up_n _ (by assumption)).trans (by assumption))) rfl dX8_count_95 ?_
        refine r_callV0 okX2_amount ⟨by decide, by decide⟩ ml_X8_156 (mX2_amount hhs) (by first | assumption | exact up_s _ _ _ | exact (up_n _ (by assumption)).trans (by assumption) | exact (up_n _ (by assumption)).trans (up_s _ _ _) | exact (up_n _ (by assumption)).trans ((up_n _ (by assumption)).trans (by assumption))) rfl rfl (Nat.le_of_ble_eq_true rfl) (by omega) (by omega) rfl dX8_count_98 (nx_I) (kx_I ?_)
        refine e_ireturn dX8_count_101 rfl (by omega) (by omega) ?_
        exact oktI (by unfold cntV; rw [if_neg (by omega), if_neg (by omega), if_neg (by omega), if_neg (by omega), if_neg (by omega), if_neg (by omega)]) ⟨hx, FrI.rf⟩
      · rcases (show w = 0 ∨ w = 1 ∨ w = 2 ∨ w = 3 ∨ w = 4 ∨ w = 5 by omega) with e19 | e19 | e19 | e19 | e19 | e19
        · refine r_tableIn (off := 37) (tgt := 56) dX8_count_19 (by omega) (by omega) (by omega) (by rw [e19]; rfl) (by decide) ?_
          refine r_aload_n dX8_count_56 rfl ?_
          refine r_callV0 okX8_allMembers ⟨by decide, by decide⟩ ml_X8_208 (mX8_allMembers hx hv hi) (by first | assumption | exact up_s _ _ _ | exact (up_n _ (by assumption)).trans (by assumption) | exact (up_n _ (by assumption)).trans (up_s _ _ _) | exact (up_n _ (by assumption)).trans ((up_n _ (by assumption)).trans (by assumption))) rfl rfl (Nat.le_of_ble_eq_true rfl) (by omega) (by omega) rfl dX8_count_57 (nx_I) (kx_I ?_)
          refine e_ireturn dX8_count_60 rfl (by omega) (by omega) ?_
          exact oktI (by unfold cntV; rw [if_pos (by omega)]) ⟨hx, FrI.rf⟩
        · refine r_tableIn (off := 42) (tgt := 61) dX8_count_19 (by omega) (by omega) (by omega) (by rw [e19]; rfl) (by decide) ?_
          refine r_aload_n dX8_count_61 rfl ?_
          refine r_callV0 okX8_unlikeMembers ⟨by decide, by decide⟩ ml_X8_211 (mX8_unlikeMembers hx hv hi) (by first | assumption | exact up_s _ _ _ | exact (up_n _ (by assumption)).trans (by assumption) | exact (up_n _ (by assumption)).trans (up_s _ _ _) | exact (up_n _ (by assumption)).trans ((up_n _ (by assumption)).trans (by assumption))) rfl rfl (Nat.le_of_ble_eq_true rfl) (by omega) (by omega) rfl dX8_count_62 (nx_I) (kx_I ?_)
          refine e_ireturn dX8_count_65 rfl (by omega) (by omega) ?_
          exact oktI (by unfold cntV; rw [if_neg (by omega), if_pos (by omega)]) ⟨hx, FrI.rf⟩
        · refine r_tableIn (off := 47) (tgt := 66) dX8_count_19 (by omega) (by omega) (by omega) (by rw [e19]; rfl) (by decide) ?_
          refine r_aload_n dX8_count_66 rfl ?_
          refine r_callV0 okX8_membersOfAllFour ⟨by decide, by decide⟩ ml_X8_214 (mX8_membersOfAllFour hx hv hi) (by first | assumption | exact up_s _ _ _ | exact (up_n _ (by assumption)).trans (by assumption) | exact (up_n _ (by assumption)).trans (up_s _ _ _) | exact (up_n _ (by assumption)).trans ((up_n _ (by assumption)).trans (by assumption))) rfl rfl (Nat.le_of_ble_eq_true rfl) (by omega) (by omega) rfl dX8_count_67 (nx_I) (kx_I ?_)
          refine e_ireturn dX8_count_70 rfl (by omega) (by omega) ?_
          exact oktI (by unfold cntV; rw [if_neg (by omega), if_neg (by omega), if_pos (by omega)]) ⟨hx, FrI.rf⟩
        · refine r_tableIn (off := 52) (tgt := 71) dX8_count_19 (by omega) (by omega) (by omega) (by rw [e19]; rfl) (by decide) ?_
          refine r_aload_n dX8_count_71 rfl ?_
          refine r_aload_n dX8_count_72 rfl ?_
          refine r_getfield clX8 0 (by decide) fl_X8_10 (by first | assumption | exact up_s _ _ _ | exact (up_n _ (by assumption)).trans (by assumption) | exact (up_n _ (by assumption)).trans (up_s _ _ _) | exact (up_n _ (by assumption)).trans ((up_n _ (by assumption)).trans (by assumption))) rfl dX8_count_73 ?_
          refine r_iconst dX8_count_76 ?_
          refine r_callV1 okX7_valueOf ⟨by decide, by decide⟩ ml_X8_129 (mX7_valueOf hst (by omega)) (by first | assumption | exact up_s _ _ _ | exact (up_n _ (by assumption)).trans (by assumption) | exact (up_n _ (by assumption)).trans (up_s _ _ _) | exact (up_n _ (by assumption)).trans ((up_n _ (by assumption)).trans (by assumption))) rfl rfl (Nat.le_of_ble_eq_true rfl) (by omega) (by omega) rfl dX8_count_77 (nx_I) (kx_I ?_)
          rw [show valG g 1 = g 1 from rfl]
          refine r_callV1 okX8_allSizes ⟨by decide, by decide⟩ ml_X8_217 (mX8_allSizes hx hv hi (by omega)) (by first | assumption | exact up_s _ _ _ | exact (up_n _ (by assumption)).trans (by assumption) | exact (up_n _ (by assumption)).trans (up_s _ _ _) | exact (up_n _ (by assumption)).trans ((up_n _ (by assumption)).trans (by assumption))) rfl rfl (Nat.le_of_ble_eq_true rfl) (by omega) (by omega) rfl dX8_count_80 (nx_I) (kx_I ?_)
          refine e_ireturn dX8_count_83 rfl (by omega) (by omega) ?_
          exact oktI (by unfold cntV; rw [if_neg (by omega), if_neg (by omega), if_neg (by omega), if_pos (by omega)]) ⟨hx, FrI.rf⟩
        · refine r_tableIn (off := 65) (tgt := 84) dX8_count_19 (by omega) (by omega) (by omega) (by rw [e19]; rfl) (by decide) ?_
          refine r_aload_n dX8_count_84 rfl ?_
          refine r_callV0 okX8_allBlocks ⟨by decide, by decide⟩ ml_X8_220 (mX8_allBlocks hx hv hi) (by first | assumption | exact up_s _ _ _ | exact (up_n _ (by assumption)).trans (by assumption) | exact (up_n _ (by assumption)).trans (up_s _ _ _) | exact (up_n _ (by assumption)).trans ((up_n _ (by assumption)).trans (by assumption))) rfl rfl (Nat.le_of_ble_eq_true rfl) (by omega) (by omega) rfl dX8_count_85 (nx_tI) (kx_tI ?_)
          intro M2 hM2
          refine e_ireturn dX8_count_88 rfl (by omega) (by omega) ?_
          exact oktI (by unfold cntV; rw [if_neg (by omega), if_neg (by omega), if_neg (by omega), if_neg (by omega), if_pos (by omega)]) hM2
        · refine r_tableIn (off := 70) (tgt := 89) dX8_count_19 (by omega) (by omega) (by omega) (by rw [e19]; rfl) (by decide) ?_
          refine r_aload_n dX8_count_89 rfl ?_
          refine r_callV0 okX8_pairsAlike ⟨by decide, by decide⟩ ml_X8_223 (mX8_pairsAlike hx hv hi) (by first | assumption | exact up_s _ _ _ | exact (up_n _ (by assumption)).trans (by assumption) | exact (up_n _ (by assumption)).trans (up_s _ _ _) | exact (up_n _ (by assumption)).trans ((up_n _ (by assumption)).trans (by assumption))) rfl rfl (Nat.le_of_ble_eq_true rfl) (by omega) (by omega) rfl dX8_count_90 (nx_I) (kx_I ?_)
          refine e_ireturn dX8_count_93 rfl (by omega) (by omega) ?_
          exact oktI (by unfold cntV; rw [if_neg (by omega), if_neg (by omega), if_neg (by omega), if_neg (by omega), if_neg (by omega), if_pos (by omega)]) ⟨hx, FrI.rf⟩





