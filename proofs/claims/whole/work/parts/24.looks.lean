set_option maxHeartbeats 4000000 in
theorem mX8_count {M : Mem} {ad : Int → Nat} {n : Int → Int} {F : Int → Int → Int} {g : Int → Int} {m : Int} {S : Int → Sg3} {len : Int} {c : Int → Int} {w : Int} (hx : XSt M ad (n, F, g) m S len c) (hv : Vld (n, F, g)) (hi : Inj ad) (q0 : R32 w) : Ct KX8_count [.ref (ad 0), vI w] M 6 36 (UX (eB (0 ≤ w ∧ w ≤ 6) xA) (cntV n F g m w) (fun M2 => XSt M2 ad (n, F, g) m S len c ∧ FrI ad 0 112 M M2) M) := by
  refine Ct.of _ (by decide) rfl (Nat.le_of_ble_eq_true rfl) ?_
  obtain ⟨h00, hst, hhs, hbf, hpw, hbw, hmw, ⟨tn, tF, htr⟩, ⟨wn, wF, hwi⟩⟩ := id hx
  obtain ⟨hvs, hv0, hv1, hv2, hv3⟩ := id hv
  change StP _ ad 1 n F g at hst
  dsimp only at hvs hv0 hv1 hv2 hv3
  have hob1 := hst.1
  obtain ⟨hh_1, hh_2, hh_3, hh_4, hh_5, hho, -⟩ := id hhs
  have hob94 := hbf.1
  obtain ⟨⟨y1, y2, y3, y4, y5, y6, hob96⟩, -, -⟩ := id hpw
  obtain ⟨z1, z2, z3, hob99, -⟩ := id hbw
  obtain ⟨⟨u1, hob101⟩, -, -⟩ := id hmw
  have hob108 := htr.1
  have hob110 := hwi.1
  refine r_iload_n dX8_count_0 rfl ?_
  refine r_if_lt (tgt := 14) dX8_count_1 (by decide) (by omega) (fun h1 => ?_) (fun h1 => ?_)
  ·
    refine r_iconst dX8_count_14 ?_
    refine r_callS1 okX8_requireArgument ⟨by decide, by decide⟩ ml_X8_96 (mX8_requireArgument (b := 0 ≤ w ∧ w ≤ 6) (by first | (rw [if_pos (by omega)]; done) | (rw [if_neg (by omega)]; done))) (Nat.le_of_ble_eq_true rfl) (Nat.le_of_ble_eq_true rfl) (Nat.le_of_ble_eq_true rfl) rfl dX8_count_15 (tUX (fun hne => by rfl)) (kx_U ?_)
    intro hE1
    have hq9 := eA_ok hE1
    refine r_iload_n dX8_count_18 rfl ?_
    by_cases hw19 : w < 0 ∨ 5 < w
    · refine r_tableOut (tgt := 94) dX8_count_19 (by omega) hw19 (by decide) ?_
      refine r_aload_n dX8_count_94 rfl ?_
      refine r_getfield clX8 1 (by decide) fl_X8_19 (by first | assumption | exact up_s _ _ _ | exact (up_n _ (by assumption)).trans (by assumption) | exact (up_n _ (by assumption)).trans (up_s _ _ _) | exact (up_n _ (by assumption)).trans ((up_n _ (by assumption)).trans (by assumption))) rfl dX8_count_95 ?_
      refine r_callV0 okX2_amount ⟨by decide, by decide⟩ ml_X8_156 (mX2_amount hhs) (by first | assumption | exact up_s _ _ _ | exact (up_n _ (by assumption)).trans (by assumption) | exact (up_n _ (by assumption)).trans (up_s _ _ _) | exact (up_n _ (by assumption)).trans ((up_n _ (by assumption)).trans (by assumption))) rfl rfl (Nat.le_of_ble_eq_true rfl) (Nat.le_of_ble_eq_true rfl) (Nat.le_of_ble_eq_true rfl) rfl dX8_count_98 (nx_I) (kx_I ?_)
      refine e_ireturn dX8_count_101 rfl (Nat.le_of_ble_eq_true rfl) (Nat.le_of_ble_eq_true rfl) ?_
      exact okUX (by exact hE1) (by unfold cntV; rw [if_neg (by omega), if_neg (by omega), if_neg (by omega), if_neg (by omega), if_neg (by omega), if_neg (by omega)]) ⟨hx, FrI.rf⟩
    · rcases (show w = 0 ∨ w = 1 ∨ w = 2 ∨ w = 3 ∨ w = 4 ∨ w = 5 by omega) with e19 | e19 | e19 | e19 | e19 | e19
      · refine r_tableIn (off := 37) (tgt := 56) dX8_count_19 (by omega) (by omega) (by omega) (by rw [e19]; rfl) (by decide) ?_
        refine r_aload_n dX8_count_56 rfl ?_
        refine r_callV0 okX8_allMembers ⟨by decide, by decide⟩ ml_X8_208 (mX8_allMembers hx hv hi) (by first | assumption | exact up_s _ _ _ | exact (up_n _ (by assumption)).trans (by assumption) | exact (up_n _ (by assumption)).trans (up_s _ _ _) | exact (up_n _ (by assumption)).trans ((up_n _ (by assumption)).trans (by assumption))) rfl rfl (Nat.le_of_ble_eq_true rfl) (Nat.le_of_ble_eq_true rfl) (Nat.le_of_ble_eq_true rfl) rfl dX8_count_57 (nx_I) (kx_I ?_)
        refine e_ireturn dX8_count_60 rfl (Nat.le_of_ble_eq_true rfl) (Nat.le_of_ble_eq_true rfl) ?_
        exact okUX (by exact hE1) (by unfold cntV; rw [if_pos (by omega)]) ⟨hx, FrI.rf⟩
      · refine r_tableIn (off := 42) (tgt := 61) dX8_count_19 (by omega) (by omega) (by omega) (by rw [e19]; rfl) (by decide) ?_
        refine r_aload_n dX8_count_61 rfl ?_
        refine r_callV0 okX8_unlikeMembers ⟨by decide, by decide⟩ ml_X8_211 (mX8_unlikeMembers hx hv hi) (by first | assumption | exact up_s _ _ _ | exact (up_n _ (by assumption)).trans (by assumption) | exact (up_n _ (by assumption)).trans (up_s _ _ _) | exact (up_n _ (by assumption)).trans ((up_n _ (by assumption)).trans (by assumption))) rfl rfl (Nat.le_of_ble_eq_true rfl) (Nat.le_of_ble_eq_true rfl) (Nat.le_of_ble_eq_true rfl) rfl dX8_count_62 (nx_I) (kx_I ?_)
        refine e_ireturn dX8_count_65 rfl (Nat.le_of_ble_eq_true rfl) (Nat.le_of_ble_eq_true rfl) ?_
        exact okUX (by exact hE1) (by unfold cntV; rw [if_neg (by omega), if_pos (by omega)]) ⟨hx, FrI.rf⟩
      · refine r_tableIn (off := 47) (tgt := 66) dX8_count_19 (by omega) (by omega) (by omega) (by rw [e19]; rfl) (by decide) ?_
        refine r_aload_n dX8_count_66 rfl ?_
        refine r_callV0 okX8_membersOfAllFour ⟨by decide, by decide⟩ ml_X8_214 (mX8_membersOfAllFour hx hv hi) (by first | assumption | exact up_s _ _ _ | exact (up_n _ (by assumption)).trans (by assumption) | exact (up_n _ (by assumption)).trans (up_s _ _ _) | exact (up_n _ (by assumption)).trans ((up_n _ (by assumption)).trans (by assumption))) rfl rfl (Nat.le_of_ble_eq_true rfl) (Nat.le_of_ble_eq_true rfl) (Nat.le_of_ble_eq_true rfl) rfl dX8_count_67 (nx_I) (kx_I ?_)
        refine e_ireturn dX8_count_70 rfl (Nat.le_of_ble_eq_true rfl) (Nat.le_of_ble_eq_true rfl) ?_
        exact okUX (by exact hE1) (by unfold cntV; rw [if_neg (by omega), if_neg (by omega), if_pos (by omega)]) ⟨hx, FrI.rf⟩
      · refine r_tableIn (off := 52) (tgt := 71) dX8_count_19 (by omega) (by omega) (by omega) (by rw [e19]; rfl) (by decide) ?_
        refine r_aload_n dX8_count_71 rfl ?_
        refine r_aload_n dX8_count_72 rfl ?_
        refine r_getfield clX8 0 (by decide) fl_X8_10 (by first | assumption | exact up_s _ _ _ | exact (up_n _ (by assumption)).trans (by assumption) | exact (up_n _ (by assumption)).trans (up_s _ _ _) | exact (up_n _ (by assumption)).trans ((up_n _ (by assumption)).trans (by assumption))) rfl dX8_count_73 ?_
        refine r_iconst dX8_count_76 ?_
        refine r_callV1 okX7_valueOf ⟨by decide, by decide⟩ ml_X8_129 (mX7_valueOf hst (by omega)) (by first | assumption | exact up_s _ _ _ | exact (up_n _ (by assumption)).trans (by assumption) | exact (up_n _ (by assumption)).trans (up_s _ _ _) | exact (up_n _ (by assumption)).trans ((up_n _ (by assumption)).trans (by assumption))) rfl rfl (Nat.le_of_ble_eq_true rfl) (Nat.le_of_ble_eq_true rfl) (Nat.le_of_ble_eq_true rfl) rfl dX8_count_77 (nx_I) (kx_I ?_)
        rw [show valG g 1 = g 1 from rfl]
        refine r_callV1 okX8_allSizes ⟨by decide, by decide⟩ ml_X8_217 (mX8_allSizes hx hv hi (by omega)) (by first | assumption | exact up_s _ _ _ | exact (up_n _ (by assumption)).trans (by assumption) | exact (up_n _ (by assumption)).trans (up_s _ _ _) | exact (up_n _ (by assumption)).trans ((up_n _ (by assumption)).trans (by assumption))) rfl rfl (Nat.le_of_ble_eq_true rfl) (Nat.le_of_ble_eq_true rfl) (Nat.le_of_ble_eq_true rfl) rfl dX8_count_80 (nx_I) (kx_I ?_)
        refine e_ireturn dX8_count_83 rfl (Nat.le_of_ble_eq_true rfl) (Nat.le_of_ble_eq_true rfl) ?_
        exact okUX (by exact hE1) (by unfold cntV; rw [if_neg (by omega), if_neg (by omega), if_neg (by omega), if_pos (by omega)]) ⟨hx, FrI.rf⟩
      · refine r_tableIn (off := 65) (tgt := 84) dX8_count_19 (by omega) (by omega) (by omega) (by rw [e19]; rfl) (by decide) ?_
        refine r_aload_n dX8_count_84 rfl ?_
        refine r_callV0 okX8_allBlocks ⟨by decide, by decide⟩ ml_X8_220 (mX8_allBlocks hx hv hi) (by first | assumption | exact up_s _ _ _ | exact (up_n _ (by assumption)).trans (by assumption) | exact (up_n _ (by assumption)).trans (up_s _ _ _) | exact (up_n _ (by assumption)).trans ((up_n _ (by assumption)).trans (by assumption))) rfl rfl (Nat.le_of_ble_eq_true rfl) (Nat.le_of_ble_eq_true rfl) (Nat.le_of_ble_eq_true rfl) rfl dX8_count_85 (nx_tI) (kx_tI ?_)
        intro M2 hM2
        refine e_ireturn dX8_count_88 rfl (Nat.le_of_ble_eq_true rfl) (Nat.le_of_ble_eq_true rfl) ?_
        exact okUX (by exact hE1) (by unfold cntV; rw [if_neg (by omega), if_neg (by omega), if_neg (by omega), if_neg (by omega), if_pos (by omega)]) hM2
      · refine r_tableIn (off := 70) (tgt := 89) dX8_count_19 (by omega) (by omega) (by omega) (by rw [e19]; rfl) (by decide) ?_
        refine r_aload_n dX8_count_89 rfl ?_
        refine r_callV0 okX8_pairsAlike ⟨by decide, by decide⟩ ml_X8_223 (mX8_pairsAlike hx hv hi) (by first | assumption | exact up_s _ _ _ | exact (up_n _ (by assumption)).trans (by assumption) | exact (up_n _ (by assumption)).trans (up_s _ _ _) | exact (up_n _ (by assumption)).trans ((up_n _ (by assumption)).trans (by assumption))) rfl rfl (Nat.le_of_ble_eq_true rfl) (Nat.le_of_ble_eq_true rfl) (Nat.le_of_ble_eq_true rfl) rfl dX8_count_90 (nx_I) (kx_I ?_)
        refine e_ireturn dX8_count_93 rfl (Nat.le_of_ble_eq_true rfl) (Nat.le_of_ble_eq_true rfl) ?_
        exact okUX (by exact hE1) (by unfold cntV; rw [if_neg (by omega), if_neg (by omega), if_neg (by omega), if_neg (by omega), if_neg (by omega), if_pos (by omega)]) ⟨hx, FrI.rf⟩
  ·
    refine r_iload_n dX8_count_4 rfl ?_
    refine r_bipush dX8_count_5 (by decide) ?_
    refine r_icmp_gt (tgt := 14) dX8_count_7 (by decide) (by omega) (by omega) (fun h7 => ?_) (fun h7 => ?_)
    ·
      refine r_iconst dX8_count_14 ?_
      refine r_callS1 okX8_requireArgument ⟨by decide, by decide⟩ ml_X8_96 (mX8_requireArgument (b := 0 ≤ w ∧ w ≤ 6) (by first | (rw [if_pos (by omega)]; done) | (rw [if_neg (by omega)]; done))) (Nat.le_of_ble_eq_true rfl) (Nat.le_of_ble_eq_true rfl) (Nat.le_of_ble_eq_true rfl) rfl dX8_count_15 (tUX (fun hne => by rfl)) (kx_U ?_)
      intro hE1
      have hq9 := eA_ok hE1
      refine r_iload_n dX8_count_18 rfl ?_
      by_cases hw19 : w < 0 ∨ 5 < w
      · refine r_tableOut (tgt := 94) dX8_count_19 (by omega) hw19 (by decide) ?_
        refine r_aload_n dX8_count_94 rfl ?_
        refine r_getfield clX8 1 (by decide) fl_X8_19 (by first | assumption | exact up_s _ _ _ | exact (up_n _ (by assumption)).trans (by assumption) | exact (up_n _ (by assumption)).trans (up_s _ _ _) | exact (up_n _ (by assumption)).trans ((up_n _ (by assumption)).trans (by assumption))) rfl dX8_count_95 ?_
        refine r_callV0 okX2_amount ⟨by decide, by decide⟩ ml_X8_156 (mX2_amount hhs) (by first | assumption | exact up_s _ _ _ | exact (up_n _ (by assumption)).trans (by assumption) | exact (up_n _ (by assumption)).trans (up_s _ _ _) | exact (up_n _ (by assumption)).trans ((up_n _ (by assumption)).trans (by assumption))) rfl rfl (Nat.le_of_ble_eq_true rfl) (Nat.le_of_ble_eq_true rfl) (Nat.le_of_ble_eq_true rfl) rfl dX8_count_98 (nx_I) (kx_I ?_)
        refine e_ireturn dX8_count_101 rfl (Nat.le_of_ble_eq_true rfl) (Nat.le_of_ble_eq_true rfl) ?_
        exact okUX (by exact hE1) (by unfold cntV; rw [if_neg (by omega), if_neg (by omega), if_neg (by omega), if_neg (by omega), if_neg (by omega), if_neg (by omega)]) ⟨hx, FrI.rf⟩
      · rcases (show w = 0 ∨ w = 1 ∨ w = 2 ∨ w = 3 ∨ w = 4 ∨ w = 5 by omega) with e19 | e19 | e19 | e19 | e19 | e19
        · refine r_tableIn (off := 37) (tgt := 56) dX8_count_19 (by omega) (by omega) (by omega) (by rw [e19]; rfl) (by decide) ?_
          refine r_aload_n dX8_count_56 rfl ?_
          refine r_callV0 okX8_allMembers ⟨by decide, by decide⟩ ml_X8_208 (mX8_allMembers hx hv hi) (by first | assumption | exact up_s _ _ _ | exact (up_n _ (by assumption)).trans (by assumption) | exact (up_n _ (by assumption)).trans (up_s _ _ _) | exact (up_n _ (by assumption)).trans ((up_n _ (by assumption)).trans (by assumption))) rfl rfl (Nat.le_of_ble_eq_true rfl) (Nat.le_of_ble_eq_true rfl) (Nat.le_of_ble_eq_true rfl) rfl dX8_count_57 (nx_I) (kx_I ?_)
          refine e_ireturn dX8_count_60 rfl (Nat.le_of_ble_eq_true rfl) (Nat.le_of_ble_eq_true rfl) ?_
          exact okUX (by exact hE1) (by unfold cntV; rw [if_pos (by omega)]) ⟨hx, FrI.rf⟩
        · refine r_tableIn (off := 42) (tgt := 61) dX8_count_19 (by omega) (by omega) (by omega) (by rw [e19]; rfl) (by decide) ?_
          refine r_aload_n dX8_count_61 rfl ?_
          refine r_callV0 okX8_unlikeMembers ⟨by decide, by decide⟩ ml_X8_211 (mX8_unlikeMembers hx hv hi) (by first | assumption | exact up_s _ _ _ | exact (up_n _ (by assumption)).trans (by assumption) | exact (up_n _ (by assumption)).trans (up_s _ _ _) | exact (up_n _ (by assumption)).trans ((up_n _ (by assumption)).trans (by assumption))) rfl rfl (Nat.le_of_ble_eq_true rfl) (Nat.le_of_ble_eq_true rfl) (Nat.le_of_ble_eq_true rfl) rfl dX8_count_62 (nx_I) (kx_I ?_)
          refine e_ireturn dX8_count_65 rfl (Nat.le_of_ble_eq_true rfl) (Nat.le_of_ble_eq_true rfl) ?_
          exact okUX (by exact hE1) (by unfold cntV; rw [if_neg (by omega), if_pos (by omega)]) ⟨hx, FrI.rf⟩
        · refine r_tableIn (off := 47) (tgt := 66) dX8_count_19 (by omega) (by omega) (by omega) (by rw [e19]; rfl) (by decide) ?_
          refine r_aload_n dX8_count_66 rfl ?_
          refine r_callV0 okX8_membersOfAllFour ⟨by decide, by decide⟩ ml_X8_214 (mX8_membersOfAllFour hx hv hi) (by first | assumption | exact up_s _ _ _ | exact (up_n _ (by assumption)).trans (by assumption) | exact (up_n _ (by assumption)).trans (up_s _ _ _) | exact (up_n _ (by assumption)).trans ((up_n _ (by assumption)).trans (by assumption))) rfl rfl (Nat.le_of_ble_eq_true rfl) (Nat.le_of_ble_eq_true rfl) (Nat.le_of_ble_eq_true rfl) rfl dX8_count_67 (nx_I) (kx_I ?_)
          refine e_ireturn dX8_count_70 rfl (Nat.le_of_ble_eq_true rfl) (Nat.le_of_ble_eq_true rfl) ?_
          exact okUX (by exact hE1) (by unfold cntV; rw [if_neg (by omega), if_neg (by omega), if_pos (by omega)]) ⟨hx, FrI.rf⟩
        · refine r_tableIn (off := 52) (tgt := 71) dX8_count_19 (by omega) (by omega) (by omega) (by rw [e19]; rfl) (by decide) ?_
          refine r_aload_n dX8_count_71 rfl ?_
          refine r_aload_n dX8_count_72 rfl ?_
          refine r_getfield clX8 0 (by decide) fl_X8_10 (by first | assumption | exact up_s _ _ _ | exact (up_n _ (by assumption)).trans (by assumption) | exact (up_n _ (by assumption)).trans (up_s _ _ _) | exact (up_n _ (by assumption)).trans ((up_n _ (by assumption)).trans (by assumption))) rfl dX8_count_73 ?_
          refine r_iconst dX8_count_76 ?_
          refine r_callV1 okX7_valueOf ⟨by decide, by decide⟩ ml_X8_129 (mX7_valueOf hst (by omega)) (by first | assumption | exact up_s _ _ _ | exact (up_n _ (by assumption)).trans (by assumption) | exact (up_n _ (by assumption)).trans (up_s _ _ _) | exact (up_n _ (by assumption)).trans ((up_n _ (by assumption)).trans (by assumption))) rfl rfl (Nat.le_of_ble_eq_true rfl) (Nat.le_of_ble_eq_true rfl) (Nat.le_of_ble_eq_true rfl) rfl dX8_count_77 (nx_I) (kx_I ?_)
          rw [show valG g 1 = g 1 from rfl]
          refine r_callV1 okX8_allSizes ⟨by decide, by decide⟩ ml_X8_217 (mX8_allSizes hx hv hi (by omega)) (by first | assumption | exact up_s _ _ _ | exact (up_n _ (by assumption)).trans (by assumption) | exact (up_n _ (by assumption)).trans (up_s _ _ _) | exact (up_n _ (by assumption)).trans ((up_n _ (by assumption)).trans (by assumption))) rfl rfl (Nat.le_of_ble_eq_true rfl) (Nat.le_of_ble_eq_true rfl) (Nat.le_of_ble_eq_true rfl) rfl dX8_count_80 (nx_I) (kx_I ?_)
          refine e_ireturn dX8_count_83 rfl (Nat.le_of_ble_eq_true rfl) (Nat.le_of_ble_eq_true rfl) ?_
          exact okUX (by exact hE1) (by unfold cntV; rw [if_neg (by omega), if_neg (by omega), if_neg (by omega), if_pos (by omega)]) ⟨hx, FrI.rf⟩
        · refine r_tableIn (off := 65) (tgt := 84) dX8_count_19 (by omega) (by omega) (by omega) (by rw [e19]; rfl) (by decide) ?_
          refine r_aload_n dX8_count_84 rfl ?_
          refine r_callV0 okX8_allBlocks ⟨by decide, by decide⟩ ml_X8_220 (mX8_allBlocks hx hv hi) (by first | assumption | exact up_s _ _ _ | exact (up_n _ (by assumption)).trans (by assumption) | exact (up_n _ (by assumption)).trans (up_s _ _ _) | exact (up_n _ (by assumption)).trans ((up_n _ (by assumption)).trans (by assumption))) rfl rfl (Nat.le_of_ble_eq_true rfl) (Nat.le_of_ble_eq_true rfl) (Nat.le_of_ble_eq_true rfl) rfl dX8_count_85 (nx_tI) (kx_tI ?_)
          intro M2 hM2
          refine e_ireturn dX8_count_88 rfl (Nat.le_of_ble_eq_true rfl) (Nat.le_of_ble_eq_true rfl) ?_
          exact okUX (by exact hE1) (by unfold cntV; rw [if_neg (by omega), if_neg (by omega), if_neg (by omega), if_neg (by omega), if_pos (by omega)]) hM2
        · refine r_tableIn (off := 70) (tgt := 89) dX8_count_19 (by omega) (by omega) (by omega) (by rw [e19]; rfl) (by decide) ?_
          refine r_aload_n dX8_count_89 rfl ?_
          refine r_callV0 okX8_pairsAlike ⟨by decide, by decide⟩ ml_X8_223 (mX8_pairsAlike hx hv hi) (by first | assumption | exact up_s _ _ _ | exact (up_n _ (by assumption)).trans (by assumption) | exact (up_n _ (by assumption)).trans (up_s _ _ _) | exact (up_n _ (by assumption)).trans ((up_n _ (by assumption)).trans (by assumption))) rfl rfl (Nat.le_of_ble_eq_true rfl) (Nat.le_of_ble_eq_true rfl) (Nat.le_of_ble_eq_true rfl) rfl dX8_count_90 (nx_I) (kx_I ?_)
          refine e_ireturn dX8_count_93 rfl (Nat.le_of_ble_eq_true rfl) (Nat.le_of_ble_eq_true rfl) ?_
          exact okUX (by exact hE1) (by unfold cntV; rw [if_neg (by omega), if_neg (by omega), if_neg (by omega), if_neg (by omega), if_neg (by omega), if_pos (by omega)]) ⟨hx, FrI.rf⟩
    ·
      refine r_iconst dX8_count_10 ?_
      refine r_goto (tgt := 15) dX8_count_11 (by decide) ?_
      refine r_callS1 okX8_requireArgument ⟨by decide, by decide⟩ ml_X8_96 (mX8_requireArgument (b := 0 ≤ w ∧ w ≤ 6) (by first | (rw [if_pos (by omega)]; done) | (rw [if_neg (by omega)]; done))) (Nat.le_of_ble_eq_true rfl) (Nat.le_of_ble_eq_true rfl) (Nat.le_of_ble_eq_true rfl) rfl dX8_count_15 (tUX (fun hne => by rfl)) (kx_U ?_)
      intro hE1
      have hq9 := eA_ok hE1
      refine r_iload_n dX8_count_18 rfl ?_
      by_cases hw19 : w < 0 ∨ 5 < w
      · refine r_tableOut (tgt := 94) dX8_count_19 (by omega) hw19 (by decide) ?_
        refine r_aload_n dX8_count_94 rfl ?_
        refine r_getfield clX8 1 (by decide) fl_X8_19 (by first | assumption | exact up_s _ _ _ | exact (up_n _ (by assumption)).trans (by assumption) | exact (up_n _ (by assumption)).trans (up_s _ _ _) | exact (up_n _ (by assumption)).trans ((up_n _ (by assumption)).trans (by assumption))) rfl dX8_count_95 ?_
        refine r_callV0 okX2_amount ⟨by decide, by decide⟩ ml_X8_156 (mX2_amount hhs) (by first | assumption | exact up_s _ _ _ | exact (up_n _ (by assumption)).trans (by assumption) | exact (up_n _ (by assumption)).trans (up_s _ _ _) | exact (up_n _ (by assumption)).trans ((up_n _ (by assumption)).trans (by assumption))) rfl rfl (Nat.le_of_ble_eq_true rfl) (Nat.le_of_ble_eq_true rfl) (Nat.le_of_ble_eq_true rfl) rfl dX8_count_98 (nx_I) (kx_I ?_)
        refine e_ireturn dX8_count_101 rfl (Nat.le_of_ble_eq_true rfl) (Nat.le_of_ble_eq_true rfl) ?_
        exact okUX (by exact hE1) (by unfold cntV; rw [if_neg (by omega), if_neg (by omega), if_neg (by omega), if_neg (by omega), if_neg (by omega), if_neg (by omega)]) ⟨hx, FrI.rf⟩
      · rcases (show w = 0 ∨ w = 1 ∨ w = 2 ∨ w = 3 ∨ w = 4 ∨ w = 5 by omega) with e19 | e19 | e19 | e19 | e19 | e19
        · refine r_tableIn (off := 37) (tgt := 56) dX8_count_19 (by omega) (by omega) (by omega) (by rw [e19]; rfl) (by decide) ?_
          refine r_aload_n dX8_count_56 rfl ?_
          refine r_callV0 okX8_allMembers ⟨by decide, by decide⟩ ml_X8_208 (mX8_allMembers hx hv hi) (by first | assumption | exact up_s _ _ _ | exact (up_n _ (by assumption)).trans (by assumption) | exact (up_n _ (by assumption)).trans (up_s _ _ _) | exact (up_n _ (by assumption)).trans ((up_n _ (by assumption)).trans (by assumption))) rfl rfl (Nat.le_of_ble_eq_true rfl) (Nat.le_of_ble_eq_true rfl) (Nat.le_of_ble_eq_true rfl) rfl dX8_count_57 (nx_I) (kx_I ?_)
          refine e_ireturn dX8_count_60 rfl (Nat.le_of_ble_eq_true rfl) (Nat.le_of_ble_eq_true rfl) ?_
          exact okUX (by exact hE1) (by unfold cntV; rw [if_pos (by omega)]) ⟨hx, FrI.rf⟩
        · refine r_tableIn (off := 42) (tgt := 61) dX8_count_19 (by omega) (by omega) (by omega) (by rw [e19]; rfl) (by decide) ?_
          refine r_aload_n dX8_count_61 rfl ?_
          refine r_callV0 okX8_unlikeMembers ⟨by decide, by decide⟩ ml_X8_211 (mX8_unlikeMembers hx hv hi) (by first | assumption | exact up_s _ _ _ | exact (up_n _ (by assumption)).trans (by assumption) | exact (up_n _ (by assumption)).trans (up_s _ _ _) | exact (up_n _ (by assumption)).trans ((up_n _ (by assumption)).trans (by assumption))) rfl rfl (Nat.le_of_ble_eq_true rfl) (Nat.le_of_ble_eq_true rfl) (Nat.le_of_ble_eq_true rfl) rfl dX8_count_62 (nx_I) (kx_I ?_)
          refine e_ireturn dX8_count_65 rfl (Nat.le_of_ble_eq_true rfl) (Nat.le_of_ble_eq_true rfl) ?_
          exact okUX (by exact hE1) (by unfold cntV; rw [if_neg (by omega), if_pos (by omega)]) ⟨hx, FrI.rf⟩
        · refine r_tableIn (off := 47) (tgt := 66) dX8_count_19 (by omega) (by omega) (by omega) (by rw [e19]; rfl) (by decide) ?_
          refine r_aload_n dX8_count_66 rfl ?_
          refine r_callV0 okX8_membersOfAllFour ⟨by decide, by decide⟩ ml_X8_214 (mX8_membersOfAllFour hx hv hi) (by first | assumption | exact up_s _ _ _ | exact (up_n _ (by assumption)).trans (by assumption) | exact (up_n _ (by assumption)).trans (up_s _ _ _) | exact (up_n _ (by assumption)).trans ((up_n _ (by assumption)).trans (by assumption))) rfl rfl (Nat.le_of_ble_eq_true rfl) (Nat.le_of_ble_eq_true rfl) (Nat.le_of_ble_eq_true rfl) rfl dX8_count_67 (nx_I) (kx_I ?_)
          refine e_ireturn dX8_count_70 rfl (Nat.le_of_ble_eq_true rfl) (Nat.le_of_ble_eq_true rfl) ?_
          exact okUX (by exact hE1) (by unfold cntV; rw [if_neg (by omega), if_neg (by omega), if_pos (by omega)]) ⟨hx, FrI.rf⟩
        · refine r_tableIn (off := 52) (tgt := 71) dX8_count_19 (by omega) (by omega) (by omega) (by rw [e19]; rfl) (by decide) ?_
          refine r_aload_n dX8_count_71 rfl ?_
          refine r_aload_n dX8_count_72 rfl ?_
          refine r_getfield clX8 0 (by decide) fl_X8_10 (by first | assumption | exact up_s _ _ _ | exact (up_n _ (by assumption)).trans (by assumption) | exact (up_n _ (by assumption)).trans (up_s _ _ _) | exact (up_n _ (by assumption)).trans ((up_n _ (by assumption)).trans (by assumption))) rfl dX8_count_73 ?_
          refine r_iconst dX8_count_76 ?_
          refine r_callV1 okX7_valueOf ⟨by decide, by decide⟩ ml_X8_129 (mX7_valueOf hst (by omega)) (by first | assumption | exact up_s _ _ _ | exact (up_n _ (by assumption)).trans (by assumption) | exact (up_n _ (by assumption)).trans (up_s _ _ _) | exact (up_n _ (by assumption)).trans ((up_n _ (by assumption)).trans (by assumption))) rfl rfl (Nat.le_of_ble_eq_true rfl) (Nat.le_of_ble_eq_true rfl) (Nat.le_of_ble_eq_true rfl) rfl dX8_count_77 (nx_I) (kx_I ?_)
          rw [show valG g 1 = g 1 from rfl]
          refine r_callV1 okX8_allSizes ⟨by decide, by decide⟩ ml_X8_217 (mX8_allSizes hx hv hi (by omega)) (by first | assumption | exact up_s _ _ _ | exact (up_n _ (by assumption)).trans (by assumption) | exact (up_n _ (by assumption)).trans (up_s _ _ _) | exact (up_n _ (by assumption)).trans ((up_n _ (by assumption)).trans (by assumption))) rfl rfl (Nat.le_of_ble_eq_true rfl) (Nat.le_of_ble_eq_true rfl) (Nat.le_of_ble_eq_true rfl) rfl dX8_count_80 (nx_I) (kx_I ?_)
          refine e_ireturn dX8_count_83 rfl (Nat.le_of_ble_eq_true rfl) (Nat.le_of_ble_eq_true rfl) ?_
          exact okUX (by exact hE1) (by unfold cntV; rw [if_neg (by omega), if_neg (by omega), if_neg (by omega), if_pos (by omega)]) ⟨hx, FrI.rf⟩
        · refine r_tableIn (off := 65) (tgt := 84) dX8_count_19 (by omega) (by omega) (by omega) (by rw [e19]; rfl) (by decide) ?_
          refine r_aload_n dX8_count_84 rfl ?_
          refine r_callV0 okX8_allBlocks ⟨by decide, by decide⟩ ml_X8_220 (mX8_allBlocks hx hv hi) (by first | assumption | exact up_s _ _ _ | exact (up_n _ (by assumption)).trans (by assumption) | exact (up_n _ (by assumption)).trans (up_s _ _ _) | exact (up_n _ (by assumption)).trans ((up_n _ (by assumption)).trans (by assumption))) rfl rfl (Nat.le_of_ble_eq_true rfl) (Nat.le_of_ble_eq_true rfl) (Nat.le_of_ble_eq_true rfl) rfl dX8_count_85 (nx_tI) (kx_tI ?_)
          intro M2 hM2
          refine e_ireturn dX8_count_88 rfl (Nat.le_of_ble_eq_true rfl) (Nat.le_of_ble_eq_true rfl) ?_
          exact okUX (by exact hE1) (by unfold cntV; rw [if_neg (by omega), if_neg (by omega), if_neg (by omega), if_neg (by omega), if_pos (by omega)]) hM2
        · refine r_tableIn (off := 70) (tgt := 89) dX8_count_19 (by omega) (by omega) (by omega) (by rw [e19]; rfl) (by decide) ?_
          refine r_aload_n dX8_count_89 rfl ?_
          refine r_callV0 okX8_pairsAlike ⟨by decide, by decide⟩ ml_X8_223 (mX8_pairsAlike hx hv hi) (by first | assumption | exact up_s _ _ _ | exact (up_n _ (by assumption)).trans (by assumption) | exact (up_n _ (by assumption)).trans (up_s _ _ _) | exact (up_n _ (by assumption)).trans ((up_n _ (by assumption)).trans (by assumption))) rfl rfl (Nat.le_of_ble_eq_true rfl) (Nat.le_of_ble_eq_true rfl) (Nat.le_of_ble_eq_true rfl) rfl dX8_count_90 (nx_I) (kx_I ?_)
          refine e_ireturn dX8_count_93 rfl (Nat.le_of_ble_eq_true rfl) (Nat.le_of_ble_eq_true rfl) ?_
          exact okUX (by exact hE1) (by unfold cntV; rw [if_neg (by omega), if_neg (by omega), if_neg (by omega), if_neg (by omega), if_neg (by omega), if_pos (by omega)]) ⟨hx, FrI.rf⟩

set_option maxHeartbeats 4000000 in
theorem mX8_count_ok {M : Mem} {ad : Int → Nat} {n : Int → Int} {F : Int → Int → Int} {g : Int → Int} {m : Int} {S : Int → Sg3} {len : Int} {c : Int → Int} {w : Int} {bc bs : Nat} (hx : XSt M ad (n, F, g) m S len c) (hv : Vld (n, F, g)) (hi : Inj ad) (q0 : R32 w) (hq9 : 0 ≤ w ∧ w ≤ 6) : Ct KX8_count [.ref (ad 0), vI w] M bc bs (atI (cntV n F g m w) (fun M2 => XSt M2 ad (n, F, g) m S len c ∧ FrI ad 0 112 M M2)) := by
  refine Ct.of _ (by decide) rfl (Nat.le_of_ble_eq_true rfl) ?_
  obtain ⟨h00, hst, hhs, hbf, hpw, hbw, hmw, ⟨tn, tF, htr⟩, ⟨wn, wF, hwi⟩⟩ := id hx
  obtain ⟨hvs, hv0, hv1, hv2, hv3⟩ := id hv
  change StP _ ad 1 n F g at hst
  dsimp only at hvs hv0 hv1 hv2 hv3
  have hob1 := hst.1
  obtain ⟨hh_1, hh_2, hh_3, hh_4, hh_5, hho, -⟩ := id hhs
  have hob94 := hbf.1
  obtain ⟨⟨y1, y2, y3, y4, y5, y6, hob96⟩, -, -⟩ := id hpw
  obtain ⟨z1, z2, z3, hob99, -⟩ := id hbw
  obtain ⟨⟨u1, hob101⟩, -, -⟩ := id hmw
  have hob108 := htr.1
  have hob110 := hwi.1
  refine r_iload_n dX8_count_0 rfl ?_
  refine r_if_lt (tgt := 14) dX8_count_1 (by decide) (by omega) (fun h1 => ?_) (fun h1 => ?_)
  ·
    refine r_iconst dX8_count_14 ?_
    refine r_callS1 okX8_requireArgument ⟨by decide, by decide⟩ ml_X8_96 (mX8_requireArgument_ok (bc := 0) (bs := 0) (by omega)) (Nat.le_of_ble_eq_true rfl) (by omega) (by omega) rfl dX8_count_15 (nx_V) (kx_V ?_)
    refine r_iload_n dX8_count_18 rfl ?_
    by_cases hw19 : w < 0 ∨ 5 < w
    · refine r_tableOut (tgt := 94) dX8_count_19 (by omega) hw19 (by decide) ?_
      refine r_aload_n dX8_count_94 rfl ?_
      refine r_getfield clX8 1 (by decide) fl_X8_19 (by first | assumption | exact up_s _ _ _ | exact (up_n _ (by assumption)).trans (by assumption) | exact (up_n _ (by assumption)).trans (up_s _ _ _) | exact (up_n _ (by assumption)).trans ((up_n _ (by assumption)).trans (by assumption))) rfl dX8_count_95 ?_
      refine r_callV0 okX2_amount ⟨by decide, by decide⟩ ml_X8_156 (mX2_amount hhs) (by first | assumption | exact up_s _ _ _ | exact (up_n _ (by assumption)).trans (by assumption) | exact (up_n _ (by assumption)).trans (up_s _ _ _) | exact (up_n _ (by assumption)).trans ((up_n _ (by assumption)).trans (by assumption))) rfl rfl (Nat.le_of_ble_eq_true rfl) (by omega) (by omega) rfl dX8_count_98 (nx_I) (kx_I ?_)
      refine e_ireturn dX8_count_101 rfl (by omega) (by omega) ?_
      exact oktI (by unfold cntV; rw [if_neg (by omega), if_neg (by omega), if_neg (by omega), if_neg (by omega), if_neg (by omega), if_neg (by omega)]) ⟨hx, FrI.rf⟩
    · rcases (show w = 0 ∨ w = 1 ∨ w = 2 ∨ w = 3 ∨ w = 4 ∨ w = 5 by omega) with e19 | e19 | e19 | e19 | e19 | e19
      · refine r_tableIn (off := 37) (tgt := 56) dX8_count_19 (by omega) (by omega) (by omega) (by rw [e19]; rfl) (by decide) ?_
        refine r_aload_n dX8_count_56 rfl ?_
        refine r_callV0 okX8_allMembers ⟨by decide, by decide⟩ ml_X8_208 (mX8_allMembers hx hv hi) (by first | assumption | exact up_s _ _ _ | exact (up_n _ (by assumption)).trans (by assumption) | exact (up_n _ (by assumption)).trans (up_s _ _ _) | exact (up_n _ (by assumption)).trans ((up_n _ (by assumption)).trans (by assumption))) rfl rfl (Nat.le_of_ble_eq_true rfl) (by omega) (by omega) rfl dX8_count_57 (nx_I) (kx_I ?_)
        refine e_ireturn dX8_count_60 rfl (by omega) (by omega) ?_
        exact oktI (by unfold cntV; rw [if_pos (by omega)]) ⟨hx, FrI.rf⟩
      · refine r_tableIn (off := 42) (tgt := 61) dX8_count_19 (by omega) (by omega) (by omega) (by rw [e19]; rfl) (by decide) ?_
        refine r_aload_n dX8_count_61 rfl ?_
        refine r_callV0 okX8_unlikeMembers ⟨by decide, by decide⟩ ml_X8_211 (mX8_unlikeMembers hx hv hi) (by first | assumption | exact up_s _ _ _ | exact (up_n _ (by assumption)).trans (by assumption) | exact (up_n _ (by assumption)).trans (up_s _ _ _) | exact (up_n _ (by assumption)).trans ((up_n _ (by assumption)).trans (by assumption))) rfl rfl (Nat.le_of_ble_eq_true rfl) (by omega) (by omega) rfl dX8_count_62 (nx_I) (kx_I ?_)
        refine e_ireturn dX8_count_65 rfl (by omega) (by omega) ?_
        exact oktI (by unfold cntV; rw [if_neg (by omega), if_pos (by omega)]) ⟨hx, FrI.rf⟩
      · refine r_tableIn (off := 47) (tgt := 66) dX8_count_19 (by omega) (by omega) (by omega) (by rw [e19]; rfl) (by decide) ?_
        refine r_aload_n dX8_count_66 rfl ?_
        refine r_callV0 okX8_membersOfAllFour ⟨by decide, by decide⟩ ml_X8_214 (mX8_membersOfAllFour hx hv hi) (by first | assumption | exact up_s _ _ _ | exact (up_n _ (by assumption)).trans (by assumption) | exact (up_n _ (by assumption)).trans (up_s _ _ _) | exact (up_n _ (by assumption)).trans ((up_n _ (by assumption)).trans (by assumption))) rfl rfl (Nat.le_of_ble_eq_true rfl) (by omega) (by omega) rfl dX8_count_67 (nx_I) (kx_I ?_)
        refine e_ireturn dX8_count_70 rfl (by omega) (by omega) ?_
        exact oktI (by unfold cntV; rw [if_neg (by omega), if_neg (by omega), if_pos (by omega)]) ⟨hx, FrI.rf⟩
      · refine r_tableIn (off := 52) (tgt := 71) dX8_count_19 (by omega) (by omega) (by omega) (by rw [e19]; rfl) (by decide) ?_
        refine r_aload_n dX8_count_71 rfl ?_
        refine r_aload_n dX8_count_72 rfl ?_
        refine r_getfield clX8 0 (by decide) fl_X8_10 (by first | assumption | exact up_s _ _ _ | exact (up_n _ (by assumption)).trans (by assumption) | exact (up_n _ (by assumption)).trans (up_s _ _ _) | exact (up_n _ (by assumption)).trans ((up_n _ (by assumption)).trans (by assumption))) rfl dX8_count_73 ?_
        refine r_iconst dX8_count_76 ?_
        refine r_callV1 okX7_valueOf ⟨by decide, by decide⟩ ml_X8_129 (mX7_valueOf hst (by omega)) (by first | assumption | exact up_s _ _ _ | exact (up_n _ (by assumption)).trans (by assumption) | exact (up_n _ (by assumption)).trans (up_s _ _ _) | exact (up_n _ (by assumption)).trans ((up_n _ (by assumption)).trans (by assumption))) rfl rfl (Nat.le_of_ble_eq_true rfl) (by omega) (by omega) rfl dX8_count_77 (nx_I) (kx_I ?_)
        rw [show valG g 1 = g 1 from rfl]
        refine r_callV1 okX8_allSizes ⟨by decide, by decide⟩ ml_X8_217 (mX8_allSizes hx hv hi (by omega)) (by first | assumption | exact up_s _ _ _ | exact (up_n _ (by assumption)).trans (by assumption) | exact (up_n _ (by assumption)).trans (up_s _ _ _) | exact (up_n _ (by assumption)).trans ((up_n _ (by assumption)).trans (by assumption))) rfl rfl (Nat.le_of_ble_eq_true rfl) (by omega) (by omega) rfl dX8_count_80 (nx_I) (kx_I ?_)
        refine e_ireturn dX8_count_83 rfl (by omega) (by omega) ?_
        exact oktI (by unfold cntV; rw [if_neg (by omega), if_neg (by omega), if_neg (by omega), if_pos (by omega)]) ⟨hx, FrI.rf⟩
      · refine r_tableIn (off := 65) (tgt := 84) dX8_count_19 (by omega) (by omega) (by omega) (by rw [e19]; rfl) (by decide) ?_
        refine r_aload_n dX8_count_84 rfl ?_
        refine r_callV0 okX8_allBlocks ⟨by decide, by decide⟩ ml_X8_220 (mX8_allBlocks hx hv hi) (by first | assumption | exact up_s _ _ _ | exact (up_n _ (by assumption)).trans (by assumption) | exact (up_n _ (by assumption)).trans (up_s _ _ _) | exact (up_n _ (by assumption)).trans ((up_n _ (by assumption)).trans (by assumption))) rfl rfl (Nat.le_of_ble_eq_true rfl) (by omega) (by omega) rfl dX8_count_85 (nx_tI) (kx_tI ?_)
        intro M2 hM2
        refine e_ireturn dX8_count_88 rfl (by omega) (by omega) ?_
        exact oktI (by unfold cntV; rw [if_neg (by omega), if_neg (by omega), if_neg (by omega), if_neg (by omega), if_pos (by omega)]) hM2
      · refine r_tableIn (off := 70) (tgt := 89) dX8_count_19 (by omega) (by omega) (by omega) (by rw [e19]; rfl) (by decide) ?_
        refine r_aload_n dX8_count_89 rfl ?_
        refine r_callV0 okX8_pairsAlike ⟨by decide, by decide⟩ ml_X8_223 (mX8_pairsAlike hx hv hi) (by first | assumption | exact up_s _ _ _ | exact (up_n _ (by assumption)).trans (by assumption) | exact (up_n _ (by assumption)).trans (up_s _ _ _) | exact (up_n _ (by assumption)).trans ((up_n _ (by assumption)).trans (by assumption))) rfl rfl (Nat.le_of_ble_eq_true rfl) (by omega) (by omega) rfl dX8_count_90 (nx_I) (kx_I ?_)
        refine e_ireturn dX8_count_93 rfl (by omega) (by omega) ?_
        exact oktI (by unfold cntV; rw [if_neg (by omega), if_neg (by omega), if_neg (by omega), if_neg (by omega), if_neg (by omega), if_pos (by omega)]) ⟨hx, FrI.rf⟩
  ·
    refine r_iload_n dX8_count_4 rfl ?_
    refine r_bipush dX8_count_5 (by decide) ?_
    refine r_icmp_gt (tgt := 14) dX8_count_7 (by decide) (by omega) (by omega) (fun h7 => ?_) (fun h7 => ?_)
    ·
      refine r_iconst dX8_count_14 ?_
      refine r_callS1 okX8_requireArgument ⟨by decide, by decide⟩ ml_X8_96 (mX8_requireArgument_ok (bc := 0) (bs := 0) (by omega)) (Nat.le_of_ble_eq_true rfl) (by omega) (by omega) rfl dX8_count_15 (nx_V) (kx_V ?_)
      refine r_iload_n dX8_count_18 rfl ?_
      by_cases hw19 : w < 0 ∨ 5 < w
      · refine r_tableOut (tgt := 94) dX8_count_19 (by omega) hw19 (by decide) ?_
        refine r_aload_n dX8_count_94 rfl ?_
        refine r_getfield clX8 1 (by decide) fl_X8_19 (by first | assumption | exact up_s _ _ _ | exact (up_n _ (by assumption)).trans (by assumption) | exact (up_n _ (by assumption)).trans (up_s _ _ _) | exact (up_n _ (by assumption)).trans ((up_n _ (by assumption)).trans (by assumption))) rfl dX8_count_95 ?_
        refine r_callV0 okX2_amount ⟨by decide, by decide⟩ ml_X8_156 (mX2_amount hhs) (by first | assumption | exact up_s _ _ _ | exact (up_n _ (by assumption)).trans (by assumption) | exact (up_n _ (by assumption)).trans (up_s _ _ _) | exact (up_n _ (by assumption)).trans ((up_n _ (by assumption)).trans (by assumption))) rfl rfl (Nat.le_of_ble_eq_true rfl) (by omega) (by omega) rfl dX8_count_98 (nx_I) (kx_I ?_)
        refine e_ireturn dX8_count_101 rfl (by omega) (by omega) ?_
        exact oktI (by unfold cntV; rw [if_neg (by omega), if_neg (by omega), if_neg (by omega), if_neg (by omega), if_neg (by omega), if_neg (by omega)]) ⟨hx, FrI.rf⟩
      · rcases (show w = 0 ∨ w = 1 ∨ w = 2 ∨ w = 3 ∨ w = 4 ∨ w = 5 by omega) with e19 | e19 | e19 | e19 | e19 | e19
        · refine r_tableIn (off := 37) (tgt := 56) dX8_count_19 (by omega) (by omega) (by omega) (by rw [e19]; rfl) (by decide) ?_
          refine r_aload_n dX8_count_56 rfl ?_
          refine r_callV0 okX8_allMembers ⟨by decide, by decide⟩ ml_X8_208 (mX8_allMembers hx hv hi) (by first | assumption | exact up_s _ _ _ | exact (up_n _ (by assumption)).trans (by assumption) | exact (up_n _ (by assumption)).trans (up_s _ _ _) | exact (up_n _ (by assumption)).trans ((up_n _ (by assumption)).trans (by assumption))) rfl rfl (Nat.le_of_ble_eq_true rfl) (by omega) (by omega) rfl dX8_count_57 (nx_I) (kx_I ?_)
          refine e_ireturn dX8_count_60 rfl (by omega) (by omega) ?_
          exact oktI (by unfold cntV; rw [if_pos (by omega)]) ⟨hx, FrI.rf⟩
        · refine r_tableIn (off := 42) (tgt := 61) dX8_count_19 (by omega) (by omega) (by omega) (by rw [e19]; rfl) (by decide) ?_
          refine r_aload_n dX8_count_61 rfl ?_
          refine r_callV0 okX8_unlikeMembers ⟨by decide, by decide⟩ ml_X8_211 (mX8_unlikeMembers hx hv hi) (by first | assumption | exact up_s _ _ _ | exact (up_n _ (by assumption)).trans (by assumption) | exact (up_n _ (by assumption)).trans (up_s _ _ _) | exact (up_n _ (by assumption)).trans ((up_n _ (by assumption)).trans (by assumption))) rfl rfl (Nat.le_of_ble_eq_true rfl) (by omega) (by omega) rfl dX8_count_62 (nx_I) (kx_I ?_)
          refine e_ireturn dX8_count_65 rfl (by omega) (by omega) ?_
          exact oktI (by unfold cntV; rw [if_neg (by omega), if_pos (by omega)]) ⟨hx, FrI.rf⟩
        · refine r_tableIn (off := 47) (tgt := 66) dX8_count_19 (by omega) (by omega) (by omega) (by rw [e19]; rfl) (by decide) ?_
          refine r_aload_n dX8_count_66 rfl ?_
          refine r_callV0 okX8_membersOfAllFour ⟨by decide, by decide⟩ ml_X8_214 (mX8_membersOfAllFour hx hv hi) (by first | assumption | exact up_s _ _ _ | exact (up_n _ (by assumption)).trans (by assumption) | exact (up_n _ (by assumption)).trans (up_s _ _ _) | exact (up_n _ (by assumption)).trans ((up_n _ (by assumption)).trans (by assumption))) rfl rfl (Nat.le_of_ble_eq_true rfl) (by omega) (by omega) rfl dX8_count_67 (nx_I) (kx_I ?_)
          refine e_ireturn dX8_count_70 rfl (by omega) (by omega) ?_
          exact oktI (by unfold cntV; rw [if_neg (by omega), if_neg (by omega), if_pos (by omega)]) ⟨hx, FrI.rf⟩
        · refine r_tableIn (off := 52) (tgt := 71) dX8_count_19 (by omega) (by omega) (by omega) (by rw [e19]; rfl) (by decide) ?_
          refine r_aload_n dX8_count_71 rfl ?_
          refine r_aload_n dX8_count_72 rfl ?_
          refine r_getfield clX8 0 (by decide) fl_X8_10 (by first | assumption | exact up_s _ _ _ | exact (up_n _ (by assumption)).trans (by assumption) | exact (up_n _ (by assumption)).trans (up_s _ _ _) | exact (up_n _ (by assumption)).trans ((up_n _ (by assumption)).trans (by assumption))) rfl dX8_count_73 ?_
          refine r_iconst dX8_count_76 ?_
          refine r_callV1 okX7_valueOf ⟨by decide, by decide⟩ ml_X8_129 (mX7_valueOf hst (by omega)) (by first | assumption | exact up_s _ _ _ | exact (up_n _ (by assumption)).trans (by assumption) | exact (up_n _ (by assumption)).trans (up_s _ _ _) | exact (up_n _ (by assumption)).trans ((up_n _ (by assumption)).trans (by assumption))) rfl rfl (Nat.le_of_ble_eq_true rfl) (by omega) (by omega) rfl dX8_count_77 (nx_I) (kx_I ?_)
          rw [show valG g 1 = g 1 from rfl]
          refine r_callV1 okX8_allSizes ⟨by decide, by decide⟩ ml_X8_217 (mX8_allSizes hx hv hi (by omega)) (by first | assumption | exact up_s _ _ _ | exact (up_n _ (by assumption)).trans (by assumption) | exact (up_n _ (by assumption)).trans (up_s _ _ _) | exact (up_n _ (by assumption)).trans ((up_n _ (by assumption)).trans (by assumption))) rfl rfl (Nat.le_of_ble_eq_true rfl) (by omega) (by omega) rfl dX8_count_80 (nx_I) (kx_I ?_)
          refine e_ireturn dX8_count_83 rfl (by omega) (by omega) ?_
          exact oktI (by unfold cntV; rw [if_neg (by omega), if_neg (by omega), if_neg (by omega), if_pos (by omega)]) ⟨hx, FrI.rf⟩
        · refine r_tableIn (off := 65) (tgt := 84) dX8_count_19 (by omega) (by omega) (by omega) (by rw [e19]; rfl) (by decide) ?_
          refine r_aload_n dX8_count_84 rfl ?_
          refine r_callV0 okX8_allBlocks ⟨by decide, by decide⟩ ml_X8_220 (mX8_allBlocks hx hv hi) (by first | assumption | exact up_s _ _ _ | exact (up_n _ (by assumption)).trans (by assumption) | exact (up_n _ (by assumption)).trans (up_s _ _ _) | exact (up_n _ (by assumption)).trans ((up_n _ (by assumption)).trans (by assumption))) rfl rfl (Nat.le_of_ble_eq_true rfl) (by omega) (by omega) rfl dX8_count_85 (nx_tI) (kx_tI ?_)
          intro M2 hM2
          refine e_ireturn dX8_count_88 rfl (by omega) (by omega) ?_
          exact oktI (by unfold cntV; rw [if_neg (by omega), if_neg (by omega), if_neg (by omega), if_neg (by omega), if_pos (by omega)]) hM2
        · refine r_tableIn (off := 70) (tgt := 89) dX8_count_19 (by omega) (by omega) (by omega) (by rw [e19]; rfl) (by decide) ?_
          refine r_aload_n dX8_count_89 rfl ?_
          refine r_callV0 okX8_pairsAlike ⟨by decide, by decide⟩ ml_X8_223 (mX8_pairsAlike hx hv hi) (by first | assumption | exact up_s _ _ _ | exact (up_n _ (by assumption)).trans (by assumption) | exact (up_n _ (by assumption)).trans (up_s _ _ _) | exact (up_n _ (by assumption)).trans ((up_n _ (by assumption)).trans (by assumption))) rfl rfl (Nat.le_of_ble_eq_true rfl) (by omega) (by omega) rfl dX8_count_90 (nx_I) (kx_I ?_)
          refine e_ireturn dX8_count_93 rfl (by omega) (by omega) ?_
          exact oktI (by unfold cntV; rw [if_neg (by omega), if_neg (by omega), if_neg (by omega), if_neg (by omega), if_neg (by omega), if_pos (by omega)]) ⟨hx, FrI.rf⟩
    ·
      refine r_iconst dX8_count_10 ?_
      refine r_goto (tgt := 15) dX8_count_11 (by decide) ?_
      refine r_callS1 okX8_requireArgument ⟨by decide, by decide⟩ ml_X8_96 (mX8_requireArgument_ok (bc := 0) (bs := 0) (by omega)) (Nat.le_of_ble_eq_true rfl) (by omega) (by omega) rfl dX8_count_15 (nx_V) (kx_V ?_)
      refine r_iload_n dX8_count_18 rfl ?_
      by_cases hw19 : w < 0 ∨ 5 < w
      · refine r_tableOut (tgt := 94) dX8_count_19 (by omega) hw19 (by decide) ?_
        refine r_aload_n dX8_count_94 rfl ?_
        refine r_getfield clX8 1 (by decide) fl_X8_19 (by first | assumption | exact up_s _ _ _ | exact (up_n _ (by assumption)).trans (by assumption) | exact (up_n _ (by assumption)).trans (up_s _ _ _) | exact (up_n _ (by assumption)).trans ((up_n _ (by assumption)).trans (by assumption))) rfl dX8_count_95 ?_
        refine r_callV0 okX2_amount ⟨by decide, by decide⟩ ml_X8_156 (mX2_amount hhs) (by first | assumption | exact up_s _ _ _ | exact (up_n _ (by assumption)).trans (by assumption) | exact (up_n _ (by assumption)).trans (up_s _ _ _) | exact (up_n _ (by assumption)).trans ((up_n _ (by assumption)).trans (by assumption))) rfl rfl (Nat.le_of_ble_eq_true rfl) (by omega) (by omega) rfl dX8_count_98 (nx_I) (kx_I ?_)
        refine e_ireturn dX8_count_101 rfl (by omega) (by omega) ?_
        exact oktI (by unfold cntV; rw [if_neg (by omega), if_neg (by omega), if_neg (by omega), if_neg (by omega), if_neg (by omega), if_neg (by omega)]) ⟨hx, FrI.rf⟩
      · rcases (show w = 0 ∨ w = 1 ∨ w = 2 ∨ w = 3 ∨ w = 4 ∨ w = 5 by omega) with e19 | e19 | e19 | e19 | e19 | e19
        · refine r_tableIn (off := 37) (tgt := 56) dX8_count_19 (by omega) (by omega) (by omega) (by rw [e19]; rfl) (by decide) ?_
          refine r_aload_n dX8_count_56 rfl ?_
          refine r_callV0 okX8_allMembers ⟨by decide, by decide⟩ ml_X8_208 (mX8_allMembers hx hv hi) (by first | assumption | exact up_s _ _ _ | exact (up_n _ (by assumption)).trans (by assumption) | exact (up_n _ (by assumption)).trans (up_s _ _ _) | exact (up_n _ (by assumption)).trans ((up_n _ (by assumption)).trans (by assumption))) rfl rfl (Nat.le_of_ble_eq_true rfl) (by omega) (by omega) rfl dX8_count_57 (nx_I) (kx_I ?_)
          refine e_ireturn dX8_count_60 rfl (by omega) (by omega) ?_
          exact oktI (by unfold cntV; rw [if_pos (by omega)]) ⟨hx, FrI.rf⟩
        · refine r_tableIn (off := 42) (tgt := 61) dX8_count_19 (by omega) (by omega) (by omega) (by rw [e19]; rfl) (by decide) ?_
          refine r_aload_n dX8_count_61 rfl ?_
          refine r_callV0 okX8_unlikeMembers ⟨by decide, by decide⟩ ml_X8_211 (mX8_unlikeMembers hx hv hi) (by first | assumption | exact up_s _ _ _ | exact (up_n _ (by assumption)).trans (by assumption) | exact (up_n _ (by assumption)).trans (up_s _ _ _) | exact (up_n _ (by assumption)).trans ((up_n _ (by assumption)).trans (by assumption))) rfl rfl (Nat.le_of_ble_eq_true rfl) (by omega) (by omega) rfl dX8_count_62 (nx_I) (kx_I ?_)
          refine e_ireturn dX8_count_65 rfl (by omega) (by omega) ?_
          exact oktI (by unfold cntV; rw [if_neg (by omega), if_pos (by omega)]) ⟨hx, FrI.rf⟩
        · refine r_tableIn (off := 47) (tgt := 66) dX8_count_19 (by omega) (by omega) (by omega) (by rw [e19]; rfl) (by decide) ?_
          refine r_aload_n dX8_count_66 rfl ?_
          refine r_callV0 okX8_membersOfAllFour ⟨by decide, by decide⟩ ml_X8_214 (mX8_membersOfAllFour hx hv hi) (by first | assumption | exact up_s _ _ _ | exact (up_n _ (by assumption)).trans (by assumption) | exact (up_n _ (by assumption)).trans (up_s _ _ _) | exact (up_n _ (by assumption)).trans ((up_n _ (by assumption)).trans (by assumption))) rfl rfl (Nat.le_of_ble_eq_true rfl) (by omega) (by omega) rfl dX8_count_67 (nx_I) (kx_I ?_)
          refine e_ireturn dX8_count_70 rfl (by omega) (by omega) ?_
          exact oktI (by unfold cntV; rw [if_neg (by omega), if_neg (by omega), if_pos (by omega)]) ⟨hx, FrI.rf⟩
        · refine r_tableIn (off := 52) (tgt := 71) dX8_count_19 (by omega) (by omega) (by omega) (by rw [e19]; rfl) (by decide) ?_
          refine r_aload_n dX8_count_71 rfl ?_
          refine r_aload_n dX8_count_72 rfl ?_
          refine r_getfield clX8 0 (by decide) fl_X8_10 (by first | assumption | exact up_s _ _ _ | exact (up_n _ (by assumption)).trans (by assumption) | exact (up_n _ (by assumption)).trans (up_s _ _ _) | exact (up_n _ (by assumption)).trans ((up_n _ (by assumption)).trans (by assumption))) rfl dX8_count_73 ?_
          refine r_iconst dX8_count_76 ?_
          refine r_callV1 okX7_valueOf ⟨by decide, by decide⟩ ml_X8_129 (mX7_valueOf hst (by omega)) (by first | assumption | exact up_s _ _ _ | exact (up_n _ (by assumption)).trans (by assumption) | exact (up_n _ (by assumption)).trans (up_s _ _ _) | exact (up_n _ (by assumption)).trans ((up_n _ (by assumption)).trans (by assumption))) rfl rfl (Nat.le_of_ble_eq_true rfl) (by omega) (by omega) rfl dX8_count_77 (nx_I) (kx_I ?_)
          rw [show valG g 1 = g 1 from rfl]
          refine r_callV1 okX8_allSizes ⟨by decide, by decide⟩ ml_X8_217 (mX8_allSizes hx hv hi (by omega)) (by first | assumption | exact up_s _ _ _ | exact (up_n _ (by assumption)).trans (by assumption) | exact (up_n _ (by assumption)).trans (up_s _ _ _) | exact (up_n _ (by assumption)).trans ((up_n _ (by assumption)).trans (by assumption))) rfl rfl (Nat.le_of_ble_eq_true rfl) (by omega) (by omega) rfl dX8_count_80 (nx_I) (kx_I ?_)
          refine e_ireturn dX8_count_83 rfl (by omega) (by omega) ?_
          exact oktI (by unfold cntV; rw [if_neg (by omega), if_neg (by omega), if_neg (by omega), if_pos (by omega)]) ⟨hx, FrI.rf⟩
        · refine r_tableIn (off := 65) (tgt := 84) dX8_count_19 (by omega) (by omega) (by omega) (by rw [e19]; rfl) (by decide) ?_
          refine r_aload_n dX8_count_84 rfl ?_
          refine r_callV0 okX8_allBlocks ⟨by decide, by decide⟩ ml_X8_220 (mX8_allBlocks hx hv hi) (by first | assumption | exact up_s _ _ _ | exact (up_n _ (by assumption)).trans (by assumption) | exact (up_n _ (by assumption)).trans (up_s _ _ _) | exact (up_n _ (by assumption)).trans ((up_n _ (by assumption)).trans (by assumption))) rfl rfl (Nat.le_of_ble_eq_true rfl) (by omega) (by omega) rfl dX8_count_85 (nx_tI) (kx_tI ?_)
          intro M2 hM2
          refine e_ireturn dX8_count_88 rfl (by omega) (by omega) ?_
          exact oktI (by unfold cntV; rw [if_neg (by omega), if_neg (by omega), if_neg (by omega), if_neg (by omega), if_pos (by omega)]) hM2
        · refine r_tableIn (off := 70) (tgt := 89) dX8_count_19 (by omega) (by omega) (by omega) (by rw [e19]; rfl) (by decide) ?_
          refine r_aload_n dX8_count_89 rfl ?_
          refine r_callV0 okX8_pairsAlike ⟨by decide, by decide⟩ ml_X8_223 (mX8_pairsAlike hx hv hi) (by first | assumption | exact up_s _ _ _ | exact (up_n _ (by assumption)).trans (by assumption) | exact (up_n _ (by assumption)).trans (up_s _ _ _) | exact (up_n _ (by assumption)).trans ((up_n _ (by assumption)).trans (by assumption))) rfl rfl (Nat.le_of_ble_eq_true rfl) (by omega) (by omega) rfl dX8_count_90 (nx_I) (kx_I ?_)
          refine e_ireturn dX8_count_93 rfl (by omega) (by omega) ?_
          exact oktI (by unfold cntV; rw [if_neg (by omega), if_neg (by omega), if_neg (by omega), if_neg (by omega), if_neg (by omega), if_pos (by omega)]) ⟨hx, FrI.rf⟩

set_option maxHeartbeats 4000000 in
theorem mX8_ifAdded {M : Mem} {ad : Int → Nat} {n : Int → Int} {F : Int → Int → Int} {g : Int → Int} {m : Int} {S : Int → Sg3} {len : Int} {c : Int → Int} {k x : Int} (hx : XSt M ad (n, F, g) m S len c) (hv : Vld (n, F, g)) (hi : Inj ad) (q0 : R32 k) (q1 : R32 x) : Ct KX8_ifAdded [.ref (ad 0), vI k, vI x] M 6 36 (UX (e2 (eSet k) (eB (0 ≤ x ∧ x ≤ 9999) xA)) (iaV (n k) (F k) g x) (fun M2 => XSt M2 ad (n, F, g) m S len c ∧ FrI ad 0 112 M M2) M) := by
  refine Ct.of _ (by decide) rfl (Nat.le_of_ble_eq_true rfl) ?_
  obtain ⟨h00, hst, hhs, hbf, hpw, hbw, hmw, ⟨tn, tF, htr⟩, ⟨wn, wF, hwi⟩⟩ := id hx
  obtain ⟨hvs, hv0, hv1, hv2, hv3⟩ := id hv
  change StP _ ad 1 n F g at hst
  dsimp only at hvs hv0 hv1 hv2 hv3
  have hob1 := hst.1
  obtain ⟨hh_1, hh_2, hh_3, hh_4, hh_5, hho, -⟩ := id hhs
  have hob94 := hbf.1
  obtain ⟨⟨y1, y2, y3, y4, y5, y6, hob96⟩, -, -⟩ := id hpw
  obtain ⟨z1, z2, z3, hob99, -⟩ := id hbw
  obtain ⟨⟨u1, hob101⟩, -, -⟩ := id hmw
  have hob108 := htr.1
  have hob110 := hwi.1
  refine r_iload_n dX8_ifAdded_0 rfl ?_
  refine r_callS1 okX8_requireSet ⟨by decide, by decide⟩ ml_X8_63 (mX8_requireSet (by omega)) (Nat.le_of_ble_eq_true rfl) (Nat.le_of_ble_eq_true rfl) (Nat.le_of_ble_eq_true rfl) rfl dX8_ifAdded_1 (tUX (fun hne => by unfold e2; rw [if_neg hne])) (kx_U ?_)
  intro hE1
  have hk9 := eSet_ok hE1
  refine r_iload_n dX8_ifAdded_4 rfl ?_
  refine r_callS1 okX8_requireNumber ⟨by decide, by decide⟩ ml_X8_66 (mX8_requireNumber (by omega)) (Nat.le_of_ble_eq_true rfl) (Nat.le_of_ble_eq_true rfl) (Nat.le_of_ble_eq_true rfl) rfl dX8_ifAdded_5 (tUX (fun hne => by unfold e2; rw [if_pos hE1])) (kx_U ?_)
  intro hE2
  have hx9 := eA_ok hE2
  refine r_aload_n dX8_ifAdded_8 rfl ?_
  refine r_getfield clX8 0 (by decide) fl_X8_10 (by first | assumption | exact up_s _ _ _ | exact (up_n _ (by assumption)).trans (by assumption) | exact (up_n _ (by assumption)).trans (up_s _ _ _) | exact (up_n _ (by assumption)).trans ((up_n _ (by assumption)).trans (by assumption))) rfl dX8_ifAdded_9 ?_
  refine r_iload_n dX8_ifAdded_12 rfl ?_
  refine r_callV1 okX7_members ⟨by decide, by decide⟩ ml_X8_69 (mX7_members hst (k := k) (by omega) (by omega)) (by first | assumption | exact up_s _ _ _ | exact (up_n _ (by assumption)).trans (by assumption) | exact (up_n _ (by assumption)).trans (up_s _ _ _) | exact (up_n _ (by assumption)).trans ((up_n _ (by assumption)).trans (by assumption))) rfl rfl (Nat.le_of_ble_eq_true rfl) (Nat.le_of_ble_eq_true rfl) (Nat.le_of_ble_eq_true rfl) rfl dX8_ifAdded_13 (nx_A) (kx_A ?_)
  refine r_astore_n dX8_ifAdded_16 (by decide) rfl ?_
  have hmk := hst.mb (k := k) (by omega) (by omega)
  have hmo := hmk.1
  have hmn : 0 ≤ n (k) ∧ n (k) ≤ 60 := by have h60 := hmk.2.2.2.1; have h59 := hmk.2.2.1; omega
  refine r_aload_n dX8_ifAdded_17 rfl ?_
  refine r_getfield clX8 6 (by decide) fl_X8_56 (by first | assumption | exact up_s _ _ _ | exact (up_n _ (by assumption)).trans (by assumption) | exact (up_n _ (by assumption)).trans (up_s _ _ _) | exact (up_n _ (by assumption)).trans ((up_n _ (by assumption)).trans (by assumption))) rfl dX8_ifAdded_18 ?_
  refine r_aload_n dX8_ifAdded_21 rfl ?_
  refine r_callV1 okX5_copyFrom ⟨by decide, by decide⟩ ml_X8_116 (mX5_copyFrom htr hmk ⟨hi.ne ⟨by omega, by omega⟩ ⟨by omega, by omega⟩ (by omega), hi.ne ⟨by omega, by omega⟩ ⟨by omega, by omega⟩ (by omega), hi.ne ⟨by omega, by omega⟩ ⟨by omega, by omega⟩ (by omega), hi.ne ⟨by omega, by omega⟩ ⟨by omega, by omega⟩ (by omega)⟩ (by omega)) (by first | assumption | exact up_s _ _ _ | exact (up_n _ (by assumption)).trans (by assumption) | exact (up_n _ (by assumption)).trans (up_s _ _ _) | exact (up_n _ (by assumption)).trans ((up_n _ (by assumption)).trans (by assumption))) rfl rfl (Nat.le_of_ble_eq_true rfl) (Nat.le_of_ble_eq_true rfl) (Nat.le_of_ble_eq_true rfl) rfl dX8_ifAdded_22 (nx_tV) (kx_tV ?_)
  intro M2 hM2
  have hx2 := hx.goT hi hM2.1 hM2.2
  obtain ⟨h00, hst, hhs, hbf, hpw, hbw, hmw, ⟨tn, tF, htr⟩, ⟨wn, wF, hwi⟩⟩ := id hx2.1
  change StP _ ad 1 n F g at hst
  have hob1 := hst.1
  obtain ⟨hh_1, hh_2, hh_3, hh_4, hh_5, hho, -⟩ := id hhs
  have hob94 := hbf.1
  obtain ⟨⟨y1, y2, y3, y4, y5, y6, hob96⟩, -, -⟩ := id hpw
  obtain ⟨z1, z2, z3, hob99, -⟩ := id hbw
  obtain ⟨⟨u1, hob101⟩, -, -⟩ := id hmw
  have hob108 := htr.1
  have hob110 := hwi.1
  have hmk := hst.mb (k := k) (by omega) (by omega)
  have hmo := hmk.1
  have hmn : 0 ≤ n (k) ∧ n (k) ≤ 60 := by have h60 := hmk.2.2.2.1; have h59 := hmk.2.2.1; omega
  have htq := hM2.1
  have hob108 := htq.1
  refine r_aload_n dX8_ifAdded_25 rfl ?_
  refine r_getfield clX8 6 (by decide) fl_X8_56 (by first | assumption | exact up_s _ _ _ | exact (up_n _ (by assumption)).trans (by assumption) | exact (up_n _ (by assumption)).trans (up_s _ _ _) | exact (up_n _ (by assumption)).trans ((up_n _ (by assumption)).trans (by assumption))) rfl dX8_ifAdded_26 ?_
  refine r_iload_n dX8_ifAdded_29 rfl ?_
  refine r_callV1 okX5_put ⟨by decide, by decide⟩ ml_X8_89 (mX5_put htq (by omega)) (by first | assumption | exact up_s _ _ _ | exact (up_n _ (by assumption)).trans (by assumption) | exact (up_n _ (by assumption)).trans (up_s _ _ _) | exact (up_n _ (by assumption)).trans ((up_n _ (by assumption)).trans (by assumption))) rfl rfl (Nat.le_of_ble_eq_true rfl) (Nat.le_of_ble_eq_true rfl) (Nat.le_of_ble_eq_true rfl) rfl dX8_ifAdded_30 (nx_tV) (kx_tV ?_)
  intro M3 hM3
  have hx3 := hx2.1.goT hi hM3.1 hM3.2
  obtain ⟨h00, hst, hhs, hbf, hpw, hbw, hmw, ⟨tn, tF, htr⟩, ⟨wn, wF, hwi⟩⟩ := id hx3.1
  change StP _ ad 1 n F g at hst
  have hob1 := hst.1
  obtain ⟨hh_1, hh_2, hh_3, hh_4, hh_5, hho, -⟩ := id hhs
  have hob94 := hbf.1
  obtain ⟨⟨y1, y2, y3, y4, y5, y6, hob96⟩, -, -⟩ := id hpw
  obtain ⟨z1, z2, z3, hob99, -⟩ := id hbw
  obtain ⟨⟨u1, hob101⟩, -, -⟩ := id hmw
  have hob108 := htr.1
  have hob110 := hwi.1
  have hmk := hst.mb (k := k) (by omega) (by omega)
  have hmo := hmk.1
  have hmn : 0 ≤ n (k) ∧ n (k) ≤ 60 := by have h60 := hmk.2.2.2.1; have h59 := hmk.2.2.1; omega
  have hob108 := hM3.1.1
  have htn := hM3.1.n0
  refine r_aload_n dX8_ifAdded_33 rfl ?_
  refine r_aload_n dX8_ifAdded_34 rfl ?_
  refine r_getfield clX8 6 (by decide) fl_X8_56 (by first | assumption | exact up_s _ _ _ | exact (up_n _ (by assumption)).trans (by assumption) | exact (up_n _ (by assumption)).trans (up_s _ _ _) | exact (up_n _ (by assumption)).trans ((up_n _ (by assumption)).trans (by assumption))) rfl dX8_ifAdded_35 ?_
  refine r_callV1 okX8_sizeOf ⟨by decide, by decide⟩ ml_X8_191 (mX8_sizeOf hx3.1 hv hi hM3.1) (by first | assumption | exact up_s _ _ _ | exact (up_n _ (by assumption)).trans (by assumption) | exact (up_n _ (by assumption)).trans (up_s _ _ _) | exact (up_n _ (by assumption)).trans ((up_n _ (by assumption)).trans (by assumption))) rfl rfl (Nat.le_of_ble_eq_true rfl) (Nat.le_of_ble_eq_true rfl) (Nat.le_of_ble_eq_true rfl) rfl dX8_ifAdded_38 (nx_I) (kx_I ?_)
  have hs1 := szF_r htn.1 (putF 120 (n k) (F k) x) g
  refine r_aload_n dX8_ifAdded_41 rfl ?_
  refine r_aload_n dX8_ifAdded_42 rfl ?_
  refine r_callV1 okX8_sizeOf ⟨by decide, by decide⟩ ml_X8_191 (mX8_sizeOf hx3.1 hv hi hmk) (by first | assumption | exact up_s _ _ _ | exact (up_n _ (by assumption)).trans (by assumption) | exact (up_n _ (by assumption)).trans (up_s _ _ _) | exact (up_n _ (by assumption)).trans ((up_n _ (by assumption)).trans (by assumption))) rfl rfl (Nat.le_of_ble_eq_true rfl) (Nat.le_of_ble_eq_true rfl) (Nat.le_of_ble_eq_true rfl) rfl dX8_ifAdded_43 (nx_I) (kx_I ?_)
  have hs2 := szF_r hmn.1 (F k) g
  refine r_isub dX8_ifAdded_46 ?_
  refine e_ireturn dX8_ifAdded_47 rfl (Nat.le_of_ble_eq_true rfl) (Nat.le_of_ble_eq_true rfl) ?_
  exact okUX (by unfold e2; rw [if_pos hE1]; exact hE2) rfl ⟨hx3.1, hx2.2.trans hx3.2⟩

set_option maxHeartbeats 4000000 in
theorem mX8_ifAdded_ok {M : Mem} {ad : Int → Nat} {n : Int → Int} {F : Int → Int → Int} {g : Int → Int} {m : Int} {S : Int → Sg3} {len : Int} {c : Int → Int} {k x : Int} {bc bs : Nat} (hx : XSt M ad (n, F, g) m S len c) (hv : Vld (n, F, g)) (hi : Inj ad) (q0 : R32 k) (q1 : R32 x) (hk9 : 0 ≤ k ∧ k < 4) (hx9 : 0 ≤ x ∧ x ≤ 9999) : Ct KX8_ifAdded [.ref (ad 0), vI k, vI x] M bc bs (atI (iaV (n k) (F k) g x) (fun M2 => XSt M2 ad (n, F, g) m S len c ∧ FrI ad 0 112 M M2)) := by
  refine Ct.of _ (by decide) rfl (Nat.le_of_ble_eq_true rfl) ?_
  obtain ⟨h00, hst, hhs, hbf, hpw, hbw, hmw, ⟨tn, tF, htr⟩, ⟨wn, wF, hwi⟩⟩ := id hx
  obtain ⟨hvs, hv0, hv1, hv2, hv3⟩ := id hv
  change StP _ ad 1 n F g at hst
  dsimp only at hvs hv0 hv1 hv2 hv3
  have hob1 := hst.1
  obtain ⟨hh_1, hh_2, hh_3, hh_4, hh_5, hho, -⟩ := id hhs
  have hob94 := hbf.1
  obtain ⟨⟨y1, y2, y3, y4, y5, y6, hob96⟩, -, -⟩ := id hpw
  obtain ⟨z1, z2, z3, hob99, -⟩ := id hbw
  obtain ⟨⟨u1, hob101⟩, -, -⟩ := id hmw
  have hob108 := htr.1
  have hob110 := hwi.1
  refine r_iload_n dX8_ifAdded_0 rfl ?_
  refine r_callS1 okX8_requireSet ⟨by decide, by decide⟩ ml_X8_63 (mX8_requireSet_ok (bc := 0) (bs := 0) hk9) (Nat.le_of_ble_eq_true rfl) (by omega) (by omega) rfl dX8_ifAdded_1 (nx_V) (kx_V ?_)
  refine r_iload_n dX8_ifAdded_4 rfl ?_
  refine r_callS1 okX8_requireNumber ⟨by decide, by decide⟩ ml_X8_66 (mX8_requireNumber_ok (bc := 0) (bs := 0) hx9) (Nat.le_of_ble_eq_true rfl) (by omega) (by omega) rfl dX8_ifAdded_5 (nx_V) (kx_V ?_)
  refine r_aload_n dX8_ifAdded_8 rfl ?_
  refine r_getfield clX8 0 (by decide) fl_X8_10 (by first | assumption | exact up_s _ _ _ | exact (up_n _ (by assumption)).trans (by assumption) | exact (up_n _ (by assumption)).trans (up_s _ _ _) | exact (up_n _ (by assumption)).trans ((up_n _ (by assumption)).trans (by assumption))) rfl dX8_ifAdded_9 ?_
  refine r_iload_n dX8_ifAdded_12 rfl ?_
  refine r_callV1 okX7_members ⟨by decide, by decide⟩ ml_X8_69 (mX7_members hst (k := k) (by omega) (by omega)) (by first | assumption | exact up_s _ _ _ | exact (up_n _ (by assumption)).trans (by assumption) | exact (up_n _ (by assumption)).trans (up_s _ _ _) | exact (up_n _ (by assumption)).trans ((up_n _ (by assumption)).trans (by assumption))) rfl rfl (Nat.le_of_ble_eq_true rfl) (by omega) (by omega) rfl dX8_ifAdded_13 (nx_A) (kx_A ?_)
  refine r_astore_n dX8_ifAdded_16 (by decide) rfl ?_
  have hmk := hst.mb (k := k) (by omega) (by omega)
  have hmo := hmk.1
  have hmn : 0 ≤ n (k) ∧ n (k) ≤ 60 := by have h60 := hmk.2.2.2.1; have h59 := hmk.2.2.1; omega
  refine r_aload_n dX8_ifAdded_17 rfl ?_
  refine r_getfield clX8 6 (by decide) fl_X8_56 (by first | assumption | exact up_s _ _ _ | exact (up_n _ (by assumption)).trans (by assumption) | exact (up_n _ (by assumption)).trans (up_s _ _ _) | exact (up_n _ (by assumption)).trans ((up_n _ (by assumption)).trans (by assumption))) rfl dX8_ifAdded_18 ?_
  refine r_aload_n dX8_ifAdded_21 rfl ?_
  refine r_callV1 okX5_copyFrom ⟨by decide, by decide⟩ ml_X8_116 (mX5_copyFrom htr hmk ⟨hi.ne ⟨by omega, by omega⟩ ⟨by omega, by omega⟩ (by omega), hi.ne ⟨by omega, by omega⟩ ⟨by omega, by omega⟩ (by omega), hi.ne ⟨by omega, by omega⟩ ⟨by omega, by omega⟩ (by omega), hi.ne ⟨by omega, by omega⟩ ⟨by omega, by omega⟩ (by omega)⟩ (by omega)) (by first | assumption | exact up_s _ _ _ | exact (up_n _ (by assumption)).trans (by assumption) | exact (up_n _ (by assumption)).trans (up_s _ _ _) | exact (up_n _ (by assumption)).trans ((up_n _ (by assumption)).trans (by assumption))) rfl rfl (Nat.le_of_ble_eq_true rfl) (by omega) (by omega) rfl dX8_ifAdded_22 (nx_tV) (kx_tV ?_)
  intro M2 hM2
  have hx2 := hx.goT hi hM2.1 hM2.2
  obtain ⟨h00, hst, hhs, hbf, hpw, hbw, hmw, ⟨tn, tF, htr⟩, ⟨wn, wF, hwi⟩⟩ := id hx2.1
  change StP _ ad 1 n F g at hst
  have hob1 := hst.1
  obtain ⟨hh_1, hh_2, hh_3, hh_4, hh_5, hho, -⟩ := id hhs
  have hob94 := hbf.1
  obtain ⟨⟨y1, y2, y3, y4, y5, y6, hob96⟩, -, -⟩ := id hpw
  obtain ⟨z1, z2, z3, hob99, -⟩ := id hbw
  obtain ⟨⟨u1, hob101⟩, -, -⟩ := id hmw
  have hob108 := htr.1
  have hob110 := hwi.1
  have hmk := hst.mb (k := k) (by omega) (by omega)
  have hmo := hmk.1
  have hmn : 0 ≤ n (k) ∧ n (k) ≤ 60 := by have h60 := hmk.2.2.2.1; have h59 := hmk.2.2.1; omega
  have htq := hM2.1
  have hob108 := htq.1
  refine r_aload_n dX8_ifAdded_25 rfl ?_
  refine r_getfield clX8 6 (by decide) fl_X8_56 (by first | assumption | exact up_s _ _ _ | exact (up_n _ (by assumption)).trans (by assumption) | exact (up_n _ (by assumption)).trans (up_s _ _ _) | exact (up_n _ (by assumption)).trans ((up_n _ (by assumption)).trans (by assumption))) rfl dX8_ifAdded_26 ?_
  refine r_iload_n dX8_ifAdded_29 rfl ?_
  refine r_callV1 okX5_put ⟨by decide, by decide⟩ ml_X8_89 (mX5_put htq (by omega)) (by first | assumption | exact up_s _ _ _ | exact (up_n _ (by assumption)).trans (by assumption) | exact (up_n _ (by assumption)).trans (up_s _ _ _) | exact (up_n _ (by assumption)).trans ((up_n _ (by assumption)).trans (by assumption))) rfl rfl (Nat.le_of_ble_eq_true rfl) (by omega) (by omega) rfl dX8_ifAdded_30 (nx_tV) (kx_tV ?_)
  intro M3 hM3
  have hx3 := hx2.1.goT hi hM3.1 hM3.2
  obtain ⟨h00, hst, hhs, hbf, hpw, hbw, hmw, ⟨tn, tF, htr⟩, ⟨wn, wF, hwi⟩⟩ := id hx3.1
  change StP _ ad 1 n F g at hst
  have hob1 := hst.1
  obtain ⟨hh_1, hh_2, hh_3, hh_4, hh_5, hho, -⟩ := id hhs
  have hob94 := hbf.1
  obtain ⟨⟨y1, y2, y3, y4, y5, y6, hob96⟩, -, -⟩ := id hpw
  obtain ⟨z1, z2, z3, hob99, -⟩ := id hbw
  obtain ⟨⟨u1, hob101⟩, -, -⟩ := id hmw
  have hob108 := htr.1
  have hob110 := hwi.1
  have hmk := hst.mb (k := k) (by omega) (by omega)
  have hmo := hmk.1
  have hmn : 0 ≤ n (k) ∧ n (k) ≤ 60 := by have h60 := hmk.2.2.2.1; have h59 := hmk.2.2.1; omega
  have hob108 := hM3.1.1
  have htn := hM3.1.n0
  refine r_aload_n dX8_ifAdded_33 rfl ?_
  refine r_aload_n dX8_ifAdded_34 rfl ?_
  refine r_getfield clX8 6 (by decide) fl_X8_56 (by first | assumption | exact up_s _ _ _ | exact (up_n _ (by assumption)).trans (by assumption) | exact (up_n _ (by assumption)).trans (up_s _ _ _) | exact (up_n _ (by assumption)).trans ((up_n _ (by assumption)).trans (by assumption))) rfl dX8_ifAdded_35 ?_
  refine r_callV1 okX8_sizeOf ⟨by decide, by decide⟩ ml_X8_191 (mX8_sizeOf hx3.1 hv hi hM3.1) (by first | assumption | exact up_s _ _ _ | exact (up_n _ (by assumption)).trans (by assumption) | exact (up_n _ (by assumption)).trans (up_s _ _ _) | exact (up_n _ (by assumption)).trans ((up_n _ (by assumption)).trans (by assumption))) rfl rfl (Nat.le_of_ble_eq_true rfl) (by omega) (by omega) rfl dX8_ifAdded_38 (nx_I) (kx_I ?_)
  have hs1 := szF_r htn.1 (putF 120 (n k) (F k) x) g
  refine r_aload_n dX8_ifAdded_41 rfl ?_
  refine r_aload_n dX8_ifAdded_42 rfl ?_
  refine r_callV1 okX8_sizeOf ⟨by decide, by decide⟩ ml_X8_191 (mX8_sizeOf hx3.1 hv hi hmk) (by first | assumption | exact up_s _ _ _ | exact (up_n _ (by assumption)).trans (by assumption) | exact (up_n _ (by assumption)).trans (up_s _ _ _) | exact (up_n _ (by assumption)).trans ((up_n _ (by assumption)).trans (by assumption))) rfl rfl (Nat.le_of_ble_eq_true rfl) (by omega) (by omega) rfl dX8_ifAdded_43 (nx_I) (kx_I ?_)
  have hs2 := szF_r hmn.1 (F k) g
  refine r_isub dX8_ifAdded_46 ?_
  refine e_ireturn dX8_ifAdded_47 rfl (by omega) (by omega) ?_
  exact oktI rfl ⟨hx3.1, hx2.2.trans hx3.2⟩

set_option maxHeartbeats 4000000 in
theorem mX8_dearest {M : Mem} {ad : Int → Nat} {n : Int → Int} {F : Int → Int → Int} {g : Int → Int} {m : Int} {S : Int → Sg3} {len : Int} {c : Int → Int} {k w : Int} (hx : XSt M ad (n, F, g) m S len c) (hv : Vld (n, F, g)) (hi : Inj ad) (q0 : R32 k) (q1 : R32 w) : Ct KX8_dearest [.ref (ad 0), vI k, vI w] M 6 36 (UX (e2 (eSet k) (eB (w = 0 ∨ w = 1) xA)) (drV (n k) (F k) g w) (fun M2 => XSt M2 ad (n, F, g) m S len c ∧ FrI ad 0 112 M M2) M) := by
  refine Ct.of _ (by decide) rfl (Nat.le_of_ble_eq_true rfl) ?_
  obtain ⟨h00, hst, hhs, hbf, hpw, hbw, hmw, ⟨tn, tF, htr⟩, ⟨wn, wF, hwi⟩⟩ := id hx
  obtain ⟨hvs, hv0, hv1, hv2, hv3⟩ := id hv
  change StP _ ad 1 n F g at hst
  dsimp only at hvs hv0 hv1 hv2 hv3
  have hob1 := hst.1
  obtain ⟨hh_1, hh_2, hh_3, hh_4, hh_5, hho, -⟩ := id hhs
  have hob94 := hbf.1
  obtain ⟨⟨y1, y2, y3, y4, y5, y6, hob96⟩, -, -⟩ := id hpw
  obtain ⟨z1, z2, z3, hob99, -⟩ := id hbw
  obtain ⟨⟨u1, hob101⟩, -, -⟩ := id hmw
  have hob108 := htr.1
  have hob110 := hwi.1
  refine r_iload_n dX8_dearest_0 rfl ?_
  refine r_callS1 okX8_requireSet ⟨by decide, by decide⟩ ml_X8_63 (mX8_requireSet (by omega)) (Nat.le_of_ble_eq_true rfl) (Nat.le_of_ble_eq_true rfl) (Nat.le_of_ble_eq_true rfl) rfl dX8_dearest_1 (tUX (fun hne => by unfold e2; rw [if_neg hne])) (kx_U ?_)
  intro hE1
  have hk9 := eSet_ok hE1
  refine r_iload_n dX8_dearest_4 rfl ?_
  refine r_if_eq (tgt := 13) dX8_dearest_5 (by decide) (by omega) (fun h5 => ?_) (fun h5 => ?_)
  ·
    refine r_iconst dX8_dearest_13 ?_
    refine r_goto (tgt := 18) dX8_dearest_14 (by decide) ?_
    refine r_callS1 okX8_requireArgument ⟨by decide, by decide⟩ ml_X8_96 (mX8_requireArgument (b := w = 0 ∨ w = 1) (by first | (rw [if_pos (by omega)]; done) | (rw [if_neg (by omega)]; done))) (Nat.le_of_ble_eq_true rfl) (Nat.le_of_ble_eq_true rfl) (Nat.le_of_ble_eq_true rfl) rfl dX8_dearest_18 (tUX (fun hne => by unfold e2; rw [if_pos hE1])) (kx_U ?_)
    intro hE2
    have hq9 := eA_ok hE2
    refine r_aload_n dX8_dearest_21 rfl ?_
    refine r_getfield clX8 0 (by decide) fl_X8_10 (by first | assumption | exact up_s _ _ _ | exact (up_n _ (by assumption)).trans (by assumption) | exact (up_n _ (by assumption)).trans (up_s _ _ _) | exact (up_n _ (by assumption)).trans ((up_n _ (by assumption)).trans (by assumption))) rfl dX8_dearest_22 ?_
    refine r_iload_n dX8_dearest_25 rfl ?_
    refine r_callV1 okX7_members ⟨by decide, by decide⟩ ml_X8_69 (mX7_members hst (k := k) (by omega) (by omega)) (by first | assumption | exact up_s _ _ _ | exact (up_n _ (by assumption)).trans (by assumption) | exact (up_n _ (by assumption)).trans (up_s _ _ _) | exact (up_n _ (by assumption)).trans ((up_n _ (by assumption)).trans (by assumption))) rfl rfl (Nat.le_of_ble_eq_true rfl) (Nat.le_of_ble_eq_true rfl) (Nat.le_of_ble_eq_true rfl) rfl dX8_dearest_26 (nx_A) (kx_A ?_)
    refine r_astore_n dX8_dearest_29 (by decide) rfl ?_
    have hmk := hst.mb (k := k) (by omega) (by omega)
    have hmo := hmk.1
    have hmn : 0 ≤ n (k) ∧ n (k) ≤ 60 := by have h60 := hmk.2.2.2.1; have h59 := hmk.2.2.1; omega
    refine r_iconst dX8_dearest_30 ?_
    refine r_istore dX8_dearest_31 (by decide) rfl ?_
    refine r_iconst dX8_dearest_33 ?_
    refine r_istore dX8_dearest_34 (by decide) rfl ?_
    refine r_iconst dX8_dearest_36 ?_
    refine r_istore dX8_dearest_37 (by decide) rfl ?_
    refine J.loc (L' := [(0, some _), (1, some _), (2, some _), (3, some _), (4, some _), (5, some _), (6, some _)]) (lsub_cons rfl (lsub_cons rfl (lsub_cons rfl (lsub_cons rfl (lsub_cons rfl (lsub_cons rfl (lsub_cons rfl (lsub_nil)))))))) (loop4 (fun (p : Int) (d : Int) (s : Int) (M1 : Mem) => 0 ≤ p ∧ p ≤ n k ∧ -1 ≤ d ∧ d ≤ 9999 ∧ -1 ≤ s ∧ s ≤ 900 ∧ XSt M1 ad (n, F, g) m S len c ∧ FrI ad 0 112 M M1 ∧ drF (n k) (F k) g (n k).toNat 0 (-1) (-1) = drF (n k) (F k) g (n k - p).toNat p d s) (fun (p : Int) (d : Int) (s : Int) (M1 : Mem) => (n k - p).toNat) (fun (p : Int) (d : Int) (s : Int) (M1 : Mem) => J KX8_dearest 6 36 _ 39 [(0, some (.ref (ad 0))), (1, some (vI k)), (2, some (vI w)), (3, some (.ref (ad (1 + 2 + k)))), (4, some (vI d)), (5, some (vI s)), (6, some (vI p))] [] M1 _ _) (fun p d s M1 hI39 ih39 => ?_) _ _ _ M ?_)
    ·
      obtain ⟨hp0, hp1, hd0, hd1, hs0, hs9, hx1, hfr1, hd⟩ := hI39
      obtain ⟨h00, hst, hhs, hbf, hpw, hbw, hmw, ⟨tn, tF, htr⟩, ⟨wn, wF, hwi⟩⟩ := id hx1
      change StP _ ad 1 n F g at hst
      have hob1 := hst.1
      obtain ⟨hh_1, hh_2, hh_3, hh_4, hh_5, hho, -⟩ := id hhs
      have hob94 := hbf.1
      obtain ⟨⟨y1, y2, y3, y4, y5, y6, hob96⟩, -, -⟩ := id hpw
      obtain ⟨z1, z2, z3, hob99, -⟩ := id hbw
      obtain ⟨⟨u1, hob101⟩, -, -⟩ := id hmw
      have hob108 := htr.1
      have hob110 := hwi.1
      have hmk := hst.mb (k := k) (by omega) (by omega)
      have hmo := hmk.1
      have hmn : 0 ≤ n (k) ∧ n (k) ≤ 60 := by have h60 := hmk.2.2.2.1; have h59 := hmk.2.2.1; omega
      refine r_iload dX8_dearest_39 rfl ?_
      refine r_aload_n dX8_dearest_41 rfl ?_
      refine r_callV0 okX5_amount ⟨by decide, by decide⟩ ml_X8_77 (mX5_amount hmk) (by first | assumption | exact up_s _ _ _ | exact (up_n _ (by assumption)).trans (by assumption) | exact (up_n _ (by assumption)).trans (up_s _ _ _) | exact (up_n _ (by assumption)).trans ((up_n _ (by assumption)).trans (by assumption))) rfl rfl (Nat.le_of_ble_eq_true rfl) (Nat.le_of_ble_eq_true rfl) (Nat.le_of_ble_eq_true rfl) rfl dX8_dearest_42 (nx_I) (kx_I ?_)
      refine r_icmp_ge (tgt := 112) dX8_dearest_45 (by decide) (by omega) (by omega) (fun h45 => ?_) (fun h45 => ?_)
      ·
        refine r_iload_n dX8_dearest_112 rfl ?_
        refine r_if_ne (tgt := 121) dX8_dearest_113 (by decide) (by omega) (fun h113 => ?_) (fun h113 => ?_)
        ·
          refine r_iload dX8_dearest_121 rfl ?_
          refine e_ireturn dX8_dearest_123 rfl (Nat.le_of_ble_eq_true rfl) (Nat.le_of_ble_eq_true rfl) ?_
          exact okUX (by unfold e2; rw [if_pos hE1]; exact hE2) (by unfold drV; rw [if_neg (by omega), hd, show (n k - p).toNat = 0 by omega, drF]) ⟨hx1, hfr1⟩
        ·
          refine r_iload dX8_dearest_116 rfl ?_
          refine r_goto (tgt := 123) dX8_dearest_118 (by decide) ?_
          refine e_ireturn dX8_dearest_123 rfl (Nat.le_of_ble_eq_true rfl) (Nat.le_of_ble_eq_true rfl) ?_
          exact okUX (by unfold e2; rw [if_pos hE1]; exact hE2) (by unfold drV; rw [if_pos (by omega), hd, show (n k - p).toNat = 0 by omega, drF]) ⟨hx1, hfr1⟩
      ·
        refine r_aload_n dX8_dearest_48 rfl ?_
        refine r_iload dX8_dearest_49 rfl ?_
        refine r_callV1 okX5_at ⟨by decide, by decide⟩ ml_X8_160 (mX5_at hmk (by omega)) (by first | assumption | exact up_s _ _ _ | exact (up_n _ (by assumption)).trans (by assumption) | exact (up_n _ (by assumption)).trans (up_s _ _ _) | exact (up_n _ (by assumption)).trans ((up_n _ (by assumption)).trans (by assumption))) rfl rfl (Nat.le_of_ble_eq_true rfl) (Nat.le_of_ble_eq_true rfl) (Nat.le_of_ble_eq_true rfl) rfl dX8_dearest_51 (nx_I) (kx_I ?_)
        have hat := hmk.at p
        rw [atF_in hp0 (by omega)] at hat ⊢
        have hbd := hmk.2.2.2.2.2 p hp0 (by omega)
        refine r_istore dX8_dearest_54 (by decide) rfl ?_
        refine r_aload_n dX8_dearest_56 rfl ?_
        refine r_getfield clX8 6 (by decide) fl_X8_56 (by first | assumption | exact up_s _ _ _ | exact (up_n _ (by assumption)).trans (by assumption) | exact (up_n _ (by assumption)).trans (up_s _ _ _) | exact (up_n _ (by assumption)).trans ((up_n _ (by assumption)).trans (by assumption))) rfl dX8_dearest_57 ?_
        refine r_aload_n dX8_dearest_60 rfl ?_
        refine r_callV1 okX5_copyFrom ⟨by decide, by decide⟩ ml_X8_116 (mX5_copyFrom htr hmk ⟨hi.ne ⟨by omega, by omega⟩ ⟨by omega, by omega⟩ (by omega), hi.ne ⟨by omega, by omega⟩ ⟨by omega, by omega⟩ (by omega), hi.ne ⟨by omega, by omega⟩ ⟨by omega, by omega⟩ (by omega), hi.ne ⟨by omega, by omega⟩ ⟨by omega, by omega⟩ (by omega)⟩ (by omega)) (by first | assumption | exact up_s _ _ _ | exact (up_n _ (by assumption)).trans (by assumption) | exact (up_n _ (by assumption)).trans (up_s _ _ _) | exact (up_n _ (by assumption)).trans ((up_n _ (by assumption)).trans (by assumption))) rfl rfl (Nat.le_of_ble_eq_true rfl) (Nat.le_of_ble_eq_true rfl) (Nat.le_of_ble_eq_true rfl) rfl dX8_dearest_61 (nx_tV) (kx_tV ?_)
        intro M2 hM2
        have hx2 := hx1.goT hi hM2.1 hM2.2
        obtain ⟨h00, hst, hhs, hbf, hpw, hbw, hmw, ⟨tn, tF, htr⟩, ⟨wn, wF, hwi⟩⟩ := id hx2.1
        change StP _ ad 1 n F g at hst
        have hob1 := hst.1
        obtain ⟨hh_1, hh_2, hh_3, hh_4, hh_5, hho, -⟩ := id hhs
        have hob94 := hbf.1
        obtain ⟨⟨y1, y2, y3, y4, y5, y6, hob96⟩, -, -⟩ := id hpw
        obtain ⟨z1, z2, z3, hob99, -⟩ := id hbw
        obtain ⟨⟨u1, hob101⟩, -, -⟩ := id hmw
        have hob108 := htr.1
        have hob110 := hwi.1
        have hmk := hst.mb (k := k) (by omega) (by omega)
        have hmo := hmk.1
        have hmn : 0 ≤ n (k) ∧ n (k) ≤ 60 := by have h60 := hmk.2.2.2.1; have h59 := hmk.2.2.1; omega
        have htq := hM2.1
        have hob108 := htq.1
        refine r_aload_n dX8_dearest_64 rfl ?_
        refine r_getfield clX8 6 (by decide) fl_X8_56 (by first | assumption | exact up_s _ _ _ | exact (up_n _ (by assumption)).trans (by assumption) | exact (up_n _ (by assumption)).trans (up_s _ _ _) | exact (up_n _ (by assumption)).trans ((up_n _ (by assumption)).trans (by assumption))) rfl dX8_dearest_65 ?_
        refine r_iload dX8_dearest_68 rfl ?_
        refine r_iload dX8_dearest_70 rfl ?_
        refine r_callV2 okX5_cutOut ⟨by decide, by decide⟩ ml_X8_92 (mX5_cutOut htq (by omega) (by omega)) (by first | assumption | exact up_s _ _ _ | exact (up_n _ (by assumption)).trans (by assumption) | exact (up_n _ (by assumption)).trans (up_s _ _ _) | exact (up_n _ (by assumption)).trans ((up_n _ (by assumption)).trans (by assumption))) rfl rfl (Nat.le_of_ble_eq_true rfl) (Nat.le_of_ble_eq_true rfl) (Nat.le_of_ble_eq_true rfl) rfl dX8_dearest_72 (nx_tI) (kx_tI ?_)
        intro M3 hM3
        have hx3 := hx2.1.goT hi hM3.1 hM3.2
        obtain ⟨h00, hst, hhs, hbf, hpw, hbw, hmw, ⟨tn, tF, htr⟩, ⟨wn, wF, hwi⟩⟩ := id hx3.1
        change StP _ ad 1 n F g at hst
        have hob1 := hst.1
        obtain ⟨hh_1, hh_2, hh_3, hh_4, hh_5, hho, -⟩ := id hhs
        have hob94 := hbf.1
        obtain ⟨⟨y1, y2, y3, y4, y5, y6, hob96⟩, -, -⟩ := id hpw
        obtain ⟨z1, z2, z3, hob99, -⟩ := id hbw
        obtain ⟨⟨u1, hob101⟩, -, -⟩ := id hmw
        have hob108 := htr.1
        have hob110 := hwi.1
        have hmk := hst.mb (k := k) (by omega) (by omega)
        have hmo := hmk.1
        have hmn : 0 ≤ n (k) ∧ n (k) ≤ 60 := by have h60 := hmk.2.2.2.1; have h59 := hmk.2.2.1; omega
        have hob108 := hM3.1.1
        have htn := hM3.1.n0
        have htp := (cutP_r (F k p) (F k p) hmn.1 hmk.2.2.2.2.2).2.1
        refine r_popI dX8_dearest_75 ?_
        refine r_aload_n dX8_dearest_76 rfl ?_
        refine r_aload_n dX8_dearest_77 rfl ?_
        refine r_getfield clX8 6 (by decide) fl_X8_56 (by first | assumption | exact up_s _ _ _ | exact (up_n _ (by assumption)).trans (by assumption) | exact (up_n _ (by assumption)).trans (up_s _ _ _) | exact (up_n _ (by assumption)).trans ((up_n _ (by assumption)).trans (by assumption))) rfl dX8_dearest_78 ?_
        refine r_callV1 okX8_sizeOf ⟨by decide, by decide⟩ ml_X8_191 (mX8_sizeOf hx3.1 hv hi hM3.1) (by first | assumption | exact up_s _ _ _ | exact (up_n _ (by assumption)).trans (by assumption) | exact (up_n _ (by assumption)).trans (up_s _ _ _) | exact (up_n _ (by assumption)).trans ((up_n _ (by assumption)).trans (by assumption))) rfl rfl (Nat.le_of_ble_eq_true rfl) (Nat.le_of_ble_eq_true rfl) (Nat.le_of_ble_eq_true rfl) rfl dX8_dearest_81 (nx_I) (kx_I ?_)
        have hs1 := szF_r htn.1 (cutP (n k) (F k) (F k p) (F k p)).2 g
        have hsz : drS (n k) (F k) g p = szF (cutP (n k) (F k) (F k p) (F k p)).1 (cutP (n k) (F k) (F k p) (F k p)).2 g := rfl
        refine r_istore dX8_dearest_84 (by decide) rfl ?_
        refine r_iload dX8_dearest_86 rfl ?_
        refine r_if_eq (tgt := 98) dX8_dearest_88 (by decide) (by omega) (fun h88 => ?_) (fun h88 => ?_)
        ·
          refine r_iload dX8_dearest_98 rfl ?_
          refine r_istore dX8_dearest_100 (by decide) rfl ?_
          refine r_iload dX8_dearest_102 rfl ?_
          refine r_istore dX8_dearest_104 (by decide) rfl ?_
          refine r_iinc dX8_dearest_106 rfl rfl ?_
          refine r_goto (tgt := 39) dX8_dearest_109 (by decide) ?_
          refine J.loc (lsub_cons rfl (lsub_cons rfl (lsub_cons rfl (lsub_cons rfl (lsub_cons rfl (lsub_cons rfl (lsub_cons rfl (lsub_nil)))))))) (ih39 _ _ _ M3 ?_ ?_)
          · refine ⟨by omega, by omega, by omega, by omega, by omega, by omega, hx3.1, hfr1.trans (hx2.2.trans hx3.2), ?_⟩
            rw [hd, show (n k - p).toNat = (n k - (p + 1)).toNat + 1 by omega, drF, if_pos (Or.inl (by omega)), hsz]
          · omega
        ·
          refine r_iload dX8_dearest_91 rfl ?_
          refine r_iload dX8_dearest_93 rfl ?_
          refine r_icmp_ge (tgt := 106) dX8_dearest_95 (by decide) (by omega) (by omega) (fun h95 => ?_) (fun h95 => ?_)
          ·
            refine r_iinc dX8_dearest_106 rfl rfl ?_
            refine r_goto (tgt := 39) dX8_dearest_109 (by decide) ?_
            refine J.loc (lsub_cons rfl (lsub_cons rfl (lsub_cons rfl (lsub_cons rfl (lsub_cons rfl (lsub_cons rfl (lsub_cons rfl (lsub_nil)))))))) (ih39 _ _ _ M3 ?_ ?_)
            · refine ⟨by omega, by omega, by omega, by omega, by omega, by omega, hx3.1, hfr1.trans (hx2.2.trans hx3.2), ?_⟩
              rw [hd, show (n k - p).toNat = (n k - (p + 1)).toNat + 1 by omega, drF, if_neg (by omega)]
            · omega
          ·
            refine r_iload dX8_dearest_98 rfl ?_
            refine r_istore dX8_dearest_100 (by decide) rfl ?_
            refine r_iload dX8_dearest_102 rfl ?_
            refine r_istore dX8_dearest_104 (by decide) rfl ?_
            refine r_iinc dX8_dearest_106 rfl rfl ?_
            refine r_goto (tgt := 39) dX8_dearest_109 (by decide) ?_
            refine J.loc (lsub_cons rfl (lsub_cons rfl (lsub_cons rfl (lsub_cons rfl (lsub_cons rfl (lsub_cons rfl (lsub_cons rfl (lsub_nil)))))))) (ih39 _ _ _ M3 ?_ ?_)
            · refine ⟨by omega, by omega, by omega, by omega, by omega, by omega, hx3.1, hfr1.trans (hx2.2.trans hx3.2), ?_⟩
              rw [hd, show (n k - p).toNat = (n k - (p + 1)).toNat + 1 by omega, drF, if_pos (Or.inr (by omega)), hsz]
            · omega
    · exact ⟨by omega, by have := (hst.mb (k := k) (by omega) (by omega)).n0; omega, by omega, by omega, by omega, by omega, hx, FrI.rf, by simp⟩
  ·
    refine r_iload_n dX8_dearest_8 rfl ?_
    refine r_iconst dX8_dearest_9 ?_
    refine r_icmp_ne (tgt := 17) dX8_dearest_10 (by decide) (by omega) (by omega) (fun h10 => ?_) (fun h10 => ?_)
    ·
      refine r_iconst dX8_dearest_17 ?_
      refine r_callS1 okX8_requireArgument ⟨by decide, by decide⟩ ml_X8_96 (mX8_requireArgument (b := w = 0 ∨ w = 1) (by first | (rw [if_pos (by omega)]; done) | (rw [if_neg (by omega)]; done))) (Nat.le_of_ble_eq_true rfl) (Nat.le_of_ble_eq_true rfl) (Nat.le_of_ble_eq_true rfl) rfl dX8_dearest_18 (tUX (fun hne => by unfold e2; rw [if_pos hE1])) (kx_U ?_)
      intro hE2
      have hq9 := eA_ok hE2
      refine r_aload_n dX8_dearest_21 rfl ?_
      refine r_getfield clX8 0 (by decide) fl_X8_10 (by first | assumption | exact up_s _ _ _ | exact (up_n _ (by assumption)).trans (by assumption) | exact (up_n _ (by assumption)).trans (up_s _ _ _) | exact (up_n _ (by assumption)).trans ((up_n _ (by assumption)).trans (by assumption))) rfl dX8_dearest_22 ?_
      refine r_iload_n dX8_dearest_25 rfl ?_
      refine r_callV1 okX7_members ⟨by decide, by decide⟩ ml_X8_69 (mX7_members hst (k := k) (by omega) (by omega)) (by first | assumption | exact up_s _ _ _ | exact (up_n _ (by assumption)).trans (by assumption) | exact (up_n _ (by assumption)).trans (up_s _ _ _) | exact (up_n _ (by assumption)).trans ((up_n _ (by assumption)).trans (by assumption))) rfl rfl (Nat.le_of_ble_eq_true rfl) (Nat.le_of_ble_eq_true rfl) (Nat.le_of_ble_eq_true rfl) rfl dX8_dearest_26 (nx_A) (kx_A ?_)
      refine r_astore_n dX8_dearest_29 (by decide) rfl ?_
      have hmk := hst.mb (k := k) (by omega) (by omega)
      have hmo := hmk.1
      have hmn : 0 ≤ n (k) ∧ n (k) ≤ 60 := by have h60 := hmk.2.2.2.1; have h59 := hmk.2.2.1; omega
      refine r_iconst dX8_dearest_30 ?_
      refine r_istore dX8_dearest_31 (by decide) rfl ?_
      refine r_iconst dX8_dearest_33 ?_
      refine r_istore dX8_dearest_34 (by decide) rfl ?_
      refine r_iconst dX8_dearest_36 ?_
      refine r_istore dX8_dearest_37 (by decide) rfl ?_
      refine J.loc (L' := [(0, some _), (1, some _), (2, some _), (3, some _), (4, some _), (5, some _), (6, some _)]) (lsub_cons rfl (lsub_cons rfl (lsub_cons rfl (lsub_cons rfl (lsub_cons rfl (lsub_cons rfl (lsub_cons rfl (lsub_nil)))))))) (loop4 (fun (p : Int) (d : Int) (s : Int) (M1 : Mem) => 0 ≤ p ∧ p ≤ n k ∧ -1 ≤ d ∧ d ≤ 9999 ∧ -1 ≤ s ∧ s ≤ 900 ∧ XSt M1 ad (n, F, g) m S len c ∧ FrI ad 0 112 M M1 ∧ drF (n k) (F k) g (n k).toNat 0 (-1) (-1) = drF (n k) (F k) g (n k - p).toNat p d s) (fun (p : Int) (d : Int) (s : Int) (M1 : Mem) => (n k - p).toNat) (fun (p : Int) (d : Int) (s : Int) (M1 : Mem) => J KX8_dearest 6 36 _ 39 [(0, some (.ref (ad 0))), (1, some (vI k)), (2, some (vI w)), (3, some (.ref (ad (1 + 2 + k)))), (4, some (vI d)), (5, some (vI s)), (6, some (vI p))] [] M1 _ _) (fun p d s M1 hI39 ih39 => ?_) _ _ _ M ?_)
      ·
        obtain ⟨hp0, hp1, hd0, hd1, hs0, hs9, hx1, hfr1, hd⟩ := hI39
        obtain ⟨h00, hst, hhs, hbf, hpw, hbw, hmw, ⟨tn, tF, htr⟩, ⟨wn, wF, hwi⟩⟩ := id hx1
        change StP _ ad 1 n F g at hst
        have hob1 := hst.1
        obtain ⟨hh_1, hh_2, hh_3, hh_4, hh_5, hho, -⟩ := id hhs
        have hob94 := hbf.1
        obtain ⟨⟨y1, y2, y3, y4, y5, y6, hob96⟩, -, -⟩ := id hpw
        obtain ⟨z1, z2, z3, hob99, -⟩ := id hbw
        obtain ⟨⟨u1, hob101⟩, -, -⟩ := id hmw
        have hob108 := htr.1
        have hob110 := hwi.1
        have hmk := hst.mb (k := k) (by omega) (by omega)
        have hmo := hmk.1
        have hmn : 0 ≤ n (k) ∧ n (k) ≤ 60 := by have h60 := hmk.2.2.2.1; have h59 := hmk.2.2.1; omega
        refine r_iload dX8_dearest_39 rfl ?_
        refine r_aload_n dX8_dearest_41 rfl ?_
        refine r_callV0 okX5_amount ⟨by decide, by decide⟩ ml_X8_77 (mX5_amount hmk) (by first | assumption | exact up_s _ _ _ | exact (up_n _ (by assumption)).trans (by assumption) | exact (up_n _ (by assumption)).trans (up_s _ _ _) | exact (up_n _ (by assumption)).trans ((up_n _ (by assumption)).trans (by assumption))) rfl rfl (Nat.le_of_ble_eq_true rfl) (Nat.le_of_ble_eq_true rfl) (Nat.le_of_ble_eq_true rfl) rfl dX8_dearest_42 (nx_I) (kx_I ?_)
        refine r_icmp_ge (tgt := 112) dX8_dearest_45 (by decide) (by omega) (by omega) (fun h45 => ?_) (fun h45 => ?_)
        ·
          refine r_iload_n dX8_dearest_112 rfl ?_
          refine r_if_ne (tgt := 121) dX8_dearest_113 (by decide) (by omega) (fun h113 => ?_) (fun h113 => ?_)
          ·
            refine r_iload dX8_dearest_121 rfl ?_
            refine e_ireturn dX8_dearest_123 rfl (Nat.le_of_ble_eq_true rfl) (Nat.le_of_ble_eq_true rfl) ?_
            exact okUX (by unfold e2; rw [if_pos hE1]; exact hE2) (by unfold drV; rw [if_neg (by omega), hd, show (n k - p).toNat = 0 by omega, drF]) ⟨hx1, hfr1⟩
          ·
            refine r_iload dX8_dearest_116 rfl ?_
            refine r_goto (tgt := 123) dX8_dearest_118 (by decide) ?_
            refine e_ireturn dX8_dearest_123 rfl (Nat.le_of_ble_eq_true rfl) (Nat.le_of_ble_eq_true rfl) ?_
            exact okUX (by unfold e2; rw [if_pos hE1]; exact hE2) (by unfold drV; rw [if_pos (by omega), hd, show (n k - p).toNat = 0 by omega, drF]) ⟨hx1, hfr1⟩
        ·
          refine r_aload_n dX8_dearest_48 rfl ?_
          refine r_iload dX8_dearest_49 rfl ?_
          refine r_callV1 okX5_at ⟨by decide, by decide⟩ ml_X8_160 (mX5_at hmk (by omega)) (by first | assumption | exact up_s _ _ _ | exact (up_n _ (by assumption)).trans (by assumption) | exact (up_n _ (by assumption)).trans (up_s _ _ _) | exact (up_n _ (by assumption)).trans ((up_n _ (by assumption)).trans (by assumption))) rfl rfl (Nat.le_of_ble_eq_true rfl) (Nat.le_of_ble_eq_true rfl) (Nat.le_of_ble_eq_true rfl) rfl dX8_dearest_51 (nx_I) (kx_I ?_)
          have hat := hmk.at p
          rw [atF_in hp0 (by omega)] at hat ⊢
          have hbd := hmk.2.2.2.2.2 p hp0 (by omega)
          refine r_istore dX8_dearest_54 (by decide) rfl ?_
          refine r_aload_n dX8_dearest_56 rfl ?_
          refine r_getfield clX8 6 (by decide) fl_X8_56 (by first | assumption | exact up_s _ _ _ | exact (up_n _ (by assumption)).trans (by assumption) | exact (up_n _ (by assumption)).trans (up_s _ _ _) | exact (up_n _ (by assumption)).trans ((up_n _ (by assumption)).trans (by assumption))) rfl dX8_dearest_57 ?_
          refine r_aload_n dX8_dearest_60 rfl ?_
          refine r_callV1 okX5_copyFrom ⟨by decide, by decide⟩ ml_X8_116 (mX5_copyFrom htr hmk ⟨hi.ne ⟨by omega, by omega⟩ ⟨by omega, by omega⟩ (by omega), hi.ne ⟨by omega, by omega⟩ ⟨by omega, by omega⟩ (by omega), hi.ne ⟨by omega, by omega⟩ ⟨by omega, by omega⟩ (by omega), hi.ne ⟨by omega, by omega⟩ ⟨by omega, by omega⟩ (by omega)⟩ (by omega)) (by first | assumption | exact up_s _ _ _ | exact (up_n _ (by assumption)).trans (by assumption) | exact (up_n _ (by assumption)).trans (up_s _ _ _) | exact (up_n _ (by assumption)).trans ((up_n _ (by assumption)).trans (by assumption))) rfl rfl (Nat.le_of_ble_eq_true rfl) (Nat.le_of_ble_eq_true rfl) (Nat.le_of_ble_eq_true rfl) rfl dX8_dearest_61 (nx_tV) (kx_tV ?_)
          intro M2 hM2
          have hx2 := hx1.goT hi hM2.1 hM2.2
          obtain ⟨h00, hst, hhs, hbf, hpw, hbw, hmw, ⟨tn, tF, htr⟩, ⟨wn, wF, hwi⟩⟩ := id hx2.1
          change StP _ ad 1 n F g at hst
          have hob1 := hst.1
          obtain ⟨hh_1, hh_2, hh_3, hh_4, hh_5, hho, -⟩ := id hhs
          have hob94 := hbf.1
          obtain ⟨⟨y1, y2, y3, y4, y5, y6, hob96⟩, -, -⟩ := id hpw
          obtain ⟨z1, z2, z3, hob99, -⟩ := id hbw
          obtain ⟨⟨u1, hob101⟩, -, -⟩ := id hmw
          have hob108 := htr.1
          have hob110 := hwi.1
          have hmk := hst.mb (k := k) (by omega) (by omega)
          have hmo := hmk.1
          have hmn : 0 ≤ n (k) ∧ n (k) ≤ 60 := by have h60 := hmk.2.2.2.1; have h59 := hmk.2.2.1; omega
          have htq := hM2.1
          have hob108 := htq.1
          refine r_aload_n dX8_dearest_64 rfl ?_
          refine r_getfield clX8 6 (by decide) fl_X8_56 (by first | assumption | exact up_s _ _ _ | exact (up_n _ (by assumption)).trans (by assumption) | exact (up_n _ (by assumption)).trans (up_s _ _ _) | exact (up_n _ (by assumption)).trans ((up_n _ (by assumption)).trans (by assumption))) rfl dX8_dearest_65 ?_
          refine r_iload dX8_dearest_68 rfl ?_
          refine r_iload dX8_dearest_70 rfl ?_
          refine r_callV2 okX5_cutOut ⟨by decide, by decide⟩ ml_X8_92 (mX5_cutOut htq (by omega) (by omega)) (by first | assumption | exact up_s _ _ _ | exact (up_n _ (by assumption)).trans (by assumption) | exact (up_n _ (by assumption)).trans (up_s _ _ _) | exact (up_n _ (by assumption)).trans ((up_n _ (by assumption)).trans (by assumption))) rfl rfl (Nat.le_of_ble_eq_true rfl) (Nat.le_of_ble_eq_true rfl) (Nat.le_of_ble_eq_true rfl) rfl dX8_dearest_72 (nx_tI) (kx_tI ?_)
          intro M3 hM3
          have hx3 := hx2.1.goT hi hM3.1 hM3.2
          obtain ⟨h00, hst, hhs, hbf, hpw, hbw, hmw, ⟨tn, tF, htr⟩, ⟨wn, wF, hwi⟩⟩ := id hx3.1
          change StP _ ad 1 n F g at hst
          have hob1 := hst.1
          obtain ⟨hh_1, hh_2, hh_3, hh_4, hh_5, hho, -⟩ := id hhs
          have hob94 := hbf.1
          obtain ⟨⟨y1, y2, y3, y4, y5, y6, hob96⟩, -, -⟩ := id hpw
          obtain ⟨z1, z2, z3, hob99, -⟩ := id hbw
          obtain ⟨⟨u1, hob101⟩, -, -⟩ := id hmw
          have hob108 := htr.1
          have hob110 := hwi.1
          have hmk := hst.mb (k := k) (by omega) (by omega)
          have hmo := hmk.1
          have hmn : 0 ≤ n (k) ∧ n (k) ≤ 60 := by have h60 := hmk.2.2.2.1; have h59 := hmk.2.2.1; omega
          have hob108 := hM3.1.1
          have htn := hM3.1.n0
          have htp := (cutP_r (F k p) (F k p) hmn.1 hmk.2.2.2.2.2).2.1
          refine r_popI dX8_dearest_75 ?_
          refine r_aload_n dX8_dearest_76 rfl ?_
          refine r_aload_n dX8_dearest_77 rfl ?_
          refine r_getfield clX8 6 (by decide) fl_X8_56 (by first | assumption | exact up_s _ _ _ | exact (up_n _ (by assumption)).trans (by assumption) | exact (up_n _ (by assumption)).trans (up_s _ _ _) | exact (up_n _ (by assumption)).trans ((up_n _ (by assumption)).trans (by assumption))) rfl dX8_dearest_78 ?_
          refine r_callV1 okX8_sizeOf ⟨by decide, by decide⟩ ml_X8_191 (mX8_sizeOf hx3.1 hv hi hM3.1) (by first | assumption | exact up_s _ _ _ | exact (up_n _ (by assumption)).trans (by assumption) | exact (up_n _ (by assumption)).trans (up_s _ _ _) | exact (up_n _ (by assumption)).trans ((up_n _ (by assumption)).trans (by assumption))) rfl rfl (Nat.le_of_ble_eq_true rfl) (Nat.le_of_ble_eq_true rfl) (Nat.le_of_ble_eq_true rfl) rfl dX8_dearest_81 (nx_I) (kx_I ?_)
          have hs1 := szF_r htn.1 (cutP (n k) (F k) (F k p) (F k p)).2 g
          have hsz : drS (n k) (F k) g p = szF (cutP (n k) (F k) (F k p) (F k p)).1 (cutP (n k) (F k) (F k p) (F k p)).2 g := rfl
          refine r_istore dX8_dearest_84 (by decide) rfl ?_
          refine r_iload dX8_dearest_86 rfl ?_
          refine r_if_eq (tgt := 98) dX8_dearest_88 (by decide) (by omega) (fun h88 => ?_) (fun h88 => ?_)
          ·
            refine r_iload dX8_dearest_98 rfl ?_
            refine r_istore dX8_dearest_100 (by decide) rfl ?_
            refine r_iload dX8_dearest_102 rfl ?_
            refine r_istore dX8_dearest_104 (by decide) rfl ?_
            refine r_iinc dX8_dearest_106 rfl rfl ?_
            refine r_goto (tgt := 39) dX8_dearest_109 (by decide) ?_
            refine J.loc (lsub_cons rfl (lsub_cons rfl (lsub_cons rfl (lsub_cons rfl (lsub_cons rfl (lsub_cons rfl (lsub_cons rfl (lsub_nil)))))))) (ih39 _ _ _ M3 ?_ ?_)
            · refine ⟨by omega, by omega, by omega, by omega, by omega, by omega, hx3.1, hfr1.trans (hx2.2.trans hx3.2), ?_⟩
              rw [hd, show (n k - p).toNat = (n k - (p + 1)).toNat + 1 by omega, drF, if_pos (Or.inl (by omega)), hsz]
            · omega
          ·
            refine r_iload dX8_dearest_91 rfl ?_
            refine r_iload dX8_dearest_93 rfl ?_
            refine r_icmp_ge (tgt := 106) dX8_dearest_95 (by decide) (by omega) (by omega) (fun h95 => ?_) (fun h95 => ?_)
            ·
              refine r_iinc dX8_dearest_106 rfl rfl ?_
              refine r_goto (tgt := 39) dX8_dearest_109 (by decide) ?_
              refine J.loc (lsub_cons rfl (lsub_cons rfl (lsub_cons rfl (lsub_cons rfl (lsub_cons rfl (lsub_cons rfl (lsub_cons rfl (lsub_nil)))))))) (ih39 _ _ _ M3 ?_ ?_)
              · refine ⟨by omega, by omega, by omega, by omega, by omega, by omega, hx3.1, hfr1.trans (hx2.2.trans hx3.2), ?_⟩
                rw [hd, show (n k - p).toNat = (n k - (p + 1)).toNat + 1 by omega, drF, if_neg (by omega)]
              · omega
            ·
              refine r_iload dX8_dearest_98 rfl ?_
              refine r_istore dX8_dearest_100 (by decide) rfl ?_
              refine r_iload dX8_dearest_102 rfl ?_
              refine r_istore dX8_dearest_104 (by decide) rfl ?_
              refine r_iinc dX8_dearest_106 rfl rfl ?_
              refine r_goto (tgt := 39) dX8_dearest_109 (by decide) ?_
              refine J.loc (lsub_cons rfl (lsub_cons rfl (lsub_cons rfl (lsub_cons rfl (lsub_cons rfl (lsub_cons rfl (lsub_cons rfl (lsub_nil)))))))) (ih39 _ _ _ M3 ?_ ?_)
              · refine ⟨by omega, by omega, by omega, by omega, by omega, by omega, hx3.1, hfr1.trans (hx2.2.trans hx3.2), ?_⟩
                rw [hd, show (n k - p).toNat = (n k - (p + 1)).toNat + 1 by omega, drF, if_pos (Or.inr (by omega)), hsz]
              · omega
      · exact ⟨by omega, by have := (hst.mb (k := k) (by omega) (by omega)).n0; omega, by omega, by omega, by omega, by omega, hx, FrI.rf, by simp⟩
    ·
      refine r_iconst dX8_dearest_13 ?_
      refine r_goto (tgt := 18) dX8_dearest_14 (by decide) ?_
      refine r_callS1 okX8_requireArgument ⟨by decide, by decide⟩ ml_X8_96 (mX8_requireArgument (b := w = 0 ∨ w = 1) (by first | (rw [if_pos (by omega)]; done) | (rw [if_neg (by omega)]; done))) (Nat.le_of_ble_eq_true rfl) (Nat.le_of_ble_eq_true rfl) (Nat.le_of_ble_eq_true rfl) rfl dX8_dearest_18 (tUX (fun hne => by unfold e2; rw [if_pos hE1])) (kx_U ?_)
      intro hE2
      have hq9 := eA_ok hE2
      refine r_aload_n dX8_dearest_21 rfl ?_
      refine r_getfield clX8 0 (by decide) fl_X8_10 (by first | assumption | exact up_s _ _ _ | exact (up_n _ (by assumption)).trans (by assumption) | exact (up_n _ (by assumption)).trans (up_s _ _ _) | exact (up_n _ (by assumption)).trans ((up_n _ (by assumption)).trans (by assumption))) rfl dX8_dearest_22 ?_
      refine r_iload_n dX8_dearest_25 rfl ?_
      refine r_callV1 okX7_members ⟨by decide, by decide⟩ ml_X8_69 (mX7_members hst (k := k) (by omega) (by omega)) (by first | assumption | exact up_s _ _ _ | exact (up_n _ (by assumption)).trans (by assumption) | exact (up_n _ (by assumption)).trans (up_s _ _ _) | exact (up_n _ (by assumption)).trans ((up_n _ (by assumption)).trans (by assumption))) rfl rfl (Nat.le_of_ble_eq_true rfl) (Nat.le_of_ble_eq_true rfl) (Nat.le_of_ble_eq_true rfl) rfl dX8_dearest_26 (nx_A) (kx_A ?_)
      refine r_astore_n dX8_dearest_29 (by decide) rfl ?_
      have hmk := hst.mb (k := k) (by omega) (by omega)
      have hmo := hmk.1
      have hmn : 0 ≤ n (k) ∧ n (k) ≤ 60 := by have h60 := hmk.2.2.2.1; have h59 := hmk.2.2.1; omega
      refine r_iconst dX8_dearest_30 ?_
      refine r_istore dX8_dearest_31 (by decide) rfl ?_
      refine r_iconst dX8_dearest_33 ?_
      refine r_istore dX8_dearest_34 (by decide) rfl ?_
      refine r_iconst dX8_dearest_36 ?_
      refine r_istore dX8_dearest_37 (by decide) rfl ?_
      refine J.loc (L' := [(0, some _), (1, some _), (2, some _), (3, some _), (4, some _), (5, some _), (6, some _)]) (lsub_cons rfl (lsub_cons rfl (lsub_cons rfl (lsub_cons rfl (lsub_cons rfl (lsub_cons rfl (lsub_cons rfl (lsub_nil)))))))) (loop4 (fun (p : Int) (d : Int) (s : Int) (M1 : Mem) => 0 ≤ p ∧ p ≤ n k ∧ -1 ≤ d ∧ d ≤ 9999 ∧ -1 ≤ s ∧ s ≤ 900 ∧ XSt M1 ad (n, F, g) m S len c ∧ FrI ad 0 112 M M1 ∧ drF (n k) (F k) g (n k).toNat 0 (-1) (-1) = drF (n k) (F k) g (n k - p).toNat p d s) (fun (p : Int) (d : Int) (s : Int) (M1 : Mem) => (n k - p).toNat) (fun (p : Int) (d : Int) (s : Int) (M1 : Mem) => J KX8_dearest 6 36 _ 39 [(0, some (.ref (ad 0))), (1, some (vI k)), (2, some (vI w)), (3, some (.ref (ad (1 + 2 + k)))), (4, some (vI d)), (5, some (vI s)), (6, some (vI p))] [] M1 _ _) (fun p d s M1 hI39 ih39 => ?_) _ _ _ M ?_)
      ·
        obtain ⟨hp0, hp1, hd0, hd1, hs0, hs9, hx1, hfr1, hd⟩ := hI39
        obtain ⟨h00, hst, hhs, hbf, hpw, hbw, hmw, ⟨tn, tF, htr⟩, ⟨wn, wF, hwi⟩⟩ := id hx1
        change StP _ ad 1 n F g at hst
        have hob1 := hst.1
        obtain ⟨hh_1, hh_2, hh_3, hh_4, hh_5, hho, -⟩ := id hhs
        have hob94 := hbf.1
        obtain ⟨⟨y1, y2, y3, y4, y5, y6, hob96⟩, -, -⟩ := id hpw
        obtain ⟨z1, z2, z3, hob99, -⟩ := id hbw
        obtain ⟨⟨u1, hob101⟩, -, -⟩ := id hmw
        have hob108 := htr.1
        have hob110 := hwi.1
        have hmk := hst.mb (k := k) (by omega) (by omega)
        have hmo := hmk.1
        have hmn : 0 ≤ n (k) ∧ n (k) ≤ 60 := by have h60 := hmk.2.2.2.1; have h59 := hmk.2.2.1; omega
        refine r_iload dX8_dearest_39 rfl ?_
        refine r_aload_n dX8_dearest_41 rfl ?_
        refine r_callV0 okX5_amount ⟨by decide, by decide⟩ ml_X8_77 (mX5_amount hmk) (by first | assumption | exact up_s _ _ _ | exact (up_n _ (by assumption)).trans (by assumption) | exact (up_n _ (by assumption)).trans (up_s _ _ _) | exact (up_n _ (by assumption)).trans ((up_n _ (by assumption)).trans (by assumption))) rfl rfl (Nat.le_of_ble_eq_true rfl) (Nat.le_of_ble_eq_true rfl) (Nat.le_of_ble_eq_true rfl) rfl dX8_dearest_42 (nx_I) (kx_I ?_)
        refine r_icmp_ge (tgt := 112) dX8_dearest_45 (by decide) (by omega) (by omega) (fun h45 => ?_) (fun h45 => ?_)
        ·
          refine r_iload_n dX8_dearest_112 rfl ?_
          refine r_if_ne (tgt := 121) dX8_dearest_113 (by decide) (by omega) (fun h113 => ?_) (fun h113 => ?_)
          ·
            refine r_iload dX8_dearest_121 rfl ?_
            refine e_ireturn dX8_dearest_123 rfl (Nat.le_of_ble_eq_true rfl) (Nat.le_of_ble_eq_true rfl) ?_
            exact okUX (by unfold e2; rw [if_pos hE1]; exact hE2) (by unfold drV; rw [if_neg (by omega), hd, show (n k - p).toNat = 0 by omega, drF]) ⟨hx1, hfr1⟩
          ·
            refine r_iload dX8_dearest_116 rfl ?_
            refine r_goto (tgt := 123) dX8_dearest_118 (by decide) ?_
            refine e_ireturn dX8_dearest_123 rfl (Nat.le_of_ble_eq_true rfl) (Nat.le_of_ble_eq_true rfl) ?_
            exact okUX (by unfold e2; rw [if_pos hE1]; exact hE2) (by unfold drV; rw [if_pos (by omega), hd, show (n k - p).toNat = 0 by omega, drF]) ⟨hx1, hfr1⟩
        ·
          refine r_aload_n dX8_dearest_48 rfl ?_
          refine r_iload dX8_dearest_49 rfl ?_
          refine r_callV1 okX5_at ⟨by decide, by decide⟩ ml_X8_160 (mX5_at hmk (by omega)) (by first | assumption | exact up_s _ _ _ | exact (up_n _ (by assumption)).trans (by assumption) | exact (up_n _ (by assumption)).trans (up_s _ _ _) | exact (up_n _ (by assumption)).trans ((up_n _ (by assumption)).trans (by assumption))) rfl rfl (Nat.le_of_ble_eq_true rfl) (Nat.le_of_ble_eq_true rfl) (Nat.le_of_ble_eq_true rfl) rfl dX8_dearest_51 (nx_I) (kx_I ?_)
          have hat := hmk.at p
          rw [atF_in hp0 (by omega)] at hat ⊢
          have hbd := hmk.2.2.2.2.2 p hp0 (by omega)
          refine r_istore dX8_dearest_54 (by decide) rfl ?_
          refine r_aload_n dX8_dearest_56 rfl ?_
          refine r_getfield clX8 6 (by decide) fl_X8_56 (by first | assumption | exact up_s _ _ _ | exact (up_n _ (by assumption)).trans (by assumption) | exact (up_n _ (by assumption)).trans (up_s _ _ _) | exact (up_n _ (by assumption)).trans ((up_n _ (by assumption)).trans (by assumption))) rfl dX8_dearest_57 ?_
          refine r_aload_n dX8_dearest_60 rfl ?_
          refine r_callV1 okX5_copyFrom ⟨by decide, by decide⟩ ml_X8_116 (mX5_copyFrom htr hmk ⟨hi.ne ⟨by omega, by omega⟩ ⟨by omega, by omega⟩ (by omega), hi.ne ⟨by omega, by omega⟩ ⟨by omega, by omega⟩ (by omega), hi.ne ⟨by omega, by omega⟩ ⟨by omega, by omega⟩ (by omega), hi.ne ⟨by omega, by omega⟩ ⟨by omega, by omega⟩ (by omega)⟩ (by omega)) (by first | assumption | exact up_s _ _ _ | exact (up_n _ (by assumption)).trans (by assumption) | exact (up_n _ (by assumption)).trans (up_s _ _ _) | exact (up_n _ (by assumption)).trans ((up_n _ (by assumption)).trans (by assumption))) rfl rfl (Nat.le_of_ble_eq_true rfl) (Nat.le_of_ble_eq_true rfl) (Nat.le_of_ble_eq_true rfl) rfl dX8_dearest_61 (nx_tV) (kx_tV ?_)
          intro M2 hM2
          have hx2 := hx1.goT hi hM2.1 hM2.2
          obtain ⟨h00, hst, hhs, hbf, hpw, hbw, hmw, ⟨tn, tF, htr⟩, ⟨wn, wF, hwi⟩⟩ := id hx2.1
          change StP _ ad 1 n F g at hst
          have hob1 := hst.1
          obtain ⟨hh_1, hh_2, hh_3, hh_4, hh_5, hho, -⟩ := id hhs
          have hob94 := hbf.1
          obtain ⟨⟨y1, y2, y3, y4, y5, y6, hob96⟩, -, -⟩ := id hpw
          obtain ⟨z1, z2, z3, hob99, -⟩ := id hbw
          obtain ⟨⟨u1, hob101⟩, -, -⟩ := id hmw
          have hob108 := htr.1
          have hob110 := hwi.1
          have hmk := hst.mb (k := k) (by omega) (by omega)
          have hmo := hmk.1
          have hmn : 0 ≤ n (k) ∧ n (k) ≤ 60 := by have h60 := hmk.2.2.2.1; have h59 := hmk.2.2.1; omega
          have htq := hM2.1
          have hob108 := htq.1
          refine r_aload_n dX8_dearest_64 rfl ?_
          refine r_getfield clX8 6 (by decide) fl_X8_56 (by first | assumption | exact up_s _ _ _ | exact (up_n _ (by assumption)).trans (by assumption) | exact (up_n _ (by assumption)).trans (up_s _ _ _) | exact (up_n _ (by assumption)).trans ((up_n _ (by assumption)).trans (by assumption))) rfl dX8_dearest_65 ?_
          refine r_iload dX8_dearest_68 rfl ?_
          refine r_iload dX8_dearest_70 rfl ?_
          refine r_callV2 okX5_cutOut ⟨by decide, by decide⟩ ml_X8_92 (mX5_cutOut htq (by omega) (by omega)) (by first | assumption | exact up_s _ _ _ | exact (up_n _ (by assumption)).trans (by assumption) | exact (up_n _ (by assumption)).trans (up_s _ _ _) | exact (up_n _ (by assumption)).trans ((up_n _ (by assumption)).trans (by assumption))) rfl rfl (Nat.le_of_ble_eq_true rfl) (Nat.le_of_ble_eq_true rfl) (Nat.le_of_ble_eq_true rfl) rfl dX8_dearest_72 (nx_tI) (kx_tI ?_)
          intro M3 hM3
          have hx3 := hx2.1.goT hi hM3.1 hM3.2
          obtain ⟨h00, hst, hhs, hbf, hpw, hbw, hmw, ⟨tn, tF, htr⟩, ⟨wn, wF, hwi⟩⟩ := id hx3.1
          change StP _ ad 1 n F g at hst
          have hob1 := hst.1
          obtain ⟨hh_1, hh_2, hh_3, hh_4, hh_5, hho, -⟩ := id hhs
          have hob94 := hbf.1
          obtain ⟨⟨y1, y2, y3, y4, y5, y6, hob96⟩, -, -⟩ := id hpw
          obtain ⟨z1, z2, z3, hob99, -⟩ := id hbw
          obtain ⟨⟨u1, hob101⟩, -, -⟩ := id hmw
          have hob108 := htr.1
          have hob110 := hwi.1
          have hmk := hst.mb (k := k) (by omega) (by omega)
          have hmo := hmk.1
          have hmn : 0 ≤ n (k) ∧ n (k) ≤ 60 := by have h60 := hmk.2.2.2.1; have h59 := hmk.2.2.1; omega
          have hob108 := hM3.1.1
          have htn := hM3.1.n0
          have htp := (cutP_r (F k p) (F k p) hmn.1 hmk.2.2.2.2.2).2.1
          refine r_popI dX8_dearest_75 ?_
          refine r_aload_n dX8_dearest_76 rfl ?_
          refine r_aload_n dX8_dearest_77 rfl ?_
          refine r_getfield clX8 6 (by decide) fl_X8_56 (by first | assumption | exact up_s _ _ _ | exact (up_n _ (by assumption)).trans (by assumption) | exact (up_n _ (by assumption)).trans (up_s _ _ _) | exact (up_n _ (by assumption)).trans ((up_n _ (by assumption)).trans (by assumption))) rfl dX8_dearest_78 ?_
          refine r_callV1 okX8_sizeOf ⟨by decide, by decide⟩ ml_X8_191 (mX8_sizeOf hx3.1 hv hi hM3.1) (by first | assumption | exact up_s _ _ _ | exact (up_n _ (by assumption)).trans (by assumption) | exact (up_n _ (by assumption)).trans (up_s _ _ _) | exact (up_n _ (by assumption)).trans ((up_n _ (by assumption)).trans (by assumption))) rfl rfl (Nat.le_of_ble_eq_true rfl) (Nat.le_of_ble_eq_true rfl) (Nat.le_of_ble_eq_true rfl) rfl dX8_dearest_81 (nx_I) (kx_I ?_)
          have hs1 := szF_r htn.1 (cutP (n k) (F k) (F k p) (F k p)).2 g
          have hsz : drS (n k) (F k) g p = szF (cutP (n k) (F k) (F k p) (F k p)).1 (cutP (n k) (F k) (F k p) (F k p)).2 g := rfl
          refine r_istore dX8_dearest_84 (by decide) rfl ?_
          refine r_iload dX8_dearest_86 rfl ?_
          refine r_if_eq (tgt := 98) dX8_dearest_88 (by decide) (by omega) (fun h88 => ?_) (fun h88 => ?_)
          ·
            refine r_iload dX8_dearest_98 rfl ?_
            refine r_istore dX8_dearest_100 (by decide) rfl ?_
            refine r_iload dX8_dearest_102 rfl ?_
            refine r_istore dX8_dearest_104 (by decide) rfl ?_
            refine r_iinc dX8_dearest_106 rfl rfl ?_
            refine r_goto (tgt := 39) dX8_dearest_109 (by decide) ?_
            refine J.loc (lsub_cons rfl (lsub_cons rfl (lsub_cons rfl (lsub_cons rfl (lsub_cons rfl (lsub_cons rfl (lsub_cons rfl (lsub_nil)))))))) (ih39 _ _ _ M3 ?_ ?_)
            · refine ⟨by omega, by omega, by omega, by omega, by omega, by omega, hx3.1, hfr1.trans (hx2.2.trans hx3.2), ?_⟩
              rw [hd, show (n k - p).toNat = (n k - (p + 1)).toNat + 1 by omega, drF, if_pos (Or.inl (by omega)), hsz]
            · omega
          ·
            refine r_iload dX8_dearest_91 rfl ?_
            refine r_iload dX8_dearest_93 rfl ?_
            refine r_icmp_ge (tgt := 106) dX8_dearest_95 (by decide) (by omega) (by omega) (fun h95 => ?_) (fun h95 => ?_)
            ·
              refine r_iinc dX8_dearest_106 rfl rfl ?_
              refine r_goto (tgt := 39) dX8_dearest_109 (by decide) ?_
              refine J.loc (lsub_cons rfl (lsub_cons rfl (lsub_cons rfl (lsub_cons rfl (lsub_cons rfl (lsub_cons rfl (lsub_cons rfl (lsub_nil)))))))) (ih39 _ _ _ M3 ?_ ?_)
              · refine ⟨by omega, by omega, by omega, by omega, by omega, by omega, hx3.1, hfr1.trans (hx2.2.trans hx3.2), ?_⟩
                rw [hd, show (n k - p).toNat = (n k - (p + 1)).toNat + 1 by omega, drF, if_neg (by omega)]
              · omega
            ·
              refine r_iload dX8_dearest_98 rfl ?_
              refine r_istore dX8_dearest_100 (by decide) rfl ?_
              refine r_iload dX8_dearest_102 rfl ?_
              refine r_istore dX8_dearest_104 (by decide) rfl ?_
              refine r_iinc dX8_dearest_106 rfl rfl ?_
              refine r_goto (tgt := 39) dX8_dearest_109 (by decide) ?_
              refine J.loc (lsub_cons rfl (lsub_cons rfl (lsub_cons rfl (lsub_cons rfl (lsub_cons rfl (lsub_cons rfl (lsub_cons rfl (lsub_nil)))))))) (ih39 _ _ _ M3 ?_ ?_)
              · refine ⟨by omega, by omega, by omega, by omega, by omega, by omega, hx3.1, hfr1.trans (hx2.2.trans hx3.2), ?_⟩
                rw [hd, show (n k - p).toNat = (n k - (p + 1)).toNat + 1 by omega, drF, if_pos (Or.inr (by omega)), hsz]
              · omega
      · exact ⟨by omega, by have := (hst.mb (k := k) (by omega) (by omega)).n0; omega, by omega, by omega, by omega, by omega, hx, FrI.rf, by simp⟩

set_option maxHeartbeats 4000000 in
theorem mX8_dearest_ok {M : Mem} {ad : Int → Nat} {n : Int → Int} {F : Int → Int → Int} {g : Int → Int} {m : Int} {S : Int → Sg3} {len : Int} {c : Int → Int} {k w : Int} {bc bs : Nat} (hx : XSt M ad (n, F, g) m S len c) (hv : Vld (n, F, g)) (hi : Inj ad) (q0 : R32 k) (q1 : R32 w) (hk9 : 0 ≤ k ∧ k < 4) (hq9 : w = 0 ∨ w = 1) : Ct KX8_dearest [.ref (ad 0), vI k, vI w] M bc bs (atI (drV (n k) (F k) g w) (fun M2 => XSt M2 ad (n, F, g) m S len c ∧ FrI ad 0 112 M M2)) := by
  refine Ct.of _ (by decide) rfl (Nat.le_of_ble_eq_true rfl) ?_
  obtain ⟨h00, hst, hhs, hbf, hpw, hbw, hmw, ⟨tn, tF, htr⟩, ⟨wn, wF, hwi⟩⟩ := id hx
  obtain ⟨hvs, hv0, hv1, hv2, hv3⟩ := id hv
  change StP _ ad 1 n F g at hst
  dsimp only at hvs hv0 hv1 hv2 hv3
  have hob1 := hst.1
  obtain ⟨hh_1, hh_2, hh_3, hh_4, hh_5, hho, -⟩ := id hhs
  have hob94 := hbf.1
  obtain ⟨⟨y1, y2, y3, y4, y5, y6, hob96⟩, -, -⟩ := id hpw
  obtain ⟨z1, z2, z3, hob99, -⟩ := id hbw
  obtain ⟨⟨u1, hob101⟩, -, -⟩ := id hmw
  have hob108 := htr.1
  have hob110 := hwi.1
  refine r_iload_n dX8_dearest_0 rfl ?_
  refine r_callS1 okX8_requireSet ⟨by decide, by decide⟩ ml_X8_63 (mX8_requireSet_ok (bc := 0) (bs := 0) hk9) (Nat.le_of_ble_eq_true rfl) (by omega) (by omega) rfl dX8_dearest_1 (nx_V) (kx_V ?_)
  refine r_iload_n dX8_dearest_4 rfl ?_
  refine r_if_eq (tgt := 13) dX8_dearest_5 (by decide) (by omega) (fun h5 => ?_) (fun h5 => ?_)
  ·
    refine r_iconst dX8_dearest_13 ?_
    refine r_goto (tgt := 18) dX8_dearest_14 (by decide) ?_
    refine r_callS1 okX8_requireArgument ⟨by decide, by decide⟩ ml_X8_96 (mX8_requireArgument_ok (bc := 0) (bs := 0) (by omega)) (Nat.le_of_ble_eq_true rfl) (by omega) (by omega) rfl dX8_dearest_18 (nx_V) (kx_V ?_)
    refine r_aload_n dX8_dearest_21 rfl ?_
    refine r_getfield clX8 0 (by decide) fl_X8_10 (by first | assumption | exact up_s _ _ _ | exact (up_n _ (by assumption)).trans (by assumption) | exact (up_n _ (by assumption)).trans (up_s _ _ _) | exact (up_n _ (by assumption)).trans ((up_n _ (by assumption)).trans (by assumption))) rfl dX8_dearest_22 ?_
    refine r_iload_n dX8_dearest_25 rfl ?_
    refine r_callV1 okX7_members ⟨by decide, by decide⟩ ml_X8_69 (mX7_members hst (k := k) (by omega) (by omega)) (by first | assumption | exact up_s _ _ _ | exact (up_n _ (by assumption)).trans (by assumption) | exact (up_n _ (by assumption)).trans (up_s _ _ _) | exact (up_n _ (by assumption)).trans ((up_n _ (by assumption)).trans (by assumption))) rfl rfl (Nat.le_of_ble_eq_true rfl) (by omega) (by omega) rfl dX8_dearest_26 (nx_A) (kx_A ?_)
    refine r_astore_n dX8_dearest_29 (by decide) rfl ?_
    have hmk := hst.mb (k := k) (by omega) (by omega)
    have hmo := hmk.1
    have hmn : 0 ≤ n (k) ∧ n (k) ≤ 60 := by have h60 := hmk.2.2.2.1; have h59 := hmk.2.2.1; omega
    refine r_iconst dX8_dearest_30 ?_
    refine r_istore dX8_dearest_31 (by decide) rfl ?_
    refine r_iconst dX8_dearest_33 ?_
    refine r_istore dX8_dearest_34 (by decide) rfl ?_
    refine r_iconst dX8_dearest_36 ?_
    refine r_istore dX8_dearest_37 (by decide) rfl ?_
    refine J.loc (L' := [(0, some _), (1, some _), (2, some _), (3, some _), (4, some _), (5, some _), (6, some _)]) (lsub_cons rfl (lsub_cons rfl (lsub_cons rfl (lsub_cons rfl (lsub_cons rfl (lsub_cons rfl (lsub_cons rfl (lsub_nil)))))))) (loop4 (fun (p : Int) (d : Int) (s : Int) (M1 : Mem) => 0 ≤ p ∧ p ≤ n k ∧ -1 ≤ d ∧ d ≤ 9999 ∧ -1 ≤ s ∧ s ≤ 900 ∧ XSt M1 ad (n, F, g) m S len c ∧ FrI ad 0 112 M M1 ∧ drF (n k) (F k) g (n k).toNat 0 (-1) (-1) = drF (n k) (F k) g (n k - p).toNat p d s) (fun (p : Int) (d : Int) (s : Int) (M1 : Mem) => (n k - p).toNat) (fun (p : Int) (d : Int) (s : Int) (M1 : Mem) => J KX8_dearest bc bs _ 39 [(0, some (.ref (ad 0))), (1, some (vI k)), (2, some (vI w)), (3, some (.ref (ad (1 + 2 + k)))), (4, some (vI d)), (5, some (vI s)), (6, some (vI p))] [] M1 _ _) (fun p d s M1 hI39 ih39 => ?_) _ _ _ M ?_)
    ·
      obtain ⟨hp0, hp1, hd0, hd1, hs0, hs9, hx1, hfr1, hd⟩ := hI39
      obtain ⟨h00, hst, hhs, hbf, hpw, hbw, hmw, ⟨tn, tF, htr⟩, ⟨wn, wF, hwi⟩⟩ := id hx1
      change StP _ ad 1 n F g at hst
      have hob1 := hst.1
      obtain ⟨hh_1, hh_2, hh_3, hh_4, hh_5, hho, -⟩ := id hhs
      have hob94 := hbf.1
      obtain ⟨⟨y1, y2, y3, y4, y5, y6, hob96⟩, -, -⟩ := id hpw
      obtain ⟨z1, z2, z3, hob99, -⟩ := id hbw
      obtain ⟨⟨u1, hob101⟩, -, -⟩ := id hmw
      have hob108 := htr.1
      have hob110 := hwi.1
      have hmk := hst.mb (k := k) (by omega) (by omega)
      have hmo := hmk.1
      have hmn : 0 ≤ n (k) ∧ n (k) ≤ 60 := by have h60 := hmk.2.2.2.1; have h59 := hmk.2.2.1; omega
      refine r_iload dX8_dearest_39 rfl ?_
      refine r_aload_n dX8_dearest_41 rfl ?_
      refine r_callV0 okX5_amount ⟨by decide, by decide⟩ ml_X8_77 (mX5_amount hmk) (by first | assumption | exact up_s _ _ _ | exact (up_n _ (by assumption)).trans (by assumption) | exact (up_n _ (by assumption)).trans (up_s _ _ _) | exact (up_n _ (by assumption)).trans ((up_n _ (by assumption)).trans (by assumption))) rfl rfl (Nat.le_of_ble_eq_true rfl) (by omega) (by omega) rfl dX8_dearest_42 (nx_I) (kx_I ?_)
      refine r_icmp_ge (tgt := 112) dX8_dearest_45 (by decide) (by omega) (by omega) (fun h45 => ?_) (fun h45 => ?_)
      ·
        refine r_iload_n dX8_dearest_112 rfl ?_
        refine r_if_ne (tgt := 121) dX8_dearest_113 (by decide) (by omega) (fun h113 => ?_) (fun h113 => ?_)
        ·
          refine r_iload dX8_dearest_121 rfl ?_
          refine e_ireturn dX8_dearest_123 rfl (by omega) (by omega) ?_
          exact oktI (by unfold drV; rw [if_neg (by omega), hd, show (n k - p).toNat = 0 by omega, drF]) ⟨hx1, hfr1⟩
        ·
          refine r_iload dX8_dearest_116 rfl ?_
          refine r_goto (tgt := 123) dX8_dearest_118 (by decide) ?_
          refine e_ireturn dX8_dearest_123 rfl (by omega) (by omega) ?_
          exact oktI (by unfold drV; rw [if_pos (by omega), hd, show (n k - p).toNat = 0 by omega, drF]) ⟨hx1, hfr1⟩
      ·
        refine r_aload_n dX8_dearest_48 rfl ?_
        refine r_iload dX8_dearest_49 rfl ?_
        refine r_callV1 okX5_at ⟨by decide, by decide⟩ ml_X8_160 (mX5_at hmk (by omega)) (by first | assumption | exact up_s _ _ _ | exact (up_n _ (by assumption)).trans (by assumption) | exact (up_n _ (by assumption)).trans (up_s _ _ _) | exact (up_n _ (by assumption)).trans ((up_n _ (by assumption)).trans (by assumption))) rfl rfl (Nat.le_of_ble_eq_true rfl) (by omega) (by omega) rfl dX8_dearest_51 (nx_I) (kx_I ?_)
        have hat := hmk.at p
        rw [atF_in hp0 (by omega)] at hat ⊢
        have hbd := hmk.2.2.2.2.2 p hp0 (by omega)
        refine r_istore dX8_dearest_54 (by decide) rfl ?_
        refine r_aload_n dX8_dearest_56 rfl ?_
        refine r_getfield clX8 6 (by decide) fl_X8_56 (by first | assumption | exact up_s _ _ _ | exact (up_n _ (by assumption)).trans (by assumption) | exact (up_n _ (by assumption)).trans (up_s _ _ _) | exact (up_n _ (by assumption)).trans ((up_n _ (by assumption)).trans (by assumption))) rfl dX8_dearest_57 ?_
        refine r_aload_n dX8_dearest_60 rfl ?_
        refine r_callV1 okX5_copyFrom ⟨by decide, by decide⟩ ml_X8_116 (mX5_copyFrom htr hmk ⟨hi.ne ⟨by omega, by omega⟩ ⟨by omega, by omega⟩ (by omega), hi.ne ⟨by omega, by omega⟩ ⟨by omega, by omega⟩ (by omega), hi.ne ⟨by omega, by omega⟩ ⟨by omega, by omega⟩ (by omega), hi.ne ⟨by omega, by omega⟩ ⟨by omega, by omega⟩ (by omega)⟩ (by omega)) (by first | assumption | exact up_s _ _ _ | exact (up_n _ (by assumption)).trans (by assumption) | exact (up_n _ (by assumption)).trans (up_s _ _ _) | exact (up_n _ (by assumption)).trans ((up_n _ (by assumption)).trans (by assumption))) rfl rfl (Nat.le_of_ble_eq_true rfl) (by omega) (by omega) rfl dX8_dearest_61 (nx_tV) (kx_tV ?_)
        intro M2 hM2
        have hx2 := hx1.goT hi hM2.1 hM2.2
        obtain ⟨h00, hst, hhs, hbf, hpw, hbw, hmw, ⟨tn, tF, htr⟩, ⟨wn, wF, hwi⟩⟩ := id hx2.1
        change StP _ ad 1 n F g at hst
        have hob1 := hst.1
        obtain ⟨hh_1, hh_2, hh_3, hh_4, hh_5, hho, -⟩ := id hhs
        have hob94 := hbf.1
        obtain ⟨⟨y1, y2, y3, y4, y5, y6, hob96⟩, -, -⟩ := id hpw
        obtain ⟨z1, z2, z3, hob99, -⟩ := id hbw
        obtain ⟨⟨u1, hob101⟩, -, -⟩ := id hmw
        have hob108 := htr.1
        have hob110 := hwi.1
        have hmk := hst.mb (k := k) (by omega) (by omega)
        have hmo := hmk.1
        have hmn : 0 ≤ n (k) ∧ n (k) ≤ 60 := by have h60 := hmk.2.2.2.1; have h59 := hmk.2.2.1; omega
        have htq := hM2.1
        have hob108 := htq.1
        refine r_aload_n dX8_dearest_64 rfl ?_
        refine r_getfield clX8 6 (by decide) fl_X8_56 (by first | assumption | exact up_s _ _ _ | exact (up_n _ (by assumption)).trans (by assumption) | exact (up_n _ (by assumption)).trans (up_s _ _ _) | exact (up_n _ (by assumption)).trans ((up_n _ (by assumption)).trans (by assumption))) rfl dX8_dearest_65 ?_
        refine r_iload dX8_dearest_68 rfl ?_
        refine r_iload dX8_dearest_70 rfl ?_
        refine r_callV2 okX5_cutOut ⟨by decide, by decide⟩ ml_X8_92 (mX5_cutOut htq (by omega) (by omega)) (by first | assumption | exact up_s _ _ _ | exact (up_n _ (by assumption)).trans (by assumption) | exact (up_n _ (by assumption)).trans (up_s _ _ _) | exact (up_n _ (by assumption)).trans ((up_n _ (by assumption)).trans (by assumption))) rfl rfl (Nat.le_of_ble_eq_true rfl) (by omega) (by omega) rfl dX8_dearest_72 (nx_tI) (kx_tI ?_)
        intro M3 hM3
        have hx3 := hx2.1.goT hi hM3.1 hM3.2
        obtain ⟨h00, hst, hhs, hbf, hpw, hbw, hmw, ⟨tn, tF, htr⟩, ⟨wn, wF, hwi⟩⟩ := id hx3.1
        change StP _ ad 1 n F g at hst
        have hob1 := hst.1
        obtain ⟨hh_1, hh_2, hh_3, hh_4, hh_5, hho, -⟩ := id hhs
        have hob94 := hbf.1
        obtain ⟨⟨y1, y2, y3, y4, y5, y6, hob96⟩, -, -⟩ := id hpw
        obtain ⟨z1, z2, z3, hob99, -⟩ := id hbw
        obtain ⟨⟨u1, hob101⟩, -, -⟩ := id hmw
        have hob108 := htr.1
        have hob110 := hwi.1
        have hmk := hst.mb (k := k) (by omega) (by omega)
        have hmo := hmk.1
        have hmn : 0 ≤ n (k) ∧ n (k) ≤ 60 := by have h60 := hmk.2.2.2.1; have h59 := hmk.2.2.1; omega
        have hob108 := hM3.1.1
        have htn := hM3.1.n0
        have htp := (cutP_r (F k p) (F k p) hmn.1 hmk.2.2.2.2.2).2.1
        refine r_popI dX8_dearest_75 ?_
        refine r_aload_n dX8_dearest_76 rfl ?_
        refine r_aload_n dX8_dearest_77 rfl ?_
        refine r_getfield clX8 6 (by decide) fl_X8_56 (by first | assumption | exact up_s _ _ _ | exact (up_n _ (by assumption)).trans (by assumption) | exact (up_n _ (by assumption)).trans (up_s _ _ _) | exact (up_n _ (by assumption)).trans ((up_n _ (by assumption)).trans (by assumption))) rfl dX8_dearest_78 ?_
        refine r_callV1 okX8_sizeOf ⟨by decide, by decide⟩ ml_X8_191 (mX8_sizeOf hx3.1 hv hi hM3.1) (by first | assumption | exact up_s _ _ _ | exact (up_n _ (by assumption)).trans (by assumption) | exact (up_n _ (by assumption)).trans (up_s _ _ _) | exact (up_n _ (by assumption)).trans ((up_n _ (by assumption)).trans (by assumption))) rfl rfl (Nat.le_of_ble_eq_true rfl) (by omega) (by omega) rfl dX8_dearest_81 (nx_I) (kx_I ?_)
        have hs1 := szF_r htn.1 (cutP (n k) (F k) (F k p) (F k p)).2 g
        have hsz : drS (n k) (F k) g p = szF (cutP (n k) (F k) (F k p) (F k p)).1 (cutP (n k) (F k) (F k p) (F k p)).2 g := rfl
        refine r_istore dX8_dearest_84 (by decide) rfl ?_
        refine r_iload dX8_dearest_86 rfl ?_
        refine r_if_eq (tgt := 98) dX8_dearest_88 (by decide) (by omega) (fun h88 => ?_) (fun h88 => ?_)
        ·
          refine r_iload dX8_dearest_98 rfl ?_
          refine r_istore dX8_dearest_100 (by decide) rfl ?_
          refine r_iload dX8_dearest_102 rfl ?_
          refine r_istore dX8_dearest_104 (by decide) rfl ?_
          refine r_iinc dX8_dearest_106 rfl rfl ?_
          refine r_goto (tgt := 39) dX8_dearest_109 (by decide) ?_
          refine J.loc (lsub_cons rfl (lsub_cons rfl (lsub_cons rfl (lsub_cons rfl (lsub_cons rfl (lsub_cons rfl (lsub_cons rfl (lsub_nil)))))))) (ih39 _ _ _ M3 ?_ ?_)
          · refine ⟨by omega, by omega, by omega, by omega, by omega, by omega, hx3.1, hfr1.trans (hx2.2.trans hx3.2), ?_⟩
            rw [hd, show (n k - p).toNat = (n k - (p + 1)).toNat + 1 by omega, drF, if_pos (Or.inl (by omega)), hsz]
          · omega
        ·
          refine r_iload dX8_dearest_91 rfl ?_
          refine r_iload dX8_dearest_93 rfl ?_
          refine r_icmp_ge (tgt := 106) dX8_dearest_95 (by decide) (by omega) (by omega) (fun h95 => ?_) (fun h95 => ?_)
          ·
            refine r_iinc dX8_dearest_106 rfl rfl ?_
            refine r_goto (tgt := 39) dX8_dearest_109 (by decide) ?_
            refine J.loc (lsub_cons rfl (lsub_cons rfl (lsub_cons rfl (lsub_cons rfl (lsub_cons rfl (lsub_cons rfl (lsub_cons rfl (lsub_nil)))))))) (ih39 _ _ _ M3 ?_ ?_)
            · refine ⟨by omega, by omega, by omega, by omega, by omega, by omega, hx3.1, hfr1.trans (hx2.2.trans hx3.2), ?_⟩
              rw [hd, show (n k - p).toNat = (n k - (p + 1)).toNat + 1 by omega, drF, if_neg (by omega)]
            · omega
          ·
            refine r_iload dX8_dearest_98 rfl ?_
            refine r_istore dX8_dearest_100 (by decide) rfl ?_
            refine r_iload dX8_dearest_102 rfl ?_
            refine r_istore dX8_dearest_104 (by decide) rfl ?_
            refine r_iinc dX8_dearest_106 rfl rfl ?_
            refine r_goto (tgt := 39) dX8_dearest_109 (by decide) ?_
            refine J.loc (lsub_cons rfl (lsub_cons rfl (lsub_cons rfl (lsub_cons rfl (lsub_cons rfl (lsub_cons rfl (lsub_cons rfl (lsub_nil)))))))) (ih39 _ _ _ M3 ?_ ?_)
            · refine ⟨by omega, by omega, by omega, by omega, by omega, by omega, hx3.1, hfr1.trans (hx2.2.trans hx3.2), ?_⟩
              rw [hd, show (n k - p).toNat = (n k - (p + 1)).toNat + 1 by omega, drF, if_pos (Or.inr (by omega)), hsz]
            · omega
    · exact ⟨by omega, by have := (hst.mb (k := k) (by omega) (by omega)).n0; omega, by omega, by omega, by omega, by omega, hx, FrI.rf, by simp⟩
  ·
    refine r_iload_n dX8_dearest_8 rfl ?_
    refine r_iconst dX8_dearest_9 ?_
    refine r_icmp_ne (tgt := 17) dX8_dearest_10 (by decide) (by omega) (by omega) (fun h10 => ?_) (fun h10 => ?_)
    ·
      refine r_iconst dX8_dearest_17 ?_
      refine r_callS1 okX8_requireArgument ⟨by decide, by decide⟩ ml_X8_96 (mX8_requireArgument_ok (bc := 0) (bs := 0) (by omega)) (Nat.le_of_ble_eq_true rfl) (by omega) (by omega) rfl dX8_dearest_18 (nx_V) (kx_V ?_)
      refine r_aload_n dX8_dearest_21 rfl ?_
      refine r_getfield clX8 0 (by decide) fl_X8_10 (by first | assumption | exact up_s _ _ _ | exact (up_n _ (by assumption)).trans (by assumption) | exact (up_n _ (by assumption)).trans (up_s _ _ _) | exact (up_n _ (by assumption)).trans ((up_n _ (by assumption)).trans (by assumption))) rfl dX8_dearest_22 ?_
      refine r_iload_n dX8_dearest_25 rfl ?_
      refine r_callV1 okX7_members ⟨by decide, by decide⟩ ml_X8_69 (mX7_members hst (k := k) (by omega) (by omega)) (by first | assumption | exact up_s _ _ _ | exact (up_n _ (by assumption)).trans (by assumption) | exact (up_n _ (by assumption)).trans (up_s _ _ _) | exact (up_n _ (by assumption)).trans ((up_n _ (by assumption)).trans (by assumption))) rfl rfl (Nat.le_of_ble_eq_true rfl) (by omega) (by omega) rfl dX8_dearest_26 (nx_A) (kx_A ?_)
      refine r_astore_n dX8_dearest_29 (by decide) rfl ?_
      have hmk := hst.mb (k := k) (by omega) (by omega)
      have hmo := hmk.1
      have hmn : 0 ≤ n (k) ∧ n (k) ≤ 60 := by have h60 := hmk.2.2.2.1; have h59 := hmk.2.2.1; omega
      refine r_iconst dX8_dearest_30 ?_
      refine r_istore dX8_dearest_31 (by decide) rfl ?_
      refine r_iconst dX8_dearest_33 ?_
      refine r_istore dX8_dearest_34 (by decide) rfl ?_
      refine r_iconst dX8_dearest_36 ?_
      refine r_istore dX8_dearest_37 (by decide) rfl ?_
      refine J.loc (L' := [(0, some _), (1, some _), (2, some _), (3, some _), (4, some _), (5, some _), (6, some _)]) (lsub_cons rfl (lsub_cons rfl (lsub_cons rfl (lsub_cons rfl (lsub_cons rfl (lsub_cons rfl (lsub_cons rfl (lsub_nil)))))))) (loop4 (fun (p : Int) (d : Int) (s : Int) (M1 : Mem) => 0 ≤ p ∧ p ≤ n k ∧ -1 ≤ d ∧ d ≤ 9999 ∧ -1 ≤ s ∧ s ≤ 900 ∧ XSt M1 ad (n, F, g) m S len c ∧ FrI ad 0 112 M M1 ∧ drF (n k) (F k) g (n k).toNat 0 (-1) (-1) = drF (n k) (F k) g (n k - p).toNat p d s) (fun (p : Int) (d : Int) (s : Int) (M1 : Mem) => (n k - p).toNat) (fun (p : Int) (d : Int) (s : Int) (M1 : Mem) => J KX8_dearest bc bs _ 39 [(0, some (.ref (ad 0))), (1, some (vI k)), (2, some (vI w)), (3, some (.ref (ad (1 + 2 + k)))), (4, some (vI d)), (5, some (vI s)), (6, some (vI p))] [] M1 _ _) (fun p d s M1 hI39 ih39 => ?_) _ _ _ M ?_)
      ·
        obtain ⟨hp0, hp1, hd0, hd1, hs0, hs9, hx1, hfr1, hd⟩ := hI39
        obtain ⟨h00, hst, hhs, hbf, hpw, hbw, hmw, ⟨tn, tF, htr⟩, ⟨wn, wF, hwi⟩⟩ := id hx1
        change StP _ ad 1 n F g at hst
        have hob1 := hst.1
        obtain ⟨hh_1, hh_2, hh_3, hh_4, hh_5, hho, -⟩ := id hhs
        have hob94 := hbf.1
        obtain ⟨⟨y1, y2, y3, y4, y5, y6, hob96⟩, -, -⟩ := id hpw
        obtain ⟨z1, z2, z3, hob99, -⟩ := id hbw
        obtain ⟨⟨u1, hob101⟩, -, -⟩ := id hmw
        have hob108 := htr.1
        have hob110 := hwi.1
        have hmk := hst.mb (k := k) (by omega) (by omega)
        have hmo := hmk.1
        have hmn : 0 ≤ n (k) ∧ n (k) ≤ 60 := by have h60 := hmk.2.2.2.1; have h59 := hmk.2.2.1; omega
        refine r_iload dX8_dearest_39 rfl ?_
        refine r_aload_n dX8_dearest_41 rfl ?_
        refine r_callV0 okX5_amount ⟨by decide, by decide⟩ ml_X8_77 (mX5_amount hmk) (by first | assumption | exact up_s _ _ _ | exact (up_n _ (by assumption)).trans (by assumption) | exact (up_n _ (by assumption)).trans (up_s _ _ _) | exact (up_n _ (by assumption)).trans ((up_n _ (by assumption)).trans (by assumption))) rfl rfl (Nat.le_of_ble_eq_true rfl) (by omega) (by omega) rfl dX8_dearest_42 (nx_I) (kx_I ?_)
        refine r_icmp_ge (tgt := 112) dX8_dearest_45 (by decide) (by omega) (by omega) (fun h45 => ?_) (fun h45 => ?_)
        ·
          refine r_iload_n dX8_dearest_112 rfl ?_
          refine r_if_ne (tgt := 121) dX8_dearest_113 (by decide) (by omega) (fun h113 => ?_) (fun h113 => ?_)
          ·
            refine r_iload dX8_dearest_121 rfl ?_
            refine e_ireturn dX8_dearest_123 rfl (by omega) (by omega) ?_
            exact oktI (by unfold drV; rw [if_neg (by omega), hd, show (n k - p).toNat = 0 by omega, drF]) ⟨hx1, hfr1⟩
          ·
            refine r_iload dX8_dearest_116 rfl ?_
            refine r_goto (tgt := 123) dX8_dearest_118 (by decide) ?_
            refine e_ireturn dX8_dearest_123 rfl (by omega) (by omega) ?_
            exact oktI (by unfold drV; rw [if_pos (by omega), hd, show (n k - p).toNat = 0 by omega, drF]) ⟨hx1, hfr1⟩
        ·
          refine r_aload_n dX8_dearest_48 rfl ?_
          refine r_iload dX8_dearest_49 rfl ?_
          refine r_callV1 okX5_at ⟨by decide, by decide⟩ ml_X8_160 (mX5_at hmk (by omega)) (by first | assumption | exact up_s _ _ _ | exact (up_n _ (by assumption)).trans (by assumption) | exact (up_n _ (by assumption)).trans (up_s _ _ _) | exact (up_n _ (by assumption)).trans ((up_n _ (by assumption)).trans (by assumption))) rfl rfl (Nat.le_of_ble_eq_true rfl) (by omega) (by omega) rfl dX8_dearest_51 (nx_I) (kx_I ?_)
          have hat := hmk.at p
          rw [atF_in hp0 (by omega)] at hat ⊢
          have hbd := hmk.2.2.2.2.2 p hp0 (by omega)
          refine r_istore dX8_dearest_54 (by decide) rfl ?_
          refine r_aload_n dX8_dearest_56 rfl ?_
          refine r_getfield clX8 6 (by decide) fl_X8_56 (by first | assumption | exact up_s _ _ _ | exact (up_n _ (by assumption)).trans (by assumption) | exact (up_n _ (by assumption)).trans (up_s _ _ _) | exact (up_n _ (by assumption)).trans ((up_n _ (by assumption)).trans (by assumption))) rfl dX8_dearest_57 ?_
          refine r_aload_n dX8_dearest_60 rfl ?_
          refine r_callV1 okX5_copyFrom ⟨by decide, by decide⟩ ml_X8_116 (mX5_copyFrom htr hmk ⟨hi.ne ⟨by omega, by omega⟩ ⟨by omega, by omega⟩ (by omega), hi.ne ⟨by omega, by omega⟩ ⟨by omega, by omega⟩ (by omega), hi.ne ⟨by omega, by omega⟩ ⟨by omega, by omega⟩ (by omega), hi.ne ⟨by omega, by omega⟩ ⟨by omega, by omega⟩ (by omega)⟩ (by omega)) (by first | assumption | exact up_s _ _ _ | exact (up_n _ (by assumption)).trans (by assumption) | exact (up_n _ (by assumption)).trans (up_s _ _ _) | exact (up_n _ (by assumption)).trans ((up_n _ (by assumption)).trans (by assumption))) rfl rfl (Nat.le_of_ble_eq_true rfl) (by omega) (by omega) rfl dX8_dearest_61 (nx_tV) (kx_tV ?_)
          intro M2 hM2
          have hx2 := hx1.goT hi hM2.1 hM2.2
          obtain ⟨h00, hst, hhs, hbf, hpw, hbw, hmw, ⟨tn, tF, htr⟩, ⟨wn, wF, hwi⟩⟩ := id hx2.1
          change StP _ ad 1 n F g at hst
          have hob1 := hst.1
          obtain ⟨hh_1, hh_2, hh_3, hh_4, hh_5, hho, -⟩ := id hhs
          have hob94 := hbf.1
          obtain ⟨⟨y1, y2, y3, y4, y5, y6, hob96⟩, -, -⟩ := id hpw
          obtain ⟨z1, z2, z3, hob99, -⟩ := id hbw
          obtain ⟨⟨u1, hob101⟩, -, -⟩ := id hmw
          have hob108 := htr.1
          have hob110 := hwi.1
          have hmk := hst.mb (k := k) (by omega) (by omega)
          have hmo := hmk.1
          have hmn : 0 ≤ n (k) ∧ n (k) ≤ 60 := by have h60 := hmk.2.2.2.1; have h59 := hmk.2.2.1; omega
          have htq := hM2.1
          have hob108 := htq.1
          refine r_aload_n dX8_dearest_64 rfl ?_
          refine r_getfield clX8 6 (by decide) fl_X8_56 (by first | assumption | exact up_s _ _ _ | exact (up_n _ (by assumption)).trans (by assumption) | exact (up_n _ (by assumption)).trans (up_s _ _ _) | exact (up_n _ (by assumption)).trans ((up_n _ (by assumption)).trans (by assumption))) rfl dX8_dearest_65 ?_
          refine r_iload dX8_dearest_68 rfl ?_
          refine r_iload dX8_dearest_70 rfl ?_
          refine r_callV2 okX5_cutOut ⟨by decide, by decide⟩ ml_X8_92 (mX5_cutOut htq (by omega) (by omega)) (by first | assumption | exact up_s _ _ _ | exact (up_n _ (by assumption)).trans (by assumption) | exact (up_n _ (by assumption)).trans (up_s _ _ _) | exact (up_n _ (by assumption)).trans ((up_n _ (by assumption)).trans (by assumption))) rfl rfl (Nat.le_of_ble_eq_true rfl) (by omega) (by omega) rfl dX8_dearest_72 (nx_tI) (kx_tI ?_)
          intro M3 hM3
          have hx3 := hx2.1.goT hi hM3.1 hM3.2
          obtain ⟨h00, hst, hhs, hbf, hpw, hbw, hmw, ⟨tn, tF, htr⟩, ⟨wn, wF, hwi⟩⟩ := id hx3.1
          change StP _ ad 1 n F g at hst
          have hob1 := hst.1
          obtain ⟨hh_1, hh_2, hh_3, hh_4, hh_5, hho, -⟩ := id hhs
          have hob94 := hbf.1
          obtain ⟨⟨y1, y2, y3, y4, y5, y6, hob96⟩, -, -⟩ := id hpw
          obtain ⟨z1, z2, z3, hob99, -⟩ := id hbw
          obtain ⟨⟨u1, hob101⟩, -, -⟩ := id hmw
          have hob108 := htr.1
          have hob110 := hwi.1
          have hmk := hst.mb (k := k) (by omega) (by omega)
          have hmo := hmk.1
          have hmn : 0 ≤ n (k) ∧ n (k) ≤ 60 := by have h60 := hmk.2.2.2.1; have h59 := hmk.2.2.1; omega
          have hob108 := hM3.1.1
          have htn := hM3.1.n0
          have htp := (cutP_r (F k p) (F k p) hmn.1 hmk.2.2.2.2.2).2.1
          refine r_popI dX8_dearest_75 ?_
          refine r_aload_n dX8_dearest_76 rfl ?_
          refine r_aload_n dX8_dearest_77 rfl ?_
          refine r_getfield clX8 6 (by decide) fl_X8_56 (by first | assumption | exact up_s _ _ _ | exact (up_n _ (by assumption)).trans (by assumption) | exact (up_n _ (by assumption)).trans (up_s _ _ _) | exact (up_n _ (by assumption)).trans ((up_n _ (by assumption)).trans (by assumption))) rfl dX8_dearest_78 ?_
          refine r_callV1 okX8_sizeOf ⟨by decide, by decide⟩ ml_X8_191 (mX8_sizeOf hx3.1 hv hi hM3.1) (by first | assumption | exact up_s _ _ _ | exact (up_n _ (by assumption)).trans (by assumption) | exact (up_n _ (by assumption)).trans (up_s _ _ _) | exact (up_n _ (by assumption)).trans ((up_n _ (by assumption)).trans (by assumption))) rfl rfl (Nat.le_of_ble_eq_true rfl) (by omega) (by omega) rfl dX8_dearest_81 (nx_I) (kx_I ?_)
          have hs1 := szF_r htn.1 (cutP (n k) (F k) (F k p) (F k p)).2 g
          have hsz : drS (n k) (F k) g p = szF (cutP (n k) (F k) (F k p) (F k p)).1 (cutP (n k) (F k) (F k p) (F k p)).2 g := rfl
          refine r_istore dX8_dearest_84 (by decide) rfl ?_
          refine r_iload dX8_dearest_86 rfl ?_
          refine r_if_eq (tgt := 98) dX8_dearest_88 (by decide) (by omega) (fun h88 => ?_) (fun h88 => ?_)
          ·
            refine r_iload dX8_dearest_98 rfl ?_
            refine r_istore dX8_dearest_100 (by decide) rfl ?_
            refine r_iload dX8_dearest_102 rfl ?_
            refine r_istore dX8_dearest_104 (by decide) rfl ?_
            refine r_iinc dX8_dearest_106 rfl rfl ?_
            refine r_goto (tgt := 39) dX8_dearest_109 (by decide) ?_
            refine J.loc (lsub_cons rfl (lsub_cons rfl (lsub_cons rfl (lsub_cons rfl (lsub_cons rfl (lsub_cons rfl (lsub_cons rfl (lsub_nil)))))))) (ih39 _ _ _ M3 ?_ ?_)
            · refine ⟨by omega, by omega, by omega, by omega, by omega, by omega, hx3.1, hfr1.trans (hx2.2.trans hx3.2), ?_⟩
              rw [hd, show (n k - p).toNat = (n k - (p + 1)).toNat + 1 by omega, drF, if_pos (Or.inl (by omega)), hsz]
            · omega
          ·
            refine r_iload dX8_dearest_91 rfl ?_
            refine r_iload dX8_dearest_93 rfl ?_
            refine r_icmp_ge (tgt := 106) dX8_dearest_95 (by decide) (by omega) (by omega) (fun h95 => ?_) (fun h95 => ?_)
            ·
              refine r_iinc dX8_dearest_106 rfl rfl ?_
              refine r_goto (tgt := 39) dX8_dearest_109 (by decide) ?_
              refine J.loc (lsub_cons rfl (lsub_cons rfl (lsub_cons rfl (lsub_cons rfl (lsub_cons rfl (lsub_cons rfl (lsub_cons rfl (lsub_nil)))))))) (ih39 _ _ _ M3 ?_ ?_)
              · refine ⟨by omega, by omega, by omega, by omega, by omega, by omega, hx3.1, hfr1.trans (hx2.2.trans hx3.2), ?_⟩
                rw [hd, show (n k - p).toNat = (n k - (p + 1)).toNat + 1 by omega, drF, if_neg (by omega)]
              · omega
            ·
              refine r_iload dX8_dearest_98 rfl ?_
              refine r_istore dX8_dearest_100 (by decide) rfl ?_
              refine r_iload dX8_dearest_102 rfl ?_
              refine r_istore dX8_dearest_104 (by decide) rfl ?_
              refine r_iinc dX8_dearest_106 rfl rfl ?_
              refine r_goto (tgt := 39) dX8_dearest_109 (by decide) ?_
              refine J.loc (lsub_cons rfl (lsub_cons rfl (lsub_cons rfl (lsub_cons rfl (lsub_cons rfl (lsub_cons rfl (lsub_cons rfl (lsub_nil)))))))) (ih39 _ _ _ M3 ?_ ?_)
              · refine ⟨by omega, by omega, by omega, by omega, by omega, by omega, hx3.1, hfr1.trans (hx2.2.trans hx3.2), ?_⟩
                rw [hd, show (n k - p).toNat = (n k - (p + 1)).toNat + 1 by omega, drF, if_pos (Or.inr (by omega)), hsz]
              · omega
      · exact ⟨by omega, by have := (hst.mb (k := k) (by omega) (by omega)).n0; omega, by omega, by omega, by omega, by omega, hx, FrI.rf, by simp⟩
    ·
      refine r_iconst dX8_dearest_13 ?_
      refine r_goto (tgt := 18) dX8_dearest_14 (by decide) ?_
      refine r_callS1 okX8_requireArgument ⟨by decide, by decide⟩ ml_X8_96 (mX8_requireArgument_ok (bc := 0) (bs := 0) (by omega)) (Nat.le_of_ble_eq_true rfl) (by omega) (by omega) rfl dX8_dearest_18 (nx_V) (kx_V ?_)
      refine r_aload_n dX8_dearest_21 rfl ?_
      refine r_getfield clX8 0 (by decide) fl_X8_10 (by first | assumption | exact up_s _ _ _ | exact (up_n _ (by assumption)).trans (by assumption) | exact (up_n _ (by assumption)).trans (up_s _ _ _) | exact (up_n _ (by assumption)).trans ((up_n _ (by assumption)).trans (by assumption))) rfl dX8_dearest_22 ?_
      refine r_iload_n dX8_dearest_25 rfl ?_
      refine r_callV1 okX7_members ⟨by decide, by decide⟩ ml_X8_69 (mX7_members hst (k := k) (by omega) (by omega)) (by first | assumption | exact up_s _ _ _ | exact (up_n _ (by assumption)).trans (by assumption) | exact (up_n _ (by assumption)).trans (up_s _ _ _) | exact (up_n _ (by assumption)).trans ((up_n _ (by assumption)).trans (by assumption))) rfl rfl (Nat.le_of_ble_eq_true rfl) (by omega) (by omega) rfl dX8_dearest_26 (nx_A) (kx_A ?_)
      refine r_astore_n dX8_dearest_29 (by decide) rfl ?_
      have hmk := hst.mb (k := k) (by omega) (by omega)
      have hmo := hmk.1
      have hmn : 0 ≤ n (k) ∧ n (k) ≤ 60 := by have h60 := hmk.2.2.2.1; have h59 := hmk.2.2.1; omega
      refine r_iconst dX8_dearest_30 ?_
      refine r_istore dX8_dearest_31 (by decide) rfl ?_
      refine r_iconst dX8_dearest_33 ?_
      refine r_istore dX8_dearest_34 (by decide) rfl ?_
      refine r_iconst dX8_dearest_36 ?_
      refine r_istore dX8_dearest_37 (by decide) rfl ?_
      refine J.loc (L' := [(0, some _), (1, some _), (2, some _), (3, some _), (4, some _), (5, some _), (6, some _)]) (lsub_cons rfl (lsub_cons rfl (lsub_cons rfl (lsub_cons rfl (lsub_cons rfl (lsub_cons rfl (lsub_cons rfl (lsub_nil)))))))) (loop4 (fun (p : Int) (d : Int) (s : Int) (M1 : Mem) => 0 ≤ p ∧ p ≤ n k ∧ -1 ≤ d ∧ d ≤ 9999 ∧ -1 ≤ s ∧ s ≤ 900 ∧ XSt M1 ad (n, F, g) m S len c ∧ FrI ad 0 112 M M1 ∧ drF (n k) (F k) g (n k).toNat 0 (-1) (-1) = drF (n k) (F k) g (n k - p).toNat p d s) (fun (p : Int) (d : Int) (s : Int) (M1 : Mem) => (n k - p).toNat) (fun (p : Int) (d : Int) (s : Int) (M1 : Mem) => J KX8_dearest bc bs _ 39 [(0, some (.ref (ad 0))), (1, some (vI k)), (2, some (vI w)), (3, some (.ref (ad (1 + 2 + k)))), (4, some (vI d)), (5, some (vI s)), (6, some (vI p))] [] M1 _ _) (fun p d s M1 hI39 ih39 => ?_) _ _ _ M ?_)
      ·
        obtain ⟨hp0, hp1, hd0, hd1, hs0, hs9, hx1, hfr1, hd⟩ := hI39
        obtain ⟨h00, hst, hhs, hbf, hpw, hbw, hmw, ⟨tn, tF, htr⟩, ⟨wn, wF, hwi⟩⟩ := id hx1
        change StP _ ad 1 n F g at hst
        have hob1 := hst.1
        obtain ⟨hh_1, hh_2, hh_3, hh_4, hh_5, hho, -⟩ := id hhs
        have hob94 := hbf.1
        obtain ⟨⟨y1, y2, y3, y4, y5, y6, hob96⟩, -, -⟩ := id hpw
        obtain ⟨z1, z2, z3, hob99, -⟩ := id hbw
        obtain ⟨⟨u1, hob101⟩, -, -⟩ := id hmw
        have hob108 := htr.1
        have hob110 := hwi.1
        have hmk := hst.mb (k := k) (by omega) (by omega)
        have hmo := hmk.1
        have hmn : 0 ≤ n (k) ∧ n (k) ≤ 60 := by have h60 := hmk.2.2.2.1; have h59 := hmk.2.2.1; omega
        refine r_iload dX8_dearest_39 rfl ?_
        refine r_aload_n dX8_dearest_41 rfl ?_
        refine r_callV0 okX5_amount ⟨by decide, by decide⟩ ml_X8_77 (mX5_amount hmk) (by first | assumption | exact up_s _ _ _ | exact (up_n _ (by assumption)).trans (by assumption) | exact (up_n _ (by assumption)).trans (up_s _ _ _) | exact (up_n _ (by assumption)).trans ((up_n _ (by assumption)).trans (by assumption))) rfl rfl (Nat.le_of_ble_eq_true rfl) (by omega) (by omega) rfl dX8_dearest_42 (nx_I) (kx_I ?_)
        refine r_icmp_ge (tgt := 112) dX8_dearest_45 (by decide) (by omega) (by omega) (fun h45 => ?_) (fun h45 => ?_)
        ·
          refine r_iload_n dX8_dearest_112 rfl ?_
          refine r_if_ne (tgt := 121) dX8_dearest_113 (by decide) (by omega) (fun h113 => ?_) (fun h113 => ?_)
          ·
            refine r_iload dX8_dearest_121 rfl ?_
            refine e_ireturn dX8_dearest_123 rfl (by omega) (by omega) ?_
            exact oktI (by unfold drV; rw [if_neg (by omega), hd, show (n k - p).toNat = 0 by omega, drF]) ⟨hx1, hfr1⟩
          ·
            refine r_iload dX8_dearest_116 rfl ?_
            refine r_goto (tgt := 123) dX8_dearest_118 (by decide) ?_
            refine e_ireturn dX8_dearest_123 rfl (by omega) (by omega) ?_
            exact oktI (by unfold drV; rw [if_pos (by omega), hd, show (n k - p).toNat = 0 by omega, drF]) ⟨hx1, hfr1⟩
        ·
          refine r_aload_n dX8_dearest_48 rfl ?_
          refine r_iload dX8_dearest_49 rfl ?_
          refine r_callV1 okX5_at ⟨by decide, by decide⟩ ml_X8_160 (mX5_at hmk (by omega)) (by first | assumption | exact up_s _ _ _ | exact (up_n _ (by assumption)).trans (by assumption) | exact (up_n _ (by assumption)).trans (up_s _ _ _) | exact (up_n _ (by assumption)).trans ((up_n _ (by assumption)).trans (by assumption))) rfl rfl (Nat.le_of_ble_eq_true rfl) (by omega) (by omega) rfl dX8_dearest_51 (nx_I) (kx_I ?_)
          have hat := hmk.at p
          rw [atF_in hp0 (by omega)] at hat ⊢
          have hbd := hmk.2.2.2.2.2 p hp0 (by omega)
          refine r_istore dX8_dearest_54 (by decide) rfl ?_
          refine r_aload_n dX8_dearest_56 rfl ?_
          refine r_getfield clX8 6 (by decide) fl_X8_56 (by first | assumption | exact up_s _ _ _ | exact (up_n _ (by assumption)).trans (by assumption) | exact (up_n _ (by assumption)).trans (up_s _ _ _) | exact (up_n _ (by assumption)).trans ((up_n _ (by assumption)).trans (by assumption))) rfl dX8_dearest_57 ?_
          refine r_aload_n dX8_dearest_60 rfl ?_
          refine r_callV1 okX5_copyFrom ⟨by decide, by decide⟩ ml_X8_116 (mX5_copyFrom htr hmk ⟨hi.ne ⟨by omega, by omega⟩ ⟨by omega, by omega⟩ (by omega), hi.ne ⟨by omega, by omega⟩ ⟨by omega, by omega⟩ (by omega), hi.ne ⟨by omega, by omega⟩ ⟨by omega, by omega⟩ (by omega), hi.ne ⟨by omega, by omega⟩ ⟨by omega, by omega⟩ (by omega)⟩ (by omega)) (by first | assumption | exact up_s _ _ _ | exact (up_n _ (by assumption)).trans (by assumption) | exact (up_n _ (by assumption)).trans (up_s _ _ _) | exact (up_n _ (by assumption)).trans ((up_n _ (by assumption)).trans (by assumption))) rfl rfl (Nat.le_of_ble_eq_true rfl) (by omega) (by omega) rfl dX8_dearest_61 (nx_tV) (kx_tV ?_)
          intro M2 hM2
          have hx2 := hx1.goT hi hM2.1 hM2.2
          obtain ⟨h00, hst, hhs, hbf, hpw, hbw, hmw, ⟨tn, tF, htr⟩, ⟨wn, wF, hwi⟩⟩ := id hx2.1
          change StP _ ad 1 n F g at hst
          have hob1 := hst.1
          obtain ⟨hh_1, hh_2, hh_3, hh_4, hh_5, hho, -⟩ := id hhs
          have hob94 := hbf.1
          obtain ⟨⟨y1, y2, y3, y4, y5, y6, hob96⟩, -, -⟩ := id hpw
          obtain ⟨z1, z2, z3, hob99, -⟩ := id hbw
          obtain ⟨⟨u1, hob101⟩, -, -⟩ := id hmw
          have hob108 := htr.1
          have hob110 := hwi.1
          have hmk := hst.mb (k := k) (by omega) (by omega)
          have hmo := hmk.1
          have hmn : 0 ≤ n (k) ∧ n (k) ≤ 60 := by have h60 := hmk.2.2.2.1; have h59 := hmk.2.2.1; omega
          have htq := hM2.1
          have hob108 := htq.1
          refine r_aload_n dX8_dearest_64 rfl ?_
          refine r_getfield clX8 6 (by decide) fl_X8_56 (by first | assumption | exact up_s _ _ _ | exact (up_n _ (by assumption)).trans (by assumption) | exact (up_n _ (by assumption)).trans (up_s _ _ _) | exact (up_n _ (by assumption)).trans ((up_n _ (by assumption)).trans (by assumption))) rfl dX8_dearest_65 ?_
          refine r_iload dX8_dearest_68 rfl ?_
          refine r_iload dX8_dearest_70 rfl ?_
          refine r_callV2 okX5_cutOut ⟨by decide, by decide⟩ ml_X8_92 (mX5_cutOut htq (by omega) (by omega)) (by first | assumption | exact up_s _ _ _ | exact (up_n _ (by assumption)).trans (by assumption) | exact (up_n _ (by assumption)).trans (up_s _ _ _) | exact (up_n _ (by assumption)).trans ((up_n _ (by assumption)).trans (by assumption))) rfl rfl (Nat.le_of_ble_eq_true rfl) (by omega) (by omega) rfl dX8_dearest_72 (nx_tI) (kx_tI ?_)
          intro M3 hM3
          have hx3 := hx2.1.goT hi hM3.1 hM3.2
          obtain ⟨h00, hst, hhs, hbf, hpw, hbw, hmw, ⟨tn, tF, htr⟩, ⟨wn, wF, hwi⟩⟩ := id hx3.1
          change StP _ ad 1 n F g at hst
          have hob1 := hst.1
          obtain ⟨hh_1, hh_2, hh_3, hh_4, hh_5, hho, -⟩ := id hhs
          have hob94 := hbf.1
          obtain ⟨⟨y1, y2, y3, y4, y5, y6, hob96⟩, -, -⟩ := id hpw
          obtain ⟨z1, z2, z3, hob99, -⟩ := id hbw
          obtain ⟨⟨u1, hob101⟩, -, -⟩ := id hmw
          have hob108 := htr.1
          have hob110 := hwi.1
          have hmk := hst.mb (k := k) (by omega) (by omega)
          have hmo := hmk.1
          have hmn : 0 ≤ n (k) ∧ n (k) ≤ 60 := by have h60 := hmk.2.2.2.1; have h59 := hmk.2.2.1; omega
          have hob108 := hM3.1.1
          have htn := hM3.1.n0
          have htp := (cutP_r (F k p) (F k p) hmn.1 hmk.2.2.2.2.2).2.1
          refine r_popI dX8_dearest_75 ?_
          refine r_aload_n dX8_dearest_76 rfl ?_
          refine r_aload_n dX8_dearest_77 rfl ?_
          refine r_getfield clX8 6 (by decide) fl_X8_56 (by first | assumption | exact up_s _ _ _ | exact (up_n _ (by assumption)).trans (by assumption) | exact (up_n _ (by assumption)).trans (up_s _ _ _) | exact (up_n _ (by assumption)).trans ((up_n _ (by assumption)).trans (by assumption))) rfl dX8_dearest_78 ?_
          refine r_callV1 okX8_sizeOf ⟨by decide, by decide⟩ ml_X8_191 (mX8_sizeOf hx3.1 hv hi hM3.1) (by first | assumption | exact up_s _ _ _ | exact (up_n _ (by assumption)).trans (by assumption) | exact (up_n _ (by assumption)).trans (up_s _ _ _) | exact (up_n _ (by assumption)).trans ((up_n _ (by assumption)).trans (by assumption))) rfl rfl (Nat.le_of_ble_eq_true rfl) (by omega) (by omega) rfl dX8_dearest_81 (nx_I) (kx_I ?_)
          have hs1 := szF_r htn.1 (cutP (n k) (F k) (F k p) (F k p)).2 g
          have hsz : drS (n k) (F k) g p = szF (cutP (n k) (F k) (F k p) (F k p)).1 (cutP (n k) (F k) (F k p) (F k p)).2 g := rfl
          refine r_istore dX8_dearest_84 (by decide) rfl ?_
          refine r_iload dX8_dearest_86 rfl ?_
          refine r_if_eq (tgt := 98) dX8_dearest_88 (by decide) (by omega) (fun h88 => ?_) (fun h88 => ?_)
          ·
            refine r_iload dX8_dearest_98 rfl ?_
            refine r_istore dX8_dearest_100 (by decide) rfl ?_
            refine r_iload dX8_dearest_102 rfl ?_
            refine r_istore dX8_dearest_104 (by decide) rfl ?_
            refine r_iinc dX8_dearest_106 rfl rfl ?_
            refine r_goto (tgt := 39) dX8_dearest_109 (by decide) ?_
            refine J.loc (lsub_cons rfl (lsub_cons rfl (lsub_cons rfl (lsub_cons rfl (lsub_cons rfl (lsub_cons rfl (lsub_cons rfl (lsub_nil)))))))) (ih39 _ _ _ M3 ?_ ?_)
            · refine ⟨by omega, by omega, by omega, by omega, by omega, by omega, hx3.1, hfr1.trans (hx2.2.trans hx3.2), ?_⟩
              rw [hd, show (n k - p).toNat = (n k - (p + 1)).toNat + 1 by omega, drF, if_pos (Or.inl (by omega)), hsz]
            · omega
          ·
            refine r_iload dX8_dearest_91 rfl ?_
            refine r_iload dX8_dearest_93 rfl ?_
            refine r_icmp_ge (tgt := 106) dX8_dearest_95 (by decide) (by omega) (by omega) (fun h95 => ?_) (fun h95 => ?_)
            ·
              refine r_iinc dX8_dearest_106 rfl rfl ?_
              refine r_goto (tgt := 39) dX8_dearest_109 (by decide) ?_
              refine J.loc (lsub_cons rfl (lsub_cons rfl (lsub_cons rfl (lsub_cons rfl (lsub_cons rfl (lsub_cons rfl (lsub_cons rfl (lsub_nil)))))))) (ih39 _ _ _ M3 ?_ ?_)
              · refine ⟨by omega, by omega, by omega, by omega, by omega, by omega, hx3.1, hfr1.trans (hx2.2.trans hx3.2), ?_⟩
                rw [hd, show (n k - p).toNat = (n k - (p + 1)).toNat + 1 by omega, drF, if_neg (by omega)]
              · omega
            ·
              refine r_iload dX8_dearest_98 rfl ?_
              refine r_istore dX8_dearest_100 (by decide) rfl ?_
              refine r_iload dX8_dearest_102 rfl ?_
              refine r_istore dX8_dearest_104 (by decide) rfl ?_
              refine r_iinc dX8_dearest_106 rfl rfl ?_
              refine r_goto (tgt := 39) dX8_dearest_109 (by decide) ?_
              refine J.loc (lsub_cons rfl (lsub_cons rfl (lsub_cons rfl (lsub_cons rfl (lsub_cons rfl (lsub_cons rfl (lsub_cons rfl (lsub_nil)))))))) (ih39 _ _ _ M3 ?_ ?_)
              · refine ⟨by omega, by omega, by omega, by omega, by omega, by omega, hx3.1, hfr1.trans (hx2.2.trans hx3.2), ?_⟩
                rw [hd, show (n k - p).toNat = (n k - (p + 1)).toNat + 1 by omega, drF, if_pos (Or.inr (by omega)), hsz]
              · omega
      · exact ⟨by omega, by have := (hst.mb (k := k) (by omega) (by omega)).n0; omega, by omega, by omega, by omega, by omega, hx, FrI.rf, by simp⟩

set_option maxHeartbeats 4000000 in
theorem mX8_bestWidth {M : Mem} {ad : Int → Nat} {n : Int → Int} {F : Int → Int → Int} {g : Int → Int} {m : Int} {S : Int → Sg3} {len : Int} {c : Int → Int} (hx : XSt M ad (n, F, g) m S len c) (hv : Vld (n, F, g)) (hi : Inj ad) : Ct KX8_bestWidth [.ref (ad 0)] M 0 0 (atI (bwV n F g) (fun M2 => XSt M2 ad (n, F, g) m S len c ∧ FrI ad 0 112 M M2)) := by
  refine Ct.of _ (by decide) rfl (Nat.le_of_ble_eq_true rfl) ?_
  obtain ⟨h00, hst, hhs, hbf, hpw, hbw, hmw, ⟨tn, tF, htr⟩, ⟨wn, wF, hwi⟩⟩ := id hx
  obtain ⟨hvs, hv0, hv1, hv2, hv3⟩ := id hv
  change StP _ ad 1 n F g at hst
  dsimp only at hvs hv0 hv1 hv2 hv3
  have hob1 := hst.1
  obtain ⟨hh_1, hh_2, hh_3, hh_4, hh_5, hho, -⟩ := id hhs
  have hob94 := hbf.1
  obtain ⟨⟨y1, y2, y3, y4, y5, y6, hob96⟩, -, -⟩ := id hpw
  obtain ⟨z1, z2, z3, hob99, -⟩ := id hbw
  obtain ⟨⟨u1, hob101⟩, -, -⟩ := id hmw
  have hob108 := htr.1
  have hob110 := hwi.1
  refine r_aload_n dX8_bestWidth_0 rfl ?_
  refine r_callV0 okX8_gatherWidths ⟨by decide, by decide⟩ ml_X8_229 (mX8_gatherWidths hx hv hi) (by first | assumption | exact up_s _ _ _ | exact (up_n _ (by assumption)).trans (by assumption) | exact (up_n _ (by assumption)).trans (up_s _ _ _) | exact (up_n _ (by assumption)).trans ((up_n _ (by assumption)).trans (by assumption))) rfl rfl (Nat.le_of_ble_eq_true rfl) (Nat.le_of_ble_eq_true rfl) (Nat.le_of_ble_eq_true rfl) rfl dX8_bestWidth_1 (nx_tV) (kx_tV ?_)
  intro M2 hM2
  obtain ⟨h00, hst, hhs, hbf, hpw, hbw, hmw, ⟨tn, tF, htr⟩, ⟨wn, wF, hwi⟩⟩ := id hM2.1
  change StP _ ad 1 n F g at hst
  have hob1 := hst.1
  obtain ⟨hh_1, hh_2, hh_3, hh_4, hh_5, hho, -⟩ := id hhs
  have hob94 := hbf.1
  obtain ⟨⟨y1, y2, y3, y4, y5, y6, hob96⟩, -, -⟩ := id hpw
  obtain ⟨z1, z2, z3, hob99, -⟩ := id hbw
  obtain ⟨⟨u1, hob101⟩, -, -⟩ := id hmw
  have hob108 := htr.1
  have hob110 := hwi.1
  have hw2 := hM2.2.1
  have hob110 := hw2.1
  have hwn := hw2.n0
  have hsa : ∀ w, 0 ≤ szA n F g w ∧ szA n F g w ≤ 3600 := szA_r (fun j a b => (hst.mb (k := j) a b).n0)
  have hs1 := hsa 1
  refine r_iconst dX8_bestWidth_4 ?_
  refine r_istore_n dX8_bestWidth_5 (by decide) rfl ?_
  refine r_aload_n dX8_bestWidth_6 rfl ?_
  refine r_iconst dX8_bestWidth_7 ?_
  refine r_callV1 okX8_allSizes ⟨by decide, by decide⟩ ml_X8_217 (mX8_allSizes hM2.1 hv hi (by omega)) (by first | assumption | exact up_s _ _ _ | exact (up_n _ (by assumption)).trans (by assumption) | exact (up_n _ (by assumption)).trans (up_s _ _ _) | exact (up_n _ (by assumption)).trans ((up_n _ (by assumption)).trans (by assumption))) rfl rfl (Nat.le_of_ble_eq_true rfl) (Nat.le_of_ble_eq_true rfl) (Nat.le_of_ble_eq_true rfl) rfl dX8_bestWidth_8 (nx_I) (kx_I ?_)
  refine r_istore_n dX8_bestWidth_11 (by decide) rfl ?_
  refine r_iconst dX8_bestWidth_12 ?_
  refine r_istore_n dX8_bestWidth_13 (by decide) rfl ?_
  refine J.loc (L' := [(0, some _), (1, some _), (2, some _), (3, some _)]) (lsub_cons rfl (lsub_cons rfl (lsub_cons rfl (lsub_cons rfl (lsub_nil))))) (loop3 (fun (p : Int) (b : Int) (s : Int) => 1 ≤ p ∧ (p ≤ (gwF n F).1 ∨ p = 1) ∧ 0 ≤ s ∧ s ≤ 3600 ∧ bwV n F g = bwF (gwF n F).2 (szA n F g) ((gwF n F).1 - p).toNat p b s) (fun (p : Int) (b : Int) (s : Int) => ((gwF n F).1 - p).toNat) (fun (p : Int) (b : Int) (s : Int) => J KX8_bestWidth 0 0 _ 14 [(0, some (.ref (ad 0))), (1, some (vI b)), (2, some (vI s)), (3, some (vI p))] [] M2 _ _) (fun p b s hI14 ih14 => ?_) _ _ _ ?_)
  ·
    obtain ⟨hp0, hp1, hs0, hs9, hb⟩ := hI14
    refine r_iload_n dX8_bestWidth_14 rfl ?_
    refine r_aload_n dX8_bestWidth_15 rfl ?_
    refine r_getfield clX8 7 (by decide) fl_X8_60 (by first | assumption | exact up_s _ _ _ | exact (up_n _ (by assumption)).trans (by assumption) | exact (up_n _ (by assumption)).trans (up_s _ _ _) | exact (up_n _ (by assumption)).trans ((up_n _ (by assumption)).trans (by assumption))) rfl dX8_bestWidth_16 ?_
    refine r_callV0 okX5_amount ⟨by decide, by decide⟩ ml_X8_77 (mX5_amount hw2) (by first | assumption | exact up_s _ _ _ | exact (up_n _ (by assumption)).trans (by assumption) | exact (up_n _ (by assumption)).trans (up_s _ _ _) | exact (up_n _ (by assumption)).trans ((up_n _ (by assumption)).trans (by assumption))) rfl rfl (Nat.le_of_ble_eq_true rfl) (Nat.le_of_ble_eq_true rfl) (Nat.le_of_ble_eq_true rfl) rfl dX8_bestWidth_19 (nx_I) (kx_I ?_)
    refine r_icmp_ge (tgt := 63) dX8_bestWidth_22 (by decide) (by omega) (by omega) (fun h22 => ?_) (fun h22 => ?_)
    ·
      refine r_iload_n dX8_bestWidth_63 rfl ?_
      refine e_ireturn dX8_bestWidth_64 rfl (Nat.le_of_ble_eq_true rfl) (Nat.le_of_ble_eq_true rfl) ?_
      exact oktI (by rw [hb, show ((gwF n F).1 - p).toNat = 0 by omega, bwF]) ⟨hM2.1, hM2.2.2⟩
    ·
      refine r_aload_n dX8_bestWidth_25 rfl ?_
      refine r_aload_n dX8_bestWidth_26 rfl ?_
      refine r_getfield clX8 7 (by decide) fl_X8_60 (by first | assumption | exact up_s _ _ _ | exact (up_n _ (by assumption)).trans (by assumption) | exact (up_n _ (by assumption)).trans (up_s _ _ _) | exact (up_n _ (by assumption)).trans ((up_n _ (by assumption)).trans (by assumption))) rfl dX8_bestWidth_27 ?_
      refine r_iload_n dX8_bestWidth_30 rfl ?_
      refine r_callV1 okX5_at ⟨by decide, by decide⟩ ml_X8_160 (mX5_at hw2 (by omega)) (by first | assumption | exact up_s _ _ _ | exact (up_n _ (by assumption)).trans (by assumption) | exact (up_n _ (by assumption)).trans (up_s _ _ _) | exact (up_n _ (by assumption)).trans ((up_n _ (by assumption)).trans (by assumption))) rfl rfl (Nat.le_of_ble_eq_true rfl) (Nat.le_of_ble_eq_true rfl) (Nat.le_of_ble_eq_true rfl) rfl dX8_bestWidth_31 (nx_I) (kx_I ?_)
      have hat := hw2.at p
      rw [atF_in (by omega) (by omega)] at hat ⊢
      have hs2 := hsa ((gwF n F).2 p)
      refine r_callV1 okX8_allSizes ⟨by decide, by decide⟩ ml_X8_217 (mX8_allSizes hM2.1 hv hi (by omega)) (by first | assumption | exact up_s _ _ _ | exact (up_n _ (by assumption)).trans (by assumption) | exact (up_n _ (by assumption)).trans (up_s _ _ _) | exact (up_n _ (by assumption)).trans ((up_n _ (by assumption)).trans (by assumption))) rfl rfl (Nat.le_of_ble_eq_true rfl) (Nat.le_of_ble_eq_true rfl) (Nat.le_of_ble_eq_true rfl) rfl dX8_bestWidth_34 (nx_I) (kx_I ?_)
      refine r_istore dX8_bestWidth_37 (by decide) rfl ?_
      refine r_iload dX8_bestWidth_39 rfl ?_
      refine r_iload_n dX8_bestWidth_41 rfl ?_
      refine r_icmp_ge (tgt := 57) dX8_bestWidth_42 (by decide) (by omega) (by omega) (fun h42 => ?_) (fun h42 => ?_)
      ·
        refine r_iinc dX8_bestWidth_57 rfl rfl ?_
        refine r_goto (tgt := 14) dX8_bestWidth_60 (by decide) ?_
        refine J.loc (lsub_cons rfl (lsub_cons rfl (lsub_cons rfl (lsub_cons rfl (lsub_nil))))) (ih14 _ _ _ ?_ ?_)
        · refine ⟨by omega, by omega, by omega, by omega, ?_⟩
          rw [hb, show ((gwF n F).1 - p).toNat = ((gwF n F).1 - (p + 1)).toNat + 1 by omega, bwF, if_neg (by omega)]
        · omega
      ·
        refine r_aload_n dX8_bestWidth_45 rfl ?_
        refine r_getfield clX8 7 (by decide) fl_X8_60 (by first | assumption | exact up_s _ _ _ | exact (up_n _ (by assumption)).trans (by assumption) | exact (up_n _ (by assumption)).trans (up_s _ _ _) | exact (up_n _ (by assumption)).trans ((up_n _ (by assumption)).trans (by assumption))) rfl dX8_bestWidth_46 ?_
        refine r_iload_n dX8_bestWidth_49 rfl ?_
        refine r_callV1 okX5_at ⟨by decide, by decide⟩ ml_X8_160 (mX5_at hw2 (by omega)) (by first | assumption | exact up_s _ _ _ | exact (up_n _ (by assumption)).trans (by assumption) | exact (up_n _ (by assumption)).trans (up_s _ _ _) | exact (up_n _ (by assumption)).trans ((up_n _ (by assumption)).trans (by assumption))) rfl rfl (Nat.le_of_ble_eq_true rfl) (Nat.le_of_ble_eq_true rfl) (Nat.le_of_ble_eq_true rfl) rfl dX8_bestWidth_50 (nx_I) (kx_I ?_)
        have hat := hw2.at p
        rw [atF_in (by omega) (by omega)] at hat ⊢
        have hs2 := hsa ((gwF n F).2 p)
        refine r_istore_n dX8_bestWidth_53 (by decide) rfl ?_
        refine r_iload dX8_bestWidth_54 rfl ?_
        refine r_istore_n dX8_bestWidth_56 (by decide) rfl ?_
        refine r_iinc dX8_bestWidth_57 rfl rfl ?_
        refine r_goto (tgt := 14) dX8_bestWidth_60 (by decide) ?_
        refine J.loc (lsub_cons rfl (lsub_cons rfl (lsub_cons rfl (lsub_cons rfl (lsub_nil))))) (ih14 _ _ _ ?_ ?_)
        · refine ⟨by omega, by omega, by omega, by omega, ?_⟩
          rw [hb, show ((gwF n F).1 - p).toNat = ((gwF n F).1 - (p + 1)).toNat + 1 by omega, bwF, if_pos (by omega)]
        · omega
  · exact ⟨by omega, by omega, by omega, by omega, rfl⟩
