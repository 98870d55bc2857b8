/-! the law: its loop and its whole walk -/
abbrev lQ : Rs → Mem → Prop := fun r _ => r = .inl (some (vI 1))

set_option maxHeartbeats 1000000 in
theorem law_loop {M : Mem} {ad : Int → Nat} {sA N : Nat} {w : Int → Int} (hc : CLG M ad) (hi : Inj ad) (hsc : M sA = some (aS N w)) (haS : ∀ j, 0 ≤ j → j < 122 → sA ≠ ad j) (hN : N ≤ 260) : J KL_law 600104 7301314 (lQ) 32 [(0, some (.ref sA)), (1, some (.ref (ad 0))), (2, some (.ref (ad 112))), (3, some (.ref (ad 113))), (4, some (vI 0))] [] M 200 3000 := by
  refine J.loc (L' := [(0, some _), (1, some _), (2, some _), (3, some _), (4, some _)]) (lsub_cons rfl (lsub_cons rfl (lsub_cons rfl (lsub_cons rfl (lsub_cons rfl (lsub_nil)))))) (loop2 (fun (i : Int) (M1 : Mem) => 0 ≤ i ∧ i ≤ 60 ∧ CLG M1 ad ∧ M1 sA = some (aS N w)) (fun (i : Int) (M1 : Mem) => (60 - i).toNat) (fun (i : Int) (M1 : Mem) => J KL_law 600104 7301314 _ 32 [(0, some (.ref sA)), (1, some (.ref (ad 0))), (2, some (.ref (ad 112))), (3, some (.ref (ad 113))), (4, some (vI i))] [] M1 (200 + 45 * i.toNat) (3000 + 702 * i.toNat)) (fun i M1 hI32 ih32 => ?_) 0 _ ?_)
  ·
    obtain ⟨hi0, hi1, ⟨n, F, g, m, S, len, c, hc1⟩, hsc1⟩ := hI32
    have hsn : M1 sA ≠ none := by rw [hsc1]; exact fun h => nomatch h
    refine r_iload dL_law_32 rfl ?_
    refine r_bipush dL_law_34 (by decide) ?_
    refine r_icmp_ge (tgt := 93) dL_law_36 (by decide) (by omega) (by omega) (fun h36 => ?_) (fun h36 => ?_)
    ·
      refine r_iconst dL_law_93 ?_
      refine e_zreturn dL_law_94 rfl (by omega) (by omega) (by omega) ?_
      rfl
    ·
      refine r_aload_n dL_law_39 rfl ?_
      refine r_aload_n dL_law_40 rfl ?_
      refine r_iconst dL_law_41 ?_
      refine r_iload dL_law_42 rfl ?_
      refine r_imul dL_law_44 ?_
      refine r_callS2 okL_cell ⟨by decide, by decide⟩ ml_L_82 (mL_cell hsc1 hN (by omega)) (Nat.le_of_ble_eq_true rfl) (by omega) (by omega) rfl dL_law_45 (nx_Z) (kx_Z ?_)
      intro z45 hz45
      refine r_aload_n dL_law_48 rfl ?_
      refine r_iconst dL_law_49 ?_
      refine r_iload dL_law_50 rfl ?_
      refine r_imul dL_law_52 ?_
      refine r_iconst dL_law_53 ?_
      refine r_iadd dL_law_54 ?_
      refine r_callS2 okL_cell ⟨by decide, by decide⟩ ml_L_82 (mL_cell hsc1 hN (by omega)) (Nat.le_of_ble_eq_true rfl) (by omega) (by omega) rfl dL_law_55 (nx_Z) (kx_Z ?_)
      intro z55 hz55
      refine r_aload_n dL_law_58 rfl ?_
      refine r_aload_n dL_law_59 rfl ?_
      refine r_callS5 okL_act ⟨by decide, by decide⟩ ml_L_86 (mL_act hc1 hi hz45 hz55) (Nat.le_of_ble_eq_true rfl) (by omega) (by omega) rfl dL_law_60 (nx_tI) (kx_tI ?_)
      intro M2 hM2
      obtain ⟨⟨n, F, g, m, S, len, c, hc2⟩, hfk2⟩ := hM2
      have hsc2 := (hfk2 sA hsn (fun j a b => haS j a (by omega))).trans hsc1
      have hsn2 : M2 sA ≠ none := by rw [hsc2]; exact fun h => nomatch h
      refine r_if_eq (tgt := 85) dL_law_63 (by decide) (by omega) (fun h63 => ?_) (fun h63 => ?_)
      · omega
      ·
        refine r_aload_n dL_law_66 rfl ?_
        refine r_aload_n dL_law_67 rfl ?_
        refine r_iconst dL_law_68 ?_
        refine r_iload dL_law_69 rfl ?_
        refine r_imul dL_law_71 ?_
        refine r_iconst dL_law_72 ?_
        refine r_iadd dL_law_73 ?_
        refine r_callS2 okL_cell ⟨by decide, by decide⟩ ml_L_82 (mL_cell hsc2 hN (by omega)) (Nat.le_of_ble_eq_true rfl) (by omega) (by omega) rfl dL_law_74 (nx_Z) (kx_Z ?_)
        intro z74 hz74
        refine r_aload_n dL_law_77 rfl ?_
        refine r_aload_n dL_law_78 rfl ?_
        refine r_callS4 okL_agree ⟨by decide, by decide⟩ ml_L_90 (mL_agree hc2 hi hz74) (Nat.le_of_ble_eq_true rfl) (by omega) (by omega) rfl dL_law_79 (nx_tI) (kx_tI ?_)
        intro M3 hM3
        have hsc3 := (hM3.2 sA hsn2 (fun j a b => haS j a (by omega))).trans hsc2
        refine r_if_ne (tgt := 87) dL_law_82 (by decide) (by omega) (fun h82 => ?_) (fun h82 => ?_)
        ·
          refine r_iinc dL_law_87 rfl rfl ?_
          refine J.wide (k' := 200 + 45 * (i + 1).toNat) (n' := 3000 + 702 * (i + 1).toNat) (by omega) (by omega) ?_
          refine r_goto (tgt := 32) dL_law_90 (by decide) ?_
          refine J.loc (lsub_cons rfl (lsub_cons rfl (lsub_cons rfl (lsub_cons rfl (lsub_cons rfl (lsub_nil)))))) (ih32 _ _ ?_ ?_)
          · exact ⟨by omega, by omega, ⟨n, F, g, m, S, len, c, hM3.1⟩, hsc3⟩
          · omega
        · omega
  · exact ⟨by omega, by omega, hc, hsc⟩

set_option maxHeartbeats 4000000 in
theorem law_all {M : Mem} {sA N : Nat} {w : Int → Int} (hN : N ≤ 260) (hsc : M sA = some (aS N w)) : J KL_law 600104 7301314 lQ 0 [(0, some (.ref sA))] [] M 0 0 := by
  have hS := Sx.start hsc
  refine r_new clX8 [.null, .null, .null, .null, .null, .null, .null, .null] (by intro j hj; rcases (show j = 0 ∨ j = 1 ∨ j = 2 ∨ j = 3 ∨ j = 4 ∨ j = 5 ∨ j = 6 ∨ j = 7 by omega) with rfl | rfl | rfl | rfl | rfl | rfl | rfl | rfl <;> rfl) cn_L_23 inX8 iniX8 (by omega) (by omega) dL_law_0 (fun q0 hq0 => ?_)
  refine hS.jnew hq0 (fun Mx hS => ?_)
  refine r_dup dL_law_3 ?_
  refine r_callI0 okX8_init ⟨by decide, by decide⟩ ml_L_81 (mX8_init (hS.nth 0 rfl)) (Nat.le_of_ble_eq_true rfl) (by omega) (by omega) (nn_tV) dL_law_4 (kx_tV ?_)
  intro Mx hM
  obtain ⟨y, L, hM, hX⟩ := hM
  have hS := hS.sub hM
  refine r_astore_n dL_law_7 (by decide) rfl ?_
  refine r_bipush dL_law_8 (by decide) ?_
  refine r_newI (N := 7) rfl (by omega) ac_int (by omega) (by omega) dL_law_10 (fun q10 hq10 => ?_)
  refine hS.jnew hq10 (fun Mx hS => ?_)
  refine r_astore_n dL_law_12 (by decide) rfl ?_
  refine r_bipush dL_law_13 (by decide) ?_
  refine r_newI (N := 64) rfl (by omega) ac_int (by omega) (by omega) dL_law_15 (fun q15 hq15 => ?_)
  refine hS.jnew hq15 (fun Mx hS => ?_)
  refine r_astore_n dL_law_17 (by decide) rfl ?_
  refine r_aload_n dL_law_18 rfl ?_
  refine r_iconst dL_law_19 ?_
  refine r_bipush dL_law_20 (by decide) ?_
  refine r_iastore (hS.nth 1 rfl) (by omega) (by omega) (by omega) dL_law_22 ?_
  refine hS.jwr (A := [_]) (fun Mx hS => ?_)
  refine r_aload_n dL_law_23 rfl ?_
  refine r_iconst dL_law_24 ?_
  refine r_sipush dL_law_25 (by decide) ?_
  refine r_iastore (hS.nth 1 rfl) (by omega) (by omega) (by omega) dL_law_28 ?_
  refine hS.jwr (A := [_]) (fun Mx hS => ?_)
  refine r_iconst dL_law_29 ?_
  refine r_istore dL_law_30 (by decide) rfl ?_
  obtain ⟨ad, hi, ⟨rfl, rfl, rfl⟩, haS, hB⟩ := cl_start hS hX ⟨fun j a b => by rw [uI_n _ (by omega), uI_n _ (by omega)], by rw [uI_n _ (by omega), uI_s], uI_s _ _ _, by rw [uI_n _ (by omega), uI_n _ (by omega)]⟩
  refine J.loc (L' := [(0, some (.ref sA)), (1, some (.ref (ad 0))), (2, some (.ref (ad 112))), (3, some (.ref (ad 113))), (4, some (vI 0))]) (lsub_cons rfl (lsub_cons rfl (lsub_cons rfl (lsub_cons rfl (lsub_cons rfl lsub_nil))))) ?_
  exact J.wide (k' := 200) (n' := 3000) (by omega) (by omega) (law_loop hB hi hS.1 haS hN)
