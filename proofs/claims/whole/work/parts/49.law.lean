/-! the law: its loop and its whole walk -/
theorem iand31 (x : Int) : ∃ z : Int, 0 ≤ z ∧ z < 32 ∧ iN x &&& iN 31 = iN z := by
  refine ⟨(iN x &&& iN 31).toInt, ?_, ?_, iN_of _⟩
  all_goals
    have h1 : (iN x &&& iN 31).toBitVec.toNat ≤ 31 := by
      rw [Int32.toBitVec_and, BitVec.toNat_and]
      exact Nat.and_le_right
    have h2 : (iN x &&& iN 31).toInt = (iN x &&& iN 31).toBitVec.toInt := rfl
    rw [h2, BitVec.toInt_eq_toNat_of_lt (by omega)]
    omega
theorem r_iand31 {κ : Kp} {bc bs : Nat} {Q : Rs → Mem → Prop} {pc : Nat} {L : Ls} {st : List Value} {M : Mem} {k n : Nat} {x : Int} (d : Dc κ pc (.iand) 1) (kk : ∀ z : Int, 0 ≤ z → z < 32 → J κ bc bs Q (pc + 1) L (vI z :: st) M k n) : J κ bc bs Q pc L (vI 31 :: vI x :: st) M k n := by
  refine r_iand d ?_
  obtain ⟨z, h0, h1, e⟩ := iand31 x
  rw [e]
  exact kk z h0 h1
abbrev lQ : Rs → Mem → Prop := fun r _ => r = .inl (some (vI 1))
set_option maxHeartbeats 4000000 in
theorem law_loop {ad : Int → Nat} {sA N : Nat} {w : Int → Int} (hi : Inj ad) (haS : ∀ j, 0 ≤ j → j < 122 → sA ≠ ad j) (hw : ∀ j, R32 (w j)) (hN : N ≤ 2560) : ∀ (q : Nat) (i : Int) (k n : Nat) (M : Mem), 0 ≤ i → i ≤ 2600 → (N : Int) - i < 5 * q → k + 6 * q ≤ 601024 → n + 36 * q ≤ 7293034 → BthG M ad → M sA = some (aS N w) → J KL_law 601024 7293034 lQ 23 (lL sA ad i) [] M k n
  | q, i, k, n, M, h0, h9, hq, hk, hn, hB, hsc => by
    refine r_iload dL_law_23 rfl ?_
    refine r_aload_n dL_law_25 rfl ?_
    refine r_alenS hsc dL_law_26 ?_
    refine r_iconst dL_law_27 ?_
    refine r_isub dL_law_28 ?_
    refine r_icmp_gt (tgt := 1684) dL_law_29 (by decide) (by omega) (by omega) (fun hgt => ?_) (fun hgt => ?_)
    · refine r_iconst dL_law_1684 ?_
      refine e_zreturn dL_law_1685 rfl (by omega) (by omega) (by omega) ?_
      rfl
    · obtain ⟨q, rfl⟩ : ∃ q9, q = q9 + 1 := ⟨q - 1, by omega⟩
      have h1 : i + 5 ≤ N := by omega
      have kk : ∀ M2 : Mem, BthG M2 ad → FrI ad 0 122 M M2 → J KL_law 601024 7293034 lQ 1678 (lL sA ad i) [] M2 (k + 6) (n + 36) := fun M2 hB2 hf => by
        refine r_iinc dL_law_1678 rfl rfl ?_
        refine r_goto (tgt := 23) dL_law_1681 (by decide) ?_
        refine J.loc (L' := lL sA ad (i + 5)) (lsub_cons rfl (lsub_cons rfl (lsub_cons rfl (lsub_cons rfl (lsub_cons rfl lsub_nil))))) ?_
        exact law_loop hi haS hw hN q (i + 5) (k + 6) (n + 36) M2 (by omega) (by omega) (by omega) (by omega) (by omega) hB2 ((hf sA haS).trans hsc)
      obtain ⟨σ, m, S, len, c, th, hB⟩ := hB
      refine r_aload_n dL_law_32 rfl ?_
      refine r_iload dL_law_33 rfl ?_
      refine r_ialoadS hsc (by omega) (by omega) (by omega) dL_law_35 ?_
      refine r_bipush dL_law_36 (by decide) ?_
      refine r_iand31 dL_law_38 (fun z hz0 hz1 => ?_)
      by_cases hz : z < 0 ∨ 25 < z
      · refine r_tableOut (tgt := 1678) dL_law_39 (by omega) hz (by decide) ?_
        exact J.wide (by omega) (by omega) (kk M ⟨σ, m, S, len, c, th, hB⟩ FrI.rf)

      · rcases (show z = 0 ∨ z = 1 ∨ z = 2 ∨ z = 3 ∨ z = 4 ∨ z = 5 ∨ z = 6 ∨ z = 7 ∨ z = 8 ∨ z = 9 ∨ z = 10 ∨ z = 11 ∨ z = 12 ∨ z = 13 ∨ z = 14 ∨ z = 15 ∨ z = 16 ∨ z = 17 ∨ z = 18 ∨ z = 19 ∨ z = 20 ∨ z = 21 ∨ z = 22 ∨ z = 23 ∨ z = 24 ∨ z = 25 by omega) with rfl | rfl | rfl | rfl | rfl | rfl | rfl | rfl | rfl | rfl | rfl | rfl | rfl | rfl | rfl | rfl | rfl | rfl | rfl | rfl | rfl | rfl | rfl | rfl | rfl | rfl
        · refine r_tableIn (off := 117) (tgt := 156) dL_law_39 (by omega) (by omega) (by omega) rfl (by decide) ?_
          exact sL_add hB hi hsc haS hw h0 h1 hN (by omega) (by omega) kk
        · refine r_tableIn (off := 185) (tgt := 224) dL_law_39 (by omega) (by omega) (by omega) rfl (by decide) ?_
          exact sL_remove hB hi hsc haS hw h0 h1 hN (by omega) (by omega) kk
        · refine r_tableIn (off := 253) (tgt := 292) dL_law_39 (by omega) (by omega) (by omega) rfl (by decide) ?_
          exact sL_removeRange hB hi hsc haS hw h0 h1 hN (by omega) (by omega) kk
        · refine r_tableIn (off := 333) (tgt := 372) dL_law_39 (by omega) (by omega) (by omega) rfl (by decide) ?_
          exact sL_shift hB hi hsc haS hw h0 h1 hN (by omega) (by omega) kk
        · refine r_tableIn (off := 401) (tgt := 440) dL_law_39 (by omega) (by omega) (by omega) rfl (by decide) ?_
          exact sL_combine hB hi hsc haS hw h0 h1 hN (by omega) (by omega) kk
        · refine r_tableIn (off := 493) (tgt := 532) dL_law_39 (by omega) (by omega) (by omega) rfl (by decide) ?_
          exact sL_set hB hi hsc haS hw h0 h1 hN (by omega) (by omega) kk
        · refine r_tableIn (off := 561) (tgt := 600) dL_law_39 (by omega) (by omega) (by omega) rfl (by decide) ?_
          exact sL_append hB hi hsc haS hw h0 h1 hN (by omega) (by omega) kk
        · refine r_tableIn (off := 617) (tgt := 656) dL_law_39 (by omega) (by omega) (by omega) rfl (by decide) ?_
          exact sL_clearBuffer hB hi hsc haS hw h0 h1 hN (by omega) (by omega) kk
        · refine r_tableIn (off := 630) (tgt := 669) dL_law_39 (by omega) (by omega) (by omega) rfl (by decide) ?_
          exact sL_firstError hB hi hsc haS hw h0 h1 hN (by omega) (by omega) kk
        · refine r_tableIn (off := 643) (tgt := 682) dL_law_39 (by omega) (by omega) (by omega) rfl (by decide) ?_
          exact sL_read hB hi hsc haS hw h0 h1 hN (by omega) (by omega) kk
        · refine r_tableIn (off := 699) (tgt := 738) dL_law_39 (by omega) (by omega) (by omega) rfl (by decide) ?_
          exact sL_undo hB hi hsc haS hw h0 h1 hN (by omega) (by omega) kk
        · refine r_tableIn (off := 743) (tgt := 782) dL_law_39 (by omega) (by omega) (by omega) rfl (by decide) ?_
          exact sL_has hB hi hsc haS hw h0 h1 hN (by omega) (by omega) kk
        · refine r_tableIn (off := 811) (tgt := 850) dL_law_39 (by omega) (by omega) (by omega) rfl (by decide) ?_
          exact sL_member hB hi hsc haS hw h0 h1 hN (by omega) (by omega) kk
        · refine r_tableIn (off := 879) (tgt := 918) dL_law_39 (by omega) (by omega) (by omega) rfl (by decide) ?_
          exact sL_less hB hi hsc haS hw h0 h1 hN (by omega) (by omega) kk
        · refine r_tableIn (off := 947) (tgt := 986) dL_law_39 (by omega) (by omega) (by omega) rfl (by decide) ?_
          exact sL_nearest hB hi hsc haS hw h0 h1 hN (by omega) (by omega) kk
        · refine r_tableIn (off := 1015) (tgt := 1054) dL_law_39 (by omega) (by omega) (by omega) rfl (by decide) ?_
          exact sL_block hB hi hsc haS hw h0 h1 hN (by omega) (by omega) kk
        · refine r_tableIn (off := 1095) (tgt := 1134) dL_law_39 (by omega) (by omega) (by omega) rfl (by decide) ?_
          exact sL_of hB hi hsc haS hw h0 h1 hN (by omega) (by omega) kk
        · refine r_tableIn (off := 1163) (tgt := 1202) dL_law_39 (by omega) (by omega) (by omega) rfl (by decide) ?_
          exact sL_leaps hB hi hsc haS hw h0 h1 hN (by omega) (by omega) kk
        · refine r_tableIn (off := 1243) (tgt := 1282) dL_law_39 (by omega) (by omega) (by omega) rfl (by decide) ?_
          exact sL_count hB hi hsc haS hw h0 h1 hN (by omega) (by omega) kk
        · refine r_tableIn (off := 1299) (tgt := 1338) dL_law_39 (by omega) (by omega) (by omega) rfl (by decide) ?_
          exact sL_setting hB hi hsc haS hw h0 h1 hN (by omega) (by omega) kk
        · refine r_tableIn (off := 1355) (tgt := 1394) dL_law_39 (by omega) (by omega) (by omega) rfl (by decide) ?_
          exact sL_ifSet hB hi hsc haS hw h0 h1 hN (by omega) (by omega) kk
        · refine r_tableIn (off := 1435) (tgt := 1474) dL_law_39 (by omega) (by omega) (by omega) rfl (by decide) ?_
          exact sL_ifAdded hB hi hsc haS hw h0 h1 hN (by omega) (by omega) kk
        · refine r_tableIn (off := 1503) (tgt := 1542) dL_law_39 (by omega) (by omega) (by omega) rfl (by decide) ?_
          exact sL_dearest hB hi hsc haS hw h0 h1 hN (by omega) (by omega) kk
        · refine r_tableIn (off := 1571) (tgt := 1610) dL_law_39 (by omega) (by omega) (by omega) rfl (by decide) ?_
          exact sL_bestWidth hB hi hsc haS hw h0 h1 hN (by omega) (by omega) kk
        · refine r_tableIn (off := 1584) (tgt := 1623) dL_law_39 (by omega) (by omega) (by omega) rfl (by decide) ?_
          exact sL_smallness hB hi hsc haS hw h0 h1 hN (by omega) (by omega) kk
        · refine r_tableIn (off := 1625) (tgt := 1664) dL_law_39 (by omega) (by omega) (by omega) rfl (by decide) ?_
          exact sL_digest hB hi hsc haS hw h0 h1 hN (by omega) (by omega) kk
  termination_by q => q
set_option maxHeartbeats 4000000 in
theorem law_all {M : Mem} {sA N : Nat} {w : Int → Int} (hw : ∀ j, R32 (w j)) (hN : N ≤ 2560) (hsc : M sA = some (aS N w)) : J KL_law 601024 7293034 lQ 0 [(0, some (.ref sA))] [] M 0 0 := by
  have hS := Sx.start hsc
  refine r_new clX8 [.null, .null, .null, .null, .null, .null, .null, .null] (by intro j hj; rcases (show j = 0 ∨ j = 1 ∨ j = 2 ∨ j = 3 ∨ j = 4 ∨ j = 5 ∨ j = 6 ∨ j = 7 by omega) with rfl | rfl | rfl | rfl | rfl | rfl | rfl | rfl <;> rfl) cn_L_8 inX8 iniX8 (by omega) (by omega) dL_law_0 (fun q0 hq0 => ?_)
  refine hS.jnew hq0 (fun Mx hS => ?_)
  refine r_dup dL_law_3 ?_
  refine r_callI0 okX8_init ⟨by decide, by decide⟩ ml_L_83 (mX8_init (hS.nth 0 rfl)) (Nat.le_of_ble_eq_true rfl) (by omega) (by omega) (nn_tV) dL_law_4 (kx_tV ?_)
  intro Mx hM
  obtain ⟨y, L, hM, hX⟩ := hM
  have hS := hS.sub hM
  refine r_astore_n dL_law_7 (by decide) rfl ?_
  refine r_new clX9 [.null, vI 0, .null, vI 0, .null, vI 0, .null, vI 0, .null, vI 0, .null, vI 0, vI 0, vI 0, vI 0, .null, .null, .long 0] (by intro j hj; rcases (show j = 0 ∨ j = 1 ∨ j = 2 ∨ j = 3 ∨ j = 4 ∨ j = 5 ∨ j = 6 ∨ j = 7 ∨ j = 8 ∨ j = 9 ∨ j = 10 ∨ j = 11 ∨ j = 12 ∨ j = 13 ∨ j = 14 ∨ j = 15 ∨ j = 16 ∨ j = 17 by omega) with rfl | rfl | rfl | rfl | rfl | rfl | rfl | rfl | rfl | rfl | rfl | rfl | rfl | rfl | rfl | rfl | rfl | rfl <;> rfl) cn_L_84 inX9 iniX9 (by omega) (by omega) dL_law_8 (fun q8 hq8 => ?_)
  refine hS.jnew hq8 (fun Mx hS => ?_)
  refine r_dup dL_law_11 ?_
  refine r_callI0 okX9_init ⟨by decide, by decide⟩ ml_L_86 (mX9_init (hS.nth 0 rfl)) (Nat.le_of_ble_eq_true rfl) (by omega) (by omega) (nn_tV) dL_law_12 (kx_tV ?_)
  intro Mx hM
  obtain ⟨y9, L9, hM, hX9⟩ := hM
  have hS := hS.sub hM
  refine r_astore_n dL_law_15 (by decide) rfl ?_
  refine r_iconst dL_law_16 ?_
  refine r_newL (N := 1) rfl (by omega) ac_long (by omega) (by omega) dL_law_17 (fun q17 hq17 => ?_)
  refine hS.jnew hq17 (fun Mx hS => ?_)
  refine r_astore_n dL_law_19 (by decide) rfl ?_
  refine r_iconst dL_law_20 ?_
  refine r_istore dL_law_21 (by decide) rfl ?_
  obtain ⟨ad, hi, ⟨rfl, rfl, rfl⟩, haS, hB⟩ := bth_start hS hX hX9
  refine J.loc (L' := lL sA ad 0) (lsub_cons rfl (lsub_cons rfl (lsub_cons rfl (lsub_cons rfl (lsub_cons rfl lsub_nil))))) ?_
  exact law_loop hi haS hw hN 513 0 _ _ _ (by omega) (by omega) (by omega) (by omega) (by omega) hB hS.1

