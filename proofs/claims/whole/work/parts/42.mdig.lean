/-! the model: its digest -/
def atD (z : UInt64) (P : Mem → Prop) : Rs → Mem → Prop := fun r M' => r = .inl (some (.double z)) ∧ P M'
theorem kx_tD {κ : Kp} {bc bs : Nat} {Q : Rs → Mem → Prop} {pc : Nat} {L : Ls} {st : List Value} {k n : Nat} {z : UInt64} {P : Mem → Prop} (j : ∀ M2 : Mem, P M2 → J κ bc bs Q pc L (.double z :: st) M2 k n) : ∀ (v : Option Value) (M2 : Mem), atD z P (.inl v) M2 → J κ bc bs Q pc L (v.toList ++ st) M2 k n := by
  rintro v M2 ⟨h, hP⟩; cases h; exact j M2 hP
theorem nx_tD {z : UInt64} {P : Mem → Prop} {Q : Rs → Mem → Prop} : ∀ (E : String) (M2 : Mem), atD z P (.inr E) M2 → Q (.inr E) M2 := fun _ _ h => nomatch h.1
theorem oktD {z z' : UInt64} {P : Mem → Prop} {M : Mem} (h : z' = z) (hP : P M) : atD z P (.inl (some (.double z'))) M := ⟨by rw [h], hP⟩
set_option maxHeartbeats 4000000 in
theorem mX9_mix {M0 M : Mem} {ad : Int → Nat} {zA hA tA rA sA pA bA wA : Int → Int} {m len th rm bk rd nu bd sc : Int} {hs : Int64} {v : Int64} (hm : RM M0 M ad zA hA tA rA sA pA bA wA m len th rm bk rd nu bd sc hs) (hi : Inj ad) : Ct KX9_mix [.ref (ad 112), .long v] M 0 0 (atV (fun M2 => RM M0 M2 ad zA hA tA rA sA pA bA wA m len th rm bk rd nu bd sc (31 * hs + v))) := by
  refine Ct.of _ (by decide) rfl (Nat.le_of_ble_eq_true rfl) ?_
  refine r_aload_n dX9_mix_0 rfl ?_
  refine r_ldc2 dX9_mix_1 kl_X9_242 ?_
  refine r_aload_n dX9_mix_4 rfl ?_
  refine r_getfield clX9 17 (by decide) fl_X9_244 hm.o rfl dX9_mix_5 ?_
  refine r_lmul dX9_mix_8 ?_
  refine r_lload_n dX9_mix_9 rfl ?_
  refine r_ladd dX9_mix_10 ?_
  refine r_putfield clX9 17 (by decide) fl_X9_244 rfl hm.o rfl rfl (Nat.le_of_ble_eq_true rfl) dX9_mix_11 ?_
  refine hm.w_hash hi (fun Mx hm => ?_)
  refine e_return dX9_mix_14 rfl (Nat.le_of_ble_eq_true rfl) (Nat.le_of_ble_eq_true rfl) ?_
  exact oktV hm

set_option maxHeartbeats 4000000 in
theorem mX9_small {M0 M : Mem} {ad : Int → Nat} {zA hA tA pA : Int → Int} {m len th rd nu bd sc : Int} {hs : Int64} {n : Int → Int} {F : Int → Int → Int} {g : Int → Int} (hq : RQ M0 M ad zA hA tA pA m len th rd nu bd sc hs) (hi : Inj ad) (hz : Zr zA n F g) (hv : Vld (n, F, g)) : Ct KX9_small [.ref (ad 112)] M 0 0 (atD (smV n F g) (fun M2 => RQ M0 M2 ad zA hA tA pA m len th rd nu bd sc hs)) := by
  refine Ct.of _ (by decide) rfl (Nat.le_of_ble_eq_true rfl) ?_
  obtain ⟨rA, sA, bA, wA, rm, bk, hm⟩ := hq
  have hsts := hz.sts hv
  obtain ⟨cc, qq, hsm, hs1, hs2, hs3⟩ := smV_ok hsts g
  have hok := fp_ok hsm
  have e0 : smF (fun k => ofV (n k) (F k) g 0) 4 0 = smF n 4 0 := rfl
  have e2 : smF (fun k => ofV (n k) (F k) g 2) 4 0 = szA n F g (g 1) := rfl
  have hnn : 0 ≤ smF n 4 0 ∧ smF n 4 0 ≤ 240 := by
    have := smF_r (f := n) (lo := 0) (hi := 60) 4 0 (fun j a b => ⟨(hsts j a (by omega)).1, (hsts j a (by omega)).2.1⟩)
    omega
  refine r_iconst dX9_small_0 ?_
  refine r_aload_n dX9_small_1 rfl ?_
  refine r_iconst dX9_small_2 ?_
  refine r_callV1 okX9_sumOf ⟨by decide, by decide⟩ ml_X9_210 (mX9_sumOf hm.q hi hz hv (by omega)) hm.o rfl rfl (Nat.le_of_ble_eq_true rfl) (Nat.le_of_ble_eq_true rfl) (Nat.le_of_ble_eq_true rfl) rfl dX9_small_3 (nx_tI) (kx_tI ?_)
  intro Mx hq
  obtain ⟨rA, sA, bA, wA, rm, bk, hm⟩ := hq
  rw [e0]
  refine r_imul dX9_small_6 ?_
  refine r_istore_n dX9_small_7 (by decide) rfl ?_
  refine r_iload_n dX9_small_8 rfl ?_
  refine r_if_ne (tgt := 16) dX9_small_9 (by decide) (by omega) (fun h9 => ?_) (fun h9 => ?_)
  ·
    have hsv : smV n F g = FP.ddiv (FP.i2d (iN (szA n F g (g 1)))) (FP.i2d (iN (2 * smF n 4 0))) := by unfold smV; rw [if_neg (by omega)]
    rw [hsv] at hok
    refine r_aload_n dX9_small_16 rfl ?_
    refine r_iconst dX9_small_17 ?_
    refine r_callV1 okX9_sumOf ⟨by decide, by decide⟩ ml_X9_210 (mX9_sumOf hm.q hi hz hv (by omega)) hm.o rfl rfl (Nat.le_of_ble_eq_true rfl) (Nat.le_of_ble_eq_true rfl) (Nat.le_of_ble_eq_true rfl) rfl dX9_small_18 (nx_tI) (kx_tI ?_)
    intro Mx hq
    obtain ⟨rA, sA, bA, wA, rm, bk, hm⟩ := hq
    rw [e2]
    refine r_i2d dX9_small_21 ?_
    refine r_iload_n dX9_small_22 rfl ?_
    refine r_i2d dX9_small_23 ?_
    refine r_ddiv dX9_small_24 (hok) ?_
    refine e_dreturn dX9_small_25 rfl (Nat.le_of_ble_eq_true rfl) (Nat.le_of_ble_eq_true rfl) ?_
    exact oktD hsv.symm hm.q
  ·
    refine r_dconst1 dX9_small_12 ?_
    refine r_goto (tgt := 25) dX9_small_13 (by decide) ?_
    refine e_dreturn dX9_small_25 rfl (Nat.le_of_ble_eq_true rfl) (Nat.le_of_ble_eq_true rfl) ?_
    exact oktD (by unfold smV; rw [if_pos (by omega)]) hm.q

set_option maxHeartbeats 4000000 in
theorem mX9_mixSet {M0 M : Mem} {ad : Int → Nat} {zA hA tA pA : Int → Int} {m len th rd nu bd sc : Int} {hs : Int64} {n : Int → Int} {F : Int → Int → Int} {g : Int → Int} {k : Int} (hq : RQ M0 M ad zA hA tA pA m len th rd nu bd sc hs) (hi : Inj ad) (hz : Zr zA n F g) (h0 : 0 ≤ k) (h1 : k < 4) (hv : Vld (n, F, g)) : Ct KX9_mixSet [.ref (ad 112), vI k] M 0 0 (atV (fun M2 => RQ M0 M2 ad zA hA tA pA m len th rd nu bd sc (hsK n F g k (hsB n F g k (hsM n F g k hs))))) := by
  refine Ct.of _ (by decide) rfl (Nat.le_of_ble_eq_true rfl) ?_
  obtain ⟨rA, sA, bA, wA, rm, bk, hm⟩ := hq
  have hzn := hz.n h0 h1
  obtain ⟨hvs, hv0, hv1, hv2, hv3⟩ := id hv
  dsimp only at hvs hv0 hv1 hv2 hv3
  have hg : (2 ≤ g 0 ∧ g 0 ≤ 16) ∧ 1 ≤ g 1 ∧ g 1 ≤ 9999 := ⟨⟨hv0, hv1⟩, hv2, hv3⟩
  have hbk := blk_spec hzn.2.1 (F k) (g 0) (g 1)
  refine r_iconst dX9_mixSet_0 ?_
  refine r_istore_n dX9_mixSet_1 (by decide) rfl ?_
  refine J.loc (L' := [(0, some _), (1, some _), (2, some _)]) (lsub_cons rfl (lsub_cons rfl (lsub_cons rfl (lsub_nil)))) (loop3 (fun (w : Int) (y : Int64) (M1 : Mem) => 0 ≤ w ∧ w ≤ 8 ∧ RQ M0 M1 ad zA hA tA pA m len th rd nu bd sc y ∧ hsF (ofV (n k) (F k) g) 8 0 hs = hsF (ofV (n k) (F k) g) (8 - w).toNat w y) (fun (w : Int) (y : Int64) (M1 : Mem) => (8 - w).toNat) (fun (w : Int) (y : Int64) (M1 : Mem) => J KX9_mixSet 0 0 _ 2 [(0, some (.ref (ad 112))), (1, some (vI k)), (2, some (vI w))] [] M1 _ _) (fun w y M1 hI2 ih2 => ?_) _ hs _ ?_)
  ·
    obtain ⟨hw0, hw1, hq, hy⟩ := hI2
    obtain ⟨rA, sA, bA, wA, rm, bk, hm⟩ := hq
    refine r_iload_n dX9_mixSet_2 rfl ?_
    refine r_bipush dX9_mixSet_3 (by decide) ?_
    refine r_icmp_ge (tgt := 25) dX9_mixSet_5 (by decide) (by omega) (by omega) (fun h5 => ?_) (fun h5 => ?_)
    ·
      refine r_iconst dX9_mixSet_25 ?_
      refine r_istore_n dX9_mixSet_26 (by decide) rfl ?_
      refine J.loc (L' := [(0, some _), (1, some _), (2, some _)]) (lsub_cons rfl (lsub_cons rfl (lsub_cons rfl (lsub_nil)))) (loop3 (fun (p : Int) (z : Int64) (M2 : Mem) => 0 ≤ p ∧ p ≤ n k ∧ RQ M0 M2 ad zA hA tA pA m len th rd nu bd sc z ∧ hsM n F g k hs = hsF (F k) (n k - p).toNat p z) (fun (p : Int) (z : Int64) (M2 : Mem) => (n k - p).toNat) (fun (p : Int) (z : Int64) (M2 : Mem) => J KX9_mixSet 0 0 _ 27 [(0, some (.ref (ad 112))), (1, some (vI k)), (2, some (vI p))] [] M2 _ _) (fun p z M2 hI27 ih27 => ?_) _ y _ ?_)
      ·
        obtain ⟨hp0, hp1, hq, hz9⟩ := hI27
        obtain ⟨rA, sA, bA, wA, rm, bk, hm⟩ := hq
        refine r_iload_n dX9_mixSet_27 rfl ?_
        refine r_aload_n dX9_mixSet_28 rfl ?_
        refine r_iload_n dX9_mixSet_29 rfl ?_
        refine r_callV1 okX9_many ⟨by decide, by decide⟩ ml_X9_45 (mX9_many hm hz h0 h1) hm.o rfl rfl (Nat.le_of_ble_eq_true rfl) (Nat.le_of_ble_eq_true rfl) (Nat.le_of_ble_eq_true rfl) rfl dX9_mixSet_30 (nx_I) (kx_I ?_)
        refine r_icmp_ge (tgt := 53) dX9_mixSet_33 (by decide) (by omega) (by omega) (fun h33 => ?_) (fun h33 => ?_)
        ·
          refine r_aload_n dX9_mixSet_53 rfl ?_
          refine r_iload_n dX9_mixSet_54 rfl ?_
          refine r_callV1 okX9_blockCount ⟨by decide, by decide⟩ ml_X9_177 (mX9_blockCount hm.q hi hz h0 h1 hg) hm.o rfl rfl (Nat.le_of_ble_eq_true rfl) (Nat.le_of_ble_eq_true rfl) (Nat.le_of_ble_eq_true rfl) rfl dX9_mixSet_55 (nx_tI) (kx_tI ?_)
          intro Mx hq
          obtain ⟨rA, sA, bA, wA, rm, bk, hm⟩ := hq
          refine r_istore_n dX9_mixSet_58 (by decide) rfl ?_
          refine r_iconst dX9_mixSet_59 ?_
          refine r_istore_n dX9_mixSet_60 (by decide) rfl ?_
          refine J.loc (L' := [(0, some _), (1, some _), (2, some _), (3, some _)]) (lsub_cons rfl (lsub_cons rfl (lsub_cons rfl (lsub_cons rfl (lsub_nil))))) (loop3 (fun (q : Int) (u : Int64) (M3 : Mem) => 0 ≤ q ∧ q ≤ 6 * nbF (n k) (F k) (g 0) (g 1) ∧ RQ M0 M3 ad zA hA tA pA m len th rd nu bd sc u ∧ hsB n F g k (hsM n F g k hs) = hsF (fun q => blkV (n k) (F k) g (q / 6) (q % 6)) (6 * nbF (n k) (F k) (g 0) (g 1) - q).toNat q u) (fun (q : Int) (u : Int64) (M3 : Mem) => (6 * nbF (n k) (F k) (g 0) (g 1) - q).toNat) (fun (q : Int) (u : Int64) (M3 : Mem) => J KX9_mixSet 0 0 _ 61 [(0, some (.ref (ad 112))), (1, some (vI k)), (2, some (vI (nbF (n k) (F k) (g 0) (g 1)))), (3, some (vI q))] [] M3 _ _) (fun q u M3 hI61 ih61 => ?_) _ z _ ?_)
          ·
            obtain ⟨hq0, hq1, hq, hu⟩ := hI61
            obtain ⟨rA, sA, bA, wA, rm, bk, hm⟩ := hq
            refine r_iload_n dX9_mixSet_61 rfl ?_
            refine r_bipush dX9_mixSet_62 (by decide) ?_
            refine r_iload_n dX9_mixSet_64 rfl ?_
            refine r_imul dX9_mixSet_65 ?_
            refine r_icmp_ge (tgt := 93) dX9_mixSet_66 (by decide) (by omega) (by omega) (fun h66 => ?_) (fun h66 => ?_)
            ·
              refine r_aload_n dX9_mixSet_93 rfl ?_
              refine r_aload_n dX9_mixSet_94 rfl ?_
              refine r_iload_n dX9_mixSet_95 rfl ?_
              refine r_iconst dX9_mixSet_96 ?_
              refine r_callV2 okX9_dearestNow ⟨by decide, by decide⟩ ml_X9_229 (mX9_dearestNow hm.q hi hz h0 h1 hv (by omega)) hm.o rfl rfl (Nat.le_of_ble_eq_true rfl) (Nat.le_of_ble_eq_true rfl) (Nat.le_of_ble_eq_true rfl) rfl dX9_mixSet_97 (nx_tI) (kx_tI ?_)
              intro Mx hq
              obtain ⟨rA, sA, bA, wA, rm, bk, hm⟩ := hq
              refine r_i2l dX9_mixSet_100 ?_
              refine r_callV1 okX9_mix ⟨by decide, by decide⟩ ml_X9_248 (mX9_mix hm hi) hm.o rfl rfl (Nat.le_of_ble_eq_true rfl) (Nat.le_of_ble_eq_true rfl) (Nat.le_of_ble_eq_true rfl) rfl dX9_mixSet_101 (nx_tV) (kx_tV ?_)
              intro Mx hm
              refine r_aload_n dX9_mixSet_104 rfl ?_
              refine r_aload_n dX9_mixSet_105 rfl ?_
              refine r_iload_n dX9_mixSet_106 rfl ?_
              refine r_iconst dX9_mixSet_107 ?_
              refine r_callV2 okX9_dearestNow ⟨by decide, by decide⟩ ml_X9_229 (mX9_dearestNow hm.q hi hz h0 h1 hv (by omega)) hm.o rfl rfl (Nat.le_of_ble_eq_true rfl) (Nat.le_of_ble_eq_true rfl) (Nat.le_of_ble_eq_true rfl) rfl dX9_mixSet_108 (nx_tI) (kx_tI ?_)
              intro Mx hq
              obtain ⟨rA, sA, bA, wA, rm, bk, hm⟩ := hq
              refine r_i2l dX9_mixSet_111 ?_
              refine r_callV1 okX9_mix ⟨by decide, by decide⟩ ml_X9_248 (mX9_mix hm hi) hm.o rfl rfl (Nat.le_of_ble_eq_true rfl) (Nat.le_of_ble_eq_true rfl) (Nat.le_of_ble_eq_true rfl) rfl dX9_mixSet_112 (nx_tV) (kx_tV ?_)
              intro Mx hm
              refine r_aload_n dX9_mixSet_115 rfl ?_
              refine r_aload_n dX9_mixSet_116 rfl ?_
              refine r_iload_n dX9_mixSet_117 rfl ?_
              refine r_sipush dX9_mixSet_118 (by decide) ?_
              refine r_callV2 okX9_addedThen ⟨by decide, by decide⟩ ml_X9_223 (mX9_addedThen hm.q hi hz h0 h1 hv (by omega)) hm.o rfl rfl (Nat.le_of_ble_eq_true rfl) (Nat.le_of_ble_eq_true rfl) (Nat.le_of_ble_eq_true rfl) rfl dX9_mixSet_121 (nx_tI) (kx_tI ?_)
              intro Mx hq
              obtain ⟨rA, sA, bA, wA, rm, bk, hm⟩ := hq
              refine r_i2l dX9_mixSet_124 ?_
              refine r_callV1 okX9_mix ⟨by decide, by decide⟩ ml_X9_248 (mX9_mix hm hi) hm.o rfl rfl (Nat.le_of_ble_eq_true rfl) (Nat.le_of_ble_eq_true rfl) (Nat.le_of_ble_eq_true rfl) rfl dX9_mixSet_125 (nx_tV) (kx_tV ?_)
              intro Mx hm
              refine r_aload_n dX9_mixSet_128 rfl ?_
              refine r_aload_n dX9_mixSet_129 rfl ?_
              refine r_iload_n dX9_mixSet_130 rfl ?_
              refine r_sipush dX9_mixSet_131 (by decide) ?_
              refine r_callV2 okX9_nearestTo ⟨by decide, by decide⟩ ml_X9_165 (mX9_nearestTo hm hz h0 h1 (hvs k h0 h1) (by omega)) hm.o rfl rfl (Nat.le_of_ble_eq_true rfl) (Nat.le_of_ble_eq_true rfl) (Nat.le_of_ble_eq_true rfl) rfl dX9_mixSet_134 (nx_I) (kx_I ?_)
              refine r_i2l dX9_mixSet_137 ?_
              refine r_callV1 okX9_mix ⟨by decide, by decide⟩ ml_X9_248 (mX9_mix hm hi) hm.o rfl rfl (Nat.le_of_ble_eq_true rfl) (Nat.le_of_ble_eq_true rfl) (Nat.le_of_ble_eq_true rfl) rfl dX9_mixSet_138 (nx_tV) (kx_tV ?_)
              intro Mx hm
              refine r_iconst dX9_mixSet_141 ?_
              refine r_istore_n dX9_mixSet_142 (by decide) rfl ?_
              refine J.loc (L' := [(0, some _), (1, some _), (2, some _), (3, some _)]) (lsub_cons rfl (lsub_cons rfl (lsub_cons rfl (lsub_cons rfl (lsub_nil))))) (loop3 (fun (w4 : Int) (t : Int64) (M4 : Mem) => 0 ≤ w4 ∧ w4 ≤ 4 ∧ RQ M0 M4 ad zA hA tA pA m len th rd nu bd sc t ∧ hsK n F g k (hsB n F g k (hsM n F g k hs)) = hsF (tolF (mtS n F g k 0)) (4 - w4).toNat w4 t) (fun (w4 : Int) (t : Int64) (M4 : Mem) => (4 - w4).toNat) (fun (w4 : Int) (t : Int64) (M4 : Mem) => J KX9_mixSet 0 0 _ 143 [(0, some (.ref (ad 112))), (1, some (vI k)), (2, some (vI (nbF (n k) (F k) (g 0) (g 1)))), (3, some (vI w4))] [] M4 _ _) (fun w4 t M4 hI143 ih143 => ?_) _ (hsI (hsI (hsI (hsI u (drV (n k) (F k) g 0)) (drV (n k) (F k) g 1)) (iaV (n k) (F k) g 5000)) (nrF (n k) (F k) 5000)) _ ?_)
              ·
                obtain ⟨hx0, hx1, hq, ht9⟩ := hI143
                obtain ⟨rA, sA, bA, wA, rm, bk, hm⟩ := hq
                refine r_iload_n dX9_mixSet_143 rfl ?_
                refine r_iconst dX9_mixSet_144 ?_
                refine r_icmp_ge (tgt := 166) dX9_mixSet_145 (by decide) (by omega) (by omega) (fun h145 => ?_) (fun h145 => ?_)
                ·
                  refine e_return dX9_mixSet_166 rfl (Nat.le_of_ble_eq_true rfl) (Nat.le_of_ble_eq_true rfl) ?_
                  rw [ht9, show (4 - w4).toNat = 0 by omega, hsF]
                  exact oktV hm.q
                ·
                  refine r_aload_n dX9_mixSet_148 rfl ?_
                  refine r_aload_n dX9_mixSet_149 rfl ?_
                  refine r_iload_n dX9_mixSet_150 rfl ?_
                  refine r_iconst dX9_mixSet_151 ?_
                  refine r_iload_n dX9_mixSet_152 rfl ?_
                  refine r_callV3 okX9_leapsNow ⟨by decide, by decide⟩ ml_X9_201 (mX9_leapsNow hm.q hi hz h0 h1 (by omega) (by omega) hv (by omega)) hm.o rfl rfl (Nat.le_of_ble_eq_true rfl) (Nat.le_of_ble_eq_true rfl) (Nat.le_of_ble_eq_true rfl) rfl dX9_mixSet_153 (nx_tI) (kx_tI ?_)
                  intro Mx hq
                  obtain ⟨rA, sA, bA, wA, rm, bk, hm⟩ := hq
                  refine r_i2l dX9_mixSet_156 ?_
                  refine r_callV1 okX9_mix ⟨by decide, by decide⟩ ml_X9_248 (mX9_mix hm hi) hm.o rfl rfl (Nat.le_of_ble_eq_true rfl) (Nat.le_of_ble_eq_true rfl) (Nat.le_of_ble_eq_true rfl) rfl dX9_mixSet_157 (nx_tV) (kx_tV ?_)
                  intro Mx hm
                  refine r_iinc dX9_mixSet_160 rfl rfl ?_
                  refine r_goto (tgt := 143) dX9_mixSet_163 (by decide) ?_
                  refine J.loc (lsub_cons rfl (lsub_cons rfl (lsub_cons rfl (lsub_cons rfl (lsub_nil))))) (ih143 _ (hsI t (tolF (mtS n F g k 0) w4)) _ ?_ ?_)
                  · exact ⟨by omega, by omega, hm.q, by rw [ht9, show (4 - w4).toNat = (4 - (w4 + 1)).toNat + 1 by omega, hsF]⟩
                  · omega
              · exact ⟨by omega, by omega, hm.q, by unfold hsK; rw [hu, show (6 * nbF (n k) (F k) (g 0) (g 1) - q).toNat = 0 by omega, hsF]; rfl⟩
            ·
              refine r_aload_n dX9_mixSet_69 rfl ?_
              refine r_aload_n dX9_mixSet_70 rfl ?_
              refine r_iload_n dX9_mixSet_71 rfl ?_
              refine r_iload_n dX9_mixSet_72 rfl ?_
              refine r_bipush dX9_mixSet_73 (by decide) ?_
              refine r_idiv dX9_mixSet_75 (by omega) (by omega) (by omega) (by omega) ?_
              refine r_iload_n dX9_mixSet_76 rfl ?_
              refine r_bipush dX9_mixSet_77 (by decide) ?_
              refine r_irem dX9_mixSet_79 (by omega) (by omega) (by omega) (by omega) ?_
              refine r_callV3 okX9_blockNow ⟨by decide, by decide⟩ ml_X9_174 (mX9_blockNow hm.q hi hz h0 h1 hg (by omega) (by omega)) hm.o rfl rfl (Nat.le_of_ble_eq_true rfl) (Nat.le_of_ble_eq_true rfl) (Nat.le_of_ble_eq_true rfl) rfl dX9_mixSet_80 (nx_tI) (kx_tI ?_)
              intro Mx hq
              obtain ⟨rA, sA, bA, wA, rm, bk, hm⟩ := hq
              refine r_i2l dX9_mixSet_83 ?_
              refine r_callV1 okX9_mix ⟨by decide, by decide⟩ ml_X9_248 (mX9_mix hm hi) hm.o rfl rfl (Nat.le_of_ble_eq_true rfl) (Nat.le_of_ble_eq_true rfl) (Nat.le_of_ble_eq_true rfl) rfl dX9_mixSet_84 (nx_tV) (kx_tV ?_)
              intro Mx hm
              refine r_iinc dX9_mixSet_87 rfl rfl ?_
              refine r_goto (tgt := 61) dX9_mixSet_90 (by decide) ?_
              refine J.loc (lsub_cons rfl (lsub_cons rfl (lsub_cons rfl (lsub_cons rfl (lsub_nil))))) (ih61 _ (hsI u ((fun q => blkV (n k) (F k) g (q / 6) (q % 6)) q)) _ ?_ ?_)
              · exact ⟨by omega, by omega, hm.q, by rw [hu, show (6 * nbF (n k) (F k) (g 0) (g 1) - q).toNat = (6 * nbF (n k) (F k) (g 0) (g 1) - (q + 1)).toNat + 1 by omega, hsF]⟩
              · omega
          · exact ⟨by omega, by omega, hm.q, by unfold hsB; rw [hz9, show (n k - p).toNat = 0 by omega, hsF]; simp⟩
        ·
          refine r_aload_n dX9_mixSet_36 rfl ?_
          refine r_aload_n dX9_mixSet_37 rfl ?_
          refine r_iload_n dX9_mixSet_38 rfl ?_
          refine r_iload_n dX9_mixSet_39 rfl ?_
          refine r_callV2 okX9_at ⟨by decide, by decide⟩ ml_X9_49 (mX9_at hm hz h0 h1 hp0 (by omega)) hm.o rfl rfl (Nat.le_of_ble_eq_true rfl) (Nat.le_of_ble_eq_true rfl) (Nat.le_of_ble_eq_true rfl) rfl dX9_mixSet_40 (nx_I) (kx_I ?_)
          refine r_i2l dX9_mixSet_43 ?_
          refine r_callV1 okX9_mix ⟨by decide, by decide⟩ ml_X9_248 (mX9_mix hm hi) hm.o rfl rfl (Nat.le_of_ble_eq_true rfl) (Nat.le_of_ble_eq_true rfl) (Nat.le_of_ble_eq_true rfl) rfl dX9_mixSet_44 (nx_tV) (kx_tV ?_)
          intro Mx hm
          refine r_iinc dX9_mixSet_47 rfl rfl ?_
          refine r_goto (tgt := 27) dX9_mixSet_50 (by decide) ?_
          refine J.loc (lsub_cons rfl (lsub_cons rfl (lsub_cons rfl (lsub_nil)))) (ih27 _ (hsI z (F k p)) _ ?_ ?_)
          · exact ⟨by omega, by omega, hm.q, by rw [hz9, show (n k - p).toNat = (n k - (p + 1)).toNat + 1 by omega, hsF]⟩
          · omega
      · exact ⟨by omega, by omega, hm.q, by unfold hsM; rw [hy, show (8 - w).toNat = 0 by omega, hsF]; simp⟩
    ·
      refine r_aload_n dX9_mixSet_8 rfl ?_
      refine r_aload_n dX9_mixSet_9 rfl ?_
      refine r_iload_n dX9_mixSet_10 rfl ?_
      refine r_iload_n dX9_mixSet_11 rfl ?_
      refine r_callV2 okX9_setNow ⟨by decide, by decide⟩ ml_X9_189 (mX9_setNow hm.q hi hz h0 h1 hg (by omega)) hm.o rfl rfl (Nat.le_of_ble_eq_true rfl) (Nat.le_of_ble_eq_true rfl) (Nat.le_of_ble_eq_true rfl) rfl dX9_mixSet_12 (nx_tI) (kx_tI ?_)
      intro Mx hq
      obtain ⟨rA, sA, bA, wA, rm, bk, hm⟩ := hq
      refine r_i2l dX9_mixSet_15 ?_
      refine r_callV1 okX9_mix ⟨by decide, by decide⟩ ml_X9_248 (mX9_mix hm hi) hm.o rfl rfl (Nat.le_of_ble_eq_true rfl) (Nat.le_of_ble_eq_true rfl) (Nat.le_of_ble_eq_true rfl) rfl dX9_mixSet_16 (nx_tV) (kx_tV ?_)
      intro Mx hm
      refine r_iinc dX9_mixSet_19 rfl rfl ?_
      refine r_goto (tgt := 2) dX9_mixSet_22 (by decide) ?_
      refine J.loc (lsub_cons rfl (lsub_cons rfl (lsub_cons rfl (lsub_nil)))) (ih2 _ (hsI y (ofV (n k) (F k) g w)) _ ?_ ?_)
      · exact ⟨by omega, by omega, hm.q, by rw [hy, show (8 - w).toNat = (8 - (w + 1)).toNat + 1 by omega, hsF]⟩
      · omega
  · exact ⟨by omega, by omega, hm.q, rfl⟩

theorem hsI_r (h : Int64) (x : Int) : 31 * h + (iN x).toInt64 = hsI h x := rfl

set_option maxHeartbeats 4000000 in
theorem mX9_smallness {M0 M : Mem} {ad : Int → Nat} {n : Int → Int} {F : Int → Int → Int} {g : Int → Int} {m : Int} {S : Int → Sg3} {len : Int} {c : Int → Int} {th : Int} (hR : RS M0 M ad (n, F, g) m S len c th) (hi : Inj ad) (hv : Vld (n, F, g)) : Ct KX9_smallness [.ref (ad 112)] M 0 0 (atD (smV n F g) (fun M2 => RS M0 M2 ad (n, F, g) m S len c 0)) := by
  refine Ct.of _ (by decide) rfl (Nat.le_of_ble_eq_true rfl) ?_
  obtain ⟨zA, hA, tA, pA, rd, nu, bd, sc, hs, ⟨rA, sA, bA, wA, rm, bk, hm⟩, hz, hh, hm6, ht, hl⟩ := hR
  change Zr zA n F g at hz
  refine r_aload_n dX9_smallness_0 rfl ?_
  refine r_iconst dX9_smallness_1 ?_
  refine r_putfield clX9 5 (by decide) fl_X9_34 rfl hm.o rfl rfl (Nat.le_of_ble_eq_true rfl) dX9_smallness_2 ?_
  refine hm.w_thrown hi (fun Mx hm => ?_)
  refine r_aload_n dX9_smallness_5 rfl ?_
  refine r_callV0 okX9_small ⟨by decide, by decide⟩ ml_X9_238 (mX9_small hm.q hi hz hv) hm.o rfl rfl (Nat.le_of_ble_eq_true rfl) (Nat.le_of_ble_eq_true rfl) (Nat.le_of_ble_eq_true rfl) rfl dX9_smallness_6 (nx_tD) (kx_tD ?_)
  intro Mx hq
  obtain ⟨rA, sA, bA, wA, rm, bk, hm⟩ := hq
  refine e_dreturn dX9_smallness_9 rfl (Nat.le_of_ble_eq_true rfl) (Nat.le_of_ble_eq_true rfl) ?_
  exact oktD rfl ⟨_, _, _, _, _, _, _, _, _, hm.q, hz, hh, hm6, ht, hl⟩

set_option maxHeartbeats 4000000 in
theorem mX9_digest {M0 M : Mem} {ad : Int → Nat} {n : Int → Int} {F : Int → Int → Int} {g : Int → Int} {m : Int} {S : Int → Sg3} {len : Int} {c : Int → Int} {th : Int} (hR : RS M0 M ad (n, F, g) m S len c th) (hi : Inj ad) (hv : Vld (n, F, g)) : Ct KX9_digest [.ref (ad 112)] M 0 0 (atL (dgV n F g m len c) (fun M2 => RS M0 M2 ad (n, F, g) m S len c 0)) := by
  refine Ct.of _ (by decide) rfl (Nat.le_of_ble_eq_true rfl) ?_
  obtain ⟨zA, hA, tA, pA, rd, nu, bd, sc, hs, ⟨rA, sA, bA, wA, rm, bk, hm⟩, hz, hh, hm6, ht, hl⟩ := hR
  change Zr zA n F g at hz
  have hsts := hz.sts hv
  obtain ⟨cc, qq, hsm, hsm1, hsm2, hsm3⟩ := smV_ok hsts g
  refine r_aload_n dX9_digest_0 rfl ?_
  refine r_iconst dX9_digest_1 ?_
  refine r_putfield clX9 5 (by decide) fl_X9_34 rfl hm.o rfl rfl (Nat.le_of_ble_eq_true rfl) dX9_digest_2 ?_
  refine hm.w_thrown hi (fun Mx hm => ?_)
  refine r_aload_n dX9_digest_5 rfl ?_
  refine r_ldc2 dX9_digest_6 kl_X9_252 ?_
  refine r_putfield clX9 17 (by decide) fl_X9_244 rfl hm.o rfl rfl (Nat.le_of_ble_eq_true rfl) dX9_digest_9 ?_
  refine hm.w_hash hi (fun Mx hm => ?_)
  refine r_iconst dX9_digest_12 ?_
  refine r_istore_n dX9_digest_13 (by decide) rfl ?_
  refine J.loc (L' := [(0, some _), (1, some _)]) (lsub_cons rfl (lsub_cons rfl (lsub_nil))) (loop3 (fun (w : Int) (y : Int64) (M1 : Mem) => 0 ≤ w ∧ w ≤ 7 ∧ RQ M0 M1 ad zA hA tA pA m len 0 rd nu bd sc y ∧ hsF (cntV n F g m) 7 0 2617 = hsF (cntV n F g m) (7 - w).toNat w y) (fun (w : Int) (y : Int64) (M1 : Mem) => (7 - w).toNat) (fun (w : Int) (y : Int64) (M1 : Mem) => J KX9_digest 0 0 _ 14 [(0, some (.ref (ad 112))), (1, some (vI w))] [] M1 _ _) (fun w y M1 hI14 ih14 => ?_) _ 2617 _ ?_)
  ·
    obtain ⟨hw0, hw1, hq, hy⟩ := hI14
    obtain ⟨rA, sA, bA, wA, rm, bk, hm⟩ := hq
    refine r_iload_n dX9_digest_14 rfl ?_
    refine r_bipush dX9_digest_15 (by decide) ?_
    refine r_icmp_ge (tgt := 36) dX9_digest_17 (by decide) (by omega) (by omega) (fun h17 => ?_) (fun h17 => ?_)
    ·
      refine r_aload_n dX9_digest_36 rfl ?_
      refine r_aload_n dX9_digest_37 rfl ?_
      refine r_getfield clX9 0 (by decide) fl_X9_7 hm.o rfl dX9_digest_38 ?_
      refine r_iconst dX9_digest_41 ?_
      refine r_iaload hm.z (by omega) (by omega) (by omega) dX9_digest_42 ?_
      rw [hz.1]
      refine r_i2l dX9_digest_43 ?_
      refine r_callV1 okX9_mix ⟨by decide, by decide⟩ ml_X9_248 (mX9_mix hm hi) hm.o rfl rfl (Nat.le_of_ble_eq_true rfl) (Nat.le_of_ble_eq_true rfl) (Nat.le_of_ble_eq_true rfl) rfl dX9_digest_44 (nx_tV) (kx_tV ?_)
      intro Mx hm
      refine r_aload_n dX9_digest_47 rfl ?_
      refine r_aload_n dX9_digest_48 rfl ?_
      refine r_getfield clX9 0 (by decide) fl_X9_7 hm.o rfl dX9_digest_49 ?_
      refine r_iconst dX9_digest_52 ?_
      refine r_iaload hm.z (by omega) (by omega) (by omega) dX9_digest_53 ?_
      rw [hz.2.1]
      refine r_i2l dX9_digest_54 ?_
      refine r_callV1 okX9_mix ⟨by decide, by decide⟩ ml_X9_248 (mX9_mix hm hi) hm.o rfl rfl (Nat.le_of_ble_eq_true rfl) (Nat.le_of_ble_eq_true rfl) (Nat.le_of_ble_eq_true rfl) rfl dX9_digest_55 (nx_tV) (kx_tV ?_)
      intro Mx hm
      refine r_iconst dX9_digest_58 ?_
      refine r_istore_n dX9_digest_59 (by decide) rfl ?_
      refine J.loc (L' := [(0, some _), (1, some _)]) (lsub_cons rfl (lsub_cons rfl (lsub_nil))) (loop3 (fun (k : Int) (u : Int64) (M3 : Mem) => 0 ≤ k ∧ k ≤ 4 ∧ RQ M0 M3 ad zA hA tA pA m len 0 rd nu bd sc u ∧ hsS n F g 4 0 (hsF g 2 0 (hsF (cntV n F g m) 7 0 2617)) = hsS n F g (4 - k).toNat k u) (fun (k : Int) (u : Int64) (M3 : Mem) => (4 - k).toNat) (fun (k : Int) (u : Int64) (M3 : Mem) => J KX9_digest 0 0 _ 60 [(0, some (.ref (ad 112))), (1, some (vI k))] [] M3 _ _) (fun k u M3 hI60 ih60 => ?_) _ (hsI (hsI y (g 0)) (g 1)) _ ?_)
      ·
        obtain ⟨hk0, hk1, hq, hu⟩ := hI60
        obtain ⟨rA, sA, bA, wA, rm, bk, hm⟩ := hq
        refine r_iload_n dX9_digest_60 rfl ?_
        refine r_iconst dX9_digest_61 ?_
        refine r_icmp_ge (tgt := 76) dX9_digest_62 (by decide) (by omega) (by omega) (fun h62 => ?_) (fun h62 => ?_)
        ·
          refine r_aload_n dX9_digest_76 rfl ?_
          refine r_aload_n dX9_digest_77 rfl ?_
          refine r_callV0 okX9_bestNow ⟨by decide, by decide⟩ ml_X9_235 (mX9_bestNow hm.q hi hz hv) hm.o rfl rfl (Nat.le_of_ble_eq_true rfl) (Nat.le_of_ble_eq_true rfl) (Nat.le_of_ble_eq_true rfl) rfl dX9_digest_78 (nx_tI) (kx_tI ?_)
          intro Mx hq
          obtain ⟨rA, sA, bA, wA, rm, bk, hm⟩ := hq
          refine r_i2l dX9_digest_81 ?_
          refine r_callV1 okX9_mix ⟨by decide, by decide⟩ ml_X9_248 (mX9_mix hm hi) hm.o rfl rfl (Nat.le_of_ble_eq_true rfl) (Nat.le_of_ble_eq_true rfl) (Nat.le_of_ble_eq_true rfl) rfl dX9_digest_82 (nx_tV) (kx_tV ?_)
          intro Mx hm
          refine r_aload_n dX9_digest_85 rfl ?_
          refine r_aload_n dX9_digest_86 rfl ?_
          refine r_callV0 okX9_small ⟨by decide, by decide⟩ ml_X9_238 (mX9_small hm.q hi hz hv) hm.o rfl rfl (Nat.le_of_ble_eq_true rfl) (Nat.le_of_ble_eq_true rfl) (Nat.le_of_ble_eq_true rfl) rfl dX9_digest_87 (nx_tD) (kx_tD ?_)
          intro Mx hq
          obtain ⟨rA, sA, bA, wA, rm, bk, hm⟩ := hq
          refine r_callS1 okD_d2l ⟨by decide, by decide⟩ ml_X9_257 (mD_d2l hsm) (Nat.le_of_ble_eq_true rfl) (Nat.le_of_ble_eq_true rfl) (Nat.le_of_ble_eq_true rfl) rfl dX9_digest_90 (nx_L) (kx_L ?_)
          refine r_callV1 okX9_mix ⟨by decide, by decide⟩ ml_X9_248 (mX9_mix hm hi) hm.o rfl rfl (Nat.le_of_ble_eq_true rfl) (Nat.le_of_ble_eq_true rfl) (Nat.le_of_ble_eq_true rfl) rfl dX9_digest_93 (nx_tV) (kx_tV ?_)
          intro Mx hm
          refine r_aload_n dX9_digest_96 rfl ?_
          refine r_aload_n dX9_digest_97 rfl ?_
          refine r_getfield clX9 3 (by decide) fl_X9_127 hm.o rfl dX9_digest_98 ?_
          refine r_i2l dX9_digest_101 ?_
          refine r_callV1 okX9_mix ⟨by decide, by decide⟩ ml_X9_248 (mX9_mix hm hi) hm.o rfl rfl (Nat.le_of_ble_eq_true rfl) (Nat.le_of_ble_eq_true rfl) (Nat.le_of_ble_eq_true rfl) rfl dX9_digest_102 (nx_tV) (kx_tV ?_)
          intro Mx hm
          refine r_iconst dX9_digest_105 ?_
          refine r_istore_n dX9_digest_106 (by decide) rfl ?_
          refine J.loc (L' := [(0, some _), (1, some _)]) (lsub_cons rfl (lsub_cons rfl (lsub_nil))) (loop3 (fun (p : Int) (t : Int64) (M5 : Mem) => 0 ≤ p ∧ p ≤ len ∧ RQ M0 M5 ad zA hA tA pA m len 0 rd nu bd sc t ∧ dgV n F g m len c = hsF c (len - p).toNat p t) (fun (p : Int) (t : Int64) (M5 : Mem) => (len - p).toNat) (fun (p : Int) (t : Int64) (M5 : Mem) => J KX9_digest 0 0 _ 107 [(0, some (.ref (ad 112))), (1, some (vI p))] [] M5 _ _) (fun p t M5 hI107 ih107 => ?_) _ (hsI (31 * hsI u (bwV n F g) + (smV n F g).toInt64) len) _ ?_)
          ·
            obtain ⟨hp0, hp1, hq, ht9⟩ := hI107
            obtain ⟨rA, sA, bA, wA, rm, bk, hm⟩ := hq
            refine r_iload_n dX9_digest_107 rfl ?_
            refine r_aload_n dX9_digest_108 rfl ?_
            refine r_getfield clX9 3 (by decide) fl_X9_127 hm.o rfl dX9_digest_109 ?_
            refine r_icmp_ge (tgt := 132) dX9_digest_112 (by decide) (by omega) (by omega) (fun h112 => ?_) (fun h112 => ?_)
            ·
              refine r_aload_n dX9_digest_132 rfl ?_
              refine r_getfield clX9 17 (by decide) fl_X9_244 hm.o rfl dX9_digest_133 ?_
              refine e_lreturn dX9_digest_136 rfl (Nat.le_of_ble_eq_true rfl) (Nat.le_of_ble_eq_true rfl) ?_
              exact oktL (by rw [ht9, show (len - p).toNat = 0 by omega, hsF]) ⟨_, _, _, _, _, _, _, _, _, hm.q, hz, hh, hm6, ht, hl⟩
            ·
              have htp := ht p hp0 (by omega)
              refine r_aload_n dX9_digest_115 rfl ?_
              refine r_aload_n dX9_digest_116 rfl ?_
              refine r_getfield clX9 4 (by decide) fl_X9_16 hm.o rfl dX9_digest_117 ?_
              refine r_iload_n dX9_digest_120 rfl ?_
              refine r_iaload hm.t (by omega) (by omega) (by omega) dX9_digest_121 ?_
              rw [(ht p hp0 (by omega)).1]
              refine r_i2l dX9_digest_122 ?_
              refine r_callV1 okX9_mix ⟨by decide, by decide⟩ ml_X9_248 (mX9_mix hm hi) hm.o rfl rfl (Nat.le_of_ble_eq_true rfl) (Nat.le_of_ble_eq_true rfl) (Nat.le_of_ble_eq_true rfl) rfl dX9_digest_123 (nx_tV) (kx_tV ?_)
              intro Mx hm
              refine r_iinc dX9_digest_126 rfl rfl ?_
              refine r_goto (tgt := 107) dX9_digest_129 (by decide) ?_
              refine J.loc (lsub_cons rfl (lsub_cons rfl (lsub_nil))) (ih107 _ (hsI t (c p)) _ ?_ ?_)
              · exact ⟨by omega, by omega, hm.q, by rw [ht9, show (len - p).toNat = (len - (p + 1)).toNat + 1 by omega, hsF]⟩
              · omega
          · exact ⟨by omega, by omega, hm.q, by unfold dgV hsE; rw [hu, show (4 - k).toNat = 0 by omega, hsS]; simp⟩
        ·
          refine r_aload_n dX9_digest_65 rfl ?_
          refine r_iload_n dX9_digest_66 rfl ?_
          refine r_callV1 okX9_mixSet ⟨by decide, by decide⟩ ml_X9_254 (mX9_mixSet hm.q hi hz (by omega) (by omega) hv) hm.o rfl rfl (Nat.le_of_ble_eq_true rfl) (Nat.le_of_ble_eq_true rfl) (Nat.le_of_ble_eq_true rfl) rfl dX9_digest_67 (nx_tV) (kx_tV ?_)
          intro Mx hq
          obtain ⟨rA, sA, bA, wA, rm, bk, hm⟩ := hq
          refine r_iinc dX9_digest_70 rfl rfl ?_
          refine r_goto (tgt := 60) dX9_digest_73 (by decide) ?_
          refine J.loc (lsub_cons rfl (lsub_cons rfl (lsub_nil))) (ih60 _ (hsK n F g k (hsB n F g k (hsM n F g k u))) _ ?_ ?_)
          · exact ⟨by omega, by omega, hm.q, by rw [hu, show (4 - k).toNat = (4 - (k + 1)).toNat + 1 by omega, hsS]⟩
          · omega
      · exact ⟨by omega, by omega, hm.q, by rw [hy, show (7 - w).toNat = 0 by omega, hsF]; rfl⟩
    ·
      refine r_aload_n dX9_digest_20 rfl ?_
      refine r_aload_n dX9_digest_21 rfl ?_
      refine r_iload_n dX9_digest_22 rfl ?_
      refine r_callV1 okX9_counted ⟨by decide, by decide⟩ ml_X9_220 (mX9_counted hm.q hi hz hv (by omega)) hm.o rfl rfl (Nat.le_of_ble_eq_true rfl) (Nat.le_of_ble_eq_true rfl) (Nat.le_of_ble_eq_true rfl) rfl dX9_digest_23 (nx_tI) (kx_tI ?_)
      intro Mx hq
      obtain ⟨rA, sA, bA, wA, rm, bk, hm⟩ := hq
      refine r_i2l dX9_digest_26 ?_
      refine r_callV1 okX9_mix ⟨by decide, by decide⟩ ml_X9_248 (mX9_mix hm hi) hm.o rfl rfl (Nat.le_of_ble_eq_true rfl) (Nat.le_of_ble_eq_true rfl) (Nat.le_of_ble_eq_true rfl) rfl dX9_digest_27 (nx_tV) (kx_tV ?_)
      intro Mx hm
      refine r_iinc dX9_digest_30 rfl rfl ?_
      refine r_goto (tgt := 14) dX9_digest_33 (by decide) ?_
      refine J.loc (lsub_cons rfl (lsub_cons rfl (lsub_nil))) (ih14 _ (hsI y (cntV n F g m w)) _ ?_ ?_)
      · exact ⟨by omega, by omega, hm.q, by rw [hy, show (7 - w).toNat = (7 - (w + 1)).toNat + 1 by omega, hsF]⟩
      · omega
  · exact ⟨by omega, by omega, hm.q, rfl⟩
