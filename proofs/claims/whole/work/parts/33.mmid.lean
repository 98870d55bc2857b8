/-- .. with rows that stand for nothing -/
def RQ (M0 M : Mem) (ad : Int → Nat) (zA hA tA pA : Int → Int) (m len th rd nu bd sc : Int) (hs : Int64) : Prop := ∃ (rA sA bA wA : Int → Int) (rm bk : Int), RM M0 M ad zA hA tA rA sA pA bA wA m len th rm bk rd nu bd sc hs
theorem RM.q {M0 M : Mem} {ad : Int → Nat} {zA hA tA rA sA pA bA wA : Int → Int} {m len th rm bk rd nu bd sc : Int} {hs : Int64} (hm : RM M0 M ad zA hA tA rA sA pA bA wA m len th rm bk rd nu bd sc hs) : RQ M0 M ad zA hA tA pA m len th rd nu bd sc hs := ⟨_, _, _, _, _, _, hm⟩
/-- the row of saved states -/
abbrev Zq (z : Int → Int) (σ : Sg3) : Prop := Zr z σ.1 σ.2.1 σ.2.2
def Hr (h : Int → Int) (m : Int) (S : Int → Sg3) : Prop := ∀ j, 0 ≤ j → j < m → Zq (fun i => h (246 * j + i)) (S j)
theorem Zr.atr {z n : Int → Int} {F : Int → Int → Int} {g : Int → Int} (h : Zr z n F g) {k : Int} (h0 : 0 ≤ k) (h1 : k < 4) (p : Int) : -1 ≤ atF (n k) (F k) p ∧ atF (n k) (F k) p ≤ 9999 := by
  unfold atF
  split
  · next q => have := (h.f h0 h1 q.1 q.2).2; omega
  · omega
theorem bby_r {n : Int} (h : 0 ≤ n ∧ n ≤ 61) (R : Int → Int) (a b : Int) {q : Int} (hq : 0 ≤ q ∧ q < nbF n R a b) : 0 ≤ bbyF n R (stF n R a b) q ∧ bbyF n R (stF n R a b) q ≤ 200 := by
  have hsp := blk_spec h.1 R a b
  have hs0 := hsp.2.2.2.2.2.1 q hq.1 hq.2
  have hs1 : 0 ≤ stF n R a b (q + 1) ∧ stF n R a b (q + 1) ≤ n := by
    by_cases e : q + 1 = nbF n R a b
    · rw [e, hsp.2.2.2.2.1]; omega
    · have := hsp.2.2.2.2.2.1 (q + 1) (by omega) (by omega); omega
  have := smF_r (f := fun p => gby (gapF n R p)) (lo := 1) (hi := 2) (stF n R a b (q + 1) - (stF n R a b q + 1)).toNat (stF n R a b q + 1) (fun j _ _ => gby_r _)
  unfold bbyF
  omega
/-- whether a number of one set (x), of the other one (y) belongs to what is made -/
def blg (x y how : Int) : Int := if how = 0 then (if x = 0 ∧ y = 0 then 0 else 1) else if how = 1 then (if x = 1 ∧ y = 1 then 1 else 0) else if how = 2 then (if x = 1 ∧ y = 0 then 1 else 0) else if x = y then 0 else 1
set_option maxHeartbeats 4000000 in
theorem mX9_blocksOf {M0 M : Mem} {ad : Int → Nat} {zA hA tA rA sA pA bA wA : Int → Int} {m len th rm bk rd nu bd sc : Int} {hs : Int64} {n : Int → Int} {F : Int → Int → Int} {g : Int → Int} {k : Int} (hm : RM M0 M ad zA hA tA rA sA pA bA wA m len th rm bk rd nu bd sc hs) (hi : Inj ad) (hz : Zr zA n F g) (h0 : 0 ≤ k) (h1 : k < 4) (hg : (2 ≤ g 0 ∧ g 0 ≤ 16) ∧ 1 ≤ g 1 ∧ g 1 ≤ 9999) : Ct KX9_blocksOf [.ref (ad 112), vI k] M 0 0 (atV (fun M2 => ∃ r2 s2 : Int → Int, RM M0 M2 ad zA hA tA r2 s2 pA bA wA m len th (n k) (nbF (n k) (F k) (g 0) (g 1)) rd nu bd sc hs ∧ (∀ p, 0 ≤ p → p < n k → r2 p = F k p) ∧ ∀ j, 0 ≤ j → j ≤ nbF (n k) (F k) (g 0) (g 1) → s2 j = stF (n k) (F k) (g 0) (g 1) j)) := by
  refine Ct.of _ (by decide) rfl (Nat.le_of_ble_eq_true rfl) ?_
  have hzn := hz.n h0 h1
  refine r_aload_n dX9_blocksOf_0 rfl ?_
  refine r_iload_n dX9_blocksOf_1 rfl ?_
  refine r_callV1 okX9_takeRow ⟨by decide, by decide⟩ ml_X9_62 (mX9_takeRow hm hi hz (by omega) (by omega)) hm.o rfl rfl (Nat.le_of_ble_eq_true rfl) (Nat.le_of_ble_eq_true rfl) (Nat.le_of_ble_eq_true rfl) rfl dX9_blocksOf_2 (nx_tV) (kx_tV ?_)
  intro Mx hM
  obtain ⟨rA, hm, hrA⟩ := hM
  have hr : ∀ p, 0 ≤ p → p < n k → rA p = F k p ∧ 0 ≤ F k p ∧ F k p ≤ 9999 := fun p a b => ⟨hrA p a b, (hz.f (by omega) (by omega) a b).2⟩
  refine r_aload_n dX9_blocksOf_5 rfl ?_
  refine r_aload_n dX9_blocksOf_6 rfl ?_
  refine r_getfield clX9 0 (by decide) fl_X9_7 hm.o rfl dX9_blocksOf_7 ?_
  refine r_iconst dX9_blocksOf_10 ?_
  refine r_iaload hm.z (by omega) (by omega) (by omega) dX9_blocksOf_11 ?_
  rw [hz.1]
  refine r_aload_n dX9_blocksOf_12 rfl ?_
  refine r_getfield clX9 0 (by decide) fl_X9_7 hm.o rfl dX9_blocksOf_13 ?_
  refine r_iconst dX9_blocksOf_16 ?_
  refine r_iaload hm.z (by omega) (by omega) (by omega) dX9_blocksOf_17 ?_
  rw [hz.2.1]
  refine r_callV2 okX9_layBlocks ⟨by decide, by decide⟩ ml_X9_66 (mX9_layBlocks (R := F k) (a := g 0) (b := g 1) hm hi (by omega) hr (by omega) (by omega)) hm.o rfl rfl (Nat.le_of_ble_eq_true rfl) (Nat.le_of_ble_eq_true rfl) (Nat.le_of_ble_eq_true rfl) rfl dX9_blocksOf_18 (nx_tV) (kx_tV ?_)
  intro Mx hM
  obtain ⟨sA, hm, hsA⟩ := hM
  refine e_return dX9_blocksOf_21 rfl (Nat.le_of_ble_eq_true rfl) (Nat.le_of_ble_eq_true rfl) ?_
  exact oktV ⟨rA, sA, hm, hrA, hsA⟩

set_option maxHeartbeats 4000000 in
theorem mX9_bytesOf {M0 M : Mem} {ad : Int → Nat} {zA hA tA rA sA pA bA wA : Int → Int} {m len th rm bk rd nu bd sc : Int} {hs : Int64} {R : Int → Int} {a b q : Int} (hm : RM M0 M ad zA hA tA rA sA pA bA wA m len th rm bk rd nu bd sc hs) (h2 : 0 ≤ rm ∧ rm ≤ 61) (hr : ∀ p, 0 ≤ p → p < rm → rA p = R p ∧ 0 ≤ R p ∧ R p ≤ 9999) (hbk : bk = nbF rm R a b) (hsA : ∀ j, 0 ≤ j → j ≤ nbF rm R a b → sA j = stF rm R a b j) (q0 : 0 ≤ q ∧ q < nbF rm R a b) : Ct KX9_bytesOf [.ref (ad 112), vI q] M 0 0 (rtI (bbyF rm R (stF rm R a b) q) M) := by
  refine Ct.of _ (by decide) rfl (Nat.le_of_ble_eq_true rfl) ?_
  have hsp := blk_spec h2.1 R a b
  have hs0 := hsp.2.2.2.2.2.1 q q0.1 q0.2
  have hs1 : 0 ≤ stF rm R a b (q + 1) ∧ stF rm R a b (q + 1) ≤ rm := by
    by_cases e : q + 1 = nbF rm R a b
    · rw [e, hsp.2.2.2.2.1]; omega
    · have := hsp.2.2.2.2.2.1 (q + 1) (by omega) (by omega); omega
  have hsa0 := hsA q (by omega) (by omega)
  have hsa1 := hsA (q + 1) (by omega) (by omega)
  refine r_iconst dX9_bytesOf_0 ?_
  refine r_istore_n dX9_bytesOf_1 (by decide) rfl ?_
  refine r_aload_n dX9_bytesOf_2 rfl ?_
  refine r_getfield clX9 8 (by decide) fl_X9_22 hm.o rfl dX9_bytesOf_3 ?_
  refine r_iload_n dX9_bytesOf_6 rfl ?_
  refine r_iaload hm.s (by omega) (by omega) (by omega) dX9_bytesOf_7 ?_
  rw [hsa0]
  refine r_iconst dX9_bytesOf_8 ?_
  refine r_iadd dX9_bytesOf_9 ?_
  refine r_istore_n dX9_bytesOf_10 (by decide) rfl ?_
  refine J.loc (L' := [(0, some _), (1, some _), (2, some _), (3, some _)]) (lsub_cons rfl (lsub_cons rfl (lsub_cons rfl (lsub_cons rfl (lsub_nil))))) (loop2 (fun (p : Int) (y : Int) => stF rm R a b q + 1 ≤ p ∧ (p ≤ stF rm R a b (q + 1) ∨ p = stF rm R a b q + 1) ∧ 0 ≤ y ∧ y ≤ 3 + 2 * p ∧ bbyF rm R (stF rm R a b) q = y + smF (fun p => gby (gapF rm R p)) (stF rm R a b (q + 1) - p).toNat p) (fun (p : Int) (y : Int) => (stF rm R a b (q + 1) - p).toNat) (fun (p : Int) (y : Int) => J KX9_bytesOf 0 0 _ 11 [(0, some (.ref (ad 112))), (1, some (vI q)), (2, some (vI y)), (3, some (vI p))] [] M _ _) (fun p y hI11 ih11 => ?_) _ _ ?_)
  ·
    obtain ⟨hp0, hp1, hy0, hy1, hy2⟩ := hI11
    refine r_iload_n dX9_bytesOf_11 rfl ?_
    refine r_aload_n dX9_bytesOf_12 rfl ?_
    refine r_getfield clX9 8 (by decide) fl_X9_22 hm.o rfl dX9_bytesOf_13 ?_
    refine r_iload_n dX9_bytesOf_16 rfl ?_
    refine r_iconst dX9_bytesOf_17 ?_
    refine r_iadd dX9_bytesOf_18 ?_
    refine r_iaload hm.s (by omega) (by omega) (by omega) dX9_bytesOf_19 ?_
    rw [hsa1]
    refine r_icmp_ge (tgt := 58) dX9_bytesOf_20 (by decide) (by omega) (by omega) (fun h20 => ?_) (fun h20 => ?_)
    ·
      refine r_iload_n dX9_bytesOf_58 rfl ?_
      refine e_ireturn dX9_bytesOf_59 rfl (Nat.le_of_ble_eq_true rfl) (Nat.le_of_ble_eq_true rfl) ?_
      exact okI (by rw [hy2, show (stF rm R a b (q + 1) - p).toNat = 0 by omega, smF]; omega)
    ·
      have hr0 := hr p (by omega) (by omega)
      have hr1 := hr (p - 1) (by omega) (by omega)
      have hgp : rA p - rA (p - 1) = gapF rm R p := by rw [gapF_in (by omega) (by omega)]; omega
      refine r_iload_n dX9_bytesOf_23 rfl ?_
      refine r_aload_n dX9_bytesOf_24 rfl ?_
      refine r_getfield clX9 6 (by decide) fl_X9_19 hm.o rfl dX9_bytesOf_25 ?_
      refine r_iload_n dX9_bytesOf_28 rfl ?_
      refine r_iaload hm.r (by omega) (by omega) (by omega) dX9_bytesOf_29 ?_
      refine r_aload_n dX9_bytesOf_30 rfl ?_
      refine r_getfield clX9 6 (by decide) fl_X9_19 hm.o rfl dX9_bytesOf_31 ?_
      refine r_iload_n dX9_bytesOf_34 rfl ?_
      refine r_iconst dX9_bytesOf_35 ?_
      refine r_isub dX9_bytesOf_36 ?_
      refine r_iaload hm.r (by omega) (by omega) (by omega) dX9_bytesOf_37 ?_
      refine r_isub dX9_bytesOf_38 ?_
      refine r_sipush dX9_bytesOf_39 (by decide) ?_
      refine r_icmp_ge (tgt := 49) dX9_bytesOf_42 (by decide) (by omega) (by omega) (fun h42 => ?_) (fun h42 => ?_)
      ·
        refine r_iconst dX9_bytesOf_49 ?_
        refine r_iadd dX9_bytesOf_50 ?_
        refine r_istore_n dX9_bytesOf_51 (by decide) rfl ?_
        refine r_iinc dX9_bytesOf_52 rfl rfl ?_
        refine r_goto (tgt := 11) dX9_bytesOf_55 (by decide) ?_
        refine J.loc (lsub_cons rfl (lsub_cons rfl (lsub_cons rfl (lsub_cons rfl (lsub_nil))))) (ih11 _ _ ?_ ?_)
        · refine ⟨by omega, by omega, by omega, by omega, ?_⟩
          rw [hy2, show (stF rm R a b (q + 1) - p).toNat = (stF rm R a b (q + 1) - (p + 1)).toNat + 1 by omega, smF, show gby (gapF rm R p) = 2 by unfold gby; rw [if_neg (by omega)]]
          omega
        · omega
      ·
        refine r_iconst dX9_bytesOf_45 ?_
        refine r_goto (tgt := 50) dX9_bytesOf_46 (by decide) ?_
        refine r_iadd dX9_bytesOf_50 ?_
        refine r_istore_n dX9_bytesOf_51 (by decide) rfl ?_
        refine r_iinc dX9_bytesOf_52 rfl rfl ?_
        refine r_goto (tgt := 11) dX9_bytesOf_55 (by decide) ?_
        refine J.loc (lsub_cons rfl (lsub_cons rfl (lsub_cons rfl (lsub_cons rfl (lsub_nil))))) (ih11 _ _ ?_ ?_)
        · refine ⟨by omega, by omega, by omega, by omega, ?_⟩
          rw [hy2, show (stF rm R a b (q + 1) - p).toNat = (stF rm R a b (q + 1) - (p + 1)).toNat + 1 by omega, smF, show gby (gapF rm R p) = 1 by unfold gby; rw [if_pos (by omega)]]
          omega
        · omega
  · exact ⟨by omega, by omega, by omega, by omega, rfl⟩

set_option maxHeartbeats 4000000 in
theorem mX9_greatestGap {M0 M : Mem} {ad : Int → Nat} {zA hA tA rA sA pA bA wA : Int → Int} {m len th rm bk rd nu bd sc : Int} {hs : Int64} {R : Int → Int} {a b q : Int} (hm : RM M0 M ad zA hA tA rA sA pA bA wA m len th rm bk rd nu bd sc hs) (h2 : 0 ≤ rm ∧ rm ≤ 61) (hr : ∀ p, 0 ≤ p → p < rm → rA p = R p ∧ 0 ≤ R p ∧ R p ≤ 9999) (hbk : bk = nbF rm R a b) (hsA : ∀ j, 0 ≤ j → j ≤ nbF rm R a b → sA j = stF rm R a b j) (q0 : 0 ≤ q ∧ q < nbF rm R a b) : Ct KX9_greatestGap [.ref (ad 112), vI q] M 0 0 (rtI (bgpF rm R (stF rm R a b) q) M) := by
  refine Ct.of _ (by decide) rfl (Nat.le_of_ble_eq_true rfl) ?_
  have hsp := blk_spec h2.1 R a b
  have hs0 := hsp.2.2.2.2.2.1 q q0.1 q0.2
  have hs1 : 0 ≤ stF rm R a b (q + 1) ∧ stF rm R a b (q + 1) ≤ rm := by
    by_cases e : q + 1 = nbF rm R a b
    · rw [e, hsp.2.2.2.2.1]; omega
    · have := hsp.2.2.2.2.2.1 (q + 1) (by omega) (by omega); omega
  have hsa0 := hsA q (by omega) (by omega)
  have hsa1 := hsA (q + 1) (by omega) (by omega)
  refine r_iconst dX9_greatestGap_0 ?_
  refine r_istore_n dX9_greatestGap_1 (by decide) rfl ?_
  refine r_aload_n dX9_greatestGap_2 rfl ?_
  refine r_getfield clX9 8 (by decide) fl_X9_22 hm.o rfl dX9_greatestGap_3 ?_
  refine r_iload_n dX9_greatestGap_6 rfl ?_
  refine r_iaload hm.s (by omega) (by omega) (by omega) dX9_greatestGap_7 ?_
  rw [hsa0]
  refine r_iconst dX9_greatestGap_8 ?_
  refine r_iadd dX9_greatestGap_9 ?_
  refine r_istore_n dX9_greatestGap_10 (by decide) rfl ?_
  refine J.loc (L' := [(0, some _), (1, some _), (2, some _), (3, some _)]) (lsub_cons rfl (lsub_cons rfl (lsub_cons rfl (lsub_cons rfl (lsub_nil))))) (loop2 (fun (p : Int) (y : Int) => stF rm R a b q + 1 ≤ p ∧ (p ≤ stF rm R a b (q + 1) ∨ p = stF rm R a b q + 1) ∧ 0 ≤ y ∧ y ≤ 9999 ∧ bgpF rm R (stF rm R a b) q = mxF (gapF rm R) (stF rm R a b (q + 1) - p).toNat p y) (fun (p : Int) (y : Int) => (stF rm R a b (q + 1) - p).toNat) (fun (p : Int) (y : Int) => J KX9_greatestGap 0 0 _ 11 [(0, some (.ref (ad 112))), (1, some (vI q)), (2, some (vI y)), (3, some (vI p))] [] M _ _) (fun p y hI11 ih11 => ?_) _ _ ?_)
  ·
    obtain ⟨hp0, hp1, hy0, hy1, hy2⟩ := hI11
    refine r_iload_n dX9_greatestGap_11 rfl ?_
    refine r_aload_n dX9_greatestGap_12 rfl ?_
    refine r_getfield clX9 8 (by decide) fl_X9_22 hm.o rfl dX9_greatestGap_13 ?_
    refine r_iload_n dX9_greatestGap_16 rfl ?_
    refine r_iconst dX9_greatestGap_17 ?_
    refine r_iadd dX9_greatestGap_18 ?_
    refine r_iaload hm.s (by omega) (by omega) (by omega) dX9_greatestGap_19 ?_
    rw [hsa1]
    refine r_icmp_ge (tgt := 59) dX9_greatestGap_20 (by decide) (by omega) (by omega) (fun h20 => ?_) (fun h20 => ?_)
    ·
      refine r_iload_n dX9_greatestGap_59 rfl ?_
      refine e_ireturn dX9_greatestGap_60 rfl (Nat.le_of_ble_eq_true rfl) (Nat.le_of_ble_eq_true rfl) ?_
      exact okI (by rw [hy2, show (stF rm R a b (q + 1) - p).toNat = 0 by omega, mxF])
    ·
      have hr0 := hr p (by omega) (by omega)
      have hr1 := hr (p - 1) (by omega) (by omega)
      have hgp : rA p - rA (p - 1) = gapF rm R p := by rw [gapF_in (by omega) (by omega)]; omega
      refine r_aload_n dX9_greatestGap_23 rfl ?_
      refine r_getfield clX9 6 (by decide) fl_X9_19 hm.o rfl dX9_greatestGap_24 ?_
      refine r_iload_n dX9_greatestGap_27 rfl ?_
      refine r_iaload hm.r (by omega) (by omega) (by omega) dX9_greatestGap_28 ?_
      refine r_aload_n dX9_greatestGap_29 rfl ?_
      refine r_getfield clX9 6 (by decide) fl_X9_19 hm.o rfl dX9_greatestGap_30 ?_
      refine r_iload_n dX9_greatestGap_33 rfl ?_
      refine r_iconst dX9_greatestGap_34 ?_
      refine r_isub dX9_greatestGap_35 ?_
      refine r_iaload hm.r (by omega) (by omega) (by omega) dX9_greatestGap_36 ?_
      refine r_isub dX9_greatestGap_37 ?_
      refine r_istore dX9_greatestGap_38 (by decide) rfl ?_
      refine r_iload dX9_greatestGap_40 rfl ?_
      refine r_iload_n dX9_greatestGap_42 rfl ?_
      refine r_icmp_le (tgt := 51) dX9_greatestGap_43 (by decide) (by omega) (by omega) (fun h43 => ?_) (fun h43 => ?_)
      ·
        refine r_iload_n dX9_greatestGap_51 rfl ?_
        refine r_istore_n dX9_greatestGap_52 (by decide) rfl ?_
        refine r_iinc dX9_greatestGap_53 rfl rfl ?_
        refine r_goto (tgt := 11) dX9_greatestGap_56 (by decide) ?_
        refine J.loc (lsub_cons rfl (lsub_cons rfl (lsub_cons rfl (lsub_cons rfl (lsub_nil))))) (ih11 _ _ ?_ ?_)
        · refine ⟨by omega, by omega, by omega, by omega, ?_⟩
          rw [hy2, show (stF rm R a b (q + 1) - p).toNat = (stF rm R a b (q + 1) - (p + 1)).toNat + 1 by omega, mxF, if_neg (by omega)]
        · omega
      ·
        refine r_iload dX9_greatestGap_46 rfl ?_
        refine r_goto (tgt := 52) dX9_greatestGap_48 (by decide) ?_
        refine r_istore_n dX9_greatestGap_52 (by decide) rfl ?_
        refine r_iinc dX9_greatestGap_53 rfl rfl ?_
        refine r_goto (tgt := 11) dX9_greatestGap_56 (by decide) ?_
        refine J.loc (lsub_cons rfl (lsub_cons rfl (lsub_cons rfl (lsub_cons rfl (lsub_nil))))) (ih11 _ _ ?_ ?_)
        · refine ⟨by omega, by omega, by omega, by omega, ?_⟩
          rw [hy2, show (stF rm R a b (q + 1) - p).toNat = (stF rm R a b (q + 1) - (p + 1)).toNat + 1 by omega, mxF, if_pos (by omega), hgp]
        · omega
  · exact ⟨by omega, by omega, by omega, by omega, rfl⟩

set_option maxHeartbeats 4000000 in
theorem mX9_bytes {M0 M : Mem} {ad : Int → Nat} {zA hA tA rA sA pA bA wA : Int → Int} {m len th rm bk rd nu bd sc : Int} {hs : Int64} {R : Int → Int} {a b : Int} (hm : RM M0 M ad zA hA tA rA sA pA bA wA m len th rm bk rd nu bd sc hs) (h2 : 0 ≤ rm ∧ rm ≤ 61) (hr : ∀ p, 0 ≤ p → p < rm → rA p = R p ∧ 0 ≤ R p ∧ R p ≤ 9999) (hbk : bk = nbF rm R a b) (hsA : ∀ j, 0 ≤ j → j ≤ nbF rm R a b → sA j = stF rm R a b j) : Ct KX9_bytes [.ref (ad 112)] M 0 0 (rtI (byF rm R a b rm.toNat 0 0) M) := by
  refine Ct.of _ (by decide) rfl (Nat.le_of_ble_eq_true rfl) ?_
  have hsp := blk_spec h2.1 R a b
  rw [← byF_sum h2.1 R a b]
  subst hbk
  refine r_iconst dX9_bytes_0 ?_
  refine r_istore_n dX9_bytes_1 (by decide) rfl ?_
  refine r_iconst dX9_bytes_2 ?_
  refine r_istore_n dX9_bytes_3 (by decide) rfl ?_
  refine J.loc (L' := [(0, some _), (1, some _), (2, some _)]) (lsub_cons rfl (lsub_cons rfl (lsub_cons rfl (lsub_nil)))) (loop2 (fun (q : Int) (y : Int) => 0 ≤ q ∧ q ≤ nbF rm R a b ∧ 0 ≤ y ∧ y ≤ 200 * q ∧ smF (bbyF rm R (stF rm R a b)) (nbF rm R a b).toNat 0 = y + smF (bbyF rm R (stF rm R a b)) (nbF rm R a b - q).toNat q) (fun (q : Int) (y : Int) => (nbF rm R a b - q).toNat) (fun (q : Int) (y : Int) => J KX9_bytes 0 0 _ 4 [(0, some (.ref (ad 112))), (1, some (vI y)), (2, some (vI q))] [] M _ _) (fun q y hI4 ih4 => ?_) _ _ ?_)
  ·
    obtain ⟨hq0, hq1, hy0, hy1, hy2⟩ := hI4
    refine r_iload_n dX9_bytes_4 rfl ?_
    refine r_aload_n dX9_bytes_5 rfl ?_
    refine r_getfield clX9 9 (by decide) fl_X9_59 hm.o rfl dX9_bytes_6 ?_
    refine r_icmp_ge (tgt := 26) dX9_bytes_9 (by decide) (by omega) (by omega) (fun h9 => ?_) (fun h9 => ?_)
    ·
      refine r_iload_n dX9_bytes_26 rfl ?_
      refine e_ireturn dX9_bytes_27 rfl (Nat.le_of_ble_eq_true rfl) (Nat.le_of_ble_eq_true rfl) ?_
      exact okI (by rw [hy2, show (nbF rm R a b - q).toNat = 0 by omega, smF]; omega)
    ·
      refine r_iload_n dX9_bytes_12 rfl ?_
      refine r_aload_n dX9_bytes_13 rfl ?_
      refine r_iload_n dX9_bytes_14 rfl ?_
      refine r_callV1 okX9_bytesOf ⟨by decide, by decide⟩ ml_X9_70 (mX9_bytesOf (R := R) (a := a) (b := b) hm h2 hr rfl hsA (by omega)) hm.o rfl rfl (Nat.le_of_ble_eq_true rfl) (Nat.le_of_ble_eq_true rfl) (Nat.le_of_ble_eq_true rfl) rfl dX9_bytes_15 (nx_I) (kx_I ?_)
      have hbb : 0 ≤ bbyF rm R (stF rm R a b) q ∧ bbyF rm R (stF rm R a b) q ≤ 200 := bby_r h2 R a b (by omega)
      refine r_iadd dX9_bytes_18 ?_
      refine r_istore_n dX9_bytes_19 (by decide) rfl ?_
      refine r_iinc dX9_bytes_20 rfl rfl ?_
      refine r_goto (tgt := 4) dX9_bytes_23 (by decide) ?_
      refine J.loc (lsub_cons rfl (lsub_cons rfl (lsub_cons rfl (lsub_nil)))) (ih4 _ _ ?_ ?_)
      · refine ⟨by omega, by omega, by omega, by omega, ?_⟩
        rw [hy2, show (nbF rm R a b - q).toNat = (nbF rm R a b - (q + 1)).toNat + 1 by omega, smF]
        omega
      · omega
  · exact ⟨by omega, by omega, by omega, by omega, by simp⟩

set_option maxHeartbeats 4000000 in
theorem mX9_sizeBy {M0 M : Mem} {ad : Int → Nat} {zA hA tA pA : Int → Int} {m len th rd nu bd sc : Int} {hs : Int64} {n : Int → Int} {F : Int → Int → Int} {g : Int → Int} {k a b : Int} (hq : RQ M0 M ad zA hA tA pA m len th rd nu bd sc hs) (hi : Inj ad) (hz : Zr zA n F g) (h0 : 0 ≤ k) (h1 : k < 4) (q0 : R32 a) (q1 : R32 b) : Ct KX9_sizeBy [.ref (ad 112), vI k, vI a, vI b] M 0 0 (atI (byF (n k) (F k) a b (n k).toNat 0 0) (fun M2 => RQ M0 M2 ad zA hA tA pA m len th rd nu bd sc hs)) := by
  refine Ct.of _ (by decide) rfl (Nat.le_of_ble_eq_true rfl) ?_
  obtain ⟨rA, sA, bA, wA, rm, bk, hm⟩ := hq
  have hzn := hz.n h0 h1
  refine r_aload_n dX9_sizeBy_0 rfl ?_
  refine r_iload_n dX9_sizeBy_1 rfl ?_
  refine r_callV1 okX9_takeRow ⟨by decide, by decide⟩ ml_X9_62 (mX9_takeRow hm hi hz (by omega) (by omega)) hm.o rfl rfl (Nat.le_of_ble_eq_true rfl) (Nat.le_of_ble_eq_true rfl) (Nat.le_of_ble_eq_true rfl) rfl dX9_sizeBy_2 (nx_tV) (kx_tV ?_)
  intro Mx hM
  obtain ⟨rA, hm, hrA⟩ := hM
  have hr : ∀ p, 0 ≤ p → p < n k → rA p = F k p ∧ 0 ≤ F k p ∧ F k p ≤ 9999 := fun p a b => ⟨hrA p a b, (hz.f (by omega) (by omega) a b).2⟩
  refine r_aload_n dX9_sizeBy_5 rfl ?_
  refine r_iload_n dX9_sizeBy_6 rfl ?_
  refine r_iload_n dX9_sizeBy_7 rfl ?_
  refine r_callV2 okX9_layBlocks ⟨by decide, by decide⟩ ml_X9_66 (mX9_layBlocks (R := F k) (a := a) (b := b) hm hi (by omega) hr (by omega) (by omega)) hm.o rfl rfl (Nat.le_of_ble_eq_true rfl) (Nat.le_of_ble_eq_true rfl) (Nat.le_of_ble_eq_true rfl) rfl dX9_sizeBy_8 (nx_tV) (kx_tV ?_)
  intro Mx hM
  obtain ⟨sA, hm, hsA⟩ := hM
  refine r_aload_n dX9_sizeBy_11 rfl ?_
  refine r_callV0 okX9_bytes ⟨by decide, by decide⟩ ml_X9_73 (mX9_bytes (R := F k) (a := a) (b := b) hm (by omega) hr rfl hsA) hm.o rfl rfl (Nat.le_of_ble_eq_true rfl) (Nat.le_of_ble_eq_true rfl) (Nat.le_of_ble_eq_true rfl) rfl dX9_sizeBy_12 (nx_I) (kx_I ?_)
  refine e_ireturn dX9_sizeBy_15 rfl (Nat.le_of_ble_eq_true rfl) (Nat.le_of_ble_eq_true rfl) ?_
  exact oktI rfl hm.q

set_option maxHeartbeats 4000000 in
theorem mX9_sizeOf {M0 M : Mem} {ad : Int → Nat} {zA hA tA pA : Int → Int} {m len th rd nu bd sc : Int} {hs : Int64} {n : Int → Int} {F : Int → Int → Int} {g : Int → Int} {k : Int} (hq : RQ M0 M ad zA hA tA pA m len th rd nu bd sc hs) (hi : Inj ad) (hz : Zr zA n F g) (h0 : 0 ≤ k) (h1 : k < 4) (hg : (2 ≤ g 0 ∧ g 0 ≤ 16) ∧ 1 ≤ g 1 ∧ g 1 ≤ 9999) : Ct KX9_sizeOf [.ref (ad 112), vI k] M 0 0 (atI (szF (n k) (F k) g) (fun M2 => RQ M0 M2 ad zA hA tA pA m len th rd nu bd sc hs)) := by
  refine Ct.of _ (by decide) rfl (Nat.le_of_ble_eq_true rfl) ?_
  obtain ⟨rA, sA, bA, wA, rm, bk, hm⟩ := hq
  have hzn := hz.n h0 h1
  refine r_aload_n dX9_sizeOf_0 rfl ?_
  refine r_iload_n dX9_sizeOf_1 rfl ?_
  refine r_aload_n dX9_sizeOf_2 rfl ?_
  refine r_getfield clX9 0 (by decide) fl_X9_7 hm.o rfl dX9_sizeOf_3 ?_
  refine r_iconst dX9_sizeOf_6 ?_
  refine r_iaload hm.z (by omega) (by omega) (by omega) dX9_sizeOf_7 ?_
  rw [hz.1]
  refine r_aload_n dX9_sizeOf_8 rfl ?_
  refine r_getfield clX9 0 (by decide) fl_X9_7 hm.o rfl dX9_sizeOf_9 ?_
  refine r_iconst dX9_sizeOf_12 ?_
  refine r_iaload hm.z (by omega) (by omega) (by omega) dX9_sizeOf_13 ?_
  rw [hz.2.1]
  refine r_callV3 okX9_sizeBy ⟨by decide, by decide⟩ ml_X9_77 (mX9_sizeBy hm.q hi hz (by omega) (by omega) (by omega) (by omega)) hm.o rfl rfl (Nat.le_of_ble_eq_true rfl) (Nat.le_of_ble_eq_true rfl) (Nat.le_of_ble_eq_true rfl) rfl dX9_sizeOf_14 (nx_tI) (kx_tI ?_)
  intro Mx hq
  refine e_ireturn dX9_sizeOf_17 rfl (Nat.le_of_ble_eq_true rfl) (Nat.le_of_ble_eq_true rfl) ?_
  exact oktI rfl hq

set_option maxHeartbeats 4000000 in
theorem mX9_manyR {M0 M : Mem} {ad : Int → Nat} {zA hA tA rA sA pA bA wA : Int → Int} {m len th rm bk rd nu bd sc : Int} {hs : Int64} {k : Int} (hm : RM M0 M ad zA hA tA rA sA pA bA wA m len th rm bk rd nu bd sc hs) (h0 : 0 ≤ k) (h1 : k < 4) : Ct KX9_many [.ref (ad 112), vI k] M 0 0 (rtI (zA (2 + k)) M) := by
  refine Ct.of _ (by decide) rfl (Nat.le_of_ble_eq_true rfl) ?_
  refine r_aload_n dX9_many_0 rfl ?_
  refine r_getfield clX9 0 (by decide) fl_X9_7 hm.o rfl dX9_many_1 ?_
  refine r_iconst dX9_many_4 ?_
  refine r_iload_n dX9_many_5 rfl ?_
  refine r_iadd dX9_many_6 ?_
  refine r_iaload hm.z (by omega) (by omega) (by omega) dX9_many_7 ?_
  refine e_ireturn dX9_many_8 rfl (Nat.le_of_ble_eq_true rfl) (Nat.le_of_ble_eq_true rfl) ?_
  exact okI rfl

set_option maxHeartbeats 4000000 in
theorem mX9_atR {M0 M : Mem} {ad : Int → Nat} {zA hA tA rA sA pA bA wA : Int → Int} {m len th rm bk rd nu bd sc : Int} {hs : Int64} {k p : Int} (hm : RM M0 M ad zA hA tA rA sA pA bA wA m len th rm bk rd nu bd sc hs) (h0 : 0 ≤ k) (h1 : k < 4) (h2 : 0 ≤ p) (h3 : p < 60) : Ct KX9_at [.ref (ad 112), vI k, vI p] M 0 0 (rtI (zA (6 + 60 * k + p)) M) := by
  refine Ct.of _ (by decide) rfl (Nat.le_of_ble_eq_true rfl) ?_
  refine r_aload_n dX9_at_0 rfl ?_
  refine r_getfield clX9 0 (by decide) fl_X9_7 hm.o rfl dX9_at_1 ?_
  refine r_bipush dX9_at_4 (by decide) ?_
  refine r_bipush dX9_at_6 (by decide) ?_
  refine r_iload_n dX9_at_8 rfl ?_
  refine r_imul dX9_at_9 ?_
  refine r_iadd dX9_at_10 ?_
  refine r_iload_n dX9_at_11 rfl ?_
  refine r_iadd dX9_at_12 ?_
  refine r_iaload hm.z (by omega) (by omega) (by omega) dX9_at_13 ?_
  refine e_ireturn dX9_at_14 rfl (Nat.le_of_ble_eq_true rfl) (Nat.le_of_ble_eq_true rfl) ?_
  exact okI rfl

set_option maxHeartbeats 4000000 in
theorem mX9_insert {M0 M : Mem} {ad : Int → Nat} {zA hA tA rA sA pA bA wA : Int → Int} {m len th rm bk rd nu bd sc : Int} {hs : Int64} {n : Int → Int} {F : Int → Int → Int} {g : Int → Int} {k x : Int} (hm : RM M0 M ad zA hA tA rA sA pA bA wA m len th rm bk rd nu bd sc hs) (hi : Inj ad) (hz : Zr zA n F g) (h0 : 0 ≤ k) (h1 : k < 4) (q0 : 0 ≤ x ∧ x ≤ 9999) (q1 : n k < 60) : Ct KX9_insert [.ref (ad 112), vI k, vI x] M 0 0 (atV (fun M2 => ∃ z2 : Int → Int, RM M0 M2 ad z2 hA tA rA sA pA bA wA m len th rm bk rd nu bd sc hs ∧ Zr z2 (uI n k (n k + 1)) (uI F k (insF (F k) (plc (n k) (F k) x) x)) g)) := by
  refine Ct.of _ (by decide) rfl (Nat.le_of_ble_eq_true rfl) ?_
  have hzn := hz.n h0 h1
  refine r_aload_n dX9_insert_0 rfl ?_
  refine r_iload_n dX9_insert_1 rfl ?_
  refine r_iload_n dX9_insert_2 rfl ?_
  refine r_callV2 okX9_lessThan ⟨by decide, by decide⟩ ml_X9_53 (mX9_lessThan hm hz (by omega) (by omega) (by omega)) hm.o rfl rfl (Nat.le_of_ble_eq_true rfl) (Nat.le_of_ble_eq_true rfl) (Nat.le_of_ble_eq_true rfl) rfl dX9_insert_3 (nx_I) (kx_I ?_)
  have hpl := plc_spec hzn.2.1 (F k) x
  refine r_istore_n dX9_insert_6 (by decide) rfl ?_
  refine r_aload_n dX9_insert_7 rfl ?_
  refine r_iload_n dX9_insert_8 rfl ?_
  refine r_callV1 okX9_many ⟨by decide, by decide⟩ ml_X9_45 (mX9_many hm hz (by omega) (by omega)) hm.o rfl rfl (Nat.le_of_ble_eq_true rfl) (Nat.le_of_ble_eq_true rfl) (Nat.le_of_ble_eq_true rfl) rfl dX9_insert_9 (nx_I) (kx_I ?_)
  refine r_istore dX9_insert_12 (by decide) rfl ?_
  refine J.loc (L' := [(0, some _), (1, some _), (2, some _), (3, some _), (4, some _)]) (lsub_cons rfl (lsub_cons rfl (lsub_cons rfl (lsub_cons rfl (lsub_cons rfl (lsub_nil)))))) (loop3 (fun (j : Int) (M1 : Mem) (z1 : Int → Int) => plc (n k) (F k) x ≤ j ∧ j ≤ n k ∧ RM M0 M1 ad z1 hA tA rA sA pA bA wA m len th rm bk rd nu bd sc hs ∧ (∀ i, 0 ≤ i → i ≤ j → i < n k → z1 (6 + 60 * k + i) = F k i) ∧ (∀ i, j < i → i ≤ n k → z1 (6 + 60 * k + i) = F k (i - 1)) ∧ ∀ i, 0 ≤ i → i < 246 → (i < 6 + 60 * k ∨ 66 + 60 * k ≤ i) → z1 i = zA i) (fun (j : Int) (M1 : Mem) (z1 : Int → Int) => (j - plc (n k) (F k) x).toNat) (fun (j : Int) (M1 : Mem) (z1 : Int → Int) => J KX9_insert 0 0 _ 14 [(0, some (.ref (ad 112))), (1, some (vI k)), (2, some (vI x)), (3, some (vI (plc (n k) (F k) x))), (4, some (vI j))] [] M1 _ _) (fun j M1 z1 hI14 ih14 => ?_) _ _ zA ?_)
  ·
    obtain ⟨hj0, hj1, hm, hz1, hz2, hz3⟩ := hI14
    have hz2k := hz3 (2 + k) (by omega) (by omega) (by omega)
    refine r_iload dX9_insert_14 rfl ?_
    refine r_iload_n dX9_insert_16 rfl ?_
    refine r_icmp_le (tgt := 50) dX9_insert_17 (by decide) (by omega) (by omega) (fun h17 => ?_) (fun h17 => ?_)
    ·
      refine r_aload_n dX9_insert_50 rfl ?_
      refine r_getfield clX9 0 (by decide) fl_X9_7 hm.o rfl dX9_insert_51 ?_
      refine r_bipush dX9_insert_54 (by decide) ?_
      refine r_bipush dX9_insert_56 (by decide) ?_
      refine r_iload_n dX9_insert_58 rfl ?_
      refine r_imul dX9_insert_59 ?_
      refine r_iadd dX9_insert_60 ?_
      refine r_iload_n dX9_insert_61 rfl ?_
      refine r_iadd dX9_insert_62 ?_
      refine r_iload_n dX9_insert_63 rfl ?_
      refine r_iastore hm.z (by omega) (by omega) (by omega) dX9_insert_64 ?_
      refine hm.w_z hi (fun Mx hm => ?_)
      refine r_aload_n dX9_insert_65 rfl ?_
      refine r_getfield clX9 0 (by decide) fl_X9_7 hm.o rfl dX9_insert_66 ?_
      refine r_iconst dX9_insert_69 ?_
      refine r_iload_n dX9_insert_70 rfl ?_
      refine r_iadd dX9_insert_71 ?_
      refine r_dup2 dX9_insert_72 ?_
      refine r_iaload hm.z (by omega) (by omega) (by omega) dX9_insert_73 ?_
      rw [uI_n _ (by omega), hz2k, hzn.1]
      refine r_iconst dX9_insert_74 ?_
      refine r_iadd dX9_insert_75 ?_
      refine r_iastore hm.z (by omega) (by omega) (by omega) dX9_insert_76 ?_
      refine hm.w_z hi (fun Mx hm => ?_)
      refine e_return dX9_insert_77 rfl (Nat.le_of_ble_eq_true rfl) (Nat.le_of_ble_eq_true rfl) ?_
      have hns := hz
      refine oktV ⟨_, hm, hz.setK h0 h1 ⟨uI_s _ _ _, by omega, by omega⟩ (fun p a b => ?_) (fun i a b c d => ?_)⟩
      · rw [uI_n _ (by omega)]
        unfold insF
        by_cases e1 : p < plc (n k) (F k) x
        · rw [if_pos e1, uI_n _ (by omega), hz1 p a (by omega) (by omega)]; exact ⟨rfl, (hz.f h0 h1 a (by omega)).2⟩
        · rw [if_neg e1]
          by_cases e2 : p = plc (n k) (F k) x
          · rw [if_pos e2, e2, uI_s]; exact ⟨rfl, q0⟩
          · rw [if_neg e2, uI_n _ (by omega), hz2 p (by omega) (by omega)]; exact ⟨rfl, (hz.f h0 h1 (by omega) (by omega)).2⟩
      · rw [uI_n _ (by omega), uI_n _ (by omega)]; exact hz3 i a b d
    ·
      refine r_aload_n dX9_insert_20 rfl ?_
      refine r_getfield clX9 0 (by decide) fl_X9_7 hm.o rfl dX9_insert_21 ?_
      refine r_bipush dX9_insert_24 (by decide) ?_
      refine r_bipush dX9_insert_26 (by decide) ?_
      refine r_iload_n dX9_insert_28 rfl ?_
      refine r_imul dX9_insert_29 ?_
      refine r_iadd dX9_insert_30 ?_
      refine r_iload dX9_insert_31 rfl ?_
      refine r_iadd dX9_insert_33 ?_
      refine r_aload_n dX9_insert_34 rfl ?_
      refine r_iload_n dX9_insert_35 rfl ?_
      refine r_iload dX9_insert_36 rfl ?_
      refine r_iconst dX9_insert_38 ?_
      refine r_isub dX9_insert_39 ?_
      refine r_callV2 okX9_at ⟨by decide, by decide⟩ ml_X9_49 (mX9_atR hm (by omega) (by omega) (by omega) (by omega)) hm.o rfl rfl (Nat.le_of_ble_eq_true rfl) (Nat.le_of_ble_eq_true rfl) (Nat.le_of_ble_eq_true rfl) rfl dX9_insert_40 (nx_I) (kx_I ?_)
      have hzj := hz1 (j - 1) (by omega) (by omega) (by omega)
      rw [hzj]
      refine r_iastore hm.z (by omega) (by omega) (by omega) dX9_insert_43 ?_
      refine hm.w_z hi (fun Mx hm => ?_)
      refine r_iinc dX9_insert_44 rfl rfl ?_
      refine r_goto (tgt := 14) dX9_insert_47 (by decide) ?_
      refine J.loc (lsub_cons rfl (lsub_cons rfl (lsub_cons rfl (lsub_cons rfl (lsub_cons rfl (lsub_nil)))))) (ih14 _ _ (uI z1 (6 + 60 * k + j) (F k (j - 1))) ?_ ?_)
      · refine ⟨by omega, by omega, hm, fun i a b c => (uI_n _ (by omega)).trans (hz1 i a (by omega) c), fun i a b => ?_, fun i a b c => (uI_n _ (by omega)).trans (hz3 i a b c)⟩
        by_cases e : i = j
        · rw [e, uI_s]
        · rw [uI_n _ (by omega)]; exact hz2 i (by omega) b
      · omega
  · exact ⟨by omega, by omega, hm, fun i a b c => (hz.f h0 h1 a c).1, fun i a b => by omega, fun i a b c => rfl⟩

set_option maxHeartbeats 4000000 in
theorem mX9_leastOf {M0 M : Mem} {ad : Int → Nat} {zA hA tA rA sA pA bA wA : Int → Int} {m len th rm bk rd nu bd sc : Int} {hs : Int64} {n : Int → Int} {F : Int → Int → Int} {g : Int → Int} {k : Int} (hm : RM M0 M ad zA hA tA rA sA pA bA wA m len th rm bk rd nu bd sc hs) (hz : Zr zA n F g) (h0 : 0 ≤ k) (h1 : k < 4) : Ct KX9_leastOf [.ref (ad 112), vI k] M 0 0 (rtI (atF (n k) (F k) 0) M) := by
  refine Ct.of _ (by decide) rfl (Nat.le_of_ble_eq_true rfl) ?_
  have hzn := hz.n h0 h1
  refine r_aload_n dX9_leastOf_0 rfl ?_
  refine r_iload_n dX9_leastOf_1 rfl ?_
  refine r_callV1 okX9_many ⟨by decide, by decide⟩ ml_X9_45 (mX9_many hm hz (by omega) (by omega)) hm.o rfl rfl (Nat.le_of_ble_eq_true rfl) (Nat.le_of_ble_eq_true rfl) (Nat.le_of_ble_eq_true rfl) rfl dX9_leastOf_2 (nx_I) (kx_I ?_)
  refine r_if_ne (tgt := 12) dX9_leastOf_5 (by decide) (by omega) (fun h5 => ?_) (fun h5 => ?_)
  ·
    refine r_aload_n dX9_leastOf_12 rfl ?_
    refine r_iload_n dX9_leastOf_13 rfl ?_
    refine r_iconst dX9_leastOf_14 ?_
    refine r_callV2 okX9_at ⟨by decide, by decide⟩ ml_X9_49 (mX9_at hm hz (by omega) (by omega) (by omega) (by omega)) hm.o rfl rfl (Nat.le_of_ble_eq_true rfl) (Nat.le_of_ble_eq_true rfl) (Nat.le_of_ble_eq_true rfl) rfl dX9_leastOf_15 (nx_I) (kx_I ?_)
    refine e_ireturn dX9_leastOf_18 rfl (Nat.le_of_ble_eq_true rfl) (Nat.le_of_ble_eq_true rfl) ?_
    exact okI (atF_in (by omega) (by omega)).symm
  ·
    refine r_iconst dX9_leastOf_8 ?_
    refine r_goto (tgt := 18) dX9_leastOf_9 (by decide) ?_
    refine e_ireturn dX9_leastOf_18 rfl (Nat.le_of_ble_eq_true rfl) (Nat.le_of_ble_eq_true rfl) ?_
    exact okI (atF_out (by omega)).symm

set_option maxHeartbeats 4000000 in
theorem mX9_greatestOf {M0 M : Mem} {ad : Int → Nat} {zA hA tA rA sA pA bA wA : Int → Int} {m len th rm bk rd nu bd sc : Int} {hs : Int64} {n : Int → Int} {F : Int → Int → Int} {g : Int → Int} {k : Int} (hm : RM M0 M ad zA hA tA rA sA pA bA wA m len th rm bk rd nu bd sc hs) (hz : Zr zA n F g) (h0 : 0 ≤ k) (h1 : k < 4) : Ct KX9_greatestOf [.ref (ad 112), vI k] M 0 0 (rtI (atF (n k) (F k) (n k - 1)) M) := by
  refine Ct.of _ (by decide) rfl (Nat.le_of_ble_eq_true rfl) ?_
  have hzn := hz.n h0 h1
  refine r_aload_n dX9_greatestOf_0 rfl ?_
  refine r_iload_n dX9_greatestOf_1 rfl ?_
  refine r_callV1 okX9_many ⟨by decide, by decide⟩ ml_X9_45 (mX9_many hm hz (by omega) (by omega)) hm.o rfl rfl (Nat.le_of_ble_eq_true rfl) (Nat.le_of_ble_eq_true rfl) (Nat.le_of_ble_eq_true rfl) rfl dX9_greatestOf_2 (nx_I) (kx_I ?_)
  refine r_if_ne (tgt := 12) dX9_greatestOf_5 (by decide) (by omega) (fun h5 => ?_) (fun h5 => ?_)
  ·
    refine r_aload_n dX9_greatestOf_12 rfl ?_
    refine r_iload_n dX9_greatestOf_13 rfl ?_
    refine r_aload_n dX9_greatestOf_14 rfl ?_
    refine r_iload_n dX9_greatestOf_15 rfl ?_
    refine r_callV1 okX9_many ⟨by decide, by decide⟩ ml_X9_45 (mX9_many hm hz (by omega) (by omega)) hm.o rfl rfl (Nat.le_of_ble_eq_true rfl) (Nat.le_of_ble_eq_true rfl) (Nat.le_of_ble_eq_true rfl) rfl dX9_greatestOf_16 (nx_I) (kx_I ?_)
    refine r_iconst dX9_greatestOf_19 ?_
    refine r_isub dX9_greatestOf_20 ?_
    refine r_callV2 okX9_at ⟨by decide, by decide⟩ ml_X9_49 (mX9_at hm hz (by omega) (by omega) (by omega) (by omega)) hm.o rfl rfl (Nat.le_of_ble_eq_true rfl) (Nat.le_of_ble_eq_true rfl) (Nat.le_of_ble_eq_true rfl) rfl dX9_greatestOf_21 (nx_I) (kx_I ?_)
    refine e_ireturn dX9_greatestOf_24 rfl (Nat.le_of_ble_eq_true rfl) (Nat.le_of_ble_eq_true rfl) ?_
    exact okI (atF_in (by omega) (by omega)).symm
  ·
    refine r_iconst dX9_greatestOf_8 ?_
    refine r_goto (tgt := 24) dX9_greatestOf_9 (by decide) ?_
    refine e_ireturn dX9_greatestOf_24 rfl (Nat.le_of_ble_eq_true rfl) (Nat.le_of_ble_eq_true rfl) ?_
    exact okI (atF_out (by omega)).symm

set_option maxHeartbeats 4000000 in
theorem mX9_canShift {M0 M : Mem} {ad : Int → Nat} {zA hA tA rA sA pA bA wA : Int → Int} {m len th rm bk rd nu bd sc : Int} {hs : Int64} {n : Int → Int} {F : Int → Int → Int} {g : Int → Int} {k b v : Int} (hm : RM M0 M ad zA hA tA rA sA pA bA wA m len th rm bk rd nu bd sc hs) (hz : Zr zA n F g) (h0 : 0 ≤ k) (h1 : k < 4) (q0 : -9999 ≤ b ∧ b ≤ 9999) (hv : (if n k = 0 ∨ (0 ≤ atF (n k) (F k) 0 + b ∧ atF (n k) (F k) (n k - 1) + b ≤ 9999) then (1 : Int) else 0) = v) : Ct KX9_canShift [.ref (ad 112), vI k, vI b] M 0 0 (rtI v M) := by
  refine Ct.of _ (by decide) rfl (Nat.le_of_ble_eq_true rfl) ?_
  have hzn := hz.n h0 h1
  have ha0 := hz.atr h0 h1 0
  have ha1 := hz.atr h0 h1 (n k - 1)
  refine r_aload_n dX9_canShift_0 rfl ?_
  refine r_iload_n dX9_canShift_1 rfl ?_
  refine r_callV1 okX9_many ⟨by decide, by decide⟩ ml_X9_45 (mX9_many hm hz (by omega) (by omega)) hm.o rfl rfl (Nat.le_of_ble_eq_true rfl) (Nat.le_of_ble_eq_true rfl) (Nat.le_of_ble_eq_true rfl) rfl dX9_canShift_2 (nx_I) (kx_I ?_)
  refine r_if_eq (tgt := 31) dX9_canShift_5 (by decide) (by omega) (fun h5 => ?_) (fun h5 => ?_)
  ·
    refine r_iconst dX9_canShift_31 ?_
    refine r_goto (tgt := 36) dX9_canShift_32 (by decide) ?_
    refine e_zreturn dX9_canShift_36 rfl (by omega) (Nat.le_of_ble_eq_true rfl) (Nat.le_of_ble_eq_true rfl) ?_
    exact okI (by rw [← hv]; first | rw [if_pos (by omega)] | rw [if_neg (by omega)])
  ·
    refine r_aload_n dX9_canShift_8 rfl ?_
    refine r_iload_n dX9_canShift_9 rfl ?_
    refine r_callV1 okX9_leastOf ⟨by decide, by decide⟩ ml_X9_104 (mX9_leastOf hm hz h0 h1) hm.o rfl rfl (Nat.le_of_ble_eq_true rfl) (Nat.le_of_ble_eq_true rfl) (Nat.le_of_ble_eq_true rfl) rfl dX9_canShift_10 (nx_I) (kx_I ?_)
    refine r_iload_n dX9_canShift_13 rfl ?_
    refine r_iadd dX9_canShift_14 ?_
    refine r_if_lt (tgt := 35) dX9_canShift_15 (by decide) (by omega) (fun h15 => ?_) (fun h15 => ?_)
    ·
      refine r_iconst dX9_canShift_35 ?_
      refine e_zreturn dX9_canShift_36 rfl (by omega) (Nat.le_of_ble_eq_true rfl) (Nat.le_of_ble_eq_true rfl) ?_
      exact okI (by rw [← hv]; first | rw [if_pos (by omega)] | rw [if_neg (by omega)])
    ·
      refine r_aload_n dX9_canShift_18 rfl ?_
      refine r_iload_n dX9_canShift_19 rfl ?_
      refine r_callV1 okX9_greatestOf ⟨by decide, by decide⟩ ml_X9_107 (mX9_greatestOf hm hz h0 h1) hm.o rfl rfl (Nat.le_of_ble_eq_true rfl) (Nat.le_of_ble_eq_true rfl) (Nat.le_of_ble_eq_true rfl) rfl dX9_canShift_20 (nx_I) (kx_I ?_)
      refine r_iload_n dX9_canShift_23 rfl ?_
      refine r_iadd dX9_canShift_24 ?_
      refine r_sipush dX9_canShift_25 (by decide) ?_
      refine r_icmp_gt (tgt := 35) dX9_canShift_28 (by decide) (by omega) (by omega) (fun h28 => ?_) (fun h28 => ?_)
      ·
        refine r_iconst dX9_canShift_35 ?_
        refine e_zreturn dX9_canShift_36 rfl (by omega) (Nat.le_of_ble_eq_true rfl) (Nat.le_of_ble_eq_true rfl) ?_
        exact okI (by rw [← hv]; first | rw [if_pos (by omega)] | rw [if_neg (by omega)])
      ·
        refine r_iconst dX9_canShift_31 ?_
        refine r_goto (tgt := 36) dX9_canShift_32 (by decide) ?_
        refine e_zreturn dX9_canShift_36 rfl (by omega) (Nat.le_of_ble_eq_true rfl) (Nat.le_of_ble_eq_true rfl) ?_
        exact okI (by rw [← hv]; first | rw [if_pos (by omega)] | rw [if_neg (by omega)])

set_option maxHeartbeats 4000000 in
theorem mX9_belongs {M : Mem} {x y how v : Int} (q0 : x = 0 ∨ x = 1) (q1 : y = 0 ∨ y = 1) (q2 : 0 ≤ how ∧ how ≤ 3) (hv : blg x y how = v) : Ct KX9_belongs [vI x, vI y, vI how] M 0 0 (rtI v M) := by
  refine Ct.of _ (by decide) rfl (Nat.le_of_ble_eq_true rfl) ?_
  refine r_iload_n dX9_belongs_0 rfl ?_
  refine r_if_ne (tgt := 20) dX9_belongs_1 (by decide) (by omega) (fun h1 => ?_) (fun h1 => ?_)
  ·
    refine r_iload_n dX9_belongs_20 rfl ?_
    refine r_iconst dX9_belongs_21 ?_
    refine r_icmp_ne (tgt := 41) dX9_belongs_22 (by decide) (by omega) (by omega) (fun h22 => ?_) (fun h22 => ?_)
    ·
      refine r_iload_n dX9_belongs_41 rfl ?_
      refine r_iconst dX9_belongs_42 ?_
      refine r_icmp_ne (tgt := 62) dX9_belongs_43 (by decide) (by omega) (by omega) (fun h43 => ?_) (fun h43 => ?_)
      ·
        refine r_iload_n dX9_belongs_62 rfl ?_
        refine r_iload_n dX9_belongs_63 rfl ?_
        refine r_icmp_eq (tgt := 71) dX9_belongs_64 (by decide) (by omega) (by omega) (fun h64 => ?_) (fun h64 => ?_)
        ·
          refine r_iconst dX9_belongs_71 ?_
          refine e_zreturn dX9_belongs_72 rfl (by omega) (Nat.le_of_ble_eq_true rfl) (Nat.le_of_ble_eq_true rfl) ?_
          exact okI (by rw [← hv]; unfold blg; rcases q0 with rfl | rfl <;> rcases q1 with rfl | rfl <;> rcases (show how = 0 ∨ how = 1 ∨ how = 2 ∨ how = 3 by omega) with rfl | rfl | rfl | rfl <;> first | decide | (exfalso; omega))
        ·
          refine r_iconst dX9_belongs_67 ?_
          refine r_goto (tgt := 72) dX9_belongs_68 (by decide) ?_
          refine e_zreturn dX9_belongs_72 rfl (by omega) (Nat.le_of_ble_eq_true rfl) (Nat.le_of_ble_eq_true rfl) ?_
          exact okI (by rw [← hv]; unfold blg; rcases q0 with rfl | rfl <;> rcases q1 with rfl | rfl <;> rcases (show how = 0 ∨ how = 1 ∨ how = 2 ∨ how = 3 by omega) with rfl | rfl | rfl | rfl <;> first | decide | (exfalso; omega))
      ·
        refine r_iload_n dX9_belongs_46 rfl ?_
        refine r_if_eq (tgt := 58) dX9_belongs_47 (by decide) (by omega) (fun h47 => ?_) (fun h47 => ?_)
        ·
          refine r_iconst dX9_belongs_58 ?_
          refine r_goto (tgt := 72) dX9_belongs_59 (by decide) ?_
          refine e_zreturn dX9_belongs_72 rfl (by omega) (Nat.le_of_ble_eq_true rfl) (Nat.le_of_ble_eq_true rfl) ?_
          exact okI (by rw [← hv]; unfold blg; rcases q0 with rfl | rfl <;> rcases q1 with rfl | rfl <;> rcases (show how = 0 ∨ how = 1 ∨ how = 2 ∨ how = 3 by omega) with rfl | rfl | rfl | rfl <;> first | decide | (exfalso; omega))
        ·
          refine r_iload_n dX9_belongs_50 rfl ?_
          refine r_if_ne (tgt := 58) dX9_belongs_51 (by decide) (by omega) (fun h51 => ?_) (fun h51 => ?_)
          ·
            refine r_iconst dX9_belongs_58 ?_
            refine r_goto (tgt := 72) dX9_belongs_59 (by decide) ?_
            refine e_zreturn dX9_belongs_72 rfl (by omega) (Nat.le_of_ble_eq_true rfl) (Nat.le_of_ble_eq_true rfl) ?_
            exact okI (by rw [← hv]; unfold blg; rcases q0 with rfl | rfl <;> rcases q1 with rfl | rfl <;> rcases (show how = 0 ∨ how = 1 ∨ how = 2 ∨ how = 3 by omega) with rfl | rfl | rfl | rfl <;> first | decide | (exfalso; omega))
          ·
            refine r_iconst dX9_belongs_54 ?_
            refine r_goto (tgt := 72) dX9_belongs_55 (by decide) ?_
            refine e_zreturn dX9_belongs_72 rfl (by omega) (Nat.le_of_ble_eq_true rfl) (Nat.le_of_ble_eq_true rfl) ?_
            exact okI (by rw [← hv]; unfold blg; rcases q0 with rfl | rfl <;> rcases q1 with rfl | rfl <;> rcases (show how = 0 ∨ how = 1 ∨ how = 2 ∨ how = 3 by omega) with rfl | rfl | rfl | rfl <;> first | decide | (exfalso; omega))
    ·
      refine r_iload_n dX9_belongs_25 rfl ?_
      refine r_if_eq (tgt := 37) dX9_belongs_26 (by decide) (by omega) (fun h26 => ?_) (fun h26 => ?_)
      ·
        refine r_iconst dX9_belongs_37 ?_
        refine r_goto (tgt := 72) dX9_belongs_38 (by decide) ?_
        refine e_zreturn dX9_belongs_72 rfl (by omega) (Nat.le_of_ble_eq_true rfl) (Nat.le_of_ble_eq_true rfl) ?_
        exact okI (by rw [← hv]; unfold blg; rcases q0 with rfl | rfl <;> rcases q1 with rfl | rfl <;> rcases (show how = 0 ∨ how = 1 ∨ how = 2 ∨ how = 3 by omega) with rfl | rfl | rfl | rfl <;> first | decide | (exfalso; omega))
      ·
        refine r_iload_n dX9_belongs_29 rfl ?_
        refine r_if_eq (tgt := 37) dX9_belongs_30 (by decide) (by omega) (fun h30 => ?_) (fun h30 => ?_)
        ·
          refine r_iconst dX9_belongs_37 ?_
          refine r_goto (tgt := 72) dX9_belongs_38 (by decide) ?_
          refine e_zreturn dX9_belongs_72 rfl (by omega) (Nat.le_of_ble_eq_true rfl) (Nat.le_of_ble_eq_true rfl) ?_
          exact okI (by rw [← hv]; unfold blg; rcases q0 with rfl | rfl <;> rcases q1 with rfl | rfl <;> rcases (show how = 0 ∨ how = 1 ∨ how = 2 ∨ how = 3 by omega) with rfl | rfl | rfl | rfl <;> first | decide | (exfalso; omega))
        ·
          refine r_iconst dX9_belongs_33 ?_
          refine r_goto (tgt := 72) dX9_belongs_34 (by decide) ?_
          refine e_zreturn dX9_belongs_72 rfl (by omega) (Nat.le_of_ble_eq_true rfl) (Nat.le_of_ble_eq_true rfl) ?_
          exact okI (by rw [← hv]; unfold blg; rcases q0 with rfl | rfl <;> rcases q1 with rfl | rfl <;> rcases (show how = 0 ∨ how = 1 ∨ how = 2 ∨ how = 3 by omega) with rfl | rfl | rfl | rfl <;> first | decide | (exfalso; omega))
  ·
    refine r_iload_n dX9_belongs_4 rfl ?_
    refine r_if_ne (tgt := 12) dX9_belongs_5 (by decide) (by omega) (fun h5 => ?_) (fun h5 => ?_)
    ·
      refine r_iconst dX9_belongs_12 ?_
      refine r_goto (tgt := 72) dX9_belongs_13 (by decide) ?_
      refine e_zreturn dX9_belongs_72 rfl (by omega) (Nat.le_of_ble_eq_true rfl) (Nat.le_of_ble_eq_true rfl) ?_
      exact okI (by rw [← hv]; unfold blg; rcases q0 with rfl | rfl <;> rcases q1 with rfl | rfl <;> rcases (show how = 0 ∨ how = 1 ∨ how = 2 ∨ how = 3 by omega) with rfl | rfl | rfl | rfl <;> first | decide | (exfalso; omega))
    ·
      refine r_iload_n dX9_belongs_8 rfl ?_
      refine r_if_eq (tgt := 16) dX9_belongs_9 (by decide) (by omega) (fun h9 => ?_) (fun h9 => ?_)
      ·
        refine r_iconst dX9_belongs_16 ?_
        refine r_goto (tgt := 72) dX9_belongs_17 (by decide) ?_
        refine e_zreturn dX9_belongs_72 rfl (by omega) (Nat.le_of_ble_eq_true rfl) (Nat.le_of_ble_eq_true rfl) ?_
        exact okI (by rw [← hv]; unfold blg; rcases q0 with rfl | rfl <;> rcases q1 with rfl | rfl <;> rcases (show how = 0 ∨ how = 1 ∨ how = 2 ∨ how = 3 by omega) with rfl | rfl | rfl | rfl <;> first | decide | (exfalso; omega))
      ·
        refine r_iconst dX9_belongs_12 ?_
        refine r_goto (tgt := 72) dX9_belongs_13 (by decide) ?_
        refine e_zreturn dX9_belongs_72 rfl (by omega) (Nat.le_of_ble_eq_true rfl) (Nat.le_of_ble_eq_true rfl) ?_
        exact okI (by rw [← hv]; unfold blg; rcases q0 with rfl | rfl <;> rcases q1 with rfl | rfl <;> rcases (show how = 0 ∨ how = 1 ∨ how = 2 ∨ how = 3 by omega) with rfl | rfl | rfl | rfl <;> first | decide | (exfalso; omega))
