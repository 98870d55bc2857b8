/-! the law: combine, set, and an act as a whole -/
set_option maxHeartbeats 1000000 in
theorem aL_691 {M : Mem} {ad : Int → Nat} {n : Int → Int} {F : Int → Int → Int} {g : Int → Int} {m : Int} {S : Int → Sg3} {len : Int} {c : Int → Int} {x y t s z : Int} {a b how mn : Int} {qA : Nat} {D : Int → Int} {Mz : Mem} (hc : CL M ad n F g m S len c) (hi : Inj ad) (q0 : 0 ≤ s ∧ s < 4) (qa : 0 ≤ a ∧ a < 4) (qb : 0 ≤ b ∧ b < 4) (qh : 0 ≤ how ∧ how < 4) (hD : M qA = some (aI 32 D)) (hqo : ∀ j, 0 ≤ j → j < 114 → qA ≠ ad j) (hfk : FrK ad Mz M) (hmn : 0 ≤ mn ∧ mn ≤ 16) {P : Int → Prop} (hfd : FdS D mn P) (hj : jnF (n a) (F a) (n b) (F b) how = fdF D mn.toNat) : J KL_act 7 68 (atI 1 (fun M2 => CLG M2 ad ∧ FrK ad Mz M2)) 691 [(0, some (.ref (ad 0))), (1, some (vI x)), (2, some (vI y)), (3, some (.ref (ad 112))), (4, some (.ref (ad 113))), (5, some (vI t)), (6, some (vI s)), (7, some (vI z)), (8, some (vI a)), (9, some (vI b)), (10, some (vI how)), (11, some (.ref qA)), (12, some (vI mn))] [] M 1 32 := by
  obtain ⟨hx, hl⟩ := id hc
  have hv := hl.vld
  obtain ⟨w, v, hn1, hm1, hlv⟩ := id hl
  obtain ⟨hset, hw4, hw5, hw6, hg0, hg1, hm6⟩ := id hlv
  obtain ⟨hws, hns, hsr, hvs⟩ := hset s q0.1 q0.2
  have hAB : ad 112 ≠ ad 113 := hi.ne ⟨by omega, by omega⟩ ⟨by omega, by omega⟩ (by omega)
  have hBA := hAB.symm
  have hv1 : ∀ k, 0 ≤ k → k < n s → v (16 * s + k) = F s k := fun k a b => (hvs k a b).1
  have hv2 : ∀ k, 0 ≤ k → k < n s → 0 ≤ F s k ∧ F s k ≤ 9999 := fun k a b => (hvs k a b).2
  have hv3 : ∀ k, 0 < k → k ≤ n s → v (16 * s + k - 1) = F s (k - 1) := fun k a b => by rw [← hv1 (k - 1) (by omega) (by omega)]; congr 1; omega
  have hqa := hqo 112 (by omega) (by omega)
  have hqb := hqo 113 (by omega) (by omega)
  refine r_aload_n dL_act_691 rfl ?_
  refine r_iload dL_act_692 rfl ?_
  refine r_iconst dL_act_694 ?_
  refine r_iastore hn1 (by omega) (by omega) (by omega) dL_act_695 ?_
  refine r_iconst dL_act_696 ?_
  refine r_istore dL_act_697 (by decide) rfl ?_
  refine J.loc (L' := [(0, some _), (1, some _), (2, some _), (3, some _), (4, some _), (5, some _), (6, some _), (7, some _), (8, some _), (9, some _), (10, some _), (11, some _), (6, some _), (12, some _), (13, some _)]) (lsub_cons rfl (lsub_cons rfl (lsub_cons rfl (lsub_cons rfl (lsub_cons rfl (lsub_cons rfl (lsub_cons rfl (lsub_cons rfl (lsub_cons rfl (lsub_cons rfl (lsub_cons rfl (lsub_cons rfl (lsub_cons rfl (lsub_cons rfl (lsub_cons rfl (lsub_nil)))))))))))))))) (loop2 (fun (q : Int) (M2 : Mem) => 0 ≤ q ∧ q ≤ mn ∧ XSt M2 ad (n, F, g) m S len c ∧ LwR M2 ad (uI n s (fdF D (q).toNat).1) (uI F s (fdF D (q).toNat).2) g m ∧ FrK ad Mz M2 ∧ M2 qA = some (aI 32 D)) (fun (q : Int) (M2 : Mem) => (mn - q).toNat) (fun (q : Int) (M2 : Mem) => J KL_act 7 68 _ 699 [(0, some (.ref (ad 0))), (1, some (vI x)), (2, some (vI y)), (3, some (.ref (ad 112))), (4, some (.ref (ad 113))), (5, some (vI t)), (6, some (vI s)), (7, some (vI z)), (8, some (vI a)), (9, some (vI b)), (10, some (vI how)), (11, some (.ref qA)), (6, some (vI s)), (12, some (vI mn)), (13, some (vI q))] [] M2 _ _) (fun q M2 hI699 ih699 => ?_) _ _ ?_)
  ·
    obtain ⟨hk0, hk1, hx2, hl2, hfk2, hD2⟩ := hI699
    have hfr9 := fdF_r (D := D) q.toNat
    refine r_iload dL_act_699 rfl ?_
    refine r_iload dL_act_701 rfl ?_
    refine r_icmp_ge (tgt := 725) dL_act_703 (by decide) (by omega) (by omega) (fun h703 => ?_) (fun h703 => ?_)
    ·
      refine jsv_725 hl2 hi rfl (fun M3 hl3 hfr3 => ?_)
      have hx3 := hx2.fr2 hi hfr3
      refine r_aload_n dL_act_742 rfl ?_
      refine r_iload dL_act_743 rfl ?_
      refine r_iload dL_act_745 rfl ?_
      refine r_iload dL_act_747 rfl ?_
      refine r_iload dL_act_749 rfl ?_
      refine r_callV4 okX8_combine ⟨by decide, by decide⟩ ml_L_57 ((mX8_combine hx3 hv hi (k := s) (k1 := a) (k2 := b) (how := how) (by omega) (by omega) (by omega) (by omega)).mono (fun _ _ h => UY.ok (e2_ok (eSet_in q0) (e2_ok (eSet_in qa) (e2_ok (eSet_in qb) (e2_ok (eB_in (by omega)) (eB_in (by rw [hj, hfd.2.1]; omega)))))) h)) hx3.1 rfl rfl (Nat.le_of_ble_eq_true rfl) (by omega) (by omega) rfl dL_act_751 (nx_tI) (kx_tI ?_)
      intro M6 hM6
      obtain ⟨hx6, hf6⟩ := hM6
      have hl6 := hl3.frI hi hf6
      rw [hj] at hx6 ⊢
      rw [show q = mn by omega] at hl6
      refine r_iload dL_act_754 rfl ?_
      rw [hfd.2.1]
      refine r_icmpNe (tgt := 763) dL_act_756 (by decide) ?_
      refine r_iconst dL_act_759 ?_
      refine r_goto (tgt := 764) dL_act_760 (by decide) ?_
      refine e_zreturn dL_act_764 rfl (by omega) (by omega) (by omega) ?_
      exact oktI rfl ⟨⟨_, _, _, _, _, _, _, ⟨hx6, hl6⟩⟩, (hfk2.trans (FrK.of2 hfr3)).trans (FrK.ofI hf6)⟩
    ·
      refine r_aload_n dL_act_706 rfl ?_
      refine r_aload dL_act_707 rfl ?_
      refine r_iload dL_act_709 rfl ?_
      refine r_aload dL_act_711 rfl ?_
      refine r_iload dL_act_713 rfl ?_
      refine r_iaload hD2 (by omega) (by omega) (by omega) dL_act_715 ?_
      refine r_callS4 okL_insert ⟨by decide, by decide⟩ ml_L_37 (mL_insert (N := 120) hl2 hi q0 (hfd.2.2.2.2 q (by omega) (by omega)) (Or.inr (by rw [uI_s]; omega)) (by omega)) (Nat.le_of_ble_eq_true rfl) (by omega) (by omega) rfl dL_act_716 (nx_tV) (kx_tV ?_)
      intro M4 hM4
      obtain ⟨hl4, hfr4⟩ := hM4
      have hx4 := hx2.fr2 hi hfr4
      rw [uI_s, uI_s, uI_uI, uI_uI] at hl4
      have e4 : (fdF D (q + 1).toNat) = (putN 120 (fdF D (q).toNat).1 (fdF D (q).toNat).2 (D q), putF 120 (fdF D (q).toNat).1 (fdF D (q).toNat).2 (D q)) := by
        rw [show (q + 1).toNat = q.toNat + 1 by omega, fdF, Int.toNat_of_nonneg hk0]
      have hl4 : LwR M4 ad (uI n s (fdF D (q + 1).toNat).1) (uI F s (fdF D (q + 1).toNat).2) g m := by rw [e4]; exact hl4
      refine r_iinc dL_act_719 rfl rfl ?_
      refine r_goto (tgt := 699) dL_act_722 (by decide) ?_
      refine J.loc (lsub_cons rfl (lsub_cons rfl (lsub_cons rfl (lsub_cons rfl (lsub_cons rfl (lsub_cons rfl (lsub_cons rfl (lsub_cons rfl (lsub_cons rfl (lsub_cons rfl (lsub_cons rfl (lsub_cons rfl (lsub_cons rfl (lsub_cons rfl (lsub_cons rfl (lsub_nil)))))))))))))))) (ih699 _ _ ?_ ?_)
      · exact ⟨by omega, by omega, hx4, hl4, hfk2.trans (FrK.of2 hfr4), (hfr4 _ hqa hqb).trans hD2⟩
      · omega
  · refine ⟨by omega, by omega, hx.fr2 hi Fr2.rf.up1, ⟨_, v, up_s _ _ _, (up_n _ hBA).trans hm1, hlv.upd q0.1 q0.2 (by show 0 ≤ (0 : Int) ∧ (0 : Int) ≤ 16; omega) (fun i j a9 b9 c9 => by have c8 : j < 0 := c9; omega) (fun k a9 b9 => by have b8 : k < 0 := b9; omega) (fun _ _ => rfl) (uI_s _ _ _) (fun j hj => uI_n _ hj)⟩, hfk.upA _, (up_n _ hqa).trans hD⟩

set_option maxHeartbeats 1000000 in
theorem aL_490 {M : Mem} {ad : Int → Nat} {n : Int → Int} {F : Int → Int → Int} {g : Int → Int} {m : Int} {S : Int → Sg3} {len : Int} {c : Int → Int} {x y t s z : Int} (hc : CL M ad n F g m S len c) (hi : Inj ad) (q0 : 0 ≤ s ∧ s < 4) (qz : 0 ≤ z ∧ z ≤ 9999) (qt : 0 ≤ t ∧ t < 14) : J KL_act 7 68 (atI 1 (fun M2 => CLG M2 ad ∧ FrK ad M M2)) 490 [(0, some (.ref (ad 0))), (1, some (vI x)), (2, some (vI y)), (3, some (.ref (ad 112))), (4, some (.ref (ad 113))), (5, some (vI t)), (6, some (vI s)), (7, some (vI z))] [] M 0 0 := by
  obtain ⟨hx, hl⟩ := id hc
  have hv := hl.vld
  obtain ⟨w, v, hn1, hm1, hlv⟩ := id hl
  obtain ⟨hset, hw4, hw5, hw6, hg0, hg1, hm6⟩ := id hlv
  obtain ⟨hws, hns, hsr, hvs⟩ := hset s q0.1 q0.2
  have hAB : ad 112 ≠ ad 113 := hi.ne ⟨by omega, by omega⟩ ⟨by omega, by omega⟩ (by omega)
  have hBA := hAB.symm
  have hv1 : ∀ k, 0 ≤ k → k < n s → v (16 * s + k) = F s k := fun k a b => (hvs k a b).1
  have hv2 : ∀ k, 0 ≤ k → k < n s → 0 ≤ F s k ∧ F s k ≤ 9999 := fun k a b => (hvs k a b).2
  have hv3 : ∀ k, 0 < k → k ≤ n s → v (16 * s + k - 1) = F s (k - 1) := fun k a b => by rw [← hv1 (k - 1) (by omega) (by omega)]; congr 1; omega
  refine r_iload_n dL_act_490 rfl ?_
  refine r_iconst dL_act_491 ?_
  refine r_ishr dL_act_492 (fun z492 hz492 => ?_)
  refine r_iconst dL_act_493 ?_
  refine r_callS2 okL_at ⟨by decide, by decide⟩ ml_L_32 (mL_at (by omega)) (Nat.le_of_ble_eq_true rfl) (by omega) (by omega) rfl dL_act_494 (nx_R) (kx_R ?_)
  intro a qa
  refine r_istore dL_act_497 (by decide) rfl ?_
  refine r_iload_n dL_act_499 rfl ?_
  refine r_iconst dL_act_500 ?_
  refine r_ishr dL_act_501 (fun z501 hz501 => ?_)
  refine r_iconst dL_act_502 ?_
  refine r_callS2 okL_at ⟨by decide, by decide⟩ ml_L_32 (mL_at (by omega)) (Nat.le_of_ble_eq_true rfl) (by omega) (by omega) rfl dL_act_503 (nx_R) (kx_R ?_)
  intro b qb
  refine r_istore dL_act_506 (by decide) rfl ?_
  refine r_iload_n dL_act_508 rfl ?_
  refine r_bipush dL_act_509 (by decide) ?_
  refine r_ishr dL_act_511 (fun z511 hz511 => ?_)
  refine r_iconst dL_act_512 ?_
  refine r_callS2 okL_at ⟨by decide, by decide⟩ ml_L_32 (mL_at (by omega)) (Nat.le_of_ble_eq_true rfl) (by omega) (by omega) rfl dL_act_513 (nx_R) (kx_R ?_)
  intro how qh
  refine r_istore dL_act_516 (by decide) rfl ?_
  refine r_bipush dL_act_518 (by decide) ?_
  refine r_newI (N := 32) rfl (by decide) ac_int (Nat.le_of_ble_eq_true rfl) (Nat.le_of_ble_eq_true rfl) dL_act_520 (fun q520 hq520 => ?_)
  have hqo := hc.new hq520
  refine J.gen (P := fun M' => CL M' ad n F g m S len c ∧ FrK ad M M' ∧ M' q520 = some (aI 32 fun _ => 0)) ⟨hc.upQ hqo _, FrK.new hq520 _, up_s _ _ _⟩ (fun M0 hM0 => ?_)
  obtain ⟨hc0, hfk0, hd0⟩ := hM0
  have hqM := hq520
  refine r_astore dL_act_522 (by decide) rfl ?_
  refine r_iconst dL_act_524 ?_
  refine r_istore dL_act_525 (by decide) rfl ?_
  refine r_iconst dL_act_527 ?_
  refine r_istore dL_act_528 (by decide) rfl ?_
  obtain ⟨-, hnA0, -, -⟩ := hset a qa.1 qa.2
  refine J.loc (L' := [(0, some _), (1, some _), (2, some _), (3, some _), (4, some _), (5, some _), (6, some _), (7, some _), (8, some _), (9, some _), (10, some _), (11, some _), (12, some _), (13, some _)]) (lsub_cons rfl (lsub_cons rfl (lsub_cons rfl (lsub_cons rfl (lsub_cons rfl (lsub_cons rfl (lsub_cons rfl (lsub_cons rfl (lsub_cons rfl (lsub_cons rfl (lsub_cons rfl (lsub_cons rfl (lsub_cons rfl (lsub_cons rfl (lsub_nil))))))))))))))) (loop4 (fun (p : Int) (mn : Int) (M1 : Mem) (D : Int → Int) => 0 ≤ p ∧ p ≤ n a ∧ JaI n F a b how p mn D ∧ CL M1 ad n F g m S len c ∧ FrK ad M M1 ∧ M1 q520 = some (aI 32 D)) (fun (p : Int) (mn : Int) (M1 : Mem) (D : Int → Int) => (n a - p).toNat) (fun (p : Int) (mn : Int) (M1 : Mem) (D : Int → Int) => J KL_act 7 68 _ 530 [(0, some (.ref (ad 0))), (1, some (vI x)), (2, some (vI y)), (3, some (.ref (ad 112))), (4, some (.ref (ad 113))), (5, some (vI t)), (6, some (vI s)), (7, some (vI z)), (8, some (vI a)), (9, some (vI b)), (10, some (vI how)), (11, some (.ref q520)), (12, some (vI mn)), (13, some (vI p))] [] M1 _ _) (fun p mn M1 D hI530 ih530 => ?_) _ _ _ (fun _ => 0) ?_)
  ·
    obtain ⟨hp0, hp1, hja, hc1, hfk1, hd1⟩ := hI530
    obtain ⟨w1, v1, hn1_, hm1_, hlv1⟩ := id hc1.2
    obtain ⟨hwa1, hna, hsa, hva1⟩ := hlv1.1 a qa.1 qa.2
    obtain ⟨hwb1, hnb, hsb, hvb1⟩ := hlv1.1 b qb.1 qb.2
    have hmn1 := hja.1
    have hmn2 := hja.2.1.1
    have hna0 := hna
    refine r_iload dL_act_530 rfl ?_
    refine r_aload_n dL_act_532 rfl ?_
    refine r_iload dL_act_533 rfl ?_
    refine r_iaload hn1_ (by omega) (by omega) (by omega) dL_act_535 ?_
    rw [hwa1]
    refine r_icmp_ge (tgt := 612) dL_act_536 (by decide) (by omega) (by omega) (fun h536 => ?_) (fun h536 => ?_)
    ·
      refine r_iconst dL_act_612 ?_
      refine r_istore dL_act_613 (by decide) rfl ?_
      refine J.loc (L' := [(0, some _), (1, some _), (2, some _), (3, some _), (4, some _), (5, some _), (6, some _), (7, some _), (8, some _), (9, some _), (10, some _), (11, some _), (12, some _), (13, some _)]) (lsub_cons rfl (lsub_cons rfl (lsub_cons rfl (lsub_cons rfl (lsub_cons rfl (lsub_cons rfl (lsub_cons rfl (lsub_cons rfl (lsub_cons rfl (lsub_cons rfl (lsub_cons rfl (lsub_cons rfl (lsub_cons rfl (lsub_cons rfl (lsub_nil))))))))))))))) (loop4 (fun (p : Int) (mn : Int) (M1 : Mem) (D : Int → Int) => 0 ≤ p ∧ p ≤ n b ∧ JbI n F a b how p mn D ∧ CL M1 ad n F g m S len c ∧ FrK ad M M1 ∧ M1 q520 = some (aI 32 D)) (fun (p : Int) (mn : Int) (M1 : Mem) (D : Int → Int) => (n b - p).toNat) (fun (p : Int) (mn : Int) (M1 : Mem) (D : Int → Int) => J KL_act 7 68 _ 615 [(0, some (.ref (ad 0))), (1, some (vI x)), (2, some (vI y)), (3, some (.ref (ad 112))), (4, some (.ref (ad 113))), (5, some (vI t)), (6, some (vI s)), (7, some (vI z)), (8, some (vI a)), (9, some (vI b)), (10, some (vI how)), (11, some (.ref q520)), (12, some (vI mn)), (13, some (vI p))] [] M1 _ _) (fun p mn M1 D hI615 ih615 => ?_) _ _ _ D ?_)
      ·
        obtain ⟨hp0, hp1, hjb, hc1, hfk1, hd1⟩ := hI615
        obtain ⟨w1, v1, hn1_, hm1_, hlv1⟩ := id hc1.2
        obtain ⟨hwa1, hna, hsa, hva1⟩ := hlv1.1 a qa.1 qa.2
        obtain ⟨hwb1, hnb, hsb, hvb1⟩ := hlv1.1 b qb.1 qb.2
        have hmn1 := hjb.1
        have hmn2 := hjb.2.1.1
        refine r_iload dL_act_615 rfl ?_
        refine r_aload_n dL_act_617 rfl ?_
        refine r_iload dL_act_618 rfl ?_
        refine r_iaload hn1_ (by omega) (by omega) (by omega) dL_act_620 ?_
        rw [hwb1]
        refine r_icmp_ge (tgt := 682) dL_act_621 (by decide) (by omega) (by omega) (fun h621 => ?_) (fun h621 => ?_)
        ·
          refine r_iload dL_act_682 rfl ?_
          refine r_bipush dL_act_684 (by decide) ?_
          refine r_icmp_le (tgt := 691) dL_act_686 (by decide) (by omega) (by omega) (fun h686 => ?_) (fun h686 => ?_)
          ·
            exact J.loc (lsub_cons rfl (lsub_cons rfl (lsub_cons rfl (lsub_cons rfl (lsub_cons rfl (lsub_cons rfl (lsub_cons rfl (lsub_cons rfl (lsub_cons rfl (lsub_cons rfl (lsub_cons rfl (lsub_cons rfl (lsub_cons rfl (lsub_nil)))))))))))))) (aL_691 (z := z) (x := x) (y := y) (t := t) hc1 hi q0 qa qb qh hd1 hqo hfk1 ⟨by omega, by omega⟩ hjb.2.1 (hjb.fin (by omega)))
          ·
            refine r_iconst dL_act_689 ?_
            refine e_zreturn dL_act_690 rfl (by omega) (by omega) (by omega) ?_
            exact oktI rfl ⟨⟨_, _, _, _, _, _, _, hc1⟩, hfk1⟩
        ·
          refine r_iload dL_act_624 rfl ?_
          refine r_if_eq (tgt := 635) dL_act_626 (by decide) (by omega) (fun h626 => ?_) (fun h626 => ?_)
          ·
            refine r_aload_n dL_act_635 rfl ?_
            refine r_aload dL_act_636 rfl ?_
            refine r_iload dL_act_638 rfl ?_
            refine r_aload dL_act_640 rfl ?_
            refine r_bipush dL_act_642 (by decide) ?_
            refine r_iload dL_act_644 rfl ?_
            refine r_imul dL_act_646 ?_
            refine r_iload dL_act_647 rfl ?_
            refine r_iadd dL_act_649 ?_
            refine r_iaload hm1_ (by omega) (by omega) (by omega) dL_act_650 ?_
            rw [(hvb1 p hp0 (by omega)).1]
            have hbp := (hvb1 p hp0 (by omega)).2
            refine r_callS4 okL_has ⟨by decide, by decide⟩ ml_L_8 (mL_has (s := a) (x := F b p) hc1.2 hi qa (by omega)) (Nat.le_of_ble_eq_true rfl) (by omega) (by omega) rfl dL_act_651 (nx_I) (kx_I ?_)
            have hbr := bI_r (hasF (n a) (F a) (F b p))
            refine r_if_ne (tgt := 676) dL_act_654 (by decide) (by omega) (fun h654 => ?_) (fun h654 => ?_)
            ·
              refine r_iinc dL_act_676 rfl rfl ?_
              refine r_goto (tgt := 615) dL_act_679 (by decide) ?_
              refine J.loc (lsub_cons rfl (lsub_cons rfl (lsub_cons rfl (lsub_cons rfl (lsub_cons rfl (lsub_cons rfl (lsub_cons rfl (lsub_cons rfl (lsub_cons rfl (lsub_cons rfl (lsub_cons rfl (lsub_cons rfl (lsub_cons rfl (lsub_cons rfl (lsub_nil))))))))))))))) (ih615 _ _ _ D ?_ ?_)
              · exact ⟨by omega, by omega, hjb.no ⟨hp0, by omega⟩ (fun _ => by omega), hc1, hfk1, hd1⟩
              · omega
            ·
              refine r_aload dL_act_657 rfl ?_
              refine r_iload dL_act_659 rfl ?_
              refine r_iinc dL_act_661 rfl rfl ?_
              refine r_aload dL_act_664 rfl ?_
              refine r_bipush dL_act_666 (by decide) ?_
              refine r_iload dL_act_668 rfl ?_
              refine r_imul dL_act_670 ?_
              refine r_iload dL_act_671 rfl ?_
              refine r_iadd dL_act_673 ?_
              refine r_iaload hm1_ (by omega) (by omega) (by omega) dL_act_674 ?_
              rw [(hvb1 p hp0 (by omega)).1]
              refine r_iastore hd1 (by omega) (by omega) (by omega) dL_act_675 ?_
              refine r_iinc dL_act_676 rfl rfl ?_
              refine r_goto (tgt := 615) dL_act_679 (by decide) ?_
              refine J.loc (lsub_cons rfl (lsub_cons rfl (lsub_cons rfl (lsub_cons rfl (lsub_cons rfl (lsub_cons rfl (lsub_cons rfl (lsub_cons rfl (lsub_cons rfl (lsub_cons rfl (lsub_cons rfl (lsub_cons rfl (lsub_cons rfl (lsub_cons rfl (lsub_nil))))))))))))))) (ih615 _ _ _ (uI D mn (F b p)) ?_ ?_)
              · exact ⟨by omega, by omega, hjb.yes hna.1 hsa hsb ⟨hp0, by omega⟩ ⟨hna.2, hnb.2⟩ hbp (by omega) (by omega), hc1.upQ hqo _, hfk1.of1 hqM Fr1.rf.up, up_s _ _ _⟩
              · omega
          ·
            refine r_iload dL_act_629 rfl ?_
            refine r_iconst dL_act_631 ?_
            refine r_icmp_ne (tgt := 676) dL_act_632 (by decide) (by omega) (by omega) (fun h632 => ?_) (fun h632 => ?_)
            ·
              refine r_iinc dL_act_676 rfl rfl ?_
              refine r_goto (tgt := 615) dL_act_679 (by decide) ?_
              refine J.loc (lsub_cons rfl (lsub_cons rfl (lsub_cons rfl (lsub_cons rfl (lsub_cons rfl (lsub_cons rfl (lsub_cons rfl (lsub_cons rfl (lsub_cons rfl (lsub_cons rfl (lsub_cons rfl (lsub_cons rfl (lsub_cons rfl (lsub_cons rfl (lsub_nil))))))))))))))) (ih615 _ _ _ D ?_ ?_)
              · exact ⟨by omega, by omega, hjb.no ⟨hp0, by omega⟩ (fun h9 => by omega), hc1, hfk1, hd1⟩
              · omega
            ·
              refine r_aload_n dL_act_635 rfl ?_
              refine r_aload dL_act_636 rfl ?_
              refine r_iload dL_act_638 rfl ?_
              refine r_aload dL_act_640 rfl ?_
              refine r_bipush dL_act_642 (by decide) ?_
              refine r_iload dL_act_644 rfl ?_
              refine r_imul dL_act_646 ?_
              refine r_iload dL_act_647 rfl ?_
              refine r_iadd dL_act_649 ?_
              refine r_iaload hm1_ (by omega) (by omega) (by omega) dL_act_650 ?_
              rw [(hvb1 p hp0 (by omega)).1]
              have hbp := (hvb1 p hp0 (by omega)).2
              refine r_callS4 okL_has ⟨by decide, by decide⟩ ml_L_8 (mL_has (s := a) (x := F b p) hc1.2 hi qa (by omega)) (Nat.le_of_ble_eq_true rfl) (by omega) (by omega) rfl dL_act_651 (nx_I) (kx_I ?_)
              have hbr := bI_r (hasF (n a) (F a) (F b p))
              refine r_if_ne (tgt := 676) dL_act_654 (by decide) (by omega) (fun h654 => ?_) (fun h654 => ?_)
              ·
                refine r_iinc dL_act_676 rfl rfl ?_
                refine r_goto (tgt := 615) dL_act_679 (by decide) ?_
                refine J.loc (lsub_cons rfl (lsub_cons rfl (lsub_cons rfl (lsub_cons rfl (lsub_cons rfl (lsub_cons rfl (lsub_cons rfl (lsub_cons rfl (lsub_cons rfl (lsub_cons rfl (lsub_cons rfl (lsub_cons rfl (lsub_cons rfl (lsub_cons rfl (lsub_nil))))))))))))))) (ih615 _ _ _ D ?_ ?_)
                · exact ⟨by omega, by omega, hjb.no ⟨hp0, by omega⟩ (fun _ => by omega), hc1, hfk1, hd1⟩
                · omega
              ·
                refine r_aload dL_act_657 rfl ?_
                refine r_iload dL_act_659 rfl ?_
                refine r_iinc dL_act_661 rfl rfl ?_
                refine r_aload dL_act_664 rfl ?_
                refine r_bipush dL_act_666 (by decide) ?_
                refine r_iload dL_act_668 rfl ?_
                refine r_imul dL_act_670 ?_
                refine r_iload dL_act_671 rfl ?_
                refine r_iadd dL_act_673 ?_
                refine r_iaload hm1_ (by omega) (by omega) (by omega) dL_act_674 ?_
                rw [(hvb1 p hp0 (by omega)).1]
                refine r_iastore hd1 (by omega) (by omega) (by omega) dL_act_675 ?_
                refine r_iinc dL_act_676 rfl rfl ?_
                refine r_goto (tgt := 615) dL_act_679 (by decide) ?_
                refine J.loc (lsub_cons rfl (lsub_cons rfl (lsub_cons rfl (lsub_cons rfl (lsub_cons rfl (lsub_cons rfl (lsub_cons rfl (lsub_cons rfl (lsub_cons rfl (lsub_cons rfl (lsub_cons rfl (lsub_cons rfl (lsub_cons rfl (lsub_cons rfl (lsub_nil))))))))))))))) (ih615 _ _ _ (uI D mn (F b p)) ?_ ?_)
                · exact ⟨by omega, by omega, hjb.yes hna.1 hsa hsb ⟨hp0, by omega⟩ ⟨hna.2, hnb.2⟩ hbp (by omega) (by omega), hc1.upQ hqo _, hfk1.of1 hqM Fr1.rf.up, up_s _ _ _⟩
                · omega
      · exact ⟨by omega, by omega, JbI.start hja (by omega), hc1, hfk1, hd1⟩
    ·
      refine r_aload_n dL_act_539 rfl ?_
      refine r_aload dL_act_540 rfl ?_
      refine r_iload dL_act_542 rfl ?_
      refine r_aload dL_act_544 rfl ?_
      refine r_bipush dL_act_546 (by decide) ?_
      refine r_iload dL_act_548 rfl ?_
      refine r_imul dL_act_550 ?_
      refine r_iload dL_act_551 rfl ?_
      refine r_iadd dL_act_553 ?_
      refine r_iaload hm1_ (by omega) (by omega) (by omega) dL_act_554 ?_
      rw [(hva1 p hp0 (by omega)).1]
      have hbp := (hva1 p hp0 (by omega)).2
      refine r_callS4 okL_has ⟨by decide, by decide⟩ ml_L_8 (mL_has (s := b) (x := F a p) hc1.2 hi qb (by omega)) (Nat.le_of_ble_eq_true rfl) (by omega) (by omega) rfl dL_act_555 (nx_I) (kx_I ?_)
      have hbr := bI_r (hasF (n b) (F b) (F a p))
      refine r_istore dL_act_558 (by decide) rfl ?_
      refine r_iload dL_act_560 rfl ?_
      refine r_if_eq (tgt := 587) dL_act_562 (by decide) (by omega) (fun h562 => ?_) (fun h562 => ?_)
      ·
        refine r_aload dL_act_587 rfl ?_
        refine r_iload dL_act_589 rfl ?_
        refine r_iinc dL_act_591 rfl rfl ?_
        refine r_aload dL_act_594 rfl ?_
        refine r_bipush dL_act_596 (by decide) ?_
        refine r_iload dL_act_598 rfl ?_
        refine r_imul dL_act_600 ?_
        refine r_iload dL_act_601 rfl ?_
        refine r_iadd dL_act_603 ?_
        refine r_iaload hm1_ (by omega) (by omega) (by omega) dL_act_604 ?_
        rw [(hva1 p hp0 (by omega)).1]
        refine r_iastore hd1 (by omega) (by omega) (by omega) dL_act_605 ?_
        refine r_iinc dL_act_606 rfl rfl ?_
        refine r_goto (tgt := 530) dL_act_609 (by decide) ?_
        refine J.loc (lsub_cons rfl (lsub_cons rfl (lsub_cons rfl (lsub_cons rfl (lsub_cons rfl (lsub_cons rfl (lsub_cons rfl (lsub_cons rfl (lsub_cons rfl (lsub_cons rfl (lsub_cons rfl (lsub_cons rfl (lsub_cons rfl (lsub_cons rfl (lsub_nil))))))))))))))) (ih530 _ _ _ (uI D mn (F a p)) ?_ ?_)
        · exact ⟨by omega, by omega, hja.yes hsa ⟨hp0, by omega⟩ hna.2 hbp (Or.inl (by omega)), hc1.upQ hqo _, hfk1.of1 hqM Fr1.rf.up, up_s _ _ _⟩
        · omega
      ·
        refine r_iload dL_act_565 rfl ?_
        refine r_iconst dL_act_567 ?_
        refine r_icmp_ne (tgt := 576) dL_act_568 (by decide) (by omega) (by omega) (fun h568 => ?_) (fun h568 => ?_)
        ·
          refine r_iload dL_act_576 rfl ?_
          refine r_iconst dL_act_578 ?_
          refine r_icmp_le (tgt := 606) dL_act_579 (by decide) (by omega) (by omega) (fun h579 => ?_) (fun h579 => ?_)
          · omega
          ·
            refine r_iload dL_act_582 rfl ?_
            refine r_if_ne (tgt := 606) dL_act_584 (by decide) (by omega) (fun h584 => ?_) (fun h584 => ?_)
            ·
              refine r_iinc dL_act_606 rfl rfl ?_
              refine r_goto (tgt := 530) dL_act_609 (by decide) ?_
              refine J.loc (lsub_cons rfl (lsub_cons rfl (lsub_cons rfl (lsub_cons rfl (lsub_cons rfl (lsub_cons rfl (lsub_cons rfl (lsub_cons rfl (lsub_cons rfl (lsub_cons rfl (lsub_cons rfl (lsub_cons rfl (lsub_cons rfl (lsub_cons rfl (lsub_nil))))))))))))))) (ih530 _ _ _ D ?_ ?_)
              · exact ⟨by omega, by omega, hja.no ⟨hp0, by omega⟩ (fun h9 => by rcases h9 with h9 | h9; omega; rw [if_neg (by omega)] at h9; omega), hc1, hfk1, hd1⟩
              · omega
            ·
              refine r_aload dL_act_587 rfl ?_
              refine r_iload dL_act_589 rfl ?_
              refine r_iinc dL_act_591 rfl rfl ?_
              refine r_aload dL_act_594 rfl ?_
              refine r_bipush dL_act_596 (by decide) ?_
              refine r_iload dL_act_598 rfl ?_
              refine r_imul dL_act_600 ?_
              refine r_iload dL_act_601 rfl ?_
              refine r_iadd dL_act_603 ?_
              refine r_iaload hm1_ (by omega) (by omega) (by omega) dL_act_604 ?_
              rw [(hva1 p hp0 (by omega)).1]
              refine r_iastore hd1 (by omega) (by omega) (by omega) dL_act_605 ?_
              refine r_iinc dL_act_606 rfl rfl ?_
              refine r_goto (tgt := 530) dL_act_609 (by decide) ?_
              refine J.loc (lsub_cons rfl (lsub_cons rfl (lsub_cons rfl (lsub_cons rfl (lsub_cons rfl (lsub_cons rfl (lsub_cons rfl (lsub_cons rfl (lsub_cons rfl (lsub_cons rfl (lsub_cons rfl (lsub_cons rfl (lsub_cons rfl (lsub_cons rfl (lsub_nil))))))))))))))) (ih530 _ _ _ (uI D mn (F a p)) ?_ ?_)
              · exact ⟨by omega, by omega, hja.yes hsa ⟨hp0, by omega⟩ hna.2 hbp (Or.inr (by rw [if_neg (by omega)]; omega)), hc1.upQ hqo _, hfk1.of1 hqM Fr1.rf.up, up_s _ _ _⟩
              · omega
        ·
          refine r_iload dL_act_571 rfl ?_
          refine r_if_ne (tgt := 587) dL_act_573 (by decide) (by omega) (fun h573 => ?_) (fun h573 => ?_)
          ·
            refine r_aload dL_act_587 rfl ?_
            refine r_iload dL_act_589 rfl ?_
            refine r_iinc dL_act_591 rfl rfl ?_
            refine r_aload dL_act_594 rfl ?_
            refine r_bipush dL_act_596 (by decide) ?_
            refine r_iload dL_act_598 rfl ?_
            refine r_imul dL_act_600 ?_
            refine r_iload dL_act_601 rfl ?_
            refine r_iadd dL_act_603 ?_
            refine r_iaload hm1_ (by omega) (by omega) (by omega) dL_act_604 ?_
            rw [(hva1 p hp0 (by omega)).1]
            refine r_iastore hd1 (by omega) (by omega) (by omega) dL_act_605 ?_
            refine r_iinc dL_act_606 rfl rfl ?_
            refine r_goto (tgt := 530) dL_act_609 (by decide) ?_
            refine J.loc (lsub_cons rfl (lsub_cons rfl (lsub_cons rfl (lsub_cons rfl (lsub_cons rfl (lsub_cons rfl (lsub_cons rfl (lsub_cons rfl (lsub_cons rfl (lsub_cons rfl (lsub_cons rfl (lsub_cons rfl (lsub_cons rfl (lsub_cons rfl (lsub_nil))))))))))))))) (ih530 _ _ _ (uI D mn (F a p)) ?_ ?_)
            · exact ⟨by omega, by omega, hja.yes hsa ⟨hp0, by omega⟩ hna.2 hbp (Or.inr (by rw [if_pos (by omega)]; omega)), hc1.upQ hqo _, hfk1.of1 hqM Fr1.rf.up, up_s _ _ _⟩
            · omega
          ·
            refine r_iload dL_act_576 rfl ?_
            refine r_iconst dL_act_578 ?_
            refine r_icmp_le (tgt := 606) dL_act_579 (by decide) (by omega) (by omega) (fun h579 => ?_) (fun h579 => ?_)
            ·
              refine r_iinc dL_act_606 rfl rfl ?_
              refine r_goto (tgt := 530) dL_act_609 (by decide) ?_
              refine J.loc (lsub_cons rfl (lsub_cons rfl (lsub_cons rfl (lsub_cons rfl (lsub_cons rfl (lsub_cons rfl (lsub_cons rfl (lsub_cons rfl (lsub_cons rfl (lsub_cons rfl (lsub_cons rfl (lsub_cons rfl (lsub_cons rfl (lsub_cons rfl (lsub_nil))))))))))))))) (ih530 _ _ _ D ?_ ?_)
              · exact ⟨by omega, by omega, hja.no ⟨hp0, by omega⟩ (fun h9 => by rcases h9 with h9 | h9; omega; rw [if_pos (by omega)] at h9; omega), hc1, hfk1, hd1⟩
              · omega
            · omega
  · exact ⟨by omega, by omega, JaI.start n F a b how _, hc0, hfk0, hd0⟩

set_option maxHeartbeats 1000000 in
theorem aL_829 {M : Mem} {ad : Int → Nat} {n : Int → Int} {F : Int → Int → Int} {g : Int → Int} {m : Int} {S : Int → Sg3} {len : Int} {c : Int → Int} {x y t s z : Int} {k e : Int} {Mz : Mem} (hx : XSt M ad (n, F, g) m S len c) (hl : LwR M ad n F (uI g k e) m) (hv : Vld (n, F, g)) (hi : Inj ad) (hfk : FrK ad Mz M) (hk : (k = 0 ∧ 2 ≤ e ∧ e ≤ 16) ∨ (k = 1 ∧ 1 ≤ e ∧ e ≤ 9999)) : J KL_act 7 68 (atI 1 (fun M2 => CLG M2 ad ∧ FrK ad Mz M2)) 829 [(0, some (.ref (ad 0))), (1, some (vI x)), (2, some (vI y)), (3, some (.ref (ad 112))), (4, some (.ref (ad 113))), (5, some (vI t)), (6, some (vI s)), (7, some (vI z)), (8, some (vI k)), (9, some (vI (g k)))] [] M 0 0 := by
  have hk2 : 0 ≤ k ∧ k < 2 := by omega
  refine jsv_829 hl hi rfl (fun M3 hl3 hfr3 => ?_)
  have hx3 := hx.fr2 hi hfr3
  obtain ⟨w3, v3, hn3, hm3, hlv3⟩ := id hl3
  have hwk : w3 (4 + k) = e := by
    rcases hk with ⟨rfl, -⟩ | ⟨rfl, -⟩
    · exact hlv3.2.1.trans (uI_s _ _ _)
    · exact hlv3.2.2.1.trans (uI_s _ _ _)
  refine r_aload_n dL_act_846 rfl ?_
  refine r_iload dL_act_847 rfl ?_
  refine r_aload_n dL_act_849 rfl ?_
  refine r_iconst dL_act_850 ?_
  refine r_iload dL_act_851 rfl ?_
  refine r_iadd dL_act_853 ?_
  refine r_iaload hn3 (by omega) (by omega) (by omega) dL_act_854 ?_
  rw [hwk]
  refine r_callV2 okX8_set ⟨by decide, by decide⟩ ml_L_61 ((mX8_set hx3 hv hi (k := k) (v := e) (by omega) (by omega)).mono (fun _ _ h => UX.ok (e2_ok (eStg_in hk2) (eB_in (by omega))) h)) hx3.1 rfl rfl (Nat.le_of_ble_eq_true rfl) (by omega) (by omega) rfl dL_act_855 (nx_tI) (kx_tI ?_)
  intro M4 hM4
  obtain ⟨hx4, hf4⟩ := hM4
  have hl4 := hl3.frI hi hf4
  refine r_iload dL_act_858 rfl ?_
  refine r_icmpNe (tgt := 867) dL_act_860 (by decide) ?_
  refine r_iconst dL_act_863 ?_
  refine r_goto (tgt := 868) dL_act_864 (by decide) ?_
  refine e_zreturn dL_act_868 rfl (by omega) (by omega) (by omega) ?_
  exact oktI rfl ⟨⟨_, _, _, _, _, _, _, ⟨hx4, hl4⟩⟩, (hfk.trans (FrK.of2 hfr3)).trans (FrK.ofI hf4)⟩

set_option maxHeartbeats 1000000 in
theorem aL_765 {M : Mem} {ad : Int → Nat} {n : Int → Int} {F : Int → Int → Int} {g : Int → Int} {m : Int} {S : Int → Sg3} {len : Int} {c : Int → Int} {x y t s z : Int} (hc : CL M ad n F g m S len c) (hi : Inj ad) (q0 : 0 ≤ s ∧ s < 4) (qz : 0 ≤ z ∧ z ≤ 9999) (qt : 0 ≤ t ∧ t < 14) : J KL_act 7 68 (atI 1 (fun M2 => CLG M2 ad ∧ FrK ad M M2)) 765 [(0, some (.ref (ad 0))), (1, some (vI x)), (2, some (vI y)), (3, some (.ref (ad 112))), (4, some (.ref (ad 113))), (5, some (vI t)), (6, some (vI s)), (7, some (vI z))] [] M 0 0 := by
  obtain ⟨hx, hl⟩ := id hc
  have hv := hl.vld
  obtain ⟨w, v, hn1, hm1, hlv⟩ := id hl
  obtain ⟨hset, hw4, hw5, hw6, hg0, hg1, hm6⟩ := id hlv
  obtain ⟨hws, hns, hsr, hvs⟩ := hset s q0.1 q0.2
  have hAB : ad 112 ≠ ad 113 := hi.ne ⟨by omega, by omega⟩ ⟨by omega, by omega⟩ (by omega)
  have hBA := hAB.symm
  have hv1 : ∀ k, 0 ≤ k → k < n s → v (16 * s + k) = F s k := fun k a b => (hvs k a b).1
  have hv2 : ∀ k, 0 ≤ k → k < n s → 0 ≤ F s k ∧ F s k ≤ 9999 := fun k a b => (hvs k a b).2
  have hv3 : ∀ k, 0 < k → k ≤ n s → v (16 * s + k - 1) = F s (k - 1) := fun k a b => by rw [← hv1 (k - 1) (by omega) (by omega)]; congr 1; omega
  refine r_iload_n dL_act_765 rfl ?_
  refine r_iconst dL_act_766 ?_
  refine r_callS2 okL_at ⟨by decide, by decide⟩ ml_L_32 (mL_at (by omega)) (Nat.le_of_ble_eq_true rfl) (by omega) (by omega) rfl dL_act_767 (nx_R) (kx_R ?_)
  intro k qk
  have hgk : w (4 + k) = g k := by
    rcases (show k = 0 ∨ k = 1 by omega) with rfl | rfl
    · exact hw4
    · exact hw5
  refine r_istore dL_act_770 (by decide) rfl ?_
  refine r_aload_n dL_act_772 rfl ?_
  refine r_iconst dL_act_773 ?_
  refine r_iload dL_act_774 rfl ?_
  refine r_iadd dL_act_776 ?_
  refine r_iaload hn1 (by omega) (by omega) (by omega) dL_act_777 ?_
  rw [hgk]
  refine r_istore dL_act_778 (by decide) rfl ?_
  refine r_aload_n dL_act_780 rfl ?_
  refine r_iconst dL_act_781 ?_
  refine r_iload dL_act_782 rfl ?_
  refine r_iadd dL_act_784 ?_
  refine r_iload dL_act_785 rfl ?_
  refine r_if_ne (tgt := 803) dL_act_787 (by decide) (by omega) (fun h787 => ?_) (fun h787 => ?_)
  ·
    refine r_iconst dL_act_803 ?_
    refine r_iload_n dL_act_804 rfl ?_
    refine r_iconst dL_act_805 ?_
    refine r_ishr dL_act_806 (fun z806 hz806 => ?_)
    refine r_iload_n dL_act_807 rfl ?_
    refine r_iconst dL_act_808 ?_
    refine r_callS2 okL_at ⟨by decide, by decide⟩ ml_L_32 (mL_at (by omega)) (Nat.le_of_ble_eq_true rfl) (by omega) (by omega) rfl dL_act_809 (nx_R) (kx_R ?_)
    intro z2 hz2
    refine r_if_ne (tgt := 821) dL_act_812 (by decide) (by omega) (fun h812 => ?_) (fun h812 => ?_)
    ·
      refine r_sipush dL_act_821 (by decide) ?_
      refine r_callS2 okL_at ⟨by decide, by decide⟩ ml_L_32 (mL_at (by omega)) (Nat.le_of_ble_eq_true rfl) (by omega) (by omega) rfl dL_act_824 (nx_R) (kx_R ?_)
      intro z3 hz3
      refine r_iadd dL_act_827 ?_
      refine r_iastore hn1 (by omega) (by omega) (by omega) dL_act_828 ?_
      exact J.loc (lsub_cons rfl (lsub_cons rfl (lsub_cons rfl (lsub_cons rfl (lsub_cons rfl (lsub_cons rfl (lsub_cons rfl (lsub_cons rfl (lsub_cons rfl (lsub_cons rfl (lsub_nil))))))))))) (aL_829 (k := k) (e := _) (hx.fr2 hi Fr2.rf.up1) ⟨_, v, up_s _ _ _, (up_n _ hBA).trans hm1, hlv.updG (by omega) (uI_s _ _ _) (fun j hj => uI_n _ hj)⟩ hv hi (FrK.rf.upA _) (by omega))
    ·
      refine r_sipush dL_act_815 (by decide) ?_
      refine r_goto (tgt := 824) dL_act_818 (by decide) ?_
      refine r_callS2 okL_at ⟨by decide, by decide⟩ ml_L_32 (mL_at (by omega)) (Nat.le_of_ble_eq_true rfl) (by omega) (by omega) rfl dL_act_824 (nx_R) (kx_R ?_)
      intro z3 hz3
      refine r_iadd dL_act_827 ?_
      refine r_iastore hn1 (by omega) (by omega) (by omega) dL_act_828 ?_
      exact J.loc (lsub_cons rfl (lsub_cons rfl (lsub_cons rfl (lsub_cons rfl (lsub_cons rfl (lsub_cons rfl (lsub_cons rfl (lsub_cons rfl (lsub_cons rfl (lsub_cons rfl (lsub_nil))))))))))) (aL_829 (k := k) (e := _) (hx.fr2 hi Fr2.rf.up1) ⟨_, v, up_s _ _ _, (up_n _ hBA).trans hm1, hlv.updG (by omega) (uI_s _ _ _) (fun j hj => uI_n _ hj)⟩ hv hi (FrK.rf.upA _) (by omega))
  ·
    refine r_iconst dL_act_790 ?_
    refine r_iload_n dL_act_791 rfl ?_
    refine r_iconst dL_act_792 ?_
    refine r_ishr dL_act_793 (fun z793 hz793 => ?_)
    refine r_bipush dL_act_794 (by decide) ?_
    refine r_callS2 okL_at ⟨by decide, by decide⟩ ml_L_32 (mL_at (by omega)) (Nat.le_of_ble_eq_true rfl) (by omega) (by omega) rfl dL_act_796 (nx_R) (kx_R ?_)
    intro z1 hz1
    refine r_iadd dL_act_799 ?_
    refine r_goto (tgt := 828) dL_act_800 (by decide) ?_
    refine r_iastore hn1 (by omega) (by omega) (by omega) dL_act_828 ?_
    exact J.loc (lsub_cons rfl (lsub_cons rfl (lsub_cons rfl (lsub_cons rfl (lsub_cons rfl (lsub_cons rfl (lsub_cons rfl (lsub_cons rfl (lsub_cons rfl (lsub_cons rfl (lsub_nil))))))))))) (aL_829 (k := k) (e := _) (hx.fr2 hi Fr2.rf.up1) ⟨_, v, up_s _ _ _, (up_n _ hBA).trans hm1, hlv.updG (by omega) (uI_s _ _ _) (fun j hj => uI_n _ hj)⟩ hv hi (FrK.rf.upA _) (by omega))

set_option maxHeartbeats 1000000 in
theorem aL_57 {M : Mem} {ad : Int → Nat} {n : Int → Int} {F : Int → Int → Int} {g : Int → Int} {m : Int} {S : Int → Sg3} {len : Int} {c : Int → Int} {x y t s z : Int} (hc : CL M ad n F g m S len c) (hi : Inj ad) (q0 : 0 ≤ s ∧ s < 4) (qz : 0 ≤ z ∧ z ≤ 9999) (qt : 0 ≤ t ∧ t < 14) : J KL_act 7 68 (atI 1 (fun M2 => CLG M2 ad ∧ FrK ad M M2)) 57 [(0, some (.ref (ad 0))), (1, some (vI x)), (2, some (vI y)), (3, some (.ref (ad 112))), (4, some (.ref (ad 113))), (5, some (vI t)), (6, some (vI s))] [vI z] M 0 0 := by
  obtain ⟨hx, hl⟩ := id hc
  have hv := hl.vld
  obtain ⟨w, v, hn1, hm1, hlv⟩ := id hl
  obtain ⟨hset, hw4, hw5, hw6, hg0, hg1, hm6⟩ := id hlv
  obtain ⟨hws, hns, hsr, hvs⟩ := hset s q0.1 q0.2
  have hAB : ad 112 ≠ ad 113 := hi.ne ⟨by omega, by omega⟩ ⟨by omega, by omega⟩ (by omega)
  have hBA := hAB.symm
  have hv1 : ∀ k, 0 ≤ k → k < n s → v (16 * s + k) = F s k := fun k a b => (hvs k a b).1
  have hv2 : ∀ k, 0 ≤ k → k < n s → 0 ≤ F s k ∧ F s k ≤ 9999 := fun k a b => (hvs k a b).2
  have hv3 : ∀ k, 0 < k → k ≤ n s → v (16 * s + k - 1) = F s (k - 1) := fun k a b => by rw [← hv1 (k - 1) (by omega) (by omega)]; congr 1; omega
  refine r_istore dL_act_57 (by decide) rfl ?_
  refine r_iload dL_act_59 rfl ?_
  refine r_bipush dL_act_61 (by decide) ?_
  refine r_icmp_ge (tgt := 163) dL_act_63 (by decide) (by omega) (by omega) (fun h63 => ?_) (fun h63 => ?_)
  ·
    refine r_iload dL_act_163 rfl ?_
    refine r_bipush dL_act_165 (by decide) ?_
    refine r_icmp_ne (tgt := 246) dL_act_167 (by decide) (by omega) (by omega) (fun h167 => ?_) (fun h167 => ?_)
    ·
      refine r_iload dL_act_246 rfl ?_
      refine r_bipush dL_act_248 (by decide) ?_
      refine r_icmp_ne (tgt := 327) dL_act_250 (by decide) (by omega) (by omega) (fun h250 => ?_) (fun h250 => ?_)
      ·
        refine r_iload dL_act_327 rfl ?_
        refine r_bipush dL_act_329 (by decide) ?_
        refine r_icmp_ne (tgt := 483) dL_act_331 (by decide) (by omega) (by omega) (fun h331 => ?_) (fun h331 => ?_)
        ·
          refine r_iload dL_act_483 rfl ?_
          refine r_bipush dL_act_485 (by decide) ?_
          refine r_icmp_ge (tgt := 765) dL_act_487 (by decide) (by omega) (by omega) (fun h487 => ?_) (fun h487 => ?_)
          ·
            exact J.loc (lsub_cons rfl (lsub_cons rfl (lsub_cons rfl (lsub_cons rfl (lsub_cons rfl (lsub_cons rfl (lsub_cons rfl (lsub_cons rfl (lsub_nil))))))))) (aL_765 hc hi q0 qz qt)
          ·
            exact J.loc (lsub_cons rfl (lsub_cons rfl (lsub_cons rfl (lsub_cons rfl (lsub_cons rfl (lsub_cons rfl (lsub_cons rfl (lsub_cons rfl (lsub_nil))))))))) (aL_490 hc hi q0 qz qt)
        ·
          exact J.loc (lsub_cons rfl (lsub_cons rfl (lsub_cons rfl (lsub_cons rfl (lsub_cons rfl (lsub_cons rfl (lsub_cons rfl (lsub_cons rfl (lsub_nil))))))))) (aL_334 hc hi q0 qz qt)
      ·
        exact J.loc (lsub_cons rfl (lsub_cons rfl (lsub_cons rfl (lsub_cons rfl (lsub_cons rfl (lsub_cons rfl (lsub_cons rfl (lsub_cons rfl (lsub_nil))))))))) (aL_253 hc hi q0 qz qt)
    ·
      refine r_aload_n dL_act_170 rfl ?_
      refine r_iload dL_act_171 rfl ?_
      refine r_iaload hn1 (by omega) (by omega) (by omega) dL_act_173 ?_
      rw [hws]
      refine r_if_le (tgt := 246) dL_act_174 (by decide) (by omega) (fun h174 => ?_) (fun h174 => ?_)
      ·
        refine r_iload dL_act_246 rfl ?_
        refine r_bipush dL_act_248 (by decide) ?_
        refine r_icmp_ne (tgt := 327) dL_act_250 (by decide) (by omega) (by omega) (fun h250 => ?_) (fun h250 => ?_)
        ·
          refine r_iload dL_act_327 rfl ?_
          refine r_bipush dL_act_329 (by decide) ?_
          refine r_icmp_ne (tgt := 483) dL_act_331 (by decide) (by omega) (by omega) (fun h331 => ?_) (fun h331 => ?_)
          ·
            refine r_iload dL_act_483 rfl ?_
            refine r_bipush dL_act_485 (by decide) ?_
            refine r_icmp_ge (tgt := 765) dL_act_487 (by decide) (by omega) (by omega) (fun h487 => ?_) (fun h487 => ?_)
            ·
              exact J.loc (lsub_cons rfl (lsub_cons rfl (lsub_cons rfl (lsub_cons rfl (lsub_cons rfl (lsub_cons rfl (lsub_cons rfl (lsub_cons rfl (lsub_nil))))))))) (aL_765 hc hi q0 qz qt)
            ·
              exact J.loc (lsub_cons rfl (lsub_cons rfl (lsub_cons rfl (lsub_cons rfl (lsub_cons rfl (lsub_cons rfl (lsub_cons rfl (lsub_cons rfl (lsub_nil))))))))) (aL_490 hc hi q0 qz qt)
          ·
            exact J.loc (lsub_cons rfl (lsub_cons rfl (lsub_cons rfl (lsub_cons rfl (lsub_cons rfl (lsub_cons rfl (lsub_cons rfl (lsub_cons rfl (lsub_nil))))))))) (aL_334 hc hi q0 qz qt)
        ·
          exact J.loc (lsub_cons rfl (lsub_cons rfl (lsub_cons rfl (lsub_cons rfl (lsub_cons rfl (lsub_cons rfl (lsub_cons rfl (lsub_cons rfl (lsub_nil))))))))) (aL_253 hc hi q0 qz qt)
      ·
        exact J.loc (lsub_cons rfl (lsub_cons rfl (lsub_cons rfl (lsub_cons rfl (lsub_cons rfl (lsub_cons rfl (lsub_cons rfl (lsub_cons rfl (lsub_nil))))))))) (aL_177 hc hi q0 qz qt (by omega))
  ·
    exact J.loc (lsub_cons rfl (lsub_cons rfl (lsub_cons rfl (lsub_cons rfl (lsub_cons rfl (lsub_cons rfl (lsub_cons rfl (lsub_cons rfl (lsub_nil))))))))) (aL_66 hc hi q0 qz qt)

set_option maxHeartbeats 4000000 in
theorem mL_act {M : Mem} {ad : Int → Nat} {n : Int → Int} {F : Int → Int → Int} {g : Int → Int} {m : Int} {S : Int → Sg3} {len : Int} {c : Int → Int} {x y : Int} (hc : CL M ad n F g m S len c) (hi : Inj ad) (qx : R32 x) (qy : R32 y) : Ct KL_act [.ref (ad 0), vI x, vI y, .ref (ad 112), .ref (ad 113)] M 7 68 (atI 1 (fun M2 => CLG M2 ad ∧ FrK ad M M2)) := by
  refine Ct.of _ (by decide) rfl (Nat.le_of_ble_eq_true rfl) ?_
  obtain ⟨hx, hl⟩ := id hc
  obtain ⟨w, v, hn1, hm1, hlv⟩ := id hl
  refine r_iload_n dL_act_0 rfl ?_
  refine r_bipush dL_act_1 (by decide) ?_
  refine r_ishr dL_act_3 (fun z3 hz3 => ?_)
  refine r_bipush dL_act_4 (by decide) ?_
  refine r_callS2 okL_at ⟨by decide, by decide⟩ ml_L_32 (mL_at (by omega)) (Nat.le_of_ble_eq_true rfl) (by omega) (by omega) rfl dL_act_6 (nx_R) (kx_R ?_)
  intro t qt
  refine r_istore dL_act_9 (by decide) rfl ?_
  refine r_iload_n dL_act_11 rfl ?_
  refine r_iconst dL_act_12 ?_
  refine r_callS2 okL_at ⟨by decide, by decide⟩ ml_L_32 (mL_at (by omega)) (Nat.le_of_ble_eq_true rfl) (by omega) (by omega) rfl dL_act_13 (nx_R) (kx_R ?_)
  intro s qs
  obtain ⟨hws, hns, -⟩ := hlv.1 s qs.1 qs.2
  refine r_istore dL_act_16 (by decide) rfl ?_
  refine r_iload_n dL_act_18 rfl ?_
  refine r_iconst dL_act_19 ?_
  refine r_ishr dL_act_20 (fun z20 hz20 => ?_)
  refine r_iconst dL_act_21 ?_
  refine r_callS2 okL_at ⟨by decide, by decide⟩ ml_L_32 (mL_at (by omega)) (Nat.le_of_ble_eq_true rfl) (by omega) (by omega) rfl dL_act_22 (nx_R) (kx_R ?_)
  intro z22 hz22
  refine r_if_ne (tgt := 38) dL_act_25 (by decide) (by omega) (fun h25 => ?_) (fun h25 => ?_)
  ·
    refine r_iload_n dL_act_38 rfl ?_
    refine r_bipush dL_act_39 (by decide) ?_
    refine r_ishr dL_act_41 (fun z41 hz41 => ?_)
    refine r_iconst dL_act_42 ?_
    refine r_callS2 okL_at ⟨by decide, by decide⟩ ml_L_32 (mL_at (by omega)) (Nat.le_of_ble_eq_true rfl) (by omega) (by omega) rfl dL_act_43 (nx_R) (kx_R ?_)
    intro z43 hz43
    refine r_sipush dL_act_46 (by decide) ?_
    refine r_imul dL_act_49 ?_
    refine r_iload_n dL_act_50 rfl ?_
    refine r_bipush dL_act_51 (by decide) ?_
    refine r_callS2 okL_at ⟨by decide, by decide⟩ ml_L_32 (mL_at (by omega)) (Nat.le_of_ble_eq_true rfl) (by omega) (by omega) rfl dL_act_53 (nx_R) (kx_R ?_)
    intro z53 hz53
    refine r_iadd dL_act_56 ?_
    exact J.loc (lsub_cons rfl (lsub_cons rfl (lsub_cons rfl (lsub_cons rfl (lsub_cons rfl (lsub_cons rfl (lsub_cons rfl (lsub_nil)))))))) (aL_57 hc hi qs (by omega) qt)
  ·
    refine r_iload_n dL_act_28 rfl ?_
    refine r_sipush dL_act_29 (by decide) ?_
    refine r_callS2 okL_at ⟨by decide, by decide⟩ ml_L_32 (mL_at (by omega)) (Nat.le_of_ble_eq_true rfl) (by omega) (by omega) rfl dL_act_32 (nx_R) (kx_R ?_)
    intro z32 hz32
    refine r_goto (tgt := 57) dL_act_35 (by decide) ?_
    exact J.loc (lsub_cons rfl (lsub_cons rfl (lsub_cons rfl (lsub_cons rfl (lsub_cons rfl (lsub_cons rfl (lsub_cons rfl (lsub_nil)))))))) (aL_57 hc hi qs (by omega) qt)
