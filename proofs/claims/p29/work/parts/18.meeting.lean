/-! Meeting -/
def MtW (M : Mem) (ad : Int → Nat) : Prop := (∃ cm : Int, M (ad 101) = some (oC 4 [.ref (ad 102), .ref (ad 105), vI cm])) ∧ LpW M ad 102 ∧ LpW M ad 105
def MtD (M : Mem) (ad : Int → Nat) (r : Int × (Int × (Int × Int))) : Prop := ∃ (b1 v1 b2 v2 : Value) (p1 p2 k1 k2 : Int), M (ad 101) = some (oC 4 [.ref (ad 102), .ref (ad 105), vI r.1]) ∧ M (ad 102) = some (oC 3 [b1, v1, vI p1, vI r.2.1, vI k1]) ∧ M (ad 105) = some (oC 3 [b2, v2, vI p2, vI r.2.2.1, vI k2]) ∧ k1 + k2 = r.2.2.2
theorem MtW.frame {M M1 : Mem} {ad : Int → Nat} (h : MtW M ad) (hq : ∀ i, 101 ≤ i → i < 108 → M1 (ad i) = M (ad i)) : MtW M1 ad := by
  obtain ⟨⟨cm, h1⟩, h2, h3⟩ := h
  exact ⟨⟨cm, (hq _ (by omega) (by omega)).trans h1⟩, h2.frame (fun i a b => hq i (by omega) (by omega)), h3.frame (fun i a b => hq i (by omega) (by omega))⟩
/-- the intersection of two sets of a state -/
def mtS (n : Int → Int) (F : Int → Int → Int) (g : Int → Int) (a b : Int) : Int × (Int × (Int × Int)) :=
  mtR (n a) (nbF (n a) (F a) (g 0) (g 1)) (stF (n a) (F a) (g 0) (g 1)) (F a) (n b) (nbF (n b) (F b) (g 0) (g 1)) (stF (n b) (F b) (g 0) (g 1)) (F b)
def tolF (r : Int × (Int × (Int × Int))) (w : Int) : Int := if w = 0 then r.1 else if w = 1 then r.2.1 else if w = 2 then r.2.2.1 else r.2.2.2
set_option maxHeartbeats 4000000 in
theorem mX4_run {M : Mem} {ad : Int → Nat} {n : Int → Int} {F : Int → Int → Int} {g : Int → Int} {k1 k2 : Int} (hw : MtW M ad) (hst : StP M ad 1 n F g) (hi : Inj ad) (q0 : 0 ≤ k1 ∧ k1 < 4) (q1 : 0 ≤ k2 ∧ k2 < 4) (hg0 : 2 ≤ g 0 ∧ g 0 ≤ 16) (hg1 : 1 ≤ g 1 ∧ g 1 ≤ 9999) (hsr : Srt (n k1) (F k1)) : Ct KX4_run [.ref (ad 101), .ref (ad 1), vI k1, vI k2] M 0 0 (atV (fun M2 => MtD M2 ad (mtS n F g k1 k2) ∧ MtW M2 ad ∧ FrI ad 101 108 M M2)) := by
  refine Ct.of _ (by decide) rfl (Nat.le_of_ble_eq_true rfl) ?_
  obtain ⟨⟨cm0, h101⟩, hw1, hw2⟩ := id hw
  obtain ⟨⟨v1, x1, x2, x3, h102⟩, hbw1⟩ := id hw1
  have hm1 := hst.mb q0.1 q0.2
  have hm2 := hst.mb q1.1 q1.2
  have hn1 : 0 ≤ n k1 ∧ n k1 ≤ 60 := ⟨hm1.2.2.1, hm1.2.2.2.1⟩
  have hn2 : 0 ≤ n k2 ∧ n k2 ≤ 60 := ⟨hm2.2.2.1, hm2.2.2.2.1⟩
  have hb1 := BkS.of hn1.1 hn1.2 (F k1) (g 0) (g 1)
  have hb2 := BkS.of hn2.1 hn2.2 (F k2) (g 0) (g 1)
  refine r_aload_n dX4_run_0 rfl ?_
  refine r_getfield clX4 0 (by decide) fl_X4_12 h101 rfl dX4_run_1 ?_
  refine r_aload_n dX4_run_4 rfl ?_
  refine r_iload_n dX4_run_5 rfl ?_
  refine r_callV2 okX3_begin ⟨by decide, by decide⟩ ml_X4_25 (mX3_begin hw1 hst hi (by omega) q0.1 q0.2 hg0 hg1) h102 rfl rfl (Nat.le_of_ble_eq_true rfl) (Nat.le_of_ble_eq_true rfl) (Nat.le_of_ble_eq_true rfl) rfl dX4_run_6 (nx_tV) (kx_tV ?_)
  intro MA hMA
  have hkA : ∀ i, 0 ≤ i ∧ i < 122 → (i < 102 ∨ 105 ≤ i) → MA (ad i) = M (ad i) := fun i a b => hMA.2.at hi ⟨by omega, by omega⟩ a b
  have hA101 := (hkA 101 ⟨by omega, by omega⟩ (by omega)).trans h101
  have hstA : StP MA ad 1 n F g := hst.frame (fun i a b => hkA i ⟨by omega, by omega⟩ (by omega))
  have hwA : LpW MA ad 105 := hw2.frame (fun i a b => hkA i ⟨by omega, by omega⟩ (by omega))
  obtain ⟨⟨v2, y1, y2, y3, h105⟩, hbw2⟩ := id hwA
  refine r_aload_n dX4_run_9 rfl ?_
  refine r_getfield clX4 1 (by decide) fl_X4_18 hA101 rfl dX4_run_10 ?_
  refine r_aload_n dX4_run_13 rfl ?_
  refine r_iload_n dX4_run_14 rfl ?_
  refine r_callV2 okX3_begin ⟨by decide, by decide⟩ ml_X4_25 (mX3_begin hwA hstA hi (by omega) q1.1 q1.2 hg0 hg1) h105 rfl rfl (Nat.le_of_ble_eq_true rfl) (Nat.le_of_ble_eq_true rfl) (Nat.le_of_ble_eq_true rfl) rfl dX4_run_15 (nx_tV) (kx_tV ?_)
  intro MB hMB
  have hkB : ∀ i, 0 ≤ i ∧ i < 122 → (i < 105 ∨ 108 ≤ i) → MB (ad i) = MA (ad i) := fun i a b => hMB.2.at hi ⟨by omega, by omega⟩ a b
  have hB101 := (hkB 101 ⟨by omega, by omega⟩ (by omega)).trans hA101
  have hl1B : LpP MB ad 102 (ad (1 + 2 + k1)) (nbF (n k1) (F k1) (g 0) (g 1)) (stF (n k1) (F k1) (g 0) (g 1)) 0 0 0 := hMA.1.frame (fun i a b => hkB i ⟨by omega, by omega⟩ (by omega))
  have hfrB : FrI ad 101 108 M MB := (hMA.2.mono (by omega) (by omega)).trans (hMB.2.mono (by omega) (by omega))
  have hkC : ∀ i, 0 ≤ i ∧ i < 122 → i ≠ 101 → up MB (ad 101) (oC 4 [.ref (ad 102), .ref (ad 105), vI 0]) (ad i) = MB (ad i) := fun i a b => up_n _ (hi.ne a ⟨by omega, by omega⟩ b)
  have hstB : StP (up MB (ad 101) (oC 4 [.ref (ad 102), .ref (ad 105), vI 0])) ad 1 n F g := hst.frame (fun i a b => (hkC i ⟨by omega, by omega⟩ (by omega)).trans (hfrB.at hi ⟨by omega, by omega⟩ ⟨by omega, by omega⟩ (by omega)))
  refine r_aload_n dX4_run_18 rfl ?_
  refine r_iconst dX4_run_19 ?_
  refine r_putfield clX4 2 (by decide) fl_X4_21 rfl hB101 rfl rfl (Nat.le_of_ble_eq_true rfl) dX4_run_20 ?_
  refine r_aload_n dX4_run_23 rfl ?_
  refine r_iload_n dX4_run_24 rfl ?_
  refine r_callV1 okX7_members ⟨by decide, by decide⟩ ml_X4_29 (mX7_members hstB q0.1 q0.2) hstB.1 rfl rfl (Nat.le_of_ble_eq_true rfl) (Nat.le_of_ble_eq_true rfl) (Nat.le_of_ble_eq_true rfl) rfl dX4_run_25 (nx_A) (kx_A ?_)
  refine r_callV0 okX5_amount ⟨by decide, by decide⟩ ml_X4_35 (mX5_amount (hstB.mb q0.1 q0.2)) (hstB.mb q0.1 q0.2).1 rfl rfl (Nat.le_of_ble_eq_true rfl) (Nat.le_of_ble_eq_true rfl) (Nat.le_of_ble_eq_true rfl) rfl dX4_run_28 (nx_I) (kx_I ?_)
  refine r_istore dX4_run_31 (by decide) rfl ?_
  refine r_iconst dX4_run_33 ?_
  refine r_istore dX4_run_34 (by decide) rfl ?_
  refine r_iconst dX4_run_36 ?_
  refine r_istore dX4_run_37 (by decide) rfl ?_
  refine J.loc (L' := [(0, some _), (1, some _), (2, some _), (3, some _), (4, some _), (5, some _), (6, some _)]) (lsub_cons rfl (lsub_cons rfl (lsub_cons rfl (lsub_cons rfl (lsub_cons rfl (lsub_cons rfl (lsub_cons rfl (lsub_nil)))))))) (loop3 (fun (op : Int) (rd : Int) (M1 : Mem) => 0 ≤ rd ∧ rd ≤ n k1 ∧ FrI ad 101 108 M M1 ∧ ∃ p1 p2 l1 l2 ka kb cm : Int, M1 (ad 101) = some (oC 4 [.ref (ad 102), .ref (ad 105), vI cm]) ∧ LpP M1 ad 102 (ad (1 + 2 + k1)) (nbF (n k1) (F k1) (g 0) (g 1)) (stF (n k1) (F k1) (g 0) (g 1)) p1 l1 ka ∧ LpP M1 ad 105 (ad (1 + 2 + k2)) (nbF (n k2) (F k2) (g 0) (g 1)) (stF (n k2) (F k2) (g 0) (g 1)) p2 l2 kb ∧ ((op = 1 ∧ 0 ≤ p1 ∧ p1 < n k1 ∧ rd ≤ p1 ∧ (0 < n k2 → 0 ≤ p2 ∧ p2 < n k2) ∧ mtS n F g k1 k2 = mtF (n k1) (nbF (n k1) (F k1) (g 0) (g 1)) (stF (n k1) (F k1) (g 0) (g 1)) (F k1) (n k2) (nbF (n k2) (F k2) (g 0) (g 1)) (stF (n k2) (F k2) (g 0) (g 1)) (F k2) (n k1 - rd).toNat p1 p2 cm l1 l2 (ka + kb)) ∨ (op = 0 ∧ mtS n F g k1 k2 = (cm, l1, l2, ka + kb)) ∨ (op = 1 ∧ n k1 = 0 ∧ mtS n F g k1 k2 = (cm, l1, l2, ka + kb)))) (fun (op : Int) (rd : Int) (M1 : Mem) => (n k1 - rd).toNat) (fun (op : Int) (rd : Int) (M1 : Mem) => J KX4_run 0 0 _ 39 [(0, some (.ref (ad 101))), (1, some (.ref (ad 1))), (2, some (vI k1)), (3, some (vI k2)), (4, some (vI (n k1))), (5, some (vI op)), (6, some (vI rd))] [] M1 _ _) (fun op rd M1 hI39 ih39 => ?_) _ _ _ ?_)
  ·
    obtain ⟨hrd, hrd1, hfr, p1, p2, l1, l2, ka, kb, cm, h1, hl1, hl2, hcs⟩ := hI39
    have hs1 : StP M1 ad 1 n F g := hst.frame (fun i a b => hfr.at hi ⟨by omega, by omega⟩ ⟨by omega, by omega⟩ (by omega))
    have hop9 : op = 0 ∨ op = 1 := by rcases hcs with h | h | h <;> omega
    refine r_iload dX4_run_39 rfl ?_
    refine r_if_eq (tgt := 134) dX4_run_41 (by decide) (by omega) (fun h41 => ?_) (fun h41 => ?_)
    ·
      refine e_return dX4_run_134 rfl (Nat.le_of_ble_eq_true rfl) (Nat.le_of_ble_eq_true rfl) ?_
      rcases hcs with ⟨hop, hp0, hp1, hrp, -⟩ | ⟨hop, hres⟩ | ⟨hop, he, hres⟩
      · exfalso; omega
      · refine oktV ⟨⟨.ref (ad (102 + 1)), .ref (ad (1 + 2 + k1)), .ref (ad (105 + 1)), .ref (ad (1 + 2 + k2)), p1, p2, ka, kb, ?_, ?_, ?_, ?_⟩, ⟨⟨cm, h1⟩, hl1.w, hl2.w⟩, hfr⟩
        · rw [hres]; exact h1
        · rw [hres]; exact hl1.1
        · rw [hres]; exact hl2.1
        · rw [hres]
      · refine oktV ⟨⟨.ref (ad (102 + 1)), .ref (ad (1 + 2 + k1)), .ref (ad (105 + 1)), .ref (ad (1 + 2 + k2)), p1, p2, ka, kb, ?_, ?_, ?_, ?_⟩, ⟨⟨cm, h1⟩, hl1.w, hl2.w⟩, hfr⟩
        · rw [hres]; exact h1
        · rw [hres]; exact hl1.1
        · rw [hres]; exact hl2.1
        · rw [hres]
    ·
      refine r_iload dX4_run_44 rfl ?_
      refine r_iload dX4_run_46 rfl ?_
      refine r_icmp_ge (tgt := 134) dX4_run_48 (by decide) (by omega) (by omega) (fun h48 => ?_) (fun h48 => ?_)
      ·
        refine e_return dX4_run_134 rfl (Nat.le_of_ble_eq_true rfl) (Nat.le_of_ble_eq_true rfl) ?_
        rcases hcs with ⟨hop, hp0, hp1, hrp, -⟩ | ⟨hop, hres⟩ | ⟨hop, he, hres⟩
        · exfalso; omega
        · refine oktV ⟨⟨.ref (ad (102 + 1)), .ref (ad (1 + 2 + k1)), .ref (ad (105 + 1)), .ref (ad (1 + 2 + k2)), p1, p2, ka, kb, ?_, ?_, ?_, ?_⟩, ⟨⟨cm, h1⟩, hl1.w, hl2.w⟩, hfr⟩
          · rw [hres]; exact h1
          · rw [hres]; exact hl1.1
          · rw [hres]; exact hl2.1
          · rw [hres]
        · refine oktV ⟨⟨.ref (ad (102 + 1)), .ref (ad (1 + 2 + k1)), .ref (ad (105 + 1)), .ref (ad (1 + 2 + k2)), p1, p2, ka, kb, ?_, ?_, ?_, ?_⟩, ⟨⟨cm, h1⟩, hl1.w, hl2.w⟩, hfr⟩
          · rw [hres]; exact h1
          · rw [hres]; exact hl1.1
          · rw [hres]; exact hl2.1
          · rw [hres]
      ·
        rcases hcs with ⟨hop, hp0, hp1, hrp, hp2, hres⟩ | ⟨hop, -⟩ | ⟨hop, he, -⟩
        rotate_left
        · omega
        · omega
        have hFb := (hs1.mb q0.1 q0.2).2.2.2.2.2 p1 hp0 hp1
        refine r_aload_n dX4_run_51 rfl ?_
        refine r_getfield clX4 0 (by decide) fl_X4_12 h1 rfl dX4_run_52 ?_
        refine r_callV0 okX3_reached ⟨by decide, by decide⟩ ml_X4_41 (mX3_reached hl1 (hs1.mb q0.1 q0.2) (by omega)) hl1.1 rfl rfl (Nat.le_of_ble_eq_true rfl) (Nat.le_of_ble_eq_true rfl) (Nat.le_of_ble_eq_true rfl) rfl dX4_run_55 (nx_I) (kx_I ?_)
        rw [atF_in (by omega) (by omega)]
        refine r_istore dX4_run_58 (by decide) rfl ?_
        refine r_aload_n dX4_run_60 rfl ?_
        refine r_getfield clX4 1 (by decide) fl_X4_18 h1 rfl dX4_run_61 ?_
        refine r_iload dX4_run_64 rfl ?_
        refine r_callV1 okX3_leapsTo ⟨by decide, by decide⟩ ml_X4_44 (mX3_leapsTo hl2 (hs1.mb q1.1 q1.2) hi (by omega) ⟨(hi.ne ⟨by omega, by omega⟩ ⟨by omega, by omega⟩ (by omega)), (hi.ne ⟨by omega, by omega⟩ ⟨by omega, by omega⟩ (by omega))⟩ hb2 (by omega) hp2) hl2.1 rfl rfl (Nat.le_of_ble_eq_true rfl) (Nat.le_of_ble_eq_true rfl) (Nat.le_of_ble_eq_true rfl) rfl dX4_run_66 (nx_tI) (kx_tI ?_)
        intro M2 hM2
        have hib := bI_r (decide (0 ≤ (lpN (n k2) (nbF (n k2) (F k2) (g 0) (g 1)) (stF (n k2) (F k2) (g 0) (g 1)) (F k2) (F k1 p1) (batF (nbF (n k2) (F k2) (g 0) (g 1)) (stF (n k2) (F k2) (g 0) (g 1)) p2)).1))
        have hsp := lpN_spec (F k2) (F k1 p1) hb2 (b0 := batF (nbF (n k2) (F k2) (g 0) (g 1)) (stF (n k2) (F k2) (g 0) (g 1)) p2) (fun h => batF_r hb2 h p2)
        have hkeep : ∀ i, 101 ≤ i → i < 105 → M2 (ad i) = M1 (ad i) := fun i a b => hM2.2.at hi ⟨by omega, by omega⟩ ⟨by omega, by omega⟩ (by omega)
        have hs2 : StP M2 ad 1 n F g := hs1.frame (fun i a b => hM2.2.at hi ⟨by omega, by omega⟩ ⟨by omega, by omega⟩ (by omega))
        have hl1b : LpP M2 ad 102 (ad (1 + 2 + k1)) (nbF (n k1) (F k1) (g 0) (g 1)) (stF (n k1) (F k1) (g 0) (g 1)) p1 l1 ka := hl1.frame (fun i a b => hkeep i (by omega) (by omega))
        have hfr2 : FrI ad 101 108 M M2 := hfr.trans (hM2.2.mono (by omega) (by omega))
        refine r_if_ne (tgt := 78) dX4_run_69 (by decide) (by omega) (fun h69 => ?_) (fun h69 => ?_)
        ·
          have hR : 0 ≤ (lpN (n k2) (nbF (n k2) (F k2) (g 0) (g 1)) (stF (n k2) (F k2) (g 0) (g 1)) (F k2) (F k1 p1) (batF (nbF (n k2) (F k2) (g 0) (g 1)) (stF (n k2) (F k2) (g 0) (g 1)) p2)).1 := by
            have := bI_t h69; simpa using this
          rw [if_pos hR] at hM2
          have hsp2 := hsp.resolve_left (by omega)
          obtain ⟨t1, t2, t3, t4, t5, t6, t7, t8⟩ := hsp2
          have hFc := (hs2.mb q1.1 q1.2).2.2.2.2.2 _ t2 t3
          refine r_aload_n dX4_run_78 rfl ?_
          refine r_getfield clX4 1 (by decide) fl_X4_18 ((hkeep 101 (by omega) (by omega)).trans h1) rfl dX4_run_79 ?_
          refine r_callV0 okX3_reached ⟨by decide, by decide⟩ ml_X4_41 (mX3_reached hM2.1 (hs2.mb q1.1 q1.2) (by omega)) hM2.1.1 rfl rfl (Nat.le_of_ble_eq_true rfl) (Nat.le_of_ble_eq_true rfl) (Nat.le_of_ble_eq_true rfl) rfl dX4_run_82 (nx_I) (kx_I ?_)
          rw [atF_in (by omega) (by omega)]
          refine r_iload dX4_run_85 rfl ?_
          refine r_icmp_ne (tgt := 112) dX4_run_87 (by decide) (by omega) (by omega) (fun h87 => ?_) (fun h87 => ?_)
          ·
            refine r_aload_n dX4_run_112 rfl ?_
            refine r_getfield clX4 0 (by decide) fl_X4_12 ((hkeep 101 (by omega) (by omega)).trans h1) rfl dX4_run_113 ?_
            refine r_aload_n dX4_run_116 rfl ?_
            refine r_getfield clX4 1 (by decide) fl_X4_18 ((hkeep 101 (by omega) (by omega)).trans h1) rfl dX4_run_117 ?_
            refine r_callV0 okX3_reached ⟨by decide, by decide⟩ ml_X4_41 (mX3_reached hM2.1 (hs2.mb q1.1 q1.2) (by omega)) hM2.1.1 rfl rfl (Nat.le_of_ble_eq_true rfl) (Nat.le_of_ble_eq_true rfl) (Nat.le_of_ble_eq_true rfl) rfl dX4_run_120 (nx_I) (kx_I ?_)
            rw [atF_in (by omega) (by omega)]
            refine r_callV1 okX3_leapsTo ⟨by decide, by decide⟩ ml_X4_44 (mX3_leapsTo hl1b (hs2.mb q0.1 q0.2) hi (by omega) ⟨(hi.ne ⟨by omega, by omega⟩ ⟨by omega, by omega⟩ (by omega)), (hi.ne ⟨by omega, by omega⟩ ⟨by omega, by omega⟩ (by omega))⟩ hb1 (by omega) (fun _ => ⟨by omega, by omega⟩)) hl1b.1 rfl rfl (Nat.le_of_ble_eq_true rfl) (Nat.le_of_ble_eq_true rfl) (Nat.le_of_ble_eq_true rfl) rfl dX4_run_123 (nx_tI) (kx_tI ?_)
            intro M3 hM3
            have hspb := lpN_spec (F k1) (F k2 (lpN (n k2) (nbF (n k2) (F k2) (g 0) (g 1)) (stF (n k2) (F k2) (g 0) (g 1)) (F k2) (F k1 p1) (batF (nbF (n k2) (F k2) (g 0) (g 1)) (stF (n k2) (F k2) (g 0) (g 1)) p2)).1) hb1 (b0 := batF (nbF (n k1) (F k1) (g 0) (g 1)) (stF (n k1) (F k1) (g 0) (g 1)) p1) (fun h => batF_r hb1 h p1)
            refine r_istore dX4_run_126 (by decide) rfl ?_
            refine r_iinc dX4_run_128 rfl rfl ?_
            refine r_goto (tgt := 39) dX4_run_131 (by decide) ?_
            refine J.loc (lsub_cons rfl (lsub_cons rfl (lsub_cons rfl (lsub_cons rfl (lsub_cons rfl (lsub_cons rfl (lsub_cons rfl (lsub_nil)))))))) (ih39 _ _ _ ?_ ?_)
            · have hl2c : LpP M3 ad 105 (ad (1 + 2 + k2)) (nbF (n k2) (F k2) (g 0) (g 1)) (stF (n k2) (F k2) (g 0) (g 1)) (lpN (n k2) (nbF (n k2) (F k2) (g 0) (g 1)) (stF (n k2) (F k2) (g 0) (g 1)) (F k2) (F k1 p1) (batF (nbF (n k2) (F k2) (g 0) (g 1)) (stF (n k2) (F k2) (g 0) (g 1)) p2)).1 (l2 + 1) (kb + (lpN (n k2) (nbF (n k2) (F k2) (g 0) (g 1)) (stF (n k2) (F k2) (g 0) (g 1)) (F k2) (F k1 p1) (batF (nbF (n k2) (F k2) (g 0) (g 1)) (stF (n k2) (F k2) (g 0) (g 1)) p2)).2.1) := hM2.1.frame (fun i a b => hM3.2.at hi ⟨by omega, by omega⟩ ⟨by omega, by omega⟩ (by omega))
              have h1c : M3 (ad 101) = some (oC 4 [.ref (ad 102), .ref (ad 105), vI cm]) := (hM3.2.at hi ⟨by omega, by omega⟩ ⟨by omega, by omega⟩ (by omega)).trans ((hkeep 101 (by omega) (by omega)).trans h1)
              have hfr3 : FrI ad 101 108 M M3 := hfr2.trans (hM3.2.mono (by omega) (by omega))
              rw [show (n k1 - rd).toNat = (n k1 - (rd + 1)).toNat + 1 by omega, mtF] at hres
              dsimp only at hres
              rw [if_neg (by omega), if_neg (by omega)] at hres
              refine ⟨by omega, by omega, hfr3, _, _, l1 + 1, l2 + 1, _, _, cm, h1c, hM3.1, hl2c, ?_⟩
              by_cases e : 0 ≤ (lpN (n k1) (nbF (n k1) (F k1) (g 0) (g 1)) (stF (n k1) (F k1) (g 0) (g 1)) (F k1) (F k2 (lpN (n k2) (nbF (n k2) (F k2) (g 0) (g 1)) (stF (n k2) (F k2) (g 0) (g 1)) (F k2) (F k1 p1) (batF (nbF (n k2) (F k2) (g 0) (g 1)) (stF (n k2) (F k2) (g 0) (g 1)) p2)).1) (batF (nbF (n k1) (F k1) (g 0) (g 1)) (stF (n k1) (F k1) (g 0) (g 1)) p1)).1
              · rw [if_neg (by omega)] at hres
                rw [if_pos e]
                obtain ⟨u1, u2, u3, u4, u5, u6, u7, u8⟩ := hspb.resolve_left (by omega)
                have hlt := hsr.lt (i := p1) (j := (lpN (n k1) (nbF (n k1) (F k1) (g 0) (g 1)) (stF (n k1) (F k1) (g 0) (g 1)) (F k1) (F k2 (lpN (n k2) (nbF (n k2) (F k2) (g 0) (g 1)) (stF (n k2) (F k2) (g 0) (g 1)) (F k2) (F k1 p1) (batF (nbF (n k2) (F k2) (g 0) (g 1)) (stF (n k2) (F k2) (g 0) (g 1)) p2)).1) (batF (nbF (n k1) (F k1) (g 0) (g 1)) (stF (n k1) (F k1) (g 0) (g 1)) p1)).1) ⟨hp0, hp1⟩ ⟨u2, u3⟩ (by omega)
                exact Or.inl ⟨by rw [decide_eq_true e]; rfl, by omega, u3, by omega, fun _ => ⟨t2, t3⟩, by rw [hres, show ka + kb + (lpN (n k2) (nbF (n k2) (F k2) (g 0) (g 1)) (stF (n k2) (F k2) (g 0) (g 1)) (F k2) (F k1 p1) (batF (nbF (n k2) (F k2) (g 0) (g 1)) (stF (n k2) (F k2) (g 0) (g 1)) p2)).2.1 + (lpN (n k1) (nbF (n k1) (F k1) (g 0) (g 1)) (stF (n k1) (F k1) (g 0) (g 1)) (F k1) (F k2 (lpN (n k2) (nbF (n k2) (F k2) (g 0) (g 1)) (stF (n k2) (F k2) (g 0) (g 1)) (F k2) (F k1 p1) (batF (nbF (n k2) (F k2) (g 0) (g 1)) (stF (n k2) (F k2) (g 0) (g 1)) p2)).1) (batF (nbF (n k1) (F k1) (g 0) (g 1)) (stF (n k1) (F k1) (g 0) (g 1)) p1)).2.1 = ka + (lpN (n k1) (nbF (n k1) (F k1) (g 0) (g 1)) (stF (n k1) (F k1) (g 0) (g 1)) (F k1) (F k2 (lpN (n k2) (nbF (n k2) (F k2) (g 0) (g 1)) (stF (n k2) (F k2) (g 0) (g 1)) (F k2) (F k1 p1) (batF (nbF (n k2) (F k2) (g 0) (g 1)) (stF (n k2) (F k2) (g 0) (g 1)) p2)).1) (batF (nbF (n k1) (F k1) (g 0) (g 1)) (stF (n k1) (F k1) (g 0) (g 1)) p1)).2.1 + (kb + (lpN (n k2) (nbF (n k2) (F k2) (g 0) (g 1)) (stF (n k2) (F k2) (g 0) (g 1)) (F k2) (F k1 p1) (batF (nbF (n k2) (F k2) (g 0) (g 1)) (stF (n k2) (F k2) (g 0) (g 1)) p2)).2.1) by omega]⟩
              · rw [if_pos (by omega)] at hres
                exact Or.inr (Or.inl ⟨by rw [decide_eq_false e]; rfl, by rw [hres, show ka + kb + (lpN (n k2) (nbF (n k2) (F k2) (g 0) (g 1)) (stF (n k2) (F k2) (g 0) (g 1)) (F k2) (F k1 p1) (batF (nbF (n k2) (F k2) (g 0) (g 1)) (stF (n k2) (F k2) (g 0) (g 1)) p2)).2.1 + (lpN (n k1) (nbF (n k1) (F k1) (g 0) (g 1)) (stF (n k1) (F k1) (g 0) (g 1)) (F k1) (F k2 (lpN (n k2) (nbF (n k2) (F k2) (g 0) (g 1)) (stF (n k2) (F k2) (g 0) (g 1)) (F k2) (F k1 p1) (batF (nbF (n k2) (F k2) (g 0) (g 1)) (stF (n k2) (F k2) (g 0) (g 1)) p2)).1) (batF (nbF (n k1) (F k1) (g 0) (g 1)) (stF (n k1) (F k1) (g 0) (g 1)) p1)).2.1 = ka + (lpN (n k1) (nbF (n k1) (F k1) (g 0) (g 1)) (stF (n k1) (F k1) (g 0) (g 1)) (F k1) (F k2 (lpN (n k2) (nbF (n k2) (F k2) (g 0) (g 1)) (stF (n k2) (F k2) (g 0) (g 1)) (F k2) (F k1 p1) (batF (nbF (n k2) (F k2) (g 0) (g 1)) (stF (n k2) (F k2) (g 0) (g 1)) p2)).1) (batF (nbF (n k1) (F k1) (g 0) (g 1)) (stF (n k1) (F k1) (g 0) (g 1)) p1)).2.1 + (kb + (lpN (n k2) (nbF (n k2) (F k2) (g 0) (g 1)) (stF (n k2) (F k2) (g 0) (g 1)) (F k2) (F k1 p1) (batF (nbF (n k2) (F k2) (g 0) (g 1)) (stF (n k2) (F k2) (g 0) (g 1)) p2)).2.1) by omega]⟩)
            · omega
          ·
            refine r_aload_n dX4_run_90 rfl ?_
            refine r_dup dX4_run_91 ?_
            refine r_getfield clX4 2 (by decide) fl_X4_21 ((hkeep 101 (by omega) (by omega)).trans h1) rfl dX4_run_92 ?_
            refine r_iconst dX4_run_95 ?_
            refine r_iadd dX4_run_96 ?_
            refine r_putfield clX4 2 (by decide) fl_X4_21 rfl ((hkeep 101 (by omega) (by omega)).trans h1) rfl rfl (Nat.le_of_ble_eq_true rfl) dX4_run_97 ?_
            have hkd : ∀ i, 0 ≤ i ∧ i < 122 → i ≠ 101 → up M2 (ad 101) (oC 4 [.ref (ad 102), .ref (ad 105), vI (cm + 1)]) (ad i) = M2 (ad i) := fun i a b => up_n _ (hi.ne a ⟨by omega, by omega⟩ b)
            have hlc : LpP (up M2 (ad 101) (oC 4 [.ref (ad 102), .ref (ad 105), vI (cm + 1)])) ad 102 (ad (1 + 2 + k1)) (nbF (n k1) (F k1) (g 0) (g 1)) (stF (n k1) (F k1) (g 0) (g 1)) p1 l1 ka := hl1b.frame (fun i a b => hkd i ⟨by omega, by omega⟩ (by omega))
            have hsc : StP (up M2 (ad 101) (oC 4 [.ref (ad 102), .ref (ad 105), vI (cm + 1)])) ad 1 n F g := hs2.frame (fun i a b => hkd i ⟨by omega, by omega⟩ (by omega))
            refine r_aload_n dX4_run_100 rfl ?_
            refine r_getfield clX4 0 (by decide) fl_X4_12 (up_s _ _ _) rfl dX4_run_101 ?_
            refine r_callV0 okX3_steps ⟨by decide, by decide⟩ ml_X4_48 (mX3_steps hlc (hsc.mb q0.1 q0.2) hi (by omega) ⟨(hi.ne ⟨by omega, by omega⟩ ⟨by omega, by omega⟩ (by omega)), (hi.ne ⟨by omega, by omega⟩ ⟨by omega, by omega⟩ (by omega))⟩ (by omega)) hlc.1 rfl rfl (Nat.le_of_ble_eq_true rfl) (Nat.le_of_ble_eq_true rfl) (Nat.le_of_ble_eq_true rfl) rfl dX4_run_104 (nx_tI) (kx_tI ?_)
            intro M3 hM3
            refine r_istore dX4_run_107 (by decide) rfl ?_
            refine r_goto (tgt := 128) dX4_run_109 (by decide) ?_
            refine r_iinc dX4_run_128 rfl rfl ?_
            refine r_goto (tgt := 39) dX4_run_131 (by decide) ?_
            refine J.loc (lsub_cons rfl (lsub_cons rfl (lsub_cons rfl (lsub_cons rfl (lsub_cons rfl (lsub_cons rfl (lsub_cons rfl (lsub_nil)))))))) (ih39 _ _ _ ?_ ?_)
            · have hl2c : LpP M3 ad 105 (ad (1 + 2 + k2)) (nbF (n k2) (F k2) (g 0) (g 1)) (stF (n k2) (F k2) (g 0) (g 1)) (lpN (n k2) (nbF (n k2) (F k2) (g 0) (g 1)) (stF (n k2) (F k2) (g 0) (g 1)) (F k2) (F k1 p1) (batF (nbF (n k2) (F k2) (g 0) (g 1)) (stF (n k2) (F k2) (g 0) (g 1)) p2)).1 (l2 + 1) (kb + (lpN (n k2) (nbF (n k2) (F k2) (g 0) (g 1)) (stF (n k2) (F k2) (g 0) (g 1)) (F k2) (F k1 p1) (batF (nbF (n k2) (F k2) (g 0) (g 1)) (stF (n k2) (F k2) (g 0) (g 1)) p2)).2.1) := hM2.1.frame (fun i a b => (hM3.2.at hi ⟨by omega, by omega⟩ ⟨by omega, by omega⟩ (by omega)).trans (hkd i ⟨by omega, by omega⟩ (by omega)))
              have h1c : M3 (ad 101) = some (oC 4 [.ref (ad 102), .ref (ad 105), vI (cm + 1)]) := (hM3.2.at hi ⟨by omega, by omega⟩ ⟨by omega, by omega⟩ (by omega)).trans (up_s _ _ _)
              have hfr3 : FrI ad 101 108 M M3 := (hfr2.up ⟨by omega, by omega⟩).trans (hM3.2.mono (by omega) (by omega))
              rw [show (n k1 - rd).toNat = (n k1 - (rd + 1)).toNat + 1 by omega, mtF] at hres
              dsimp only at hres
              rw [if_neg (by omega), if_pos (by omega)] at hres
              refine ⟨by omega, by omega, hfr3, p1 + 1, _, l1, l2 + 1, ka, _, cm + 1, h1c, hM3.1, hl2c, ?_⟩
              by_cases e : p1 + 1 < n k1
              · rw [if_pos e] at hres
                exact Or.inl ⟨by rw [decide_eq_true e]; rfl, by omega, e, by omega, fun _ => ⟨t2, t3⟩, by rw [hres, Int.add_assoc]⟩
              · rw [if_neg e] at hres
                exact Or.inr (Or.inl ⟨by rw [decide_eq_false e]; rfl, by rw [hres, Int.add_assoc]⟩)
            · omega
        ·
          refine r_iconst dX4_run_72 ?_
          refine r_istore dX4_run_73 (by decide) rfl ?_
          refine r_goto (tgt := 128) dX4_run_75 (by decide) ?_
          refine r_iinc dX4_run_128 rfl rfl ?_
          refine r_goto (tgt := 39) dX4_run_131 (by decide) ?_
          refine J.loc (lsub_cons rfl (lsub_cons rfl (lsub_cons rfl (lsub_cons rfl (lsub_cons rfl (lsub_cons rfl (lsub_cons rfl (lsub_nil)))))))) (ih39 _ _ _ ?_ ?_)
          · have hneg : (lpN (n k2) (nbF (n k2) (F k2) (g 0) (g 1)) (stF (n k2) (F k2) (g 0) (g 1)) (F k2) (F k1 p1) (batF (nbF (n k2) (F k2) (g 0) (g 1)) (stF (n k2) (F k2) (g 0) (g 1)) p2)).1 < 0 := by
              by_cases e : (lpN (n k2) (nbF (n k2) (F k2) (g 0) (g 1)) (stF (n k2) (F k2) (g 0) (g 1)) (F k2) (F k1 p1) (batF (nbF (n k2) (F k2) (g 0) (g 1)) (stF (n k2) (F k2) (g 0) (g 1)) p2)).1 < 0
              · exact e
              · rw [decide_eq_true (by omega)] at h69; exact absurd h69 (by decide)
            refine ⟨by omega, by omega, hfr2, p1, _, l1, l2 + 1, ka, _, cm, (hkeep 101 (by omega) (by omega)).trans h1, hl1b, hM2.1, Or.inr (Or.inl ⟨rfl, ?_⟩)⟩
            rw [hres, show (n k1 - rd).toNat = (n k1 - (rd + 1)).toNat + 1 by omega, mtF]
            dsimp only
            rw [if_pos hneg, show ka + kb + (lpN (n k2) (nbF (n k2) (F k2) (g 0) (g 1)) (stF (n k2) (F k2) (g 0) (g 1)) (F k2) (F k1 p1) (batF (nbF (n k2) (F k2) (g 0) (g 1)) (stF (n k2) (F k2) (g 0) (g 1)) p2)).2.1 = ka + (kb + (lpN (n k2) (nbF (n k2) (F k2) (g 0) (g 1)) (stF (n k2) (F k2) (g 0) (g 1)) (F k2) (F k1 p1) (batF (nbF (n k2) (F k2) (g 0) (g 1)) (stF (n k2) (F k2) (g 0) (g 1)) p2)).2.1) by omega]
          · omega
  · refine ⟨by omega, by omega, hfrB.up ⟨by omega, by omega⟩, 0, 0, 0, 0, 0, 0, 0, up_s _ _ _, hl1B.frame (fun i a b => hkC i ⟨by omega, by omega⟩ (by omega)), hMB.1.frame (fun i a b => hkC i ⟨by omega, by omega⟩ (by omega)), ?_⟩
    by_cases e : n k1 = 0
    · exact Or.inr (Or.inr ⟨rfl, e, by unfold mtS mtR; rw [if_pos e]; rfl⟩)
    · exact Or.inl ⟨rfl, by omega, by omega, by omega, fun h => ⟨by omega, by omega⟩, by unfold mtS mtR; rw [if_neg e]; simp⟩

set_option maxHeartbeats 4000000 in
theorem mX4_result {M : Mem} {ad : Int → Nat} {r : Int × (Int × (Int × Int))} {w : Int} (hd : MtD M ad r) (q0 : 0 ≤ w ∧ w ≤ 3) : Ct KX4_result [.ref (ad 101), vI w] M 0 0 (rtI (tolF r w) M) := by
  refine Ct.of _ (by decide) rfl (Nat.le_of_ble_eq_true rfl) ?_
  obtain ⟨b1, v1, b2, v2, p1, p2, k1, k2, h101, h102, h105, hk⟩ := id hd
  refine r_iload_n dX4_result_0 rfl ?_
  by_cases hw1 : w < 0 ∨ 2 < w
  · refine r_tableOut (tgt := 49) dX4_result_1 (by omega) hw1 (by decide) ?_
    refine r_aload_n dX4_result_49 rfl ?_
    refine r_getfield clX4 0 (by decide) fl_X4_12 (by first | assumption | exact up_s _ _ _ | exact (up_n _ (by assumption)).trans (by assumption) | exact (up_n _ (by assumption)).trans (up_s _ _ _) | exact (up_n _ (by assumption)).trans ((up_n _ (by assumption)).trans (by assumption))) rfl dX4_result_50 ?_
    refine r_callV0 okX3_allLooks ⟨by decide, by decide⟩ ml_X4_55 (mX3_allLooks (by assumption)) (by first | assumption | exact up_s _ _ _ | exact (up_n _ (by assumption)).trans (by assumption) | exact (up_n _ (by assumption)).trans (up_s _ _ _) | exact (up_n _ (by assumption)).trans ((up_n _ (by assumption)).trans (by assumption))) rfl rfl (Nat.le_of_ble_eq_true rfl) (Nat.le_of_ble_eq_true rfl) (Nat.le_of_ble_eq_true rfl) rfl dX4_result_53 (nx_I) (kx_I ?_)
    refine r_aload_n dX4_result_56 rfl ?_
    refine r_getfield clX4 1 (by decide) fl_X4_18 (by first | assumption | exact up_s _ _ _ | exact (up_n _ (by assumption)).trans (by assumption) | exact (up_n _ (by assumption)).trans (up_s _ _ _) | exact (up_n _ (by assumption)).trans ((up_n _ (by assumption)).trans (by assumption))) rfl dX4_result_57 ?_
    refine r_callV0 okX3_allLooks ⟨by decide, by decide⟩ ml_X4_55 (mX3_allLooks (by assumption)) (by first | assumption | exact up_s _ _ _ | exact (up_n _ (by assumption)).trans (by assumption) | exact (up_n _ (by assumption)).trans (up_s _ _ _) | exact (up_n _ (by assumption)).trans ((up_n _ (by assumption)).trans (by assumption))) rfl rfl (Nat.le_of_ble_eq_true rfl) (Nat.le_of_ble_eq_true rfl) (Nat.le_of_ble_eq_true rfl) rfl dX4_result_60 (nx_I) (kx_I ?_)
    refine r_iadd dX4_result_63 ?_
    refine e_ireturn dX4_result_64 rfl (Nat.le_of_ble_eq_true rfl) (Nat.le_of_ble_eq_true rfl) ?_
    exact okI (by unfold tolF; first | (rw [if_pos (by omega)]; done) | (rw [if_neg (by omega), if_pos (by omega)]; done) | (rw [if_neg (by omega), if_neg (by omega), if_pos (by omega)]; done) | (rw [if_neg (by omega), if_neg (by omega), if_neg (by omega)]; exact hk))
  · rcases (show w = 0 ∨ w = 1 ∨ w = 2 by omega) with e1 | e1 | e1
    · refine r_tableIn (off := 27) (tgt := 28) dX4_result_1 (by omega) (by omega) (by omega) (by rw [e1]; rfl) (by decide) ?_
      refine r_aload_n dX4_result_28 rfl ?_
      refine r_getfield clX4 2 (by decide) fl_X4_21 (by first | assumption | exact up_s _ _ _ | exact (up_n _ (by assumption)).trans (by assumption) | exact (up_n _ (by assumption)).trans (up_s _ _ _) | exact (up_n _ (by assumption)).trans ((up_n _ (by assumption)).trans (by assumption))) rfl dX4_result_29 ?_
      refine e_ireturn dX4_result_32 rfl (Nat.le_of_ble_eq_true rfl) (Nat.le_of_ble_eq_true rfl) ?_
      exact okI (by unfold tolF; first | (rw [if_pos (by omega)]; done) | (rw [if_neg (by omega), if_pos (by omega)]; done) | (rw [if_neg (by omega), if_neg (by omega), if_pos (by omega)]; done) | (rw [if_neg (by omega), if_neg (by omega), if_neg (by omega)]; exact hk))
    · refine r_tableIn (off := 32) (tgt := 33) dX4_result_1 (by omega) (by omega) (by omega) (by rw [e1]; rfl) (by decide) ?_
      refine r_aload_n dX4_result_33 rfl ?_
      refine r_getfield clX4 0 (by decide) fl_X4_12 (by first | assumption | exact up_s _ _ _ | exact (up_n _ (by assumption)).trans (by assumption) | exact (up_n _ (by assumption)).trans (up_s _ _ _) | exact (up_n _ (by assumption)).trans ((up_n _ (by assumption)).trans (by assumption))) rfl dX4_result_34 ?_
      refine r_callV0 okX3_allLeaps ⟨by decide, by decide⟩ ml_X4_52 (mX3_allLeaps (by assumption)) (by first | assumption | exact up_s _ _ _ | exact (up_n _ (by assumption)).trans (by assumption) | exact (up_n _ (by assumption)).trans (up_s _ _ _) | exact (up_n _ (by assumption)).trans ((up_n _ (by assumption)).trans (by assumption))) rfl rfl (Nat.le_of_ble_eq_true rfl) (Nat.le_of_ble_eq_true rfl) (Nat.le_of_ble_eq_true rfl) rfl dX4_result_37 (nx_I) (kx_I ?_)
      refine e_ireturn dX4_result_40 rfl (Nat.le_of_ble_eq_true rfl) (Nat.le_of_ble_eq_true rfl) ?_
      exact okI (by unfold tolF; first | (rw [if_pos (by omega)]; done) | (rw [if_neg (by omega), if_pos (by omega)]; done) | (rw [if_neg (by omega), if_neg (by omega), if_pos (by omega)]; done) | (rw [if_neg (by omega), if_neg (by omega), if_neg (by omega)]; exact hk))
    · refine r_tableIn (off := 40) (tgt := 41) dX4_result_1 (by omega) (by omega) (by omega) (by rw [e1]; rfl) (by decide) ?_
      refine r_aload_n dX4_result_41 rfl ?_
      refine r_getfield clX4 1 (by decide) fl_X4_18 (by first | assumption | exact up_s _ _ _ | exact (up_n _ (by assumption)).trans (by assumption) | exact (up_n _ (by assumption)).trans (up_s _ _ _) | exact (up_n _ (by assumption)).trans ((up_n _ (by assumption)).trans (by assumption))) rfl dX4_result_42 ?_
      refine r_callV0 okX3_allLeaps ⟨by decide, by decide⟩ ml_X4_52 (mX3_allLeaps (by assumption)) (by first | assumption | exact up_s _ _ _ | exact (up_n _ (by assumption)).trans (by assumption) | exact (up_n _ (by assumption)).trans (up_s _ _ _) | exact (up_n _ (by assumption)).trans ((up_n _ (by assumption)).trans (by assumption))) rfl rfl (Nat.le_of_ble_eq_true rfl) (Nat.le_of_ble_eq_true rfl) (Nat.le_of_ble_eq_true rfl) rfl dX4_result_45 (nx_I) (kx_I ?_)
      refine e_ireturn dX4_result_48 rfl (Nat.le_of_ble_eq_true rfl) (Nat.le_of_ble_eq_true rfl) ?_
      exact okI (by unfold tolF; first | (rw [if_pos (by omega)]; done) | (rw [if_neg (by omega), if_pos (by omega)]; done) | (rw [if_neg (by omega), if_neg (by omega), if_pos (by omega)]; done) | (rw [if_neg (by omega), if_neg (by omega), if_neg (by omega)]; exact hk))
