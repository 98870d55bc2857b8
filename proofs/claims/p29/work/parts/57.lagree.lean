/-! the law: what is compared after an act -/
set_option maxHeartbeats 1000000 in
theorem mL_agree {M : Mem} {ad : Int → Nat} {n : Int → Int} {F : Int → Int → Int} {g : Int → Int} {m : Int} {S : Int → Sg3} {len : Int} {c : Int → Int} {y : Int} (hc : CL M ad n F g m S len c) (hi : Inj ad) (qy : R32 y) : Ct KL_agree [.ref (ad 0), vI y, .ref (ad 112), .ref (ad 113)] M 38 634 (atI 1 (fun M2 => CL M2 ad n F g m S len c ∧ FrK ad M M2)) := by
  refine Ct.of _ (by decide) rfl (Nat.le_of_ble_eq_true rfl) ?_
  have hk : FrK ad M M := FrK.rf
  refine r_iconst dL_agree_0 ?_
  refine r_istore dL_agree_1 (by decide) rfl ?_
  refine r_iconst dL_agree_3 ?_
  refine r_istore dL_agree_4 (by decide) rfl ?_
  refine r_iconst dL_agree_6 ?_
  refine r_istore dL_agree_7 (by decide) rfl ?_
  refine J.loc (L' := [(0, some _), (1, some _), (2, some _), (3, some _), (4, some _), (5, some _), (6, some _)]) (lsub_cons rfl (lsub_cons rfl (lsub_cons rfl (lsub_cons rfl (lsub_cons rfl (lsub_cons rfl (lsub_cons rfl (lsub_nil)))))))) (loop4 (fun (s : Int) (za : Int) (zb : Int) (M1 : Mem) => 0 ≤ s ∧ s ≤ 4 ∧ (0 ≤ za ∧ za ≤ 16 * s) ∧ (0 ≤ zb ∧ zb ≤ 48 * s) ∧ smF n 4 0 = za + smF n (4 - s).toNat s ∧ smF (fun k => szF (n k) (F k) g) 4 0 = zb + smF (fun k => szF (n k) (F k) g) (4 - s).toNat s ∧ CL M1 ad n F g m S len c ∧ FrK ad M M1) (fun (s : Int) (za : Int) (zb : Int) (M1 : Mem) => (4 - s).toNat) (fun (s : Int) (za : Int) (zb : Int) (M1 : Mem) => J KL_agree 38 634 _ 9 [(0, some (.ref (ad 0))), (1, some (vI y)), (2, some (.ref (ad 112))), (3, some (.ref (ad 113))), (4, some (vI za)), (5, some (vI zb)), (6, some (vI s))] [] M1 s.toNat (17 * s.toNat)) (fun s za zb M1 hI9 ih9 => ?_) 0 0 0 _ ?_)
  ·
    obtain ⟨hs0, hs1, hza, hzb, hA1, hB1, hc1, hk1⟩ := hI9
    refine r_iload dL_agree_9 rfl ?_
    refine r_iconst dL_agree_11 ?_
    refine r_icmp_ge (tgt := 239) dL_agree_12 (by decide) (by omega) (by omega) (fun h12 => ?_) (fun h12 => ?_)
    ·
      refine r_aload_n dL_agree_239 rfl ?_
      refine r_iconst dL_agree_240 ?_
      refine r_callV1 okX8_count ⟨by decide, by decide⟩ ml_L_74 (mX8_count_ok (bc := 0) (bs := 0) (w := 0) hc1.1 hc1.2.vld hi (by omega) (by omega)) hc1.1.1 rfl rfl (Nat.le_of_ble_eq_true rfl) (by omega) (by omega) rfl dL_agree_241 (nx_tI) (kx_tI ?_)
      intro Ma0 hMa0
      have hca0 := hc1.goX hi hMa0
      have hka0 := hk1.trans (FrK.ofI hMa0.2)
      rw [show cntV n F g m 0 = smF n 4 0 from rfl, hA1, show (4 - s).toNat = 0 by omega, smF, Int.add_zero]
      refine r_iload dL_agree_244 rfl ?_
      refine r_icmpNe (tgt := 297) dL_agree_246 (by decide) ?_
      refine r_aload_n dL_agree_249 rfl ?_
      refine r_iconst dL_agree_250 ?_
      refine r_callV1 okX8_count ⟨by decide, by decide⟩ ml_L_74 (mX8_count_ok (bc := 0) (bs := 0) (w := 3) hca0.1 hca0.2.vld hi (by omega) (by omega)) hca0.1.1 rfl rfl (Nat.le_of_ble_eq_true rfl) (by omega) (by omega) rfl dL_agree_251 (nx_tI) (kx_tI ?_)
      intro Ma3 hMa3
      have hca3 := hca0.goX hi hMa3
      have hka3 := hka0.trans (FrK.ofI hMa3.2)
      rw [show cntV n F g m 3 = smF (fun k => szF (n k) (F k) g) 4 0 from rfl, hB1, show (4 - s).toNat = 0 by omega, smF, Int.add_zero]
      refine r_iload dL_agree_254 rfl ?_
      refine r_icmpNe (tgt := 297) dL_agree_256 (by decide) ?_
      refine r_aload_n dL_agree_259 rfl ?_
      refine r_bipush dL_agree_260 (by decide) ?_
      refine r_callV1 okX8_count ⟨by decide, by decide⟩ ml_L_74 (mX8_count_ok (bc := 0) (bs := 0) (w := 6) hca3.1 hca3.2.vld hi (by omega) (by omega)) hca3.1.1 rfl rfl (Nat.le_of_ble_eq_true rfl) (by omega) (by omega) rfl dL_agree_262 (nx_tI) (kx_tI ?_)
      intro Md hMd
      have hcd := hca3.goX hi hMd
      have hkd := hka3.trans (FrK.ofI hMd.2)
      rw [show cntV n F g m 6 = m from rfl]
      obtain ⟨wd, vd, hnd, hmd, hlvd⟩ := id hcd.2
      refine r_aload_n dL_agree_265 rfl ?_
      refine r_bipush dL_agree_266 (by decide) ?_
      refine r_iaload hnd (by omega) (by omega) (by omega) dL_agree_268 ?_
      rw [hlvd.2.2.2.1]
      refine r_icmpNe (tgt := 297) dL_agree_269 (by decide) ?_
      refine r_aload_n dL_agree_272 rfl ?_
      refine r_aload_n dL_agree_273 rfl ?_
      refine r_aload_n dL_agree_274 rfl ?_
      refine r_iload_n dL_agree_275 rfl ?_
      refine r_iconst dL_agree_276 ?_
      refine r_callS2 okL_at ⟨by decide, by decide⟩ ml_L_32 (mL_at (by omega)) (Nat.le_of_ble_eq_true rfl) (by omega) (by omega) rfl dL_agree_277 (nx_R) (kx_R ?_)
      intro la hla
      refine r_iload_n dL_agree_280 rfl ?_
      refine r_iconst dL_agree_281 ?_
      refine r_ishr dL_agree_282 (fun z282 hz282 => ?_)
      refine r_iconst dL_agree_283 ?_
      refine r_callS2 okL_at ⟨by decide, by decide⟩ ml_L_32 (mL_at (by omega)) (Nat.le_of_ble_eq_true rfl) (by omega) (by omega) rfl dL_agree_284 (nx_R) (kx_R ?_)
      intro lb hlb
      refine r_callS5 okL_leaps ⟨by decide, by decide⟩ ml_L_78 (mL_leaps hcd hi hla hlb) (Nat.le_of_ble_eq_true rfl) (by omega) (by omega) rfl dL_agree_287 (nx_tI) (kx_tI ?_)
      intro M10 hM10
      refine r_if_eq (tgt := 297) dL_agree_290 (by decide) (by omega) (fun h290 => ?_) (fun h290 => ?_)
      · omega
      ·
        refine r_iconst dL_agree_293 ?_
        refine r_goto (tgt := 298) dL_agree_294 (by decide) ?_
        refine e_zreturn dL_agree_298 rfl (by omega) (by omega) (by omega) ?_
        exact oktI rfl ⟨hM10.1, hkd.trans hM10.2⟩
    ·
      refine r_bipush dL_agree_15 (by decide) ?_
      refine r_newI (N := 17) rfl (by decide) ac_int (by omega) (by omega) dL_agree_17 (fun q17 hq17 => ?_)
      have hqo := hc1.new hq17
      refine J.gen (P := fun M' => CL M' ad n F g m S len c ∧ FrK ad M M' ∧ M' q17 = some (aI 17 fun _ => 0)) ⟨hc1.upQ hqo _, hk1.trans (FrK.new hq17 _), up_s _ _ _⟩ (fun M2 hM2 => ?_)
      obtain ⟨hc2, hk2, hf2⟩ := hM2
      have qs : 0 ≤ s ∧ s < 4 := by omega
      obtain ⟨w2, v2, hn2, hm2, hlv2⟩ := id hc2.2
      obtain ⟨hws2, hns2, hsr2, hvs2⟩ := hlv2.1 s qs.1 qs.2
      refine r_astore dL_agree_19 (by decide) rfl ?_
      refine r_aload_n dL_agree_21 rfl ?_
      refine r_aload_n dL_agree_22 rfl ?_
      refine r_iload dL_agree_23 rfl ?_
      refine r_aload dL_agree_25 rfl ?_
      refine r_callS4 okL_blocks ⟨by decide, by decide⟩ ml_L_14 (mL_blocks hc2.2 hi qs hf2 ⟨hqo 112 (by omega) (by omega), hqo 113 (by omega) (by omega)⟩) (Nat.le_of_ble_eq_true rfl) (by omega) (by omega) rfl dL_agree_27 (nx_tI) (kx_tI ?_)
      intro M3 hM3
      obtain ⟨hfr3, fe, hf3, hfe⟩ := hM3
      have hc3 := hc2.fr1 hqo hfr3
      have hqM : M q17 = none := by
        cases h9 : M q17 with
        | none => rfl
        | some x9 => exact absurd ((hk1 q17 (by rw [h9]; exact fun h => nomatch h) hqo).symm.trans hq17) (by rw [h9]; exact fun h => nomatch h)
      have hk3 := hk2.of1 hqM hfr3
      have hns : 0 ≤ n s ∧ n s ≤ 16 := hns2
      have hbs := BkS.of hns.1 (by omega) (F s) (g 0) (g 1)
      obtain ⟨bs1, bs2, bs3, bs4, bs5, bs6, bs7, bs8, bs9⟩ := id hbs
      obtain ⟨w3, v3, hn3, hm3, hlv3⟩ := id hc3.2
      obtain ⟨hws3, hns3, hsr3, hvs3⟩ := hlv3.1 s qs.1 qs.2
      refine r_istore dL_agree_30 (by decide) rfl ?_
      refine r_iload dL_agree_32 rfl ?_
      refine r_aload_n dL_agree_34 rfl ?_
      refine r_iload dL_agree_35 rfl ?_
      refine r_iaload hn3 (by omega) (by omega) (by omega) dL_agree_37 ?_
      rw [hws3]
      refine r_iadd dL_agree_38 ?_
      refine r_istore dL_agree_39 (by decide) rfl ?_
      refine r_iload dL_agree_41 rfl ?_
      refine r_aload_n dL_agree_43 rfl ?_
      refine r_aload_n dL_agree_44 rfl ?_
      refine r_iload dL_agree_45 rfl ?_
      refine r_callS3 okL_bytes ⟨by decide, by decide⟩ ml_L_64 (mL_bytes hc3.2 hi qs) (Nat.le_of_ble_eq_true rfl) (by omega) (by omega) rfl dL_agree_47 (nx_I) (kx_I ?_)
      have hsz := byF_r (n s) (F s) (g 0) (g 1) (n s).toNat 0 0
      change 0 ≤ szF (n s) (F s) g ∧ szF (n s) (F s) g ≤ 3 * ((n s).toNat : Int) at hsz
      refine r_iadd dL_agree_50 ?_
      refine r_istore dL_agree_51 (by decide) rfl ?_
      refine r_aload_n dL_agree_53 rfl ?_
      refine r_iload dL_agree_54 rfl ?_
      refine r_iconst dL_agree_56 ?_
      refine r_callV2 okX8_of ⟨by decide, by decide⟩ ml_L_28 (mX8_of_ok (bc := 0) (bs := 0) (w := 0) hc3.1 hc3.2.vld hi (by omega) (by omega) qs (by omega)) hc3.1.1 rfl rfl (Nat.le_of_ble_eq_true rfl) (by omega) (by omega) rfl dL_agree_57 (nx_tI) (kx_tI ?_)
      intro M4 hM4
      have hc4 := hc3.goX hi hM4
      have hk4 := hk3.trans (FrK.ofI hM4.2)
      have hf4 := (hM4.2 q17 (fun i a b => hqo i a (by omega))).trans hf3
      rw [show ofV (n s) (F s) g 0 = n s from rfl]
      obtain ⟨w4, v4, hn4, hm4, hlv4⟩ := id hc4.2
      obtain ⟨hws4, hns4, hsr4, hvs4⟩ := hlv4.1 s qs.1 qs.2
      refine r_aload_n dL_agree_60 rfl ?_
      refine r_iload dL_agree_61 rfl ?_
      refine r_iaload hn4 (by omega) (by omega) (by omega) dL_agree_63 ?_
      rw [hws4]
      refine r_icmpNe (tgt := 110) dL_agree_64 (by decide) ?_
      refine r_aload_n dL_agree_67 rfl ?_
      refine r_iload dL_agree_68 rfl ?_
      refine r_iconst dL_agree_70 ?_
      refine r_callV2 okX8_of ⟨by decide, by decide⟩ ml_L_28 (mX8_of_ok (bc := 0) (bs := 0) (w := 1) hc4.1 hc4.2.vld hi (by omega) (by omega) qs (by omega)) hc4.1.1 rfl rfl (Nat.le_of_ble_eq_true rfl) (by omega) (by omega) rfl dL_agree_71 (nx_tI) (kx_tI ?_)
      intro M5 hM5
      have hc5 := hc4.goX hi hM5
      have hk5 := hk4.trans (FrK.ofI hM5.2)
      have hf5 := (hM5.2 q17 (fun i a b => hqo i a (by omega))).trans hf4
      rw [show ofV (n s) (F s) g 1 = nbF (n s) (F s) (g 0) (g 1) from rfl]
      obtain ⟨w5, v5, hn5, hm5, hlv5⟩ := id hc5.2
      obtain ⟨hws5, hns5, hsr5, hvs5⟩ := hlv5.1 s qs.1 qs.2
      refine r_iload dL_agree_74 rfl ?_
      refine r_icmpNe (tgt := 110) dL_agree_76 (by decide) ?_
      refine r_aload_n dL_agree_79 rfl ?_
      refine r_iload dL_agree_80 rfl ?_
      refine r_iconst dL_agree_82 ?_
      refine r_callV2 okX8_of ⟨by decide, by decide⟩ ml_L_28 (mX8_of_ok (bc := 0) (bs := 0) (w := 2) hc5.1 hc5.2.vld hi (by omega) (by omega) qs (by omega)) hc5.1.1 rfl rfl (Nat.le_of_ble_eq_true rfl) (by omega) (by omega) rfl dL_agree_83 (nx_tI) (kx_tI ?_)
      intro M6 hM6
      have hc6 := hc5.goX hi hM6
      have hk6 := hk5.trans (FrK.ofI hM6.2)
      have hf6 := (hM6.2 q17 (fun i a b => hqo i a (by omega))).trans hf5
      rw [show ofV (n s) (F s) g 2 = szF (n s) (F s) g from rfl]
      obtain ⟨w6, v6, hn6, hm6, hlv6⟩ := id hc6.2
      obtain ⟨hws6, hns6, hsr6, hvs6⟩ := hlv6.1 s qs.1 qs.2
      refine r_aload_n dL_agree_86 rfl ?_
      refine r_aload_n dL_agree_87 rfl ?_
      refine r_iload dL_agree_88 rfl ?_
      refine r_callS3 okL_bytes ⟨by decide, by decide⟩ ml_L_64 (mL_bytes hc6.2 hi qs) (Nat.le_of_ble_eq_true rfl) (by omega) (by omega) rfl dL_agree_90 (nx_I) (kx_I ?_)
      refine r_icmpNe (tgt := 110) dL_agree_93 (by decide) ?_
      refine r_aload_n dL_agree_96 rfl ?_
      refine r_iload dL_agree_97 rfl ?_
      refine r_aload_n dL_agree_99 rfl ?_
      refine r_iload dL_agree_100 rfl ?_
      refine r_iaload hn6 (by omega) (by omega) (by omega) dL_agree_102 ?_
      rw [hws6]
      refine r_callV2 okX8_member ⟨by decide, by decide⟩ ml_L_68 (mX8_member_ok (bc := 0) (bs := 0) (k := s) (p := n s) hc6.1 hc6.2.vld hi qs (by omega)) hc6.1.1 rfl rfl (Nat.le_of_ble_eq_true rfl) (by omega) (by omega) rfl dL_agree_103 (nx_tI) (kx_tI ?_)
      intro M7 hM7
      have hc7 := hc6.goX hi hM7
      have hk7 := hk6.trans (FrK.ofI hM7.2)
      have hf7 := (hM7.2 q17 (fun i a b => hqo i a (by omega))).trans hf6
      rw [atF_out (by omega)]
      obtain ⟨w7, v7, hn7, hm7, hlv7⟩ := id hc7.2
      obtain ⟨hws7, hns7, hsr7, hvs7⟩ := hlv7.1 s qs.1 qs.2
      refine r_iconst dL_agree_106 ?_
      refine r_icmpEq (tgt := 112) dL_agree_107 (by decide) ?_
      refine r_iconst dL_agree_112 ?_
      refine r_istore dL_agree_113 (by decide) rfl ?_
      refine J.loc (L' := [(0, some _), (1, some _), (2, some _), (3, some _), (4, some _), (5, some _), (6, some _), (7, some _), (8, some _), (9, some _)]) (lsub_cons rfl (lsub_cons rfl (lsub_cons rfl (lsub_cons rfl (lsub_cons rfl (lsub_cons rfl (lsub_cons rfl (lsub_cons rfl (lsub_cons rfl (lsub_cons rfl (lsub_nil))))))))))) (loop2 (fun (k : Int) (M8 : Mem) => 0 ≤ k ∧ k ≤ n s ∧ CL M8 ad n F g m S len c ∧ FrK ad M M8 ∧ M8 q17 = some (aI 17 fe)) (fun (k : Int) (M8 : Mem) => (n s - k).toNat) (fun (k : Int) (M8 : Mem) => J KL_agree 38 634 _ 115 [(0, some (.ref (ad 0))), (1, some (vI y)), (2, some (.ref (ad 112))), (3, some (.ref (ad 113))), (4, some (vI (za + n s))), (5, some (vI (zb + szF (n s) (F s) g))), (6, some (vI s)), (7, some (.ref q17)), (8, some (vI (nbF (n s) (F s) (g 0) (g 1)))), (9, some (vI k))] [] M8 _ _) (fun k M8 hI115 ih115 => ?_) _ _ ?_)
      ·
        obtain ⟨hk80, hk81, hc8, hk8, hf8⟩ := hI115
        obtain ⟨w8, v8, hn8, hm8, hlv8⟩ := id hc8.2
        obtain ⟨hws8, hns8, hsr8, hvs8⟩ := hlv8.1 s qs.1 qs.2
        refine r_iload dL_agree_115 rfl ?_
        refine r_aload_n dL_agree_117 rfl ?_
        refine r_iload dL_agree_118 rfl ?_
        refine r_iaload hn8 (by omega) (by omega) (by omega) dL_agree_120 ?_
        rw [hws8]
        refine r_icmp_ge (tgt := 153) dL_agree_121 (by decide) (by omega) (by omega) (fun h121 => ?_) (fun h121 => ?_)
        ·
          refine r_iconst dL_agree_153 ?_
          refine r_istore dL_agree_154 (by decide) rfl ?_
          refine J.loc (L' := [(0, some _), (1, some _), (2, some _), (3, some _), (4, some _), (5, some _), (6, some _), (7, some _), (8, some _), (9, some _)]) (lsub_cons rfl (lsub_cons rfl (lsub_cons rfl (lsub_cons rfl (lsub_cons rfl (lsub_cons rfl (lsub_cons rfl (lsub_cons rfl (lsub_cons rfl (lsub_cons rfl (lsub_nil))))))))))) (loop2 (fun (b : Int) (Mb9 : Mem) => 0 ≤ b ∧ b ≤ (nbF (n s) (F s) (g 0) (g 1)) ∧ CL Mb9 ad n F g m S len c ∧ FrK ad M Mb9 ∧ Mb9 q17 = some (aI 17 fe)) (fun (b : Int) (Mb9 : Mem) => ((nbF (n s) (F s) (g 0) (g 1)) - b).toNat) (fun (b : Int) (Mb9 : Mem) => J KL_agree 38 634 _ 156 [(0, some (.ref (ad 0))), (1, some (vI y)), (2, some (.ref (ad 112))), (3, some (.ref (ad 113))), (4, some (vI (za + n s))), (5, some (vI (zb + szF (n s) (F s) g))), (6, some (vI s)), (7, some (.ref q17)), (8, some (vI (nbF (n s) (F s) (g 0) (g 1)))), (9, some (vI b))] [] Mb9 _ _) (fun b Mb9 hI156 ih156 => ?_) _ _ ?_)
          ·
            obtain ⟨hb0, hb1, hcb, hkb, hfb⟩ := hI156
            refine r_iload dL_agree_156 rfl ?_
            refine r_iload dL_agree_158 rfl ?_
            refine r_icmp_ge (tgt := 233) dL_agree_160 (by decide) (by omega) (by omega) (fun h160 => ?_) (fun h160 => ?_)
            ·
              refine r_iinc dL_agree_233 rfl rfl ?_
              refine J.wide (k' := (s + 1).toNat) (n' := 17 * (s + 1).toNat) (by omega) (by omega) ?_
              refine r_goto (tgt := 9) dL_agree_236 (by decide) ?_
              refine J.loc (lsub_cons rfl (lsub_cons rfl (lsub_cons rfl (lsub_cons rfl (lsub_cons rfl (lsub_cons rfl (lsub_cons rfl (lsub_nil)))))))) (ih9 _ _ _ _ ?_ ?_)
              · refine ⟨by omega, by omega, by omega, by omega, ?_, ?_, hcb, hkb⟩
                · rw [hA1, show (4 - s).toNat = (4 - (s + 1)).toNat + 1 by omega, smF]; omega
                · rw [hB1, show (4 - s).toNat = (4 - (s + 1)).toNat + 1 by omega, smF]; omega
              · omega
            ·
              refine r_aload_n dL_agree_163 rfl ?_
              refine r_iload dL_agree_164 rfl ?_
              refine r_iload dL_agree_166 rfl ?_
              refine r_iconst dL_agree_168 ?_
              refine r_callV3 okX8_block ⟨by decide, by decide⟩ ml_L_71 (mX8_block_ok (bc := 0) (bs := 0) (k := s) (b := b) (w := 5) hcb.1 hcb.2.vld hi (by omega) (by omega) (by omega) qs (by omega)) hcb.1.1 rfl rfl (Nat.le_of_ble_eq_true rfl) (by omega) (by omega) rfl dL_agree_169 (nx_tI) (kx_tI ?_)
              intro Mc hMc
              have hcc := hcb.goX hi hMc
              have hkc := hkb.trans (FrK.ofI hMc.2)
              have hfc := (hMc.2 q17 (fun i a b => hqo i a (by omega))).trans hfb
              rw [show blkV (n s) (F s) g b 5 = (stF (n s) (F s) (g 0) (g 1)) b by unfold blkV; rw [if_neg (by omega), if_neg (by decide), if_neg (by decide), if_neg (by decide), if_neg (by decide), if_neg (by decide)]]
              obtain ⟨wc, vc, hnc, hmc, hlvc⟩ := id hcc.2
              obtain ⟨hwsc, hnsc, hsrc, hvsc⟩ := hlvc.1 s qs.1 qs.2
              refine r_iload dL_agree_172 rfl ?_
              refine r_if_ne (tgt := 181) dL_agree_174 (by decide) (by omega) (fun h174 => ?_) (fun h174 => ?_)
              ·
                refine r_aload dL_agree_181 rfl ?_
                refine r_iload dL_agree_183 rfl ?_
                refine r_iconst dL_agree_185 ?_
                refine r_isub dL_agree_186 ?_
                refine r_iaload hfc (by omega) (by omega) (by omega) dL_agree_187 ?_
                rw [hfe (b - 1) (by omega) (by omega), show b - 1 + 1 = b by omega]
                refine r_icmpNe (tgt := 225) dL_agree_188 (by decide) ?_
                refine r_aload_n dL_agree_191 rfl ?_
                refine r_iload dL_agree_192 rfl ?_
                refine r_iload dL_agree_194 rfl ?_
                refine r_iconst dL_agree_196 ?_
                refine r_callV3 okX8_block ⟨by decide, by decide⟩ ml_L_71 (mX8_block_ok (bc := 0) (bs := 0) (k := s) (b := b) (w := 1) hcc.1 hcc.2.vld hi (by omega) (by omega) (by omega) qs (by omega)) hcc.1.1 rfl rfl (Nat.le_of_ble_eq_true rfl) (by omega) (by omega) rfl dL_agree_197 (nx_tI) (kx_tI ?_)
                intro Me hMe
                have hce := hcc.goX hi hMe
                have hke := hkc.trans (FrK.ofI hMe.2)
                have hfe_ := (hMe.2 q17 (fun i a b => hqo i a (by omega))).trans hfc
                rw [show blkV (n s) (F s) g b 1 = (stF (n s) (F s) (g 0) (g 1)) (b + 1) - (stF (n s) (F s) (g 0) (g 1)) b by unfold blkV; rw [if_neg (by omega), if_neg (by decide), if_pos rfl]]
                obtain ⟨we, ve, hne, hme, hlve⟩ := id hce.2
                obtain ⟨hwse, hnse, hsre, hvse⟩ := hlve.1 s qs.1 qs.2
                refine r_aload dL_agree_200 rfl ?_
                refine r_iload dL_agree_202 rfl ?_
                refine r_iaload hfe_ (by omega) (by omega) (by omega) dL_agree_204 ?_
                rw [hfe b (by omega) (by omega)]
                refine r_iload dL_agree_205 rfl ?_
                refine r_if_ne (tgt := 214) dL_agree_207 (by decide) (by omega) (fun h207 => ?_) (fun h207 => ?_)
                ·
                  refine r_aload dL_agree_214 rfl ?_
                  refine r_iload dL_agree_216 rfl ?_
                  refine r_iconst dL_agree_218 ?_
                  refine r_isub dL_agree_219 ?_
                  refine r_iaload hfe_ (by omega) (by omega) (by omega) dL_agree_220 ?_
                  rw [hfe (b - 1) (by omega) (by omega), show b - 1 + 1 = b by omega]
                  refine r_isub dL_agree_221 ?_
                  refine r_icmpEq (tgt := 227) dL_agree_222 (by decide) ?_
                  refine r_iinc dL_agree_227 rfl rfl ?_
                  refine r_goto (tgt := 156) dL_agree_230 (by decide) ?_
                  refine J.loc (lsub_cons rfl (lsub_cons rfl (lsub_cons rfl (lsub_cons rfl (lsub_cons rfl (lsub_cons rfl (lsub_cons rfl (lsub_cons rfl (lsub_cons rfl (lsub_cons rfl (lsub_nil))))))))))) (ih156 _ _ ?_ ?_)
                  · exact ⟨by omega, by omega, hce, hke, hfe_⟩
                  · omega
                · omega
              ·
                refine r_iconst dL_agree_177 ?_
                refine r_goto (tgt := 188) dL_agree_178 (by decide) ?_
                rw [show (stF (n s) (F s) (g 0) (g 1)) b = 0 by rw [show b = 0 by omega]; exact bs6]
                refine r_icmpNe (tgt := 225) dL_agree_188 (by decide) ?_
                refine r_aload_n dL_agree_191 rfl ?_
                refine r_iload dL_agree_192 rfl ?_
                refine r_iload dL_agree_194 rfl ?_
                refine r_iconst dL_agree_196 ?_
                refine r_callV3 okX8_block ⟨by decide, by decide⟩ ml_L_71 (mX8_block_ok (bc := 0) (bs := 0) (k := s) (b := b) (w := 1) hcc.1 hcc.2.vld hi (by omega) (by omega) (by omega) qs (by omega)) hcc.1.1 rfl rfl (Nat.le_of_ble_eq_true rfl) (by omega) (by omega) rfl dL_agree_197 (nx_tI) (kx_tI ?_)
                intro Me hMe
                have hce := hcc.goX hi hMe
                have hke := hkc.trans (FrK.ofI hMe.2)
                have hfe_ := (hMe.2 q17 (fun i a b => hqo i a (by omega))).trans hfc
                rw [show blkV (n s) (F s) g b 1 = (stF (n s) (F s) (g 0) (g 1)) (b + 1) - (stF (n s) (F s) (g 0) (g 1)) b by unfold blkV; rw [if_neg (by omega), if_neg (by decide), if_pos rfl]]
                obtain ⟨we, ve, hne, hme, hlve⟩ := id hce.2
                obtain ⟨hwse, hnse, hsre, hvse⟩ := hlve.1 s qs.1 qs.2
                refine r_aload dL_agree_200 rfl ?_
                refine r_iload dL_agree_202 rfl ?_
                refine r_iaload hfe_ (by omega) (by omega) (by omega) dL_agree_204 ?_
                rw [hfe b (by omega) (by omega)]
                refine r_iload dL_agree_205 rfl ?_
                refine r_if_ne (tgt := 214) dL_agree_207 (by decide) (by omega) (fun h207 => ?_) (fun h207 => ?_)
                · omega
                ·
                  refine r_iconst dL_agree_210 ?_
                  refine r_goto (tgt := 221) dL_agree_211 (by decide) ?_
                  rw [show (stF (n s) (F s) (g 0) (g 1)) b = 0 by rw [show b = 0 by omega]; exact bs6]
                  refine r_isub dL_agree_221 ?_
                  refine r_icmpEq (tgt := 227) dL_agree_222 (by decide) ?_
                  refine r_iinc dL_agree_227 rfl rfl ?_
                  refine r_goto (tgt := 156) dL_agree_230 (by decide) ?_
                  refine J.loc (lsub_cons rfl (lsub_cons rfl (lsub_cons rfl (lsub_cons rfl (lsub_cons rfl (lsub_cons rfl (lsub_cons rfl (lsub_cons rfl (lsub_cons rfl (lsub_cons rfl (lsub_nil))))))))))) (ih156 _ _ ?_ ?_)
                  · exact ⟨by omega, by omega, hce, hke, hfe_⟩
                  · omega
          · exact ⟨by omega, by omega, hc8, hk8, hf8⟩
        ·
          refine r_aload_n dL_agree_124 rfl ?_
          refine r_iload dL_agree_125 rfl ?_
          refine r_iload dL_agree_127 rfl ?_
          refine r_callV2 okX8_member ⟨by decide, by decide⟩ ml_L_68 (mX8_member_ok (bc := 0) (bs := 0) (k := s) (p := k) hc8.1 hc8.2.vld hi qs (by omega)) hc8.1.1 rfl rfl (Nat.le_of_ble_eq_true rfl) (by omega) (by omega) rfl dL_agree_129 (nx_tI) (kx_tI ?_)
          intro M9 hM9
          have hc9 := hc8.goX hi hM9
          have hk9 := hk8.trans (FrK.ofI hM9.2)
          have hf9 := (hM9.2 q17 (fun i a b => hqo i a (by omega))).trans hf8
          rw [atF_in (by omega) (by omega)]
          obtain ⟨w9, v9, hn9, hm9, hlv9⟩ := id hc9.2
          obtain ⟨hws9, hns9, hsr9, hvs9⟩ := hlv9.1 s qs.1 qs.2
          refine r_aload_n dL_agree_132 rfl ?_
          refine r_bipush dL_agree_133 (by decide) ?_
          refine r_iload dL_agree_135 rfl ?_
          refine r_imul dL_agree_137 ?_
          refine r_iload dL_agree_138 rfl ?_
          refine r_iadd dL_agree_140 ?_
          refine r_iaload hm9 (by omega) (by omega) (by omega) dL_agree_141 ?_
          rw [(hvs9 k hk80 (by omega)).1]
          refine r_icmpEq (tgt := 147) dL_agree_142 (by decide) ?_
          refine r_iinc dL_agree_147 rfl rfl ?_
          refine r_goto (tgt := 115) dL_agree_150 (by decide) ?_
          refine J.loc (lsub_cons rfl (lsub_cons rfl (lsub_cons rfl (lsub_cons rfl (lsub_cons rfl (lsub_cons rfl (lsub_cons rfl (lsub_cons rfl (lsub_cons rfl (lsub_cons rfl (lsub_nil))))))))))) (ih115 _ _ ?_ ?_)
          · exact ⟨by omega, by omega, hc9, hk9, hf9⟩
          · omega
      · exact ⟨by omega, by omega, hc7, hk7, hf7⟩
  · exact ⟨by omega, by omega, by omega, by omega, by simp, by simp, hc, hk⟩
