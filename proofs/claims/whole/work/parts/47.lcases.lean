/-! the law's cases: one step of the class and of the model, and what they say of it -/
abbrev lL (sA : Nat) (ad : Int → Nat) (i : Int) : Ls := [(4, some (vI i)), (3, some (.ref (ad 121))), (2, some (.ref (ad 112))), (1, some (.ref (ad 0))), (0, some (.ref sA))]
theorem r_icmpE {κ : Kp} {bc bs : Nat} {Q : Rs → Mem → Prop} {pc : Nat} {L : Ls} {st : List Value} {M : Mem} {k n : Nat} {x : Int} {off : Int} {tgt : Nat} (d : Dc κ pc (.if_icmp .eq off) 3) (ht : (pc : Int) + off = (tgt : Int)) (kt : J κ bc bs Q tgt L st M k n) : J κ bc bs Q pc L (vI x :: vI x :: st) M k n := by
  intro p l e s m args below meth c H locs ls D B hc hB hZ hW hS hL
  obtain ⟨hx, hb, hr, hml, hown, hts, hlo, htab, hfl, hnm⟩ := id hc
  exact lv_icmp_eq (x := iN x) (y := iN x) hx hb d ht (fun _ => kt p l e s m args below meth c H locs ls D B hc hB hZ hW hS hL) (fun h => absurd rfl h)
theorem r_lcmpE {κ : Kp} {bc bs : Nat} {Q : Rs → Mem → Prop} {pc : Nat} {L : Ls} {st : List Value} {M : Mem} {k n : Nat} {x y : Int64} (h : x = y) (d : Dc κ pc (.lcmp) 1)  (kk : J κ bc bs Q (pc + 1) L (vI 0 :: st) M k n) : J κ bc bs Q (pc) L (.long y :: .long x :: st) M k n := by
  refine r_lcmp d ?_
  have e : lg_cmp x y = iN 0 := by
    subst h
    unfold lg_cmp
    rw [if_neg (fun h => by have h9 : x < x := h; exact Int64.lt_irrefl h9), if_pos rfl]; rfl
  rw [e]
  exact kk
set_option maxHeartbeats 4000000 in
theorem sL_add {M : Mem} {ad : Int → Nat} {σ : Sg3} {m : Int} {S : Int → Sg3} {len : Int} {c : Int → Int} {th : Int} {sA N : Nat} {w : Int → Int} {i : Int} {k9 n9 : Nat} {Q : Rs → Mem → Prop} (hB : Bth M ad σ m S len c th) (hi : Inj ad) (hsc : M sA = some (aS N w)) (haS : ∀ j, 0 ≤ j → j < 122 → sA ≠ ad j) (hw : ∀ j, R32 (w j)) (h0 : 0 ≤ i) (h1 : i + 5 ≤ N) (hN : N ≤ 2560) (hk : k9 + 6 ≤ 601024) (hn : n9 + 36 ≤ 7293034) (kk : ∀ M2 : Mem, BthG M2 ad → FrI ad 0 122 M M2 → J KL_law 601024 7293034 Q 1678 (lL sA ad i) [] M2 (k9 + 6) (n9 + 36)) : J KL_law 601024 7293034 Q 156 (lL sA ad i) [] M k9 n9 := by
  obtain ⟨n, F, g⟩ := σ
  obtain ⟨hx, hR0, ⟨f9, ho⟩, hv, hsv⟩ := id hB
  refine r_aload_n dL_law_156 rfl ?_
  refine r_aload_n dL_law_157 rfl ?_
  refine r_iload dL_law_158 rfl ?_
  refine r_iconst dL_law_160 ?_
  refine r_iadd dL_law_161 ?_
  refine r_ialoadS hsc (by omega) (by omega) (by omega) dL_law_162 ?_
  refine r_aload_n dL_law_163 rfl ?_
  refine r_iload dL_law_164 rfl ?_
  refine r_iconst dL_law_166 ?_
  refine r_iadd dL_law_167 ?_
  refine r_ialoadS hsc (by omega) (by omega) (by omega) dL_law_168 ?_
  refine r_aload_n dL_law_169 rfl ?_
  refine r_callT4 okL_add ⟨by decide, by decide⟩ ml_L_87 (mL_add hx hv hi (hw _) (hw _) ho) (Nat.le_of_ble_eq_true rfl) (by omega) (by omega) rfl dL_law_170 nx_UL (fun v M1 hq => ?_)
  obtain ⟨v5, hv5, hR1, hf1, ho1, h5⟩ := hB.mid hi hq
  cases hv5
  have hsc1 := (hf1 sA haS).trans hsc
  obtain ⟨fs9, hob⟩ := hR1.ob
  refine r_istore dL_law_173 (by decide) rfl ?_
  refine r_aload_n dL_law_175 rfl ?_
  refine r_aload_n dL_law_176 rfl ?_
  refine r_iload dL_law_177 rfl ?_
  refine r_iconst dL_law_179 ?_
  refine r_iadd dL_law_180 ?_
  refine r_ialoadS hsc1 (by omega) (by omega) (by omega) dL_law_181 ?_
  refine r_aload_n dL_law_182 rfl ?_
  refine r_iload dL_law_183 rfl ?_
  refine r_iconst dL_law_185 ?_
  refine r_iadd dL_law_186 ?_
  refine r_ialoadS hsc1 (by omega) (by omega) (by omega) dL_law_187 ?_
  refine r_callV2 okX9_add ⟨by decide, by decide⟩ ml_L_92 (mX9_add hR1 hi hv (hw _) (hw _)) hob rfl rfl (Nat.le_of_ble_eq_true rfl) (by omega) (by omega) rfl dL_law_188 nx_UR (fun v M2 hq2 => ?_)
  obtain ⟨v6, hv6, h59, hf2, ⟨f2, ho2, hz2⟩, σ9, m9, S9, len9, c9, hB2⟩ := hB.fin hi tc3_ok (fun e => ⟨vld_add (hx.sts hv) hv e, vld_sv hB.m6 hsv hv⟩) hf1 ho1 h5 hq2
  cases hv6
  obtain ⟨fs8, hob2⟩ := hB2.2.1.ob
  refine r_istore dL_law_191 (by decide) rfl ?_
  refine r_aload_n dL_law_193 rfl ?_
  refine r_callV0 okX9_thrown ⟨by decide, by decide⟩ ml_L_93 hB2.2.1.thrown hob2 rfl rfl (Nat.le_of_ble_eq_true rfl) (by omega) (by omega) rfl dL_law_194 nx_I (kx_I ?_)
  refine r_iload dL_law_197 rfl ?_
  refine r_icmpE (tgt := 204) dL_law_199 (by decide) ?_
  refine r_iload dL_law_204 rfl ?_
  refine r_if_ne (tgt := 221) dL_law_206 (by decide) (by omega) (fun hz => ?_) (fun hz => ?_)
  ·
    refine r_goto (tgt := 1678) dL_law_221 (by decide) ?_
    refine (J.loc (L' := [(4, some _), (3, some _), (2, some _), (1, some _), (0, some _)]) (lsub_cons rfl (lsub_cons rfl (lsub_cons rfl (lsub_cons rfl (lsub_cons rfl lsub_nil))))) ?_)
    exact kk M2 ⟨σ9, m9, S9, len9, c9, v5, hB2⟩ hf2
  ·
    refine r_aload_n dL_law_209 rfl ?_
    refine r_iconst dL_law_210 ?_
    refine r_laload ho2 (by omega) (by omega) (by omega) dL_law_211 ?_
    refine r_iload dL_law_212 rfl ?_
    refine r_i2l dL_law_214 ?_
    refine r_lcmpE (hz2 hz) dL_law_215 ?_
    refine r_if_eq (tgt := 221) dL_law_216 (by decide) (by omega) (fun _ => ?_) (fun h => absurd rfl h)
    refine r_goto (tgt := 1678) dL_law_221 (by decide) ?_
    refine (J.loc (L' := [(4, some _), (3, some _), (2, some _), (1, some _), (0, some _)]) (lsub_cons rfl (lsub_cons rfl (lsub_cons rfl (lsub_cons rfl (lsub_cons rfl lsub_nil))))) ?_)
    exact kk M2 ⟨σ9, m9, S9, len9, c9, v5, hB2⟩ hf2

set_option maxHeartbeats 4000000 in
theorem sL_remove {M : Mem} {ad : Int → Nat} {σ : Sg3} {m : Int} {S : Int → Sg3} {len : Int} {c : Int → Int} {th : Int} {sA N : Nat} {w : Int → Int} {i : Int} {k9 n9 : Nat} {Q : Rs → Mem → Prop} (hB : Bth M ad σ m S len c th) (hi : Inj ad) (hsc : M sA = some (aS N w)) (haS : ∀ j, 0 ≤ j → j < 122 → sA ≠ ad j) (hw : ∀ j, R32 (w j)) (h0 : 0 ≤ i) (h1 : i + 5 ≤ N) (hN : N ≤ 2560) (hk : k9 + 6 ≤ 601024) (hn : n9 + 36 ≤ 7293034) (kk : ∀ M2 : Mem, BthG M2 ad → FrI ad 0 122 M M2 → J KL_law 601024 7293034 Q 1678 (lL sA ad i) [] M2 (k9 + 6) (n9 + 36)) : J KL_law 601024 7293034 Q 224 (lL sA ad i) [] M k9 n9 := by
  obtain ⟨n, F, g⟩ := σ
  obtain ⟨hx, hR0, ⟨f9, ho⟩, hv, hsv⟩ := id hB
  refine r_aload_n dL_law_224 rfl ?_
  refine r_aload_n dL_law_225 rfl ?_
  refine r_iload dL_law_226 rfl ?_
  refine r_iconst dL_law_228 ?_
  refine r_iadd dL_law_229 ?_
  refine r_ialoadS hsc (by omega) (by omega) (by omega) dL_law_230 ?_
  refine r_aload_n dL_law_231 rfl ?_
  refine r_iload dL_law_232 rfl ?_
  refine r_iconst dL_law_234 ?_
  refine r_iadd dL_law_235 ?_
  refine r_ialoadS hsc (by omega) (by omega) (by omega) dL_law_236 ?_
  refine r_aload_n dL_law_237 rfl ?_
  refine r_callT4 okL_remove ⟨by decide, by decide⟩ ml_L_96 (mL_remove hx hv hi (hw _) (hw _) ho) (Nat.le_of_ble_eq_true rfl) (by omega) (by omega) rfl dL_law_238 nx_UL (fun v M1 hq => ?_)
  obtain ⟨v5, hv5, hR1, hf1, ho1, h5⟩ := hB.mid hi hq
  cases hv5
  have hsc1 := (hf1 sA haS).trans hsc
  obtain ⟨fs9, hob⟩ := hR1.ob
  refine r_istore dL_law_241 (by decide) rfl ?_
  refine r_aload_n dL_law_243 rfl ?_
  refine r_aload_n dL_law_244 rfl ?_
  refine r_iload dL_law_245 rfl ?_
  refine r_iconst dL_law_247 ?_
  refine r_iadd dL_law_248 ?_
  refine r_ialoadS hsc1 (by omega) (by omega) (by omega) dL_law_249 ?_
  refine r_aload_n dL_law_250 rfl ?_
  refine r_iload dL_law_251 rfl ?_
  refine r_iconst dL_law_253 ?_
  refine r_iadd dL_law_254 ?_
  refine r_ialoadS hsc1 (by omega) (by omega) (by omega) dL_law_255 ?_
  refine r_callV2 okX9_remove ⟨by decide, by decide⟩ ml_L_98 (mX9_remove hR1 hi hv (hw _) (hw _)) hob rfl rfl (Nat.le_of_ble_eq_true rfl) (by omega) (by omega) rfl dL_law_256 nx_UR (fun v M2 hq2 => ?_)
  obtain ⟨v6, hv6, h59, hf2, ⟨f2, ho2, hz2⟩, σ9, m9, S9, len9, c9, hB2⟩ := hB.fin hi tc3_ok (fun e => ⟨vld_cut (hx.sts hv) hv e, vld_sv hB.m6 hsv hv⟩) hf1 ho1 h5 hq2
  cases hv6
  obtain ⟨fs8, hob2⟩ := hB2.2.1.ob
  refine r_istore dL_law_259 (by decide) rfl ?_
  refine r_aload_n dL_law_261 rfl ?_
  refine r_callV0 okX9_thrown ⟨by decide, by decide⟩ ml_L_93 hB2.2.1.thrown hob2 rfl rfl (Nat.le_of_ble_eq_true rfl) (by omega) (by omega) rfl dL_law_262 nx_I (kx_I ?_)
  refine r_iload dL_law_265 rfl ?_
  refine r_icmpE (tgt := 272) dL_law_267 (by decide) ?_
  refine r_iload dL_law_272 rfl ?_
  refine r_if_ne (tgt := 289) dL_law_274 (by decide) (by omega) (fun hz => ?_) (fun hz => ?_)
  ·
    refine r_goto (tgt := 1678) dL_law_289 (by decide) ?_
    refine (J.loc (L' := [(4, some _), (3, some _), (2, some _), (1, some _), (0, some _)]) (lsub_cons rfl (lsub_cons rfl (lsub_cons rfl (lsub_cons rfl (lsub_cons rfl lsub_nil))))) ?_)
    exact kk M2 ⟨σ9, m9, S9, len9, c9, v5, hB2⟩ hf2
  ·
    refine r_aload_n dL_law_277 rfl ?_
    refine r_iconst dL_law_278 ?_
    refine r_laload ho2 (by omega) (by omega) (by omega) dL_law_279 ?_
    refine r_iload dL_law_280 rfl ?_
    refine r_i2l dL_law_282 ?_
    refine r_lcmpE (hz2 hz) dL_law_283 ?_
    refine r_if_eq (tgt := 289) dL_law_284 (by decide) (by omega) (fun _ => ?_) (fun h => absurd rfl h)
    refine r_goto (tgt := 1678) dL_law_289 (by decide) ?_
    refine (J.loc (L' := [(4, some _), (3, some _), (2, some _), (1, some _), (0, some _)]) (lsub_cons rfl (lsub_cons rfl (lsub_cons rfl (lsub_cons rfl (lsub_cons rfl lsub_nil))))) ?_)
    exact kk M2 ⟨σ9, m9, S9, len9, c9, v5, hB2⟩ hf2

set_option maxHeartbeats 4000000 in
theorem sL_removeRange {M : Mem} {ad : Int → Nat} {σ : Sg3} {m : Int} {S : Int → Sg3} {len : Int} {c : Int → Int} {th : Int} {sA N : Nat} {w : Int → Int} {i : Int} {k9 n9 : Nat} {Q : Rs → Mem → Prop} (hB : Bth M ad σ m S len c th) (hi : Inj ad) (hsc : M sA = some (aS N w)) (haS : ∀ j, 0 ≤ j → j < 122 → sA ≠ ad j) (hw : ∀ j, R32 (w j)) (h0 : 0 ≤ i) (h1 : i + 5 ≤ N) (hN : N ≤ 2560) (hk : k9 + 6 ≤ 601024) (hn : n9 + 36 ≤ 7293034) (kk : ∀ M2 : Mem, BthG M2 ad → FrI ad 0 122 M M2 → J KL_law 601024 7293034 Q 1678 (lL sA ad i) [] M2 (k9 + 6) (n9 + 36)) : J KL_law 601024 7293034 Q 292 (lL sA ad i) [] M k9 n9 := by
  obtain ⟨n, F, g⟩ := σ
  obtain ⟨hx, hR0, ⟨f9, ho⟩, hv, hsv⟩ := id hB
  refine r_aload_n dL_law_292 rfl ?_
  refine r_aload_n dL_law_293 rfl ?_
  refine r_iload dL_law_294 rfl ?_
  refine r_iconst dL_law_296 ?_
  refine r_iadd dL_law_297 ?_
  refine r_ialoadS hsc (by omega) (by omega) (by omega) dL_law_298 ?_
  refine r_aload_n dL_law_299 rfl ?_
  refine r_iload dL_law_300 rfl ?_
  refine r_iconst dL_law_302 ?_
  refine r_iadd dL_law_303 ?_
  refine r_ialoadS hsc (by omega) (by omega) (by omega) dL_law_304 ?_
  refine r_aload_n dL_law_305 rfl ?_
  refine r_iload dL_law_306 rfl ?_
  refine r_iconst dL_law_308 ?_
  refine r_iadd dL_law_309 ?_
  refine r_ialoadS hsc (by omega) (by omega) (by omega) dL_law_310 ?_
  refine r_aload_n dL_law_311 rfl ?_
  refine r_callT5 okL_removeRange ⟨by decide, by decide⟩ ml_L_99 (mL_removeRange hx hv hi (hw _) (hw _) (hw _) ho) (Nat.le_of_ble_eq_true rfl) (by omega) (by omega) rfl dL_law_312 nx_UL (fun v M1 hq => ?_)
  obtain ⟨v5, hv5, hR1, hf1, ho1, h5⟩ := hB.mid hi hq
  cases hv5
  have hsc1 := (hf1 sA haS).trans hsc
  obtain ⟨fs9, hob⟩ := hR1.ob
  refine r_istore dL_law_315 (by decide) rfl ?_
  refine r_aload_n dL_law_317 rfl ?_
  refine r_aload_n dL_law_318 rfl ?_
  refine r_iload dL_law_319 rfl ?_
  refine r_iconst dL_law_321 ?_
  refine r_iadd dL_law_322 ?_
  refine r_ialoadS hsc1 (by omega) (by omega) (by omega) dL_law_323 ?_
  refine r_aload_n dL_law_324 rfl ?_
  refine r_iload dL_law_325 rfl ?_
  refine r_iconst dL_law_327 ?_
  refine r_iadd dL_law_328 ?_
  refine r_ialoadS hsc1 (by omega) (by omega) (by omega) dL_law_329 ?_
  refine r_aload_n dL_law_330 rfl ?_
  refine r_iload dL_law_331 rfl ?_
  refine r_iconst dL_law_333 ?_
  refine r_iadd dL_law_334 ?_
  refine r_ialoadS hsc1 (by omega) (by omega) (by omega) dL_law_335 ?_
  refine r_callV3 okX9_removeRange ⟨by decide, by decide⟩ ml_L_102 (mX9_removeRange hR1 hi hv (hw _) (hw _) (hw _)) hob rfl rfl (Nat.le_of_ble_eq_true rfl) (by omega) (by omega) rfl dL_law_336 nx_UR (fun v M2 hq2 => ?_)
  obtain ⟨v6, hv6, h59, hf2, ⟨f2, ho2, hz2⟩, σ9, m9, S9, len9, c9, hB2⟩ := hB.fin hi tc3_ok (fun e => ⟨vld_cut (hx.sts hv) hv e, vld_sv hB.m6 hsv hv⟩) hf1 ho1 h5 hq2
  cases hv6
  obtain ⟨fs8, hob2⟩ := hB2.2.1.ob
  refine r_istore dL_law_339 (by decide) rfl ?_
  refine r_aload_n dL_law_341 rfl ?_
  refine r_callV0 okX9_thrown ⟨by decide, by decide⟩ ml_L_93 hB2.2.1.thrown hob2 rfl rfl (Nat.le_of_ble_eq_true rfl) (by omega) (by omega) rfl dL_law_342 nx_I (kx_I ?_)
  refine r_iload dL_law_345 rfl ?_
  refine r_icmpE (tgt := 352) dL_law_347 (by decide) ?_
  refine r_iload dL_law_352 rfl ?_
  refine r_if_ne (tgt := 369) dL_law_354 (by decide) (by omega) (fun hz => ?_) (fun hz => ?_)
  ·
    refine r_goto (tgt := 1678) dL_law_369 (by decide) ?_
    refine (J.loc (L' := [(4, some _), (3, some _), (2, some _), (1, some _), (0, some _)]) (lsub_cons rfl (lsub_cons rfl (lsub_cons rfl (lsub_cons rfl (lsub_cons rfl lsub_nil))))) ?_)
    exact kk M2 ⟨σ9, m9, S9, len9, c9, v5, hB2⟩ hf2
  ·
    refine r_aload_n dL_law_357 rfl ?_
    refine r_iconst dL_law_358 ?_
    refine r_laload ho2 (by omega) (by omega) (by omega) dL_law_359 ?_
    refine r_iload dL_law_360 rfl ?_
    refine r_i2l dL_law_362 ?_
    refine r_lcmpE (hz2 hz) dL_law_363 ?_
    refine r_if_eq (tgt := 369) dL_law_364 (by decide) (by omega) (fun _ => ?_) (fun h => absurd rfl h)
    refine r_goto (tgt := 1678) dL_law_369 (by decide) ?_
    refine (J.loc (L' := [(4, some _), (3, some _), (2, some _), (1, some _), (0, some _)]) (lsub_cons rfl (lsub_cons rfl (lsub_cons rfl (lsub_cons rfl (lsub_cons rfl lsub_nil))))) ?_)
    exact kk M2 ⟨σ9, m9, S9, len9, c9, v5, hB2⟩ hf2

set_option maxHeartbeats 4000000 in
theorem sL_shift {M : Mem} {ad : Int → Nat} {σ : Sg3} {m : Int} {S : Int → Sg3} {len : Int} {c : Int → Int} {th : Int} {sA N : Nat} {w : Int → Int} {i : Int} {k9 n9 : Nat} {Q : Rs → Mem → Prop} (hB : Bth M ad σ m S len c th) (hi : Inj ad) (hsc : M sA = some (aS N w)) (haS : ∀ j, 0 ≤ j → j < 122 → sA ≠ ad j) (hw : ∀ j, R32 (w j)) (h0 : 0 ≤ i) (h1 : i + 5 ≤ N) (hN : N ≤ 2560) (hk : k9 + 6 ≤ 601024) (hn : n9 + 36 ≤ 7293034) (kk : ∀ M2 : Mem, BthG M2 ad → FrI ad 0 122 M M2 → J KL_law 601024 7293034 Q 1678 (lL sA ad i) [] M2 (k9 + 6) (n9 + 36)) : J KL_law 601024 7293034 Q 372 (lL sA ad i) [] M k9 n9 := by
  obtain ⟨n, F, g⟩ := σ
  obtain ⟨hx, hR0, ⟨f9, ho⟩, hv, hsv⟩ := id hB
  refine r_aload_n dL_law_372 rfl ?_
  refine r_aload_n dL_law_373 rfl ?_
  refine r_iload dL_law_374 rfl ?_
  refine r_iconst dL_law_376 ?_
  refine r_iadd dL_law_377 ?_
  refine r_ialoadS hsc (by omega) (by omega) (by omega) dL_law_378 ?_
  refine r_aload_n dL_law_379 rfl ?_
  refine r_iload dL_law_380 rfl ?_
  refine r_iconst dL_law_382 ?_
  refine r_iadd dL_law_383 ?_
  refine r_ialoadS hsc (by omega) (by omega) (by omega) dL_law_384 ?_
  refine r_aload_n dL_law_385 rfl ?_
  refine r_callT4 okL_shift ⟨by decide, by decide⟩ ml_L_103 (mL_shift hx hv hi (hw _) (hw _) ho) (Nat.le_of_ble_eq_true rfl) (by omega) (by omega) rfl dL_law_386 nx_UL (fun v M1 hq => ?_)
  obtain ⟨v5, hv5, hR1, hf1, ho1, h5⟩ := hB.mid hi hq
  cases hv5
  have hsc1 := (hf1 sA haS).trans hsc
  obtain ⟨fs9, hob⟩ := hR1.ob
  refine r_istore dL_law_389 (by decide) rfl ?_
  refine r_aload_n dL_law_391 rfl ?_
  refine r_aload_n dL_law_392 rfl ?_
  refine r_iload dL_law_393 rfl ?_
  refine r_iconst dL_law_395 ?_
  refine r_iadd dL_law_396 ?_
  refine r_ialoadS hsc1 (by omega) (by omega) (by omega) dL_law_397 ?_
  refine r_aload_n dL_law_398 rfl ?_
  refine r_iload dL_law_399 rfl ?_
  refine r_iconst dL_law_401 ?_
  refine r_iadd dL_law_402 ?_
  refine r_ialoadS hsc1 (by omega) (by omega) (by omega) dL_law_403 ?_
  refine r_callV2 okX9_shift ⟨by decide, by decide⟩ ml_L_105 (mX9_shift hR1 hi hv (hw _) (hw _)) hob rfl rfl (Nat.le_of_ble_eq_true rfl) (by omega) (by omega) rfl dL_law_404 nx_UR (fun v M2 hq2 => ?_)
  obtain ⟨v6, hv6, h59, hf2, ⟨f2, ho2, hz2⟩, σ9, m9, S9, len9, c9, hB2⟩ := hB.fin hi tc3_ok (fun e => ⟨vld_shift (hx.sts hv) hv e, vld_sv hB.m6 hsv hv⟩) hf1 ho1 h5 hq2
  cases hv6
  obtain ⟨fs8, hob2⟩ := hB2.2.1.ob
  refine r_istore dL_law_407 (by decide) rfl ?_
  refine r_aload_n dL_law_409 rfl ?_
  refine r_callV0 okX9_thrown ⟨by decide, by decide⟩ ml_L_93 hB2.2.1.thrown hob2 rfl rfl (Nat.le_of_ble_eq_true rfl) (by omega) (by omega) rfl dL_law_410 nx_I (kx_I ?_)
  refine r_iload dL_law_413 rfl ?_
  refine r_icmpE (tgt := 420) dL_law_415 (by decide) ?_
  refine r_iload dL_law_420 rfl ?_
  refine r_if_ne (tgt := 437) dL_law_422 (by decide) (by omega) (fun hz => ?_) (fun hz => ?_)
  ·
    refine r_goto (tgt := 1678) dL_law_437 (by decide) ?_
    refine (J.loc (L' := [(4, some _), (3, some _), (2, some _), (1, some _), (0, some _)]) (lsub_cons rfl (lsub_cons rfl (lsub_cons rfl (lsub_cons rfl (lsub_cons rfl lsub_nil))))) ?_)
    exact kk M2 ⟨σ9, m9, S9, len9, c9, v5, hB2⟩ hf2
  ·
    refine r_aload_n dL_law_425 rfl ?_
    refine r_iconst dL_law_426 ?_
    refine r_laload ho2 (by omega) (by omega) (by omega) dL_law_427 ?_
    refine r_iload dL_law_428 rfl ?_
    refine r_i2l dL_law_430 ?_
    refine r_lcmpE (hz2 hz) dL_law_431 ?_
    refine r_if_eq (tgt := 437) dL_law_432 (by decide) (by omega) (fun _ => ?_) (fun h => absurd rfl h)
    refine r_goto (tgt := 1678) dL_law_437 (by decide) ?_
    refine (J.loc (L' := [(4, some _), (3, some _), (2, some _), (1, some _), (0, some _)]) (lsub_cons rfl (lsub_cons rfl (lsub_cons rfl (lsub_cons rfl (lsub_cons rfl lsub_nil))))) ?_)
    exact kk M2 ⟨σ9, m9, S9, len9, c9, v5, hB2⟩ hf2

set_option maxHeartbeats 4000000 in
theorem sL_combine {M : Mem} {ad : Int → Nat} {σ : Sg3} {m : Int} {S : Int → Sg3} {len : Int} {c : Int → Int} {th : Int} {sA N : Nat} {w : Int → Int} {i : Int} {k9 n9 : Nat} {Q : Rs → Mem → Prop} (hB : Bth M ad σ m S len c th) (hi : Inj ad) (hsc : M sA = some (aS N w)) (haS : ∀ j, 0 ≤ j → j < 122 → sA ≠ ad j) (hw : ∀ j, R32 (w j)) (h0 : 0 ≤ i) (h1 : i + 5 ≤ N) (hN : N ≤ 2560) (hk : k9 + 6 ≤ 601024) (hn : n9 + 36 ≤ 7293034) (kk : ∀ M2 : Mem, BthG M2 ad → FrI ad 0 122 M M2 → J KL_law 601024 7293034 Q 1678 (lL sA ad i) [] M2 (k9 + 6) (n9 + 36)) : J KL_law 601024 7293034 Q 440 (lL sA ad i) [] M k9 n9 := by
  obtain ⟨n, F, g⟩ := σ
  obtain ⟨hx, hR0, ⟨f9, ho⟩, hv, hsv⟩ := id hB
  refine r_aload_n dL_law_440 rfl ?_
  refine r_aload_n dL_law_441 rfl ?_
  refine r_iload dL_law_442 rfl ?_
  refine r_iconst dL_law_444 ?_
  refine r_iadd dL_law_445 ?_
  refine r_ialoadS hsc (by omega) (by omega) (by omega) dL_law_446 ?_
  refine r_aload_n dL_law_447 rfl ?_
  refine r_iload dL_law_448 rfl ?_
  refine r_iconst dL_law_450 ?_
  refine r_iadd dL_law_451 ?_
  refine r_ialoadS hsc (by omega) (by omega) (by omega) dL_law_452 ?_
  refine r_aload_n dL_law_453 rfl ?_
  refine r_iload dL_law_454 rfl ?_
  refine r_iconst dL_law_456 ?_
  refine r_iadd dL_law_457 ?_
  refine r_ialoadS hsc (by omega) (by omega) (by omega) dL_law_458 ?_
  refine r_aload_n dL_law_459 rfl ?_
  refine r_iload dL_law_460 rfl ?_
  refine r_iconst dL_law_462 ?_
  refine r_iadd dL_law_463 ?_
  refine r_ialoadS hsc (by omega) (by omega) (by omega) dL_law_464 ?_
  refine r_aload_n dL_law_465 rfl ?_
  refine r_callT6 okL_combine ⟨by decide, by decide⟩ ml_L_106 (mL_combine hx hv hi (hw _) (hw _) (hw _) (hw _) ho) (Nat.le_of_ble_eq_true rfl) (by omega) (by omega) rfl dL_law_466 nx_UL (fun v M1 hq => ?_)
  obtain ⟨v5, hv5, hR1, hf1, ho1, h5⟩ := hB.mid hi hq
  cases hv5
  have hsc1 := (hf1 sA haS).trans hsc
  obtain ⟨fs9, hob⟩ := hR1.ob
  refine r_istore dL_law_469 (by decide) rfl ?_
  refine r_aload_n dL_law_471 rfl ?_
  refine r_aload_n dL_law_472 rfl ?_
  refine r_iload dL_law_473 rfl ?_
  refine r_iconst dL_law_475 ?_
  refine r_iadd dL_law_476 ?_
  refine r_ialoadS hsc1 (by omega) (by omega) (by omega) dL_law_477 ?_
  refine r_aload_n dL_law_478 rfl ?_
  refine r_iload dL_law_479 rfl ?_
  refine r_iconst dL_law_481 ?_
  refine r_iadd dL_law_482 ?_
  refine r_ialoadS hsc1 (by omega) (by omega) (by omega) dL_law_483 ?_
  refine r_aload_n dL_law_484 rfl ?_
  refine r_iload dL_law_485 rfl ?_
  refine r_iconst dL_law_487 ?_
  refine r_iadd dL_law_488 ?_
  refine r_ialoadS hsc1 (by omega) (by omega) (by omega) dL_law_489 ?_
  refine r_aload_n dL_law_490 rfl ?_
  refine r_iload dL_law_491 rfl ?_
  refine r_iconst dL_law_493 ?_
  refine r_iadd dL_law_494 ?_
  refine r_ialoadS hsc1 (by omega) (by omega) (by omega) dL_law_495 ?_
  refine r_callV4 okX9_combine ⟨by decide, by decide⟩ ml_L_109 (mX9_combine hR1 hi hv (hw _) (hw _) (hw _) (hw _)) hob rfl rfl (Nat.le_of_ble_eq_true rfl) (by omega) (by omega) rfl dL_law_496 nx_UR (fun v M2 hq2 => ?_)
  obtain ⟨v6, hv6, h59, hf2, ⟨f2, ho2, hz2⟩, σ9, m9, S9, len9, c9, hB2⟩ := hB.fin hi tc3_ok (fun e => ⟨vld_combine (hx.sts hv) hv e, vld_sv hB.m6 hsv hv⟩) hf1 ho1 h5 hq2
  cases hv6
  obtain ⟨fs8, hob2⟩ := hB2.2.1.ob
  refine r_istore dL_law_499 (by decide) rfl ?_
  refine r_aload_n dL_law_501 rfl ?_
  refine r_callV0 okX9_thrown ⟨by decide, by decide⟩ ml_L_93 hB2.2.1.thrown hob2 rfl rfl (Nat.le_of_ble_eq_true rfl) (by omega) (by omega) rfl dL_law_502 nx_I (kx_I ?_)
  refine r_iload dL_law_505 rfl ?_
  refine r_icmpE (tgt := 512) dL_law_507 (by decide) ?_
  refine r_iload dL_law_512 rfl ?_
  refine r_if_ne (tgt := 529) dL_law_514 (by decide) (by omega) (fun hz => ?_) (fun hz => ?_)
  ·
    refine r_goto (tgt := 1678) dL_law_529 (by decide) ?_
    refine (J.loc (L' := [(4, some _), (3, some _), (2, some _), (1, some _), (0, some _)]) (lsub_cons rfl (lsub_cons rfl (lsub_cons rfl (lsub_cons rfl (lsub_cons rfl lsub_nil))))) ?_)
    exact kk M2 ⟨σ9, m9, S9, len9, c9, v5, hB2⟩ hf2
  ·
    refine r_aload_n dL_law_517 rfl ?_
    refine r_iconst dL_law_518 ?_
    refine r_laload ho2 (by omega) (by omega) (by omega) dL_law_519 ?_
    refine r_iload dL_law_520 rfl ?_
    refine r_i2l dL_law_522 ?_
    refine r_lcmpE (hz2 hz) dL_law_523 ?_
    refine r_if_eq (tgt := 529) dL_law_524 (by decide) (by omega) (fun _ => ?_) (fun h => absurd rfl h)
    refine r_goto (tgt := 1678) dL_law_529 (by decide) ?_
    refine (J.loc (L' := [(4, some _), (3, some _), (2, some _), (1, some _), (0, some _)]) (lsub_cons rfl (lsub_cons rfl (lsub_cons rfl (lsub_cons rfl (lsub_cons rfl lsub_nil))))) ?_)
    exact kk M2 ⟨σ9, m9, S9, len9, c9, v5, hB2⟩ hf2

set_option maxHeartbeats 4000000 in
theorem sL_set {M : Mem} {ad : Int → Nat} {σ : Sg3} {m : Int} {S : Int → Sg3} {len : Int} {c : Int → Int} {th : Int} {sA N : Nat} {w : Int → Int} {i : Int} {k9 n9 : Nat} {Q : Rs → Mem → Prop} (hB : Bth M ad σ m S len c th) (hi : Inj ad) (hsc : M sA = some (aS N w)) (haS : ∀ j, 0 ≤ j → j < 122 → sA ≠ ad j) (hw : ∀ j, R32 (w j)) (h0 : 0 ≤ i) (h1 : i + 5 ≤ N) (hN : N ≤ 2560) (hk : k9 + 6 ≤ 601024) (hn : n9 + 36 ≤ 7293034) (kk : ∀ M2 : Mem, BthG M2 ad → FrI ad 0 122 M M2 → J KL_law 601024 7293034 Q 1678 (lL sA ad i) [] M2 (k9 + 6) (n9 + 36)) : J KL_law 601024 7293034 Q 532 (lL sA ad i) [] M k9 n9 := by
  obtain ⟨n, F, g⟩ := σ
  obtain ⟨hx, hR0, ⟨f9, ho⟩, hv, hsv⟩ := id hB
  refine r_aload_n dL_law_532 rfl ?_
  refine r_aload_n dL_law_533 rfl ?_
  refine r_iload dL_law_534 rfl ?_
  refine r_iconst dL_law_536 ?_
  refine r_iadd dL_law_537 ?_
  refine r_ialoadS hsc (by omega) (by omega) (by omega) dL_law_538 ?_
  refine r_aload_n dL_law_539 rfl ?_
  refine r_iload dL_law_540 rfl ?_
  refine r_iconst dL_law_542 ?_
  refine r_iadd dL_law_543 ?_
  refine r_ialoadS hsc (by omega) (by omega) (by omega) dL_law_544 ?_
  refine r_aload_n dL_law_545 rfl ?_
  refine r_callT4 okL_set ⟨by decide, by decide⟩ ml_L_110 (mL_set hx hv hi (hw _) (hw _) ho) (Nat.le_of_ble_eq_true rfl) (by omega) (by omega) rfl dL_law_546 nx_UL (fun v M1 hq => ?_)
  obtain ⟨v5, hv5, hR1, hf1, ho1, h5⟩ := hB.mid hi hq
  cases hv5
  have hsc1 := (hf1 sA haS).trans hsc
  obtain ⟨fs9, hob⟩ := hR1.ob
  refine r_istore dL_law_549 (by decide) rfl ?_
  refine r_aload_n dL_law_551 rfl ?_
  refine r_aload_n dL_law_552 rfl ?_
  refine r_iload dL_law_553 rfl ?_
  refine r_iconst dL_law_555 ?_
  refine r_iadd dL_law_556 ?_
  refine r_ialoadS hsc1 (by omega) (by omega) (by omega) dL_law_557 ?_
  refine r_aload_n dL_law_558 rfl ?_
  refine r_iload dL_law_559 rfl ?_
  refine r_iconst dL_law_561 ?_
  refine r_iadd dL_law_562 ?_
  refine r_ialoadS hsc1 (by omega) (by omega) (by omega) dL_law_563 ?_
  refine r_callV2 okX9_set ⟨by decide, by decide⟩ ml_L_112 (mX9_set hR1 hi hv (hw _) (hw _)) hob rfl rfl (Nat.le_of_ble_eq_true rfl) (by omega) (by omega) rfl dL_law_564 nx_UR (fun v M2 hq2 => ?_)
  obtain ⟨v6, hv6, h59, hf2, ⟨f2, ho2, hz2⟩, σ9, m9, S9, len9, c9, hB2⟩ := hB.fin hi tc3_ok (fun e => ⟨vld_set hv e, vld_sv hB.m6 hsv hv⟩) hf1 ho1 h5 hq2
  cases hv6
  obtain ⟨fs8, hob2⟩ := hB2.2.1.ob
  refine r_istore dL_law_567 (by decide) rfl ?_
  refine r_aload_n dL_law_569 rfl ?_
  refine r_callV0 okX9_thrown ⟨by decide, by decide⟩ ml_L_93 hB2.2.1.thrown hob2 rfl rfl (Nat.le_of_ble_eq_true rfl) (by omega) (by omega) rfl dL_law_570 nx_I (kx_I ?_)
  refine r_iload dL_law_573 rfl ?_
  refine r_icmpE (tgt := 580) dL_law_575 (by decide) ?_
  refine r_iload dL_law_580 rfl ?_
  refine r_if_ne (tgt := 597) dL_law_582 (by decide) (by omega) (fun hz => ?_) (fun hz => ?_)
  ·
    refine r_goto (tgt := 1678) dL_law_597 (by decide) ?_
    refine (J.loc (L' := [(4, some _), (3, some _), (2, some _), (1, some _), (0, some _)]) (lsub_cons rfl (lsub_cons rfl (lsub_cons rfl (lsub_cons rfl (lsub_cons rfl lsub_nil))))) ?_)
    exact kk M2 ⟨σ9, m9, S9, len9, c9, v5, hB2⟩ hf2
  ·
    refine r_aload_n dL_law_585 rfl ?_
    refine r_iconst dL_law_586 ?_
    refine r_laload ho2 (by omega) (by omega) (by omega) dL_law_587 ?_
    refine r_iload dL_law_588 rfl ?_
    refine r_i2l dL_law_590 ?_
    refine r_lcmpE (hz2 hz) dL_law_591 ?_
    refine r_if_eq (tgt := 597) dL_law_592 (by decide) (by omega) (fun _ => ?_) (fun h => absurd rfl h)
    refine r_goto (tgt := 1678) dL_law_597 (by decide) ?_
    refine (J.loc (L' := [(4, some _), (3, some _), (2, some _), (1, some _), (0, some _)]) (lsub_cons rfl (lsub_cons rfl (lsub_cons rfl (lsub_cons rfl (lsub_cons rfl lsub_nil))))) ?_)
    exact kk M2 ⟨σ9, m9, S9, len9, c9, v5, hB2⟩ hf2

set_option maxHeartbeats 4000000 in
theorem sL_append {M : Mem} {ad : Int → Nat} {σ : Sg3} {m : Int} {S : Int → Sg3} {len : Int} {c : Int → Int} {th : Int} {sA N : Nat} {w : Int → Int} {i : Int} {k9 n9 : Nat} {Q : Rs → Mem → Prop} (hB : Bth M ad σ m S len c th) (hi : Inj ad) (hsc : M sA = some (aS N w)) (haS : ∀ j, 0 ≤ j → j < 122 → sA ≠ ad j) (hw : ∀ j, R32 (w j)) (h0 : 0 ≤ i) (h1 : i + 5 ≤ N) (hN : N ≤ 2560) (hk : k9 + 6 ≤ 601024) (hn : n9 + 36 ≤ 7293034) (kk : ∀ M2 : Mem, BthG M2 ad → FrI ad 0 122 M M2 → J KL_law 601024 7293034 Q 1678 (lL sA ad i) [] M2 (k9 + 6) (n9 + 36)) : J KL_law 601024 7293034 Q 600 (lL sA ad i) [] M k9 n9 := by
  obtain ⟨n, F, g⟩ := σ
  obtain ⟨hx, hR0, ⟨f9, ho⟩, hv, hsv⟩ := id hB
  refine r_aload_n dL_law_600 rfl ?_
  refine r_aload_n dL_law_601 rfl ?_
  refine r_iload dL_law_602 rfl ?_
  refine r_iconst dL_law_604 ?_
  refine r_iadd dL_law_605 ?_
  refine r_ialoadS hsc (by omega) (by omega) (by omega) dL_law_606 ?_
  refine r_aload_n dL_law_607 rfl ?_
  refine r_callT3 okL_append ⟨by decide, by decide⟩ ml_L_113 (mL_append hx hv hi (hw _) ho) (Nat.le_of_ble_eq_true rfl) (by omega) (by omega) rfl dL_law_608 nx_UL (fun v M1 hq => ?_)
  obtain ⟨v5, hv5, hR1, hf1, ho1, h5⟩ := hB.mid hi hq
  cases hv5
  have hsc1 := (hf1 sA haS).trans hsc
  obtain ⟨fs9, hob⟩ := hR1.ob
  refine r_istore dL_law_611 (by decide) rfl ?_
  refine r_aload_n dL_law_613 rfl ?_
  refine r_aload_n dL_law_614 rfl ?_
  refine r_iload dL_law_615 rfl ?_
  refine r_iconst dL_law_617 ?_
  refine r_iadd dL_law_618 ?_
  refine r_ialoadS hsc1 (by omega) (by omega) (by omega) dL_law_619 ?_
  refine r_callV1 okX9_append ⟨by decide, by decide⟩ ml_L_116 (mX9_append hR1 hi hv (hw _)) hob rfl rfl (Nat.le_of_ble_eq_true rfl) (by omega) (by omega) rfl dL_law_620 nx_UR (fun v M2 hq2 => ?_)
  obtain ⟨v6, hv6, h59, hf2, ⟨f2, ho2, hz2⟩, σ9, m9, S9, len9, c9, hB2⟩ := hB.fin hi tcA_ok (fun _ => ⟨hv, hsv⟩) hf1 ho1 h5 hq2
  cases hv6
  obtain ⟨fs8, hob2⟩ := hB2.2.1.ob
  refine r_istore dL_law_623 (by decide) rfl ?_
  refine r_aload_n dL_law_625 rfl ?_
  refine r_callV0 okX9_thrown ⟨by decide, by decide⟩ ml_L_93 hB2.2.1.thrown hob2 rfl rfl (Nat.le_of_ble_eq_true rfl) (by omega) (by omega) rfl dL_law_626 nx_I (kx_I ?_)
  refine r_iload dL_law_629 rfl ?_
  refine r_icmpE (tgt := 636) dL_law_631 (by decide) ?_
  refine r_iload dL_law_636 rfl ?_
  refine r_if_ne (tgt := 653) dL_law_638 (by decide) (by omega) (fun hz => ?_) (fun hz => ?_)
  ·
    refine r_goto (tgt := 1678) dL_law_653 (by decide) ?_
    refine (J.loc (L' := [(4, some _), (3, some _), (2, some _), (1, some _), (0, some _)]) (lsub_cons rfl (lsub_cons rfl (lsub_cons rfl (lsub_cons rfl (lsub_cons rfl lsub_nil))))) ?_)
    exact kk M2 ⟨σ9, m9, S9, len9, c9, v5, hB2⟩ hf2
  ·
    refine r_aload_n dL_law_641 rfl ?_
    refine r_iconst dL_law_642 ?_
    refine r_laload ho2 (by omega) (by omega) (by omega) dL_law_643 ?_
    refine r_iload dL_law_644 rfl ?_
    refine r_i2l dL_law_646 ?_
    refine r_lcmpE (hz2 hz) dL_law_647 ?_
    refine r_if_eq (tgt := 653) dL_law_648 (by decide) (by omega) (fun _ => ?_) (fun h => absurd rfl h)
    refine r_goto (tgt := 1678) dL_law_653 (by decide) ?_
    refine (J.loc (L' := [(4, some _), (3, some _), (2, some _), (1, some _), (0, some _)]) (lsub_cons rfl (lsub_cons rfl (lsub_cons rfl (lsub_cons rfl (lsub_cons rfl lsub_nil))))) ?_)
    exact kk M2 ⟨σ9, m9, S9, len9, c9, v5, hB2⟩ hf2

set_option maxHeartbeats 4000000 in
theorem sL_clearBuffer {M : Mem} {ad : Int → Nat} {σ : Sg3} {m : Int} {S : Int → Sg3} {len : Int} {c : Int → Int} {th : Int} {sA N : Nat} {w : Int → Int} {i : Int} {k9 n9 : Nat} {Q : Rs → Mem → Prop} (hB : Bth M ad σ m S len c th) (hi : Inj ad) (hsc : M sA = some (aS N w)) (haS : ∀ j, 0 ≤ j → j < 122 → sA ≠ ad j) (hw : ∀ j, R32 (w j)) (h0 : 0 ≤ i) (h1 : i + 5 ≤ N) (hN : N ≤ 2560) (hk : k9 + 6 ≤ 601024) (hn : n9 + 36 ≤ 7293034) (kk : ∀ M2 : Mem, BthG M2 ad → FrI ad 0 122 M M2 → J KL_law 601024 7293034 Q 1678 (lL sA ad i) [] M2 (k9 + 6) (n9 + 36)) : J KL_law 601024 7293034 Q 656 (lL sA ad i) [] M k9 n9 := by
  obtain ⟨n, F, g⟩ := σ
  obtain ⟨hx, hR0, ⟨f9, ho⟩, hv, hsv⟩ := id hB
  refine r_aload_n dL_law_656 rfl ?_
  refine r_callV0 okX8_clearBuffer ⟨by decide, by decide⟩ ml_L_117 (mX8_clearBuffer hx hv hi) hx.1 rfl rfl (Nat.le_of_ble_eq_true rfl) (by omega) (by omega) rfl dL_law_657 nx_tI (kx_tI ?_)
  intro M1 hM1
  have hR1 := hB.rs1 hi hM1.2
  obtain ⟨fs9, hob⟩ := hR1.ob
  refine r_aload_n dL_law_660 rfl ?_
  refine r_callV0 okX9_clearBuffer ⟨by decide, by decide⟩ ml_L_120 (mX9_clearBuffer hR1 hi hv) hob rfl rfl (Nat.le_of_ble_eq_true rfl) (by omega) (by omega) rfl dL_law_661 nx_tI (kx_tI ?_)
  intro M2 hM2
  refine r_icmpE (tgt := 1678) dL_law_664 (by decide) ?_
  refine J.wide (k' := k9 + 6) (n' := n9 + 36) (by omega) (by omega) (J.loc (L' := [(4, some _), (3, some _), (2, some _), (1, some _), (0, some _)]) (lsub_cons rfl (lsub_cons rfl (lsub_cons rfl (lsub_cons rfl (lsub_cons rfl lsub_nil))))) ?_)
  exact kk M2 ⟨_, _, _, _, _, _, Bth.join hi hM1.1 (hB.out1 hi hM1.2) hM2 hv hsv⟩ ((hM1.2.w (by omega) (by omega)).trans (hM2.fr.w (by omega) (by omega)))

set_option maxHeartbeats 4000000 in
theorem sL_firstError {M : Mem} {ad : Int → Nat} {σ : Sg3} {m : Int} {S : Int → Sg3} {len : Int} {c : Int → Int} {th : Int} {sA N : Nat} {w : Int → Int} {i : Int} {k9 n9 : Nat} {Q : Rs → Mem → Prop} (hB : Bth M ad σ m S len c th) (hi : Inj ad) (hsc : M sA = some (aS N w)) (haS : ∀ j, 0 ≤ j → j < 122 → sA ≠ ad j) (hw : ∀ j, R32 (w j)) (h0 : 0 ≤ i) (h1 : i + 5 ≤ N) (hN : N ≤ 2560) (hk : k9 + 6 ≤ 601024) (hn : n9 + 36 ≤ 7293034) (kk : ∀ M2 : Mem, BthG M2 ad → FrI ad 0 122 M M2 → J KL_law 601024 7293034 Q 1678 (lL sA ad i) [] M2 (k9 + 6) (n9 + 36)) : J KL_law 601024 7293034 Q 669 (lL sA ad i) [] M k9 n9 := by
  obtain ⟨n, F, g⟩ := σ
  obtain ⟨hx, hR0, ⟨f9, ho⟩, hv, hsv⟩ := id hB
  refine r_aload_n dL_law_669 rfl ?_
  refine r_callV0 okX8_firstError ⟨by decide, by decide⟩ ml_L_121 (mX8_firstError hx hv hi) hx.1 rfl rfl (Nat.le_of_ble_eq_true rfl) (by omega) (by omega) rfl dL_law_670 nx_tI (kx_tI ?_)
  intro M1 hM1
  have hR1 := hB.rs1 hi hM1.2
  obtain ⟨fs9, hob⟩ := hR1.ob
  refine r_aload_n dL_law_673 rfl ?_
  refine r_callV0 okX9_firstError ⟨by decide, by decide⟩ ml_L_124 (mX9_firstError hR1 hi hv) hob rfl rfl (Nat.le_of_ble_eq_true rfl) (by omega) (by omega) rfl dL_law_674 nx_tI (kx_tI ?_)
  intro M2 hM2
  refine r_icmpE (tgt := 1678) dL_law_677 (by decide) ?_
  refine J.wide (k' := k9 + 6) (n' := n9 + 36) (by omega) (by omega) (J.loc (L' := [(4, some _), (3, some _), (2, some _), (1, some _), (0, some _)]) (lsub_cons rfl (lsub_cons rfl (lsub_cons rfl (lsub_cons rfl (lsub_cons rfl lsub_nil))))) ?_)
  exact kk M2 ⟨_, _, _, _, _, _, Bth.join hi hM1.1 (hB.out1 hi hM1.2) hM2 hv hsv⟩ ((hM1.2.w (by omega) (by omega)).trans (hM2.fr.w (by omega) (by omega)))

set_option maxHeartbeats 4000000 in
theorem sL_read {M : Mem} {ad : Int → Nat} {σ : Sg3} {m : Int} {S : Int → Sg3} {len : Int} {c : Int → Int} {th : Int} {sA N : Nat} {w : Int → Int} {i : Int} {k9 n9 : Nat} {Q : Rs → Mem → Prop} (hB : Bth M ad σ m S len c th) (hi : Inj ad) (hsc : M sA = some (aS N w)) (haS : ∀ j, 0 ≤ j → j < 122 → sA ≠ ad j) (hw : ∀ j, R32 (w j)) (h0 : 0 ≤ i) (h1 : i + 5 ≤ N) (hN : N ≤ 2560) (hk : k9 + 6 ≤ 601024) (hn : n9 + 36 ≤ 7293034) (kk : ∀ M2 : Mem, BthG M2 ad → FrI ad 0 122 M M2 → J KL_law 601024 7293034 Q 1678 (lL sA ad i) [] M2 (k9 + 6) (n9 + 36)) : J KL_law 601024 7293034 Q 682 (lL sA ad i) [] M k9 n9 := by
  obtain ⟨n, F, g⟩ := σ
  obtain ⟨hx, hR0, ⟨f9, ho⟩, hv, hsv⟩ := id hB
  refine r_aload_n dL_law_682 rfl ?_
  refine r_aload_n dL_law_683 rfl ?_
  refine r_iload dL_law_684 rfl ?_
  refine r_iconst dL_law_686 ?_
  refine r_iadd dL_law_687 ?_
  refine r_ialoadS hsc (by omega) (by omega) (by omega) dL_law_688 ?_
  refine r_aload_n dL_law_689 rfl ?_
  refine r_callT3 okL_read ⟨by decide, by decide⟩ ml_L_125 (mL_read hx hv hi (hw _) ho) (Nat.le_of_ble_eq_true rfl) (by omega) (by omega) rfl dL_law_690 nx_UL (fun v M1 hq => ?_)
  obtain ⟨v5, hv5, hR1, hf1, ho1, h5⟩ := hB.mid hi hq
  cases hv5
  have hsc1 := (hf1 sA haS).trans hsc
  obtain ⟨fs9, hob⟩ := hR1.ob
  refine r_istore dL_law_693 (by decide) rfl ?_
  refine r_aload_n dL_law_695 rfl ?_
  refine r_aload_n dL_law_696 rfl ?_
  refine r_iload dL_law_697 rfl ?_
  refine r_iconst dL_law_699 ?_
  refine r_iadd dL_law_700 ?_
  refine r_ialoadS hsc1 (by omega) (by omega) (by omega) dL_law_701 ?_
  refine r_callV1 okX9_read ⟨by decide, by decide⟩ ml_L_127 (mX9_read hR1 hi hv (hw _)) hob rfl rfl (Nat.le_of_ble_eq_true rfl) (by omega) (by omega) rfl dL_law_702 nx_UR (fun v M2 hq2 => ?_)
  obtain ⟨v6, hv6, h59, hf2, ⟨f2, ho2, hz2⟩, σ9, m9, S9, len9, c9, hB2⟩ := hB.fin hi tc3_ok (fun e => ⟨vld_read hx.2.2.2.1.2.2.1 hv e, vld_sv hB.m6 hsv hv⟩) hf1 ho1 h5 hq2
  cases hv6
  obtain ⟨fs8, hob2⟩ := hB2.2.1.ob
  refine r_istore dL_law_705 (by decide) rfl ?_
  refine r_aload_n dL_law_707 rfl ?_
  refine r_callV0 okX9_thrown ⟨by decide, by decide⟩ ml_L_93 hB2.2.1.thrown hob2 rfl rfl (Nat.le_of_ble_eq_true rfl) (by omega) (by omega) rfl dL_law_708 nx_I (kx_I ?_)
  refine r_iload dL_law_711 rfl ?_
  refine r_icmpE (tgt := 718) dL_law_713 (by decide) ?_
  refine r_iload dL_law_718 rfl ?_
  refine r_if_ne (tgt := 735) dL_law_720 (by decide) (by omega) (fun hz => ?_) (fun hz => ?_)
  ·
    refine r_goto (tgt := 1678) dL_law_735 (by decide) ?_
    refine (J.loc (L' := [(4, some _), (3, some _), (2, some _), (1, some _), (0, some _)]) (lsub_cons rfl (lsub_cons rfl (lsub_cons rfl (lsub_cons rfl (lsub_cons rfl lsub_nil))))) ?_)
    exact kk M2 ⟨σ9, m9, S9, len9, c9, v5, hB2⟩ hf2
  ·
    refine r_aload_n dL_law_723 rfl ?_
    refine r_iconst dL_law_724 ?_
    refine r_laload ho2 (by omega) (by omega) (by omega) dL_law_725 ?_
    refine r_iload dL_law_726 rfl ?_
    refine r_i2l dL_law_728 ?_
    refine r_lcmpE (hz2 hz) dL_law_729 ?_
    refine r_if_eq (tgt := 735) dL_law_730 (by decide) (by omega) (fun _ => ?_) (fun h => absurd rfl h)
    refine r_goto (tgt := 1678) dL_law_735 (by decide) ?_
    refine (J.loc (L' := [(4, some _), (3, some _), (2, some _), (1, some _), (0, some _)]) (lsub_cons rfl (lsub_cons rfl (lsub_cons rfl (lsub_cons rfl (lsub_cons rfl lsub_nil))))) ?_)
    exact kk M2 ⟨σ9, m9, S9, len9, c9, v5, hB2⟩ hf2

set_option maxHeartbeats 4000000 in
theorem sL_undo {M : Mem} {ad : Int → Nat} {σ : Sg3} {m : Int} {S : Int → Sg3} {len : Int} {c : Int → Int} {th : Int} {sA N : Nat} {w : Int → Int} {i : Int} {k9 n9 : Nat} {Q : Rs → Mem → Prop} (hB : Bth M ad σ m S len c th) (hi : Inj ad) (hsc : M sA = some (aS N w)) (haS : ∀ j, 0 ≤ j → j < 122 → sA ≠ ad j) (hw : ∀ j, R32 (w j)) (h0 : 0 ≤ i) (h1 : i + 5 ≤ N) (hN : N ≤ 2560) (hk : k9 + 6 ≤ 601024) (hn : n9 + 36 ≤ 7293034) (kk : ∀ M2 : Mem, BthG M2 ad → FrI ad 0 122 M M2 → J KL_law 601024 7293034 Q 1678 (lL sA ad i) [] M2 (k9 + 6) (n9 + 36)) : J KL_law 601024 7293034 Q 738 (lL sA ad i) [] M k9 n9 := by
  obtain ⟨n, F, g⟩ := σ
  obtain ⟨hx, hR0, ⟨f9, ho⟩, hv, hsv⟩ := id hB
  refine r_aload_n dL_law_738 rfl ?_
  refine r_aload_n dL_law_739 rfl ?_
  refine r_callT2 okL_undo ⟨by decide, by decide⟩ ml_L_128 (mL_undo hx hv hi ho) (Nat.le_of_ble_eq_true rfl) (by omega) (by omega) rfl dL_law_740 nx_UL (fun v M1 hq => ?_)
  obtain ⟨v5, hv5, hR1, hf1, ho1, h5⟩ := hB.mid hi hq
  cases hv5
  have hsc1 := (hf1 sA haS).trans hsc
  obtain ⟨fs9, hob⟩ := hR1.ob
  refine r_istore dL_law_743 (by decide) rfl ?_
  refine r_aload_n dL_law_745 rfl ?_
  refine r_callV0 okX9_undo ⟨by decide, by decide⟩ ml_L_131 (mX9_undo hR1 hi hv) hob rfl rfl (Nat.le_of_ble_eq_true rfl) (by omega) (by omega) rfl dL_law_746 nx_UR (fun v M2 hq2 => ?_)
  obtain ⟨v6, hv6, h59, hf2, ⟨f2, ho2, hz2⟩, σ9, m9, S9, len9, c9, hB2⟩ := hB.fin hi tc1_ok (fun e => ⟨hsv _ (by have := eS_ok e; omega) (by omega), fun j a b => hsv j a (by omega)⟩) hf1 ho1 h5 hq2
  cases hv6
  obtain ⟨fs8, hob2⟩ := hB2.2.1.ob
  refine r_istore dL_law_749 (by decide) rfl ?_
  refine r_aload_n dL_law_751 rfl ?_
  refine r_callV0 okX9_thrown ⟨by decide, by decide⟩ ml_L_93 hB2.2.1.thrown hob2 rfl rfl (Nat.le_of_ble_eq_true rfl) (by omega) (by omega) rfl dL_law_752 nx_I (kx_I ?_)
  refine r_iload dL_law_755 rfl ?_
  refine r_icmpE (tgt := 762) dL_law_757 (by decide) ?_
  refine r_iload dL_law_762 rfl ?_
  refine r_if_ne (tgt := 779) dL_law_764 (by decide) (by omega) (fun hz => ?_) (fun hz => ?_)
  ·
    refine r_goto (tgt := 1678) dL_law_779 (by decide) ?_
    refine (J.loc (L' := [(4, some _), (3, some _), (2, some _), (1, some _), (0, some _)]) (lsub_cons rfl (lsub_cons rfl (lsub_cons rfl (lsub_cons rfl (lsub_cons rfl lsub_nil))))) ?_)
    exact kk M2 ⟨σ9, m9, S9, len9, c9, v5, hB2⟩ hf2
  ·
    refine r_aload_n dL_law_767 rfl ?_
    refine r_iconst dL_law_768 ?_
    refine r_laload ho2 (by omega) (by omega) (by omega) dL_law_769 ?_
    refine r_iload dL_law_770 rfl ?_
    refine r_i2l dL_law_772 ?_
    refine r_lcmpE (hz2 hz) dL_law_773 ?_
    refine r_if_eq (tgt := 779) dL_law_774 (by decide) (by omega) (fun _ => ?_) (fun h => absurd rfl h)
    refine r_goto (tgt := 1678) dL_law_779 (by decide) ?_
    refine (J.loc (L' := [(4, some _), (3, some _), (2, some _), (1, some _), (0, some _)]) (lsub_cons rfl (lsub_cons rfl (lsub_cons rfl (lsub_cons rfl (lsub_cons rfl lsub_nil))))) ?_)
    exact kk M2 ⟨σ9, m9, S9, len9, c9, v5, hB2⟩ hf2

set_option maxHeartbeats 4000000 in
theorem sL_has {M : Mem} {ad : Int → Nat} {σ : Sg3} {m : Int} {S : Int → Sg3} {len : Int} {c : Int → Int} {th : Int} {sA N : Nat} {w : Int → Int} {i : Int} {k9 n9 : Nat} {Q : Rs → Mem → Prop} (hB : Bth M ad σ m S len c th) (hi : Inj ad) (hsc : M sA = some (aS N w)) (haS : ∀ j, 0 ≤ j → j < 122 → sA ≠ ad j) (hw : ∀ j, R32 (w j)) (h0 : 0 ≤ i) (h1 : i + 5 ≤ N) (hN : N ≤ 2560) (hk : k9 + 6 ≤ 601024) (hn : n9 + 36 ≤ 7293034) (kk : ∀ M2 : Mem, BthG M2 ad → FrI ad 0 122 M M2 → J KL_law 601024 7293034 Q 1678 (lL sA ad i) [] M2 (k9 + 6) (n9 + 36)) : J KL_law 601024 7293034 Q 782 (lL sA ad i) [] M k9 n9 := by
  obtain ⟨n, F, g⟩ := σ
  obtain ⟨hx, hR0, ⟨f9, ho⟩, hv, hsv⟩ := id hB
  refine r_aload_n dL_law_782 rfl ?_
  refine r_aload_n dL_law_783 rfl ?_
  refine r_iload dL_law_784 rfl ?_
  refine r_iconst dL_law_786 ?_
  refine r_iadd dL_law_787 ?_
  refine r_ialoadS hsc (by omega) (by omega) (by omega) dL_law_788 ?_
  refine r_aload_n dL_law_789 rfl ?_
  refine r_iload dL_law_790 rfl ?_
  refine r_iconst dL_law_792 ?_
  refine r_iadd dL_law_793 ?_
  refine r_ialoadS hsc (by omega) (by omega) (by omega) dL_law_794 ?_
  refine r_aload_n dL_law_795 rfl ?_
  refine r_callT4 okL_has ⟨by decide, by decide⟩ ml_L_132 (mL_has hx hv hi (hw _) (hw _) ho) (Nat.le_of_ble_eq_true rfl) (by omega) (by omega) rfl dL_law_796 nx_UL (fun v M1 hq => ?_)
  obtain ⟨v5, hv5, hR1, hf1, ho1, h5⟩ := hB.mid hi hq
  cases hv5
  have hsc1 := (hf1 sA haS).trans hsc
  obtain ⟨fs9, hob⟩ := hR1.ob
  refine r_istore dL_law_799 (by decide) rfl ?_
  refine r_aload_n dL_law_801 rfl ?_
  refine r_aload_n dL_law_802 rfl ?_
  refine r_iload dL_law_803 rfl ?_
  refine r_iconst dL_law_805 ?_
  refine r_iadd dL_law_806 ?_
  refine r_ialoadS hsc1 (by omega) (by omega) (by omega) dL_law_807 ?_
  refine r_aload_n dL_law_808 rfl ?_
  refine r_iload dL_law_809 rfl ?_
  refine r_iconst dL_law_811 ?_
  refine r_iadd dL_law_812 ?_
  refine r_ialoadS hsc1 (by omega) (by omega) (by omega) dL_law_813 ?_
  refine r_callV2 okX9_has ⟨by decide, by decide⟩ ml_L_134 (mX9_has hR1 hi hv (hw _) (hw _)) hob rfl rfl (Nat.le_of_ble_eq_true rfl) (by omega) (by omega) rfl dL_law_814 nx_UR (fun v M2 hq2 => ?_)
  obtain ⟨v6, hv6, h59, hf2, ⟨f2, ho2, hz2⟩, σ9, m9, S9, len9, c9, hB2⟩ := hB.fin hi tc3_ok (fun _ => ⟨hv, hsv⟩) hf1 ho1 h5 hq2
  cases hv6
  obtain ⟨fs8, hob2⟩ := hB2.2.1.ob
  refine r_istore dL_law_817 (by decide) rfl ?_
  refine r_aload_n dL_law_819 rfl ?_
  refine r_callV0 okX9_thrown ⟨by decide, by decide⟩ ml_L_93 hB2.2.1.thrown hob2 rfl rfl (Nat.le_of_ble_eq_true rfl) (by omega) (by omega) rfl dL_law_820 nx_I (kx_I ?_)
  refine r_iload dL_law_823 rfl ?_
  refine r_icmpE (tgt := 830) dL_law_825 (by decide) ?_
  refine r_iload dL_law_830 rfl ?_
  refine r_if_ne (tgt := 847) dL_law_832 (by decide) (by omega) (fun hz => ?_) (fun hz => ?_)
  ·
    refine r_goto (tgt := 1678) dL_law_847 (by decide) ?_
    refine (J.loc (L' := [(4, some _), (3, some _), (2, some _), (1, some _), (0, some _)]) (lsub_cons rfl (lsub_cons rfl (lsub_cons rfl (lsub_cons rfl (lsub_cons rfl lsub_nil))))) ?_)
    exact kk M2 ⟨σ9, m9, S9, len9, c9, v5, hB2⟩ hf2
  ·
    refine r_aload_n dL_law_835 rfl ?_
    refine r_iconst dL_law_836 ?_
    refine r_laload ho2 (by omega) (by omega) (by omega) dL_law_837 ?_
    refine r_iload dL_law_838 rfl ?_
    refine r_i2l dL_law_840 ?_
    refine r_lcmpE (hz2 hz) dL_law_841 ?_
    refine r_if_eq (tgt := 847) dL_law_842 (by decide) (by omega) (fun _ => ?_) (fun h => absurd rfl h)
    refine r_goto (tgt := 1678) dL_law_847 (by decide) ?_
    refine (J.loc (L' := [(4, some _), (3, some _), (2, some _), (1, some _), (0, some _)]) (lsub_cons rfl (lsub_cons rfl (lsub_cons rfl (lsub_cons rfl (lsub_cons rfl lsub_nil))))) ?_)
    exact kk M2 ⟨σ9, m9, S9, len9, c9, v5, hB2⟩ hf2

set_option maxHeartbeats 4000000 in
theorem sL_member {M : Mem} {ad : Int → Nat} {σ : Sg3} {m : Int} {S : Int → Sg3} {len : Int} {c : Int → Int} {th : Int} {sA N : Nat} {w : Int → Int} {i : Int} {k9 n9 : Nat} {Q : Rs → Mem → Prop} (hB : Bth M ad σ m S len c th) (hi : Inj ad) (hsc : M sA = some (aS N w)) (haS : ∀ j, 0 ≤ j → j < 122 → sA ≠ ad j) (hw : ∀ j, R32 (w j)) (h0 : 0 ≤ i) (h1 : i + 5 ≤ N) (hN : N ≤ 2560) (hk : k9 + 6 ≤ 601024) (hn : n9 + 36 ≤ 7293034) (kk : ∀ M2 : Mem, BthG M2 ad → FrI ad 0 122 M M2 → J KL_law 601024 7293034 Q 1678 (lL sA ad i) [] M2 (k9 + 6) (n9 + 36)) : J KL_law 601024 7293034 Q 850 (lL sA ad i) [] M k9 n9 := by
  obtain ⟨n, F, g⟩ := σ
  obtain ⟨hx, hR0, ⟨f9, ho⟩, hv, hsv⟩ := id hB
  refine r_aload_n dL_law_850 rfl ?_
  refine r_aload_n dL_law_851 rfl ?_
  refine r_iload dL_law_852 rfl ?_
  refine r_iconst dL_law_854 ?_
  refine r_iadd dL_law_855 ?_
  refine r_ialoadS hsc (by omega) (by omega) (by omega) dL_law_856 ?_
  refine r_aload_n dL_law_857 rfl ?_
  refine r_iload dL_law_858 rfl ?_
  refine r_iconst dL_law_860 ?_
  refine r_iadd dL_law_861 ?_
  refine r_ialoadS hsc (by omega) (by omega) (by omega) dL_law_862 ?_
  refine r_aload_n dL_law_863 rfl ?_
  refine r_callT4 okL_member ⟨by decide, by decide⟩ ml_L_135 (mL_member hx hv hi (hw _) (hw _) ho) (Nat.le_of_ble_eq_true rfl) (by omega) (by omega) rfl dL_law_864 nx_UL (fun v M1 hq => ?_)
  obtain ⟨v5, hv5, hR1, hf1, ho1, h5⟩ := hB.mid hi hq
  cases hv5
  have hsc1 := (hf1 sA haS).trans hsc
  obtain ⟨fs9, hob⟩ := hR1.ob
  refine r_istore dL_law_867 (by decide) rfl ?_
  refine r_aload_n dL_law_869 rfl ?_
  refine r_aload_n dL_law_870 rfl ?_
  refine r_iload dL_law_871 rfl ?_
  refine r_iconst dL_law_873 ?_
  refine r_iadd dL_law_874 ?_
  refine r_ialoadS hsc1 (by omega) (by omega) (by omega) dL_law_875 ?_
  refine r_aload_n dL_law_876 rfl ?_
  refine r_iload dL_law_877 rfl ?_
  refine r_iconst dL_law_879 ?_
  refine r_iadd dL_law_880 ?_
  refine r_ialoadS hsc1 (by omega) (by omega) (by omega) dL_law_881 ?_
  refine r_callV2 okX9_member ⟨by decide, by decide⟩ ml_L_137 (mX9_member hR1 hi hv (hw _) (hw _)) hob rfl rfl (Nat.le_of_ble_eq_true rfl) (by omega) (by omega) rfl dL_law_882 nx_UR (fun v M2 hq2 => ?_)
  obtain ⟨v6, hv6, h59, hf2, ⟨f2, ho2, hz2⟩, σ9, m9, S9, len9, c9, hB2⟩ := hB.fin hi tc3_ok (fun _ => ⟨hv, hsv⟩) hf1 ho1 h5 hq2
  cases hv6
  obtain ⟨fs8, hob2⟩ := hB2.2.1.ob
  refine r_istore dL_law_885 (by decide) rfl ?_
  refine r_aload_n dL_law_887 rfl ?_
  refine r_callV0 okX9_thrown ⟨by decide, by decide⟩ ml_L_93 hB2.2.1.thrown hob2 rfl rfl (Nat.le_of_ble_eq_true rfl) (by omega) (by omega) rfl dL_law_888 nx_I (kx_I ?_)
  refine r_iload dL_law_891 rfl ?_
  refine r_icmpE (tgt := 898) dL_law_893 (by decide) ?_
  refine r_iload dL_law_898 rfl ?_
  refine r_if_ne (tgt := 915) dL_law_900 (by decide) (by omega) (fun hz => ?_) (fun hz => ?_)
  ·
    refine r_goto (tgt := 1678) dL_law_915 (by decide) ?_
    refine (J.loc (L' := [(4, some _), (3, some _), (2, some _), (1, some _), (0, some _)]) (lsub_cons rfl (lsub_cons rfl (lsub_cons rfl (lsub_cons rfl (lsub_cons rfl lsub_nil))))) ?_)
    exact kk M2 ⟨σ9, m9, S9, len9, c9, v5, hB2⟩ hf2
  ·
    refine r_aload_n dL_law_903 rfl ?_
    refine r_iconst dL_law_904 ?_
    refine r_laload ho2 (by omega) (by omega) (by omega) dL_law_905 ?_
    refine r_iload dL_law_906 rfl ?_
    refine r_i2l dL_law_908 ?_
    refine r_lcmpE (hz2 hz) dL_law_909 ?_
    refine r_if_eq (tgt := 915) dL_law_910 (by decide) (by omega) (fun _ => ?_) (fun h => absurd rfl h)
    refine r_goto (tgt := 1678) dL_law_915 (by decide) ?_
    refine (J.loc (L' := [(4, some _), (3, some _), (2, some _), (1, some _), (0, some _)]) (lsub_cons rfl (lsub_cons rfl (lsub_cons rfl (lsub_cons rfl (lsub_cons rfl lsub_nil))))) ?_)
    exact kk M2 ⟨σ9, m9, S9, len9, c9, v5, hB2⟩ hf2

set_option maxHeartbeats 4000000 in
theorem sL_less {M : Mem} {ad : Int → Nat} {σ : Sg3} {m : Int} {S : Int → Sg3} {len : Int} {c : Int → Int} {th : Int} {sA N : Nat} {w : Int → Int} {i : Int} {k9 n9 : Nat} {Q : Rs → Mem → Prop} (hB : Bth M ad σ m S len c th) (hi : Inj ad) (hsc : M sA = some (aS N w)) (haS : ∀ j, 0 ≤ j → j < 122 → sA ≠ ad j) (hw : ∀ j, R32 (w j)) (h0 : 0 ≤ i) (h1 : i + 5 ≤ N) (hN : N ≤ 2560) (hk : k9 + 6 ≤ 601024) (hn : n9 + 36 ≤ 7293034) (kk : ∀ M2 : Mem, BthG M2 ad → FrI ad 0 122 M M2 → J KL_law 601024 7293034 Q 1678 (lL sA ad i) [] M2 (k9 + 6) (n9 + 36)) : J KL_law 601024 7293034 Q 918 (lL sA ad i) [] M k9 n9 := by
  obtain ⟨n, F, g⟩ := σ
  obtain ⟨hx, hR0, ⟨f9, ho⟩, hv, hsv⟩ := id hB
  refine r_aload_n dL_law_918 rfl ?_
  refine r_aload_n dL_law_919 rfl ?_
  refine r_iload dL_law_920 rfl ?_
  refine r_iconst dL_law_922 ?_
  refine r_iadd dL_law_923 ?_
  refine r_ialoadS hsc (by omega) (by omega) (by omega) dL_law_924 ?_
  refine r_aload_n dL_law_925 rfl ?_
  refine r_iload dL_law_926 rfl ?_
  refine r_iconst dL_law_928 ?_
  refine r_iadd dL_law_929 ?_
  refine r_ialoadS hsc (by omega) (by omega) (by omega) dL_law_930 ?_
  refine r_aload_n dL_law_931 rfl ?_
  refine r_callT4 okL_less ⟨by decide, by decide⟩ ml_L_138 (mL_less hx hv hi (hw _) (hw _) ho) (Nat.le_of_ble_eq_true rfl) (by omega) (by omega) rfl dL_law_932 nx_UL (fun v M1 hq => ?_)
  obtain ⟨v5, hv5, hR1, hf1, ho1, h5⟩ := hB.mid hi hq
  cases hv5
  have hsc1 := (hf1 sA haS).trans hsc
  obtain ⟨fs9, hob⟩ := hR1.ob
  refine r_istore dL_law_935 (by decide) rfl ?_
  refine r_aload_n dL_law_937 rfl ?_
  refine r_aload_n dL_law_938 rfl ?_
  refine r_iload dL_law_939 rfl ?_
  refine r_iconst dL_law_941 ?_
  refine r_iadd dL_law_942 ?_
  refine r_ialoadS hsc1 (by omega) (by omega) (by omega) dL_law_943 ?_
  refine r_aload_n dL_law_944 rfl ?_
  refine r_iload dL_law_945 rfl ?_
  refine r_iconst dL_law_947 ?_
  refine r_iadd dL_law_948 ?_
  refine r_ialoadS hsc1 (by omega) (by omega) (by omega) dL_law_949 ?_
  refine r_callV2 okX9_less ⟨by decide, by decide⟩ ml_L_140 (mX9_less hR1 hi hv (hw _) (hw _)) hob rfl rfl (Nat.le_of_ble_eq_true rfl) (by omega) (by omega) rfl dL_law_950 nx_UR (fun v M2 hq2 => ?_)
  obtain ⟨v6, hv6, h59, hf2, ⟨f2, ho2, hz2⟩, σ9, m9, S9, len9, c9, hB2⟩ := hB.fin hi tc3_ok (fun _ => ⟨hv, hsv⟩) hf1 ho1 h5 hq2
  cases hv6
  obtain ⟨fs8, hob2⟩ := hB2.2.1.ob
  refine r_istore dL_law_953 (by decide) rfl ?_
  refine r_aload_n dL_law_955 rfl ?_
  refine r_callV0 okX9_thrown ⟨by decide, by decide⟩ ml_L_93 hB2.2.1.thrown hob2 rfl rfl (Nat.le_of_ble_eq_true rfl) (by omega) (by omega) rfl dL_law_956 nx_I (kx_I ?_)
  refine r_iload dL_law_959 rfl ?_
  refine r_icmpE (tgt := 966) dL_law_961 (by decide) ?_
  refine r_iload dL_law_966 rfl ?_
  refine r_if_ne (tgt := 983) dL_law_968 (by decide) (by omega) (fun hz => ?_) (fun hz => ?_)
  ·
    refine r_goto (tgt := 1678) dL_law_983 (by decide) ?_
    refine (J.loc (L' := [(4, some _), (3, some _), (2, some _), (1, some _), (0, some _)]) (lsub_cons rfl (lsub_cons rfl (lsub_cons rfl (lsub_cons rfl (lsub_cons rfl lsub_nil))))) ?_)
    exact kk M2 ⟨σ9, m9, S9, len9, c9, v5, hB2⟩ hf2
  ·
    refine r_aload_n dL_law_971 rfl ?_
    refine r_iconst dL_law_972 ?_
    refine r_laload ho2 (by omega) (by omega) (by omega) dL_law_973 ?_
    refine r_iload dL_law_974 rfl ?_
    refine r_i2l dL_law_976 ?_
    refine r_lcmpE (hz2 hz) dL_law_977 ?_
    refine r_if_eq (tgt := 983) dL_law_978 (by decide) (by omega) (fun _ => ?_) (fun h => absurd rfl h)
    refine r_goto (tgt := 1678) dL_law_983 (by decide) ?_
    refine (J.loc (L' := [(4, some _), (3, some _), (2, some _), (1, some _), (0, some _)]) (lsub_cons rfl (lsub_cons rfl (lsub_cons rfl (lsub_cons rfl (lsub_cons rfl lsub_nil))))) ?_)
    exact kk M2 ⟨σ9, m9, S9, len9, c9, v5, hB2⟩ hf2

set_option maxHeartbeats 4000000 in
theorem sL_nearest {M : Mem} {ad : Int → Nat} {σ : Sg3} {m : Int} {S : Int → Sg3} {len : Int} {c : Int → Int} {th : Int} {sA N : Nat} {w : Int → Int} {i : Int} {k9 n9 : Nat} {Q : Rs → Mem → Prop} (hB : Bth M ad σ m S len c th) (hi : Inj ad) (hsc : M sA = some (aS N w)) (haS : ∀ j, 0 ≤ j → j < 122 → sA ≠ ad j) (hw : ∀ j, R32 (w j)) (h0 : 0 ≤ i) (h1 : i + 5 ≤ N) (hN : N ≤ 2560) (hk : k9 + 6 ≤ 601024) (hn : n9 + 36 ≤ 7293034) (kk : ∀ M2 : Mem, BthG M2 ad → FrI ad 0 122 M M2 → J KL_law 601024 7293034 Q 1678 (lL sA ad i) [] M2 (k9 + 6) (n9 + 36)) : J KL_law 601024 7293034 Q 986 (lL sA ad i) [] M k9 n9 := by
  obtain ⟨n, F, g⟩ := σ
  obtain ⟨hx, hR0, ⟨f9, ho⟩, hv, hsv⟩ := id hB
  refine r_aload_n dL_law_986 rfl ?_
  refine r_aload_n dL_law_987 rfl ?_
  refine r_iload dL_law_988 rfl ?_
  refine r_iconst dL_law_990 ?_
  refine r_iadd dL_law_991 ?_
  refine r_ialoadS hsc (by omega) (by omega) (by omega) dL_law_992 ?_
  refine r_aload_n dL_law_993 rfl ?_
  refine r_iload dL_law_994 rfl ?_
  refine r_iconst dL_law_996 ?_
  refine r_iadd dL_law_997 ?_
  refine r_ialoadS hsc (by omega) (by omega) (by omega) dL_law_998 ?_
  refine r_aload_n dL_law_999 rfl ?_
  refine r_callT4 okL_nearest ⟨by decide, by decide⟩ ml_L_141 (mL_nearest hx hv hi (hw _) (hw _) ho) (Nat.le_of_ble_eq_true rfl) (by omega) (by omega) rfl dL_law_1000 nx_UL (fun v M1 hq => ?_)
  obtain ⟨v5, hv5, hR1, hf1, ho1, h5⟩ := hB.mid hi hq
  cases hv5
  have hsc1 := (hf1 sA haS).trans hsc
  obtain ⟨fs9, hob⟩ := hR1.ob
  refine r_istore dL_law_1003 (by decide) rfl ?_
  refine r_aload_n dL_law_1005 rfl ?_
  refine r_aload_n dL_law_1006 rfl ?_
  refine r_iload dL_law_1007 rfl ?_
  refine r_iconst dL_law_1009 ?_
  refine r_iadd dL_law_1010 ?_
  refine r_ialoadS hsc1 (by omega) (by omega) (by omega) dL_law_1011 ?_
  refine r_aload_n dL_law_1012 rfl ?_
  refine r_iload dL_law_1013 rfl ?_
  refine r_iconst dL_law_1015 ?_
  refine r_iadd dL_law_1016 ?_
  refine r_ialoadS hsc1 (by omega) (by omega) (by omega) dL_law_1017 ?_
  refine r_callV2 okX9_nearest ⟨by decide, by decide⟩ ml_L_143 (mX9_nearest hR1 hi hv (hw _) (hw _)) hob rfl rfl (Nat.le_of_ble_eq_true rfl) (by omega) (by omega) rfl dL_law_1018 nx_UR (fun v M2 hq2 => ?_)
  obtain ⟨v6, hv6, h59, hf2, ⟨f2, ho2, hz2⟩, σ9, m9, S9, len9, c9, hB2⟩ := hB.fin hi tc3_ok (fun _ => ⟨hv, hsv⟩) hf1 ho1 h5 hq2
  cases hv6
  obtain ⟨fs8, hob2⟩ := hB2.2.1.ob
  refine r_istore dL_law_1021 (by decide) rfl ?_
  refine r_aload_n dL_law_1023 rfl ?_
  refine r_callV0 okX9_thrown ⟨by decide, by decide⟩ ml_L_93 hB2.2.1.thrown hob2 rfl rfl (Nat.le_of_ble_eq_true rfl) (by omega) (by omega) rfl dL_law_1024 nx_I (kx_I ?_)
  refine r_iload dL_law_1027 rfl ?_
  refine r_icmpE (tgt := 1034) dL_law_1029 (by decide) ?_
  refine r_iload dL_law_1034 rfl ?_
  refine r_if_ne (tgt := 1051) dL_law_1036 (by decide) (by omega) (fun hz => ?_) (fun hz => ?_)
  ·
    refine r_goto (tgt := 1678) dL_law_1051 (by decide) ?_
    refine (J.loc (L' := [(4, some _), (3, some _), (2, some _), (1, some _), (0, some _)]) (lsub_cons rfl (lsub_cons rfl (lsub_cons rfl (lsub_cons rfl (lsub_cons rfl lsub_nil))))) ?_)
    exact kk M2 ⟨σ9, m9, S9, len9, c9, v5, hB2⟩ hf2
  ·
    refine r_aload_n dL_law_1039 rfl ?_
    refine r_iconst dL_law_1040 ?_
    refine r_laload ho2 (by omega) (by omega) (by omega) dL_law_1041 ?_
    refine r_iload dL_law_1042 rfl ?_
    refine r_i2l dL_law_1044 ?_
    refine r_lcmpE (hz2 hz) dL_law_1045 ?_
    refine r_if_eq (tgt := 1051) dL_law_1046 (by decide) (by omega) (fun _ => ?_) (fun h => absurd rfl h)
    refine r_goto (tgt := 1678) dL_law_1051 (by decide) ?_
    refine (J.loc (L' := [(4, some _), (3, some _), (2, some _), (1, some _), (0, some _)]) (lsub_cons rfl (lsub_cons rfl (lsub_cons rfl (lsub_cons rfl (lsub_cons rfl lsub_nil))))) ?_)
    exact kk M2 ⟨σ9, m9, S9, len9, c9, v5, hB2⟩ hf2

set_option maxHeartbeats 4000000 in
theorem sL_block {M : Mem} {ad : Int → Nat} {σ : Sg3} {m : Int} {S : Int → Sg3} {len : Int} {c : Int → Int} {th : Int} {sA N : Nat} {w : Int → Int} {i : Int} {k9 n9 : Nat} {Q : Rs → Mem → Prop} (hB : Bth M ad σ m S len c th) (hi : Inj ad) (hsc : M sA = some (aS N w)) (haS : ∀ j, 0 ≤ j → j < 122 → sA ≠ ad j) (hw : ∀ j, R32 (w j)) (h0 : 0 ≤ i) (h1 : i + 5 ≤ N) (hN : N ≤ 2560) (hk : k9 + 6 ≤ 601024) (hn : n9 + 36 ≤ 7293034) (kk : ∀ M2 : Mem, BthG M2 ad → FrI ad 0 122 M M2 → J KL_law 601024 7293034 Q 1678 (lL sA ad i) [] M2 (k9 + 6) (n9 + 36)) : J KL_law 601024 7293034 Q 1054 (lL sA ad i) [] M k9 n9 := by
  obtain ⟨n, F, g⟩ := σ
  obtain ⟨hx, hR0, ⟨f9, ho⟩, hv, hsv⟩ := id hB
  refine r_aload_n dL_law_1054 rfl ?_
  refine r_aload_n dL_law_1055 rfl ?_
  refine r_iload dL_law_1056 rfl ?_
  refine r_iconst dL_law_1058 ?_
  refine r_iadd dL_law_1059 ?_
  refine r_ialoadS hsc (by omega) (by omega) (by omega) dL_law_1060 ?_
  refine r_aload_n dL_law_1061 rfl ?_
  refine r_iload dL_law_1062 rfl ?_
  refine r_iconst dL_law_1064 ?_
  refine r_iadd dL_law_1065 ?_
  refine r_ialoadS hsc (by omega) (by omega) (by omega) dL_law_1066 ?_
  refine r_aload_n dL_law_1067 rfl ?_
  refine r_iload dL_law_1068 rfl ?_
  refine r_iconst dL_law_1070 ?_
  refine r_iadd dL_law_1071 ?_
  refine r_ialoadS hsc (by omega) (by omega) (by omega) dL_law_1072 ?_
  refine r_aload_n dL_law_1073 rfl ?_
  refine r_callT5 okL_block ⟨by decide, by decide⟩ ml_L_144 (mL_block hx hv hi (hw _) (hw _) (hw _) ho) (Nat.le_of_ble_eq_true rfl) (by omega) (by omega) rfl dL_law_1074 nx_UL (fun v M1 hq => ?_)
  obtain ⟨v5, hv5, hR1, hf1, ho1, h5⟩ := hB.mid hi hq
  cases hv5
  have hsc1 := (hf1 sA haS).trans hsc
  obtain ⟨fs9, hob⟩ := hR1.ob
  refine r_istore dL_law_1077 (by decide) rfl ?_
  refine r_aload_n dL_law_1079 rfl ?_
  refine r_aload_n dL_law_1080 rfl ?_
  refine r_iload dL_law_1081 rfl ?_
  refine r_iconst dL_law_1083 ?_
  refine r_iadd dL_law_1084 ?_
  refine r_ialoadS hsc1 (by omega) (by omega) (by omega) dL_law_1085 ?_
  refine r_aload_n dL_law_1086 rfl ?_
  refine r_iload dL_law_1087 rfl ?_
  refine r_iconst dL_law_1089 ?_
  refine r_iadd dL_law_1090 ?_
  refine r_ialoadS hsc1 (by omega) (by omega) (by omega) dL_law_1091 ?_
  refine r_aload_n dL_law_1092 rfl ?_
  refine r_iload dL_law_1093 rfl ?_
  refine r_iconst dL_law_1095 ?_
  refine r_iadd dL_law_1096 ?_
  refine r_ialoadS hsc1 (by omega) (by omega) (by omega) dL_law_1097 ?_
  refine r_callV3 okX9_block ⟨by decide, by decide⟩ ml_L_146 (mX9_block hR1 hi hv (hw _) (hw _) (hw _)) hob rfl rfl (Nat.le_of_ble_eq_true rfl) (by omega) (by omega) rfl dL_law_1098 nx_UR (fun v M2 hq2 => ?_)
  obtain ⟨v6, hv6, h59, hf2, ⟨f2, ho2, hz2⟩, σ9, m9, S9, len9, c9, hB2⟩ := hB.fin hi tc3_ok (fun _ => ⟨hv, hsv⟩) hf1 ho1 h5 hq2
  cases hv6
  obtain ⟨fs8, hob2⟩ := hB2.2.1.ob
  refine r_istore dL_law_1101 (by decide) rfl ?_
  refine r_aload_n dL_law_1103 rfl ?_
  refine r_callV0 okX9_thrown ⟨by decide, by decide⟩ ml_L_93 hB2.2.1.thrown hob2 rfl rfl (Nat.le_of_ble_eq_true rfl) (by omega) (by omega) rfl dL_law_1104 nx_I (kx_I ?_)
  refine r_iload dL_law_1107 rfl ?_
  refine r_icmpE (tgt := 1114) dL_law_1109 (by decide) ?_
  refine r_iload dL_law_1114 rfl ?_
  refine r_if_ne (tgt := 1131) dL_law_1116 (by decide) (by omega) (fun hz => ?_) (fun hz => ?_)
  ·
    refine r_goto (tgt := 1678) dL_law_1131 (by decide) ?_
    refine (J.loc (L' := [(4, some _), (3, some _), (2, some _), (1, some _), (0, some _)]) (lsub_cons rfl (lsub_cons rfl (lsub_cons rfl (lsub_cons rfl (lsub_cons rfl lsub_nil))))) ?_)
    exact kk M2 ⟨σ9, m9, S9, len9, c9, v5, hB2⟩ hf2
  ·
    refine r_aload_n dL_law_1119 rfl ?_
    refine r_iconst dL_law_1120 ?_
    refine r_laload ho2 (by omega) (by omega) (by omega) dL_law_1121 ?_
    refine r_iload dL_law_1122 rfl ?_
    refine r_i2l dL_law_1124 ?_
    refine r_lcmpE (hz2 hz) dL_law_1125 ?_
    refine r_if_eq (tgt := 1131) dL_law_1126 (by decide) (by omega) (fun _ => ?_) (fun h => absurd rfl h)
    refine r_goto (tgt := 1678) dL_law_1131 (by decide) ?_
    refine (J.loc (L' := [(4, some _), (3, some _), (2, some _), (1, some _), (0, some _)]) (lsub_cons rfl (lsub_cons rfl (lsub_cons rfl (lsub_cons rfl (lsub_cons rfl lsub_nil))))) ?_)
    exact kk M2 ⟨σ9, m9, S9, len9, c9, v5, hB2⟩ hf2

set_option maxHeartbeats 4000000 in
theorem sL_of {M : Mem} {ad : Int → Nat} {σ : Sg3} {m : Int} {S : Int → Sg3} {len : Int} {c : Int → Int} {th : Int} {sA N : Nat} {w : Int → Int} {i : Int} {k9 n9 : Nat} {Q : Rs → Mem → Prop} (hB : Bth M ad σ m S len c th) (hi : Inj ad) (hsc : M sA = some (aS N w)) (haS : ∀ j, 0 ≤ j → j < 122 → sA ≠ ad j) (hw : ∀ j, R32 (w j)) (h0 : 0 ≤ i) (h1 : i + 5 ≤ N) (hN : N ≤ 2560) (hk : k9 + 6 ≤ 601024) (hn : n9 + 36 ≤ 7293034) (kk : ∀ M2 : Mem, BthG M2 ad → FrI ad 0 122 M M2 → J KL_law 601024 7293034 Q 1678 (lL sA ad i) [] M2 (k9 + 6) (n9 + 36)) : J KL_law 601024 7293034 Q 1134 (lL sA ad i) [] M k9 n9 := by
  obtain ⟨n, F, g⟩ := σ
  obtain ⟨hx, hR0, ⟨f9, ho⟩, hv, hsv⟩ := id hB
  refine r_aload_n dL_law_1134 rfl ?_
  refine r_aload_n dL_law_1135 rfl ?_
  refine r_iload dL_law_1136 rfl ?_
  refine r_iconst dL_law_1138 ?_
  refine r_iadd dL_law_1139 ?_
  refine r_ialoadS hsc (by omega) (by omega) (by omega) dL_law_1140 ?_
  refine r_aload_n dL_law_1141 rfl ?_
  refine r_iload dL_law_1142 rfl ?_
  refine r_iconst dL_law_1144 ?_
  refine r_iadd dL_law_1145 ?_
  refine r_ialoadS hsc (by omega) (by omega) (by omega) dL_law_1146 ?_
  refine r_aload_n dL_law_1147 rfl ?_
  refine r_callT4 okL_of ⟨by decide, by decide⟩ ml_L_147 (mL_of hx hv hi (hw _) (hw _) ho) (Nat.le_of_ble_eq_true rfl) (by omega) (by omega) rfl dL_law_1148 nx_UL (fun v M1 hq => ?_)
  obtain ⟨v5, hv5, hR1, hf1, ho1, h5⟩ := hB.mid hi hq
  cases hv5
  have hsc1 := (hf1 sA haS).trans hsc
  obtain ⟨fs9, hob⟩ := hR1.ob
  refine r_istore dL_law_1151 (by decide) rfl ?_
  refine r_aload_n dL_law_1153 rfl ?_
  refine r_aload_n dL_law_1154 rfl ?_
  refine r_iload dL_law_1155 rfl ?_
  refine r_iconst dL_law_1157 ?_
  refine r_iadd dL_law_1158 ?_
  refine r_ialoadS hsc1 (by omega) (by omega) (by omega) dL_law_1159 ?_
  refine r_aload_n dL_law_1160 rfl ?_
  refine r_iload dL_law_1161 rfl ?_
  refine r_iconst dL_law_1163 ?_
  refine r_iadd dL_law_1164 ?_
  refine r_ialoadS hsc1 (by omega) (by omega) (by omega) dL_law_1165 ?_
  refine r_callV2 okX9_of ⟨by decide, by decide⟩ ml_L_149 (mX9_of hR1 hi hv (hw _) (hw _)) hob rfl rfl (Nat.le_of_ble_eq_true rfl) (by omega) (by omega) rfl dL_law_1166 nx_UR (fun v M2 hq2 => ?_)
  obtain ⟨v6, hv6, h59, hf2, ⟨f2, ho2, hz2⟩, σ9, m9, S9, len9, c9, hB2⟩ := hB.fin hi tc3_ok (fun _ => ⟨hv, hsv⟩) hf1 ho1 h5 hq2
  cases hv6
  obtain ⟨fs8, hob2⟩ := hB2.2.1.ob
  refine r_istore dL_law_1169 (by decide) rfl ?_
  refine r_aload_n dL_law_1171 rfl ?_
  refine r_callV0 okX9_thrown ⟨by decide, by decide⟩ ml_L_93 hB2.2.1.thrown hob2 rfl rfl (Nat.le_of_ble_eq_true rfl) (by omega) (by omega) rfl dL_law_1172 nx_I (kx_I ?_)
  refine r_iload dL_law_1175 rfl ?_
  refine r_icmpE (tgt := 1182) dL_law_1177 (by decide) ?_
  refine r_iload dL_law_1182 rfl ?_
  refine r_if_ne (tgt := 1199) dL_law_1184 (by decide) (by omega) (fun hz => ?_) (fun hz => ?_)
  ·
    refine r_goto (tgt := 1678) dL_law_1199 (by decide) ?_
    refine (J.loc (L' := [(4, some _), (3, some _), (2, some _), (1, some _), (0, some _)]) (lsub_cons rfl (lsub_cons rfl (lsub_cons rfl (lsub_cons rfl (lsub_cons rfl lsub_nil))))) ?_)
    exact kk M2 ⟨σ9, m9, S9, len9, c9, v5, hB2⟩ hf2
  ·
    refine r_aload_n dL_law_1187 rfl ?_
    refine r_iconst dL_law_1188 ?_
    refine r_laload ho2 (by omega) (by omega) (by omega) dL_law_1189 ?_
    refine r_iload dL_law_1190 rfl ?_
    refine r_i2l dL_law_1192 ?_
    refine r_lcmpE (hz2 hz) dL_law_1193 ?_
    refine r_if_eq (tgt := 1199) dL_law_1194 (by decide) (by omega) (fun _ => ?_) (fun h => absurd rfl h)
    refine r_goto (tgt := 1678) dL_law_1199 (by decide) ?_
    refine (J.loc (L' := [(4, some _), (3, some _), (2, some _), (1, some _), (0, some _)]) (lsub_cons rfl (lsub_cons rfl (lsub_cons rfl (lsub_cons rfl (lsub_cons rfl lsub_nil))))) ?_)
    exact kk M2 ⟨σ9, m9, S9, len9, c9, v5, hB2⟩ hf2

set_option maxHeartbeats 4000000 in
theorem sL_leaps {M : Mem} {ad : Int → Nat} {σ : Sg3} {m : Int} {S : Int → Sg3} {len : Int} {c : Int → Int} {th : Int} {sA N : Nat} {w : Int → Int} {i : Int} {k9 n9 : Nat} {Q : Rs → Mem → Prop} (hB : Bth M ad σ m S len c th) (hi : Inj ad) (hsc : M sA = some (aS N w)) (haS : ∀ j, 0 ≤ j → j < 122 → sA ≠ ad j) (hw : ∀ j, R32 (w j)) (h0 : 0 ≤ i) (h1 : i + 5 ≤ N) (hN : N ≤ 2560) (hk : k9 + 6 ≤ 601024) (hn : n9 + 36 ≤ 7293034) (kk : ∀ M2 : Mem, BthG M2 ad → FrI ad 0 122 M M2 → J KL_law 601024 7293034 Q 1678 (lL sA ad i) [] M2 (k9 + 6) (n9 + 36)) : J KL_law 601024 7293034 Q 1202 (lL sA ad i) [] M k9 n9 := by
  obtain ⟨n, F, g⟩ := σ
  obtain ⟨hx, hR0, ⟨f9, ho⟩, hv, hsv⟩ := id hB
  refine r_aload_n dL_law_1202 rfl ?_
  refine r_aload_n dL_law_1203 rfl ?_
  refine r_iload dL_law_1204 rfl ?_
  refine r_iconst dL_law_1206 ?_
  refine r_iadd dL_law_1207 ?_
  refine r_ialoadS hsc (by omega) (by omega) (by omega) dL_law_1208 ?_
  refine r_aload_n dL_law_1209 rfl ?_
  refine r_iload dL_law_1210 rfl ?_
  refine r_iconst dL_law_1212 ?_
  refine r_iadd dL_law_1213 ?_
  refine r_ialoadS hsc (by omega) (by omega) (by omega) dL_law_1214 ?_
  refine r_aload_n dL_law_1215 rfl ?_
  refine r_iload dL_law_1216 rfl ?_
  refine r_iconst dL_law_1218 ?_
  refine r_iadd dL_law_1219 ?_
  refine r_ialoadS hsc (by omega) (by omega) (by omega) dL_law_1220 ?_
  refine r_aload_n dL_law_1221 rfl ?_
  refine r_callT5 okL_leaps ⟨by decide, by decide⟩ ml_L_150 (mL_leaps hx hv hi (hw _) (hw _) (hw _) ho) (Nat.le_of_ble_eq_true rfl) (by omega) (by omega) rfl dL_law_1222 nx_UL (fun v M1 hq => ?_)
  obtain ⟨v5, hv5, hR1, hf1, ho1, h5⟩ := hB.mid hi hq
  cases hv5
  have hsc1 := (hf1 sA haS).trans hsc
  obtain ⟨fs9, hob⟩ := hR1.ob
  refine r_istore dL_law_1225 (by decide) rfl ?_
  refine r_aload_n dL_law_1227 rfl ?_
  refine r_aload_n dL_law_1228 rfl ?_
  refine r_iload dL_law_1229 rfl ?_
  refine r_iconst dL_law_1231 ?_
  refine r_iadd dL_law_1232 ?_
  refine r_ialoadS hsc1 (by omega) (by omega) (by omega) dL_law_1233 ?_
  refine r_aload_n dL_law_1234 rfl ?_
  refine r_iload dL_law_1235 rfl ?_
  refine r_iconst dL_law_1237 ?_
  refine r_iadd dL_law_1238 ?_
  refine r_ialoadS hsc1 (by omega) (by omega) (by omega) dL_law_1239 ?_
  refine r_aload_n dL_law_1240 rfl ?_
  refine r_iload dL_law_1241 rfl ?_
  refine r_iconst dL_law_1243 ?_
  refine r_iadd dL_law_1244 ?_
  refine r_ialoadS hsc1 (by omega) (by omega) (by omega) dL_law_1245 ?_
  refine r_callV3 okX9_leaps ⟨by decide, by decide⟩ ml_L_152 (mX9_leaps hR1 hi hv (hw _) (hw _) (hw _)) hob rfl rfl (Nat.le_of_ble_eq_true rfl) (by omega) (by omega) rfl dL_law_1246 nx_UR (fun v M2 hq2 => ?_)
  obtain ⟨v6, hv6, h59, hf2, ⟨f2, ho2, hz2⟩, σ9, m9, S9, len9, c9, hB2⟩ := hB.fin hi tc3_ok (fun _ => ⟨hv, hsv⟩) hf1 ho1 h5 hq2
  cases hv6
  obtain ⟨fs8, hob2⟩ := hB2.2.1.ob
  refine r_istore dL_law_1249 (by decide) rfl ?_
  refine r_aload_n dL_law_1251 rfl ?_
  refine r_callV0 okX9_thrown ⟨by decide, by decide⟩ ml_L_93 hB2.2.1.thrown hob2 rfl rfl (Nat.le_of_ble_eq_true rfl) (by omega) (by omega) rfl dL_law_1252 nx_I (kx_I ?_)
  refine r_iload dL_law_1255 rfl ?_
  refine r_icmpE (tgt := 1262) dL_law_1257 (by decide) ?_
  refine r_iload dL_law_1262 rfl ?_
  refine r_if_ne (tgt := 1279) dL_law_1264 (by decide) (by omega) (fun hz => ?_) (fun hz => ?_)
  ·
    refine r_goto (tgt := 1678) dL_law_1279 (by decide) ?_
    refine (J.loc (L' := [(4, some _), (3, some _), (2, some _), (1, some _), (0, some _)]) (lsub_cons rfl (lsub_cons rfl (lsub_cons rfl (lsub_cons rfl (lsub_cons rfl lsub_nil))))) ?_)
    exact kk M2 ⟨σ9, m9, S9, len9, c9, v5, hB2⟩ hf2
  ·
    refine r_aload_n dL_law_1267 rfl ?_
    refine r_iconst dL_law_1268 ?_
    refine r_laload ho2 (by omega) (by omega) (by omega) dL_law_1269 ?_
    refine r_iload dL_law_1270 rfl ?_
    refine r_i2l dL_law_1272 ?_
    refine r_lcmpE (hz2 hz) dL_law_1273 ?_
    refine r_if_eq (tgt := 1279) dL_law_1274 (by decide) (by omega) (fun _ => ?_) (fun h => absurd rfl h)
    refine r_goto (tgt := 1678) dL_law_1279 (by decide) ?_
    refine (J.loc (L' := [(4, some _), (3, some _), (2, some _), (1, some _), (0, some _)]) (lsub_cons rfl (lsub_cons rfl (lsub_cons rfl (lsub_cons rfl (lsub_cons rfl lsub_nil))))) ?_)
    exact kk M2 ⟨σ9, m9, S9, len9, c9, v5, hB2⟩ hf2

set_option maxHeartbeats 4000000 in
theorem sL_count {M : Mem} {ad : Int → Nat} {σ : Sg3} {m : Int} {S : Int → Sg3} {len : Int} {c : Int → Int} {th : Int} {sA N : Nat} {w : Int → Int} {i : Int} {k9 n9 : Nat} {Q : Rs → Mem → Prop} (hB : Bth M ad σ m S len c th) (hi : Inj ad) (hsc : M sA = some (aS N w)) (haS : ∀ j, 0 ≤ j → j < 122 → sA ≠ ad j) (hw : ∀ j, R32 (w j)) (h0 : 0 ≤ i) (h1 : i + 5 ≤ N) (hN : N ≤ 2560) (hk : k9 + 6 ≤ 601024) (hn : n9 + 36 ≤ 7293034) (kk : ∀ M2 : Mem, BthG M2 ad → FrI ad 0 122 M M2 → J KL_law 601024 7293034 Q 1678 (lL sA ad i) [] M2 (k9 + 6) (n9 + 36)) : J KL_law 601024 7293034 Q 1282 (lL sA ad i) [] M k9 n9 := by
  obtain ⟨n, F, g⟩ := σ
  obtain ⟨hx, hR0, ⟨f9, ho⟩, hv, hsv⟩ := id hB
  refine r_aload_n dL_law_1282 rfl ?_
  refine r_aload_n dL_law_1283 rfl ?_
  refine r_iload dL_law_1284 rfl ?_
  refine r_iconst dL_law_1286 ?_
  refine r_iadd dL_law_1287 ?_
  refine r_ialoadS hsc (by omega) (by omega) (by omega) dL_law_1288 ?_
  refine r_aload_n dL_law_1289 rfl ?_
  refine r_callT3 okL_count ⟨by decide, by decide⟩ ml_L_153 (mL_count hx hv hi (hw _) ho) (Nat.le_of_ble_eq_true rfl) (by omega) (by omega) rfl dL_law_1290 nx_UL (fun v M1 hq => ?_)
  obtain ⟨v5, hv5, hR1, hf1, ho1, h5⟩ := hB.mid hi hq
  cases hv5
  have hsc1 := (hf1 sA haS).trans hsc
  obtain ⟨fs9, hob⟩ := hR1.ob
  refine r_istore dL_law_1293 (by decide) rfl ?_
  refine r_aload_n dL_law_1295 rfl ?_
  refine r_aload_n dL_law_1296 rfl ?_
  refine r_iload dL_law_1297 rfl ?_
  refine r_iconst dL_law_1299 ?_
  refine r_iadd dL_law_1300 ?_
  refine r_ialoadS hsc1 (by omega) (by omega) (by omega) dL_law_1301 ?_
  refine r_callV1 okX9_count ⟨by decide, by decide⟩ ml_L_155 (mX9_count hR1 hi hv (hw _)) hob rfl rfl (Nat.le_of_ble_eq_true rfl) (by omega) (by omega) rfl dL_law_1302 nx_UR (fun v M2 hq2 => ?_)
  obtain ⟨v6, hv6, h59, hf2, ⟨f2, ho2, hz2⟩, σ9, m9, S9, len9, c9, hB2⟩ := hB.fin hi tc1_ok (fun _ => ⟨hv, hsv⟩) hf1 ho1 h5 hq2
  cases hv6
  obtain ⟨fs8, hob2⟩ := hB2.2.1.ob
  refine r_istore dL_law_1305 (by decide) rfl ?_
  refine r_aload_n dL_law_1307 rfl ?_
  refine r_callV0 okX9_thrown ⟨by decide, by decide⟩ ml_L_93 hB2.2.1.thrown hob2 rfl rfl (Nat.le_of_ble_eq_true rfl) (by omega) (by omega) rfl dL_law_1308 nx_I (kx_I ?_)
  refine r_iload dL_law_1311 rfl ?_
  refine r_icmpE (tgt := 1318) dL_law_1313 (by decide) ?_
  refine r_iload dL_law_1318 rfl ?_
  refine r_if_ne (tgt := 1335) dL_law_1320 (by decide) (by omega) (fun hz => ?_) (fun hz => ?_)
  ·
    refine r_goto (tgt := 1678) dL_law_1335 (by decide) ?_
    refine (J.loc (L' := [(4, some _), (3, some _), (2, some _), (1, some _), (0, some _)]) (lsub_cons rfl (lsub_cons rfl (lsub_cons rfl (lsub_cons rfl (lsub_cons rfl lsub_nil))))) ?_)
    exact kk M2 ⟨σ9, m9, S9, len9, c9, v5, hB2⟩ hf2
  ·
    refine r_aload_n dL_law_1323 rfl ?_
    refine r_iconst dL_law_1324 ?_
    refine r_laload ho2 (by omega) (by omega) (by omega) dL_law_1325 ?_
    refine r_iload dL_law_1326 rfl ?_
    refine r_i2l dL_law_1328 ?_
    refine r_lcmpE (hz2 hz) dL_law_1329 ?_
    refine r_if_eq (tgt := 1335) dL_law_1330 (by decide) (by omega) (fun _ => ?_) (fun h => absurd rfl h)
    refine r_goto (tgt := 1678) dL_law_1335 (by decide) ?_
    refine (J.loc (L' := [(4, some _), (3, some _), (2, some _), (1, some _), (0, some _)]) (lsub_cons rfl (lsub_cons rfl (lsub_cons rfl (lsub_cons rfl (lsub_cons rfl lsub_nil))))) ?_)
    exact kk M2 ⟨σ9, m9, S9, len9, c9, v5, hB2⟩ hf2

set_option maxHeartbeats 4000000 in
theorem sL_setting {M : Mem} {ad : Int → Nat} {σ : Sg3} {m : Int} {S : Int → Sg3} {len : Int} {c : Int → Int} {th : Int} {sA N : Nat} {w : Int → Int} {i : Int} {k9 n9 : Nat} {Q : Rs → Mem → Prop} (hB : Bth M ad σ m S len c th) (hi : Inj ad) (hsc : M sA = some (aS N w)) (haS : ∀ j, 0 ≤ j → j < 122 → sA ≠ ad j) (hw : ∀ j, R32 (w j)) (h0 : 0 ≤ i) (h1 : i + 5 ≤ N) (hN : N ≤ 2560) (hk : k9 + 6 ≤ 601024) (hn : n9 + 36 ≤ 7293034) (kk : ∀ M2 : Mem, BthG M2 ad → FrI ad 0 122 M M2 → J KL_law 601024 7293034 Q 1678 (lL sA ad i) [] M2 (k9 + 6) (n9 + 36)) : J KL_law 601024 7293034 Q 1338 (lL sA ad i) [] M k9 n9 := by
  obtain ⟨n, F, g⟩ := σ
  obtain ⟨hx, hR0, ⟨f9, ho⟩, hv, hsv⟩ := id hB
  refine r_aload_n dL_law_1338 rfl ?_
  refine r_aload_n dL_law_1339 rfl ?_
  refine r_iload dL_law_1340 rfl ?_
  refine r_iconst dL_law_1342 ?_
  refine r_iadd dL_law_1343 ?_
  refine r_ialoadS hsc (by omega) (by omega) (by omega) dL_law_1344 ?_
  refine r_aload_n dL_law_1345 rfl ?_
  refine r_callT3 okL_setting ⟨by decide, by decide⟩ ml_L_156 (mL_setting hx hv hi (hw _) ho) (Nat.le_of_ble_eq_true rfl) (by omega) (by omega) rfl dL_law_1346 nx_UL (fun v M1 hq => ?_)
  obtain ⟨v5, hv5, hR1, hf1, ho1, h5⟩ := hB.mid hi hq
  cases hv5
  have hsc1 := (hf1 sA haS).trans hsc
  obtain ⟨fs9, hob⟩ := hR1.ob
  refine r_istore dL_law_1349 (by decide) rfl ?_
  refine r_aload_n dL_law_1351 rfl ?_
  refine r_aload_n dL_law_1352 rfl ?_
  refine r_iload dL_law_1353 rfl ?_
  refine r_iconst dL_law_1355 ?_
  refine r_iadd dL_law_1356 ?_
  refine r_ialoadS hsc1 (by omega) (by omega) (by omega) dL_law_1357 ?_
  refine r_callV1 okX9_setting ⟨by decide, by decide⟩ ml_L_158 (mX9_setting hR1 hi hv (hw _)) hob rfl rfl (Nat.le_of_ble_eq_true rfl) (by omega) (by omega) rfl dL_law_1358 nx_UR (fun v M2 hq2 => ?_)
  obtain ⟨v6, hv6, h59, hf2, ⟨f2, ho2, hz2⟩, σ9, m9, S9, len9, c9, hB2⟩ := hB.fin hi tc1_ok (fun _ => ⟨hv, hsv⟩) hf1 ho1 h5 hq2
  cases hv6
  obtain ⟨fs8, hob2⟩ := hB2.2.1.ob
  refine r_istore dL_law_1361 (by decide) rfl ?_
  refine r_aload_n dL_law_1363 rfl ?_
  refine r_callV0 okX9_thrown ⟨by decide, by decide⟩ ml_L_93 hB2.2.1.thrown hob2 rfl rfl (Nat.le_of_ble_eq_true rfl) (by omega) (by omega) rfl dL_law_1364 nx_I (kx_I ?_)
  refine r_iload dL_law_1367 rfl ?_
  refine r_icmpE (tgt := 1374) dL_law_1369 (by decide) ?_
  refine r_iload dL_law_1374 rfl ?_
  refine r_if_ne (tgt := 1391) dL_law_1376 (by decide) (by omega) (fun hz => ?_) (fun hz => ?_)
  ·
    refine r_goto (tgt := 1678) dL_law_1391 (by decide) ?_
    refine (J.loc (L' := [(4, some _), (3, some _), (2, some _), (1, some _), (0, some _)]) (lsub_cons rfl (lsub_cons rfl (lsub_cons rfl (lsub_cons rfl (lsub_cons rfl lsub_nil))))) ?_)
    exact kk M2 ⟨σ9, m9, S9, len9, c9, v5, hB2⟩ hf2
  ·
    refine r_aload_n dL_law_1379 rfl ?_
    refine r_iconst dL_law_1380 ?_
    refine r_laload ho2 (by omega) (by omega) (by omega) dL_law_1381 ?_
    refine r_iload dL_law_1382 rfl ?_
    refine r_i2l dL_law_1384 ?_
    refine r_lcmpE (hz2 hz) dL_law_1385 ?_
    refine r_if_eq (tgt := 1391) dL_law_1386 (by decide) (by omega) (fun _ => ?_) (fun h => absurd rfl h)
    refine r_goto (tgt := 1678) dL_law_1391 (by decide) ?_
    refine (J.loc (L' := [(4, some _), (3, some _), (2, some _), (1, some _), (0, some _)]) (lsub_cons rfl (lsub_cons rfl (lsub_cons rfl (lsub_cons rfl (lsub_cons rfl lsub_nil))))) ?_)
    exact kk M2 ⟨σ9, m9, S9, len9, c9, v5, hB2⟩ hf2

set_option maxHeartbeats 4000000 in
theorem sL_ifSet {M : Mem} {ad : Int → Nat} {σ : Sg3} {m : Int} {S : Int → Sg3} {len : Int} {c : Int → Int} {th : Int} {sA N : Nat} {w : Int → Int} {i : Int} {k9 n9 : Nat} {Q : Rs → Mem → Prop} (hB : Bth M ad σ m S len c th) (hi : Inj ad) (hsc : M sA = some (aS N w)) (haS : ∀ j, 0 ≤ j → j < 122 → sA ≠ ad j) (hw : ∀ j, R32 (w j)) (h0 : 0 ≤ i) (h1 : i + 5 ≤ N) (hN : N ≤ 2560) (hk : k9 + 6 ≤ 601024) (hn : n9 + 36 ≤ 7293034) (kk : ∀ M2 : Mem, BthG M2 ad → FrI ad 0 122 M M2 → J KL_law 601024 7293034 Q 1678 (lL sA ad i) [] M2 (k9 + 6) (n9 + 36)) : J KL_law 601024 7293034 Q 1394 (lL sA ad i) [] M k9 n9 := by
  obtain ⟨n, F, g⟩ := σ
  obtain ⟨hx, hR0, ⟨f9, ho⟩, hv, hsv⟩ := id hB
  refine r_aload_n dL_law_1394 rfl ?_
  refine r_aload_n dL_law_1395 rfl ?_
  refine r_iload dL_law_1396 rfl ?_
  refine r_iconst dL_law_1398 ?_
  refine r_iadd dL_law_1399 ?_
  refine r_ialoadS hsc (by omega) (by omega) (by omega) dL_law_1400 ?_
  refine r_aload_n dL_law_1401 rfl ?_
  refine r_iload dL_law_1402 rfl ?_
  refine r_iconst dL_law_1404 ?_
  refine r_iadd dL_law_1405 ?_
  refine r_ialoadS hsc (by omega) (by omega) (by omega) dL_law_1406 ?_
  refine r_aload_n dL_law_1407 rfl ?_
  refine r_iload dL_law_1408 rfl ?_
  refine r_iconst dL_law_1410 ?_
  refine r_iadd dL_law_1411 ?_
  refine r_ialoadS hsc (by omega) (by omega) (by omega) dL_law_1412 ?_
  refine r_aload_n dL_law_1413 rfl ?_
  refine r_callT5 okL_ifSet ⟨by decide, by decide⟩ ml_L_159 (mL_ifSet hx hv hi (hw _) (hw _) (hw _) ho) (Nat.le_of_ble_eq_true rfl) (by omega) (by omega) rfl dL_law_1414 nx_UL (fun v M1 hq => ?_)
  obtain ⟨v5, hv5, hR1, hf1, ho1, h5⟩ := hB.mid hi hq
  cases hv5
  have hsc1 := (hf1 sA haS).trans hsc
  obtain ⟨fs9, hob⟩ := hR1.ob
  refine r_istore dL_law_1417 (by decide) rfl ?_
  refine r_aload_n dL_law_1419 rfl ?_
  refine r_aload_n dL_law_1420 rfl ?_
  refine r_iload dL_law_1421 rfl ?_
  refine r_iconst dL_law_1423 ?_
  refine r_iadd dL_law_1424 ?_
  refine r_ialoadS hsc1 (by omega) (by omega) (by omega) dL_law_1425 ?_
  refine r_aload_n dL_law_1426 rfl ?_
  refine r_iload dL_law_1427 rfl ?_
  refine r_iconst dL_law_1429 ?_
  refine r_iadd dL_law_1430 ?_
  refine r_ialoadS hsc1 (by omega) (by omega) (by omega) dL_law_1431 ?_
  refine r_aload_n dL_law_1432 rfl ?_
  refine r_iload dL_law_1433 rfl ?_
  refine r_iconst dL_law_1435 ?_
  refine r_iadd dL_law_1436 ?_
  refine r_ialoadS hsc1 (by omega) (by omega) (by omega) dL_law_1437 ?_
  refine r_callV3 okX9_ifSet ⟨by decide, by decide⟩ ml_L_161 (mX9_ifSet hR1 hi hv (hw _) (hw _) (hw _)) hob rfl rfl (Nat.le_of_ble_eq_true rfl) (by omega) (by omega) rfl dL_law_1438 nx_UR (fun v M2 hq2 => ?_)
  obtain ⟨v6, hv6, h59, hf2, ⟨f2, ho2, hz2⟩, σ9, m9, S9, len9, c9, hB2⟩ := hB.fin hi tc3_ok (fun _ => ⟨hv, hsv⟩) hf1 ho1 h5 hq2
  cases hv6
  obtain ⟨fs8, hob2⟩ := hB2.2.1.ob
  refine r_istore dL_law_1441 (by decide) rfl ?_
  refine r_aload_n dL_law_1443 rfl ?_
  refine r_callV0 okX9_thrown ⟨by decide, by decide⟩ ml_L_93 hB2.2.1.thrown hob2 rfl rfl (Nat.le_of_ble_eq_true rfl) (by omega) (by omega) rfl dL_law_1444 nx_I (kx_I ?_)
  refine r_iload dL_law_1447 rfl ?_
  refine r_icmpE (tgt := 1454) dL_law_1449 (by decide) ?_
  refine r_iload dL_law_1454 rfl ?_
  refine r_if_ne (tgt := 1471) dL_law_1456 (by decide) (by omega) (fun hz => ?_) (fun hz => ?_)
  ·
    refine r_goto (tgt := 1678) dL_law_1471 (by decide) ?_
    refine (J.loc (L' := [(4, some _), (3, some _), (2, some _), (1, some _), (0, some _)]) (lsub_cons rfl (lsub_cons rfl (lsub_cons rfl (lsub_cons rfl (lsub_cons rfl lsub_nil))))) ?_)
    exact kk M2 ⟨σ9, m9, S9, len9, c9, v5, hB2⟩ hf2
  ·
    refine r_aload_n dL_law_1459 rfl ?_
    refine r_iconst dL_law_1460 ?_
    refine r_laload ho2 (by omega) (by omega) (by omega) dL_law_1461 ?_
    refine r_iload dL_law_1462 rfl ?_
    refine r_i2l dL_law_1464 ?_
    refine r_lcmpE (hz2 hz) dL_law_1465 ?_
    refine r_if_eq (tgt := 1471) dL_law_1466 (by decide) (by omega) (fun _ => ?_) (fun h => absurd rfl h)
    refine r_goto (tgt := 1678) dL_law_1471 (by decide) ?_
    refine (J.loc (L' := [(4, some _), (3, some _), (2, some _), (1, some _), (0, some _)]) (lsub_cons rfl (lsub_cons rfl (lsub_cons rfl (lsub_cons rfl (lsub_cons rfl lsub_nil))))) ?_)
    exact kk M2 ⟨σ9, m9, S9, len9, c9, v5, hB2⟩ hf2

set_option maxHeartbeats 4000000 in
theorem sL_ifAdded {M : Mem} {ad : Int → Nat} {σ : Sg3} {m : Int} {S : Int → Sg3} {len : Int} {c : Int → Int} {th : Int} {sA N : Nat} {w : Int → Int} {i : Int} {k9 n9 : Nat} {Q : Rs → Mem → Prop} (hB : Bth M ad σ m S len c th) (hi : Inj ad) (hsc : M sA = some (aS N w)) (haS : ∀ j, 0 ≤ j → j < 122 → sA ≠ ad j) (hw : ∀ j, R32 (w j)) (h0 : 0 ≤ i) (h1 : i + 5 ≤ N) (hN : N ≤ 2560) (hk : k9 + 6 ≤ 601024) (hn : n9 + 36 ≤ 7293034) (kk : ∀ M2 : Mem, BthG M2 ad → FrI ad 0 122 M M2 → J KL_law 601024 7293034 Q 1678 (lL sA ad i) [] M2 (k9 + 6) (n9 + 36)) : J KL_law 601024 7293034 Q 1474 (lL sA ad i) [] M k9 n9 := by
  obtain ⟨n, F, g⟩ := σ
  obtain ⟨hx, hR0, ⟨f9, ho⟩, hv, hsv⟩ := id hB
  refine r_aload_n dL_law_1474 rfl ?_
  refine r_aload_n dL_law_1475 rfl ?_
  refine r_iload dL_law_1476 rfl ?_
  refine r_iconst dL_law_1478 ?_
  refine r_iadd dL_law_1479 ?_
  refine r_ialoadS hsc (by omega) (by omega) (by omega) dL_law_1480 ?_
  refine r_aload_n dL_law_1481 rfl ?_
  refine r_iload dL_law_1482 rfl ?_
  refine r_iconst dL_law_1484 ?_
  refine r_iadd dL_law_1485 ?_
  refine r_ialoadS hsc (by omega) (by omega) (by omega) dL_law_1486 ?_
  refine r_aload_n dL_law_1487 rfl ?_
  refine r_callT4 okL_ifAdded ⟨by decide, by decide⟩ ml_L_162 (mL_ifAdded hx hv hi (hw _) (hw _) ho) (Nat.le_of_ble_eq_true rfl) (by omega) (by omega) rfl dL_law_1488 nx_UL (fun v M1 hq => ?_)
  obtain ⟨v5, hv5, hR1, hf1, ho1, h5⟩ := hB.mid hi hq
  cases hv5
  have hsc1 := (hf1 sA haS).trans hsc
  obtain ⟨fs9, hob⟩ := hR1.ob
  refine r_istore dL_law_1491 (by decide) rfl ?_
  refine r_aload_n dL_law_1493 rfl ?_
  refine r_aload_n dL_law_1494 rfl ?_
  refine r_iload dL_law_1495 rfl ?_
  refine r_iconst dL_law_1497 ?_
  refine r_iadd dL_law_1498 ?_
  refine r_ialoadS hsc1 (by omega) (by omega) (by omega) dL_law_1499 ?_
  refine r_aload_n dL_law_1500 rfl ?_
  refine r_iload dL_law_1501 rfl ?_
  refine r_iconst dL_law_1503 ?_
  refine r_iadd dL_law_1504 ?_
  refine r_ialoadS hsc1 (by omega) (by omega) (by omega) dL_law_1505 ?_
  refine r_callV2 okX9_ifAdded ⟨by decide, by decide⟩ ml_L_164 (mX9_ifAdded hR1 hi hv (hw _) (hw _)) hob rfl rfl (Nat.le_of_ble_eq_true rfl) (by omega) (by omega) rfl dL_law_1506 nx_UR (fun v M2 hq2 => ?_)
  obtain ⟨v6, hv6, h59, hf2, ⟨f2, ho2, hz2⟩, σ9, m9, S9, len9, c9, hB2⟩ := hB.fin hi tc3_ok (fun _ => ⟨hv, hsv⟩) hf1 ho1 h5 hq2
  cases hv6
  obtain ⟨fs8, hob2⟩ := hB2.2.1.ob
  refine r_istore dL_law_1509 (by decide) rfl ?_
  refine r_aload_n dL_law_1511 rfl ?_
  refine r_callV0 okX9_thrown ⟨by decide, by decide⟩ ml_L_93 hB2.2.1.thrown hob2 rfl rfl (Nat.le_of_ble_eq_true rfl) (by omega) (by omega) rfl dL_law_1512 nx_I (kx_I ?_)
  refine r_iload dL_law_1515 rfl ?_
  refine r_icmpE (tgt := 1522) dL_law_1517 (by decide) ?_
  refine r_iload dL_law_1522 rfl ?_
  refine r_if_ne (tgt := 1539) dL_law_1524 (by decide) (by omega) (fun hz => ?_) (fun hz => ?_)
  ·
    refine r_goto (tgt := 1678) dL_law_1539 (by decide) ?_
    refine (J.loc (L' := [(4, some _), (3, some _), (2, some _), (1, some _), (0, some _)]) (lsub_cons rfl (lsub_cons rfl (lsub_cons rfl (lsub_cons rfl (lsub_cons rfl lsub_nil))))) ?_)
    exact kk M2 ⟨σ9, m9, S9, len9, c9, v5, hB2⟩ hf2
  ·
    refine r_aload_n dL_law_1527 rfl ?_
    refine r_iconst dL_law_1528 ?_
    refine r_laload ho2 (by omega) (by omega) (by omega) dL_law_1529 ?_
    refine r_iload dL_law_1530 rfl ?_
    refine r_i2l dL_law_1532 ?_
    refine r_lcmpE (hz2 hz) dL_law_1533 ?_
    refine r_if_eq (tgt := 1539) dL_law_1534 (by decide) (by omega) (fun _ => ?_) (fun h => absurd rfl h)
    refine r_goto (tgt := 1678) dL_law_1539 (by decide) ?_
    refine (J.loc (L' := [(4, some _), (3, some _), (2, some _), (1, some _), (0, some _)]) (lsub_cons rfl (lsub_cons rfl (lsub_cons rfl (lsub_cons rfl (lsub_cons rfl lsub_nil))))) ?_)
    exact kk M2 ⟨σ9, m9, S9, len9, c9, v5, hB2⟩ hf2

set_option maxHeartbeats 4000000 in
theorem sL_dearest {M : Mem} {ad : Int → Nat} {σ : Sg3} {m : Int} {S : Int → Sg3} {len : Int} {c : Int → Int} {th : Int} {sA N : Nat} {w : Int → Int} {i : Int} {k9 n9 : Nat} {Q : Rs → Mem → Prop} (hB : Bth M ad σ m S len c th) (hi : Inj ad) (hsc : M sA = some (aS N w)) (haS : ∀ j, 0 ≤ j → j < 122 → sA ≠ ad j) (hw : ∀ j, R32 (w j)) (h0 : 0 ≤ i) (h1 : i + 5 ≤ N) (hN : N ≤ 2560) (hk : k9 + 6 ≤ 601024) (hn : n9 + 36 ≤ 7293034) (kk : ∀ M2 : Mem, BthG M2 ad → FrI ad 0 122 M M2 → J KL_law 601024 7293034 Q 1678 (lL sA ad i) [] M2 (k9 + 6) (n9 + 36)) : J KL_law 601024 7293034 Q 1542 (lL sA ad i) [] M k9 n9 := by
  obtain ⟨n, F, g⟩ := σ
  obtain ⟨hx, hR0, ⟨f9, ho⟩, hv, hsv⟩ := id hB
  refine r_aload_n dL_law_1542 rfl ?_
  refine r_aload_n dL_law_1543 rfl ?_
  refine r_iload dL_law_1544 rfl ?_
  refine r_iconst dL_law_1546 ?_
  refine r_iadd dL_law_1547 ?_
  refine r_ialoadS hsc (by omega) (by omega) (by omega) dL_law_1548 ?_
  refine r_aload_n dL_law_1549 rfl ?_
  refine r_iload dL_law_1550 rfl ?_
  refine r_iconst dL_law_1552 ?_
  refine r_iadd dL_law_1553 ?_
  refine r_ialoadS hsc (by omega) (by omega) (by omega) dL_law_1554 ?_
  refine r_aload_n dL_law_1555 rfl ?_
  refine r_callT4 okL_dearest ⟨by decide, by decide⟩ ml_L_165 (mL_dearest hx hv hi (hw _) (hw _) ho) (Nat.le_of_ble_eq_true rfl) (by omega) (by omega) rfl dL_law_1556 nx_UL (fun v M1 hq => ?_)
  obtain ⟨v5, hv5, hR1, hf1, ho1, h5⟩ := hB.mid hi hq
  cases hv5
  have hsc1 := (hf1 sA haS).trans hsc
  obtain ⟨fs9, hob⟩ := hR1.ob
  refine r_istore dL_law_1559 (by decide) rfl ?_
  refine r_aload_n dL_law_1561 rfl ?_
  refine r_aload_n dL_law_1562 rfl ?_
  refine r_iload dL_law_1563 rfl ?_
  refine r_iconst dL_law_1565 ?_
  refine r_iadd dL_law_1566 ?_
  refine r_ialoadS hsc1 (by omega) (by omega) (by omega) dL_law_1567 ?_
  refine r_aload_n dL_law_1568 rfl ?_
  refine r_iload dL_law_1569 rfl ?_
  refine r_iconst dL_law_1571 ?_
  refine r_iadd dL_law_1572 ?_
  refine r_ialoadS hsc1 (by omega) (by omega) (by omega) dL_law_1573 ?_
  refine r_callV2 okX9_dearest ⟨by decide, by decide⟩ ml_L_167 (mX9_dearest hR1 hi hv (hw _) (hw _)) hob rfl rfl (Nat.le_of_ble_eq_true rfl) (by omega) (by omega) rfl dL_law_1574 nx_UR (fun v M2 hq2 => ?_)
  obtain ⟨v6, hv6, h59, hf2, ⟨f2, ho2, hz2⟩, σ9, m9, S9, len9, c9, hB2⟩ := hB.fin hi tc3_ok (fun _ => ⟨hv, hsv⟩) hf1 ho1 h5 hq2
  cases hv6
  obtain ⟨fs8, hob2⟩ := hB2.2.1.ob
  refine r_istore dL_law_1577 (by decide) rfl ?_
  refine r_aload_n dL_law_1579 rfl ?_
  refine r_callV0 okX9_thrown ⟨by decide, by decide⟩ ml_L_93 hB2.2.1.thrown hob2 rfl rfl (Nat.le_of_ble_eq_true rfl) (by omega) (by omega) rfl dL_law_1580 nx_I (kx_I ?_)
  refine r_iload dL_law_1583 rfl ?_
  refine r_icmpE (tgt := 1590) dL_law_1585 (by decide) ?_
  refine r_iload dL_law_1590 rfl ?_
  refine r_if_ne (tgt := 1607) dL_law_1592 (by decide) (by omega) (fun hz => ?_) (fun hz => ?_)
  ·
    refine r_goto (tgt := 1678) dL_law_1607 (by decide) ?_
    refine (J.loc (L' := [(4, some _), (3, some _), (2, some _), (1, some _), (0, some _)]) (lsub_cons rfl (lsub_cons rfl (lsub_cons rfl (lsub_cons rfl (lsub_cons rfl lsub_nil))))) ?_)
    exact kk M2 ⟨σ9, m9, S9, len9, c9, v5, hB2⟩ hf2
  ·
    refine r_aload_n dL_law_1595 rfl ?_
    refine r_iconst dL_law_1596 ?_
    refine r_laload ho2 (by omega) (by omega) (by omega) dL_law_1597 ?_
    refine r_iload dL_law_1598 rfl ?_
    refine r_i2l dL_law_1600 ?_
    refine r_lcmpE (hz2 hz) dL_law_1601 ?_
    refine r_if_eq (tgt := 1607) dL_law_1602 (by decide) (by omega) (fun _ => ?_) (fun h => absurd rfl h)
    refine r_goto (tgt := 1678) dL_law_1607 (by decide) ?_
    refine (J.loc (L' := [(4, some _), (3, some _), (2, some _), (1, some _), (0, some _)]) (lsub_cons rfl (lsub_cons rfl (lsub_cons rfl (lsub_cons rfl (lsub_cons rfl lsub_nil))))) ?_)
    exact kk M2 ⟨σ9, m9, S9, len9, c9, v5, hB2⟩ hf2

set_option maxHeartbeats 4000000 in
theorem sL_bestWidth {M : Mem} {ad : Int → Nat} {σ : Sg3} {m : Int} {S : Int → Sg3} {len : Int} {c : Int → Int} {th : Int} {sA N : Nat} {w : Int → Int} {i : Int} {k9 n9 : Nat} {Q : Rs → Mem → Prop} (hB : Bth M ad σ m S len c th) (hi : Inj ad) (hsc : M sA = some (aS N w)) (haS : ∀ j, 0 ≤ j → j < 122 → sA ≠ ad j) (hw : ∀ j, R32 (w j)) (h0 : 0 ≤ i) (h1 : i + 5 ≤ N) (hN : N ≤ 2560) (hk : k9 + 6 ≤ 601024) (hn : n9 + 36 ≤ 7293034) (kk : ∀ M2 : Mem, BthG M2 ad → FrI ad 0 122 M M2 → J KL_law 601024 7293034 Q 1678 (lL sA ad i) [] M2 (k9 + 6) (n9 + 36)) : J KL_law 601024 7293034 Q 1610 (lL sA ad i) [] M k9 n9 := by
  obtain ⟨n, F, g⟩ := σ
  obtain ⟨hx, hR0, ⟨f9, ho⟩, hv, hsv⟩ := id hB
  refine r_aload_n dL_law_1610 rfl ?_
  refine r_callV0 okX8_bestWidth ⟨by decide, by decide⟩ ml_L_168 (mX8_bestWidth hx hv hi) hx.1 rfl rfl (Nat.le_of_ble_eq_true rfl) (by omega) (by omega) rfl dL_law_1611 nx_tI (kx_tI ?_)
  intro M1 hM1
  have hR1 := hB.rs1 hi hM1.2
  obtain ⟨fs9, hob⟩ := hR1.ob
  refine r_aload_n dL_law_1614 rfl ?_
  refine r_callV0 okX9_bestWidth ⟨by decide, by decide⟩ ml_L_171 (mX9_bestWidth hR1 hi hv) hob rfl rfl (Nat.le_of_ble_eq_true rfl) (by omega) (by omega) rfl dL_law_1615 nx_tI (kx_tI ?_)
  intro M2 hM2
  refine r_icmpE (tgt := 1678) dL_law_1618 (by decide) ?_
  refine J.wide (k' := k9 + 6) (n' := n9 + 36) (by omega) (by omega) (J.loc (L' := [(4, some _), (3, some _), (2, some _), (1, some _), (0, some _)]) (lsub_cons rfl (lsub_cons rfl (lsub_cons rfl (lsub_cons rfl (lsub_cons rfl lsub_nil))))) ?_)
  exact kk M2 ⟨_, _, _, _, _, _, Bth.join hi hM1.1 (hB.out1 hi hM1.2) hM2 hv hsv⟩ ((hM1.2.w (by omega) (by omega)).trans (hM2.fr.w (by omega) (by omega)))

set_option maxHeartbeats 4000000 in
theorem sL_smallness {M : Mem} {ad : Int → Nat} {σ : Sg3} {m : Int} {S : Int → Sg3} {len : Int} {c : Int → Int} {th : Int} {sA N : Nat} {w : Int → Int} {i : Int} {k9 n9 : Nat} {Q : Rs → Mem → Prop} (hB : Bth M ad σ m S len c th) (hi : Inj ad) (hsc : M sA = some (aS N w)) (haS : ∀ j, 0 ≤ j → j < 122 → sA ≠ ad j) (hw : ∀ j, R32 (w j)) (h0 : 0 ≤ i) (h1 : i + 5 ≤ N) (hN : N ≤ 2560) (hk : k9 + 6 ≤ 601024) (hn : n9 + 36 ≤ 7293034) (kk : ∀ M2 : Mem, BthG M2 ad → FrI ad 0 122 M M2 → J KL_law 601024 7293034 Q 1678 (lL sA ad i) [] M2 (k9 + 6) (n9 + 36)) : J KL_law 601024 7293034 Q 1623 (lL sA ad i) [] M k9 n9 := by
  obtain ⟨n, F, g⟩ := σ
  obtain ⟨hx, hR0, ⟨f9, ho⟩, hv, hsv⟩ := id hB
  refine r_aload_n dL_law_1623 rfl ?_
  refine r_callV0 okX8_smallness ⟨by decide, by decide⟩ ml_L_172 (mX8_smallness hx hv hi) hx.1 rfl rfl (Nat.le_of_ble_eq_true rfl) (by omega) (by omega) rfl dL_law_1624 nx_D (kx_D ?_)
  have hR1 := hR0
  obtain ⟨fs9, hob⟩ := hR1.ob
  refine r_dstoreT dL_law_1627 (by decide) rfl ?_
  refine r_aload_n dL_law_1629 rfl ?_
  refine r_callV0 okX9_smallness ⟨by decide, by decide⟩ ml_L_176 (mX9_smallness hR1 hi hv) hob rfl rfl (Nat.le_of_ble_eq_true rfl) (by omega) (by omega) rfl dL_law_1630 nx_tD (kx_tD ?_)
  intro M2 hM2
  refine r_dstoreT dL_law_1633 (by decide) rfl ?_
  refine r_dload dL_law_1635 rfl ?_
  refine r_dload dL_law_1637 rfl ?_
  obtain ⟨cc, qq, hV, -⟩ := smV_ok (hx.sts hv) g
  refine r_dcmpC (cmp_self hV _) dL_law_1639 ?_
  refine r_if_eq (tgt := 1661) dL_law_1640 (by decide) (by omega) (fun _ => ?_) (fun h => absurd rfl h)
  refine r_goto (tgt := 1678) dL_law_1661 (by decide) ?_
  refine J.wide (k' := k9 + 6) (n' := n9 + 36) (by omega) (by omega) (J.loc (L' := [(4, some _), (3, some _), (2, some _), (1, some _), (0, some _)]) (lsub_cons rfl (lsub_cons rfl (lsub_cons rfl (lsub_cons rfl (lsub_cons rfl lsub_nil))))) ?_)
  exact kk M2 ⟨_, _, _, _, _, _, Bth.join hi hx ⟨f9, ho⟩ hM2 hv hsv⟩ (hM2.fr.w (by omega) (by omega))

set_option maxHeartbeats 4000000 in
theorem sL_digest {M : Mem} {ad : Int → Nat} {σ : Sg3} {m : Int} {S : Int → Sg3} {len : Int} {c : Int → Int} {th : Int} {sA N : Nat} {w : Int → Int} {i : Int} {k9 n9 : Nat} {Q : Rs → Mem → Prop} (hB : Bth M ad σ m S len c th) (hi : Inj ad) (hsc : M sA = some (aS N w)) (haS : ∀ j, 0 ≤ j → j < 122 → sA ≠ ad j) (hw : ∀ j, R32 (w j)) (h0 : 0 ≤ i) (h1 : i + 5 ≤ N) (hN : N ≤ 2560) (hk : k9 + 6 ≤ 601024) (hn : n9 + 36 ≤ 7293034) (kk : ∀ M2 : Mem, BthG M2 ad → FrI ad 0 122 M M2 → J KL_law 601024 7293034 Q 1678 (lL sA ad i) [] M2 (k9 + 6) (n9 + 36)) : J KL_law 601024 7293034 Q 1664 (lL sA ad i) [] M k9 n9 := by
  obtain ⟨n, F, g⟩ := σ
  obtain ⟨hx, hR0, ⟨f9, ho⟩, hv, hsv⟩ := id hB
  refine r_aload_n dL_law_1664 rfl ?_
  refine r_callV0 okX8_digest ⟨by decide, by decide⟩ ml_L_177 (mX8_digest hx hv hi) hx.1 rfl rfl (Nat.le_of_ble_eq_true rfl) (by omega) (by omega) rfl dL_law_1665 nx_tL (kx_tL ?_)
  intro M1 hM1
  have hR1 := hB.rs1 hi hM1.2
  obtain ⟨fs9, hob⟩ := hR1.ob
  refine r_aload_n dL_law_1668 rfl ?_
  refine r_callV0 okX9_digest ⟨by decide, by decide⟩ ml_L_181 (mX9_digest hR1 hi hv) hob rfl rfl (Nat.le_of_ble_eq_true rfl) (by omega) (by omega) rfl dL_law_1669 nx_tL (kx_tL ?_)
  intro M2 hM2
  refine r_lcmpE rfl dL_law_1672 ?_
  refine r_if_eq (tgt := 1678) dL_law_1673 (by decide) (by omega) (fun _ => ?_) (fun h => absurd rfl h)
  refine J.wide (k' := k9 + 6) (n' := n9 + 36) (by omega) (by omega) (J.loc (L' := [(4, some _), (3, some _), (2, some _), (1, some _), (0, some _)]) (lsub_cons rfl (lsub_cons rfl (lsub_cons rfl (lsub_cons rfl (lsub_cons rfl lsub_nil))))) ?_)
  exact kk M2 ⟨_, _, _, _, _, _, Bth.join hi hM1.1 (hB.out1 hi hM1.2) hM2 hv hsv⟩ ((hM1.2.w (by omega) (by omega)).trans (hM2.fr.w (by omega) (by omega)))
