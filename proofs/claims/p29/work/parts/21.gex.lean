/-! throws, and what public calls say -/
def xI : String := "java/lang/IndexOutOfBoundsException"
def xA : String := "java/lang/IllegalArgumentException"
def xS : String := "java/lang/IllegalStateException"
/-- returns nothing, or throws E -/
def UV (E : String) (M : Mem) : Rs → Mem → Prop := fun r M' => (if E = "" then r = .inl none else r = .inr E) ∧ M' = M
/-- returns z and P, or throws E and nothing has changed -/
def UX (E : String) (z : Int) (P : Mem → Prop) (M : Mem) : Rs → Mem → Prop := fun r M' => if E = "" then r = .inl (some (vI z)) ∧ P M' else r = .inr E ∧ M' = M
def e2 (a b : String) : String := if a = "" then b else a
theorem tUX {E exc : String} {z : Int} {P : Mem → Prop} {M : Mem} (he : E ≠ "" → exc = E) : ∀ (E2 : String) (M2 : Mem), UV E M (.inr E2) M2 → UX exc z P M (.inr E2) M2 := by
  rintro E2 M2 ⟨h, rfl⟩
  unfold UX
  by_cases e : E = ""
  · rw [if_pos e] at h; cases h
  · rw [if_neg e] at h; cases h; rw [he e, if_neg e]; exact ⟨rfl, rfl⟩
theorem tUV {E exc : String} {M : Mem} (he : E ≠ "" → exc = E) : ∀ (E2 : String) (M2 : Mem), UV E M (.inr E2) M2 → UV exc M (.inr E2) M2 := by
  rintro E2 M2 ⟨h, rfl⟩
  unfold UV
  by_cases e : E = ""
  · rw [if_pos e] at h; cases h
  · rw [if_neg e] at h; cases h; rw [he e, if_neg e]; exact ⟨rfl, rfl⟩
theorem kx_U {κ : Kp} {bc bs : Nat} {Q : Rs → Mem → Prop} {pc : Nat} {L : Ls} {st : List Value} {M : Mem} {k n : Nat} {E : String} (j : E = "" → J κ bc bs Q pc L st M k n) : ∀ (v : Option Value) (M2 : Mem), UV E M (.inl v) M2 → J κ bc bs Q pc L (v.toList ++ st) M2 k n := by
  rintro v M2 ⟨h, rfl⟩
  by_cases e : E = ""
  · rw [if_pos e] at h; cases h; exact j e
  · rw [if_neg e] at h; cases h
theorem okUX {exc : String} {z z' : Int} {P : Mem → Prop} {M M0 : Mem} (he : exc = "") (h : z' = z) (hP : P M) : UX exc z P M0 (.inl (some (vI z'))) M := by
  unfold UX; rw [if_pos he, h]; exact ⟨rfl, hP⟩
theorem okUV {exc : String} {M : Mem} (he : exc = "") : UV exc M (.inl none) M := ⟨by rw [if_pos he], rfl⟩
theorem noUV {exc E : String} {M : Mem} (he : exc = E) (hE : E ≠ "") : UV exc M (.inr E) M := ⟨by rw [he, if_neg hE], rfl⟩
def eSet (k : Int) : String := if 0 ≤ k ∧ k < 4 then "" else xI
def eStg (k : Int) : String := if 0 ≤ k ∧ k < 2 then "" else xI
def eB (b : Prop) [Decidable b] (E : String) : String := if b then "" else E
theorem eSet_ok {k : Int} (h : eSet k = "") : 0 ≤ k ∧ k < 4 := by
  unfold eSet at h
  by_cases e : 0 ≤ k ∧ k < 4
  · exact e
  · rw [if_neg e] at h; exact absurd h (by decide)
theorem eStg_ok {k : Int} (h : eStg k = "") : 0 ≤ k ∧ k < 2 := by
  unfold eStg at h
  by_cases e : 0 ≤ k ∧ k < 2
  · exact e
  · rw [if_neg e] at h; exact absurd h (by decide)
theorem eA_ok {b : Prop} [Decidable b] (h : eB b xA = "") : b := by
  unfold eB at h
  by_cases e : b
  · exact e
  · rw [if_neg e] at h; exact absurd h (by decide)
theorem eS_ok {b : Prop} [Decidable b] (h : eB b xS = "") : b := by
  unfold eB at h
  by_cases e : b
  · exact e
  · rw [if_neg e] at h; exact absurd h (by decide)
theorem eB_cong {a b : Prop} [Decidable a] [Decidable b] {E : String} (h : a ↔ b) : eB a E = eB b E := by
  unfold eB
  by_cases e : a
  · rw [if_pos e, if_pos (h.mp e)]
  · rw [if_neg e, if_neg (fun q => e (h.mpr q))]
theorem zd_R (B : Nat) (s : State) (h : Zt B s) : va_Nw (.declares ⟨"java/lang/RuntimeException", "<init>", "(Ljava/lang/String;)V"⟩) s := h.2.2.2.2.2.2.2.2.2.2.2.2.2.1
theorem zd_E (B : Nat) (s : State) (h : Zt B s) : va_Nw (.declares ⟨"java/lang/Exception", "<init>", "(Ljava/lang/String;)V"⟩) s := h.2.2.2.2.2.2.2.2.2.2.2.2.2.2.1
theorem zd_T (B : Nat) (s : State) (h : Zt B s) : va_Nw (.declares ⟨"java/lang/Throwable", "<init>", "(Ljava/lang/String;)V"⟩) s := h.2.2.2.2.2.2.2.2.2.2.2.2.2.2.2
abbrev dlW : List Cond := [Cond.declares ⟨"java/lang/RuntimeException", "<init>", "(Ljava/lang/String;)V"⟩, Cond.declares ⟨"java/lang/Exception", "<init>", "(Ljava/lang/String;)V"⟩, Cond.declares ⟨"java/lang/Throwable", "<init>", "(Ljava/lang/String;)V"⟩]
theorem r_throwW {κ : Kp} {bc bs : Nat} {Q : Rs → Mem → Prop} {pc : Nat} {L : Ls} {st : List Value} {M : Mem} {k n : Nat} {cls text : String} (names : List String) {ik is ic : Nat} (hcls : Bundle.fit cls = true) (hnames : ∀ n ∈ names, Bundle.fit n = true)
    (hk9 : Cond.classLink (kY κ).cls ik cls ∈ lw_g) (hini : Cond.initialized cls ∈ lw_g) (hstr : ∀ (B : Nat) (s : State), Zt B s → ∃ sa, vk_R (kY κ).cls is text sa s) (hat : ∀ w ∈ (vx_atS (kY κ).cls ic cls names).filter goodWord, w ∈ lw_tbl) (hat2 : ∀ w ∈ (vx_atS (kY κ).cls ic cls names).filter (fun w => !goodWord w), w ∈ Cond.castable cls cls :: dlW)
    (hcast : ∀ (B : Nat) (s : State), Zt B s → va_Nw (.castable cls cls) s) (hgood : ∀ w ∈ Cond.classLink (kY κ).cls ik cls :: Cond.initialized cls :: vx_atS (kY κ).cls ic cls names, vx_ot w = true)
    (d0 : Dc κ pc (.new ik) 3) (d3 : Dc κ (pc + 3) .dup 1) (d4 : Dc κ (pc + 4) (.ldc_w is) 3) (d7 : Dc κ (pc + 7) (.invokespecial ic) 3) (d10 : Dc κ (pc + 10) .athrow 1) (hH : kH κ = []) (hF : names.length + 3 < kF κ) (hV : (st.map fun v => v.category).sum + (13 * (names.length + 1) + 43) ≤ kV κ) (hk : k + 1 ≤ bc) (hn : n + 6 ≤ bs) (hQ : Q (.inr cls) M) : J κ bc bs Q pc L st M k n := by
  intro p l e s m args below meth c H locs ls D B hc hB hZ hW hS hL
  obtain ⟨hx, hb, hr, hml, hown, hts, hlo, htab, hfl, hnm⟩ := id hc
  obtain ⟨sa, hsa⟩ := hstr B s hZ
  refine vx_throwSW (A := fun q => B ≤ q) (names := names) hx hb hfl hown hcls hnames (hts _ hk9) (hts _ hini) hsa (vx_hat (fun w hw => hts w (List.mem_filter.mpr ⟨hat w hw, (List.mem_filter.mp hw).2⟩)) hat2 (vx_c (va_Nw.use rfl (hcast B s hZ)) (vx_c (va_Nw.use rfl (zd_R B s hZ)) (vx_c (va_Nw.use rfl (zd_E B s hZ)) (vx_c (va_Nw.use rfl (zd_T B s hZ)) vx_n))))) hgood hZ.1 hZ.2.1 hS (by rw [hml]; exact hL.1) d0 d3 d4 d7 d10 (fun x hx9 => ?_) hF hV hk hn hlo (fun t ha hz hq => ⟨M, hQ, ?_, ?_⟩) hS.2.2 hk hn
  · rw [htab, hH] at hx9; cases hx9
  · obtain ⟨ws, tys, hP, hK, hD, hR⟩ := hW
    have hlt : ∀ (k : Nat) (q : Nat × va_E), ws[k]? = some q → q.1 < H.size := fun k q hk => (hP k q hk).lt
    exact ⟨ws, tys, hP.kept (fun k q hk => hq _ (hlt k q hk)), va_K.moved ha hK, hD, fun a x hx9 => (hR a x hx9).moved ha (fun q hq9 => hq q (Nat.lt_of_lt_of_le hq9 (Nat.le_trans hB hS.1)))⟩
  · exact ⟨Nat.le_trans hS.1 hz, fun q h1 h2 => (hq q (Nat.lt_of_lt_of_le h1 hS.1)).trans (hS.2.1 q h1 h2)⟩
theorem ft_names : ∀ n ∈ ["java/lang/RuntimeException", "java/lang/Exception"], Bundle.fit n = true := by decide +kernel
theorem ini_xI : Cond.initialized "java/lang/IndexOutOfBoundsException" ∈ lw_g := lw_gin 27 (by decide +kernel) (by decide +kernel)
theorem ini_xA : Cond.initialized "java/lang/IllegalArgumentException" ∈ lw_g := lw_gin 28 (by decide +kernel) (by decide +kernel)
theorem ini_xS : Cond.initialized "java/lang/IllegalStateException" ∈ lw_g := lw_gin 29 (by decide +kernel) (by decide +kernel)
theorem zs_268 : ∀ (B : Nat) (s : State), Zt B s → ∃ sa, vk_R "GapSets" 268 "no such set" sa s := fun _ _ h => h.2.2.2.2.2.2.1
theorem zs_273 : ∀ (B : Nat) (s : State), Zt B s → ∃ sa, vk_R "GapSets" 273 "no such setting" sa s := fun _ _ h => h.2.2.2.2.2.2.2.1
theorem zs_277 : ∀ (B : Nat) (s : State), Zt B s → ∃ sa, vk_R "GapSets" 277 "an argument is out of range" sa s := fun _ _ h => h.2.2.2.2.2.2.2.2.1
theorem zs_282 : ∀ (B : Nat) (s : State), Zt B s → ∃ sa, vk_R "GapSets" 282 "the state does not allow this" sa s := fun _ _ h => h.2.2.2.2.2.2.2.2.2.1
theorem zc_xI : ∀ (B : Nat) (s : State), Zt B s → va_Nw (.castable xI xI) s := fun _ _ h => h.2.2.2.2.2.2.2.2.2.2.1
theorem zc_xA : ∀ (B : Nat) (s : State), Zt B s → va_Nw (.castable xA xA) s := fun _ _ h => h.2.2.2.2.2.2.2.2.2.2.2.1
theorem zc_xS : ∀ (B : Nat) (s : State), Zt B s → va_Nw (.castable xS xS) s := fun _ _ h => h.2.2.2.2.2.2.2.2.2.2.2.2.1
theorem at1_xI_270 : ∀ w ∈ (vx_atS "GapSets" 270 xI ["java/lang/RuntimeException", "java/lang/Exception"]).filter goodWord, w ∈ lw_tbl := by decide +kernel
theorem at2_xI_270 : ∀ w ∈ (vx_atS "GapSets" 270 xI ["java/lang/RuntimeException", "java/lang/Exception"]).filter (fun w => !goodWord w), w ∈ Cond.castable xI xI :: dlW := by decide +kernel
theorem at3_xI_270 : ∀ w ∈ vx_atS "GapSets" 270 xI ["java/lang/RuntimeException", "java/lang/Exception"], vx_ot w = true := by decide +kernel
theorem at4_xI_270_266 : ∀ w ∈ Cond.classLink "GapSets" 266 xI :: Cond.initialized xI :: vx_atS "GapSets" 270 xI ["java/lang/RuntimeException", "java/lang/Exception"], vx_ot w = true := by decide +kernel
theorem ft_xI : Bundle.fit xI = true := by decide +kernel
theorem at1_xA_279 : ∀ w ∈ (vx_atS "GapSets" 279 xA ["java/lang/RuntimeException", "java/lang/Exception"]).filter goodWord, w ∈ lw_tbl := by decide +kernel
theorem at2_xA_279 : ∀ w ∈ (vx_atS "GapSets" 279 xA ["java/lang/RuntimeException", "java/lang/Exception"]).filter (fun w => !goodWord w), w ∈ Cond.castable xA xA :: dlW := by decide +kernel
theorem at3_xA_279 : ∀ w ∈ vx_atS "GapSets" 279 xA ["java/lang/RuntimeException", "java/lang/Exception"], vx_ot w = true := by decide +kernel
theorem at4_xA_279_275 : ∀ w ∈ Cond.classLink "GapSets" 275 xA :: Cond.initialized xA :: vx_atS "GapSets" 279 xA ["java/lang/RuntimeException", "java/lang/Exception"], vx_ot w = true := by decide +kernel
theorem ft_xA : Bundle.fit xA = true := by decide +kernel
theorem at1_xS_284 : ∀ w ∈ (vx_atS "GapSets" 284 xS ["java/lang/RuntimeException", "java/lang/Exception"]).filter goodWord, w ∈ lw_tbl := by decide +kernel
theorem at2_xS_284 : ∀ w ∈ (vx_atS "GapSets" 284 xS ["java/lang/RuntimeException", "java/lang/Exception"]).filter (fun w => !goodWord w), w ∈ Cond.castable xS xS :: dlW := by decide +kernel
theorem at3_xS_284 : ∀ w ∈ vx_atS "GapSets" 284 xS ["java/lang/RuntimeException", "java/lang/Exception"], vx_ot w = true := by decide +kernel
theorem at4_xS_284_280 : ∀ w ∈ Cond.classLink "GapSets" 280 xS :: Cond.initialized xS :: vx_atS "GapSets" 284 xS ["java/lang/RuntimeException", "java/lang/Exception"], vx_ot w = true := by decide +kernel
theorem ft_xS : Bundle.fit xS = true := by decide +kernel
set_option maxHeartbeats 4000000 in
theorem mX8_requireSet {M : Mem} {k : Int} (q0 : R32 k) : Ct KX8_requireSet [vI k] M 1 6 (UV (eSet k) M) := by
  refine Ct.of _ (by decide) rfl (Nat.le_of_ble_eq_true rfl) ?_
  refine r_iload_n dX8_requireSet_0 rfl ?_
  refine r_if_lt (tgt := 9) dX8_requireSet_1 (by decide) (by omega) (fun h1 => ?_) (fun h1 => ?_)
  ·
    refine r_throwW (cls := xI) (ik := 266) (is := 268) (ic := 270) ["java/lang/RuntimeException", "java/lang/Exception"] ft_xI ft_names cn_X8_266 ini_xI zs_268 at1_xI_270 at2_xI_270 zc_xI at4_xI_270_266 dX8_requireSet_9 dX8_requireSet_12 dX8_requireSet_13 dX8_requireSet_16 dX8_requireSet_19 rfl (by decide) (Nat.le_of_ble_eq_true rfl) (Nat.le_of_ble_eq_true rfl) (Nat.le_of_ble_eq_true rfl) ?_
    exact noUV (by unfold eSet; rw [if_neg (by omega)]) (by decide)
  ·
    refine r_iload_n dX8_requireSet_4 rfl ?_
    refine r_iconst dX8_requireSet_5 ?_
    refine r_icmp_lt (tgt := 20) dX8_requireSet_6 (by decide) (by omega) (by omega) (fun h6 => ?_) (fun h6 => ?_)
    ·
      refine e_return dX8_requireSet_20 rfl (Nat.le_of_ble_eq_true rfl) (Nat.le_of_ble_eq_true rfl) ?_
      exact okUV (by unfold eSet; rw [if_pos (by omega)])
    ·
      refine r_throwW (cls := xI) (ik := 266) (is := 268) (ic := 270) ["java/lang/RuntimeException", "java/lang/Exception"] ft_xI ft_names cn_X8_266 ini_xI zs_268 at1_xI_270 at2_xI_270 zc_xI at4_xI_270_266 dX8_requireSet_9 dX8_requireSet_12 dX8_requireSet_13 dX8_requireSet_16 dX8_requireSet_19 rfl (by decide) (Nat.le_of_ble_eq_true rfl) (Nat.le_of_ble_eq_true rfl) (Nat.le_of_ble_eq_true rfl) ?_
      exact noUV (by unfold eSet; rw [if_neg (by omega)]) (by decide)

set_option maxHeartbeats 4000000 in
theorem mX8_requireSet_ok {M : Mem} {k : Int} {bc bs : Nat} (q0 : 0 ≤ k ∧ k < 4) : Ct KX8_requireSet [vI k] M bc bs (rtV M) := by
  refine Ct.of _ (by decide) rfl (Nat.le_of_ble_eq_true rfl) ?_
  refine r_iload_n dX8_requireSet_0 rfl ?_
  refine r_if_lt (tgt := 9) dX8_requireSet_1 (by decide) (by omega) (fun h1 => ?_) (fun h1 => ?_)
  · omega
  ·
    refine r_iload_n dX8_requireSet_4 rfl ?_
    refine r_iconst dX8_requireSet_5 ?_
    refine r_icmp_lt (tgt := 20) dX8_requireSet_6 (by decide) (by omega) (by omega) (fun h6 => ?_) (fun h6 => ?_)
    ·
      refine e_return dX8_requireSet_20 rfl (by omega) (by omega) ?_
      exact okVv
    · omega

set_option maxHeartbeats 4000000 in
theorem mX8_requireSetting {M : Mem} {k : Int} (q0 : R32 k) : Ct KX8_requireSetting [vI k] M 1 6 (UV (eStg k) M) := by
  refine Ct.of _ (by decide) rfl (Nat.le_of_ble_eq_true rfl) ?_
  refine r_iload_n dX8_requireSetting_0 rfl ?_
  refine r_if_lt (tgt := 9) dX8_requireSetting_1 (by decide) (by omega) (fun h1 => ?_) (fun h1 => ?_)
  ·
    refine r_throwW (cls := xI) (ik := 266) (is := 273) (ic := 270) ["java/lang/RuntimeException", "java/lang/Exception"] ft_xI ft_names cn_X8_266 ini_xI zs_273 at1_xI_270 at2_xI_270 zc_xI at4_xI_270_266 dX8_requireSetting_9 dX8_requireSetting_12 dX8_requireSetting_13 dX8_requireSetting_16 dX8_requireSetting_19 rfl (by decide) (Nat.le_of_ble_eq_true rfl) (Nat.le_of_ble_eq_true rfl) (Nat.le_of_ble_eq_true rfl) ?_
    exact noUV (by unfold eStg; rw [if_neg (by omega)]) (by decide)
  ·
    refine r_iload_n dX8_requireSetting_4 rfl ?_
    refine r_iconst dX8_requireSetting_5 ?_
    refine r_icmp_lt (tgt := 20) dX8_requireSetting_6 (by decide) (by omega) (by omega) (fun h6 => ?_) (fun h6 => ?_)
    ·
      refine e_return dX8_requireSetting_20 rfl (Nat.le_of_ble_eq_true rfl) (Nat.le_of_ble_eq_true rfl) ?_
      exact okUV (by unfold eStg; rw [if_pos (by omega)])
    ·
      refine r_throwW (cls := xI) (ik := 266) (is := 273) (ic := 270) ["java/lang/RuntimeException", "java/lang/Exception"] ft_xI ft_names cn_X8_266 ini_xI zs_273 at1_xI_270 at2_xI_270 zc_xI at4_xI_270_266 dX8_requireSetting_9 dX8_requireSetting_12 dX8_requireSetting_13 dX8_requireSetting_16 dX8_requireSetting_19 rfl (by decide) (Nat.le_of_ble_eq_true rfl) (Nat.le_of_ble_eq_true rfl) (Nat.le_of_ble_eq_true rfl) ?_
      exact noUV (by unfold eStg; rw [if_neg (by omega)]) (by decide)

set_option maxHeartbeats 4000000 in
theorem mX8_requireSetting_ok {M : Mem} {k : Int} {bc bs : Nat} (q0 : 0 ≤ k ∧ k < 2) : Ct KX8_requireSetting [vI k] M bc bs (rtV M) := by
  refine Ct.of _ (by decide) rfl (Nat.le_of_ble_eq_true rfl) ?_
  refine r_iload_n dX8_requireSetting_0 rfl ?_
  refine r_if_lt (tgt := 9) dX8_requireSetting_1 (by decide) (by omega) (fun h1 => ?_) (fun h1 => ?_)
  · omega
  ·
    refine r_iload_n dX8_requireSetting_4 rfl ?_
    refine r_iconst dX8_requireSetting_5 ?_
    refine r_icmp_lt (tgt := 20) dX8_requireSetting_6 (by decide) (by omega) (by omega) (fun h6 => ?_) (fun h6 => ?_)
    ·
      refine e_return dX8_requireSetting_20 rfl (by omega) (by omega) ?_
      exact okVv
    · omega

set_option maxHeartbeats 4000000 in
theorem mX8_requireArgument {M : Mem} {b : Prop} [Decidable b] {z : Int} (hz : z = if b then 1 else 0) : Ct KX8_requireArgument [vI z] M 1 6 (UV (eB b xA) M) := by
  refine Ct.of _ (by decide) rfl (Nat.le_of_ble_eq_true rfl) ?_
  subst hz
  refine r_iload_n dX8_requireArgument_0 rfl ?_
  refine r_if_ne (tgt := 15) dX8_requireArgument_1 (by decide) (by split <;> omega) (fun h1 => ?_) (fun h1 => ?_)
  ·
    refine e_return dX8_requireArgument_15 rfl (Nat.le_of_ble_eq_true rfl) (Nat.le_of_ble_eq_true rfl) ?_
    have hb : b := by
      by_cases e : b
      · exact e
      · rw [if_neg e] at h1; omega
    exact okUV (by unfold eB; rw [if_pos hb])
  ·
    refine r_throwW (cls := xA) (ik := 275) (is := 277) (ic := 279) ["java/lang/RuntimeException", "java/lang/Exception"] ft_xA ft_names cn_X8_275 ini_xA zs_277 at1_xA_279 at2_xA_279 zc_xA at4_xA_279_275 dX8_requireArgument_4 dX8_requireArgument_7 dX8_requireArgument_8 dX8_requireArgument_11 dX8_requireArgument_14 rfl (by decide) (Nat.le_of_ble_eq_true rfl) (Nat.le_of_ble_eq_true rfl) (Nat.le_of_ble_eq_true rfl) ?_
    have hb : ¬ b := fun e => by rw [if_pos e] at h1; omega
    exact noUV (by unfold eB; rw [if_neg hb]) (by decide)

set_option maxHeartbeats 4000000 in
theorem mX8_requireArgument_ok {M : Mem} {z : Int} {bc bs : Nat} (hz : z = 1) : Ct KX8_requireArgument [vI z] M bc bs (rtV M) := by
  refine Ct.of _ (by decide) rfl (Nat.le_of_ble_eq_true rfl) ?_
  subst hz
  refine r_iload_n dX8_requireArgument_0 rfl ?_
  refine r_if_ne (tgt := 15) dX8_requireArgument_1 (by decide) (by omega) (fun h1 => ?_) (fun h1 => ?_)
  ·
    refine e_return dX8_requireArgument_15 rfl (by omega) (by omega) ?_
    exact okVv
  · omega

set_option maxHeartbeats 4000000 in
theorem mX8_requireState {M : Mem} {b : Prop} [Decidable b] {z : Int} (hz : z = if b then 1 else 0) : Ct KX8_requireState [vI z] M 1 6 (UV (eB b xS) M) := by
  refine Ct.of _ (by decide) rfl (Nat.le_of_ble_eq_true rfl) ?_
  subst hz
  refine r_iload_n dX8_requireState_0 rfl ?_
  refine r_if_ne (tgt := 15) dX8_requireState_1 (by decide) (by split <;> omega) (fun h1 => ?_) (fun h1 => ?_)
  ·
    refine e_return dX8_requireState_15 rfl (Nat.le_of_ble_eq_true rfl) (Nat.le_of_ble_eq_true rfl) ?_
    have hb : b := by
      by_cases e : b
      · exact e
      · rw [if_neg e] at h1; omega
    exact okUV (by unfold eB; rw [if_pos hb])
  ·
    refine r_throwW (cls := xS) (ik := 280) (is := 282) (ic := 284) ["java/lang/RuntimeException", "java/lang/Exception"] ft_xS ft_names cn_X8_280 ini_xS zs_282 at1_xS_284 at2_xS_284 zc_xS at4_xS_284_280 dX8_requireState_4 dX8_requireState_7 dX8_requireState_8 dX8_requireState_11 dX8_requireState_14 rfl (by decide) (Nat.le_of_ble_eq_true rfl) (Nat.le_of_ble_eq_true rfl) (Nat.le_of_ble_eq_true rfl) ?_
    have hb : ¬ b := fun e => by rw [if_pos e] at h1; omega
    exact noUV (by unfold eB; rw [if_neg hb]) (by decide)

set_option maxHeartbeats 4000000 in
theorem mX8_requireState_ok {M : Mem} {z : Int} {bc bs : Nat} (hz : z = 1) : Ct KX8_requireState [vI z] M bc bs (rtV M) := by
  refine Ct.of _ (by decide) rfl (Nat.le_of_ble_eq_true rfl) ?_
  subst hz
  refine r_iload_n dX8_requireState_0 rfl ?_
  refine r_if_ne (tgt := 15) dX8_requireState_1 (by decide) (by omega) (fun h1 => ?_) (fun h1 => ?_)
  ·
    refine e_return dX8_requireState_15 rfl (by omega) (by omega) ?_
    exact okVv
  · omega

set_option maxHeartbeats 4000000 in
theorem mX8_requireNumber {M : Mem} {x : Int} (q0 : R32 x) : Ct KX8_requireNumber [vI x] M 1 6 (UV (eB (0 ≤ x ∧ x ≤ 9999) xA) M) := by
  refine Ct.of _ (by decide) rfl (Nat.le_of_ble_eq_true rfl) ?_
  refine r_iload_n dX8_requireNumber_0 rfl ?_
  refine r_if_lt (tgt := 15) dX8_requireNumber_1 (by decide) (by omega) (fun h1 => ?_) (fun h1 => ?_)
  ·
    refine r_iconst dX8_requireNumber_15 ?_
    refine r_callS1 okX8_requireArgument ⟨by decide, by decide⟩ ml_X8_96 (mX8_requireArgument (b := 0 ≤ x ∧ x ≤ 9999) (by first | rw [if_pos (by omega)] | rw [if_neg (by omega)])) (Nat.le_of_ble_eq_true rfl) (Nat.le_of_ble_eq_true rfl) (Nat.le_of_ble_eq_true rfl) rfl dX8_requireNumber_16 (tUV (fun _ => rfl)) (kx_U ?_)
    intro hE
    refine e_return dX8_requireNumber_19 rfl (Nat.le_of_ble_eq_true rfl) (Nat.le_of_ble_eq_true rfl) ?_
    exact okUV hE
  ·
    refine r_iload_n dX8_requireNumber_4 rfl ?_
    refine r_sipush dX8_requireNumber_5 (by decide) ?_
    refine r_icmp_gt (tgt := 15) dX8_requireNumber_8 (by decide) (by omega) (by omega) (fun h8 => ?_) (fun h8 => ?_)
    ·
      refine r_iconst dX8_requireNumber_15 ?_
      refine r_callS1 okX8_requireArgument ⟨by decide, by decide⟩ ml_X8_96 (mX8_requireArgument (b := 0 ≤ x ∧ x ≤ 9999) (by first | rw [if_pos (by omega)] | rw [if_neg (by omega)])) (Nat.le_of_ble_eq_true rfl) (Nat.le_of_ble_eq_true rfl) (Nat.le_of_ble_eq_true rfl) rfl dX8_requireNumber_16 (tUV (fun _ => rfl)) (kx_U ?_)
      intro hE
      refine e_return dX8_requireNumber_19 rfl (Nat.le_of_ble_eq_true rfl) (Nat.le_of_ble_eq_true rfl) ?_
      exact okUV hE
    ·
      refine r_iconst dX8_requireNumber_11 ?_
      refine r_goto (tgt := 16) dX8_requireNumber_12 (by decide) ?_
      refine r_callS1 okX8_requireArgument ⟨by decide, by decide⟩ ml_X8_96 (mX8_requireArgument (b := 0 ≤ x ∧ x ≤ 9999) (by first | rw [if_pos (by omega)] | rw [if_neg (by omega)])) (Nat.le_of_ble_eq_true rfl) (Nat.le_of_ble_eq_true rfl) (Nat.le_of_ble_eq_true rfl) rfl dX8_requireNumber_16 (tUV (fun _ => rfl)) (kx_U ?_)
      intro hE
      refine e_return dX8_requireNumber_19 rfl (Nat.le_of_ble_eq_true rfl) (Nat.le_of_ble_eq_true rfl) ?_
      exact okUV hE

set_option maxHeartbeats 4000000 in
theorem mX8_requireNumber_ok {M : Mem} {x : Int} {bc bs : Nat} (q0 : 0 ≤ x ∧ x ≤ 9999) : Ct KX8_requireNumber [vI x] M bc bs (rtV M) := by
  refine Ct.of _ (by decide) rfl (Nat.le_of_ble_eq_true rfl) ?_
  refine r_iload_n dX8_requireNumber_0 rfl ?_
  refine r_if_lt (tgt := 15) dX8_requireNumber_1 (by decide) (by omega) (fun h1 => ?_) (fun h1 => ?_)
  · omega
  ·
    refine r_iload_n dX8_requireNumber_4 rfl ?_
    refine r_sipush dX8_requireNumber_5 (by decide) ?_
    refine r_icmp_gt (tgt := 15) dX8_requireNumber_8 (by decide) (by omega) (by omega) (fun h8 => ?_) (fun h8 => ?_)
    · omega
    ·
      refine r_iconst dX8_requireNumber_11 ?_
      refine r_goto (tgt := 16) dX8_requireNumber_12 (by decide) ?_
      refine r_callS1 okX8_requireArgument ⟨by decide, by decide⟩ ml_X8_96 (mX8_requireArgument_ok (bc := 0) (bs := 0) (by omega)) (Nat.le_of_ble_eq_true rfl) (by omega) (by omega) rfl dX8_requireNumber_16 (nx_V) (kx_V ?_)
      refine e_return dX8_requireNumber_19 rfl (by omega) (by omega) ?_
      exact okVv

set_option maxHeartbeats 4000000 in
theorem mX8_isMost {M : Mem} {x : Int} {bc bs : Nat} (q0 : R32 x) : Ct KX8_isMost [vI x] M bc bs (rtI (if 2 ≤ x ∧ x ≤ 16 then 1 else 0) M) := by
  refine Ct.of _ (by decide) rfl (Nat.le_of_ble_eq_true rfl) ?_
  refine r_iload_n dX8_isMost_0 rfl ?_
  refine r_iconst dX8_isMost_1 ?_
  refine r_icmp_lt (tgt := 15) dX8_isMost_2 (by decide) (by omega) (by omega) (fun h2 => ?_) (fun h2 => ?_)
  ·
    refine r_iconst dX8_isMost_15 ?_
    refine e_zreturn dX8_isMost_16 rfl (by omega) (by omega) (by omega) ?_
    first | exact okI (by rw [if_pos (by omega)]) | exact okI (by rw [if_neg (by omega)])
  ·
    refine r_iload_n dX8_isMost_5 rfl ?_
    refine r_bipush dX8_isMost_6 (by decide) ?_
    refine r_icmp_gt (tgt := 15) dX8_isMost_8 (by decide) (by omega) (by omega) (fun h8 => ?_) (fun h8 => ?_)
    ·
      refine r_iconst dX8_isMost_15 ?_
      refine e_zreturn dX8_isMost_16 rfl (by omega) (by omega) (by omega) ?_
      first | exact okI (by rw [if_pos (by omega)]) | exact okI (by rw [if_neg (by omega)])
    ·
      refine r_iconst dX8_isMost_11 ?_
      refine r_goto (tgt := 16) dX8_isMost_12 (by decide) ?_
      refine e_zreturn dX8_isMost_16 rfl (by omega) (by omega) (by omega) ?_
      first | exact okI (by rw [if_pos (by omega)]) | exact okI (by rw [if_neg (by omega)])

set_option maxHeartbeats 4000000 in
theorem mX8_isWidth {M : Mem} {x : Int} {bc bs : Nat} (q0 : R32 x) : Ct KX8_isWidth [vI x] M bc bs (rtI (if 1 ≤ x ∧ x ≤ 9999 then 1 else 0) M) := by
  refine Ct.of _ (by decide) rfl (Nat.le_of_ble_eq_true rfl) ?_
  refine r_iload_n dX8_isWidth_0 rfl ?_
  refine r_iconst dX8_isWidth_1 ?_
  refine r_icmp_lt (tgt := 16) dX8_isWidth_2 (by decide) (by omega) (by omega) (fun h2 => ?_) (fun h2 => ?_)
  ·
    refine r_iconst dX8_isWidth_16 ?_
    refine e_zreturn dX8_isWidth_17 rfl (by omega) (by omega) (by omega) ?_
    first | exact okI (by rw [if_pos (by omega)]) | exact okI (by rw [if_neg (by omega)])
  ·
    refine r_iload_n dX8_isWidth_5 rfl ?_
    refine r_sipush dX8_isWidth_6 (by decide) ?_
    refine r_icmp_gt (tgt := 16) dX8_isWidth_9 (by decide) (by omega) (by omega) (fun h9 => ?_) (fun h9 => ?_)
    ·
      refine r_iconst dX8_isWidth_16 ?_
      refine e_zreturn dX8_isWidth_17 rfl (by omega) (by omega) (by omega) ?_
      first | exact okI (by rw [if_pos (by omega)]) | exact okI (by rw [if_neg (by omega)])
    ·
      refine r_iconst dX8_isWidth_12 ?_
      refine r_goto (tgt := 17) dX8_isWidth_13 (by decide) ?_
      refine e_zreturn dX8_isWidth_17 rfl (by omega) (by omega) (by omega) ?_
      first | exact okI (by rw [if_pos (by omega)]) | exact okI (by rw [if_neg (by omega)])
