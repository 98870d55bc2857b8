/-! J: rows for the law's own methods -/
theorem r_callS6 {κ : Kp} {bc bs : Nat} {Q : Rs → Mem → Prop} {pc : Nat} {L : Ls} {st : List Value} {M : Mem} {k n : Nat} {κ' : Kp} {ix bc' bs' : Nat} {Q' : Rs → Mem → Prop} {a1 a2 a3 a4 a5 a6 : Value}  (ok : OkS κ' 6) (hfit : Fit κ κ') (hlk : Cond.methodLink (kY κ).cls ix (kY κ') ∈ lw_g) (hct : Ct κ' [a1, a2, a3, a4, a5, a6] M bc' bs' Q') (hst : (st.map fun v => v.category).sum ≤ 8) (hbk : k + bc' ≤ bc) (hbn : n + bs' ≤ bs) (hH : kH κ = []) (d : Dc κ pc (.invokestatic ix) 3) (hthr : ∀ (E : String) (M' : Mem), Q' (.inr E) M' → Q (.inr E) M') (kk : ∀ (v : Option Value) (M' : Mem), Q' (.inl v) M' → J κ bc bs Q (pc + 3) L (v.toList ++ st) M' (k + bc') (n + bs')) : J κ bc bs Q (pc) L (a6 :: a5 :: a4 :: a3 :: a2 :: a1 :: st) M (k) (n) := by
  intro p l e s m args below meth c H locs ls D B hc hB hZ hW hS hL
  obtain ⟨hx, hb, hr, hml, hown, hts, hlo, htab, hfl, hnm⟩ := id hc
  refine qcall (vx_runS (As := [a1, a2, a3, a4, a5, a6]) (rest := st) ⟨hx, hb, hml, hown, hts⟩ (hct l D B hfl) ⟨Ok.callB ok.1 ok.2.1 hts hlk hfit, hts _ ok.2.2⟩ ⟨Pic.blind, Pic.at hB hZ hW hS⟩ rfl rfl hL.1 rfl (lv_room hst) d ⟨hbk, hbn⟩) hS (fun E ce q9 M' H1 locs1 hq hw hS1 hce hcv hcl => qthrow hH htab hlo (hthr E M' hq) hw hS1 hce hcv hcl hbk hbn) (fun v M' H1 locs1 hq hw hS1 => ?_)
  exact kk v M' hq p l e s m args below meth c H1 locs1 ls D B hc hB hZ hw hS1 hL

theorem ushr1_r (x : Int) : 0 ≤ (((iN x).toUInt32 >>> ((iN 1).toUInt32 &&& Int32.toUInt32 31)).toInt32).toInt ∧ (((iN x).toUInt32 >>> ((iN 1).toUInt32 &&& Int32.toUInt32 31)).toInt32).toInt ≤ 2147483647 := by
  have h := pk_ushr (iN x) (iN 1) 1 (by decide +kernel)
  have h1 := (iN x).toBitVec.isLt
  have h2 : (((iN x).toUInt32 >>> ((iN 1).toUInt32 &&& Int32.toUInt32 31)).toInt32).toInt = (((iN x).toUInt32 >>> ((iN 1).toUInt32 &&& Int32.toUInt32 31)).toInt32).toBitVec.toInt := rfl
  rw [h2, BitVec.toInt_eq_toNat_of_lt (by rw [h]; omega), h]
  omega
theorem r_iushr1 {κ : Kp} {bc bs : Nat} {Q : Rs → Mem → Prop} {pc : Nat} {L : Ls} {st : List Value} {M : Mem} {k n : Nat} {x : Int} (d : Dc κ pc .iushr 1) (kk : ∀ z : Int, 0 ≤ z → z ≤ 2147483647 → J κ bc bs Q (pc + 1) L (vI z :: st) M (k) (n)) : J κ bc bs Q (pc) L (vI 1 :: vI x :: st) M (k) (n) := by
  intro p l e s m args below meth c H locs ls D B hc hB hZ hW hS hL
  obtain ⟨hx, hb, hr, hml, hown, hts, hlo, htab, hfl, hnm⟩ := id hc
  refine lv_iushr (x := iN x) (y := iN 1) (v := ((iN x).toUInt32 >>> ((iN 1).toUInt32 &&& Int32.toUInt32 31)).toInt32) hx hb d rfl ?_
  rw [iN_of (((iN x).toUInt32 >>> ((iN 1).toUInt32 &&& Int32.toUInt32 31)).toInt32)]
  exact kk _ (ushr1_r x).1 (ushr1_r x).2 p l e s m args below meth c H locs ls D B hc hB hZ hW hS hL

theorem r_ishr {κ : Kp} {bc bs : Nat} {Q : Rs → Mem → Prop} {pc : Nat} {L : Ls} {st : List Value} {M : Mem} {k n : Nat} {x y : Int} (d : Dc κ pc .ishr 1) (kk : ∀ z : Int, R32 z → J κ bc bs Q (pc + 1) L (vI z :: st) M (k) (n)) : J κ bc bs Q (pc) L (vI y :: vI x :: st) M (k) (n) := by
  intro p l e s m args below meth c H locs ls D B hc hB hZ hW hS hL
  obtain ⟨hx, hb, hr, hml, hown, hts, hlo, htab, hfl, hnm⟩ := id hc
  refine lv_ishr (x := iN x) (y := iN y) hx hb d ?_
  rw [iN_of (iN x >>> (iN y &&& 31))]
  exact kk _ (r32_of _) p l e s m args below meth c H locs ls D B hc hB hZ hW hS hL

theorem r_ldcI {κ : Kp} {bc bs : Nat} {Q : Rs → Mem → Prop} {pc : Nat} {L : Ls} {st : List Value} {M : Mem} {k n : Nat} {ix : Nat} {v : Int32} (d : Dc κ pc (.ldc ix) 2) (h : Cond.constant (kY κ).cls ix v ∈ lw_g) (kk : J κ bc bs Q (pc + 2) L (vI v.toInt :: st) M (k) (n)) : J κ bc bs Q (pc) L (st) M (k) (n) := by
  intro p l e s m args below meth c H locs ls D B hc hB hZ hW hS hL
  obtain ⟨hx, hb, hr, hml, hown, hts, hlo, htab, hfl, hnm⟩ := id hc
  refine lv_ldc (v := v) hx hb hown (hts _ h) d ?_
  have h9 := kk p l e s m args below meth c H locs ls D B hc hB hZ hW hS hL
  rw [show vI v.toInt = Value.int v from congrArg Value.int (iN_of v).symm] at h9
  exact h9

theorem r_dup_x2 {κ : Kp} {bc bs : Nat} {Q : Rs → Mem → Prop} {pc : Nat} {L : Ls} {st : List Value} {M : Mem} {k n : Nat} {a : Nat} {x y : Int} (d : Dc κ pc (.dup_x2) 1) (kk : J κ bc bs Q (pc + 1) L (vI x :: vI y :: .ref a :: vI x :: st) M (k) (n)) : J κ bc bs Q (pc) L (vI x :: vI y :: .ref a :: st) M (k) (n) := by
  intro p l e s m args below meth c H locs ls D B hc hB hZ hW hS hL
  obtain ⟨hx, hb, hr, hml, hown, hts, hlo, htab, hfl, hnm⟩ := id hc
  refine lv_dup_x2 hx hb d rfl rfl rfl ?_
  exact kk p l e s m args below meth c H locs ls D B hc hB hZ hW hS hL

theorem r_icmpEq {κ : Kp} {bc bs : Nat} {Q : Rs → Mem → Prop} {pc : Nat} {L : Ls} {st : List Value} {M : Mem} {k n : Nat} {x : Int} {off : Int} {tgt : Nat} (d : Dc κ pc (.if_icmp .eq off) 3) (ht : (pc : Int) + off = (tgt : Int)) (kt : J κ bc bs Q tgt L st M k n) : J κ bc bs Q pc L (vI x :: vI x :: st) M k n := by
  intro p l e s m args below meth c H locs ls D B hc hB hZ hW hS hL
  obtain ⟨hx, hb, hr, hml, hown, hts, hlo, htab, hfl, hnm⟩ := id hc
  exact lv_icmp_eq (x := iN x) (y := iN x) hx hb d ht (fun _ => kt p l e s m args below meth c H locs ls D B hc hB hZ hW hS hL) (fun h => absurd rfl h)
theorem r_icmpNe {κ : Kp} {bc bs : Nat} {Q : Rs → Mem → Prop} {pc : Nat} {L : Ls} {st : List Value} {M : Mem} {k n : Nat} {x : Int} {off : Int} {tgt : Nat} (d : Dc κ pc (.if_icmp .ne off) 3) (ht : (pc : Int) + off = (tgt : Int)) (kk : J κ bc bs Q (pc + 3) L st M k n) : J κ bc bs Q pc L (vI x :: vI x :: st) M k n := by
  intro p l e s m args below meth c H locs ls D B hc hB hZ hW hS hL
  obtain ⟨hx, hb, hr, hml, hown, hts, hlo, htab, hfl, hnm⟩ := id hc
  exact lv_icmp_ne (x := iN x) (y := iN x) hx hb d ht (fun h => absurd rfl h) (fun _ => kk p l e s m args below meth c H locs ls D B hc hB hZ hW hS hL)
/-- some number from 0 to below n; any int -/
def atR (n : Int) (M : Mem) : Rs → Mem → Prop := fun r M' => (∃ z : Int, 0 ≤ z ∧ z < n ∧ r = .inl (some (vI z))) ∧ M' = M
def atZ (M : Mem) : Rs → Mem → Prop := fun r M' => (∃ z : Int, R32 z ∧ r = .inl (some (vI z))) ∧ M' = M
section KR
variable {κ : Kp} {bc bs : Nat} {Q : Rs → Mem → Prop} {pc : Nat} {L : Ls} {st : List Value} {M M' : Mem} {k n : Nat}
theorem kx_R {N : Int} (j : ∀ z : Int, 0 ≤ z ∧ z < N → J κ bc bs Q pc L (vI z :: st) M' k n) : ∀ (v : Option Value) (M2 : Mem), atR N M' (.inl v) M2 → J κ bc bs Q pc L (v.toList ++ st) M2 k n := by
  rintro v M2 ⟨⟨z, h0, h1, h⟩, rfl⟩; cases h; exact j z ⟨h0, h1⟩
theorem kx_Z (j : ∀ z : Int, R32 z → J κ bc bs Q pc L (vI z :: st) M' k n) : ∀ (v : Option Value) (M2 : Mem), atZ M' (.inl v) M2 → J κ bc bs Q pc L (v.toList ++ st) M2 k n := by
  rintro v M2 ⟨⟨z, h0, h⟩, rfl⟩; cases h; exact j z h0
end KR
theorem nx_R {N : Int} {M' : Mem} {Q : Rs → Mem → Prop} : ∀ (E : String) (M2 : Mem), atR N M' (.inr E) M2 → Q (.inr E) M2 := fun _ _ h => by obtain ⟨⟨z, -, -, h⟩, -⟩ := h; exact nomatch h
theorem nx_Z {M' : Mem} {Q : Rs → Mem → Prop} : ∀ (E : String) (M2 : Mem), atZ M' (.inr E) M2 → Q (.inr E) M2 := fun _ _ h => by obtain ⟨⟨z, -, h⟩, -⟩ := h; exact nomatch h
theorem UX.ok {E : String} {z : Int} {P : Mem → Prop} {M M' : Mem} {r : Rs} (hE : E = "") (h : UX E z P M r M') : atI z P r M' := by
  unfold UX at h
  rw [if_pos hE] at h
  exact h
theorem UY.ok {E : String} {z : Int} {P P0 : Mem → Prop} {M' : Mem} {r : Rs} (hE : E = "") (h : UY E z P P0 r M') : atI z P r M' := by
  unfold UY at h
  rw [if_pos hE] at h
  exact h

theorem kc_L_7 : Cond.constant "GapSetsLaw" 7 1261116831 ∈ lw_g := lw_gin 231 (by decide +kernel) (by decide +kernel)
