/-! rows over locals behind a number of two words; numbers with a point; bits -/
/-- no value of two words that is known is cut by a store at i -/
def okT (L : Ls) (i : Nat) : Bool := match i with
  | 0 => true
  | j + 1 => match lk L j with
    | some w => w.category == 1
    | none => true
theorem Lc.st1t {ls ls' : Array Slot} {nL : Nat} {L : Ls} {i : Nat} {v : Value} (h : Lc ls nL L) (ho : okT L i = true) (h' : lv_has ls' nL ((i, v) :: (prs L nL).filter (fun q => !(q.1 == i) && !(q.1 + 1 == i && q.2.category == 2)))) : Lc ls' nL ((i, some v) :: L) := by
  refine ⟨h'.1, h'.2.1, fun j w hj => ?_⟩
  rw [lk_cons] at hj
  by_cases e : j = i
  · rw [if_pos e] at hj
    cases hj
    rw [e]
    exact h'.2.2 (i, v) List.mem_cons_self
  · rw [if_neg e] at hj
    refine h'.2.2 (j, w) (List.mem_cons_of_mem _ (List.mem_filter.mpr ⟨prs_mem.mpr ⟨h.lt hj, hj⟩, ?_⟩))
    cases i with
    | zero => simp [e]
    | succ i0 =>
      by_cases e2 : j = i0
      · subst e2
        have h9 : okT L (j + 1) = true := ho
        unfold okT at h9
        simp only [hj] at h9
        have h8 : w.category = 1 := by simpa using h9
        simp [h8]
      · have h7 : ¬ j + 1 = i0 + 1 := by omega
        simp [e, e2]
theorem Lc.st2t {ls ls' : Array Slot} {nL : Nat} {L : Ls} {i : Nat} {v : Value} (h : Lc ls nL L) (ho : okT L i = true) (h' : lv_has ls' nL ((i, v) :: (prs L nL).filter (fun q => !(q.1 == i) && (!(q.1 == i + 1) && !(q.1 + 1 == i && q.2.category == 2))))) : Lc ls' nL ((i, some v) :: (i + 1, none) :: L) := by
  refine ⟨h'.1, h'.2.1, fun j w hj => ?_⟩
  rw [lk_cons] at hj
  by_cases e : j = i
  · rw [if_pos e] at hj
    cases hj
    rw [e]
    exact h'.2.2 (i, v) List.mem_cons_self
  · rw [if_neg e, lk_cons] at hj
    by_cases e1 : j = i + 1
    · rw [if_pos e1] at hj; cases hj
    · rw [if_neg e1] at hj
      refine h'.2.2 (j, w) (List.mem_cons_of_mem _ (List.mem_filter.mpr ⟨prs_mem.mpr ⟨h.lt hj, hj⟩, ?_⟩))
      cases i with
      | zero => simp [e, e1]
      | succ i0 =>
        by_cases e2 : j = i0
        · subst e2
          have h9 : okT L (j + 1) = true := ho
          unfold okT at h9
          simp only [hj] at h9
          have h8 : w.category = 1 := by simpa using h9
          simp [h8]
          omega
        · have h7 : ¬ j + 1 = i0 + 1 := by omega
          simp [e, e1, e2]
theorem r_istoreT {κ : Kp} {bc bs : Nat} {Q : Rs → Mem → Prop} {pc : Nat} {L : Ls} {st : List Value} {M : Mem} {k n : Nat} {x : Int} {i : Nat} (d : Dc κ pc (.istore i) 2) (hi : (i : Nat) < kL κ) (ho : okT L i = true) (kk : J κ bc bs Q (pc + 2) ((i, some (vI x)) :: L) (st) M k n) : J κ bc bs Q (pc) L (vI x :: st) M k n := by
  intro p l e s m args below meth c H locs ls D B hc hB hZ hW hS hL
  obtain ⟨hx, hb, hr, hml, hown, hts, hlo, htab, hfl, hnm⟩ := id hc
  refine lv_istore (x := iN x) (lv := prs L (kL κ)) hx hb d hL.has hi rfl ?_
  intro ls' h'
  exact kk p l e s m args below meth c H locs ls' D B hc hB hZ hW hS (Lc.st1t hL ho h')
theorem r_istore_nT {κ : Kp} {bc bs : Nat} {Q : Rs → Mem → Prop} {pc : Nat} {L : Ls} {st : List Value} {M : Mem} {k n : Nat} {x : Int} {i : Fin 4} (d : Dc κ pc (.istore_n i) 1) (hi : (i : Nat) < kL κ) (ho : okT L i = true) (kk : J κ bc bs Q (pc + 1) (((i : Nat), some (vI x)) :: L) (st) M k n) : J κ bc bs Q (pc) L (vI x :: st) M k n := by
  intro p l e s m args below meth c H locs ls D B hc hB hZ hW hS hL
  obtain ⟨hx, hb, hr, hml, hown, hts, hlo, htab, hfl, hnm⟩ := id hc
  refine lv_istore_n (x := iN x) (i := (i : Nat)) (lv := prs L (kL κ)) hx hb d rfl hL.has hi rfl ?_
  intro ls' h'
  exact kk p l e s m args below meth c H locs ls' D B hc hB hZ hW hS (Lc.st1t hL ho h')
theorem r_astoreT {κ : Kp} {bc bs : Nat} {Q : Rs → Mem → Prop} {pc : Nat} {L : Ls} {st : List Value} {M : Mem} {k n : Nat} {x : Nat} {i : Nat} (d : Dc κ pc (.astore i) 2) (hi : (i : Nat) < kL κ) (ho : okT L i = true) (kk : J κ bc bs Q (pc + 2) ((i, some (.ref x)) :: L) (st) M k n) : J κ bc bs Q (pc) L (.ref x :: st) M k n := by
  intro p l e s m args below meth c H locs ls D B hc hB hZ hW hS hL
  obtain ⟨hx, hb, hr, hml, hown, hts, hlo, htab, hfl, hnm⟩ := id hc
  refine lv_astore  (lv := prs L (kL κ)) hx hb d hL.has hi rfl ?_
  intro ls' h'
  exact kk p l e s m args below meth c H locs ls' D B hc hB hZ hW hS (Lc.st1t hL ho h')
theorem r_astore_nT {κ : Kp} {bc bs : Nat} {Q : Rs → Mem → Prop} {pc : Nat} {L : Ls} {st : List Value} {M : Mem} {k n : Nat} {x : Nat} {i : Fin 4} (d : Dc κ pc (.astore_n i) 1) (hi : (i : Nat) < kL κ) (ho : okT L i = true) (kk : J κ bc bs Q (pc + 1) (((i : Nat), some (.ref x)) :: L) (st) M k n) : J κ bc bs Q (pc) L (.ref x :: st) M k n := by
  intro p l e s m args below meth c H locs ls D B hc hB hZ hW hS hL
  obtain ⟨hx, hb, hr, hml, hown, hts, hlo, htab, hfl, hnm⟩ := id hc
  refine lv_astore_n  (i := (i : Nat)) (lv := prs L (kL κ)) hx hb d rfl hL.has hi rfl ?_
  intro ls' h'
  exact kk p l e s m args below meth c H locs ls' D B hc hB hZ hW hS (Lc.st1t hL ho h')
theorem r_lstoreT {κ : Kp} {bc bs : Nat} {Q : Rs → Mem → Prop} {pc : Nat} {L : Ls} {st : List Value} {M : Mem} {k n : Nat} {x : Int64} {i : Nat} (d : Dc κ pc (.lstore i) 2) (hi : (i : Nat) + 1 < kL κ) (ho : okT L i = true) (kk : J κ bc bs Q (pc + 2) ((i, some (.long x)) :: (i + 1, none) :: L) (st) M k n) : J κ bc bs Q (pc) L (.long x :: st) M k n := by
  intro p l e s m args below meth c H locs ls D B hc hB hZ hW hS hL
  obtain ⟨hx, hb, hr, hml, hown, hts, hlo, htab, hfl, hnm⟩ := id hc
  refine lv_lstore  (lv := prs L (kL κ)) hx hb d hL.has hi rfl ?_
  intro ls' h'
  exact kk p l e s m args below meth c H locs ls' D B hc hB hZ hW hS (Lc.st2t hL ho h')
theorem r_lstore_nT {κ : Kp} {bc bs : Nat} {Q : Rs → Mem → Prop} {pc : Nat} {L : Ls} {st : List Value} {M : Mem} {k n : Nat} {x : Int64} {i : Fin 4} (d : Dc κ pc (.lstore_n i) 1) (hi : (i : Nat) + 1 < kL κ) (ho : okT L i = true) (kk : J κ bc bs Q (pc + 1) (((i : Nat), some (.long x)) :: ((i : Nat) + 1, none) :: L) (st) M k n) : J κ bc bs Q (pc) L (.long x :: st) M k n := by
  intro p l e s m args below meth c H locs ls D B hc hB hZ hW hS hL
  obtain ⟨hx, hb, hr, hml, hown, hts, hlo, htab, hfl, hnm⟩ := id hc
  refine lv_lstore_n  (i := (i : Nat)) (lv := prs L (kL κ)) hx hb d rfl hL.has hi rfl ?_
  intro ls' h'
  exact kk p l e s m args below meth c H locs ls' D B hc hB hZ hW hS (Lc.st2t hL ho h')
theorem r_dstoreT {κ : Kp} {bc bs : Nat} {Q : Rs → Mem → Prop} {pc : Nat} {L : Ls} {st : List Value} {M : Mem} {k n : Nat} {x : UInt64} {i : Nat} (d : Dc κ pc (.dstore i) 2) (hi : (i : Nat) + 1 < kL κ) (ho : okT L i = true) (kk : J κ bc bs Q (pc + 2) ((i, some (.double x)) :: (i + 1, none) :: L) (st) M k n) : J κ bc bs Q (pc) L (.double x :: st) M k n := by
  intro p l e s m args below meth c H locs ls D B hc hB hZ hW hS hL
  obtain ⟨hx, hb, hr, hml, hown, hts, hlo, htab, hfl, hnm⟩ := id hc
  refine lv_dstore  (lv := prs L (kL κ)) hx hb d hL.has hi rfl ?_
  intro ls' h'
  exact kk p l e s m args below meth c H locs ls' D B hc hB hZ hW hS (Lc.st2t hL ho h')
theorem r_dstore_nT {κ : Kp} {bc bs : Nat} {Q : Rs → Mem → Prop} {pc : Nat} {L : Ls} {st : List Value} {M : Mem} {k n : Nat} {x : UInt64} {i : Fin 4} (d : Dc κ pc (.dstore_n i) 1) (hi : (i : Nat) + 1 < kL κ) (ho : okT L i = true) (kk : J κ bc bs Q (pc + 1) (((i : Nat), some (.double x)) :: ((i : Nat) + 1, none) :: L) (st) M k n) : J κ bc bs Q (pc) L (.double x :: st) M k n := by
  intro p l e s m args below meth c H locs ls D B hc hB hZ hW hS hL
  obtain ⟨hx, hb, hr, hml, hown, hts, hlo, htab, hfl, hnm⟩ := id hc
  refine lv_dstore_n  (i := (i : Nat)) (lv := prs L (kL κ)) hx hb d rfl hL.has hi rfl ?_
  intro ls' h'
  exact kk p l e s m args below meth c H locs ls' D B hc hB hZ hW hS (Lc.st2t hL ho h')
theorem r_iincT {κ : Kp} {bc bs : Nat} {Q : Rs → Mem → Prop} {pc : Nat} {L : Ls} {st : List Value} {M : Mem} {k n : Nat} {i : Nat} {z x : Int} (d : Dc κ pc (.iinc i z) 3) (h : lk L i = some (vI x)) (ho : okT L i = true) (kk : J κ bc bs Q (pc + 3) ((i, some (vI (x + z))) :: L) (st) M k n) : J κ bc bs Q (pc) L (st) M k n := by
  intro p l e s m args below meth c H locs ls D B hc hB hZ hW hS hL
  obtain ⟨hx, hb, hr, hml, hown, hts, hlo, htab, hfl, hnm⟩ := id hc
  have hm : (i, vI x) ∈ prs L (kL κ) := prs_mem.mpr ⟨hL.lt h, h⟩
  obtain ⟨k9, hk9⟩ := List.getElem?_of_mem hm
  refine lv_iinc (x := iN x) (v := iN (x + z)) (lv := prs L (kL κ)) hx hb d hL.has hk9 (iN_add x z) (hL.lt h) rfl ?_
  intro ls' h'
  exact kk p l e s m args below meth c H locs ls' D B hc hB hZ hW hS (Lc.st1t hL ho h')
theorem r_dconst1 {κ : Kp} {bc bs : Nat} {Q : Rs → Mem → Prop} {pc : Nat} {L : Ls} {st : List Value} {M : Mem} {k n : Nat} (d : Dc κ pc (.dconst 1) 1) (kk : J κ bc bs Q (pc + 1) L (.double 0x3ff0000000000000 :: st) M k n) : J κ bc bs Q pc L st M k n := by
  intro p l e s m args below meth c H locs ls D B hc hB hZ hW hS hL
  obtain ⟨hx, hb, hr, hml, hown, hts, hlo, htab, hfl, hnm⟩ := id hc
  refine lv_dconst1 hx hb d ?_
  exact kk p l e s m args below meth c H locs ls D B hc hB hZ hW hS hL

theorem r_lconst1 {κ : Kp} {bc bs : Nat} {Q : Rs → Mem → Prop} {pc : Nat} {L : Ls} {st : List Value} {M : Mem} {k n : Nat} (d : Dc κ pc (.lconst 1) 1) (kk : J κ bc bs Q (pc + 1) L (.long 1 :: st) M k n) : J κ bc bs Q pc L st M k n := by
  intro p l e s m args below meth c H locs ls D B hc hB hZ hW hS hL
  obtain ⟨hx, hb, hr, hml, hown, hts, hlo, htab, hfl, hnm⟩ := id hc
  refine lv_lconst (v := 1) hx hb d rfl ?_
  exact kk p l e s m args below meth c H locs ls D B hc hB hZ hW hS hL

theorem r_d2l {κ : Kp} {bc bs : Nat} {Q : Rs → Mem → Prop} {pc : Nat} {L : Ls} {st : List Value} {M : Mem} {k n : Nat} {x : UInt64} (d : Dc κ pc (.d2l) 1) (kk : J κ bc bs Q (pc + 1) L (.long (FP.d2l x) :: st) M k n) : J κ bc bs Q pc L (.double x :: st) M k n := by
  intro p l e s m args below meth c H locs ls D B hc hB hZ hW hS hL
  obtain ⟨hx, hb, hr, hml, hown, hts, hlo, htab, hfl, hnm⟩ := id hc
  refine lv_d2l hx hb d ?_
  exact kk p l e s m args below meth c H locs ls D B hc hB hZ hW hS hL

theorem r_dcmpC {κ : Kp} {bc bs : Nat} {Q : Rs → Mem → Prop} {pc : Nat} {L : Ls} {st : List Value} {M : Mem} {k n : Nat} {x y : UInt64} {op : CmpOp} {z : Int} (h : Op.cmpValue (FP.dcmp x y) op = iN z) (d : Dc κ pc (.dcmp op) 1) (kk : J κ bc bs Q (pc + 1) L (vI z :: st) M k n) : J κ bc bs Q pc L (.double y :: .double x :: st) M k n := by
  refine r_dcmp d ?_
  rw [h]
  exact kk

theorem r_raw {κ : Kp} {bc bs : Nat} {Q : Rs → Mem → Prop} {pc : Nat} {L : Ls} {st : List Value} {M : Mem} {k n : Nat} {x : UInt64} (hF : 1 ≤ kF κ) (hV : (st.map fun v => v.category).sum + 15 ≤ kV κ) (hcl : (kY κ).cls = "java/lang/Double") (d : Dc κ pc (.invokestatic 134) 3) (kk : J κ bc bs Q (pc + 3) L (.long x.toInt64 :: st) M k n) : J κ bc bs Q pc L (.double x :: st) M k n := by
  intro p l e s m args below meth c H locs ls D B hc hB hZ hW hS hL
  obtain ⟨hx, hb, hr, hml, hown, hts, hlo, htab, hfl, hnm⟩ := id hc
  refine vn_d2l hx hb (by rw [hml]; exact hL.1.symm) hown (by rw [hcl]; exact hts _ ml_D_134) (hts _ (lw_gin 1349 (by decide +kernel) (by decide +kernel))) (hts _ (lw_gin 1348 (by decide +kernel) (by decide +kernel))) (hts _ (lw_gin 93 (by decide +kernel) (by decide +kernel))) hF hV d ?_
  exact kk p l e s m args below meth c H locs ls D B hc hB hZ hW hS hL

theorem cmp_1 {x : UInt64} {c : Nat} (h : V64 x = .fin false c (-52)) (h1 : 4503599627370496 ≤ c) : ∃ z : Int, (0 ≤ z ∧ z ≤ 1) ∧ ∀ op, Op.cmpValue (FP.dcmp x 0x3ff0000000000000) op = iN z := by
  have hc := fp_cmp h v_one
  rw [show ((-52 : Int) - min (-52) (-52)).toNat = 0 from by decide, Nat.pow_zero, Nat.mul_one, Nat.mul_one] at hc
  rcases cmp_ge' (a := ((c : Nat) : Int)) (b := ((4503599627370496 : Nat) : Int)) (by omega) with e | e
  · exact ⟨0, by omega, fun op => by rw [hc, e]; rfl⟩
  · exact ⟨1, by omega, fun op => by rw [hc, e]; rfl⟩
theorem cmp_2 {x : UInt64} {c : Nat} (h : V64 x = .fin false c (-52)) (h1 : c < 9007199254740992) : ∀ op, Op.cmpValue (FP.dcmp x 0x4000000000000000) op = iN (-1) := by
  have hc := fp_cmp h v_two
  rw [show ((-52 : Int) - min (-52) (-51)).toNat = 0 from by decide, show ((-51 : Int) - min (-52) (-51)).toNat = 1 from by decide, Nat.pow_zero, Nat.mul_one, Nat.pow_one] at hc
  intro op
  rw [hc, cmp_lt' (by omega)]
  rfl
theorem cmp_3 {x : UInt64} {c : Nat} (h : V64 x = .fin false c (-53)) (h1 : c < 9007199254740992) : ∀ op, Op.cmpValue (FP.dcmp x 0x3ff0000000000000) op = iN (-1) := by
  have hc := fp_cmp h v_one
  rw [show ((-53 : Int) - min (-53) (-52)).toNat = 0 from by decide, show ((-52 : Int) - min (-53) (-52)).toNat = 1 from by decide, Nat.pow_zero, Nat.mul_one, Nat.pow_one] at hc
  intro op
  rw [hc, cmp_lt' (by omega)]
  rfl
theorem cmp_self {x : UInt64} {c : Nat} {q : Int} (h : V64 x = .fin false c q) : ∀ op, Op.cmpValue (FP.dcmp x x) op = iN 0 := by
  intro op
  rw [show FP.dcmp x x = some .eq from Jvm.FP.Core.dcmp_self (by rw [show Jvm.FP.Core.val64 x = _ from h]; exact fun h => nomatch h)]
  rfl
theorem shl_a : (Int64.ofInt 1023) <<< ((iN 52).toInt64 &&& 63) = Int64.ofInt (1023 * 4503599627370496) := by decide +kernel
theorem shl_b : (Int64.ofInt 1022) <<< ((iN 52).toInt64 &&& 63) = Int64.ofInt (1022 * 4503599627370496) := by decide +kernel
/-- how small: a share, or 1 -/
def smV (n : Int → Int) (F : Int → Int → Int) (g : Int → Int) : UInt64 := if 2 * smF n 4 0 = 0 then 0x3ff0000000000000 else FP.ddiv (FP.i2d (iN (szA n F g (g 1)))) (FP.i2d (iN (2 * smF n 4 0)))
theorem byF_lo (n : Int) (F : Int → Int) (a b : Int) : ∀ (k : Nat) (p c : Int), (k : Int) ≤ byF n F a b k p c
  | 0, p, c => by simp [byF]
  | k + 1, p, c => by
    unfold byF
    split
    · have := byF_lo n F a b k (p + 1) 1; omega
    · have := byF_lo n F a b k (p + 1) (c + 1); have := gby_r (gapF n F p); omega
theorem smV_ok {n : Int → Int} {F : Int → Int → Int} (h : Sts n F) (g : Int → Int) : ∃ (c : Nat) (q : Int), V64 (smV n F g) = .fin false c q ∧ 4503599627370496 ≤ c ∧ c < 9007199254740992 ∧ (q = -52 ∨ q = -53) := by
  unfold smV
  split
  · exact ⟨4503599627370496, -52, v_one, by omega, by omega, Or.inl rfl⟩
  · next e =>
    have hb : ∀ j, 0 ≤ j → j < 4 → n j ≤ byF (n j) (F j) (g 0) (g 1) (n j).toNat 0 0 ∧ byF (n j) (F j) (g 0) (g 1) (n j).toNat 0 0 ≤ 3 * n j := fun j a b => by
      have h1 := byF_lo (n j) (F j) (g 0) (g 1) (n j).toNat 0 0
      have h2 := byF_r (n j) (F j) (g 0) (g 1) (n j).toNat 0 0
      have h3 := h j a b
      omega
    have hs : szA n F g (g 1) = byF (n 0) (F 0) (g 0) (g 1) (n 0).toNat 0 0 + (byF (n 1) (F 1) (g 0) (g 1) (n 1).toNat 0 0 + (byF (n 2) (F 2) (g 0) (g 1) (n 2).toNat 0 0 + (byF (n 3) (F 3) (g 0) (g 1) (n 3).toNat 0 0 + 0))) := rfl
    have hn : smF n 4 0 = n 0 + (n 1 + (n 2 + (n 3 + 0))) := rfl
    have h0 := h 0 (by omega) (by omega); have h1 := h 1 (by omega) (by omega); have h2 := h 2 (by omega) (by omega); have h3 := h 3 (by omega) (by omega)
    have b0 := hb 0 (by omega) (by omega); have b1 := hb 1 (by omega) (by omega); have b2 := hb 2 (by omega) (by omega); have b3 := hb 3 (by omega) (by omega)
    have e1 : szA n F g (g 1) = (((szA n F g (g 1)).toNat : Nat) : Int) := by omega
    have e2 : 2 * smF n 4 0 = (((2 * smF n 4 0).toNat : Nat) : Int) := by omega
    rw [e1, e2]
    exact fp_shr (a := (szA n F g (g 1)).toNat) (b := (2 * smF n 4 0).toNat) (by omega) (by omega) (by omega) (by omega)
/-- the hash goes on over k numbers from p on -/
def hsI (h : Int64) (x : Int) : Int64 := 31 * h + (iN x).toInt64
def hsF (f : Int → Int) : Nat → Int → Int64 → Int64
  | 0, _, h => h
  | k + 1, p, h => hsF f k (p + 1) (hsI h (f p))
def hsM (n : Int → Int) (F : Int → Int → Int) (g : Int → Int) (k : Int) (h : Int64) : Int64 := hsF (F k) (n k).toNat 0 (hsF (ofV (n k) (F k) g) 8 0 h)
def hsB (n : Int → Int) (F : Int → Int → Int) (g : Int → Int) (k : Int) (h : Int64) : Int64 := hsF (fun q => blkV (n k) (F k) g (q / 6) (q % 6)) (6 * nbF (n k) (F k) (g 0) (g 1)).toNat 0 h
def hsK (n : Int → Int) (F : Int → Int → Int) (g : Int → Int) (k : Int) (h : Int64) : Int64 := hsF (tolF (mtS n F g k 0)) 4 0 (hsI (hsI (hsI (hsI h (drV (n k) (F k) g 0)) (drV (n k) (F k) g 1)) (iaV (n k) (F k) g 5000)) (nrF (n k) (F k) 5000))
def hsS (n : Int → Int) (F : Int → Int → Int) (g : Int → Int) : Nat → Int → Int64 → Int64
  | 0, _, h => h
  | j + 1, k, h => hsS n F g j (k + 1) (hsK n F g k (hsB n F g k (hsM n F g k h)))
def hsE (n : Int → Int) (F : Int → Int → Int) (g : Int → Int) (len : Int) (c : Int → Int) (h : Int64) : Int64 := hsF c len.toNat 0 (hsI (31 * hsI h (bwV n F g) + (smV n F g).toInt64) len)
def dgV (n : Int → Int) (F : Int → Int → Int) (g : Int → Int) (m len : Int) (c : Int → Int) : Int64 := hsE n F g len c (hsS n F g 4 0 (hsF g 2 0 (hsF (cntV n F g m) 7 0 2617)))
set_option maxHeartbeats 4000000 in
theorem mX8_mix {M : Mem} {h v : Int64}  : Ct KX8_mix [.long h, .long v] M 0 0 (rtL (31 * h + v) M) := by
  refine Ct.of _ (by decide) rfl (Nat.le_of_ble_eq_true rfl) ?_
  refine r_ldc2 dX8_mix_0 kl_X8_296 ?_
  refine r_lload_n dX8_mix_3 rfl ?_
  refine r_lmul dX8_mix_4 ?_
  refine r_lload_n dX8_mix_5 rfl ?_
  refine r_ladd dX8_mix_6 ?_
  refine e_lreturn dX8_mix_7 rfl (Nat.le_of_ble_eq_true rfl) (Nat.le_of_ble_eq_true rfl) ?_
  exact okL rfl

set_option maxHeartbeats 4000000 in
theorem mD_isNaN {M : Mem} {x : UInt64} {c : Nat} {q : Int} (h : V64 x = .fin false c q) : Ct KD_isNaN [.double x] M 0 0 (rtI 0 M) := by
  refine Ct.of _ (by decide) rfl (Nat.le_of_ble_eq_true rfl) ?_
  refine r_dload_n dD_isNaN_0 rfl ?_
  refine r_dload_n dD_isNaN_1 rfl ?_
  refine r_dcmpC (z := 0) (cmp_self h _) dD_isNaN_2 ?_
  refine r_if_eq (tgt := 10) dD_isNaN_3 (by decide) (by omega) (fun h3 => ?_) (fun h3 => ?_)
  ·
    refine r_iconst dD_isNaN_10 ?_
    refine e_zreturn dD_isNaN_11 rfl (by omega) (Nat.le_of_ble_eq_true rfl) (Nat.le_of_ble_eq_true rfl) ?_
    exact okI rfl
  · omega

set_option maxHeartbeats 4000000 in
theorem mD_d2l {M : Mem} {x : UInt64} {c : Nat} {q : Int} (h : V64 x = .fin false c q) : Ct KD_d2l [.double x] M 0 0 (rtL x.toInt64 M) := by
  refine Ct.of _ (by decide) rfl (Nat.le_of_ble_eq_true rfl) ?_
  refine r_dload_n dD_d2l_0 rfl ?_
  refine r_callS1 okD_isNaN ⟨by decide, by decide⟩ ml_D_122 (mD_isNaN h) (Nat.le_of_ble_eq_true rfl) (Nat.le_of_ble_eq_true rfl) (Nat.le_of_ble_eq_true rfl) rfl dD_d2l_1 (nx_I) (kx_I ?_)
  refine r_if_ne (tgt := 12) dD_d2l_4 (by decide) (by omega) (fun h4 => ?_) (fun h4 => ?_)
  · omega
  ·
    refine r_dload_n dD_d2l_7 rfl ?_
    refine r_raw (by decide) (Nat.le_of_ble_eq_true rfl) rfl dD_d2l_8 ?_
    refine e_lreturn dD_d2l_11 rfl (Nat.le_of_ble_eq_true rfl) (Nat.le_of_ble_eq_true rfl) ?_
    exact okL rfl

set_option maxHeartbeats 4000000 in
theorem mX8_bitsOf_a {M : Mem} {x : UInt64} {c : Nat} (h : V64 x = .fin false c (-52)) (h1 : 4503599627370496 ≤ c) (h2 : c < 9007199254740992) : Ct KX8_bitsOf [.double x] M 0 0 (rtL x.toInt64 M) := by
  refine Ct.of _ (by decide) rfl (Nat.le_of_ble_eq_true rfl) ?_
  obtain ⟨z1, hz1, hc1⟩ := cmp_1 h h1
  have hc2 := cmp_2 h h2
  obtain ⟨w1, w2, w3⟩ := fp_whole h h1 h2
  refine r_dload_n dX8_bitsOf_0 rfl ?_
  refine r_dstore_nT dX8_bitsOf_1 (by decide) rfl ?_
  refine r_ldc2 dX8_bitsOf_2 kl_X8_315 ?_
  refine r_lstoreT dX8_bitsOf_5 (by decide) rfl ?_
  refine r_iconst dX8_bitsOf_7 ?_
  refine r_istoreT dX8_bitsOf_8 (by decide) rfl ?_
  refine r_iload dX8_bitsOf_10 rfl ?_
  refine r_sipush dX8_bitsOf_12 (by decide) ?_
  refine r_icmp_ge (tgt := 42) dX8_bitsOf_15 (by decide) (by omega) (by omega) (fun h15 => ?_) (fun h15 => ?_)
  · omega
  ·
    refine r_dload_n dX8_bitsOf_18 rfl ?_
    refine r_dconst1 dX8_bitsOf_19 ?_
    refine r_dcmpC (z := z1) (hc1 _) dX8_bitsOf_20 ?_
    refine r_if_ge (tgt := 42) dX8_bitsOf_21 (by decide) (by omega) (fun h21 => ?_) (fun h21 => ?_)
    ·
      refine r_iconst dX8_bitsOf_42 ?_
      refine r_istoreT dX8_bitsOf_43 (by decide) rfl ?_
      refine r_iload dX8_bitsOf_45 rfl ?_
      refine r_sipush dX8_bitsOf_47 (by decide) ?_
      refine r_icmp_ge (tgt := 79) dX8_bitsOf_50 (by decide) (by omega) (by omega) (fun h50 => ?_) (fun h50 => ?_)
      · omega
      ·
        refine r_dload_n dX8_bitsOf_53 rfl ?_
        refine r_ldc2d dX8_bitsOf_54 kd_X8_317 ?_
        refine r_dcmpC (z := -1) (hc2 _) dX8_bitsOf_57 ?_
        refine r_if_lt (tgt := 79) dX8_bitsOf_58 (by decide) (by omega) (fun h58 => ?_) (fun h58 => ?_)
        ·
          refine r_lload dX8_bitsOf_79 rfl ?_
          refine r_bipush dX8_bitsOf_81 (by decide) ?_
          refine r_lshl dX8_bitsOf_83 ?_
          refine r_dload_n dX8_bitsOf_84 rfl ?_
          refine r_dconst1 dX8_bitsOf_85 ?_
          refine r_dsub dX8_bitsOf_86 (w1) ?_
          refine r_ldc2d dX8_bitsOf_87 kd_X8_319 ?_
          refine r_dmul dX8_bitsOf_90 (w2) ?_
          refine r_d2l dX8_bitsOf_91 ?_
          refine r_ladd dX8_bitsOf_92 ?_
          refine e_lreturn dX8_bitsOf_93 rfl (Nat.le_of_ble_eq_true rfl) (Nat.le_of_ble_eq_true rfl) ?_
          exact okL (by rw [w3, fp_bits h h1 (e := 1023) (by omega) (by omega), Int64.ofInt_add, show (1023 : Int64) = Int64.ofInt 1023 from rfl, shl_a])
        · omega
    · omega

set_option maxHeartbeats 4000000 in
theorem mX8_bitsOf_b {M : Mem} {x : UInt64} {c : Nat} (h : V64 x = .fin false c (-53)) (h1 : 4503599627370496 ≤ c) (h2 : c < 9007199254740992) : Ct KX8_bitsOf [.double x] M 0 0 (rtL x.toInt64 M) := by
  refine Ct.of _ (by decide) rfl (Nat.le_of_ble_eq_true rfl) ?_
  have hc0 := cmp_3 h h2
  have hd := fp_dbl h h1 h2
  obtain ⟨z1, hz1, hc1⟩ := cmp_1 hd h1
  have hc2 := cmp_2 hd h2
  have w0 := fp_ok hd
  obtain ⟨w1, w2, w3⟩ := fp_whole hd h1 h2
  refine r_dload_n dX8_bitsOf_0 rfl ?_
  refine r_dstore_nT dX8_bitsOf_1 (by decide) rfl ?_
  refine r_ldc2 dX8_bitsOf_2 kl_X8_315 ?_
  refine r_lstoreT dX8_bitsOf_5 (by decide) rfl ?_
  refine r_iconst dX8_bitsOf_7 ?_
  refine r_istoreT dX8_bitsOf_8 (by decide) rfl ?_
  refine r_iload dX8_bitsOf_10 rfl ?_
  refine r_sipush dX8_bitsOf_12 (by decide) ?_
  refine r_icmp_ge (tgt := 42) dX8_bitsOf_15 (by decide) (by omega) (by omega) (fun h15 => ?_) (fun h15 => ?_)
  · omega
  ·
    refine r_dload_n dX8_bitsOf_18 rfl ?_
    refine r_dconst1 dX8_bitsOf_19 ?_
    refine r_dcmpC (z := -1) (hc0 _) dX8_bitsOf_20 ?_
    refine r_if_ge (tgt := 42) dX8_bitsOf_21 (by decide) (by omega) (fun h21 => ?_) (fun h21 => ?_)
    · omega
    ·
      refine r_dload_n dX8_bitsOf_24 rfl ?_
      refine r_ldc2d dX8_bitsOf_25 kd_X8_317 ?_
      refine r_dmul dX8_bitsOf_28 (w0) ?_
      refine r_dstore_nT dX8_bitsOf_29 (by decide) rfl ?_
      refine r_lload dX8_bitsOf_30 rfl ?_
      refine r_lconst1 dX8_bitsOf_32 ?_
      refine r_lsub dX8_bitsOf_33 ?_
      refine r_lstoreT dX8_bitsOf_34 (by decide) rfl ?_
      refine r_iincT dX8_bitsOf_36 rfl rfl ?_
      refine r_goto (tgt := 10) dX8_bitsOf_39 (by decide) ?_
      refine r_iload dX8_bitsOf_10 rfl ?_
      refine r_sipush dX8_bitsOf_12 (by decide) ?_
      refine r_icmp_ge (tgt := 42) dX8_bitsOf_15 (by decide) (by omega) (by omega) (fun h15 => ?_) (fun h15 => ?_)
      · omega
      ·
        refine r_dload_n dX8_bitsOf_18 rfl ?_
        refine r_dconst1 dX8_bitsOf_19 ?_
        refine r_dcmpC (z := z1) (hc1 _) dX8_bitsOf_20 ?_
        refine r_if_ge (tgt := 42) dX8_bitsOf_21 (by decide) (by omega) (fun h21 => ?_) (fun h21 => ?_)
        ·
          refine r_iconst dX8_bitsOf_42 ?_
          refine r_istoreT dX8_bitsOf_43 (by decide) rfl ?_
          refine r_iload dX8_bitsOf_45 rfl ?_
          refine r_sipush dX8_bitsOf_47 (by decide) ?_
          refine r_icmp_ge (tgt := 79) dX8_bitsOf_50 (by decide) (by omega) (by omega) (fun h50 => ?_) (fun h50 => ?_)
          · omega
          ·
            refine r_dload_n dX8_bitsOf_53 rfl ?_
            refine r_ldc2d dX8_bitsOf_54 kd_X8_317 ?_
            refine r_dcmpC (z := -1) (hc2 _) dX8_bitsOf_57 ?_
            refine r_if_lt (tgt := 79) dX8_bitsOf_58 (by decide) (by omega) (fun h58 => ?_) (fun h58 => ?_)
            ·
              refine r_lload dX8_bitsOf_79 rfl ?_
              refine r_bipush dX8_bitsOf_81 (by decide) ?_
              refine r_lshl dX8_bitsOf_83 ?_
              refine r_dload_n dX8_bitsOf_84 rfl ?_
              refine r_dconst1 dX8_bitsOf_85 ?_
              refine r_dsub dX8_bitsOf_86 (w1) ?_
              refine r_ldc2d dX8_bitsOf_87 kd_X8_319 ?_
              refine r_dmul dX8_bitsOf_90 (w2) ?_
              refine r_d2l dX8_bitsOf_91 ?_
              refine r_ladd dX8_bitsOf_92 ?_
              refine e_lreturn dX8_bitsOf_93 rfl (Nat.le_of_ble_eq_true rfl) (Nat.le_of_ble_eq_true rfl) ?_
              exact okL (by rw [w3, fp_bits h h1 (e := 1022) (by omega) (by omega), Int64.ofInt_add, show (1023 : Int64) - 1 = Int64.ofInt 1022 from by decide, shl_b])
            · omega
        · omega

theorem mX8_bitsOf {M : Mem} {x : UInt64} {c : Nat} {q : Int} (h : V64 x = .fin false c q) (h1 : 4503599627370496 ≤ c) (h2 : c < 9007199254740992) (h3 : q = -52 ∨ q = -53) : Ct KX8_bitsOf [.double x] M 0 0 (rtL x.toInt64 M) := by
  rcases h3 with rfl | rfl
  · exact mX8_bitsOf_a h h1 h2
  · exact mX8_bitsOf_b h h1 h2

set_option maxHeartbeats 4000000 in
theorem mX8_smallness {M : Mem} {ad : Int → Nat} {n : Int → Int} {F : Int → Int → Int} {g : Int → Int} {m : Int} {S : Int → Sg3} {len : Int} {c : Int → Int} (hx : XSt M ad (n, F, g) m S len c) (hv : Vld (n, F, g)) (hi : Inj ad) : Ct KX8_smallness [.ref (ad 0)] M 0 0 (rtD (smV n F g) M) := by
  refine Ct.of _ (by decide) rfl (Nat.le_of_ble_eq_true rfl) ?_
  obtain ⟨h00, hst, hhs, hbf, hpw, hbw, hmw, ⟨tn, tF, htr⟩, ⟨wn, wF, hwi⟩⟩ := id hx
  obtain ⟨hvs, hv0, hv1, hv2, hv3⟩ := id hv
  change StP _ ad 1 n F g at hst
  dsimp only at hvs hv0 hv1 hv2 hv3
  have hob1 := hst.1
  obtain ⟨hh_1, hh_2, hh_3, hh_4, hh_5, hho, -⟩ := id hhs
  have hob94 := hbf.1
  obtain ⟨⟨y1, y2, y3, y4, y5, y6, hob96⟩, -, -⟩ := id hpw
  obtain ⟨z1, z2, z3, hob99, -⟩ := id hbw
  obtain ⟨⟨u1, hob101⟩, -, -⟩ := id hmw
  have hob108 := htr.1
  have hob110 := hwi.1
  have hsts : Sts n F := fun k a b => ⟨(hst.mb a b).2.2.1, (hst.mb a b).2.2.2.1, hvs k a b, (hst.mb a b).2.2.2.2.2⟩
  obtain ⟨cc, qq, hsm, hs1, hs2, hs3⟩ := smV_ok hsts g
  have hok := fp_ok hsm
  refine r_iconst dX8_smallness_0 ?_
  refine r_aload_n dX8_smallness_1 rfl ?_
  refine r_callV0 okX8_allMembers ⟨by decide, by decide⟩ ml_X8_208 (mX8_allMembers hx hv hi) (by first | assumption | exact up_s _ _ _ | exact (up_n _ (by assumption)).trans (by assumption) | exact (up_n _ (by assumption)).trans (up_s _ _ _) | exact (up_n _ (by assumption)).trans ((up_n _ (by assumption)).trans (by assumption))) rfl rfl (Nat.le_of_ble_eq_true rfl) (Nat.le_of_ble_eq_true rfl) (Nat.le_of_ble_eq_true rfl) rfl dX8_smallness_2 (nx_I) (kx_I ?_)
  have hnn : 0 ≤ smF n 4 0 ∧ smF n 4 0 ≤ 1200 := by
    have := smF_r (f := n) (lo := 0) (hi := 300) 4 0 (fun j a b => (hst.mb (k := j) a (by omega)).n0)
    omega
  refine r_imul dX8_smallness_5 ?_
  refine r_istore_nT dX8_smallness_6 (by decide) rfl ?_
  refine r_iload_n dX8_smallness_7 rfl ?_
  refine r_if_ne (tgt := 13) dX8_smallness_8 (by decide) (by omega) (fun h8 => ?_) (fun h8 => ?_)
  ·
    have hsv : smV n F g = FP.ddiv (FP.i2d (iN (szA n F g (g 1)))) (FP.i2d (iN (2 * smF n 4 0))) := by unfold smV; rw [if_neg (by omega)]
    rw [hsv] at hok
    refine r_aload_n dX8_smallness_13 rfl ?_
    refine r_aload_n dX8_smallness_14 rfl ?_
    refine r_getfield clX8 0 (by decide) fl_X8_10 (by first | assumption | exact up_s _ _ _ | exact (up_n _ (by assumption)).trans (by assumption) | exact (up_n _ (by assumption)).trans (up_s _ _ _) | exact (up_n _ (by assumption)).trans ((up_n _ (by assumption)).trans (by assumption))) rfl dX8_smallness_15 ?_
    refine r_iconst dX8_smallness_18 ?_
    refine r_callV1 okX7_valueOf ⟨by decide, by decide⟩ ml_X8_129 (mX7_valueOf hst (by omega)) (by first | assumption | exact up_s _ _ _ | exact (up_n _ (by assumption)).trans (by assumption) | exact (up_n _ (by assumption)).trans (up_s _ _ _) | exact (up_n _ (by assumption)).trans ((up_n _ (by assumption)).trans (by assumption))) rfl rfl (Nat.le_of_ble_eq_true rfl) (Nat.le_of_ble_eq_true rfl) (Nat.le_of_ble_eq_true rfl) rfl dX8_smallness_19 (nx_I) (kx_I ?_)
    rw [show valG g 1 = g 1 from rfl]
    refine r_callV1 okX8_allSizes ⟨by decide, by decide⟩ ml_X8_217 (mX8_allSizes hx hv hi (by omega)) (by first | assumption | exact up_s _ _ _ | exact (up_n _ (by assumption)).trans (by assumption) | exact (up_n _ (by assumption)).trans (up_s _ _ _) | exact (up_n _ (by assumption)).trans ((up_n _ (by assumption)).trans (by assumption))) rfl rfl (Nat.le_of_ble_eq_true rfl) (Nat.le_of_ble_eq_true rfl) (Nat.le_of_ble_eq_true rfl) rfl dX8_smallness_22 (nx_I) (kx_I ?_)
    refine r_i2d dX8_smallness_25 ?_
    refine r_iload_n dX8_smallness_26 rfl ?_
    refine r_i2d dX8_smallness_27 ?_
    refine r_ddiv dX8_smallness_28 (hok) ?_
    refine e_dreturn dX8_smallness_29 rfl (Nat.le_of_ble_eq_true rfl) (Nat.le_of_ble_eq_true rfl) ?_
    exact okD hsv.symm
  ·
    refine r_dconst1 dX8_smallness_11 ?_
    refine e_dreturn dX8_smallness_12 rfl (Nat.le_of_ble_eq_true rfl) (Nat.le_of_ble_eq_true rfl) ?_
    exact okD (by unfold smV; rw [if_pos (by omega)])

set_option maxHeartbeats 4000000 in
theorem mX8_mixMembers {M : Mem} {ad : Int → Nat} {n : Int → Int} {F : Int → Int → Int} {g : Int → Int} {m : Int} {S : Int → Sg3} {len : Int} {c : Int → Int} {k : Int} {h : Int64} (hx : XSt M ad (n, F, g) m S len c) (hv : Vld (n, F, g)) (hi : Inj ad) (h0 : 0 ≤ k) (h1 : k < 4) : Ct KX8_mixMembers [.ref (ad 0), .long h, vI k] M 0 0 (atL (hsM n F g k h) (fun M2 => XSt M2 ad (n, F, g) m S len c ∧ FrI ad 0 112 M M2)) := by
  refine Ct.of _ (by decide) rfl (Nat.le_of_ble_eq_true rfl) ?_
  obtain ⟨h00, hst, hhs, hbf, hpw, hbw, hmw, ⟨tn, tF, htr⟩, ⟨wn, wF, hwi⟩⟩ := id hx
  obtain ⟨hvs, hv0, hv1, hv2, hv3⟩ := id hv
  change StP _ ad 1 n F g at hst
  dsimp only at hvs hv0 hv1 hv2 hv3
  refine r_lload_n dX8_mixMembers_0 rfl ?_
  refine r_lstoreT dX8_mixMembers_1 (by decide) rfl ?_
  refine r_iconst dX8_mixMembers_3 ?_
  refine r_istoreT dX8_mixMembers_4 (by decide) rfl ?_
  refine J.loc (L' := [(0, some _), (3, some _), (4, some _), (6, some _)]) (lsub_cons rfl (lsub_cons rfl (lsub_cons rfl (lsub_cons rfl (lsub_nil))))) (loop3 (fun (w : Int) (y : Int64) (M1 : Mem) => 0 ≤ w ∧ w ≤ 8 ∧ XSt M1 ad (n, F, g) m S len c ∧ FrI ad 0 112 M M1 ∧ hsF (ofV (n k) (F k) g) 8 0 h = hsF (ofV (n k) (F k) g) (8 - w).toNat w y) (fun (w : Int) (y : Int64) (M1 : Mem) => (8 - w).toNat) (fun (w : Int) (y : Int64) (M1 : Mem) => J KX8_mixMembers 0 0 _ 6 [(0, some (.ref (ad 0))), (3, some (vI k)), (4, some (.long y)), (6, some (vI w))] [] M1 _ _) (fun w y M1 hI6 ih6 => ?_) _ _ _ ?_)
  ·
    obtain ⟨hw0, hw1, hx1, hfr, hy⟩ := hI6
    obtain ⟨h00, hst, hhs, hbf, hpw, hbw, hmw, ⟨tn, tF, htr⟩, ⟨wn, wF, hwi⟩⟩ := id hx1
    change StP _ ad 1 n F g at hst
    have hob1 := hst.1
    obtain ⟨hh_1, hh_2, hh_3, hh_4, hh_5, hho, -⟩ := id hhs
    have hob94 := hbf.1
    obtain ⟨⟨y1, y2, y3, y4, y5, y6, hob96⟩, -, -⟩ := id hpw
    obtain ⟨z1, z2, z3, hob99, -⟩ := id hbw
    obtain ⟨⟨u1, hob101⟩, -, -⟩ := id hmw
    have hob108 := htr.1
    have hob110 := hwi.1
    refine r_iload dX8_mixMembers_6 rfl ?_
    refine r_bipush dX8_mixMembers_8 (by decide) ?_
    refine r_icmp_gt (tgt := 34) dX8_mixMembers_10 (by decide) (by omega) (by omega) (fun h10 => ?_) (fun h10 => ?_)
    ·
      refine r_aload_n dX8_mixMembers_34 rfl ?_
      refine r_getfield clX8 0 (by decide) fl_X8_10 (by first | assumption | exact up_s _ _ _ | exact (up_n _ (by assumption)).trans (by assumption) | exact (up_n _ (by assumption)).trans (up_s _ _ _) | exact (up_n _ (by assumption)).trans ((up_n _ (by assumption)).trans (by assumption))) rfl dX8_mixMembers_35 ?_
      refine r_iload_n dX8_mixMembers_38 rfl ?_
      refine r_callV1 okX7_members ⟨by decide, by decide⟩ ml_X8_69 (mX7_members hst (k := k) (by omega) (by omega)) (by first | assumption | exact up_s _ _ _ | exact (up_n _ (by assumption)).trans (by assumption) | exact (up_n _ (by assumption)).trans (up_s _ _ _) | exact (up_n _ (by assumption)).trans ((up_n _ (by assumption)).trans (by assumption))) rfl rfl (Nat.le_of_ble_eq_true rfl) (Nat.le_of_ble_eq_true rfl) (Nat.le_of_ble_eq_true rfl) rfl dX8_mixMembers_39 (nx_A) (kx_A ?_)
      have hmk := hst.mb (k := k) (by omega) (by omega)
      have hmo := hmk.1
      have hmn : 0 ≤ n (k) ∧ n (k) ≤ 60 := by have h60 := hmk.2.2.2.1; have h59 := hmk.2.2.1; omega
      refine r_astoreT dX8_mixMembers_42 (by decide) rfl ?_
      refine r_iconst dX8_mixMembers_44 ?_
      refine r_istoreT dX8_mixMembers_45 (by decide) rfl ?_
      refine J.loc (L' := [(0, some _), (3, some _), (4, some _), (6, some _), (7, some _)]) (lsub_cons rfl (lsub_cons rfl (lsub_cons rfl (lsub_cons rfl (lsub_cons rfl (lsub_nil)))))) (loop2 (fun (p : Int) (z : Int64) => 0 ≤ p ∧ p ≤ n k ∧ hsM n F g k h = hsF (F k) (n k - p).toNat p z) (fun (p : Int) (z : Int64) => (n k - p).toNat) (fun (p : Int) (z : Int64) => J KX8_mixMembers 0 0 _ 47 [(0, some (.ref (ad 0))), (3, some (vI k)), (4, some (.long z)), (6, some (.ref (ad (1 + 2 + k)))), (7, some (vI p))] [] M1 _ _) (fun p z hI47 ih47 => ?_) _ _ ?_)
      ·
        obtain ⟨hp0, hp1, hz⟩ := hI47
        refine r_iload dX8_mixMembers_47 rfl ?_
        refine r_aload dX8_mixMembers_49 rfl ?_
        refine r_callV0 okX5_amount ⟨by decide, by decide⟩ ml_X8_77 (mX5_amount hmk) (by first | assumption | exact up_s _ _ _ | exact (up_n _ (by assumption)).trans (by assumption) | exact (up_n _ (by assumption)).trans (up_s _ _ _) | exact (up_n _ (by assumption)).trans ((up_n _ (by assumption)).trans (by assumption))) rfl rfl (Nat.le_of_ble_eq_true rfl) (Nat.le_of_ble_eq_true rfl) (Nat.le_of_ble_eq_true rfl) rfl dX8_mixMembers_51 (nx_I) (kx_I ?_)
        refine r_icmp_ge (tgt := 78) dX8_mixMembers_54 (by decide) (by omega) (by omega) (fun h54 => ?_) (fun h54 => ?_)
        ·
          refine r_lload dX8_mixMembers_78 rfl ?_
          refine e_lreturn dX8_mixMembers_80 rfl (Nat.le_of_ble_eq_true rfl) (Nat.le_of_ble_eq_true rfl) ?_
          exact oktL (by rw [hz, show (n k - p).toNat = 0 by omega, hsF]) ⟨hx1, hfr⟩
        ·
          refine r_lload dX8_mixMembers_57 rfl ?_
          refine r_aload dX8_mixMembers_59 rfl ?_
          refine r_iload dX8_mixMembers_61 rfl ?_
          refine r_callV1 okX5_at ⟨by decide, by decide⟩ ml_X8_160 (mX5_at hmk (by omega)) (by first | assumption | exact up_s _ _ _ | exact (up_n _ (by assumption)).trans (by assumption) | exact (up_n _ (by assumption)).trans (up_s _ _ _) | exact (up_n _ (by assumption)).trans ((up_n _ (by assumption)).trans (by assumption))) rfl rfl (Nat.le_of_ble_eq_true rfl) (Nat.le_of_ble_eq_true rfl) (Nat.le_of_ble_eq_true rfl) rfl dX8_mixMembers_63 (nx_I) (kx_I ?_)
          rw [atF_in hp0 (by omega)]
          refine r_i2l dX8_mixMembers_66 ?_
          refine r_callS2 okX8_mix ⟨by decide, by decide⟩ ml_X8_237 (mX8_mix) (Nat.le_of_ble_eq_true rfl) (Nat.le_of_ble_eq_true rfl) (Nat.le_of_ble_eq_true rfl) rfl dX8_mixMembers_67 (nx_L) (kx_L ?_)
          refine r_lstoreT dX8_mixMembers_70 (by decide) rfl ?_
          refine r_iincT dX8_mixMembers_72 rfl rfl ?_
          refine r_goto (tgt := 47) dX8_mixMembers_75 (by decide) ?_
          refine J.loc (lsub_cons rfl (lsub_cons rfl (lsub_cons rfl (lsub_cons rfl (lsub_cons rfl (lsub_nil)))))) (ih47 _ _ ?_ ?_)
          · exact ⟨by omega, by omega, by rw [hz, show (n k - p).toNat = (n k - (p + 1)).toNat + 1 by omega, hsF]; rfl⟩
          · omega
      · exact ⟨by omega, by omega, by unfold hsM; rw [hy, show (8 - w).toNat = 0 by omega, hsF]; simp⟩
    ·
      refine r_lload dX8_mixMembers_13 rfl ?_
      refine r_aload_n dX8_mixMembers_15 rfl ?_
      refine r_iload_n dX8_mixMembers_16 rfl ?_
      refine r_iload dX8_mixMembers_17 rfl ?_
      refine r_callV2 okX8_of ⟨by decide, by decide⟩ ml_X8_298 (mX8_of_ok (bc := 0) (bs := 0) hx1 hv hi (by omega) (by omega) ⟨h0, h1⟩ (by omega)) (by first | assumption | exact up_s _ _ _ | exact (up_n _ (by assumption)).trans (by assumption) | exact (up_n _ (by assumption)).trans (up_s _ _ _) | exact (up_n _ (by assumption)).trans ((up_n _ (by assumption)).trans (by assumption))) rfl rfl (Nat.le_of_ble_eq_true rfl) (Nat.le_of_ble_eq_true rfl) (Nat.le_of_ble_eq_true rfl) rfl dX8_mixMembers_19 (nx_tI) (kx_tI ?_)
      intro M2 hM2
      refine r_i2l dX8_mixMembers_22 ?_
      refine r_callS2 okX8_mix ⟨by decide, by decide⟩ ml_X8_237 (mX8_mix) (Nat.le_of_ble_eq_true rfl) (Nat.le_of_ble_eq_true rfl) (Nat.le_of_ble_eq_true rfl) rfl dX8_mixMembers_23 (nx_L) (kx_L ?_)
      refine r_lstoreT dX8_mixMembers_26 (by decide) rfl ?_
      refine r_iincT dX8_mixMembers_28 rfl rfl ?_
      refine r_goto (tgt := 6) dX8_mixMembers_31 (by decide) ?_
      refine J.loc (lsub_cons rfl (lsub_cons rfl (lsub_cons rfl (lsub_cons rfl (lsub_nil))))) (ih6 _ _ M2 ?_ ?_)
      · exact ⟨by omega, by omega, hM2.1, hfr.trans hM2.2, by rw [hy, show (8 - w).toNat = (8 - (w + 1)).toNat + 1 by omega, hsF]; rfl⟩
      · omega
  · exact ⟨by omega, by omega, hx, FrI.rf, rfl⟩

set_option maxHeartbeats 4000000 in
theorem mX8_mixBlocks {M : Mem} {ad : Int → Nat} {n : Int → Int} {F : Int → Int → Int} {g : Int → Int} {m : Int} {S : Int → Sg3} {len : Int} {c : Int → Int} {k : Int} {h : Int64} (hx : XSt M ad (n, F, g) m S len c) (hv : Vld (n, F, g)) (hi : Inj ad) (h0 : 0 ≤ k) (h1 : k < 4) : Ct KX8_mixBlocks [.ref (ad 0), .long h, vI k] M 0 0 (atL (hsB n F g k h) (fun M2 => XSt M2 ad (n, F, g) m S len c ∧ FrI ad 0 112 M M2)) := by
  refine Ct.of _ (by decide) rfl (Nat.le_of_ble_eq_true rfl) ?_
  obtain ⟨h00, hst, hhs, hbf, hpw, hbw, hmw, ⟨tn, tF, htr⟩, ⟨wn, wF, hwi⟩⟩ := id hx
  obtain ⟨hvs, hv0, hv1, hv2, hv3⟩ := id hv
  change StP _ ad 1 n F g at hst
  dsimp only at hvs hv0 hv1 hv2 hv3
  have hob1 := hst.1
  obtain ⟨hh_1, hh_2, hh_3, hh_4, hh_5, hho, -⟩ := id hhs
  have hob94 := hbf.1
  obtain ⟨⟨y1, y2, y3, y4, y5, y6, hob96⟩, -, -⟩ := id hpw
  obtain ⟨z1, z2, z3, hob99, -⟩ := id hbw
  obtain ⟨⟨u1, hob101⟩, -, -⟩ := id hmw
  have hob108 := htr.1
  have hob110 := hwi.1
  refine r_lload_n dX8_mixBlocks_0 rfl ?_
  refine r_lstoreT dX8_mixBlocks_1 (by decide) rfl ?_
  refine r_aload_n dX8_mixBlocks_3 rfl ?_
  refine r_getfield clX8 4 (by decide) fl_X8_40 (by first | assumption | exact up_s _ _ _ | exact (up_n _ (by assumption)).trans (by assumption) | exact (up_n _ (by assumption)).trans (up_s _ _ _) | exact (up_n _ (by assumption)).trans ((up_n _ (by assumption)).trans (by assumption))) rfl dX8_mixBlocks_4 ?_
  refine r_aload_n dX8_mixBlocks_7 rfl ?_
  refine r_getfield clX8 0 (by decide) fl_X8_10 (by first | assumption | exact up_s _ _ _ | exact (up_n _ (by assumption)).trans (by assumption) | exact (up_n _ (by assumption)).trans (up_s _ _ _) | exact (up_n _ (by assumption)).trans ((up_n _ (by assumption)).trans (by assumption))) rfl dX8_mixBlocks_8 ?_
  refine r_iload_n dX8_mixBlocks_11 rfl ?_
  refine r_callV2 okX0_cut ⟨by decide, by decide⟩ ml_X8_169 (mX0_cut hbw hst hi (by omega) (by omega) (by omega) ⟨hv0, hv1⟩ ⟨hv2, hv3⟩) (by first | assumption | exact up_s _ _ _ | exact (up_n _ (by assumption)).trans (by assumption) | exact (up_n _ (by assumption)).trans (up_s _ _ _) | exact (up_n _ (by assumption)).trans ((up_n _ (by assumption)).trans (by assumption))) rfl rfl (Nat.le_of_ble_eq_true rfl) (Nat.le_of_ble_eq_true rfl) (Nat.le_of_ble_eq_true rfl) rfl dX8_mixBlocks_12 (nx_tI) (kx_tI ?_)
  intro M2 hM2
  have hx2 := hx.goB hi hM2.1.w hM2.2
  have hmk := hst.mb (k := k) (by omega) (by omega)
  have hbs := BkS.of hmk.2.2.1 hmk.2.2.2.1 (F k) (g 0) (g 1)
  have hnb1 := hbs.2.2.1
  have hnb2 := hbs.2.2.2.1
  have hnb3 := hbs.2.1
  refine r_istoreT dX8_mixBlocks_15 (by decide) rfl ?_
  refine r_iconst dX8_mixBlocks_17 ?_
  refine r_istoreT dX8_mixBlocks_18 (by decide) rfl ?_
  refine J.loc (L' := [(0, some _), (3, some _), (4, some _), (6, some _), (7, some _)]) (lsub_cons rfl (lsub_cons rfl (lsub_cons rfl (lsub_cons rfl (lsub_cons rfl (lsub_nil)))))) (loop3 (fun (b : Int) (y : Int64) (M1 : Mem) => 0 ≤ b ∧ b ≤ nbF (n k) (F k) (g 0) (g 1) ∧ XSt M1 ad (n, F, g) m S len c ∧ FrI ad 0 112 M M1 ∧ hsB n F g k h = hsF (fun q => blkV (n k) (F k) g (q / 6) (q % 6)) (6 * nbF (n k) (F k) (g 0) (g 1) - 6 * b).toNat (6 * b) y) (fun (b : Int) (y : Int64) (M1 : Mem) => (nbF (n k) (F k) (g 0) (g 1) - b).toNat) (fun (b : Int) (y : Int64) (M1 : Mem) => J KX8_mixBlocks 0 0 _ 20 [(0, some (.ref (ad 0))), (3, some (vI k)), (4, some (.long y)), (6, some (vI (nbF (n k) (F k) (g 0) (g 1)))), (7, some (vI b))] [] M1 _ _) (fun b y M1 hI20 ih20 => ?_) _ _ M2 ?_)
  ·
    obtain ⟨hb0, hb1, hx1, hfr, hy⟩ := hI20
    refine r_iload dX8_mixBlocks_20 rfl ?_
    refine r_iload dX8_mixBlocks_22 rfl ?_
    refine r_icmp_ge (tgt := 65) dX8_mixBlocks_24 (by decide) (by omega) (by omega) (fun h24 => ?_) (fun h24 => ?_)
    ·
      refine r_lload dX8_mixBlocks_65 rfl ?_
      refine e_lreturn dX8_mixBlocks_67 rfl (Nat.le_of_ble_eq_true rfl) (Nat.le_of_ble_eq_true rfl) ?_
      exact oktL (by rw [hy, show (6 * nbF (n k) (F k) (g 0) (g 1) - 6 * b).toNat = 0 by omega, hsF]) ⟨hx1, hfr⟩
    ·
      refine r_iconst dX8_mixBlocks_27 ?_
      refine r_istoreT dX8_mixBlocks_28 (by decide) rfl ?_
      refine J.loc (L' := [(0, some _), (3, some _), (4, some _), (6, some _), (7, some _), (8, some _)]) (lsub_cons rfl (lsub_cons rfl (lsub_cons rfl (lsub_cons rfl (lsub_cons rfl (lsub_cons rfl (lsub_nil))))))) (loop3 (fun (w : Int) (z : Int64) (M4 : Mem) => 0 ≤ w ∧ w ≤ 6 ∧ XSt M4 ad (n, F, g) m S len c ∧ FrI ad 0 112 M M4 ∧ hsB n F g k h = hsF (fun q => blkV (n k) (F k) g (q / 6) (q % 6)) (6 * nbF (n k) (F k) (g 0) (g 1) - (6 * b + w)).toNat (6 * b + w) z) (fun (w : Int) (z : Int64) (M4 : Mem) => (6 - w).toNat) (fun (w : Int) (z : Int64) (M4 : Mem) => J KX8_mixBlocks 0 0 _ 30 [(0, some (.ref (ad 0))), (3, some (vI k)), (4, some (.long z)), (6, some (vI (nbF (n k) (F k) (g 0) (g 1)))), (7, some (vI b)), (8, some (vI w))] [] M4 _ _) (fun w z M4 hI30 ih30 => ?_) _ _ M1 ?_)
      ·
        obtain ⟨hw0, hw1, hx4, hfr4, hz⟩ := hI30
        have hob0 := hx4.1
        refine r_iload dX8_mixBlocks_30 rfl ?_
        refine r_iconst dX8_mixBlocks_32 ?_
        refine r_icmp_gt (tgt := 59) dX8_mixBlocks_33 (by decide) (by omega) (by omega) (fun h33 => ?_) (fun h33 => ?_)
        ·
          refine r_iincT dX8_mixBlocks_59 rfl rfl ?_
          refine r_goto (tgt := 20) dX8_mixBlocks_62 (by decide) ?_
          refine J.loc (lsub_cons rfl (lsub_cons rfl (lsub_cons rfl (lsub_cons rfl (lsub_cons rfl (lsub_nil)))))) (ih20 _ _ M4 ?_ ?_)
          · exact ⟨by omega, by omega, hx4, hfr4, by rw [hz, show w = 6 by omega, show 6 * (b + 1) = 6 * b + 6 by omega]⟩
          · omega
        ·
          refine r_lload dX8_mixBlocks_36 rfl ?_
          refine r_aload_n dX8_mixBlocks_38 rfl ?_
          refine r_iload_n dX8_mixBlocks_39 rfl ?_
          refine r_iload dX8_mixBlocks_40 rfl ?_
          refine r_iload dX8_mixBlocks_42 rfl ?_
          refine r_callV3 okX8_block ⟨by decide, by decide⟩ ml_X8_301 (mX8_block_ok (bc := 0) (bs := 0) hx4 hv hi (by omega) (by omega) (by omega) ⟨h0, h1⟩ (by omega)) (by first | assumption | exact up_s _ _ _ | exact (up_n _ (by assumption)).trans (by assumption) | exact (up_n _ (by assumption)).trans (up_s _ _ _) | exact (up_n _ (by assumption)).trans ((up_n _ (by assumption)).trans (by assumption))) rfl rfl (Nat.le_of_ble_eq_true rfl) (Nat.le_of_ble_eq_true rfl) (Nat.le_of_ble_eq_true rfl) rfl dX8_mixBlocks_44 (nx_tI) (kx_tI ?_)
          intro M5 hM5
          refine r_i2l dX8_mixBlocks_47 ?_
          refine r_callS2 okX8_mix ⟨by decide, by decide⟩ ml_X8_237 (mX8_mix) (Nat.le_of_ble_eq_true rfl) (Nat.le_of_ble_eq_true rfl) (Nat.le_of_ble_eq_true rfl) rfl dX8_mixBlocks_48 (nx_L) (kx_L ?_)
          refine r_lstoreT dX8_mixBlocks_51 (by decide) rfl ?_
          refine r_iincT dX8_mixBlocks_53 rfl rfl ?_
          refine r_goto (tgt := 30) dX8_mixBlocks_56 (by decide) ?_
          refine J.loc (lsub_cons rfl (lsub_cons rfl (lsub_cons rfl (lsub_cons rfl (lsub_cons rfl (lsub_cons rfl (lsub_nil))))))) (ih30 _ _ M5 ?_ ?_)
          · exact ⟨by omega, by omega, hM5.1, hfr4.trans hM5.2, by rw [hz, show (6 * nbF (n k) (F k) (g 0) (g 1) - (6 * b + w)).toNat = (6 * nbF (n k) (F k) (g 0) (g 1) - (6 * b + (w + 1))).toNat + 1 by omega, hsF, show (6 * b + w) / 6 = b by omega, show (6 * b + w) % 6 = w by omega, show 6 * b + w + 1 = 6 * b + (w + 1) by omega]; rfl⟩
          · omega
      · exact ⟨by omega, by omega, hx1, hfr, by rw [hy]; simp⟩
  · exact ⟨by omega, by omega, hx2.1, hx2.2, by unfold hsB; simp⟩

set_option maxHeartbeats 4000000 in
theorem mX8_mixLooks {M : Mem} {ad : Int → Nat} {n : Int → Int} {F : Int → Int → Int} {g : Int → Int} {m : Int} {S : Int → Sg3} {len : Int} {c : Int → Int} {k : Int} {h : Int64} (hx : XSt M ad (n, F, g) m S len c) (hv : Vld (n, F, g)) (hi : Inj ad) (h0 : 0 ≤ k) (h1 : k < 4) : Ct KX8_mixLooks [.ref (ad 0), .long h, vI k] M 0 0 (atL (hsK n F g k h) (fun M2 => XSt M2 ad (n, F, g) m S len c ∧ FrI ad 0 112 M M2)) := by
  refine Ct.of _ (by decide) rfl (Nat.le_of_ble_eq_true rfl) ?_
  obtain ⟨h00, hst, hhs, hbf, hpw, hbw, hmw, ⟨tn, tF, htr⟩, ⟨wn, wF, hwi⟩⟩ := id hx
  obtain ⟨hvs, hv0, hv1, hv2, hv3⟩ := id hv
  change StP _ ad 1 n F g at hst
  dsimp only at hvs hv0 hv1 hv2 hv3
  refine r_lload_n dX8_mixLooks_0 rfl ?_
  refine r_aload_n dX8_mixLooks_1 rfl ?_
  refine r_iload_n dX8_mixLooks_2 rfl ?_
  refine r_iconst dX8_mixLooks_3 ?_
  refine r_callV2 okX8_dearest ⟨by decide, by decide⟩ ml_X8_305 (mX8_dearest_ok (bc := 0) (bs := 0) hx hv hi (by omega) (by omega) ⟨h0, h1⟩ (by omega)) (by first | assumption | exact up_s _ _ _ | exact (up_n _ (by assumption)).trans (by assumption) | exact (up_n _ (by assumption)).trans (up_s _ _ _) | exact (up_n _ (by assumption)).trans ((up_n _ (by assumption)).trans (by assumption))) rfl rfl (Nat.le_of_ble_eq_true rfl) (Nat.le_of_ble_eq_true rfl) (Nat.le_of_ble_eq_true rfl) rfl dX8_mixLooks_4 (nx_tI) (kx_tI ?_)
  intro M2 hM2
  have hb2 := hM2.1.1
  refine r_i2l dX8_mixLooks_7 ?_
  refine r_callS2 okX8_mix ⟨by decide, by decide⟩ ml_X8_237 (mX8_mix) (Nat.le_of_ble_eq_true rfl) (Nat.le_of_ble_eq_true rfl) (Nat.le_of_ble_eq_true rfl) rfl dX8_mixLooks_8 (nx_L) (kx_L ?_)
  refine r_lstoreT dX8_mixLooks_11 (by decide) rfl ?_
  refine r_lload dX8_mixLooks_13 rfl ?_
  refine r_aload_n dX8_mixLooks_15 rfl ?_
  refine r_iload_n dX8_mixLooks_16 rfl ?_
  refine r_iconst dX8_mixLooks_17 ?_
  refine r_callV2 okX8_dearest ⟨by decide, by decide⟩ ml_X8_305 (mX8_dearest_ok (bc := 0) (bs := 0) hM2.1 hv hi (by omega) (by omega) ⟨h0, h1⟩ (by omega)) (by first | assumption | exact up_s _ _ _ | exact (up_n _ (by assumption)).trans (by assumption) | exact (up_n _ (by assumption)).trans (up_s _ _ _) | exact (up_n _ (by assumption)).trans ((up_n _ (by assumption)).trans (by assumption))) rfl rfl (Nat.le_of_ble_eq_true rfl) (Nat.le_of_ble_eq_true rfl) (Nat.le_of_ble_eq_true rfl) rfl dX8_mixLooks_18 (nx_tI) (kx_tI ?_)
  intro M3 hM3
  have hb3 := hM3.1.1
  refine r_i2l dX8_mixLooks_21 ?_
  refine r_callS2 okX8_mix ⟨by decide, by decide⟩ ml_X8_237 (mX8_mix) (Nat.le_of_ble_eq_true rfl) (Nat.le_of_ble_eq_true rfl) (Nat.le_of_ble_eq_true rfl) rfl dX8_mixLooks_22 (nx_L) (kx_L ?_)
  refine r_lstoreT dX8_mixLooks_25 (by decide) rfl ?_
  refine r_lload dX8_mixLooks_27 rfl ?_
  refine r_aload_n dX8_mixLooks_29 rfl ?_
  refine r_iload_n dX8_mixLooks_30 rfl ?_
  refine r_sipush dX8_mixLooks_31 (by decide) ?_
  refine r_callV2 okX8_ifAdded ⟨by decide, by decide⟩ ml_X8_308 (mX8_ifAdded_ok (bc := 0) (bs := 0) hM3.1 hv hi (by omega) (by omega) ⟨h0, h1⟩ (by omega)) (by first | assumption | exact up_s _ _ _ | exact (up_n _ (by assumption)).trans (by assumption) | exact (up_n _ (by assumption)).trans (up_s _ _ _) | exact (up_n _ (by assumption)).trans ((up_n _ (by assumption)).trans (by assumption))) rfl rfl (Nat.le_of_ble_eq_true rfl) (Nat.le_of_ble_eq_true rfl) (Nat.le_of_ble_eq_true rfl) rfl dX8_mixLooks_34 (nx_tI) (kx_tI ?_)
  intro M4 hM4
  have hb4 := hM4.1.1
  refine r_i2l dX8_mixLooks_37 ?_
  refine r_callS2 okX8_mix ⟨by decide, by decide⟩ ml_X8_237 (mX8_mix) (Nat.le_of_ble_eq_true rfl) (Nat.le_of_ble_eq_true rfl) (Nat.le_of_ble_eq_true rfl) rfl dX8_mixLooks_38 (nx_L) (kx_L ?_)
  refine r_lstoreT dX8_mixLooks_41 (by decide) rfl ?_
  refine r_lload dX8_mixLooks_43 rfl ?_
  refine r_aload_n dX8_mixLooks_45 rfl ?_
  refine r_iload_n dX8_mixLooks_46 rfl ?_
  refine r_sipush dX8_mixLooks_47 (by decide) ?_
  refine r_callV2 okX8_nearest ⟨by decide, by decide⟩ ml_X8_311 (mX8_nearest_ok (bc := 0) (bs := 0) hM4.1 hv hi (by omega) (by omega) ⟨h0, h1⟩ (by omega)) (by first | assumption | exact up_s _ _ _ | exact (up_n _ (by assumption)).trans (by assumption) | exact (up_n _ (by assumption)).trans (up_s _ _ _) | exact (up_n _ (by assumption)).trans ((up_n _ (by assumption)).trans (by assumption))) rfl rfl (Nat.le_of_ble_eq_true rfl) (Nat.le_of_ble_eq_true rfl) (Nat.le_of_ble_eq_true rfl) rfl dX8_mixLooks_50 (nx_tI) (kx_tI ?_)
  intro M5 hM5
  obtain ⟨h00, hst, hhs, hbf, hpw, hbw, hmw, ⟨tn, tF, htr⟩, ⟨wn, wF, hwi⟩⟩ := id hM5.1
  change StP _ ad 1 n F g at hst
  have hob1 := hst.1
  obtain ⟨hh_1, hh_2, hh_3, hh_4, hh_5, hho, -⟩ := id hhs
  have hob94 := hbf.1
  obtain ⟨⟨y1, y2, y3, y4, y5, y6, hob96⟩, -, -⟩ := id hpw
  obtain ⟨z1, z2, z3, hob99, -⟩ := id hbw
  obtain ⟨⟨u1, hob101⟩, -, -⟩ := id hmw
  have hob108 := htr.1
  have hob110 := hwi.1
  refine r_i2l dX8_mixLooks_53 ?_
  refine r_callS2 okX8_mix ⟨by decide, by decide⟩ ml_X8_237 (mX8_mix) (Nat.le_of_ble_eq_true rfl) (Nat.le_of_ble_eq_true rfl) (Nat.le_of_ble_eq_true rfl) rfl dX8_mixLooks_54 (nx_L) (kx_L ?_)
  refine r_lstoreT dX8_mixLooks_57 (by decide) rfl ?_
  refine r_aload_n dX8_mixLooks_59 rfl ?_
  refine r_getfield clX8 5 (by decide) fl_X8_47 (by first | assumption | exact up_s _ _ _ | exact (up_n _ (by assumption)).trans (by assumption) | exact (up_n _ (by assumption)).trans (up_s _ _ _) | exact (up_n _ (by assumption)).trans ((up_n _ (by assumption)).trans (by assumption))) rfl dX8_mixLooks_60 ?_
  refine r_aload_n dX8_mixLooks_63 rfl ?_
  refine r_getfield clX8 0 (by decide) fl_X8_10 (by first | assumption | exact up_s _ _ _ | exact (up_n _ (by assumption)).trans (by assumption) | exact (up_n _ (by assumption)).trans (up_s _ _ _) | exact (up_n _ (by assumption)).trans ((up_n _ (by assumption)).trans (by assumption))) rfl dX8_mixLooks_64 ?_
  refine r_iload_n dX8_mixLooks_67 rfl ?_
  refine r_iconst dX8_mixLooks_68 ?_
  refine r_callV3 okX4_run ⟨by decide, by decide⟩ ml_X8_201 (mX4_run hmw hst hi ⟨h0, h1⟩ (by omega) ⟨hv0, hv1⟩ ⟨hv2, hv3⟩ (hvs k h0 h1)) (by first | assumption | exact up_s _ _ _ | exact (up_n _ (by assumption)).trans (by assumption) | exact (up_n _ (by assumption)).trans (up_s _ _ _) | exact (up_n _ (by assumption)).trans ((up_n _ (by assumption)).trans (by assumption))) rfl rfl (Nat.le_of_ble_eq_true rfl) (Nat.le_of_ble_eq_true rfl) (Nat.le_of_ble_eq_true rfl) rfl dX8_mixLooks_69 (nx_tV) (kx_tV ?_)
  intro M6 hM6
  obtain ⟨hmd, hmw2, hfr2⟩ := hM6
  have hx6 := hM5.1.goM hi hmw2 hfr2
  have hb6 := hx6.1.1
  have hob6 := hmw2.1.choose_spec
  refine r_iconst dX8_mixLooks_72 ?_
  refine r_istoreT dX8_mixLooks_73 (by decide) rfl ?_
  refine J.loc (L' := [(0, some _), (3, some _), (4, some _), (6, some _)]) (lsub_cons rfl (lsub_cons rfl (lsub_cons rfl (lsub_cons rfl (lsub_nil))))) (loop2 (fun (w : Int) (y : Int64) => 0 ≤ w ∧ w ≤ 4 ∧ hsK n F g k h = hsF (tolF (mtS n F g k 0)) (4 - w).toNat w y) (fun (w : Int) (y : Int64) => (4 - w).toNat) (fun (w : Int) (y : Int64) => J KX8_mixLooks 0 0 _ 75 [(0, some (.ref (ad 0))), (3, some (vI k)), (4, some (.long y)), (6, some (vI w))] [] M6 _ _) (fun w y hI75 ih75 => ?_) _ _ ?_)
  ·
    obtain ⟨hw0, hw1, hy⟩ := hI75
    refine r_iload dX8_mixLooks_75 rfl ?_
    refine r_iconst dX8_mixLooks_77 ?_
    refine r_icmp_gt (tgt := 104) dX8_mixLooks_78 (by decide) (by omega) (by omega) (fun h78 => ?_) (fun h78 => ?_)
    ·
      refine r_lload dX8_mixLooks_104 rfl ?_
      refine e_lreturn dX8_mixLooks_106 rfl (Nat.le_of_ble_eq_true rfl) (Nat.le_of_ble_eq_true rfl) ?_
      exact oktL (by rw [hy, show (4 - w).toNat = 0 by omega, hsF]) ⟨hx6.1, hM2.2.trans (hM3.2.trans (hM4.2.trans (hM5.2.trans hx6.2)))⟩
    ·
      refine r_lload dX8_mixLooks_81 rfl ?_
      refine r_aload_n dX8_mixLooks_83 rfl ?_
      refine r_getfield clX8 5 (by decide) fl_X8_47 (by first | assumption | exact up_s _ _ _ | exact (up_n _ (by assumption)).trans (by assumption) | exact (up_n _ (by assumption)).trans (up_s _ _ _) | exact (up_n _ (by assumption)).trans ((up_n _ (by assumption)).trans (by assumption))) rfl dX8_mixLooks_84 ?_
      refine r_iload dX8_mixLooks_87 rfl ?_
      refine r_callV1 okX4_result ⟨by decide, by decide⟩ ml_X8_205 (mX4_result hmd (by omega)) (by first | assumption | exact up_s _ _ _ | exact (up_n _ (by assumption)).trans (by assumption) | exact (up_n _ (by assumption)).trans (up_s _ _ _) | exact (up_n _ (by assumption)).trans ((up_n _ (by assumption)).trans (by assumption))) rfl rfl (Nat.le_of_ble_eq_true rfl) (Nat.le_of_ble_eq_true rfl) (Nat.le_of_ble_eq_true rfl) rfl dX8_mixLooks_89 (nx_I) (kx_I ?_)
      refine r_i2l dX8_mixLooks_92 ?_
      refine r_callS2 okX8_mix ⟨by decide, by decide⟩ ml_X8_237 (mX8_mix) (Nat.le_of_ble_eq_true rfl) (Nat.le_of_ble_eq_true rfl) (Nat.le_of_ble_eq_true rfl) rfl dX8_mixLooks_93 (nx_L) (kx_L ?_)
      refine r_lstoreT dX8_mixLooks_96 (by decide) rfl ?_
      refine r_iincT dX8_mixLooks_98 rfl rfl ?_
      refine r_goto (tgt := 75) dX8_mixLooks_101 (by decide) ?_
      refine J.loc (lsub_cons rfl (lsub_cons rfl (lsub_cons rfl (lsub_cons rfl (lsub_nil))))) (ih75 _ _ ?_ ?_)
      · exact ⟨by omega, by omega, by rw [hy, show (4 - w).toNat = (4 - (w + 1)).toNat + 1 by omega, hsF]; rfl⟩
      · omega
  · exact ⟨by omega, by omega, rfl⟩

set_option maxHeartbeats 4000000 in
theorem mX8_mixBuffer {M : Mem} {ad : Int → Nat} {n : Int → Int} {F : Int → Int → Int} {g : Int → Int} {m : Int} {S : Int → Sg3} {len : Int} {c : Int → Int} {h : Int64} (hx : XSt M ad (n, F, g) m S len c) (hv : Vld (n, F, g)) (hi : Inj ad) : Ct KX8_mixBuffer [.ref (ad 0), .long h] M 0 0 (rtL (hsF c len.toNat 0 (hsI h len)) M) := by
  refine Ct.of _ (by decide) rfl (Nat.le_of_ble_eq_true rfl) ?_
  obtain ⟨h00, hst, hhs, hbf, hpw, hbw, hmw, ⟨tn, tF, htr⟩, ⟨wn, wF, hwi⟩⟩ := id hx
  obtain ⟨hvs, hv0, hv1, hv2, hv3⟩ := id hv
  change StP _ ad 1 n F g at hst
  dsimp only at hvs hv0 hv1 hv2 hv3
  have hob1 := hst.1
  obtain ⟨hh_1, hh_2, hh_3, hh_4, hh_5, hho, -⟩ := id hhs
  have hob94 := hbf.1
  obtain ⟨⟨y1, y2, y3, y4, y5, y6, hob96⟩, -, -⟩ := id hpw
  obtain ⟨z1, z2, z3, hob99, -⟩ := id hbw
  obtain ⟨⟨u1, hob101⟩, -, -⟩ := id hmw
  have hob108 := htr.1
  have hob110 := hwi.1
  have hl0 := hbf.2.2.1
  have hl1 := hbf.2.2.2.1
  refine r_lload_n dX8_mixBuffer_0 rfl ?_
  refine r_aload_n dX8_mixBuffer_1 rfl ?_
  refine r_getfield clX8 2 (by decide) fl_X8_26 (by first | assumption | exact up_s _ _ _ | exact (up_n _ (by assumption)).trans (by assumption) | exact (up_n _ (by assumption)).trans (up_s _ _ _) | exact (up_n _ (by assumption)).trans ((up_n _ (by assumption)).trans (by assumption))) rfl dX8_mixBuffer_2 ?_
  refine r_callV0 okX1_length ⟨by decide, by decide⟩ ml_X8_137 (mX1_length hbf) (by first | assumption | exact up_s _ _ _ | exact (up_n _ (by assumption)).trans (by assumption) | exact (up_n _ (by assumption)).trans (up_s _ _ _) | exact (up_n _ (by assumption)).trans ((up_n _ (by assumption)).trans (by assumption))) rfl rfl (Nat.le_of_ble_eq_true rfl) (Nat.le_of_ble_eq_true rfl) (Nat.le_of_ble_eq_true rfl) rfl dX8_mixBuffer_5 (nx_I) (kx_I ?_)
  refine r_i2l dX8_mixBuffer_8 ?_
  refine r_callS2 okX8_mix ⟨by decide, by decide⟩ ml_X8_237 (mX8_mix) (Nat.le_of_ble_eq_true rfl) (Nat.le_of_ble_eq_true rfl) (Nat.le_of_ble_eq_true rfl) rfl dX8_mixBuffer_9 (nx_L) (kx_L ?_)
  refine r_lstore_nT dX8_mixBuffer_12 (by decide) rfl ?_
  refine r_iconst dX8_mixBuffer_13 ?_
  refine r_istoreT dX8_mixBuffer_14 (by decide) rfl ?_
  refine J.loc (L' := [(0, some _), (3, some _), (5, some _)]) (lsub_cons rfl (lsub_cons rfl (lsub_cons rfl (lsub_nil)))) (loop2 (fun (p : Int) (y : Int64) => 0 ≤ p ∧ p ≤ len ∧ hsF c len.toNat 0 (hsI h len) = hsF c (len - p).toNat p y) (fun (p : Int) (y : Int64) => (len - p).toNat) (fun (p : Int) (y : Int64) => J KX8_mixBuffer 0 0 _ 16 [(0, some (.ref (ad 0))), (3, some (.long y)), (5, some (vI p))] [] M _ _) (fun p y hI16 ih16 => ?_) _ _ ?_)
  ·
    obtain ⟨hp0, hp1, hy⟩ := hI16
    refine r_iload dX8_mixBuffer_16 rfl ?_
    refine r_aload_n dX8_mixBuffer_18 rfl ?_
    refine r_getfield clX8 2 (by decide) fl_X8_26 (by first | assumption | exact up_s _ _ _ | exact (up_n _ (by assumption)).trans (by assumption) | exact (up_n _ (by assumption)).trans (up_s _ _ _) | exact (up_n _ (by assumption)).trans ((up_n _ (by assumption)).trans (by assumption))) rfl dX8_mixBuffer_19 ?_
    refine r_callV0 okX1_length ⟨by decide, by decide⟩ ml_X8_137 (mX1_length hbf) (by first | assumption | exact up_s _ _ _ | exact (up_n _ (by assumption)).trans (by assumption) | exact (up_n _ (by assumption)).trans (up_s _ _ _) | exact (up_n _ (by assumption)).trans ((up_n _ (by assumption)).trans (by assumption))) rfl rfl (Nat.le_of_ble_eq_true rfl) (Nat.le_of_ble_eq_true rfl) (Nat.le_of_ble_eq_true rfl) rfl dX8_mixBuffer_22 (nx_I) (kx_I ?_)
    refine r_icmp_ge (tgt := 49) dX8_mixBuffer_25 (by decide) (by omega) (by omega) (fun h25 => ?_) (fun h25 => ?_)
    ·
      refine r_lload_n dX8_mixBuffer_49 rfl ?_
      refine e_lreturn dX8_mixBuffer_50 rfl (Nat.le_of_ble_eq_true rfl) (Nat.le_of_ble_eq_true rfl) ?_
      exact okL (by rw [hy, show (len - p).toNat = 0 by omega, hsF])
    ·
      refine r_lload_n dX8_mixBuffer_28 rfl ?_
      refine r_aload_n dX8_mixBuffer_29 rfl ?_
      refine r_getfield clX8 2 (by decide) fl_X8_26 (by first | assumption | exact up_s _ _ _ | exact (up_n _ (by assumption)).trans (by assumption) | exact (up_n _ (by assumption)).trans (up_s _ _ _) | exact (up_n _ (by assumption)).trans ((up_n _ (by assumption)).trans (by assumption))) rfl dX8_mixBuffer_30 ?_
      refine r_iload dX8_mixBuffer_33 rfl ?_
      refine r_callV1 okX1_at ⟨by decide, by decide⟩ ml_X8_314 (mX1_at hbf (by omega) (by omega)) (by first | assumption | exact up_s _ _ _ | exact (up_n _ (by assumption)).trans (by assumption) | exact (up_n _ (by assumption)).trans (up_s _ _ _) | exact (up_n _ (by assumption)).trans ((up_n _ (by assumption)).trans (by assumption))) rfl rfl (Nat.le_of_ble_eq_true rfl) (Nat.le_of_ble_eq_true rfl) (Nat.le_of_ble_eq_true rfl) rfl dX8_mixBuffer_35 (nx_I) (kx_I ?_)
      refine r_i2l dX8_mixBuffer_38 ?_
      refine r_callS2 okX8_mix ⟨by decide, by decide⟩ ml_X8_237 (mX8_mix) (Nat.le_of_ble_eq_true rfl) (Nat.le_of_ble_eq_true rfl) (Nat.le_of_ble_eq_true rfl) rfl dX8_mixBuffer_39 (nx_L) (kx_L ?_)
      refine r_lstore_nT dX8_mixBuffer_42 (by decide) rfl ?_
      refine r_iincT dX8_mixBuffer_43 rfl rfl ?_
      refine r_goto (tgt := 16) dX8_mixBuffer_46 (by decide) ?_
      refine J.loc (lsub_cons rfl (lsub_cons rfl (lsub_cons rfl (lsub_nil)))) (ih16 _ _ ?_ ?_)
      · exact ⟨by omega, by omega, by rw [hy, show (len - p).toNat = (len - (p + 1)).toNat + 1 by omega, hsF]; rfl⟩
      · omega
  · exact ⟨by omega, by omega, by simp; rfl⟩

set_option maxHeartbeats 4000000 in
theorem mX8_digest {M : Mem} {ad : Int → Nat} {n : Int → Int} {F : Int → Int → Int} {g : Int → Int} {m : Int} {S : Int → Sg3} {len : Int} {c : Int → Int} (hx : XSt M ad (n, F, g) m S len c) (hv : Vld (n, F, g)) (hi : Inj ad) : Ct KX8_digest [.ref (ad 0)] M 0 0 (atL (dgV n F g m len c) (fun M2 => XSt M2 ad (n, F, g) m S len c ∧ FrI ad 0 112 M M2)) := by
  refine Ct.of _ (by decide) rfl (Nat.le_of_ble_eq_true rfl) ?_
  obtain ⟨h00, hst, hhs, hbf, hpw, hbw, hmw, ⟨tn, tF, htr⟩, ⟨wn, wF, hwi⟩⟩ := id hx
  obtain ⟨hvs, hv0, hv1, hv2, hv3⟩ := id hv
  change StP _ ad 1 n F g at hst
  dsimp only at hvs hv0 hv1 hv2 hv3
  refine r_ldc2 dX8_digest_0 kl_X8_232 ?_
  refine r_lstore_nT dX8_digest_3 (by decide) rfl ?_
  refine r_iconst dX8_digest_4 ?_
  refine r_istore_nT dX8_digest_5 (by decide) rfl ?_
  refine J.loc (L' := [(0, some _), (1, some _), (3, some _)]) (lsub_cons rfl (lsub_cons rfl (lsub_cons rfl (lsub_nil)))) (loop3 (fun (w : Int) (y : Int64) (M1 : Mem) => 0 ≤ w ∧ w ≤ 7 ∧ XSt M1 ad (n, F, g) m S len c ∧ FrI ad 0 112 M M1 ∧ hsF (cntV n F g m) 7 0 2617 = hsF (cntV n F g m) (7 - w).toNat w y) (fun (w : Int) (y : Int64) (M1 : Mem) => (7 - w).toNat) (fun (w : Int) (y : Int64) (M1 : Mem) => J KX8_digest 0 0 _ 6 [(0, some (.ref (ad 0))), (1, some (.long y)), (3, some (vI w))] [] M1 _ _) (fun w y M1 hI6 ih6 => ?_) _ _ M ?_)
  ·
    obtain ⟨hw0, hw1, hx1, hfr1, hy⟩ := hI6
    obtain ⟨h00, hst, hhs, hbf, hpw, hbw, hmw, ⟨tn, tF, htr⟩, ⟨wn, wF, hwi⟩⟩ := id hx1
    change StP _ ad 1 n F g at hst
    have hob1 := hst.1
    obtain ⟨hh_1, hh_2, hh_3, hh_4, hh_5, hho, -⟩ := id hhs
    have hob94 := hbf.1
    obtain ⟨⟨y1, y2, y3, y4, y5, y6, hob96⟩, -, -⟩ := id hpw
    obtain ⟨z1, z2, z3, hob99, -⟩ := id hbw
    obtain ⟨⟨u1, hob101⟩, -, -⟩ := id hmw
    have hob108 := htr.1
    have hob110 := hwi.1
    refine r_iload_n dX8_digest_6 rfl ?_
    refine r_bipush dX8_digest_7 (by decide) ?_
    refine r_icmp_gt (tgt := 29) dX8_digest_9 (by decide) (by omega) (by omega) (fun h9 => ?_) (fun h9 => ?_)
    ·
      refine r_iconst dX8_digest_29 ?_
      refine r_istore_nT dX8_digest_30 (by decide) rfl ?_
      refine J.loc (L' := [(0, some _), (1, some _), (3, some _)]) (lsub_cons rfl (lsub_cons rfl (lsub_cons rfl (lsub_nil)))) (loop2 (fun (w : Int) (z : Int64) => 0 ≤ w ∧ w ≤ 2 ∧ hsF g 2 0 (hsF (cntV n F g m) 7 0 2617) = hsF g (2 - w).toNat w z) (fun (w : Int) (z : Int64) => (2 - w).toNat) (fun (w : Int) (z : Int64) => J KX8_digest 0 0 _ 31 [(0, some (.ref (ad 0))), (1, some (.long z)), (3, some (vI w))] [] M1 _ _) (fun w z hI31 ih31 => ?_) _ _ ?_)
      ·
        obtain ⟨hv0w, hv1w, hz⟩ := hI31
        refine r_iload_n dX8_digest_31 rfl ?_
        refine r_iconst dX8_digest_32 ?_
        refine r_icmp_ge (tgt := 56) dX8_digest_33 (by decide) (by omega) (by omega) (fun h33 => ?_) (fun h33 => ?_)
        ·
          refine r_iconst dX8_digest_56 ?_
          refine r_istore_nT dX8_digest_57 (by decide) rfl ?_
          refine J.loc (L' := [(0, some _), (1, some _), (3, some _)]) (lsub_cons rfl (lsub_cons rfl (lsub_cons rfl (lsub_nil)))) (loop3 (fun (k : Int) (u : Int64) (M3 : Mem) => 0 ≤ k ∧ k ≤ 4 ∧ XSt M3 ad (n, F, g) m S len c ∧ FrI ad 0 112 M M3 ∧ hsS n F g 4 0 (hsF g 2 0 (hsF (cntV n F g m) 7 0 2617)) = hsS n F g (4 - k).toNat k u) (fun (k : Int) (u : Int64) (M3 : Mem) => (4 - k).toNat) (fun (k : Int) (u : Int64) (M3 : Mem) => J KX8_digest 0 0 _ 58 [(0, some (.ref (ad 0))), (1, some (.long u)), (3, some (vI k))] [] M3 _ _) (fun k u M3 hI58 ih58 => ?_) _ _ M1 ?_)
          ·
            obtain ⟨hk0, hk1, hx3, hfr3, hu⟩ := hI58
            have hb3 := hx3.1
            refine r_iload_n dX8_digest_58 rfl ?_
            refine r_iconst dX8_digest_59 ?_
            refine r_icmp_ge (tgt := 90) dX8_digest_60 (by decide) (by omega) (by omega) (fun h60 => ?_) (fun h60 => ?_)
            ·
              refine r_lload_n dX8_digest_90 rfl ?_
              refine r_aload_n dX8_digest_91 rfl ?_
              refine r_callV0 okX8_bestWidth ⟨by decide, by decide⟩ ml_X8_251 (mX8_bestWidth hx3 hv hi) (by first | assumption | exact up_s _ _ _ | exact (up_n _ (by assumption)).trans (by assumption) | exact (up_n _ (by assumption)).trans (up_s _ _ _) | exact (up_n _ (by assumption)).trans ((up_n _ (by assumption)).trans (by assumption))) rfl rfl (Nat.le_of_ble_eq_true rfl) (Nat.le_of_ble_eq_true rfl) (Nat.le_of_ble_eq_true rfl) rfl dX8_digest_92 (nx_tI) (kx_tI ?_)
              intro M7 hM7
              obtain ⟨h00, hst, hhs, hbf, hpw, hbw, hmw, ⟨tn, tF, htr⟩, ⟨wn, wF, hwi⟩⟩ := id hM7.1
              change StP _ ad 1 n F g at hst
              have hob1 := hst.1
              obtain ⟨hh_1, hh_2, hh_3, hh_4, hh_5, hho, -⟩ := id hhs
              have hob94 := hbf.1
              obtain ⟨⟨y1, y2, y3, y4, y5, y6, hob96⟩, -, -⟩ := id hpw
              obtain ⟨z1, z2, z3, hob99, -⟩ := id hbw
              obtain ⟨⟨u1, hob101⟩, -, -⟩ := id hmw
              have hob108 := htr.1
              have hob110 := hwi.1
              have hsts : Sts n F := fun k a b => ⟨(hst.mb a b).2.2.1, (hst.mb a b).2.2.2.1, hvs k a b, (hst.mb a b).2.2.2.2.2⟩
              obtain ⟨cc, qq, hsm, hs1, hs2, hs3⟩ := smV_ok hsts g
              refine r_i2l dX8_digest_95 ?_
              refine r_callS2 okX8_mix ⟨by decide, by decide⟩ ml_X8_237 (mX8_mix) (Nat.le_of_ble_eq_true rfl) (Nat.le_of_ble_eq_true rfl) (Nat.le_of_ble_eq_true rfl) rfl dX8_digest_96 (nx_L) (kx_L ?_)
              refine r_lstore_nT dX8_digest_99 (by decide) rfl ?_
              refine r_lload_n dX8_digest_100 rfl ?_
              refine r_aload_n dX8_digest_101 rfl ?_
              refine r_callV0 okX8_smallness ⟨by decide, by decide⟩ ml_X8_254 (mX8_smallness hM7.1 hv hi) (by first | assumption | exact up_s _ _ _ | exact (up_n _ (by assumption)).trans (by assumption) | exact (up_n _ (by assumption)).trans (up_s _ _ _) | exact (up_n _ (by assumption)).trans ((up_n _ (by assumption)).trans (by assumption))) rfl rfl (Nat.le_of_ble_eq_true rfl) (Nat.le_of_ble_eq_true rfl) (Nat.le_of_ble_eq_true rfl) rfl dX8_digest_102 (nx_D) (kx_D ?_)
              refine r_callS1 okX8_bitsOf ⟨by decide, by decide⟩ ml_X8_258 (mX8_bitsOf hsm hs1 hs2 hs3) (Nat.le_of_ble_eq_true rfl) (Nat.le_of_ble_eq_true rfl) (Nat.le_of_ble_eq_true rfl) rfl dX8_digest_105 (nx_L) (kx_L ?_)
              refine r_callS2 okX8_mix ⟨by decide, by decide⟩ ml_X8_237 (mX8_mix) (Nat.le_of_ble_eq_true rfl) (Nat.le_of_ble_eq_true rfl) (Nat.le_of_ble_eq_true rfl) rfl dX8_digest_108 (nx_L) (kx_L ?_)
              refine r_lstore_nT dX8_digest_111 (by decide) rfl ?_
              refine r_aload_n dX8_digest_112 rfl ?_
              refine r_lload_n dX8_digest_113 rfl ?_
              refine r_callV1 okX8_mixBuffer ⟨by decide, by decide⟩ ml_X8_262 (mX8_mixBuffer hM7.1 hv hi) (by first | assumption | exact up_s _ _ _ | exact (up_n _ (by assumption)).trans (by assumption) | exact (up_n _ (by assumption)).trans (up_s _ _ _) | exact (up_n _ (by assumption)).trans ((up_n _ (by assumption)).trans (by assumption))) rfl rfl (Nat.le_of_ble_eq_true rfl) (Nat.le_of_ble_eq_true rfl) (Nat.le_of_ble_eq_true rfl) rfl dX8_digest_114 (nx_L) (kx_L ?_)
              refine e_lreturn dX8_digest_117 rfl (Nat.le_of_ble_eq_true rfl) (Nat.le_of_ble_eq_true rfl) ?_
              exact oktL (by unfold dgV hsE; rw [hu, show (4 - k).toNat = 0 by omega, hsS]; rfl) ⟨hM7.1, hfr3.trans hM7.2⟩
            ·
              refine r_aload_n dX8_digest_63 rfl ?_
              refine r_lload_n dX8_digest_64 rfl ?_
              refine r_iload_n dX8_digest_65 rfl ?_
              refine r_callV2 okX8_mixMembers ⟨by decide, by decide⟩ ml_X8_241 (mX8_mixMembers hx3 hv hi (by omega) (by omega)) (by first | assumption | exact up_s _ _ _ | exact (up_n _ (by assumption)).trans (by assumption) | exact (up_n _ (by assumption)).trans (up_s _ _ _) | exact (up_n _ (by assumption)).trans ((up_n _ (by assumption)).trans (by assumption))) rfl rfl (Nat.le_of_ble_eq_true rfl) (Nat.le_of_ble_eq_true rfl) (Nat.le_of_ble_eq_true rfl) rfl dX8_digest_66 (nx_tL) (kx_tL ?_)
              intro M4 hM4
              have hb4 := hM4.1.1
              refine r_lstore_nT dX8_digest_69 (by decide) rfl ?_
              refine r_aload_n dX8_digest_70 rfl ?_
              refine r_lload_n dX8_digest_71 rfl ?_
              refine r_iload_n dX8_digest_72 rfl ?_
              refine r_callV2 okX8_mixBlocks ⟨by decide, by decide⟩ ml_X8_245 (mX8_mixBlocks hM4.1 hv hi (by omega) (by omega)) (by first | assumption | exact up_s _ _ _ | exact (up_n _ (by assumption)).trans (by assumption) | exact (up_n _ (by assumption)).trans (up_s _ _ _) | exact (up_n _ (by assumption)).trans ((up_n _ (by assumption)).trans (by assumption))) rfl rfl (Nat.le_of_ble_eq_true rfl) (Nat.le_of_ble_eq_true rfl) (Nat.le_of_ble_eq_true rfl) rfl dX8_digest_73 (nx_tL) (kx_tL ?_)
              intro M5 hM5
              have hb5 := hM5.1.1
              refine r_lstore_nT dX8_digest_76 (by decide) rfl ?_
              refine r_aload_n dX8_digest_77 rfl ?_
              refine r_lload_n dX8_digest_78 rfl ?_
              refine r_iload_n dX8_digest_79 rfl ?_
              refine r_callV2 okX8_mixLooks ⟨by decide, by decide⟩ ml_X8_248 (mX8_mixLooks hM5.1 hv hi (by omega) (by omega)) (by first | assumption | exact up_s _ _ _ | exact (up_n _ (by assumption)).trans (by assumption) | exact (up_n _ (by assumption)).trans (up_s _ _ _) | exact (up_n _ (by assumption)).trans ((up_n _ (by assumption)).trans (by assumption))) rfl rfl (Nat.le_of_ble_eq_true rfl) (Nat.le_of_ble_eq_true rfl) (Nat.le_of_ble_eq_true rfl) rfl dX8_digest_80 (nx_tL) (kx_tL ?_)
              intro M6 hM6
              refine r_lstore_nT dX8_digest_83 (by decide) rfl ?_
              refine r_iincT dX8_digest_84 rfl rfl ?_
              refine r_goto (tgt := 58) dX8_digest_87 (by decide) ?_
              refine J.loc (lsub_cons rfl (lsub_cons rfl (lsub_cons rfl (lsub_nil)))) (ih58 _ _ M6 ?_ ?_)
              · exact ⟨by omega, by omega, hM6.1, hfr3.trans (hM4.2.trans (hM5.2.trans hM6.2)), by rw [hu, show (4 - k).toNat = (4 - (k + 1)).toNat + 1 by omega, hsS]⟩
              · omega
          · exact ⟨by omega, by omega, hx1, hfr1, by rw [hz, show (2 - w).toNat = 0 by omega, hsF]; rfl⟩
        ·
          refine r_lload_n dX8_digest_36 rfl ?_
          refine r_aload_n dX8_digest_37 rfl ?_
          refine r_getfield clX8 0 (by decide) fl_X8_10 (by first | assumption | exact up_s _ _ _ | exact (up_n _ (by assumption)).trans (by assumption) | exact (up_n _ (by assumption)).trans (up_s _ _ _) | exact (up_n _ (by assumption)).trans ((up_n _ (by assumption)).trans (by assumption))) rfl dX8_digest_38 ?_
          refine r_iload_n dX8_digest_41 rfl ?_
          refine r_callV1 okX7_valueOf ⟨by decide, by decide⟩ ml_X8_129 (mX7_valueOf hst (by omega)) (by first | assumption | exact up_s _ _ _ | exact (up_n _ (by assumption)).trans (by assumption) | exact (up_n _ (by assumption)).trans (up_s _ _ _) | exact (up_n _ (by assumption)).trans ((up_n _ (by assumption)).trans (by assumption))) rfl rfl (Nat.le_of_ble_eq_true rfl) (Nat.le_of_ble_eq_true rfl) (Nat.le_of_ble_eq_true rfl) rfl dX8_digest_42 (nx_I) (kx_I ?_)
          rw [show valG g w = g w by unfold valG; rw [if_pos (by omega)]]
          refine r_i2l dX8_digest_45 ?_
          refine r_callS2 okX8_mix ⟨by decide, by decide⟩ ml_X8_237 (mX8_mix) (Nat.le_of_ble_eq_true rfl) (Nat.le_of_ble_eq_true rfl) (Nat.le_of_ble_eq_true rfl) rfl dX8_digest_46 (nx_L) (kx_L ?_)
          refine r_lstore_nT dX8_digest_49 (by decide) rfl ?_
          refine r_iincT dX8_digest_50 rfl rfl ?_
          refine r_goto (tgt := 31) dX8_digest_53 (by decide) ?_
          refine J.loc (lsub_cons rfl (lsub_cons rfl (lsub_cons rfl (lsub_nil)))) (ih31 _ _ ?_ ?_)
          · exact ⟨by omega, by omega, by rw [hz, show (2 - w).toNat = (2 - (w + 1)).toNat + 1 by omega, hsF]; rfl⟩
          · omega
      · exact ⟨by omega, by omega, by rw [hy, show (7 - w).toNat = 0 by omega, hsF]; rfl⟩
    ·
      refine r_lload_n dX8_digest_12 rfl ?_
      refine r_aload_n dX8_digest_13 rfl ?_
      refine r_iload_n dX8_digest_14 rfl ?_
      refine r_callV1 okX8_count ⟨by decide, by decide⟩ ml_X8_234 (mX8_count_ok (bc := 0) (bs := 0) hx1 hv hi (by omega) (by omega)) (by first | assumption | exact up_s _ _ _ | exact (up_n _ (by assumption)).trans (by assumption) | exact (up_n _ (by assumption)).trans (up_s _ _ _) | exact (up_n _ (by assumption)).trans ((up_n _ (by assumption)).trans (by assumption))) rfl rfl (Nat.le_of_ble_eq_true rfl) (Nat.le_of_ble_eq_true rfl) (Nat.le_of_ble_eq_true rfl) rfl dX8_digest_15 (nx_tI) (kx_tI ?_)
      intro M2 hM2
      refine r_i2l dX8_digest_18 ?_
      refine r_callS2 okX8_mix ⟨by decide, by decide⟩ ml_X8_237 (mX8_mix) (Nat.le_of_ble_eq_true rfl) (Nat.le_of_ble_eq_true rfl) (Nat.le_of_ble_eq_true rfl) rfl dX8_digest_19 (nx_L) (kx_L ?_)
      refine r_lstore_nT dX8_digest_22 (by decide) rfl ?_
      refine r_iincT dX8_digest_23 rfl rfl ?_
      refine r_goto (tgt := 6) dX8_digest_26 (by decide) ?_
      refine J.loc (lsub_cons rfl (lsub_cons rfl (lsub_cons rfl (lsub_nil)))) (ih6 _ _ M2 ?_ ?_)
      · exact ⟨by omega, by omega, hM2.1, hfr1.trans hM2.2, by rw [hy, show (7 - w).toNat = (7 - (w + 1)).toNat + 1 by omega, hsF]; rfl⟩
      · omega
  · exact ⟨by omega, by omega, hx, FrI.rf, rfl⟩
