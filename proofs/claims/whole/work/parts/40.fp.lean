/-! numbers with a point: a share between 1/2 and 3/2, and its bits -/
abbrev V64 (x : UInt64) : Jvm.FP.Core.Datum := Jvm.FP.Core.val64 x
theorem fp_enc {x : UInt64} {c : Nat} {q : Int} (h : V64 x = .fin false c q) : x.toNat = Jvm.FP.Core.encode Jvm.FP.Core.b64 (.fin false c q) := by
  have h1 := Jvm.FP.Core.of64_val64 (a := x) (by rw [show Jvm.FP.Core.val64 x = _ from h]; exact fun h => nomatch h)
  have h2 := Jvm.FP.Core.val64_fits x
  rw [show Jvm.FP.Core.val64 x = _ from h] at h1 h2
  have h3 := Jvm.FP.Core.encode_lt Jvm.FP.Core.good_b64 _ h2
  rw [Jvm.FP.Core.size_b64] at h3
  rw [← h1]
  unfold Jvm.FP.Core.of64
  rw [UInt64.toNat_ofNat_of_lt' (by simpa using h3)]
theorem b64_tails : Jvm.FP.Core.b64.tails = 4503599627370496 := rfl
theorem b64_exps : Jvm.FP.Core.b64.exps = 2048 := rfl
theorem b64_qmin : Jvm.FP.Core.b64.qmin = -1074 := by decide
theorem b64_qmax : Jvm.FP.Core.b64.qmax = 971 := by decide
theorem fp_fits {c : Nat} {q : Int} (h : Jvm.FP.Core.fits Jvm.FP.Core.b64 (.fin false c q)) : c < 9007199254740992 ∧ -1074 ≤ q ∧ q ≤ 971 ∧ (q = -1074 ∨ 4503599627370496 ≤ c) := by
  obtain ⟨h1, h2, h3, h4⟩ := h
  rw [b64_qmin] at h2 h4
  rw [b64_qmax] at h3
  rw [b64_tails] at h4
  exact ⟨h1, h2, h3, h4⟩
theorem fp_mk {c : Nat} {q : Int} (h : c < 9007199254740992 ∧ -1074 ≤ q ∧ q ≤ 971 ∧ (q = -1074 ∨ 4503599627370496 ≤ c)) : Jvm.FP.Core.fits Jvm.FP.Core.b64 (.fin false c q) := by
  refine ⟨h.1, ?_, ?_, ?_⟩
  · rw [b64_qmin]; exact h.2.1
  · rw [b64_qmax]; exact h.2.2.1
  · rw [b64_qmin, b64_tails]; exact h.2.2.2
theorem fp_nat {x : UInt64} {c : Nat} {q : Int} (h : V64 x = .fin false c q) : x.toNat = if c < 4503599627370496 then c else ((q + 1074).toNat + 1) * 4503599627370496 + (c - 4503599627370496) := by
  rw [fp_enc h]
  unfold Jvm.FP.Core.encode Jvm.FP.Core.assemble
  rw [b64_tails, b64_exps, b64_qmin]
  simp only [Bool.toNat_false, Nat.zero_mul, Nat.zero_add, Int.sub_neg]
theorem fp_ok {x : UInt64} {c : Nat} {q : Int} (h : V64 x = .fin false c q) : vf_n64 x := by
  have h1 := fp_nat h
  have h2 := Jvm.FP.Core.val64_fits x
  rw [show Jvm.FP.Core.val64 x = _ from h] at h2
  obtain ⟨a1, a2, a3, a4⟩ := fp_fits h2
  unfold vf_n64
  rw [UInt64.le_iff_toNat_le, UInt64.toNat_and]
  refine Nat.le_trans Nat.and_le_left ?_
  show x.toNat ≤ 9218868437227405312
  rw [h1]
  split
  · omega
  · have h5 : (q + 1074).toNat + 1 ≤ 2046 := by omega
    have h6 : ((q + 1074).toNat + 1) * 4503599627370496 ≤ 9214364837600034816 := Nat.le_trans (Nat.mul_le_mul_right _ h5) (by decide)
    generalize ((q + 1074).toNat + 1) * 4503599627370496 = X at h6 ⊢
    omega
/-- a whole number has its place in the format, also far below -/
theorem fp_scale {t : Nat} (h0 : 0 < t) (h1 : t < 9007199254740992) : ∃ k : Nat, k ≤ 52 ∧ t * 2 ^ k < 9007199254740992 ∧ 4503599627370496 ≤ t * 2 ^ k := by
  have l1 : 2 ^ t.log2 ≤ t := Nat.log2_self_le (by omega)
  have l2 : t < 2 ^ (t.log2 + 1) := Nat.lt_log2_self
  have l3 : t.log2 < 53 := (Nat.pow_lt_pow_iff_right (by decide : 1 < 2)).mp (Nat.lt_of_le_of_lt l1 (by omega))
  refine ⟨52 - t.log2, by omega, ?_, ?_⟩
  · calc t * 2 ^ (52 - t.log2) < 2 ^ (t.log2 + 1) * 2 ^ (52 - t.log2) := Nat.mul_lt_mul_of_pos_right l2 (Nat.two_pow_pos _)
      _ = 2 ^ 53 := by rw [← Nat.pow_add]; congr 1; omega
  · calc 4503599627370496 = 2 ^ t.log2 * 2 ^ (52 - t.log2) := by rw [← Nat.pow_add, show t.log2 + (52 - t.log2) = 52 by omega]
      _ ≤ t * 2 ^ (52 - t.log2) := Nat.mul_le_mul_right _ l1
theorem fp_i2d {a : Nat} (h0 : 0 < a) (h1 : a < 1000000) : ∃ k : Nat, k ≤ 52 ∧ V64 (FP.i2d (iN a)) = .fin false (a * 2 ^ k) (-(k : Int)) := by
  obtain ⟨k, hk, h2, h3⟩ := fp_scale h0 (by omega)
  refine ⟨k, hk, ?_⟩
  show Jvm.FP.Core.val64 (Jvm.FP.Core.i2d (iN a)) = _
  rw [Jvm.FP.Core.val64_i2d, iN_toInt (by omega)]
  unfold Jvm.FP.Core.ofInt Jvm.FP.Core.round
  rw [decide_eq_false (by omega)]
  refine Jvm.FP.Core.roundRatio_exact Jvm.FP.Core.good_b64 (by decide) (fp_mk ⟨h2, by omega, by omega, Or.inr h3⟩) ?_
  rw [Int.natAbs_natCast, show ((0 : Int) - -(k : Int)).toNat = k by omega, show (-(k : Int) - 0).toNat = 0 by omega]
  simp
theorem fp_quot {a b : Nat} (hb : 0 < b) (h1 : b ≤ 2 * a) (h2 : 2 * a ≤ 3 * b) : ∃ (c : Nat) (q : Int), Jvm.FP.Core.roundRatio Jvm.FP.Core.b64 false a b 0 = .fin false c q ∧ 4503599627370496 ≤ c ∧ c < 9007199254740992 ∧ (q = -52 ∨ q = -53) := by
  have ha : 0 < a := by omega
  unfold Jvm.FP.Core.roundRatio
  rw [if_neg (by omega)]
  by_cases hab : b ≤ a
  · have hq : Jvm.FP.Core.quantum Jvm.FP.Core.b64 a b 0 = -52 := by
      refine Jvm.FP.Core.quantum_eq ha hb (by rw [b64_qmin]; omega) ?_ (Or.inr ?_)
      · show Jvm.FP.Core.Below a b ((1 : Nat) - (0 : Nat) : Int)
        rw [Jvm.FP.Core.below_iff]; omega
      · show ¬ Jvm.FP.Core.Below a b ((0 : Nat) - (0 : Nat) : Int)
        rw [Jvm.FP.Core.below_iff]; omega
    rw [hq]
    unfold Jvm.FP.Core.roundAt
    have hu : Jvm.FP.Core.unitsNum a 0 (-52) = a * 4503599627370496 := rfl
    have hd : Jvm.FP.Core.unitsDen b 0 (-52) = b := by show b * 1 = b; omega
    rw [hu, hd]
    have g1 : 4503599627370496 ≤ Jvm.FP.Core.nearest (a * 4503599627370496) b := Jvm.FP.Core.nearest_ge hb (by omega)
    have g2 : Jvm.FP.Core.nearest (a * 4503599627370496) b ≤ 6755399441055744 := Jvm.FP.Core.nearest_le hb (by omega)
    refine ⟨_, -52, ?_, g1, by omega, Or.inl rfl⟩
    unfold Jvm.FP.Core.settle
    rw [if_pos (show _ < 2 ^ Jvm.FP.Core.b64.p by show _ < 9007199254740992; omega)]
    unfold Jvm.FP.Core.bound
    rw [if_pos (by rw [b64_qmax]; omega)]
  · have hq : Jvm.FP.Core.quantum Jvm.FP.Core.b64 a b 0 = -53 := by
      refine Jvm.FP.Core.quantum_eq ha hb (by rw [b64_qmin]; omega) ?_ (Or.inr ?_)
      · show Jvm.FP.Core.Below a b ((0 : Nat) - (0 : Nat) : Int)
        rw [Jvm.FP.Core.below_iff]; omega
      · show ¬ Jvm.FP.Core.Below a b ((0 : Nat) - (1 : Nat) : Int)
        rw [Jvm.FP.Core.below_iff]; omega
    rw [hq]
    unfold Jvm.FP.Core.roundAt
    have hu : Jvm.FP.Core.unitsNum a 0 (-53) = a * 9007199254740992 := rfl
    have hd : Jvm.FP.Core.unitsDen b 0 (-53) = b := by show b * 1 = b; omega
    rw [hu, hd]
    have g1 : 4503599627370496 ≤ Jvm.FP.Core.nearest (a * 9007199254740992) b := Jvm.FP.Core.nearest_ge hb (by omega)
    have g2 : Jvm.FP.Core.nearest (a * 9007199254740992) b ≤ 9007199254740992 := Jvm.FP.Core.nearest_le hb (by omega)
    unfold Jvm.FP.Core.settle Jvm.FP.Core.bound
    by_cases e : Jvm.FP.Core.nearest (a * 9007199254740992) b < 9007199254740992
    · refine ⟨_, -53, ?_, g1, e, Or.inr rfl⟩
      rw [if_pos (show _ < 2 ^ Jvm.FP.Core.b64.p from e), if_pos (by rw [b64_qmax]; omega)]
    · refine ⟨4503599627370496, -52, ?_, by omega, by omega, Or.inl rfl⟩
      rw [if_neg (show ¬ _ < 2 ^ Jvm.FP.Core.b64.p from e), if_pos (by rw [b64_qmax]; omega)]
      rfl
/-- the share as a double -/
def shr (a b : Nat) : UInt64 := FP.ddiv (FP.i2d (iN a)) (FP.i2d (iN b))
theorem fp_shr {a b : Nat} (hb : 0 < b) (hb9 : b < 100000) (h1 : b ≤ 2 * a) (h2 : 2 * a ≤ 3 * b) : ∃ (c : Nat) (q : Int), V64 (shr a b) = .fin false c q ∧ 4503599627370496 ≤ c ∧ c < 9007199254740992 ∧ (q = -52 ∨ q = -53) := by
  obtain ⟨c, q, g1, g2⟩ := fp_quot hb h1 h2
  refine ⟨c, q, ?_, g2⟩
  obtain ⟨ka, hka, ha⟩ := fp_i2d (a := a) (by omega) (by omega)
  obtain ⟨kb, hkb, hb'⟩ := fp_i2d (a := b) hb (by omega)
  show Jvm.FP.Core.val64 (Jvm.FP.Core.ddiv _ _) = _
  rw [Jvm.FP.Core.val64_ddiv, show Jvm.FP.Core.val64 (FP.i2d (iN a)) = _ from ha, show Jvm.FP.Core.val64 (FP.i2d (iN b)) = _ from hb']
  simp only [Jvm.FP.Core.quotient]
  have hp := Nat.two_pow_pos kb
  rw [if_neg (by have := Nat.mul_pos hb hp; omega), ← g1]
  refine Jvm.FP.Core.roundRatio_congr (Nat.mul_pos hb hp) hb ?_
  by_cases e : ka ≤ kb
  · rw [show (-(ka : Int) - -(kb : Int) - 0).toNat = kb - ka by omega, show ((0 : Int) - (-(ka : Int) - -(kb : Int))).toNat = 0 by omega]
    have h3 : (2 : Nat) ^ kb = 2 ^ ka * 2 ^ (kb - ka) := by rw [← Nat.pow_add]; congr 1; omega
    rw [h3, Nat.pow_zero]
    ac_rfl
  · rw [show (-(ka : Int) - -(kb : Int) - 0).toNat = 0 by omega, show ((0 : Int) - (-(ka : Int) - -(kb : Int))).toNat = ka - kb by omega]
    have h3 : (2 : Nat) ^ ka = 2 ^ kb * 2 ^ (ka - kb) := by rw [← Nat.pow_add]; congr 1; omega
    rw [h3, Nat.pow_zero]
    ac_rfl
theorem v_one : V64 0x3ff0000000000000 = .fin false 4503599627370496 (-52) := by decide +kernel
theorem v_two : V64 0x4000000000000000 = .fin false 4503599627370496 (-51) := by decide +kernel
theorem v_big : V64 0x4330000000000000 = .fin false 4503599627370496 0 := by decide +kernel
/-- twice a share below 1 -/
theorem fp_dbl {x : UInt64} {c : Nat} (h : V64 x = .fin false c (-53)) (h1 : 4503599627370496 ≤ c) (h2 : c < 9007199254740992) : V64 (FP.dmul x 0x4000000000000000) = .fin false c (-52) := by
  show Jvm.FP.Core.val64 (Jvm.FP.Core.dmul _ _) = _
  rw [Jvm.FP.Core.val64_dmul, show Jvm.FP.Core.val64 x = _ from h, show Jvm.FP.Core.val64 0x4000000000000000 = _ from v_two]
  show Jvm.FP.Core.roundRatio Jvm.FP.Core.b64 false (c * 4503599627370496) 1 (-53 + -51) = _
  refine Jvm.FP.Core.roundRatio_exact Jvm.FP.Core.good_b64 (by decide) (fp_mk ⟨h2, by omega, by omega, Or.inr h1⟩) ?_
  rw [show ((-53 : Int) + -51 - -52).toNat = 0 from rfl, show ((-52 : Int) - (-53 + -51)).toNat = 52 from rfl]
  rw [show (2 : Nat) ^ 52 = 4503599627370496 from rfl, show (2 : Nat) ^ 0 = 1 from rfl]
  omega
/-- the fraction of a share from 1 on -/
theorem fp_frac {x : UInt64} {c : Nat} (h : V64 x = .fin false c (-52)) (h1 : 4503599627370496 ≤ c) (h2 : c < 9007199254740992) : ∃ (c' : Nat) (q' : Int), V64 (FP.dsub x 0x3ff0000000000000) = .fin false c' q' ∧ q' ≤ 0 ∧ c' * 4503599627370496 = (c - 4503599627370496) * 2 ^ (-q').toNat := by
  have hx : Jvm.FP.Core.val64 (FP.dsub x 0x3ff0000000000000) = Jvm.FP.Core.roundRatio Jvm.FP.Core.b64 false (c - 4503599627370496) 1 (-52) := by
    show Jvm.FP.Core.val64 (Jvm.FP.Core.dsub _ _) = _
    rw [Jvm.FP.Core.val64_dsub, show Jvm.FP.Core.val64 x = _ from h, show Jvm.FP.Core.val64 0x3ff0000000000000 = _ from v_one]
    have hs : Jvm.FP.Core.sumUnits false c (-52) true 4503599627370496 (-52) (min (-52) (-52)) = ((c - 4503599627370496 : Nat) : Int) := by
      unfold Jvm.FP.Core.sumUnits Jvm.FP.Core.signed Jvm.FP.Core.inUnits
      rw [show ((-52 : Int) - min (-52) (-52)).toNat = 0 from rfl]
      simp
      omega
    show Jvm.FP.Core.roundRatio Jvm.FP.Core.b64 (Jvm.FP.Core.sumSign false true (Jvm.FP.Core.sumUnits false c (-52) true 4503599627370496 (-52) (min (-52) (-52)))) (Jvm.FP.Core.sumUnits false c (-52) true 4503599627370496 (-52) (min (-52) (-52))).natAbs 1 (min (-52) (-52)) = _
    rw [hs, Int.natAbs_natCast]
    have hg : Jvm.FP.Core.sumSign false true ((c - 4503599627370496 : Nat) : Int) = false := by
      unfold Jvm.FP.Core.sumSign
      split
      · rfl
      · exact decide_eq_false (by omega)
    rw [hg]
    rfl
  by_cases e : c = 4503599627370496
  · refine ⟨0, -1074, ?_, by omega, by rw [e]; simp⟩
    show Jvm.FP.Core.val64 _ = _
    rw [hx, e]
    show Jvm.FP.Core.roundRatio Jvm.FP.Core.b64 false 0 1 (-52) = _
    unfold Jvm.FP.Core.roundRatio
    rw [if_pos rfl, b64_qmin]
  · obtain ⟨k, hk, g1, g2⟩ := fp_scale (t := c - 4503599627370496) (by omega) (by omega)
    refine ⟨(c - 4503599627370496) * 2 ^ k, -52 - (k : Int), ?_, by omega, ?_⟩
    · show Jvm.FP.Core.val64 _ = _
      rw [hx]
      refine Jvm.FP.Core.roundRatio_exact Jvm.FP.Core.good_b64 (by decide) (fp_mk ⟨g1, by omega, by omega, Or.inr g2⟩) ?_
      rw [show ((-52 : Int) - (-52 - (k : Int))).toNat = k by omega, show (-52 - (k : Int) - -52).toNat = 0 by omega]
      simp
    · rw [show (-(-52 - (k : Int))).toNat = k + 52 by omega, Nat.pow_add, show (2 : Nat) ^ 52 = 4503599627370496 from rfl, Nat.mul_assoc]
theorem fp_sgn {A B : Nat} {e : Int} {c : Nat} {q : Int} : Jvm.FP.Core.roundRatio Jvm.FP.Core.b64 false A B e ≠ .fin true c q := by
  intro h
  unfold Jvm.FP.Core.roundRatio at h
  split at h
  · cases h
  · unfold Jvm.FP.Core.roundAt Jvm.FP.Core.settle Jvm.FP.Core.bound at h
    split at h <;> split at h <;> cases h
/-- .. as a whole number -/
theorem fp_whole {x : UInt64} {c : Nat} (h : V64 x = .fin false c (-52)) (h1 : 4503599627370496 ≤ c) (h2 : c < 9007199254740992) : vf_n64 (FP.dsub x 0x3ff0000000000000) ∧ vf_n64 (FP.dmul (FP.dsub x 0x3ff0000000000000) 0x4330000000000000) ∧ FP.d2l (FP.dmul (FP.dsub x 0x3ff0000000000000) 0x4330000000000000) = Int64.ofInt ((c - 4503599627370496 : Nat) : Int) := by
  obtain ⟨c', q', g1, g2, g3⟩ := fp_frac h h1 h2
  refine ⟨fp_ok g1, ?_⟩
  have hw : Jvm.FP.Core.Whole ((c - 4503599627370496 : Nat) : Int) (Jvm.FP.Core.exactProduct (.fin false c' q') (.fin false 4503599627370496 0)) := by
    show Jvm.FP.Core.signed false (c' * 4503599627370496 * 2 ^ (q' + 0).toNat) = _
    rw [show (q' + 0).toNat = 0 by omega, Nat.pow_zero, Nat.mul_one, g3, show (-(q' + 0)).toNat = (-q').toNat by omega]
    show (((c - 4503599627370496) * 2 ^ (-q').toNat : Nat) : Int) = _
    rw [Int.natCast_mul]
  have hv : Jvm.FP.Core.val64 (FP.dmul (FP.dsub x 0x3ff0000000000000) 0x4330000000000000) = Jvm.FP.Core.round Jvm.FP.Core.b64 (Jvm.FP.Core.exactProduct (.fin false c' q') (.fin false 4503599627370496 0)) := by
    show Jvm.FP.Core.val64 (Jvm.FP.Core.dmul _ _) = _
    rw [Jvm.FP.Core.val64_dmul, show Jvm.FP.Core.val64 (FP.dsub x 0x3ff0000000000000) = _ from g1, show Jvm.FP.Core.val64 0x4330000000000000 = _ from v_big]
  have hr := Jvm.FP.Core.whole_round Jvm.FP.Core.good_b64 Jvm.FP.Core.wide_b64 (show ((c - 4503599627370496 : Nat) : Int).natAbs ≤ 9007199254740992 by omega) hw
  rw [← hv] at hr
  have hti : (Int64.ofInt ((c - 4503599627370496 : Nat) : Int)).toInt = ((c - 4503599627370496 : Nat) : Int) := by
    exact Int64.toInt_ofInt_of_le (by omega) (by omega)
  refine ⟨?_, Jvm.FP.Core.d2l_int (by rw [hti]; exact hr)⟩
  cases hd : Jvm.FP.Core.val64 (FP.dmul (FP.dsub x 0x3ff0000000000000) 0x4330000000000000) with
  | nan => rw [hd] at hr; exact hr.elim
  | inf s => rw [hd] at hr; exact hr.elim
  | fin s c9 q9 =>
    cases s with
    | false => exact fp_ok hd
    | true =>
      exfalso
      have h9 : Jvm.FP.Core.round Jvm.FP.Core.b64 (Jvm.FP.Core.exactProduct (.fin false c' q') (.fin false 4503599627370496 0)) = .fin true c9 q9 := hv.symm.trans hd
      exact fp_sgn h9
/-- its bits -/
theorem fp_bits {x : UInt64} {c : Nat} {q : Int} (h : V64 x = .fin false c q) (h1 : 4503599627370496 ≤ c) {e : Int} (he : (q + 1074) + 1 = e) (he0 : 1 ≤ e) : x.toInt64 = Int64.ofInt (e * 4503599627370496 + ((c - 4503599627370496 : Nat) : Int)) := by
  have h2 := fp_nat h
  rw [if_neg (by omega)] at h2
  have h3 : x = UInt64.ofNat (((q + 1074).toNat + 1) * 4503599627370496 + (c - 4503599627370496)) := by rw [← h2, UInt64.ofNat_toNat]
  rw [h3, UInt64.toInt64_ofNat', ← Int64.ofInt_eq_ofNat]
  congr 1
  rw [← he]
  omega
theorem fp_cmp {x y : UInt64} {c d : Nat} {q r : Int} (h : V64 x = .fin false c q) (h' : V64 y = .fin false d r) : FP.dcmp x y = some (compare ((c * 2 ^ (q - min q r).toNat : Nat) : Int) ((d * 2 ^ (r - min q r).toNat : Nat) : Int)) := by
  show Jvm.FP.Core.order (Jvm.FP.Core.val64 x) (Jvm.FP.Core.val64 y) = _
  rw [show Jvm.FP.Core.val64 x = _ from h, show Jvm.FP.Core.val64 y = _ from h']
  rfl
theorem cmp_lt' {a b : Int} (h : a < b) : compare a b = .lt := by simp only [compare, compareOfLessAndEq, if_pos h]
theorem cmp_ge' {a b : Int} (h : b ≤ a) : compare a b = .eq ∨ compare a b = .gt := by
  simp only [compare, compareOfLessAndEq, if_neg (show ¬ a < b by omega)]
  split
  · exact Or.inl rfl
  · exact Or.inr rfl
