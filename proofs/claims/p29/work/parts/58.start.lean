/-! the addresses of the start -/
def nthD : List Nat → Nat → Nat
  | [], _ => 0
  | a :: _, 0 => a
  | _ :: l, n + 1 => nthD l n
theorem nthD_get : ∀ (l : List Nat) (n : Nat), n < l.length → l[n]? = some (nthD l n)
  | [], n, h => by simp at h
  | a :: l, 0, h => by simp [nthD]
  | a :: l, n + 1, h => by
    have := nthD_get l n (by simpa using h)
    simpa [nthD] using this
theorem nthD_inj {l : List Nat} (hn : l.Nodup) {i j : Nat} (hi : i < l.length) (hj : j < l.length) (e : nthD l i = nthD l j) : i = j := by
  have h1 := nthD_get l i hi
  have h2 := nthD_get l j hj
  rw [e, ← h2] at h1
  exact (List.getElem?_inj hi hn).mp h1
def posL : List Nat := [123, 122, 113, 121, 119, 117, 115, 120, 118, 116, 114, 112, 111, 110, 109, 30, 108, 99, 107, 105, 103, 101, 106, 104, 102, 100, 98, 97, 96, 95, 86, 94, 92, 90, 88, 93, 91, 89, 87, 85, 84, 83, 82, 73, 81, 79, 77, 75, 80, 78, 76, 74, 72, 71, 70, 69, 60, 68, 66, 64, 62, 67, 65, 63, 61, 59, 58, 57, 56, 47, 55, 53, 51, 49, 54, 52, 50, 48, 46, 45, 44, 43, 34, 42, 40, 38, 36, 41, 39, 37, 35, 33, 32, 31, 29, 28, 27, 26, 25, 24, 23, 20, 19, 18, 17, 12, 11, 10, 5, 4, 3, 2, 1, 0, 6, 7, 8, 9, 13, 14, 15, 16]
theorem posL_nd : posL.Nodup := by decide +kernel
theorem posL_len : posL.length = 122 := by decide +kernel
theorem posL_lt : ∀ i < 122, nthD posL i < 124 := by decide +kernel
def adOf (big : List Nat) : Int → Nat := fun i => nthD big (nthD posL i.toNat)
theorem inj_of {big : List Nat} (hn : big.Nodup) (hl : big.length = 124) : Inj (adOf big) := fun i j h0 h1 h2 h3 e => by
  have hi := posL_lt i.toNat (by omega)
  have hj := posL_lt j.toNat (by omega)
  have h4 := nthD_inj hn (by rw [hl]; exact hi) (by rw [hl]; exact hj) e
  have h5 := nthD_inj posL_nd (by rw [posL_len]; omega) (by rw [posL_len]; omega) h4
  omega
theorem adOf_mem {l : List (Nat × AC)} (hl : (l.map Prod.fst).length = 124) {j : Int} (h0 : 0 ≤ j) (h1 : j < 122) : ∃ p ∈ l, p.1 = adOf (l.map Prod.fst) j := by
  have hi := posL_lt j.toNat (by omega)
  have h := List.mem_of_getElem? (nthD_get (l.map Prod.fst) (nthD posL j.toNat) (by rw [hl]; exact hi))
  obtain ⟨p, hp, e⟩ := List.mem_map.mp h
  exact ⟨p, hp, e⟩
def sg0 : Sg3 := (fun _ => 0, fun _ _ => 0, fun i => if i = 0 then 8 else 300)
theorem vld_sg0 : Vld sg0 := ⟨fun k _ _ i j a b c => by have h9 : j < 0 := c; omega, by decide, by decide, by decide, by decide⟩
theorem stp_of {M : Mem} {ad : Int → Nat} {s : Int} {q rw' p0 r0 p1 r1 p2 r2 p3 r3 pn rn qs : Nat} {f : Int → Option Nat} {gs : Int → Int}
    (e0 : ad s = q) (e1 : ad (s + 1) = rw') (e2 : ad (s + 2) = p0) (e3 : ad (s + 3) = p1) (e4 : ad (s + 4) = p2) (e5 : ad (s + 5) = p3) (e6 : ad (s + 6) = r0) (e7 : ad (s + 7) = r1) (e8 : ad (s + 8) = r2) (e9 : ad (s + 9) = r3) (e10 : ad (s + 10) = pn) (e11 : ad (s + 11) = rn) (e12 : ad (s + 12) = qs)
    (m0 : M q = some (oC 7 [.ref rw', .ref pn, .ref qs])) (m1 : M rw' = some (aR 5 4 f)) (a0 : M p0 = some (oC 5 [.ref r0, vI 0])) (b0 : M r0 = some (aI 60 zF)) (a1 : M p1 = some (oC 5 [.ref r1, vI 0])) (b1 : M r1 = some (aI 60 zF)) (a2 : M p2 = some (oC 5 [.ref r2, vI 0])) (b2 : M r2 = some (aI 60 zF)) (a3 : M p3 = some (oC 5 [.ref r3, vI 0])) (b3 : M r3 = some (aI 60 zF)) (c0 : M pn = some (oC 5 [.ref rn, vI 0])) (c1 : M rn = some (aI 0 zF)) (c2 : M qs = some (aI 2 gs))
    (hf : f 0 = some p0 ∧ f 1 = some p1 ∧ f 2 = some p2 ∧ f 3 = some p3) (hg : gs 0 = 8 ∧ gs 1 = 300) : StQ M ad s sg0 := by
  subst e0 e1 e2 e3 e4 e5 e6 e7 e8 e9 e10 e11 e12
  have mb : ∀ {o a N : Nat}, M o = some (oC 5 [.ref a, vI 0]) → M a = some (aI N zF) → N ≤ 300 → Mb M o a N 0 (fun _ => 0) := fun h1 h2 h3 => ⟨h1, ⟨_, h2, fun i a b => by omega⟩, by omega, by omega, h3, fun i a b => by omega⟩
  refine ⟨m0, ⟨f, m1, fun i h0 h1 => ?_⟩, fun k h0 h1 => ?_, mb c0 c1 (by omega), ⟨gs, c2, hg.1, hg.2⟩⟩
  · rcases (show i = 0 ∨ i = 1 ∨ i = 2 ∨ i = 3 by omega) with rfl | rfl | rfl | rfl
    · rw [show s + 2 + 0 = s + 2 by omega]; exact hf.1
    · rw [show s + 2 + 1 = s + 3 by omega]; exact hf.2.1
    · rw [show s + 2 + 2 = s + 4 by omega]; exact hf.2.2.1
    · rw [show s + 2 + 3 = s + 5 by omega]; exact hf.2.2.2
  · show Mb M (ad (s + 2 + k)) (ad (s + 6 + k)) 60 0 (fun _ => 0)
    rcases (show k = 0 ∨ k = 1 ∨ k = 2 ∨ k = 3 by omega) with rfl | rfl | rfl | rfl
    · rw [show s + 2 + 0 = s + 2 by omega, show s + 6 + 0 = s + 6 by omega]; exact mb a0 b0 (by omega)
    · rw [show s + 2 + 1 = s + 3 by omega, show s + 6 + 1 = s + 7 by omega]; exact mb a1 b1 (by omega)
    · rw [show s + 2 + 2 = s + 4 by omega, show s + 6 + 2 = s + 8 by omega]; exact mb a2 b2 (by omega)
    · rw [show s + 2 + 3 = s + 5 by omega, show s + 6 + 3 = s + 9 by omega]; exact mb a3 b3 (by omega)
theorem Sx.outs {M0 M : Mem} {o : Nat} {y : AC} {l : List (Nat × AC)} (hS : Sx M0 M o y l) (hl : (l.map Prod.fst).length = 124) : ∀ j : Int, 0 ≤ j → j < 122 → o ≠ adOf (l.map Prod.fst) j := fun j a b e => by
  obtain ⟨p, hp, e8⟩ := adOf_mem hl a b
  exact hS.ne hp (e8.trans e.symm)

set_option maxHeartbeats 8000000 in
set_option maxRecDepth 8000 in
theorem cl_start {M0 M : Mem} {sA q15 q10 q0 N : Nat} {w f10 f15 : Int → Int} {y : AC} {L : List (Nat × AC)} (hS : Sx M0 M sA (aS N w) ((q15, aI 64 f15) :: (q10, aI 7 f10) :: (L ++ (q0, y) :: []))) (hx : XsS y L) (h10 : (∀ j, 0 ≤ j → j < 4 → f10 j = 0) ∧ f10 4 = 8 ∧ f10 5 = 300 ∧ f10 6 = 0) : ∃ ad : Int → Nat, Inj ad ∧ (ad 0 = q0 ∧ ad 112 = q10 ∧ ad 113 = q15) ∧ (∀ j, 0 ≤ j → j < 122 → sA ≠ ad j) ∧ CLG M ad := by
  obtain ⟨s, ys, Ls, h, yh, Lh, b, ab, p, pa, pb, i1, i2, i3, i4, i5, i6, f1, f2, k, ka, kp, kr, mt, l1, b1, ba1, bp1, br1, mm1, mr1, l2, b2, ba2, bp2, br2, mm2, mr2, t, at', wd, aw, rfl, hss, hsh, rfl⟩ := hx
  obtain ⟨ring, fr, u0, v0, L0, u1, v1, L1, u2, v2, L2, u3, v3, L3, u4, v4, L4, u5, v5, L5, rfl, rfl, s0, s1, s2, s3, s4, s5, hr0, hr1, hr2, hr3, hr4, hr5⟩ := hsh
  obtain ⟨rwx, pax, rax, pbx, rbx, pcx, rcx, pdx, rdx, pnx, rnx, qsx, fx, gsx, rfl, hfx, hgx, rfl⟩ := hss
  obtain ⟨rw0, pa0, ra0, pb0, rb0, pc0, rc0, pd0, rd0, pn0, rn0, qs0, f0, gs0, hv0, hf0, hg0, rfl⟩ := s0
  cases hv0
  obtain ⟨rw1, pa1, ra1, pb1, rb1, pc1, rc1, pd1, rd1, pn1, rn1, qs1, f1, gs1, hv1, hf1, hg1, rfl⟩ := s1
  cases hv1
  obtain ⟨rw2, pa2, ra2, pb2, rb2, pc2, rc2, pd2, rd2, pn2, rn2, qs2, f2, gs2, hv2, hf2, hg2, rfl⟩ := s2
  cases hv2
  obtain ⟨rw3, pa3, ra3, pb3, rb3, pc3, rc3, pd3, rd3, pn3, rn3, qs3, f3, gs3, hv3, hf3, hg3, rfl⟩ := s3
  cases hv3
  obtain ⟨rw4, pa4, ra4, pb4, rb4, pc4, rc4, pd4, rd4, pn4, rn4, qs4, f4, gs4, hv4, hf4, hg4, rfl⟩ := s4
  cases hv4
  obtain ⟨rw5, pa5, ra5, pb5, rb5, pc5, rc5, pd5, rd5, pn5, rn5, qs5, f5, gs5, hv5, hf5, hg5, rfl⟩ := s5
  cases hv5
  have hM : ∀ (i : Nat) {p : Nat × AC}, _ → M p.1 = some p.2 := fun i p => hS.nth i (p := p)
  refine ⟨adOf (List.map Prod.fst _), inj_of hS.2.2.1 rfl, ⟨rfl, rfl, rfl⟩, hS.outs rfl, ?_⟩
  refine ⟨fun _ => 0, fun _ _ => 0, fun i => if i = 0 then 8 else 300, 0, fun _ => sg0, 0, fun _ => 0, ⟨?_, ?_, ?_, ?_, ⟨?_, ?_, ?_⟩, ?_, ?_, ⟨0, fun _ => 0, ?_⟩, ⟨0, fun _ => 0, ?_⟩⟩, ⟨f10, f15, hM 1 rfl, hM 0 rfl, ?_⟩⟩
  · exact hM 123 rfl
  · exact stp_of rfl rfl rfl rfl rfl rfl rfl rfl rfl rfl rfl rfl rfl (hM 122 rfl) (hM 113 rfl) (hM 121 rfl) (hM 120 rfl) (hM 119 rfl) (hM 118 rfl) (hM 117 rfl) (hM 116 rfl) (hM 115 rfl) (hM 114 rfl) (hM 112 rfl) (hM 111 rfl) (hM 110 rfl) hfx hgx
  · refine ⟨0, by omega, by omega, by omega, by omega, hM 109 rfl, ⟨fr, hM 30 rfl, fun i a b => ?_⟩, fun j a b => ?_, fun k a b => by omega⟩
    · rcases (show i = 0 ∨ i = 1 ∨ i = 2 ∨ i = 3 ∨ i = 4 ∨ i = 5 by omega) with rfl | rfl | rfl | rfl | rfl | rfl
      · exact hr0
      · exact hr1
      · exact hr2
      · exact hr3
      · exact hr4
      · exact hr5
    · refine ⟨sg0, ?_⟩
      rcases (show j = 0 ∨ j = 1 ∨ j = 2 ∨ j = 3 ∨ j = 4 ∨ j = 5 by omega) with rfl | rfl | rfl | rfl | rfl | rfl
      · exact stp_of rfl rfl rfl rfl rfl rfl rfl rfl rfl rfl rfl rfl rfl (hM 108 rfl) (hM 99 rfl) (hM 107 rfl) (hM 106 rfl) (hM 105 rfl) (hM 104 rfl) (hM 103 rfl) (hM 102 rfl) (hM 101 rfl) (hM 100 rfl) (hM 98 rfl) (hM 97 rfl) (hM 96 rfl) hf0 hg0
      · exact stp_of rfl rfl rfl rfl rfl rfl rfl rfl rfl rfl rfl rfl rfl (hM 95 rfl) (hM 86 rfl) (hM 94 rfl) (hM 93 rfl) (hM 92 rfl) (hM 91 rfl) (hM 90 rfl) (hM 89 rfl) (hM 88 rfl) (hM 87 rfl) (hM 85 rfl) (hM 84 rfl) (hM 83 rfl) hf1 hg1
      · exact stp_of rfl rfl rfl rfl rfl rfl rfl rfl rfl rfl rfl rfl rfl (hM 82 rfl) (hM 73 rfl) (hM 81 rfl) (hM 80 rfl) (hM 79 rfl) (hM 78 rfl) (hM 77 rfl) (hM 76 rfl) (hM 75 rfl) (hM 74 rfl) (hM 72 rfl) (hM 71 rfl) (hM 70 rfl) hf2 hg2
      · exact stp_of rfl rfl rfl rfl rfl rfl rfl rfl rfl rfl rfl rfl rfl (hM 69 rfl) (hM 60 rfl) (hM 68 rfl) (hM 67 rfl) (hM 66 rfl) (hM 65 rfl) (hM 64 rfl) (hM 63 rfl) (hM 62 rfl) (hM 61 rfl) (hM 59 rfl) (hM 58 rfl) (hM 57 rfl) hf3 hg3
      · exact stp_of rfl rfl rfl rfl rfl rfl rfl rfl rfl rfl rfl rfl rfl (hM 56 rfl) (hM 47 rfl) (hM 55 rfl) (hM 54 rfl) (hM 53 rfl) (hM 52 rfl) (hM 51 rfl) (hM 50 rfl) (hM 49 rfl) (hM 48 rfl) (hM 46 rfl) (hM 45 rfl) (hM 44 rfl) hf4 hg4
      · exact stp_of rfl rfl rfl rfl rfl rfl rfl rfl rfl rfl rfl rfl rfl (hM 43 rfl) (hM 34 rfl) (hM 42 rfl) (hM 41 rfl) (hM 40 rfl) (hM 39 rfl) (hM 38 rfl) (hM 37 rfl) (hM 36 rfl) (hM 35 rfl) (hM 33 rfl) (hM 32 rfl) (hM 31 rfl) hf5 hg5
  · exact ⟨hM 29 rfl, ⟨_, hM 28 rfl, fun i a b => by omega⟩, by omega, by omega, fun i a b => by omega⟩
  · exact ⟨_, _, _, _, _, _, hM 27 rfl⟩
  · exact ⟨_, hM 26 rfl⟩
  · exact ⟨_, hM 25 rfl⟩
  · exact ⟨_, _, _, hM 24 rfl, hM 23 rfl⟩
  · exact ⟨⟨_, hM 20 rfl⟩, ⟨⟨_, _, _, _, hM 19 rfl⟩, _, _, _, hM 18 rfl, hM 17 rfl⟩, ⟨⟨_, _, _, _, hM 12 rfl⟩, _, _, _, hM 11 rfl, hM 10 rfl⟩⟩
  · exact ⟨hM 5 rfl, ⟨_, hM 4 rfl, fun i a b => by omega⟩, by omega, by omega, by omega, fun i a b => by omega⟩
  · exact ⟨hM 3 rfl, ⟨_, hM 2 rfl, fun i a b => by omega⟩, by omega, by omega, by omega, fun i a b => by omega⟩
  · exact ⟨fun s a b => ⟨h10.1 s a b, ⟨by show (0 : Int) ≤ 0; omega, by show (0 : Int) ≤ 16; omega⟩, fun i j a b c => by have c9 : j < 0 := c; omega, fun k a b => by have b9 : k < 0 := b; omega⟩, h10.2.1, h10.2.2.1, h10.2.2.2, ⟨by decide, by decide⟩, ⟨by decide, by decide⟩, by omega, by omega⟩
