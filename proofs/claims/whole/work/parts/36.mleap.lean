/-! the model: leaps -/
set_option maxHeartbeats 4000000 in
theorem mX9_leap {M0 M : Mem} {ad : Int → Nat} {zA hA tA rA sA pA bA wA : Int → Int} {m len th rm bk rd nu bd sc : Int} {hs : Int64} {n : Int → Int} {F : Int → Int → Int} {g : Int → Int} {k s x : Int} (hm : RM M0 M ad zA hA tA rA sA pA bA wA m len th rm bk rd nu bd sc hs) (hi : Inj ad) (hz : Zr zA n F g) (h0 : 0 ≤ k) (h1 : k < 4) (hg : (2 ≤ g 0 ∧ g 0 ≤ 16) ∧ 1 ≤ g 1 ∧ g 1 ≤ 9999) (q0 : s = 0 ∨ s = 1) (q1 : 0 ≤ x ∧ x ≤ 9999) (q2 : 0 < n k → 0 ≤ bA s ∧ bA s < nbF (n k) (F k) (g 0) (g 1)) : Ct KX9_leap [.ref (ad 112), vI k, vI s, vI x] M 0 0 (atI ((lpN (n k) (nbF (n k) (F k) (g 0) (g 1)) (stF (n k) (F k) (g 0) (g 1)) (F k) x (bA s)).1) (fun M2 => ∃ (r2 s2 b2 w2 : Int → Int) (rm2 bk2 : Int), RM M0 M2 ad zA hA tA r2 s2 pA b2 w2 m len th rm2 bk2 rd nu bd sc hs ∧ (∀ j, j ≠ 3 → w2 j = (uI wA (1 + s) (wA (1 + s) + 1)) j) ∧ w2 3 = wA 3 + (lpN (n k) (nbF (n k) (F k) (g 0) (g 1)) (stF (n k) (F k) (g 0) (g 1)) (F k) x (bA s)).2.1 ∧ (∀ j, j ≠ s → b2 j = bA j) ∧ (0 ≤ (lpN (n k) (nbF (n k) (F k) (g 0) (g 1)) (stF (n k) (F k) (g 0) (g 1)) (F k) x (bA s)).1 → b2 s = (lpN (n k) (nbF (n k) (F k) (g 0) (g 1)) (stF (n k) (F k) (g 0) (g 1)) (F k) x (bA s)).2.2))) := by
  refine Ct.of _ (by decide) rfl (Nat.le_of_ble_eq_true rfl) ?_
  have hzn := hz.n h0 h1
  have hbs := BkS.of hzn.2.1 hzn.2.2 (F k) (g 0) (g 1)
  obtain ⟨-, -, hnb0, hnb1, hnb2, hst0, hstn, hstr, hstm⟩ := id hbs
  refine r_aload_n dX9_leap_0 rfl ?_
  refine r_getfield clX9 16 (by decide) fl_X9_31 hm.o rfl dX9_leap_1 ?_
  refine r_iconst dX9_leap_4 ?_
  refine r_iload_n dX9_leap_5 rfl ?_
  refine r_iadd dX9_leap_6 ?_
  refine r_dup2 dX9_leap_7 ?_
  refine r_iaload hm.w (by omega) (by omega) (by omega) dX9_leap_8 ?_
  refine r_iconst dX9_leap_9 ?_
  refine r_iadd dX9_leap_10 ?_
  refine r_iastore hm.w (by omega) (by omega) (by omega) dX9_leap_11 ?_
  refine hm.w_w hi (fun Mx hm => ?_)
  refine r_aload_n dX9_leap_12 rfl ?_
  refine r_iload_n dX9_leap_13 rfl ?_
  refine r_callV1 okX9_blocksOf ⟨by decide, by decide⟩ ml_X9_168 (mX9_blocksOf hm hi hz (by omega) (by omega) hg) hm.o rfl rfl (Nat.le_of_ble_eq_true rfl) (Nat.le_of_ble_eq_true rfl) (Nat.le_of_ble_eq_true rfl) rfl dX9_leap_14 (nx_tV) (kx_tV ?_)
  intro Mx hM
  obtain ⟨rA, sA, hm, hrA, hsA⟩ := hM
  have hr : ∀ p, 0 ≤ p → p < n k → rA p = F k p ∧ 0 ≤ F k p ∧ F k p ≤ 9999 := fun p a b => ⟨hrA p a b, (hz.f (by omega) (by omega) a b).2⟩
  refine r_aload_n dX9_leap_17 rfl ?_
  refine r_getfield clX9 9 (by decide) fl_X9_59 hm.o rfl dX9_leap_18 ?_
  refine r_if_ne (tgt := 26) dX9_leap_21 (by decide) (by omega) (fun h21 => ?_) (fun h21 => ?_)
  ·
    have hn0 : 0 < n k := by omega
    have hlp : lpN (n k) (nbF (n k) (F k) (g 0) (g 1)) (stF (n k) (F k) (g 0) (g 1)) (F k) x (bA s) = lpF (nbF (n k) (F k) (g 0) (g 1)) (stF (n k) (F k) (g 0) (g 1)) (F k) x (bA s) := by unfold lpN; rw [if_neg (by omega)]
    refine r_aload_n dX9_leap_26 rfl ?_
    refine r_getfield clX9 15 (by decide) fl_X9_28 hm.o rfl dX9_leap_27 ?_
    refine r_iload_n dX9_leap_30 rfl ?_
    refine r_iaload hm.b (by omega) (by omega) (by omega) dX9_leap_31 ?_
    refine r_istore dX9_leap_32 (by decide) rfl ?_
    refine r_iconst dX9_leap_34 ?_
    refine r_istore dX9_leap_35 (by decide) rfl ?_
    refine J.loc (L' := [(0, some _), (1, some _), (2, some _), (3, some _), (4, some _), (5, some _)]) (lsub_cons rfl (lsub_cons rfl (lsub_cons rfl (lsub_cons rfl (lsub_cons rfl (lsub_cons rfl (lsub_nil))))))) (loop4 (fun (b : Int) (go : Int) (M1 : Mem) (w1 : Int → Int) => bA s ≤ b ∧ b < nbF (n k) (F k) (g 0) (g 1) ∧ RM M0 M1 ad zA hA tA rA sA pA bA w1 m len th (n k) (nbF (n k) (F k) (g 0) (g 1)) rd nu bd sc hs ∧ (∀ j, j ≠ 3 → w1 j = (uI wA (1 + s) (wA (1 + s) + 1)) j) ∧ ((go = 1 ∧ lpQ (nbF (n k) (F k) (g 0) (g 1)) (stF (n k) (F k) (g 0) (g 1)) (F k) x (bA s) = ff (fun b => decide (x < F k (stF (n k) (F k) (g 0) (g 1) b))) (nbF (n k) (F k) (g 0) (g 1) - (b + 1)).toNat (b + 1) ∧ w1 3 = wA 3 + (b - bA s)) ∨ (go = 0 ∧ lpQ (nbF (n k) (F k) (g 0) (g 1)) (stF (n k) (F k) (g 0) (g 1)) (F k) x (bA s) = b + 1 ∧ b + 1 < nbF (n k) (F k) (g 0) (g 1) ∧ w1 3 = wA 3 + (b - bA s) + 1))) (fun (b : Int) (go : Int) (M1 : Mem) (w1 : Int → Int) => (2 * (nbF (n k) (F k) (g 0) (g 1) - b) + go).toNat) (fun (b : Int) (go : Int) (M1 : Mem) (w1 : Int → Int) => J KX9_leap 0 0 _ 37 [(0, some (.ref (ad 112))), (1, some (vI k)), (2, some (vI s)), (3, some (vI x)), (4, some (vI b)), (5, some (vI go))] [] M1 _ _) (fun b go M1 w1 hI37 ih37 => ?_) _ _ _ (uI wA (1 + s) (wA (1 + s) + 1)) ?_)
    ·
      obtain ⟨hb0, hb1, hm, hw, hgo⟩ := hI37
      have hgo1 : go = 0 ∨ go = 1 := by omega
      have hqq := q2 (by omega)
      refine r_iload dX9_leap_37 rfl ?_
      refine r_if_eq (tgt := 106) dX9_leap_39 (by decide) (by omega) (fun h39 => ?_) (fun h39 => ?_)
      ·
        have hQ : lpQ (nbF (n k) (F k) (g 0) (g 1)) (stF (n k) (F k) (g 0) (g 1)) (F k) x (bA s) = b + 1 := by
          rcases hgo with ⟨a, c, d⟩ | ⟨a, c, d, e⟩
          · rw [c, show (nbF (n k) (F k) (g 0) (g 1) - (b + 1)).toNat = 0 by omega, ff]
          · exact c
        have hK : w1 3 = wA 3 + lpK (nbF (n k) (F k) (g 0) (g 1)) (stF (n k) (F k) (g 0) (g 1)) (F k) x (bA s) := by
          unfold lpK
          rw [hQ]
          rcases hgo with ⟨a, c, d⟩ | ⟨a, c, d, e⟩
          · rw [if_neg (by omega)]; omega
          · rw [if_pos (by omega)]; omega
        have hsa0 := hsA b (by omega) (by omega)
        have hsa1 := hsA (b + 1) (by omega) (by omega)
        have hsr0 := hstr b (by omega) (by omega)
        have hsb1 : 0 ≤ stF (n k) (F k) (g 0) (g 1) (b + 1) ∧ stF (n k) (F k) (g 0) (g 1) (b + 1) ≤ n k := by
          by_cases e9 : b + 1 = nbF (n k) (F k) (g 0) (g 1)
          · rw [e9, hstn]; omega
          · have := hstr (b + 1) (by omega) (by omega); omega
        have hsm := hstm b (b + 1) (by omega) (by omega) (by omega)
        have hlf : lpF (nbF (n k) (F k) (g 0) (g 1)) (stF (n k) (F k) (g 0) (g 1)) (F k) x (bA s) = if lpR (stF (n k) (F k) (g 0) (g 1)) (F k) x (b + 1) < stF (n k) (F k) (g 0) (g 1) (b + 1) then (lpR (stF (n k) (F k) (g 0) (g 1)) (F k) x (b + 1), lpK (nbF (n k) (F k) (g 0) (g 1)) (stF (n k) (F k) (g 0) (g 1)) (F k) x (bA s) + (lpR (stF (n k) (F k) (g 0) (g 1)) (F k) x (b + 1) - stF (n k) (F k) (g 0) (g 1) b + 1), b) else if nbF (n k) (F k) (g 0) (g 1) ≤ b + 1 then (-1, lpK (nbF (n k) (F k) (g 0) (g 1)) (stF (n k) (F k) (g 0) (g 1)) (F k) x (bA s) + (stF (n k) (F k) (g 0) (g 1) (b + 1) - stF (n k) (F k) (g 0) (g 1) b), b) else (stF (n k) (F k) (g 0) (g 1) (b + 1), lpK (nbF (n k) (F k) (g 0) (g 1)) (stF (n k) (F k) (g 0) (g 1)) (F k) x (bA s) + (stF (n k) (F k) (g 0) (g 1) (b + 1) - stF (n k) (F k) (g 0) (g 1) b) + 1, b + 1) := by
          unfold lpF
          dsimp only
          rw [hQ, show b + 1 - 1 = b by omega]
        refine r_aload_n dX9_leap_106 rfl ?_
        refine r_getfield clX9 8 (by decide) fl_X9_22 hm.o rfl dX9_leap_107 ?_
        refine r_iload dX9_leap_110 rfl ?_
        refine r_iaload hm.s (by omega) (by omega) (by omega) dX9_leap_112 ?_
        rw [hsa0]
        refine r_istore dX9_leap_113 (by decide) rfl ?_
        refine J.loc (L' := [(0, some _), (1, some _), (2, some _), (3, some _), (4, some _), (5, some _), (6, some _)]) (lsub_cons rfl (lsub_cons rfl (lsub_cons rfl (lsub_cons rfl (lsub_cons rfl (lsub_cons rfl (lsub_cons rfl (lsub_nil)))))))) (loop3 (fun (i : Int) (M2 : Mem) (w2 : Int → Int) => stF (n k) (F k) (g 0) (g 1) b ≤ i ∧ i ≤ stF (n k) (F k) (g 0) (g 1) (b + 1) ∧ RM M0 M2 ad zA hA tA rA sA pA bA w2 m len th (n k) (nbF (n k) (F k) (g 0) (g 1)) rd nu bd sc hs ∧ (∀ j, j ≠ 3 → w2 j = (uI wA (1 + s) (wA (1 + s) + 1)) j) ∧ w2 3 = wA 3 + lpK (nbF (n k) (F k) (g 0) (g 1)) (stF (n k) (F k) (g 0) (g 1)) (F k) x (bA s) + (i - stF (n k) (F k) (g 0) (g 1) b) ∧ lpR (stF (n k) (F k) (g 0) (g 1)) (F k) x (b + 1) = ff (fun i => decide (x ≤ F k i)) (stF (n k) (F k) (g 0) (g 1) (b + 1) - i).toNat i) (fun (i : Int) (M2 : Mem) (w2 : Int → Int) => (stF (n k) (F k) (g 0) (g 1) (b + 1) - i).toNat) (fun (i : Int) (M2 : Mem) (w2 : Int → Int) => J KX9_leap 0 0 _ 115 [(0, some (.ref (ad 112))), (1, some (vI k)), (2, some (vI s)), (3, some (vI x)), (4, some (vI b)), (5, some (vI go)), (6, some (vI i))] [] M2 _ _) (fun i M2 w2 hI115 ih115 => ?_) _ _ w1 ?_)
        ·
          obtain ⟨hi0, hi1, hm, hw2, hk2, hr2⟩ := hI115
          refine r_iload dX9_leap_115 rfl ?_
          refine r_aload_n dX9_leap_117 rfl ?_
          refine r_getfield clX9 8 (by decide) fl_X9_22 hm.o rfl dX9_leap_118 ?_
          refine r_iload dX9_leap_121 rfl ?_
          refine r_iconst dX9_leap_123 ?_
          refine r_iadd dX9_leap_124 ?_
          refine r_iaload hm.s (by omega) (by omega) (by omega) dX9_leap_125 ?_
          rw [hsa1]
          refine r_icmp_ge (tgt := 167) dX9_leap_126 (by decide) (by omega) (by omega) (fun h126 => ?_) (fun h126 => ?_)
          ·
            refine r_iload dX9_leap_167 rfl ?_
            refine r_iconst dX9_leap_169 ?_
            refine r_iadd dX9_leap_170 ?_
            refine r_aload_n dX9_leap_171 rfl ?_
            refine r_getfield clX9 9 (by decide) fl_X9_59 hm.o rfl dX9_leap_172 ?_
            refine r_icmp_ne (tgt := 180) dX9_leap_175 (by decide) (by omega) (by omega) (fun h175 => ?_) (fun h175 => ?_)
            ·
              refine r_aload_n dX9_leap_180 rfl ?_
              refine r_getfield clX9 16 (by decide) fl_X9_31 hm.o rfl dX9_leap_181 ?_
              refine r_iconst dX9_leap_184 ?_
              refine r_dup2 dX9_leap_185 ?_
              refine r_iaload hm.w (by omega) (by omega) (by omega) dX9_leap_186 ?_
              refine r_iconst dX9_leap_187 ?_
              refine r_iadd dX9_leap_188 ?_
              refine r_iastore hm.w (by omega) (by omega) (by omega) dX9_leap_189 ?_
              refine hm.w_w hi (fun Mx hm => ?_)
              refine r_aload_n dX9_leap_190 rfl ?_
              refine r_getfield clX9 15 (by decide) fl_X9_28 hm.o rfl dX9_leap_191 ?_
              refine r_iload_n dX9_leap_194 rfl ?_
              refine r_iload dX9_leap_195 rfl ?_
              refine r_iconst dX9_leap_197 ?_
              refine r_iadd dX9_leap_198 ?_
              refine r_iastore hm.b (by omega) (by omega) (by omega) dX9_leap_199 ?_
              refine hm.w_b hi (fun Mx hm => ?_)
              refine r_aload_n dX9_leap_200 rfl ?_
              refine r_getfield clX9 8 (by decide) fl_X9_22 hm.o rfl dX9_leap_201 ?_
              refine r_iload dX9_leap_204 rfl ?_
              refine r_iconst dX9_leap_206 ?_
              refine r_iadd dX9_leap_207 ?_
              refine r_iaload hm.s (by omega) (by omega) (by omega) dX9_leap_208 ?_
              rw [hsa1]
              refine e_ireturn dX9_leap_209 rfl (Nat.le_of_ble_eq_true rfl) (Nat.le_of_ble_eq_true rfl) ?_
              have hri : lpR (stF (n k) (F k) (g 0) (g 1)) (F k) x (b + 1) = i := by rw [hr2, show (stF (n k) (F k) (g 0) (g 1) (b + 1) - i).toNat = 0 by omega, ff]
              rw [hlp, hlf, hri, if_neg (by omega), if_neg (by omega)]
              dsimp only
              exact oktI rfl ⟨_, _, _, _, _, _, hm, fun j hj => (uI_n _ hj).trans (hw2 j hj), by rw [uI_s, hk2]; omega, fun j hj => uI_n _ hj, fun _ => uI_s _ _ _⟩
            ·
              refine r_iconst dX9_leap_178 ?_
              refine e_ireturn dX9_leap_179 rfl (Nat.le_of_ble_eq_true rfl) (Nat.le_of_ble_eq_true rfl) ?_
              have hri : lpR (stF (n k) (F k) (g 0) (g 1)) (F k) x (b + 1) = i := by rw [hr2, show (stF (n k) (F k) (g 0) (g 1) (b + 1) - i).toNat = 0 by omega, ff]
              rw [hlp, hlf, hri, if_neg (by omega), if_pos (by omega)]
              dsimp only
              exact oktI rfl ⟨_, _, _, _, _, _, hm, fun j hj => hw2 j hj, by rw [hk2]; omega, fun j hj => rfl, fun h => by omega⟩
          ·
            have hfi := hr i (by omega) (by omega)
            refine r_aload_n dX9_leap_129 rfl ?_
            refine r_getfield clX9 16 (by decide) fl_X9_31 hm.o rfl dX9_leap_130 ?_
            refine r_iconst dX9_leap_133 ?_
            refine r_dup2 dX9_leap_134 ?_
            refine r_iaload hm.w (by omega) (by omega) (by omega) dX9_leap_135 ?_
            refine r_iconst dX9_leap_136 ?_
            refine r_iadd dX9_leap_137 ?_
            refine r_iastore hm.w (by omega) (by omega) (by omega) dX9_leap_138 ?_
            refine hm.w_w hi (fun Mx hm => ?_)
            refine r_aload_n dX9_leap_139 rfl ?_
            refine r_getfield clX9 6 (by decide) fl_X9_19 hm.o rfl dX9_leap_140 ?_
            refine r_iload dX9_leap_143 rfl ?_
            refine r_iaload hm.r (by omega) (by omega) (by omega) dX9_leap_145 ?_
            refine r_iload_n dX9_leap_146 rfl ?_
            refine r_icmp_lt (tgt := 161) dX9_leap_147 (by decide) (by omega) (by omega) (fun h147 => ?_) (fun h147 => ?_)
            ·
              refine r_iinc dX9_leap_161 rfl rfl ?_
              refine r_goto (tgt := 115) dX9_leap_164 (by decide) ?_
              refine J.loc (lsub_cons rfl (lsub_cons rfl (lsub_cons rfl (lsub_cons rfl (lsub_cons rfl (lsub_cons rfl (lsub_cons rfl (lsub_nil)))))))) (ih115 _ _ (uI w2 3 (w2 3 + 1)) ?_ ?_)
              · refine ⟨by omega, by omega, hm, fun j hj => (uI_n _ hj).trans (hw2 j hj), by rw [uI_s, hk2]; omega, ?_⟩
                rw [hr2, show (stF (n k) (F k) (g 0) (g 1) (b + 1) - i).toNat = (stF (n k) (F k) (g 0) (g 1) (b + 1) - (i + 1)).toNat + 1 by omega, ff, if_neg (by simp; omega)]
              · omega
            ·
              refine r_aload_n dX9_leap_150 rfl ?_
              refine r_getfield clX9 15 (by decide) fl_X9_28 hm.o rfl dX9_leap_151 ?_
              refine r_iload_n dX9_leap_154 rfl ?_
              refine r_iload dX9_leap_155 rfl ?_
              refine r_iastore hm.b (by omega) (by omega) (by omega) dX9_leap_157 ?_
              refine hm.w_b hi (fun Mx hm => ?_)
              refine r_iload dX9_leap_158 rfl ?_
              refine e_ireturn dX9_leap_160 rfl (Nat.le_of_ble_eq_true rfl) (Nat.le_of_ble_eq_true rfl) ?_
              have hri : lpR (stF (n k) (F k) (g 0) (g 1)) (F k) x (b + 1) = i := by rw [hr2, show (stF (n k) (F k) (g 0) (g 1) (b + 1) - i).toNat = (stF (n k) (F k) (g 0) (g 1) (b + 1) - (i + 1)).toNat + 1 by omega, ff, if_pos (decide_eq_true (by omega))]
              rw [hlp, hlf, hri, if_pos (by omega)]
              dsimp only
              exact oktI rfl ⟨_, _, _, _, _, _, hm, fun j hj => (uI_n _ hj).trans (hw2 j hj), by rw [uI_s, hk2]; omega, fun j hj => uI_n _ hj, fun _ => uI_s _ _ _⟩
        · exact ⟨by omega, by omega, hm, hw, by omega, by unfold lpR; rw [show b + 1 - 1 = b by omega]⟩
      ·
        refine r_iload dX9_leap_42 rfl ?_
        refine r_iconst dX9_leap_44 ?_
        refine r_iadd dX9_leap_45 ?_
        refine r_aload_n dX9_leap_46 rfl ?_
        refine r_getfield clX9 9 (by decide) fl_X9_59 hm.o rfl dX9_leap_47 ?_
        refine r_icmp_ge (tgt := 106) dX9_leap_50 (by decide) (by omega) (by omega) (fun h50 => ?_) (fun h50 => ?_)
        ·
          have hQ : lpQ (nbF (n k) (F k) (g 0) (g 1)) (stF (n k) (F k) (g 0) (g 1)) (F k) x (bA s) = b + 1 := by
            rcases hgo with ⟨a, c, d⟩ | ⟨a, c, d, e⟩
            · rw [c, show (nbF (n k) (F k) (g 0) (g 1) - (b + 1)).toNat = 0 by omega, ff]
            · exact c
          have hK : w1 3 = wA 3 + lpK (nbF (n k) (F k) (g 0) (g 1)) (stF (n k) (F k) (g 0) (g 1)) (F k) x (bA s) := by
            unfold lpK
            rw [hQ]
            rcases hgo with ⟨a, c, d⟩ | ⟨a, c, d, e⟩
            · rw [if_neg (by omega)]; omega
            · rw [if_pos (by omega)]; omega
          have hsa0 := hsA b (by omega) (by omega)
          have hsa1 := hsA (b + 1) (by omega) (by omega)
          have hsr0 := hstr b (by omega) (by omega)
          have hsb1 : 0 ≤ stF (n k) (F k) (g 0) (g 1) (b + 1) ∧ stF (n k) (F k) (g 0) (g 1) (b + 1) ≤ n k := by
            by_cases e9 : b + 1 = nbF (n k) (F k) (g 0) (g 1)
            · rw [e9, hstn]; omega
            · have := hstr (b + 1) (by omega) (by omega); omega
          have hsm := hstm b (b + 1) (by omega) (by omega) (by omega)
          have hlf : lpF (nbF (n k) (F k) (g 0) (g 1)) (stF (n k) (F k) (g 0) (g 1)) (F k) x (bA s) = if lpR (stF (n k) (F k) (g 0) (g 1)) (F k) x (b + 1) < stF (n k) (F k) (g 0) (g 1) (b + 1) then (lpR (stF (n k) (F k) (g 0) (g 1)) (F k) x (b + 1), lpK (nbF (n k) (F k) (g 0) (g 1)) (stF (n k) (F k) (g 0) (g 1)) (F k) x (bA s) + (lpR (stF (n k) (F k) (g 0) (g 1)) (F k) x (b + 1) - stF (n k) (F k) (g 0) (g 1) b + 1), b) else if nbF (n k) (F k) (g 0) (g 1) ≤ b + 1 then (-1, lpK (nbF (n k) (F k) (g 0) (g 1)) (stF (n k) (F k) (g 0) (g 1)) (F k) x (bA s) + (stF (n k) (F k) (g 0) (g 1) (b + 1) - stF (n k) (F k) (g 0) (g 1) b), b) else (stF (n k) (F k) (g 0) (g 1) (b + 1), lpK (nbF (n k) (F k) (g 0) (g 1)) (stF (n k) (F k) (g 0) (g 1)) (F k) x (bA s) + (stF (n k) (F k) (g 0) (g 1) (b + 1) - stF (n k) (F k) (g 0) (g 1) b) + 1, b + 1) := by
            unfold lpF
            dsimp only
            rw [hQ, show b + 1 - 1 = b by omega]
          refine r_aload_n dX9_leap_106 rfl ?_
          refine r_getfield clX9 8 (by decide) fl_X9_22 hm.o rfl dX9_leap_107 ?_
          refine r_iload dX9_leap_110 rfl ?_
          refine r_iaload hm.s (by omega) (by omega) (by omega) dX9_leap_112 ?_
          rw [hsa0]
          refine r_istore dX9_leap_113 (by decide) rfl ?_
          refine J.loc (L' := [(0, some _), (1, some _), (2, some _), (3, some _), (4, some _), (5, some _), (6, some _)]) (lsub_cons rfl (lsub_cons rfl (lsub_cons rfl (lsub_cons rfl (lsub_cons rfl (lsub_cons rfl (lsub_cons rfl (lsub_nil)))))))) (loop3 (fun (i : Int) (M2 : Mem) (w2 : Int → Int) => stF (n k) (F k) (g 0) (g 1) b ≤ i ∧ i ≤ stF (n k) (F k) (g 0) (g 1) (b + 1) ∧ RM M0 M2 ad zA hA tA rA sA pA bA w2 m len th (n k) (nbF (n k) (F k) (g 0) (g 1)) rd nu bd sc hs ∧ (∀ j, j ≠ 3 → w2 j = (uI wA (1 + s) (wA (1 + s) + 1)) j) ∧ w2 3 = wA 3 + lpK (nbF (n k) (F k) (g 0) (g 1)) (stF (n k) (F k) (g 0) (g 1)) (F k) x (bA s) + (i - stF (n k) (F k) (g 0) (g 1) b) ∧ lpR (stF (n k) (F k) (g 0) (g 1)) (F k) x (b + 1) = ff (fun i => decide (x ≤ F k i)) (stF (n k) (F k) (g 0) (g 1) (b + 1) - i).toNat i) (fun (i : Int) (M2 : Mem) (w2 : Int → Int) => (stF (n k) (F k) (g 0) (g 1) (b + 1) - i).toNat) (fun (i : Int) (M2 : Mem) (w2 : Int → Int) => J KX9_leap 0 0 _ 115 [(0, some (.ref (ad 112))), (1, some (vI k)), (2, some (vI s)), (3, some (vI x)), (4, some (vI b)), (5, some (vI go)), (6, some (vI i))] [] M2 _ _) (fun i M2 w2 hI115 ih115 => ?_) _ _ w1 ?_)
          ·
            obtain ⟨hi0, hi1, hm, hw2, hk2, hr2⟩ := hI115
            refine r_iload dX9_leap_115 rfl ?_
            refine r_aload_n dX9_leap_117 rfl ?_
            refine r_getfield clX9 8 (by decide) fl_X9_22 hm.o rfl dX9_leap_118 ?_
            refine r_iload dX9_leap_121 rfl ?_
            refine r_iconst dX9_leap_123 ?_
            refine r_iadd dX9_leap_124 ?_
            refine r_iaload hm.s (by omega) (by omega) (by omega) dX9_leap_125 ?_
            rw [hsa1]
            refine r_icmp_ge (tgt := 167) dX9_leap_126 (by decide) (by omega) (by omega) (fun h126 => ?_) (fun h126 => ?_)
            ·
              refine r_iload dX9_leap_167 rfl ?_
              refine r_iconst dX9_leap_169 ?_
              refine r_iadd dX9_leap_170 ?_
              refine r_aload_n dX9_leap_171 rfl ?_
              refine r_getfield clX9 9 (by decide) fl_X9_59 hm.o rfl dX9_leap_172 ?_
              refine r_icmp_ne (tgt := 180) dX9_leap_175 (by decide) (by omega) (by omega) (fun h175 => ?_) (fun h175 => ?_)
              ·
                refine r_aload_n dX9_leap_180 rfl ?_
                refine r_getfield clX9 16 (by decide) fl_X9_31 hm.o rfl dX9_leap_181 ?_
                refine r_iconst dX9_leap_184 ?_
                refine r_dup2 dX9_leap_185 ?_
                refine r_iaload hm.w (by omega) (by omega) (by omega) dX9_leap_186 ?_
                refine r_iconst dX9_leap_187 ?_
                refine r_iadd dX9_leap_188 ?_
                refine r_iastore hm.w (by omega) (by omega) (by omega) dX9_leap_189 ?_
                refine hm.w_w hi (fun Mx hm => ?_)
                refine r_aload_n dX9_leap_190 rfl ?_
                refine r_getfield clX9 15 (by decide) fl_X9_28 hm.o rfl dX9_leap_191 ?_
                refine r_iload_n dX9_leap_194 rfl ?_
                refine r_iload dX9_leap_195 rfl ?_
                refine r_iconst dX9_leap_197 ?_
                refine r_iadd dX9_leap_198 ?_
                refine r_iastore hm.b (by omega) (by omega) (by omega) dX9_leap_199 ?_
                refine hm.w_b hi (fun Mx hm => ?_)
                refine r_aload_n dX9_leap_200 rfl ?_
                refine r_getfield clX9 8 (by decide) fl_X9_22 hm.o rfl dX9_leap_201 ?_
                refine r_iload dX9_leap_204 rfl ?_
                refine r_iconst dX9_leap_206 ?_
                refine r_iadd dX9_leap_207 ?_
                refine r_iaload hm.s (by omega) (by omega) (by omega) dX9_leap_208 ?_
                rw [hsa1]
                refine e_ireturn dX9_leap_209 rfl (Nat.le_of_ble_eq_true rfl) (Nat.le_of_ble_eq_true rfl) ?_
                have hri : lpR (stF (n k) (F k) (g 0) (g 1)) (F k) x (b + 1) = i := by rw [hr2, show (stF (n k) (F k) (g 0) (g 1) (b + 1) - i).toNat = 0 by omega, ff]
                rw [hlp, hlf, hri, if_neg (by omega), if_neg (by omega)]
                dsimp only
                exact oktI rfl ⟨_, _, _, _, _, _, hm, fun j hj => (uI_n _ hj).trans (hw2 j hj), by rw [uI_s, hk2]; omega, fun j hj => uI_n _ hj, fun _ => uI_s _ _ _⟩
              ·
                refine r_iconst dX9_leap_178 ?_
                refine e_ireturn dX9_leap_179 rfl (Nat.le_of_ble_eq_true rfl) (Nat.le_of_ble_eq_true rfl) ?_
                have hri : lpR (stF (n k) (F k) (g 0) (g 1)) (F k) x (b + 1) = i := by rw [hr2, show (stF (n k) (F k) (g 0) (g 1) (b + 1) - i).toNat = 0 by omega, ff]
                rw [hlp, hlf, hri, if_neg (by omega), if_pos (by omega)]
                dsimp only
                exact oktI rfl ⟨_, _, _, _, _, _, hm, fun j hj => hw2 j hj, by rw [hk2]; omega, fun j hj => rfl, fun h => by omega⟩
            ·
              have hfi := hr i (by omega) (by omega)
              refine r_aload_n dX9_leap_129 rfl ?_
              refine r_getfield clX9 16 (by decide) fl_X9_31 hm.o rfl dX9_leap_130 ?_
              refine r_iconst dX9_leap_133 ?_
              refine r_dup2 dX9_leap_134 ?_
              refine r_iaload hm.w (by omega) (by omega) (by omega) dX9_leap_135 ?_
              refine r_iconst dX9_leap_136 ?_
              refine r_iadd dX9_leap_137 ?_
              refine r_iastore hm.w (by omega) (by omega) (by omega) dX9_leap_138 ?_
              refine hm.w_w hi (fun Mx hm => ?_)
              refine r_aload_n dX9_leap_139 rfl ?_
              refine r_getfield clX9 6 (by decide) fl_X9_19 hm.o rfl dX9_leap_140 ?_
              refine r_iload dX9_leap_143 rfl ?_
              refine r_iaload hm.r (by omega) (by omega) (by omega) dX9_leap_145 ?_
              refine r_iload_n dX9_leap_146 rfl ?_
              refine r_icmp_lt (tgt := 161) dX9_leap_147 (by decide) (by omega) (by omega) (fun h147 => ?_) (fun h147 => ?_)
              ·
                refine r_iinc dX9_leap_161 rfl rfl ?_
                refine r_goto (tgt := 115) dX9_leap_164 (by decide) ?_
                refine J.loc (lsub_cons rfl (lsub_cons rfl (lsub_cons rfl (lsub_cons rfl (lsub_cons rfl (lsub_cons rfl (lsub_cons rfl (lsub_nil)))))))) (ih115 _ _ (uI w2 3 (w2 3 + 1)) ?_ ?_)
                · refine ⟨by omega, by omega, hm, fun j hj => (uI_n _ hj).trans (hw2 j hj), by rw [uI_s, hk2]; omega, ?_⟩
                  rw [hr2, show (stF (n k) (F k) (g 0) (g 1) (b + 1) - i).toNat = (stF (n k) (F k) (g 0) (g 1) (b + 1) - (i + 1)).toNat + 1 by omega, ff, if_neg (by simp; omega)]
                · omega
              ·
                refine r_aload_n dX9_leap_150 rfl ?_
                refine r_getfield clX9 15 (by decide) fl_X9_28 hm.o rfl dX9_leap_151 ?_
                refine r_iload_n dX9_leap_154 rfl ?_
                refine r_iload dX9_leap_155 rfl ?_
                refine r_iastore hm.b (by omega) (by omega) (by omega) dX9_leap_157 ?_
                refine hm.w_b hi (fun Mx hm => ?_)
                refine r_iload dX9_leap_158 rfl ?_
                refine e_ireturn dX9_leap_160 rfl (Nat.le_of_ble_eq_true rfl) (Nat.le_of_ble_eq_true rfl) ?_
                have hri : lpR (stF (n k) (F k) (g 0) (g 1)) (F k) x (b + 1) = i := by rw [hr2, show (stF (n k) (F k) (g 0) (g 1) (b + 1) - i).toNat = (stF (n k) (F k) (g 0) (g 1) (b + 1) - (i + 1)).toNat + 1 by omega, ff, if_pos (decide_eq_true (by omega))]
                rw [hlp, hlf, hri, if_pos (by omega)]
                dsimp only
                exact oktI rfl ⟨_, _, _, _, _, _, hm, fun j hj => (uI_n _ hj).trans (hw2 j hj), by rw [uI_s, hk2]; omega, fun j hj => uI_n _ hj, fun _ => uI_s _ _ _⟩
          · exact ⟨by omega, by omega, hm, hw, by omega, by unfold lpR; rw [show b + 1 - 1 = b by omega]⟩
        ·
          have hsb1 : 0 ≤ stF (n k) (F k) (g 0) (g 1) (b + 1) ∧ stF (n k) (F k) (g 0) (g 1) (b + 1) ≤ n k := by
            by_cases e9 : b + 1 = nbF (n k) (F k) (g 0) (g 1)
            · rw [e9, hstn]; omega
            · have := hstr (b + 1) (by omega) (by omega); omega
          have hsa1 := hsA (b + 1) (by omega) (by omega)
          have hsr1 := hstr (b + 1) (by omega) (by omega)
          have hf1 := hr (stF (n k) (F k) (g 0) (g 1) (b + 1)) (by omega) (by omega)
          refine r_aload_n dX9_leap_53 rfl ?_
          refine r_getfield clX9 16 (by decide) fl_X9_31 hm.o rfl dX9_leap_54 ?_
          refine r_iconst dX9_leap_57 ?_
          refine r_dup2 dX9_leap_58 ?_
          refine r_iaload hm.w (by omega) (by omega) (by omega) dX9_leap_59 ?_
          refine r_iconst dX9_leap_60 ?_
          refine r_iadd dX9_leap_61 ?_
          refine r_iastore hm.w (by omega) (by omega) (by omega) dX9_leap_62 ?_
          refine hm.w_w hi (fun Mx hm => ?_)
          refine r_aload_n dX9_leap_63 rfl ?_
          refine r_getfield clX9 6 (by decide) fl_X9_19 hm.o rfl dX9_leap_64 ?_
          refine r_aload_n dX9_leap_67 rfl ?_
          refine r_getfield clX9 8 (by decide) fl_X9_22 hm.o rfl dX9_leap_68 ?_
          refine r_iload dX9_leap_71 rfl ?_
          refine r_iconst dX9_leap_73 ?_
          refine r_iadd dX9_leap_74 ?_
          refine r_iaload hm.s (by omega) (by omega) (by omega) dX9_leap_75 ?_
          rw [hsa1]
          refine r_iaload hm.r (by omega) (by omega) (by omega) dX9_leap_76 ?_
          refine r_iload_n dX9_leap_77 rfl ?_
          refine r_icmp_gt (tgt := 85) dX9_leap_78 (by decide) (by omega) (by omega) (fun h78 => ?_) (fun h78 => ?_)
          ·
            refine r_iconst dX9_leap_85 ?_
            refine r_istore dX9_leap_86 (by decide) rfl ?_
            refine r_iload dX9_leap_88 rfl ?_
            refine r_iload dX9_leap_90 rfl ?_
            refine r_if_eq (tgt := 99) dX9_leap_92 (by decide) (by omega) (fun h92 => ?_) (fun h92 => ?_)
            ·
              refine r_iconst dX9_leap_99 ?_
              refine r_iadd dX9_leap_100 ?_
              refine r_istore dX9_leap_101 (by decide) rfl ?_
              refine r_goto (tgt := 37) dX9_leap_103 (by decide) ?_
              refine J.loc (lsub_cons rfl (lsub_cons rfl (lsub_cons rfl (lsub_cons rfl (lsub_cons rfl (lsub_cons rfl (lsub_nil))))))) (ih37 _ _ _ (uI w1 3 (w1 3 + 1)) ?_ ?_)
              · obtain ⟨hl1, hl2, hl3⟩ := hgo.resolve_right (fun h => by omega)
                refine ⟨by omega, by omega, hm, fun j hj => (uI_n _ hj).trans (hw j hj), Or.inr ⟨rfl, ?_, by omega, ?_⟩⟩
                · rw [hl2, show (nbF (n k) (F k) (g 0) (g 1) - (b + 1)).toNat = (nbF (n k) (F k) (g 0) (g 1) - ((b + 1) + 1)).toNat + 1 by omega, ff, if_pos (decide_eq_true (by omega))]; omega
                · rw [uI_s, hl3]; omega
              · omega
            · omega
          ·
            refine r_iconst dX9_leap_81 ?_
            refine r_goto (tgt := 86) dX9_leap_82 (by decide) ?_
            refine r_istore dX9_leap_86 (by decide) rfl ?_
            refine r_iload dX9_leap_88 rfl ?_
            refine r_iload dX9_leap_90 rfl ?_
            refine r_if_eq (tgt := 99) dX9_leap_92 (by decide) (by omega) (fun h92 => ?_) (fun h92 => ?_)
            · omega
            ·
              refine r_iconst dX9_leap_95 ?_
              refine r_goto (tgt := 100) dX9_leap_96 (by decide) ?_
              refine r_iadd dX9_leap_100 ?_
              refine r_istore dX9_leap_101 (by decide) rfl ?_
              refine r_goto (tgt := 37) dX9_leap_103 (by decide) ?_
              refine J.loc (lsub_cons rfl (lsub_cons rfl (lsub_cons rfl (lsub_cons rfl (lsub_cons rfl (lsub_cons rfl (lsub_nil))))))) (ih37 _ _ _ (uI w1 3 (w1 3 + 1)) ?_ ?_)
              · obtain ⟨hl1, hl2, hl3⟩ := hgo.resolve_right (fun h => by omega)
                refine ⟨by omega, by omega, hm, fun j hj => (uI_n _ hj).trans (hw j hj), Or.inl ⟨rfl, ?_, ?_⟩⟩
                · rw [hl2, show (nbF (n k) (F k) (g 0) (g 1) - (b + 1)).toNat = (nbF (n k) (F k) (g 0) (g 1) - ((b + 1) + 1)).toNat + 1 by omega, ff, if_neg (by simp; omega)]
                · rw [uI_s, hl3]; omega
              · omega
    · exact ⟨by omega, by omega, hm, fun j _ => rfl, Or.inl ⟨rfl, rfl, by rw [uI_n _ (by omega)]; omega⟩⟩
  ·
    refine r_iconst dX9_leap_24 ?_
    refine e_ireturn dX9_leap_25 rfl (Nat.le_of_ble_eq_true rfl) (Nat.le_of_ble_eq_true rfl) ?_
    have hn0 : n k = 0 := by omega
    have hlp : lpN (n k) (nbF (n k) (F k) (g 0) (g 1)) (stF (n k) (F k) (g 0) (g 1)) (F k) x (bA s) = (-1, 0, bA s) := by unfold lpN; rw [if_pos hn0]
    rw [hlp]
    dsimp only
    exact oktI rfl ⟨_, _, _, _, _, _, hm, fun j _ => rfl, by rw [uI_n _ (by omega)]; omega, fun j _ => rfl, fun h => by omega⟩

set_option maxHeartbeats 4000000 in
theorem mX9_blockWith {M0 M : Mem} {ad : Int → Nat} {zA hA tA rA sA pA bA wA : Int → Int} {m len th rm bk rd nu bd sc : Int} {hs : Int64} {n : Int → Int} {F : Int → Int → Int} {g : Int → Int} {k p : Int} (hm : RM M0 M ad zA hA tA rA sA pA bA wA m len th rm bk rd nu bd sc hs) (hi : Inj ad) (hz : Zr zA n F g) (h0 : 0 ≤ k) (h1 : k < 4) (hg : (2 ≤ g 0 ∧ g 0 ≤ 16) ∧ 1 ≤ g 1 ∧ g 1 ≤ 9999) (h2 : 0 ≤ p) (h3 : p < n k) : Ct KX9_blockWith [.ref (ad 112), vI k, vI p] M 0 0 (atI (batF (nbF (n k) (F k) (g 0) (g 1)) (stF (n k) (F k) (g 0) (g 1)) p) (fun M2 => ∃ (r2 s2 : Int → Int) (rm2 bk2 : Int), RM M0 M2 ad zA hA tA r2 s2 pA bA wA m len th rm2 bk2 rd nu bd sc hs)) := by
  refine Ct.of _ (by decide) rfl (Nat.le_of_ble_eq_true rfl) ?_
  have hzn := hz.n h0 h1
  have hbs := BkS.of hzn.2.1 hzn.2.2 (F k) (g 0) (g 1)
  obtain ⟨-, -, hnb0, hnb1, hnb2, hst0, hstn, hstr, hstm⟩ := id hbs
  refine r_aload_n dX9_blockWith_0 rfl ?_
  refine r_iload_n dX9_blockWith_1 rfl ?_
  refine r_callV1 okX9_blocksOf ⟨by decide, by decide⟩ ml_X9_168 (mX9_blocksOf hm hi hz (by omega) (by omega) hg) hm.o rfl rfl (Nat.le_of_ble_eq_true rfl) (Nat.le_of_ble_eq_true rfl) (Nat.le_of_ble_eq_true rfl) rfl dX9_blockWith_2 (nx_tV) (kx_tV ?_)
  intro Mx hM
  obtain ⟨rA, sA, hm, hrA, hsA⟩ := hM
  refine r_iconst dX9_blockWith_5 ?_
  refine r_istore_n dX9_blockWith_6 (by decide) rfl ?_
  refine J.loc (L' := [(0, some _), (1, some _), (2, some _), (3, some _)]) (lsub_cons rfl (lsub_cons rfl (lsub_cons rfl (lsub_cons rfl (lsub_nil))))) (loop1 (fun (b : Int) => 0 ≤ b ∧ b < nbF (n k) (F k) (g 0) (g 1) ∧ stF (n k) (F k) (g 0) (g 1) b ≤ p) (fun (b : Int) => (nbF (n k) (F k) (g 0) (g 1) - b).toNat) (fun (b : Int) => J KX9_blockWith 0 0 _ 7 [(0, some (.ref (ad 112))), (1, some (vI k)), (2, some (vI p)), (3, some (vI b))] [] Mx _ _) (fun b hI7 ih7 => ?_) _ ?_)
  ·
    obtain ⟨hb0, hb1, hb2⟩ := hI7
    have hsa1 := hsA (b + 1) (by omega) (by omega)
    have hsb1 : 0 ≤ stF (n k) (F k) (g 0) (g 1) (b + 1) ∧ stF (n k) (F k) (g 0) (g 1) (b + 1) ≤ n k := by
      by_cases e9 : b + 1 = nbF (n k) (F k) (g 0) (g 1)
      · rw [e9, hstn]; omega
      · have := hstr (b + 1) (by omega) (by omega); omega
    refine r_aload_n dX9_blockWith_7 rfl ?_
    refine r_getfield clX9 8 (by decide) fl_X9_22 hm.o rfl dX9_blockWith_8 ?_
    refine r_iload_n dX9_blockWith_11 rfl ?_
    refine r_iconst dX9_blockWith_12 ?_
    refine r_iadd dX9_blockWith_13 ?_
    refine r_iaload hm.s (by omega) (by omega) (by omega) dX9_blockWith_14 ?_
    rw [hsa1]
    refine r_iload_n dX9_blockWith_15 rfl ?_
    refine r_icmp_gt (tgt := 25) dX9_blockWith_16 (by decide) (by omega) (by omega) (fun h16 => ?_) (fun h16 => ?_)
    ·
      refine r_iload_n dX9_blockWith_25 rfl ?_
      refine e_ireturn dX9_blockWith_26 rfl (Nat.le_of_ble_eq_true rfl) (Nat.le_of_ble_eq_true rfl) ?_
      exact oktI (batF_at hbs ⟨hb0, hb1⟩ ⟨hb2, by omega⟩).symm ⟨_, _, _, _, hm⟩
    ·
      refine r_iinc dX9_blockWith_19 rfl rfl ?_
      refine r_goto (tgt := 7) dX9_blockWith_22 (by decide) ?_
      refine J.loc (lsub_cons rfl (lsub_cons rfl (lsub_cons rfl (lsub_cons rfl (lsub_nil))))) (ih7 _ ?_ ?_)
      · refine ⟨by omega, ?_, by omega⟩
        by_cases e : b + 1 = nbF (n k) (F k) (g 0) (g 1)
        · rw [e, hstn] at h16; omega
        · omega
      · omega
  · exact ⟨by omega, by omega, by omega⟩

set_option maxHeartbeats 4000000 in
theorem mX9_goThrough {M0 M : Mem} {ad : Int → Nat} {zA hA tA rA sA pA bA wA : Int → Int} {m len th rm bk rd nu bd sc : Int} {hs : Int64} {n : Int → Int} {F : Int → Int → Int} {g : Int → Int} {i j : Int} (hm : RM M0 M ad zA hA tA rA sA pA bA wA m len th rm bk rd nu bd sc hs) (hi : Inj ad) (hz : Zr zA n F g) (h0 : 0 ≤ i) (h1 : i < 4) (h2 : 0 ≤ j) (h3 : j < 4) (hv : Vld (n, F, g)) : Ct KX9_goThrough [.ref (ad 112), vI i, vI j] M 0 0 (atV (fun M2 => ∃ (r2 s2 b2 w2 : Int → Int) (rm2 bk2 : Int), RM M0 M2 ad zA hA tA r2 s2 pA b2 w2 m len th rm2 bk2 rd nu bd sc hs ∧ (mtS n F g i j).1 = w2 0 ∧ (mtS n F g i j).2.1 = w2 1 ∧ (mtS n F g i j).2.2.1 = w2 2 ∧ (mtS n F g i j).2.2.2 = w2 3)) := by
  refine Ct.of _ (by decide) rfl (Nat.le_of_ble_eq_true rfl) ?_
  obtain ⟨hvs, hv0, hv1, hv2, hv3⟩ := id hv
  dsimp only at hvs hv0 hv1 hv2 hv3
  have hg : (2 ≤ g 0 ∧ g 0 ≤ 16) ∧ 1 ≤ g 1 ∧ g 1 ≤ 9999 := ⟨⟨hv0, hv1⟩, hv2, hv3⟩
  have hzn := hz.n h0 h1
  have hznj := hz.n h2 h3
  have hbs := BkS.of hzn.2.1 hzn.2.2 (F i) (g 0) (g 1)
  have hbsj := BkS.of hznj.2.1 hznj.2.2 (F j) (g 0) (g 1)
  have hsi := hvs i h0 h1
  refine r_iconst dX9_goThrough_0 ?_
  refine r_istore_n dX9_goThrough_1 (by decide) rfl ?_
  refine J.loc (L' := [(0, some _), (1, some _), (2, some _), (3, some _)]) (lsub_cons rfl (lsub_cons rfl (lsub_cons rfl (lsub_cons rfl (lsub_nil))))) (loop3 (fun (q : Int) (M1 : Mem) (w1 : Int → Int) => 0 ≤ q ∧ q ≤ 4 ∧ RM M0 M1 ad zA hA tA rA sA pA bA w1 m len th rm bk rd nu bd sc hs ∧ ∀ e, 0 ≤ e → e < q → w1 e = 0) (fun (q : Int) (M1 : Mem) (w1 : Int → Int) => (4 - q).toNat) (fun (q : Int) (M1 : Mem) (w1 : Int → Int) => J KX9_goThrough 0 0 _ 2 [(0, some (.ref (ad 112))), (1, some (vI i)), (2, some (vI j)), (3, some (vI q))] [] M1 _ _) (fun q M1 w1 hI2 ih2 => ?_) _ _ wA ?_)
  ·
    obtain ⟨hq0, hq1, hm, hw⟩ := hI2
    refine r_iload_n dX9_goThrough_2 rfl ?_
    refine r_iconst dX9_goThrough_3 ?_
    refine r_icmp_ge (tgt := 20) dX9_goThrough_4 (by decide) (by omega) (by omega) (fun h4 => ?_) (fun h4 => ?_)
    ·
      refine r_aload_n dX9_goThrough_20 rfl ?_
      refine r_getfield clX9 15 (by decide) fl_X9_28 hm.o rfl dX9_goThrough_21 ?_
      refine r_iconst dX9_goThrough_24 ?_
      refine r_iconst dX9_goThrough_25 ?_
      refine r_iastore hm.b (by omega) (by omega) (by omega) dX9_goThrough_26 ?_
      refine hm.w_b hi (fun Mx hm => ?_)
      refine r_aload_n dX9_goThrough_27 rfl ?_
      refine r_getfield clX9 15 (by decide) fl_X9_28 hm.o rfl dX9_goThrough_28 ?_
      refine r_iconst dX9_goThrough_31 ?_
      refine r_iconst dX9_goThrough_32 ?_
      refine r_iastore hm.b (by omega) (by omega) (by omega) dX9_goThrough_33 ?_
      refine hm.w_b hi (fun Mx hm => ?_)
      refine r_aload_n dX9_goThrough_34 rfl ?_
      refine r_iload_n dX9_goThrough_35 rfl ?_
      refine r_callV1 okX9_many ⟨by decide, by decide⟩ ml_X9_45 (mX9_many hm hz (by omega) (by omega)) hm.o rfl rfl (Nat.le_of_ble_eq_true rfl) (Nat.le_of_ble_eq_true rfl) (Nat.le_of_ble_eq_true rfl) rfl dX9_goThrough_36 (nx_I) (kx_I ?_)
      refine r_if_ne (tgt := 46) dX9_goThrough_39 (by decide) (by omega) (fun h39 => ?_) (fun h39 => ?_)
      ·
        refine r_iconst dX9_goThrough_46 ?_
        refine r_istore_n dX9_goThrough_47 (by decide) rfl ?_
        refine J.loc (L' := [(0, some _), (1, some _), (2, some _), (3, some _)]) (lsub_cons rfl (lsub_cons rfl (lsub_cons rfl (lsub_cons rfl (lsub_nil))))) (loop4 (fun (c : Int) (M1 : Mem) (p2 : Int) (kk : Nat) => ∃ (r1 s1 b1 w1 : Int → Int) (rm1 bk1 : Int), RM M0 M1 ad zA hA tA r1 s1 pA b1 w1 m len th rm1 bk1 rd nu bd sc hs ∧ ((c = -1 ∧ (mtS n F g i j).1 = w1 0 ∧ (mtS n F g i j).2.1 = w1 1 ∧ (mtS n F g i j).2.2.1 = w1 2 ∧ (mtS n F g i j).2.2.2 = w1 3) ∨ (0 ≤ c ∧ c < n i ∧ n i - c ≤ kk ∧ (0 < n j → (0 ≤ p2 ∧ p2 < n j) ∧ b1 1 = batF (nbF (n j) (F j) (g 0) (g 1)) (stF (n j) (F j) (g 0) (g 1)) p2) ∧ mtS n F g i j = mtF (n i) (nbF (n i) (F i) (g 0) (g 1)) (stF (n i) (F i) (g 0) (g 1)) (F i) (n j) (nbF (n j) (F j) (g 0) (g 1)) (stF (n j) (F j) (g 0) (g 1)) (F j) kk c p2 (w1 0) (w1 1) (w1 2) (w1 3)))) (fun (c : Int) (M1 : Mem) (p2 : Int) (kk : Nat) => if c = -1 then 0 else (n i - c).toNat + 1) (fun (c : Int) (M1 : Mem) (p2 : Int) (kk : Nat) => J KX9_goThrough 0 0 _ 48 [(0, some (.ref (ad 112))), (1, some (vI i)), (2, some (vI j)), (3, some (vI c))] [] M1 _ _) (fun c M1 p2 kk hI48 ih48 => ?_) _ _ 0 (n i).toNat ?_)
        ·
          obtain ⟨r1, s1, b1, w1, rm1, bk1, hm, hcs⟩ := hI48
          have hcr : -1 ≤ c ∧ c < 60 := by rcases hcs with h | h <;> omega
          refine r_iload_n dX9_goThrough_48 rfl ?_
          refine r_iconst dX9_goThrough_49 ?_
          refine r_icmp_eq (tgt := 155) dX9_goThrough_50 (by decide) (by omega) (by omega) (fun h50 => ?_) (fun h50 => ?_)
          ·
            refine e_return dX9_goThrough_155 rfl (Nat.le_of_ble_eq_true rfl) (Nat.le_of_ble_eq_true rfl) ?_
            obtain ⟨hc0, hc1⟩ := hcs.resolve_right (by omega)
            exact oktV ⟨_, _, _, _, _, _, hm, hc1⟩
          ·
            obtain ⟨hc0, hc1, hkk, hp2, hres⟩ := hcs.resolve_left (by omega)
            obtain ⟨kn, rfl⟩ : ∃ kn : Nat, kk = kn + 1 := ⟨kk - 1, by omega⟩
            rw [mtF] at hres
            refine r_aload_n dX9_goThrough_53 rfl ?_
            refine r_iload_n dX9_goThrough_54 rfl ?_
            refine r_iload_n dX9_goThrough_55 rfl ?_
            refine r_callV2 okX9_at ⟨by decide, by decide⟩ ml_X9_49 (mX9_at hm hz (by omega) (by omega) (by omega) (by omega)) hm.o rfl rfl (Nat.le_of_ble_eq_true rfl) (Nat.le_of_ble_eq_true rfl) (Nat.le_of_ble_eq_true rfl) rfl dX9_goThrough_56 (nx_I) (kx_I ?_)
            have hfc := (hz.f h0 h1 (p := c) (by omega) (by omega)).2
            refine r_istore dX9_goThrough_59 (by decide) rfl ?_
            refine r_aload_n dX9_goThrough_61 rfl ?_
            refine r_iload_n dX9_goThrough_62 rfl ?_
            refine r_iconst dX9_goThrough_63 ?_
            refine r_iload dX9_goThrough_64 rfl ?_
            refine r_callV3 okX9_leap ⟨by decide, by decide⟩ ml_X9_192 (mX9_leap (s := 1) hm hi hz h2 h3 hg (by omega) hfc (fun h => by have := hp2 h; have := batF_r hbsj h p2; omega)) hm.o rfl rfl (Nat.le_of_ble_eq_true rfl) (Nat.le_of_ble_eq_true rfl) (Nat.le_of_ble_eq_true rfl) rfl dX9_goThrough_66 (nx_tI) (kx_tI ?_)
            intro Mx hM
            obtain ⟨r1, s1, b3, w3, rm1, bk1, hm, hw3, hk3, hb3, hb4⟩ := hM
            have hAe : (lpN (n j) (nbF (n j) (F j) (g 0) (g 1)) (stF (n j) (F j) (g 0) (g 1)) (F j) (F i c) (batF (nbF (n j) (F j) (g 0) (g 1)) (stF (n j) (F j) (g 0) (g 1)) p2)).1 = (lpN (n j) (nbF (n j) (F j) (g 0) (g 1)) (stF (n j) (F j) (g 0) (g 1)) (F j) (F i c) (b1 1)).1 ∧ (lpN (n j) (nbF (n j) (F j) (g 0) (g 1)) (stF (n j) (F j) (g 0) (g 1)) (F j) (F i c) (batF (nbF (n j) (F j) (g 0) (g 1)) (stF (n j) (F j) (g 0) (g 1)) p2)).2.1 = (lpN (n j) (nbF (n j) (F j) (g 0) (g 1)) (stF (n j) (F j) (g 0) (g 1)) (F j) (F i c) (b1 1)).2.1 ∧ (0 < n j → lpN (n j) (nbF (n j) (F j) (g 0) (g 1)) (stF (n j) (F j) (g 0) (g 1)) (F j) (F i c) (batF (nbF (n j) (F j) (g 0) (g 1)) (stF (n j) (F j) (g 0) (g 1)) p2) = lpN (n j) (nbF (n j) (F j) (g 0) (g 1)) (stF (n j) (F j) (g 0) (g 1)) (F j) (F i c) (b1 1)) := by
              by_cases e : 0 < n j
              · rw [(hp2 e).2]; exact ⟨rfl, rfl, fun _ => rfl⟩
              · have e2 : n j = 0 := by omega
                rw [e2, lpN_z, lpN_z]; exact ⟨rfl, rfl, fun h => by omega⟩
            have hsp := lpN_spec (F j) (F i c) (b0 := batF (nbF (n j) (F j) (g 0) (g 1)) (stF (n j) (F j) (g 0) (g 1)) p2) hbsj (fun h => batF_r hbsj h p2)
            generalize hA : lpN (n j) (nbF (n j) (F j) (g 0) (g 1)) (stF (n j) (F j) (g 0) (g 1)) (F j) (F i c) (batF (nbF (n j) (F j) (g 0) (g 1)) (stF (n j) (F j) (g 0) (g 1)) p2) = A at hAe hsp
            rw [← hAe.1] at hb4 ⊢
            rw [← hAe.2.1] at hk3
            refine r_istore dX9_goThrough_69 (by decide) rfl ?_
            refine r_iload dX9_goThrough_71 rfl ?_
            refine r_iconst dX9_goThrough_73 ?_
            refine r_icmp_ne (tgt := 82) dX9_goThrough_74 (by decide) (by omega) (by omega) (fun h74 => ?_) (fun h74 => ?_)
            ·
              have hsp0 := hsp.resolve_left (by omega)
              refine r_aload_n dX9_goThrough_82 rfl ?_
              refine r_iload_n dX9_goThrough_83 rfl ?_
              refine r_iload dX9_goThrough_84 rfl ?_
              refine r_callV2 okX9_at ⟨by decide, by decide⟩ ml_X9_49 (mX9_at hm hz (by omega) (by omega) (by omega) (by omega)) hm.o rfl rfl (Nat.le_of_ble_eq_true rfl) (Nat.le_of_ble_eq_true rfl) (Nat.le_of_ble_eq_true rfl) rfl dX9_goThrough_86 (nx_I) (kx_I ?_)
              have hfa := (hz.f h2 h3 (p := A.1) (by omega) (by omega)).2
              refine r_iload dX9_goThrough_89 rfl ?_
              refine r_icmp_ne (tgt := 126) dX9_goThrough_91 (by decide) (by omega) (by omega) (fun h91 => ?_) (fun h91 => ?_)
              ·
                refine r_aload_n dX9_goThrough_126 rfl ?_
                refine r_getfield clX9 15 (by decide) fl_X9_28 hm.o rfl dX9_goThrough_127 ?_
                refine r_iconst dX9_goThrough_130 ?_
                refine r_aload_n dX9_goThrough_131 rfl ?_
                refine r_iload_n dX9_goThrough_132 rfl ?_
                refine r_iload_n dX9_goThrough_133 rfl ?_
                refine r_callV2 okX9_blockWith ⟨by decide, by decide⟩ ml_X9_195 (mX9_blockWith hm hi hz h0 h1 hg (by omega) (by omega)) hm.o rfl rfl (Nat.le_of_ble_eq_true rfl) (Nat.le_of_ble_eq_true rfl) (Nat.le_of_ble_eq_true rfl) rfl dX9_goThrough_134 (nx_tI) (kx_tI ?_)
                intro Mx hM
                obtain ⟨r1, s1, rm1, bk1, hm⟩ := hM
                refine r_iastore hm.b (by omega) (by omega) (by omega) dX9_goThrough_137 ?_
                refine hm.w_b hi (fun Mx hm => ?_)
                refine r_aload_n dX9_goThrough_138 rfl ?_
                refine r_iload_n dX9_goThrough_139 rfl ?_
                refine r_iconst dX9_goThrough_140 ?_
                refine r_aload_n dX9_goThrough_141 rfl ?_
                refine r_iload_n dX9_goThrough_142 rfl ?_
                refine r_iload dX9_goThrough_143 rfl ?_
                refine r_callV2 okX9_at ⟨by decide, by decide⟩ ml_X9_49 (mX9_at hm hz (by omega) (by omega) (by omega) (by omega)) hm.o rfl rfl (Nat.le_of_ble_eq_true rfl) (Nat.le_of_ble_eq_true rfl) (Nat.le_of_ble_eq_true rfl) rfl dX9_goThrough_145 (nx_I) (kx_I ?_)
                refine r_callV3 okX9_leap ⟨by decide, by decide⟩ ml_X9_192 (mX9_leap (s := 0) hm hi hz h0 h1 hg (by omega) hfa (fun h => by rw [uI_s]; exact batF_r hbs h c)) hm.o rfl rfl (Nat.le_of_ble_eq_true rfl) (Nat.le_of_ble_eq_true rfl) (Nat.le_of_ble_eq_true rfl) rfl dX9_goThrough_148 (nx_tI) (kx_tI ?_)
                intro Mx hM
                obtain ⟨r1, s1, b5, w5, rm1, bk1, hm, hw5, hk5, hb5, hb6⟩ := hM
                have hsq := lpN_spec (F i) (F j A.1) (b0 := batF (nbF (n i) (F i) (g 0) (g 1)) (stF (n i) (F i) (g 0) (g 1)) c) hbs (fun h => batF_r hbs h c)
                rw [uI_s] at hk5 hb6 ⊢
                generalize hB : lpN (n i) (nbF (n i) (F i) (g 0) (g 1)) (stF (n i) (F i) (g 0) (g 1)) (F i) (F j A.1) (batF (nbF (n i) (F i) (g 0) (g 1)) (stF (n i) (F i) (g 0) (g 1)) c) = B at *
                refine r_istore_n dX9_goThrough_151 (by decide) rfl ?_
                refine r_goto (tgt := 48) dX9_goThrough_152 (by decide) ?_
                refine J.loc (lsub_cons rfl (lsub_cons rfl (lsub_cons rfl (lsub_cons rfl (lsub_nil))))) (ih48 _ _ A.1 kn ?_ ?_)
                · have hW : w5 0 = w1 0 ∧ w5 1 = w1 1 + 1 ∧ w5 2 = w1 2 + 1 ∧ w5 3 = w1 3 + A.2.1 + B.2.1 := by
                    rw [hw5 0 (by omega), hw5 1 (by omega), hw5 2 (by omega), hk5, show (1 : Int) + 0 = 1 from rfl, uI_n _ (show (0 : Int) ≠ 1 by omega), uI_s, uI_n _ (show (2 : Int) ≠ 1 by omega), hw3 0 (by omega), hw3 1 (by omega), hw3 2 (by omega), hk3, uI_n _ (show (0 : Int) ≠ 1 + 1 by omega), uI_n _ (show (1 : Int) ≠ 1 + 1 by omega), show (2 : Int) = 1 + 1 from rfl, uI_s]
                    exact ⟨rfl, rfl, rfl, rfl⟩
                  rw [hA, if_neg (by omega), if_neg (by omega), hB] at hres
                  obtain ⟨g0, g1, g2, g3, g4, g5, g6, g7⟩ := hsp.resolve_left (by omega)
                  refine ⟨_, _, _, _, _, _, hm, ?_⟩
                  by_cases hBn : B.1 < 0
                  · rw [if_pos hBn] at hres
                    exact Or.inl ⟨by rcases hsq with e | e <;> omega, by rw [hres, hW.1, hW.2.1, hW.2.2.1, hW.2.2.2]; exact ⟨rfl, rfl, rfl, rfl⟩⟩
                  · rw [if_neg hBn] at hres
                    obtain ⟨x0, x1, x2, x3, -⟩ := hsq.resolve_left (by omega)
                    have hlt := hsi.lt (i := c) (j := B.1) ⟨by omega, by omega⟩ ⟨x1, x2⟩ (by omega)
                    refine Or.inr ⟨by omega, x2, by omega, fun h => ⟨⟨g1, g2⟩, ?_⟩, ?_⟩
                    · rw [hb5 1 (by omega), uI_n _ (by omega), hb4 (by omega), ← hAe.2.2 h, batF_at hbsj ⟨g4, g5⟩ ⟨g6, g7⟩]
                    · rw [hres, hW.1, hW.2.1, hW.2.2.1, hW.2.2.2]
                · rw [if_neg (show ¬ c = -1 by omega)]
                  split
                  · omega
                  · next hB1 =>
                    obtain ⟨x0, x1, x2, x3, -⟩ := hsq.resolve_left (by omega)
                    have hlt := hsi.lt (i := c) (j := B.1) ⟨by omega, by omega⟩ ⟨x1, x2⟩ (by omega)
                    omega
              ·
                refine r_aload_n dX9_goThrough_94 rfl ?_
                refine r_getfield clX9 16 (by decide) fl_X9_31 hm.o rfl dX9_goThrough_95 ?_
                refine r_iconst dX9_goThrough_98 ?_
                refine r_dup2 dX9_goThrough_99 ?_
                refine r_iaload hm.w (by omega) (by omega) (by omega) dX9_goThrough_100 ?_
                refine r_iconst dX9_goThrough_101 ?_
                refine r_iadd dX9_goThrough_102 ?_
                refine r_iastore hm.w (by omega) (by omega) (by omega) dX9_goThrough_103 ?_
                refine hm.w_w hi (fun Mx hm => ?_)
                refine r_iload_n dX9_goThrough_104 rfl ?_
                refine r_iconst dX9_goThrough_105 ?_
                refine r_iadd dX9_goThrough_106 ?_
                refine r_aload_n dX9_goThrough_107 rfl ?_
                refine r_iload_n dX9_goThrough_108 rfl ?_
                refine r_callV1 okX9_many ⟨by decide, by decide⟩ ml_X9_45 (mX9_many hm hz (by omega) (by omega)) hm.o rfl rfl (Nat.le_of_ble_eq_true rfl) (Nat.le_of_ble_eq_true rfl) (Nat.le_of_ble_eq_true rfl) rfl dX9_goThrough_109 (nx_I) (kx_I ?_)
                refine r_icmp_ge (tgt := 121) dX9_goThrough_112 (by decide) (by omega) (by omega) (fun h112 => ?_) (fun h112 => ?_)
                ·
                  refine r_iconst dX9_goThrough_121 ?_
                  refine r_istore_n dX9_goThrough_122 (by decide) rfl ?_
                  refine r_goto (tgt := 152) dX9_goThrough_123 (by decide) ?_
                  refine r_goto (tgt := 48) dX9_goThrough_152 (by decide) ?_
                  refine J.loc (lsub_cons rfl (lsub_cons rfl (lsub_cons rfl (lsub_cons rfl (lsub_nil))))) (ih48 _ _ 0 0 ?_ ?_)
                  · rw [hA, if_neg (by omega), if_pos (by omega), if_neg (by omega)] at hres
                    exact ⟨_, _, _, _, _, _, hm, Or.inl ⟨rfl, by rw [hres, uI_s, uI_n _ (show (1 : Int) ≠ 0 by omega), uI_n _ (show (2 : Int) ≠ 0 by omega), uI_n _ (show (3 : Int) ≠ 0 by omega), hw3 0 (by omega), hw3 1 (by omega), hw3 2 (by omega), hk3, uI_n _ (show (0 : Int) ≠ 1 + 1 by omega), uI_n _ (show (1 : Int) ≠ 1 + 1 by omega), show (2 : Int) = 1 + 1 from rfl, uI_s]; exact ⟨rfl, rfl, rfl, rfl⟩⟩⟩
                  · rw [if_pos rfl, if_neg (by omega)]; omega
                ·
                  refine r_iload_n dX9_goThrough_115 rfl ?_
                  refine r_iconst dX9_goThrough_116 ?_
                  refine r_iadd dX9_goThrough_117 ?_
                  refine r_goto (tgt := 122) dX9_goThrough_118 (by decide) ?_
                  refine r_istore_n dX9_goThrough_122 (by decide) rfl ?_
                  refine r_goto (tgt := 152) dX9_goThrough_123 (by decide) ?_
                  refine r_goto (tgt := 48) dX9_goThrough_152 (by decide) ?_
                  refine J.loc (lsub_cons rfl (lsub_cons rfl (lsub_cons rfl (lsub_cons rfl (lsub_nil))))) (ih48 _ _ A.1 kn ?_ ?_)
                  · rw [hA, if_neg (by omega), if_pos (by omega), if_pos (by omega)] at hres
                    obtain ⟨g0, g1, g2, g3, g4, g5, g6, g7⟩ := hsp.resolve_left (by omega)
                    refine ⟨_, _, _, _, _, _, hm, Or.inr ⟨by omega, by omega, by omega, fun h => ⟨⟨g1, g2⟩, ?_⟩, ?_⟩⟩
                    · rw [hb4 (by omega), ← hAe.2.2 h, batF_at hbsj ⟨g4, g5⟩ ⟨g6, g7⟩]
                    · rw [hres, uI_s, uI_n _ (show (1 : Int) ≠ 0 by omega), uI_n _ (show (2 : Int) ≠ 0 by omega), uI_n _ (show (3 : Int) ≠ 0 by omega), hw3 0 (by omega), hw3 1 (by omega), hw3 2 (by omega), hk3, uI_n _ (show (0 : Int) ≠ 1 + 1 by omega), uI_n _ (show (1 : Int) ≠ 1 + 1 by omega), show (2 : Int) = 1 + 1 from rfl, uI_s]
                  · rw [if_neg (by omega), if_neg (by omega)]; omega
            ·
              refine r_iconst dX9_goThrough_77 ?_
              refine r_istore_n dX9_goThrough_78 (by decide) rfl ?_
              refine r_goto (tgt := 152) dX9_goThrough_79 (by decide) ?_
              refine r_goto (tgt := 48) dX9_goThrough_152 (by decide) ?_
              refine J.loc (lsub_cons rfl (lsub_cons rfl (lsub_cons rfl (lsub_cons rfl (lsub_nil))))) (ih48 _ _ 0 0 ?_ ?_)
              · rw [hA, if_pos (by omega)] at hres
                exact ⟨_, _, _, _, _, _, hm, Or.inl ⟨rfl, by rw [hres, hw3 0 (by omega), hw3 1 (by omega), hw3 2 (by omega), hk3, uI_n _ (show (0 : Int) ≠ 1 + 1 by omega), uI_n _ (show (1 : Int) ≠ 1 + 1 by omega), show (2 : Int) = 1 + 1 from rfl, uI_s]; exact ⟨rfl, rfl, rfl, rfl⟩⟩⟩
              · rw [if_pos rfl, if_neg (by omega)]; omega
        · first
          | exact ⟨_, _, _, _, _, _, hm, Or.inl ⟨rfl, by unfold mtS mtR; rw [if_pos (by omega), hw 0 (by omega) (by omega), hw 1 (by omega) (by omega), hw 2 (by omega) (by omega), hw 3 (by omega) (by omega)]; exact ⟨rfl, rfl, rfl, rfl⟩⟩⟩
          | exact ⟨_, _, _, _, _, _, hm, Or.inr ⟨by omega, by omega, by omega, fun h => ⟨⟨by omega, h⟩, by
              rw [uI_s, batF_at hbsj (b := 0) ⟨by omega, hbsj.2.2.2.2.1 h⟩ ⟨by have := hbsj.2.2.2.2.2.1; omega, by have := hbsj.2.2.2.2.2.1; have := hbsj.2.2.2.2.2.2.2.2 0 (0 + 1) (by omega) (by omega) (by have := hbsj.2.2.2.2.1 h; omega); omega⟩]⟩, by unfold mtS mtR; rw [if_neg (by omega), hw 0 (by omega) (by omega), hw 1 (by omega) (by omega), hw 2 (by omega) (by omega), hw 3 (by omega) (by omega)]⟩⟩
      ·
        refine r_iconst dX9_goThrough_42 ?_
        refine r_goto (tgt := 47) dX9_goThrough_43 (by decide) ?_
        refine r_istore_n dX9_goThrough_47 (by decide) rfl ?_
        refine J.loc (L' := [(0, some _), (1, some _), (2, some _), (3, some _)]) (lsub_cons rfl (lsub_cons rfl (lsub_cons rfl (lsub_cons rfl (lsub_nil))))) (loop4 (fun (c : Int) (M1 : Mem) (p2 : Int) (kk : Nat) => ∃ (r1 s1 b1 w1 : Int → Int) (rm1 bk1 : Int), RM M0 M1 ad zA hA tA r1 s1 pA b1 w1 m len th rm1 bk1 rd nu bd sc hs ∧ ((c = -1 ∧ (mtS n F g i j).1 = w1 0 ∧ (mtS n F g i j).2.1 = w1 1 ∧ (mtS n F g i j).2.2.1 = w1 2 ∧ (mtS n F g i j).2.2.2 = w1 3) ∨ (0 ≤ c ∧ c < n i ∧ n i - c ≤ kk ∧ (0 < n j → (0 ≤ p2 ∧ p2 < n j) ∧ b1 1 = batF (nbF (n j) (F j) (g 0) (g 1)) (stF (n j) (F j) (g 0) (g 1)) p2) ∧ mtS n F g i j = mtF (n i) (nbF (n i) (F i) (g 0) (g 1)) (stF (n i) (F i) (g 0) (g 1)) (F i) (n j) (nbF (n j) (F j) (g 0) (g 1)) (stF (n j) (F j) (g 0) (g 1)) (F j) kk c p2 (w1 0) (w1 1) (w1 2) (w1 3)))) (fun (c : Int) (M1 : Mem) (p2 : Int) (kk : Nat) => if c = -1 then 0 else (n i - c).toNat + 1) (fun (c : Int) (M1 : Mem) (p2 : Int) (kk : Nat) => J KX9_goThrough 0 0 _ 48 [(0, some (.ref (ad 112))), (1, some (vI i)), (2, some (vI j)), (3, some (vI c))] [] M1 _ _) (fun c M1 p2 kk hI48 ih48 => ?_) _ _ 0 (n i).toNat ?_)
        ·
          obtain ⟨r1, s1, b1, w1, rm1, bk1, hm, hcs⟩ := hI48
          have hcr : -1 ≤ c ∧ c < 60 := by rcases hcs with h | h <;> omega
          refine r_iload_n dX9_goThrough_48 rfl ?_
          refine r_iconst dX9_goThrough_49 ?_
          refine r_icmp_eq (tgt := 155) dX9_goThrough_50 (by decide) (by omega) (by omega) (fun h50 => ?_) (fun h50 => ?_)
          ·
            refine e_return dX9_goThrough_155 rfl (Nat.le_of_ble_eq_true rfl) (Nat.le_of_ble_eq_true rfl) ?_
            obtain ⟨hc0, hc1⟩ := hcs.resolve_right (by omega)
            exact oktV ⟨_, _, _, _, _, _, hm, hc1⟩
          ·
            obtain ⟨hc0, hc1, hkk, hp2, hres⟩ := hcs.resolve_left (by omega)
            obtain ⟨kn, rfl⟩ : ∃ kn : Nat, kk = kn + 1 := ⟨kk - 1, by omega⟩
            rw [mtF] at hres
            refine r_aload_n dX9_goThrough_53 rfl ?_
            refine r_iload_n dX9_goThrough_54 rfl ?_
            refine r_iload_n dX9_goThrough_55 rfl ?_
            refine r_callV2 okX9_at ⟨by decide, by decide⟩ ml_X9_49 (mX9_at hm hz (by omega) (by omega) (by omega) (by omega)) hm.o rfl rfl (Nat.le_of_ble_eq_true rfl) (Nat.le_of_ble_eq_true rfl) (Nat.le_of_ble_eq_true rfl) rfl dX9_goThrough_56 (nx_I) (kx_I ?_)
            have hfc := (hz.f h0 h1 (p := c) (by omega) (by omega)).2
            refine r_istore dX9_goThrough_59 (by decide) rfl ?_
            refine r_aload_n dX9_goThrough_61 rfl ?_
            refine r_iload_n dX9_goThrough_62 rfl ?_
            refine r_iconst dX9_goThrough_63 ?_
            refine r_iload dX9_goThrough_64 rfl ?_
            refine r_callV3 okX9_leap ⟨by decide, by decide⟩ ml_X9_192 (mX9_leap (s := 1) hm hi hz h2 h3 hg (by omega) hfc (fun h => by have := hp2 h; have := batF_r hbsj h p2; omega)) hm.o rfl rfl (Nat.le_of_ble_eq_true rfl) (Nat.le_of_ble_eq_true rfl) (Nat.le_of_ble_eq_true rfl) rfl dX9_goThrough_66 (nx_tI) (kx_tI ?_)
            intro Mx hM
            obtain ⟨r1, s1, b3, w3, rm1, bk1, hm, hw3, hk3, hb3, hb4⟩ := hM
            have hAe : (lpN (n j) (nbF (n j) (F j) (g 0) (g 1)) (stF (n j) (F j) (g 0) (g 1)) (F j) (F i c) (batF (nbF (n j) (F j) (g 0) (g 1)) (stF (n j) (F j) (g 0) (g 1)) p2)).1 = (lpN (n j) (nbF (n j) (F j) (g 0) (g 1)) (stF (n j) (F j) (g 0) (g 1)) (F j) (F i c) (b1 1)).1 ∧ (lpN (n j) (nbF (n j) (F j) (g 0) (g 1)) (stF (n j) (F j) (g 0) (g 1)) (F j) (F i c) (batF (nbF (n j) (F j) (g 0) (g 1)) (stF (n j) (F j) (g 0) (g 1)) p2)).2.1 = (lpN (n j) (nbF (n j) (F j) (g 0) (g 1)) (stF (n j) (F j) (g 0) (g 1)) (F j) (F i c) (b1 1)).2.1 ∧ (0 < n j → lpN (n j) (nbF (n j) (F j) (g 0) (g 1)) (stF (n j) (F j) (g 0) (g 1)) (F j) (F i c) (batF (nbF (n j) (F j) (g 0) (g 1)) (stF (n j) (F j) (g 0) (g 1)) p2) = lpN (n j) (nbF (n j) (F j) (g 0) (g 1)) (stF (n j) (F j) (g 0) (g 1)) (F j) (F i c) (b1 1)) := by
              by_cases e : 0 < n j
              · rw [(hp2 e).2]; exact ⟨rfl, rfl, fun _ => rfl⟩
              · have e2 : n j = 0 := by omega
                rw [e2, lpN_z, lpN_z]; exact ⟨rfl, rfl, fun h => by omega⟩
            have hsp := lpN_spec (F j) (F i c) (b0 := batF (nbF (n j) (F j) (g 0) (g 1)) (stF (n j) (F j) (g 0) (g 1)) p2) hbsj (fun h => batF_r hbsj h p2)
            generalize hA : lpN (n j) (nbF (n j) (F j) (g 0) (g 1)) (stF (n j) (F j) (g 0) (g 1)) (F j) (F i c) (batF (nbF (n j) (F j) (g 0) (g 1)) (stF (n j) (F j) (g 0) (g 1)) p2) = A at hAe hsp
            rw [← hAe.1] at hb4 ⊢
            rw [← hAe.2.1] at hk3
            refine r_istore dX9_goThrough_69 (by decide) rfl ?_
            refine r_iload dX9_goThrough_71 rfl ?_
            refine r_iconst dX9_goThrough_73 ?_
            refine r_icmp_ne (tgt := 82) dX9_goThrough_74 (by decide) (by omega) (by omega) (fun h74 => ?_) (fun h74 => ?_)
            ·
              have hsp0 := hsp.resolve_left (by omega)
              refine r_aload_n dX9_goThrough_82 rfl ?_
              refine r_iload_n dX9_goThrough_83 rfl ?_
              refine r_iload dX9_goThrough_84 rfl ?_
              refine r_callV2 okX9_at ⟨by decide, by decide⟩ ml_X9_49 (mX9_at hm hz (by omega) (by omega) (by omega) (by omega)) hm.o rfl rfl (Nat.le_of_ble_eq_true rfl) (Nat.le_of_ble_eq_true rfl) (Nat.le_of_ble_eq_true rfl) rfl dX9_goThrough_86 (nx_I) (kx_I ?_)
              have hfa := (hz.f h2 h3 (p := A.1) (by omega) (by omega)).2
              refine r_iload dX9_goThrough_89 rfl ?_
              refine r_icmp_ne (tgt := 126) dX9_goThrough_91 (by decide) (by omega) (by omega) (fun h91 => ?_) (fun h91 => ?_)
              ·
                refine r_aload_n dX9_goThrough_126 rfl ?_
                refine r_getfield clX9 15 (by decide) fl_X9_28 hm.o rfl dX9_goThrough_127 ?_
                refine r_iconst dX9_goThrough_130 ?_
                refine r_aload_n dX9_goThrough_131 rfl ?_
                refine r_iload_n dX9_goThrough_132 rfl ?_
                refine r_iload_n dX9_goThrough_133 rfl ?_
                refine r_callV2 okX9_blockWith ⟨by decide, by decide⟩ ml_X9_195 (mX9_blockWith hm hi hz h0 h1 hg (by omega) (by omega)) hm.o rfl rfl (Nat.le_of_ble_eq_true rfl) (Nat.le_of_ble_eq_true rfl) (Nat.le_of_ble_eq_true rfl) rfl dX9_goThrough_134 (nx_tI) (kx_tI ?_)
                intro Mx hM
                obtain ⟨r1, s1, rm1, bk1, hm⟩ := hM
                refine r_iastore hm.b (by omega) (by omega) (by omega) dX9_goThrough_137 ?_
                refine hm.w_b hi (fun Mx hm => ?_)
                refine r_aload_n dX9_goThrough_138 rfl ?_
                refine r_iload_n dX9_goThrough_139 rfl ?_
                refine r_iconst dX9_goThrough_140 ?_
                refine r_aload_n dX9_goThrough_141 rfl ?_
                refine r_iload_n dX9_goThrough_142 rfl ?_
                refine r_iload dX9_goThrough_143 rfl ?_
                refine r_callV2 okX9_at ⟨by decide, by decide⟩ ml_X9_49 (mX9_at hm hz (by omega) (by omega) (by omega) (by omega)) hm.o rfl rfl (Nat.le_of_ble_eq_true rfl) (Nat.le_of_ble_eq_true rfl) (Nat.le_of_ble_eq_true rfl) rfl dX9_goThrough_145 (nx_I) (kx_I ?_)
                refine r_callV3 okX9_leap ⟨by decide, by decide⟩ ml_X9_192 (mX9_leap (s := 0) hm hi hz h0 h1 hg (by omega) hfa (fun h => by rw [uI_s]; exact batF_r hbs h c)) hm.o rfl rfl (Nat.le_of_ble_eq_true rfl) (Nat.le_of_ble_eq_true rfl) (Nat.le_of_ble_eq_true rfl) rfl dX9_goThrough_148 (nx_tI) (kx_tI ?_)
                intro Mx hM
                obtain ⟨r1, s1, b5, w5, rm1, bk1, hm, hw5, hk5, hb5, hb6⟩ := hM
                have hsq := lpN_spec (F i) (F j A.1) (b0 := batF (nbF (n i) (F i) (g 0) (g 1)) (stF (n i) (F i) (g 0) (g 1)) c) hbs (fun h => batF_r hbs h c)
                rw [uI_s] at hk5 hb6 ⊢
                generalize hB : lpN (n i) (nbF (n i) (F i) (g 0) (g 1)) (stF (n i) (F i) (g 0) (g 1)) (F i) (F j A.1) (batF (nbF (n i) (F i) (g 0) (g 1)) (stF (n i) (F i) (g 0) (g 1)) c) = B at *
                refine r_istore_n dX9_goThrough_151 (by decide) rfl ?_
                refine r_goto (tgt := 48) dX9_goThrough_152 (by decide) ?_
                refine J.loc (lsub_cons rfl (lsub_cons rfl (lsub_cons rfl (lsub_cons rfl (lsub_nil))))) (ih48 _ _ A.1 kn ?_ ?_)
                · have hW : w5 0 = w1 0 ∧ w5 1 = w1 1 + 1 ∧ w5 2 = w1 2 + 1 ∧ w5 3 = w1 3 + A.2.1 + B.2.1 := by
                    rw [hw5 0 (by omega), hw5 1 (by omega), hw5 2 (by omega), hk5, show (1 : Int) + 0 = 1 from rfl, uI_n _ (show (0 : Int) ≠ 1 by omega), uI_s, uI_n _ (show (2 : Int) ≠ 1 by omega), hw3 0 (by omega), hw3 1 (by omega), hw3 2 (by omega), hk3, uI_n _ (show (0 : Int) ≠ 1 + 1 by omega), uI_n _ (show (1 : Int) ≠ 1 + 1 by omega), show (2 : Int) = 1 + 1 from rfl, uI_s]
                    exact ⟨rfl, rfl, rfl, rfl⟩
                  rw [hA, if_neg (by omega), if_neg (by omega), hB] at hres
                  obtain ⟨g0, g1, g2, g3, g4, g5, g6, g7⟩ := hsp.resolve_left (by omega)
                  refine ⟨_, _, _, _, _, _, hm, ?_⟩
                  by_cases hBn : B.1 < 0
                  · rw [if_pos hBn] at hres
                    exact Or.inl ⟨by rcases hsq with e | e <;> omega, by rw [hres, hW.1, hW.2.1, hW.2.2.1, hW.2.2.2]; exact ⟨rfl, rfl, rfl, rfl⟩⟩
                  · rw [if_neg hBn] at hres
                    obtain ⟨x0, x1, x2, x3, -⟩ := hsq.resolve_left (by omega)
                    have hlt := hsi.lt (i := c) (j := B.1) ⟨by omega, by omega⟩ ⟨x1, x2⟩ (by omega)
                    refine Or.inr ⟨by omega, x2, by omega, fun h => ⟨⟨g1, g2⟩, ?_⟩, ?_⟩
                    · rw [hb5 1 (by omega), uI_n _ (by omega), hb4 (by omega), ← hAe.2.2 h, batF_at hbsj ⟨g4, g5⟩ ⟨g6, g7⟩]
                    · rw [hres, hW.1, hW.2.1, hW.2.2.1, hW.2.2.2]
                · rw [if_neg (show ¬ c = -1 by omega)]
                  split
                  · omega
                  · next hB1 =>
                    obtain ⟨x0, x1, x2, x3, -⟩ := hsq.resolve_left (by omega)
                    have hlt := hsi.lt (i := c) (j := B.1) ⟨by omega, by omega⟩ ⟨x1, x2⟩ (by omega)
                    omega
              ·
                refine r_aload_n dX9_goThrough_94 rfl ?_
                refine r_getfield clX9 16 (by decide) fl_X9_31 hm.o rfl dX9_goThrough_95 ?_
                refine r_iconst dX9_goThrough_98 ?_
                refine r_dup2 dX9_goThrough_99 ?_
                refine r_iaload hm.w (by omega) (by omega) (by omega) dX9_goThrough_100 ?_
                refine r_iconst dX9_goThrough_101 ?_
                refine r_iadd dX9_goThrough_102 ?_
                refine r_iastore hm.w (by omega) (by omega) (by omega) dX9_goThrough_103 ?_
                refine hm.w_w hi (fun Mx hm => ?_)
                refine r_iload_n dX9_goThrough_104 rfl ?_
                refine r_iconst dX9_goThrough_105 ?_
                refine r_iadd dX9_goThrough_106 ?_
                refine r_aload_n dX9_goThrough_107 rfl ?_
                refine r_iload_n dX9_goThrough_108 rfl ?_
                refine r_callV1 okX9_many ⟨by decide, by decide⟩ ml_X9_45 (mX9_many hm hz (by omega) (by omega)) hm.o rfl rfl (Nat.le_of_ble_eq_true rfl) (Nat.le_of_ble_eq_true rfl) (Nat.le_of_ble_eq_true rfl) rfl dX9_goThrough_109 (nx_I) (kx_I ?_)
                refine r_icmp_ge (tgt := 121) dX9_goThrough_112 (by decide) (by omega) (by omega) (fun h112 => ?_) (fun h112 => ?_)
                ·
                  refine r_iconst dX9_goThrough_121 ?_
                  refine r_istore_n dX9_goThrough_122 (by decide) rfl ?_
                  refine r_goto (tgt := 152) dX9_goThrough_123 (by decide) ?_
                  refine r_goto (tgt := 48) dX9_goThrough_152 (by decide) ?_
                  refine J.loc (lsub_cons rfl (lsub_cons rfl (lsub_cons rfl (lsub_cons rfl (lsub_nil))))) (ih48 _ _ 0 0 ?_ ?_)
                  · rw [hA, if_neg (by omega), if_pos (by omega), if_neg (by omega)] at hres
                    exact ⟨_, _, _, _, _, _, hm, Or.inl ⟨rfl, by rw [hres, uI_s, uI_n _ (show (1 : Int) ≠ 0 by omega), uI_n _ (show (2 : Int) ≠ 0 by omega), uI_n _ (show (3 : Int) ≠ 0 by omega), hw3 0 (by omega), hw3 1 (by omega), hw3 2 (by omega), hk3, uI_n _ (show (0 : Int) ≠ 1 + 1 by omega), uI_n _ (show (1 : Int) ≠ 1 + 1 by omega), show (2 : Int) = 1 + 1 from rfl, uI_s]; exact ⟨rfl, rfl, rfl, rfl⟩⟩⟩
                  · rw [if_pos rfl, if_neg (by omega)]; omega
                ·
                  refine r_iload_n dX9_goThrough_115 rfl ?_
                  refine r_iconst dX9_goThrough_116 ?_
                  refine r_iadd dX9_goThrough_117 ?_
                  refine r_goto (tgt := 122) dX9_goThrough_118 (by decide) ?_
                  refine r_istore_n dX9_goThrough_122 (by decide) rfl ?_
                  refine r_goto (tgt := 152) dX9_goThrough_123 (by decide) ?_
                  refine r_goto (tgt := 48) dX9_goThrough_152 (by decide) ?_
                  refine J.loc (lsub_cons rfl (lsub_cons rfl (lsub_cons rfl (lsub_cons rfl (lsub_nil))))) (ih48 _ _ A.1 kn ?_ ?_)
                  · rw [hA, if_neg (by omega), if_pos (by omega), if_pos (by omega)] at hres
                    obtain ⟨g0, g1, g2, g3, g4, g5, g6, g7⟩ := hsp.resolve_left (by omega)
                    refine ⟨_, _, _, _, _, _, hm, Or.inr ⟨by omega, by omega, by omega, fun h => ⟨⟨g1, g2⟩, ?_⟩, ?_⟩⟩
                    · rw [hb4 (by omega), ← hAe.2.2 h, batF_at hbsj ⟨g4, g5⟩ ⟨g6, g7⟩]
                    · rw [hres, uI_s, uI_n _ (show (1 : Int) ≠ 0 by omega), uI_n _ (show (2 : Int) ≠ 0 by omega), uI_n _ (show (3 : Int) ≠ 0 by omega), hw3 0 (by omega), hw3 1 (by omega), hw3 2 (by omega), hk3, uI_n _ (show (0 : Int) ≠ 1 + 1 by omega), uI_n _ (show (1 : Int) ≠ 1 + 1 by omega), show (2 : Int) = 1 + 1 from rfl, uI_s]
                  · rw [if_neg (by omega), if_neg (by omega)]; omega
            ·
              refine r_iconst dX9_goThrough_77 ?_
              refine r_istore_n dX9_goThrough_78 (by decide) rfl ?_
              refine r_goto (tgt := 152) dX9_goThrough_79 (by decide) ?_
              refine r_goto (tgt := 48) dX9_goThrough_152 (by decide) ?_
              refine J.loc (lsub_cons rfl (lsub_cons rfl (lsub_cons rfl (lsub_cons rfl (lsub_nil))))) (ih48 _ _ 0 0 ?_ ?_)
              · rw [hA, if_pos (by omega)] at hres
                exact ⟨_, _, _, _, _, _, hm, Or.inl ⟨rfl, by rw [hres, hw3 0 (by omega), hw3 1 (by omega), hw3 2 (by omega), hk3, uI_n _ (show (0 : Int) ≠ 1 + 1 by omega), uI_n _ (show (1 : Int) ≠ 1 + 1 by omega), show (2 : Int) = 1 + 1 from rfl, uI_s]; exact ⟨rfl, rfl, rfl, rfl⟩⟩⟩
              · rw [if_pos rfl, if_neg (by omega)]; omega
        · first
          | exact ⟨_, _, _, _, _, _, hm, Or.inl ⟨rfl, by unfold mtS mtR; rw [if_pos (by omega), hw 0 (by omega) (by omega), hw 1 (by omega) (by omega), hw 2 (by omega) (by omega), hw 3 (by omega) (by omega)]; exact ⟨rfl, rfl, rfl, rfl⟩⟩⟩
          | exact ⟨_, _, _, _, _, _, hm, Or.inr ⟨by omega, by omega, by omega, fun h => ⟨⟨by omega, h⟩, by
              rw [uI_s, batF_at hbsj (b := 0) ⟨by omega, hbsj.2.2.2.2.1 h⟩ ⟨by have := hbsj.2.2.2.2.2.1; omega, by have := hbsj.2.2.2.2.2.1; have := hbsj.2.2.2.2.2.2.2.2 0 (0 + 1) (by omega) (by omega) (by have := hbsj.2.2.2.2.1 h; omega); omega⟩]⟩, by unfold mtS mtR; rw [if_neg (by omega), hw 0 (by omega) (by omega), hw 1 (by omega) (by omega), hw 2 (by omega) (by omega), hw 3 (by omega) (by omega)]⟩⟩
    ·
      refine r_aload_n dX9_goThrough_7 rfl ?_
      refine r_getfield clX9 16 (by decide) fl_X9_31 hm.o rfl dX9_goThrough_8 ?_
      refine r_iload_n dX9_goThrough_11 rfl ?_
      refine r_iconst dX9_goThrough_12 ?_
      refine r_iastore hm.w (by omega) (by omega) (by omega) dX9_goThrough_13 ?_
      refine hm.w_w hi (fun Mx hm => ?_)
      refine r_iinc dX9_goThrough_14 rfl rfl ?_
      refine r_goto (tgt := 2) dX9_goThrough_17 (by decide) ?_
      refine J.loc (lsub_cons rfl (lsub_cons rfl (lsub_cons rfl (lsub_cons rfl (lsub_nil))))) (ih2 _ _ (uI w1 q 0) ?_ ?_)
      · refine ⟨by omega, by omega, hm, fun e a b => ?_⟩
        by_cases e9 : e = q
        · rw [e9, uI_s]
        · rw [uI_n _ e9]; exact hw e a (by omega)
      · omega
  · exact ⟨by omega, by omega, hm, fun e a b => by omega⟩

set_option maxHeartbeats 4000000 in
theorem mX9_leapsNow {M0 M : Mem} {ad : Int → Nat} {zA hA tA pA : Int → Int} {m len th rd nu bd sc : Int} {hs : Int64} {n : Int → Int} {F : Int → Int → Int} {g : Int → Int} {i j w : Int} (hq : RQ M0 M ad zA hA tA pA m len th rd nu bd sc hs) (hi : Inj ad) (hz : Zr zA n F g) (h0 : 0 ≤ i) (h1 : i < 4) (h2 : 0 ≤ j) (h3 : j < 4) (hv : Vld (n, F, g)) (q1 : 0 ≤ w ∧ w ≤ 3) : Ct KX9_leapsNow [.ref (ad 112), vI i, vI j, vI w] M 0 0 (atI (tolF (mtS n F g i j) w) (fun M2 => RQ M0 M2 ad zA hA tA pA m len th rd nu bd sc hs)) := by
  refine Ct.of _ (by decide) rfl (Nat.le_of_ble_eq_true rfl) ?_
  obtain ⟨rA, sA, bA, wA, rm, bk, hm⟩ := hq
  refine r_aload_n dX9_leapsNow_0 rfl ?_
  refine r_iload_n dX9_leapsNow_1 rfl ?_
  refine r_iload_n dX9_leapsNow_2 rfl ?_
  refine r_callV2 okX9_goThrough ⟨by decide, by decide⟩ ml_X9_198 (mX9_goThrough hm hi hz h0 h1 h2 h3 hv) hm.o rfl rfl (Nat.le_of_ble_eq_true rfl) (Nat.le_of_ble_eq_true rfl) (Nat.le_of_ble_eq_true rfl) rfl dX9_leapsNow_3 (nx_tV) (kx_tV ?_)
  intro Mx hM
  obtain ⟨rA, sA, bA, wA, rm, bk, hm, hw0, hw1, hw2, hw3⟩ := hM
  refine r_aload_n dX9_leapsNow_6 rfl ?_
  refine r_getfield clX9 16 (by decide) fl_X9_31 hm.o rfl dX9_leapsNow_7 ?_
  refine r_iload_n dX9_leapsNow_10 rfl ?_
  refine r_iaload hm.w (by omega) (by omega) (by omega) dX9_leapsNow_11 ?_
  refine e_ireturn dX9_leapsNow_12 rfl (Nat.le_of_ble_eq_true rfl) (Nat.le_of_ble_eq_true rfl) ?_
  have htl : wA w = tolF (mtS n F g i j) w := by
    unfold tolF
    rcases (show w = 0 ∨ w = 1 ∨ w = 2 ∨ w = 3 by omega) with rfl | rfl | rfl | rfl
    · rw [if_pos rfl, hw0]
    · rw [if_neg (by omega), if_pos rfl, hw1]
    · rw [if_neg (by omega), if_neg (by omega), if_pos rfl, hw2]
    · rw [if_neg (by omega), if_neg (by omega), if_neg (by omega), hw3]
  exact oktI htl hm.q
