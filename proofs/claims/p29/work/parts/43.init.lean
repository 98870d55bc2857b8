/-! the constructors: what is made, and where it lies -/
def Kp' (M1 M2 : Mem) (o : Nat) : Prop := ∀ a, a ≠ o → M1 a ≠ none → M2 a = M1 a
theorem Kp'.rf {M : Mem} {o : Nat} : Kp' M M o := fun _ _ _ => rfl
theorem Kp'.trans {A B C : Mem} {o : Nat} (h1 : Kp' A B o) (h2 : Kp' B C o) : Kp' A C o := fun a ha hn => by
  have e := h1 a ha hn
  exact (h2 a ha (by rw [e]; exact hn)).trans e
/-- since M: object o is y, and these things are new, at these addresses -/
def Sx (M M1 : Mem) (o : Nat) (y : AC) (L : List (Nat × AC)) : Prop := M1 o = some y ∧ M o ≠ none ∧ (L.map Prod.fst).Nodup ∧ (∀ p ∈ L, M p.1 = none ∧ M1 p.1 = some p.2) ∧ Kp' M M1 o
theorem Sx.start {M : Mem} {o : Nat} {y : AC} (h : M o = some y) : Sx M M o y [] := ⟨h, by rw [h]; exact (fun h => nomatch h), List.nodup_nil, (fun p hp => nomatch hp), Kp'.rf⟩
theorem Sx.at {M M1 : Mem} {o : Nat} {y : AC} {L : List (Nat × AC)} (h : Sx M M1 o y L) {a : Nat} {x : AC} (hm : (a, x) ∈ L) : M1 a = some x := (h.2.2.2.1 _ hm).2
theorem Sx.ne {M M1 : Mem} {o : Nat} {y : AC} {L : List (Nat × AC)} (h : Sx M M1 o y L) {p : Nat × AC} (hm : p ∈ L) : p.1 ≠ o := fun e => h.2.1 (by rw [← e]; exact (h.2.2.2.1 p hm).1)
theorem Sx.upO {M M1 : Mem} {o : Nat} {y : AC} {L : List (Nat × AC)} (h : Sx M M1 o y L) (y' : AC) : Sx M (up M1 o y') o y' L :=
  ⟨up_s _ _ _, h.2.1, h.2.2.1, fun p hp => ⟨(h.2.2.2.1 p hp).1, (up_n _ (h.ne hp)).trans (h.2.2.2.1 p hp).2⟩, fun a ha hn => (up_n _ ha).trans (h.2.2.2.2 a ha hn)⟩
theorem Sx.mk {M M1 : Mem} {o : Nat} {y : AC} {L : List (Nat × AC)} (h : Sx M M1 o y L) {q : Nat} (hq : M1 q = none) (x : AC) : Sx M (up M1 q x) o y ((q, x) :: L) := by
  have hqo : o ≠ q := fun e => by have := h.1; rw [e, hq] at this; cases this
  have hMq : M q = none := by
    cases e : M q with
    | none => rfl
    | some z =>
      have h9 := h.2.2.2.2 q (Ne.symm hqo) (by rw [e]; exact (fun h => nomatch h))
      rw [hq, e] at h9; cases h9
  have hL : ∀ p ∈ L, p.1 ≠ q := fun p hp e => by have := (h.2.2.2.1 p hp).2; rw [e, hq] at this; cases this
  refine ⟨(up_n _ hqo).trans h.1, h.2.1, ?_, fun p hp => ?_, fun a ha hn => ?_⟩
  · rw [List.map_cons, List.nodup_cons]
    refine ⟨fun hm => ?_, h.2.2.1⟩
    obtain ⟨p, hp, e⟩ := List.mem_map.mp hm
    exact hL p hp e
  · rcases List.mem_cons.mp hp with rfl | hp
    · exact ⟨hMq, up_s _ _ _⟩
    · exact ⟨(h.2.2.2.1 p hp).1, (up_n _ (hL p hp)).trans (h.2.2.2.1 p hp).2⟩
  · have e : a ≠ q := fun e => by rw [e] at hn; exact hn hMq
    exact (up_n _ e).trans (h.2.2.2.2 a ha hn)
theorem Sx.wr {M M1 : Mem} {o : Nat} {y : AC} {A B : List (Nat × AC)} {q : Nat} {x : AC} (h : Sx M M1 o y (A ++ (q, x) :: B)) (x' : AC) : Sx M (up M1 q x') o y (A ++ (q, x') :: B) := by
  obtain ⟨h1, h2, h3, h4, h5⟩ := id h
  have hmap : ((A ++ (q, x') :: B).map Prod.fst) = ((A ++ (q, x) :: B).map Prod.fst) := by simp
  have hqo : q ≠ o := h.ne (p := (q, x)) (by simp)
  have hMq := (h4 (q, x) (by simp)).1
  rw [List.map_append, List.map_cons] at h3
  have hn := List.nodup_append.mp h3
  refine ⟨(up_n _ (Ne.symm hqo)).trans h1, h2, by rw [hmap, List.map_append, List.map_cons]; exact h3, fun p hp => ?_, fun a ha hn2 => ?_⟩
  · rcases List.mem_append.mp hp with hp | hp
    · have e : p.1 ≠ q := fun e => hn.2.2 p.1 (List.mem_map_of_mem hp) q (by simp) e
      exact ⟨(h4 p (List.mem_append_left _ hp)).1, (up_n _ e).trans (h4 p (List.mem_append_left _ hp)).2⟩
    · rcases List.mem_cons.mp hp with rfl | hp
      · exact ⟨hMq, up_s _ _ _⟩
      · have e : p.1 ≠ q := fun e => (List.nodup_cons.mp hn.2.1).1 (List.mem_map.mpr ⟨p, hp, e⟩)
        have hm : p ∈ A ++ (q, x) :: B := List.mem_append_right _ (List.mem_cons_of_mem _ hp)
        exact ⟨(h4 p hm).1, (up_n _ e).trans (h4 p hm).2⟩
  · have e : a ≠ q := fun e => by rw [e] at hn2; exact hn2 hMq
    exact (up_n _ e).trans (h5 a ha hn2)
theorem Sx.sub {M M1 M2 : Mem} {o q : Nat} {y x y' : AC} {L L' : List (Nat × AC)} (h : Sx M M1 o y ((q, x) :: L)) (h2 : Sx M1 M2 q y' L') : Sx M M2 o y (L' ++ (q, y') :: L) := by
  obtain ⟨a1, a2, a3, a4, a5⟩ := id h
  obtain ⟨b1, b2, b3, b4, b5⟩ := id h2
  have hqo : q ≠ o := h.ne (p := (q, x)) (by simp)
  rw [List.map_cons, List.nodup_cons] at a3
  have keep : ∀ a z, a ≠ q → M1 a = some z → M2 a = some z := fun a z ha hz => (b5 a ha (by rw [hz]; exact (fun h => nomatch h))).trans hz
  have fresh : ∀ p ∈ L', M p.1 = none ∧ p.1 ≠ q ∧ ∀ p' ∈ L, p.1 ≠ p'.1 := fun p hp => by
    have h0 := (b4 p hp).1
    refine ⟨?_, fun e => b2 (by rw [← e]; exact h0), fun p' hp' e => ?_⟩
    · cases e : M p.1 with
      | none => rfl
      | some z =>
        have hne : p.1 ≠ o := fun e9 => by rw [e9, a1] at h0; cases h0
        have h9 := a5 p.1 hne (by rw [e]; exact (fun h => nomatch h))
        rw [h0, e] at h9; cases h9
    · have := (a4 p' (List.mem_cons_of_mem _ hp')).2
      rw [← e, h0] at this; cases this
  refine ⟨keep o y (Ne.symm hqo) a1, a2, ?_, fun p hp => ?_, fun a ha hn => ?_⟩
  · rw [List.map_append, List.map_cons]
    refine List.nodup_append.mpr ⟨b3, List.nodup_cons.mpr a3, fun u hu v hv e => ?_⟩
    obtain ⟨p, hp, rfl⟩ := List.mem_map.mp hu
    obtain ⟨f1, f2, f3⟩ := fresh p hp
    rcases List.mem_cons.mp hv with hv | hv
    · exact f2 (e.trans hv)
    · obtain ⟨p', hp', rfl⟩ := List.mem_map.mp hv
      exact f3 p' hp' e
  · rcases List.mem_append.mp hp with hp | hp
    · exact ⟨(fresh p hp).1, (b4 p hp).2⟩
    · rcases List.mem_cons.mp hp with rfl | hp
      · exact ⟨(a4 (q, x) (by simp)).1, b1⟩
      · have hm := a4 p (List.mem_cons_of_mem _ hp)
        exact ⟨hm.1, keep _ _ (fun e => a3.1 (List.mem_map.mpr ⟨p, hp, e⟩)) hm.2⟩
  · have haq : a ≠ q := fun e => by rw [e] at hn; exact hn (a4 (q, x) (by simp)).1
    have e := a5 a ha hn
    exact (b5 a haq (by rw [e]; exact hn)).trans e
section JS
variable {κ : Kp} {bc bs : Nat} {Q : Rs → Mem → Prop} {pc : Nat} {L9 : Ls} {st : List Value} {k n : Nat} {M M1 : Mem} {o q : Nat} {y x : AC} {L A B : List (Nat × AC)}
theorem Sx.jput (h : Sx M M1 o y L) {y' : AC} (kk : ∀ M2, Sx M M2 o y' L → J κ bc bs Q pc L9 st M2 k n) : J κ bc bs Q pc L9 st (up M1 o y') k n := kk _ (h.upO y')
theorem Sx.jnew (h : Sx M M1 o y L) (hq : M1 q = none) {x : AC} (kk : ∀ M2, Sx M M2 o y ((q, x) :: L) → J κ bc bs Q pc L9 st M2 k n) : J κ bc bs Q pc L9 st (up M1 q x) k n := kk _ (h.mk hq x)
theorem Sx.jwr (h : Sx M M1 o y (A ++ (q, x) :: B)) {x' : AC} (kk : ∀ M2, Sx M M2 o y (A ++ (q, x') :: B) → J κ bc bs Q pc L9 st M2 k n) : J κ bc bs Q pc L9 st (up M1 q x') k n := kk _ (h.wr x')
end JS
theorem Sx.nth {M M1 : Mem} {o : Nat} {y : AC} {L : List (Nat × AC)} (h : Sx M M1 o y L) (i : Nat) {p : Nat × AC} (hp : L[i]? = some p) : M1 p.1 = some p.2 := (h.2.2.2.1 p (List.mem_of_getElem? hp)).2
theorem Sx.perm {M M1 : Mem} {o : Nat} {y : AC} {L L' : List (Nat × AC)} (h : Sx M M1 o y L) (hp : L.Perm L') : Sx M M1 o y L' :=
  ⟨h.1, h.2.1, (hp.map Prod.fst).nodup_iff.mp h.2.2.1, fun p hm => h.2.2.2.1 p (hp.mem_iff.mpr hm), h.2.2.2.2⟩
/-- .. with one of them kept ahead -/
theorem Sx.subF {M M1 M2 : Mem} {o q f0 : Nat} {y x y' x0 : AC} {L L' : List (Nat × AC)} (h : Sx M M1 o y ((q, x) :: (f0, x0) :: L)) (h2 : Sx M1 M2 q y' L') : Sx M M2 o y ((f0, x0) :: (L' ++ (q, y') :: L)) := by
  refine (h.sub h2).perm ?_
  have h1 : (L' ++ (q, y') :: (f0, x0) :: L).Perm (L' ++ (f0, x0) :: (q, y') :: L) := List.Perm.append_left _ (List.Perm.swap _ _ _)
  exact h1.trans List.perm_middle
abbrev zF : Int → Int := fun _ => 0
/-- a new State q: what it is, and its things -/
def StS (q : Nat) (y : AC) (L : List (Nat × AC)) : Prop := ∃ (row p0 r0 p1 r1 p2 r2 p3 r3 pn rn qs : Nat) (f : Int → Option Nat) (gs : Int → Int), y = oC 7 [.ref row, .ref pn, .ref qs] ∧ (f 0 = some p0 ∧ f 1 = some p1 ∧ f 2 = some p2 ∧ f 3 = some p3) ∧ (gs 0 = 8 ∧ gs 1 = 300) ∧
  L = [(qs, aI 2 gs), (rn, aI 0 zF), (pn, oC 5 [.ref rn, vI 0]), (row, aR 5 4 f), (r3, aI 60 zF), (p3, oC 5 [.ref r3, vI 0]), (r2, aI 60 zF), (p2, oC 5 [.ref r2, vI 0]), (r1, aI 60 zF), (p1, oC 5 [.ref r1, vI 0]), (r0, aI 60 zF), (p0, oC 5 [.ref r0, vI 0])]
theorem Sx.chg {M M1 M2 : Mem} {o a b : Nat} {y y' xa xb xa' xb' : AC} (h : Sx M M1 o y [(b, xb), (a, xa)]) (h1 : M2 o = some y') (ha : M2 a = some xa') (hb : M2 b = some xb') (hk : ∀ q, q ≠ o → q ≠ a → q ≠ b → M2 q = M1 q) : Sx M M2 o y' [(b, xb'), (a, xa')] := by
  obtain ⟨g1, g2, g3, g4, g5⟩ := h
  have hb0 := (g4 (b, xb) (by simp)).1
  have ha0 := (g4 (a, xa) (by simp)).1
  refine ⟨h1, g2, g3, fun p hp => ?_, fun q hq hn => ?_⟩
  · rcases List.mem_cons.mp hp with rfl | hp
    · exact ⟨hb0, hb⟩
    · rcases List.mem_cons.mp hp with rfl | hp
      · exact ⟨ha0, ha⟩
      · cases hp
  · exact (hk q hq (fun e => hn (by rw [e]; exact ha0)) (fun e => hn (by rw [e]; exact hb0))).trans (g5 q hq hn)
/-- some addresses for a Parser alone -/
def pad (o a b : Nat) : Int → Nat := fun i => if i = 96 then o else if i = 97 then a else if i = 98 then b else o + a + b + 1 + i.toNat
theorem pad_inj {o a b : Nat} (h1 : a ≠ o) (h2 : b ≠ o) (h3 : a ≠ b) : Inj (pad o a b) := by
  intro i j h0 h9 h0' h9' e
  unfold pad at e
  split at e <;> split at e <;> (try split at e) <;> (try split at e) <;> (try split at e) <;> (try split at e) <;> omega

theorem StS.y {q : Nat} {y : AC} {L : List (Nat × AC)} (h : StS q y L) : ∃ v : List Value, y = oC 7 v := by
  obtain ⟨_, _, _, _, _, _, _, _, _, _, _, _, _, _, h, -⟩ := h
  exact ⟨_, h⟩
/-- a new History -/
def HsS (y : AC) (L : List (Nat × AC)) : Prop := ∃ (ring : Nat) (f : Int → Option Nat) (q0 : Nat) (v0 : List Value) (L0 : List (Nat × AC)) (q1 : Nat) (v1 : List Value) (L1 : List (Nat × AC)) (q2 : Nat) (v2 : List Value) (L2 : List (Nat × AC)) (q3 : Nat) (v3 : List Value) (L3 : List (Nat × AC)) (q4 : Nat) (v4 : List Value) (L4 : List (Nat × AC)) (q5 : Nat) (v5 : List Value) (L5 : List (Nat × AC)),
  y = oC 2 [.ref ring, vI 0, vI 0] ∧ L = (ring, aR 7 6 f) :: (L5 ++ (q5, oC 7 v5) :: (L4 ++ (q4, oC 7 v4) :: (L3 ++ (q3, oC 7 v3) :: (L2 ++ (q2, oC 7 v2) :: (L1 ++ (q1, oC 7 v1) :: (L0 ++ (q0, oC 7 v0) :: [])))))) ∧
  StS q0 (oC 7 v0) L0 ∧ StS q1 (oC 7 v1) L1 ∧ StS q2 (oC 7 v2) L2 ∧ StS q3 (oC 7 v3) L3 ∧ StS q4 (oC 7 v4) L4 ∧ StS q5 (oC 7 v5) L5 ∧ f 0 = some q0 ∧ f 1 = some q1 ∧ f 2 = some q2 ∧ f 3 = some q3 ∧ f 4 = some q4 ∧ f 5 = some q5
/-- the class, new -/
def XsS (y : AC) (L : List (Nat × AC)) : Prop := ∃ (s : Nat) (ys : AC) (Ls : List (Nat × AC)) (h : Nat) (yh : AC) (Lh : List (Nat × AC)) (b ab p pa pb : Nat) (i1 i2 i3 i4 i5 i6 : Int) (f1 f2 : Int → Int) (k ka kp kr mt l1 b1 ba1 bp1 br1 mm1 mr1 l2 b2 ba2 bp2 br2 mm2 mr2 t at' w aw : Nat),
  y = oC 8 [.ref s, .ref h, .ref b, .ref p, .ref k, .ref mt, .ref t, .ref w] ∧ StS s ys Ls ∧ HsS yh Lh ∧
  L = (aw, aI 241 zF) :: (w, oC 5 [.ref aw, vI 0]) :: (at', aI 120 zF) :: (t, oC 5 [.ref at', vI 0]) ::
    (mr2, aI 0 zF) :: (mm2, oC 5 [.ref mr2, vI 0]) :: (br2, aI 0 zF) :: (bp2, oC 5 [.ref br2, vI 0]) :: (ba2, aI 61 zF) :: (b2, oC 0 [.ref ba2, vI 0, .ref bp2]) :: (l2, oC 3 [.ref b2, .ref mm2, vI 0, vI 0, vI 0]) ::
    (mr1, aI 0 zF) :: (mm1, oC 5 [.ref mr1, vI 0]) :: (br1, aI 0 zF) :: (bp1, oC 5 [.ref br1, vI 0]) :: (ba1, aI 61 zF) :: (b1, oC 0 [.ref ba1, vI 0, .ref bp1]) :: (l1, oC 3 [.ref b1, .ref mm1, vI 0, vI 0, vI 0]) ::
    (mt, oC 4 [.ref l1, .ref l2, vI 0]) :: (kr, aI 0 zF) :: (kp, oC 5 [.ref kr, vI 0]) :: (ka, aI 61 zF) :: (k, oC 0 [.ref ka, vI 0, .ref kp]) ::
    (pb, aI 60 f2) :: (pa, aI 60 f1) :: (p, oC 6 [.ref pa, .ref pb, vI i1, vI i2, vI i3, vI i4, vI i5, vI i6]) :: (ab, aI 60 zF) :: (b, oC 1 [.ref ab, vI 0]) :: (Lh ++ (h, yh) :: (Ls ++ (s, ys) :: []))
/-- the model, new -/
def MdS (y : AC) (L : List (Nat × AC)) : Prop := ∃ (z h t r s p b w : Nat) (f : Int → Int), y = oC 9 [.ref z, vI 0, .ref h, vI 0, .ref t, vI 0, .ref r, vI 0, .ref s, vI 0, .ref p, vI 0, vI 0, vI 0, vI 0, .ref b, .ref w, .long 0] ∧ (f 0 = 8 ∧ f 1 = 300 ∧ ∀ i, 2 ≤ i → f i = 0) ∧
  L = [(w, aI 4 zF), (b, aI 2 zF), (p, aI 64 zF), (s, aI 62 zF), (r, aI 120 zF), (t, aI 60 zF), (h, aI 1476 zF), (z, aI 246 f)]
set_option maxHeartbeats 4000000 in
theorem mX5_initS {M : Mem} {o : Nat} {N : Nat} (ho : M o = some (oC 5 [.null, vI 0])) (hN : N ≤ 10000) : Ct KX5_init [.ref o, vI N] M 1 N (atV (fun M2 => ∃ a : Nat, Sx M M2 o (oC 5 [.ref a, vI 0]) [(a, aI N zF)])) := by
  refine Ct.of _ (by decide) rfl (Nat.le_of_ble_eq_true rfl) ?_
  have hS := Sx.start ho
  refine r_aload_n dX5_init_0 rfl ?_
  refine r_objInit ml_X5_3 oi_inst oi_code (by decide) (Nat.le_of_ble_eq_true rfl) dX5_init_1 ?_
  refine r_aload_n dX5_init_4 rfl ?_
  refine r_iload_n dX5_init_5 rfl ?_
  refine r_if_le (tgt := 13) dX5_init_6 (by decide) (by omega) (fun h6 => ?_) (fun h6 => ?_)
  ·
    refine r_iconst dX5_init_13 ?_
    refine r_newI (N := N) (by omega) hN ac_int (by omega) (by omega) dX5_init_14 (fun q14 hq14 => ?_)
    refine hS.jnew hq14 (fun Mx hS => ?_)
    refine r_putfieldF clX5 0 (by decide) fl_X5_9 rfl rfl rfl hS.1 rfl rfl (Nat.le_of_ble_eq_true rfl) dX5_init_16 ?_
    refine hS.jput (fun Mx hS => ?_)
    refine r_aload_n dX5_init_19 rfl ?_
    refine r_iconst dX5_init_20 ?_
    refine r_putfield clX5 1 (by decide) fl_X5_15 rfl hS.1 rfl rfl (Nat.le_of_ble_eq_true rfl) dX5_init_21 ?_
    refine hS.jput (fun Mx hS => ?_)
    refine e_return dX5_init_24 rfl (by omega) (by omega) ?_
    exact oktV ⟨q14, hS⟩
  ·
    refine r_iload_n dX5_init_9 rfl ?_
    refine r_goto (tgt := 14) dX5_init_10 (by decide) ?_
    refine r_newI (N := N) (by omega) hN ac_int (by omega) (by omega) dX5_init_14 (fun q14 hq14 => ?_)
    refine hS.jnew hq14 (fun Mx hS => ?_)
    refine r_putfieldF clX5 0 (by decide) fl_X5_9 rfl rfl rfl hS.1 rfl rfl (Nat.le_of_ble_eq_true rfl) dX5_init_16 ?_
    refine hS.jput (fun Mx hS => ?_)
    refine r_aload_n dX5_init_19 rfl ?_
    refine r_iconst dX5_init_20 ?_
    refine r_putfield clX5 1 (by decide) fl_X5_15 rfl hS.1 rfl rfl (Nat.le_of_ble_eq_true rfl) dX5_init_21 ?_
    refine hS.jput (fun Mx hS => ?_)
    refine e_return dX5_init_24 rfl (by omega) (by omega) ?_
    exact oktV ⟨q14, hS⟩

set_option maxHeartbeats 4000000 in
theorem mX0_init {M : Mem} {o : Nat} (ho : M o = some (oC 0 [.null, vI 0, .null])) : Ct KX0_init [.ref o] M 3 63 (atV (fun M2 => ∃ a p r : Nat, Sx M M2 o (oC 0 [.ref a, vI 0, .ref p]) [(r, aI 0 zF), (p, oC 5 [.ref r, vI 0]), (a, aI 61 zF)])) := by
  refine Ct.of _ (by decide) rfl (Nat.le_of_ble_eq_true rfl) ?_
  have hS := Sx.start ho
  refine r_aload_n dX0_init_0 rfl ?_
  refine r_objInit ml_X0_3 oi_inst oi_code (by decide) (Nat.le_of_ble_eq_true rfl) dX0_init_1 ?_
  refine r_aload_n dX0_init_4 rfl ?_
  refine r_bipush dX0_init_5 (by decide) ?_
  refine r_newI (N := 61) rfl (by decide) ac_int (Nat.le_of_ble_eq_true rfl) (Nat.le_of_ble_eq_true rfl) dX0_init_7 (fun q7 hq7 => ?_)
  refine hS.jnew hq7 (fun Mx hS => ?_)
  refine r_putfieldF clX0 0 (by decide) fl_X0_9 rfl rfl rfl hS.1 rfl rfl (Nat.le_of_ble_eq_true rfl) dX0_init_9 ?_
  refine hS.jput (fun Mx hS => ?_)
  refine r_aload_n dX0_init_12 rfl ?_
  refine r_iconst dX0_init_13 ?_
  refine r_putfield clX0 1 (by decide) fl_X0_15 rfl hS.1 rfl rfl (Nat.le_of_ble_eq_true rfl) dX0_init_14 ?_
  refine hS.jput (fun Mx hS => ?_)
  refine r_aload_n dX0_init_17 rfl ?_
  refine r_new clX5 [.null, vI 0] (by intro j hj; rcases (show j = 0 ∨ j = 1 by omega) with rfl | rfl <;> rfl) cn_X0_19 inX5 iniX5 (Nat.le_of_ble_eq_true rfl) (Nat.le_of_ble_eq_true rfl) dX0_init_18 (fun q18 hq18 => ?_)
  refine hS.jnew hq18 (fun Mx hS => ?_)
  refine r_dup dX0_init_21 ?_
  refine r_iconst dX0_init_22 ?_
  refine r_callI1 okX5_init ⟨by decide, by decide⟩ ml_X0_21 (mX5_initS (N := 0) (hS.nth 0 rfl) (by omega)) (Nat.le_of_ble_eq_true rfl) (Nat.le_of_ble_eq_true rfl) (Nat.le_of_ble_eq_true rfl) (nn_tV) dX0_init_23 (kx_tV ?_)
  intro Mx hM
  obtain ⟨a, hM⟩ := hM
  have hS := hS.sub hM
  refine r_putfield clX0 2 (by decide) fl_X0_24 rfl hS.1 rfl rfl (Nat.le_of_ble_eq_true rfl) dX0_init_26 ?_
  refine hS.jput (fun Mx hS => ?_)
  refine e_return dX0_init_29 rfl (Nat.le_of_ble_eq_true rfl) (Nat.le_of_ble_eq_true rfl) ?_
  exact oktV ⟨q7, q18, a, hS⟩

set_option maxHeartbeats 4000000 in
theorem mX1_init {M : Mem} {o : Nat} (ho : M o = some (oC 1 [.null, vI 0])) : Ct KX1_init [.ref o] M 1 60 (atV (fun M2 => ∃ a : Nat, Sx M M2 o (oC 1 [.ref a, vI 0]) [(a, aI 60 zF)])) := by
  refine Ct.of _ (by decide) rfl (Nat.le_of_ble_eq_true rfl) ?_
  have hS := Sx.start ho
  refine r_aload_n dX1_init_0 rfl ?_
  refine r_objInit ml_X1_3 oi_inst oi_code (by decide) (Nat.le_of_ble_eq_true rfl) dX1_init_1 ?_
  refine r_aload_n dX1_init_4 rfl ?_
  refine r_bipush dX1_init_5 (by decide) ?_
  refine r_newI (N := 60) rfl (by decide) ac_int (Nat.le_of_ble_eq_true rfl) (Nat.le_of_ble_eq_true rfl) dX1_init_7 (fun q7 hq7 => ?_)
  refine hS.jnew hq7 (fun Mx hS => ?_)
  refine r_putfieldF clX1 0 (by decide) fl_X1_9 rfl rfl rfl hS.1 rfl rfl (Nat.le_of_ble_eq_true rfl) dX1_init_9 ?_
  refine hS.jput (fun Mx hS => ?_)
  refine r_aload_n dX1_init_12 rfl ?_
  refine r_iconst dX1_init_13 ?_
  refine r_putfield clX1 1 (by decide) fl_X1_15 rfl hS.1 rfl rfl (Nat.le_of_ble_eq_true rfl) dX1_init_14 ?_
  refine hS.jput (fun Mx hS => ?_)
  refine e_return dX1_init_17 rfl (Nat.le_of_ble_eq_true rfl) (Nat.le_of_ble_eq_true rfl) ?_
  exact oktV ⟨q7, hS⟩

set_option maxHeartbeats 4000000 in
theorem mX3_init {M : Mem} {o : Nat} (ho : M o = some (oC 3 [.null, .null, vI 0, vI 0, vI 0])) : Ct KX3_init [.ref o] M 6 68 (atV (fun M2 => ∃ b ba bp br mm mr : Nat, Sx M M2 o (oC 3 [.ref b, .ref mm, vI 0, vI 0, vI 0]) [(mr, aI 0 zF), (mm, oC 5 [.ref mr, vI 0]), (br, aI 0 zF), (bp, oC 5 [.ref br, vI 0]), (ba, aI 61 zF), (b, oC 0 [.ref ba, vI 0, .ref bp])])) := by
  refine Ct.of _ (by decide) rfl (Nat.le_of_ble_eq_true rfl) ?_
  have hS := Sx.start ho
  refine r_aload_n dX3_init_0 rfl ?_
  refine r_objInit ml_X3_1 oi_inst oi_code (by decide) (Nat.le_of_ble_eq_true rfl) dX3_init_1 ?_
  refine r_aload_n dX3_init_4 rfl ?_
  refine r_new clX0 [.null, vI 0, .null] (by intro j hj; rcases (show j = 0 ∨ j = 1 ∨ j = 2 by omega) with rfl | rfl | rfl <;> rfl) cn_X3_7 inX0 iniX0 (Nat.le_of_ble_eq_true rfl) (Nat.le_of_ble_eq_true rfl) dX3_init_5 (fun q5 hq5 => ?_)
  refine hS.jnew hq5 (fun Mx hS => ?_)
  refine r_dup dX3_init_8 ?_
  refine r_callI0 okX0_init ⟨by decide, by decide⟩ ml_X3_9 (mX0_init (hS.nth 0 rfl)) (Nat.le_of_ble_eq_true rfl) (Nat.le_of_ble_eq_true rfl) (Nat.le_of_ble_eq_true rfl) (nn_tV) dX3_init_9 (kx_tV ?_)
  intro Mx hM
  obtain ⟨ba, bp, br, hM⟩ := hM
  have hS := hS.sub hM
  refine r_putfieldF clX3 0 (by decide) fl_X3_10 rfl rfl rfl hS.1 rfl rfl (Nat.le_of_ble_eq_true rfl) dX3_init_12 ?_
  refine hS.jput (fun Mx hS => ?_)
  refine r_aload_n dX3_init_15 rfl ?_
  refine r_new clX5 [.null, vI 0] (by intro j hj; rcases (show j = 0 ∨ j = 1 by omega) with rfl | rfl <;> rfl) cn_X3_16 inX5 iniX5 (Nat.le_of_ble_eq_true rfl) (Nat.le_of_ble_eq_true rfl) dX3_init_16 (fun q16 hq16 => ?_)
  refine hS.jnew hq16 (fun Mx hS => ?_)
  refine r_dup dX3_init_19 ?_
  refine r_iconst dX3_init_20 ?_
  refine r_callI1 okX5_init ⟨by decide, by decide⟩ ml_X3_18 (mX5_initS (N := 0) (hS.nth 0 rfl) (by omega)) (Nat.le_of_ble_eq_true rfl) (Nat.le_of_ble_eq_true rfl) (Nat.le_of_ble_eq_true rfl) (nn_tV) dX3_init_21 (kx_tV ?_)
  intro Mx hM
  obtain ⟨a, hM⟩ := hM
  have hS := hS.sub hM
  refine r_putfield clX3 1 (by decide) fl_X3_21 rfl hS.1 rfl rfl (Nat.le_of_ble_eq_true rfl) dX3_init_24 ?_
  refine hS.jput (fun Mx hS => ?_)
  refine r_aload_n dX3_init_27 rfl ?_
  refine r_iconst dX3_init_28 ?_
  refine r_putfield clX3 2 (by decide) fl_X3_25 rfl hS.1 rfl rfl (Nat.le_of_ble_eq_true rfl) dX3_init_29 ?_
  refine hS.jput (fun Mx hS => ?_)
  refine r_aload_n dX3_init_32 rfl ?_
  refine r_iconst dX3_init_33 ?_
  refine r_putfield clX3 3 (by decide) fl_X3_29 rfl hS.1 rfl rfl (Nat.le_of_ble_eq_true rfl) dX3_init_34 ?_
  refine hS.jput (fun Mx hS => ?_)
  refine r_aload_n dX3_init_37 rfl ?_
  refine r_iconst dX3_init_38 ?_
  refine r_putfield clX3 4 (by decide) fl_X3_32 rfl hS.1 rfl rfl (Nat.le_of_ble_eq_true rfl) dX3_init_39 ?_
  refine hS.jput (fun Mx hS => ?_)
  refine e_return dX3_init_42 rfl (Nat.le_of_ble_eq_true rfl) (Nat.le_of_ble_eq_true rfl) ?_
  exact oktV ⟨q5, ba, bp, br, q16, a, hS⟩

set_option maxHeartbeats 4000000 in
theorem mX4_init {M : Mem} {o : Nat} (ho : M o = some (oC 4 [.null, .null, vI 0])) : Ct KX4_init [.ref o] M 14 146 (atV (fun M2 => ∃ l1 b1 ba1 bp1 br1 mm1 mr1 l2 b2 ba2 bp2 br2 mm2 mr2 : Nat, Sx M M2 o (oC 4 [.ref l1, .ref l2, vI 0]) [(mr2, aI 0 zF), (mm2, oC 5 [.ref mr2, vI 0]), (br2, aI 0 zF), (bp2, oC 5 [.ref br2, vI 0]), (ba2, aI 61 zF), (b2, oC 0 [.ref ba2, vI 0, .ref bp2]), (l2, oC 3 [.ref b2, .ref mm2, vI 0, vI 0, vI 0]), (mr1, aI 0 zF), (mm1, oC 5 [.ref mr1, vI 0]), (br1, aI 0 zF), (bp1, oC 5 [.ref br1, vI 0]), (ba1, aI 61 zF), (b1, oC 0 [.ref ba1, vI 0, .ref bp1]), (l1, oC 3 [.ref b1, .ref mm1, vI 0, vI 0, vI 0])])) := by
  refine Ct.of _ (by decide) rfl (Nat.le_of_ble_eq_true rfl) ?_
  have hS := Sx.start ho
  refine r_aload_n dX4_init_0 rfl ?_
  refine r_objInit ml_X4_3 oi_inst oi_code (by decide) (Nat.le_of_ble_eq_true rfl) dX4_init_1 ?_
  refine r_aload_n dX4_init_4 rfl ?_
  refine r_new clX3 [.null, .null, vI 0, vI 0, vI 0] (by intro j hj; rcases (show j = 0 ∨ j = 1 ∨ j = 2 ∨ j = 3 ∨ j = 4 by omega) with rfl | rfl | rfl | rfl | rfl <;> rfl) cn_X4_9 inX3 iniX3 (Nat.le_of_ble_eq_true rfl) (Nat.le_of_ble_eq_true rfl) dX4_init_5 (fun q5 hq5 => ?_)
  refine hS.jnew hq5 (fun Mx hS => ?_)
  refine r_dup dX4_init_8 ?_
  refine r_callI0 okX3_init ⟨by decide, by decide⟩ ml_X4_11 (mX3_init (hS.nth 0 rfl)) (Nat.le_of_ble_eq_true rfl) (Nat.le_of_ble_eq_true rfl) (Nat.le_of_ble_eq_true rfl) (nn_tV) dX4_init_9 (kx_tV ?_)
  intro Mx hM
  obtain ⟨b1, ba1, bp1, br1, mm1, mr1, hM⟩ := hM
  have hS := hS.sub hM
  refine r_putfieldF clX4 0 (by decide) fl_X4_12 rfl rfl rfl hS.1 rfl rfl (Nat.le_of_ble_eq_true rfl) dX4_init_12 ?_
  refine hS.jput (fun Mx hS => ?_)
  refine r_aload_n dX4_init_15 rfl ?_
  refine r_new clX3 [.null, .null, vI 0, vI 0, vI 0] (by intro j hj; rcases (show j = 0 ∨ j = 1 ∨ j = 2 ∨ j = 3 ∨ j = 4 by omega) with rfl | rfl | rfl | rfl | rfl <;> rfl) cn_X4_9 inX3 iniX3 (Nat.le_of_ble_eq_true rfl) (Nat.le_of_ble_eq_true rfl) dX4_init_16 (fun q16 hq16 => ?_)
  refine hS.jnew hq16 (fun Mx hS => ?_)
  refine r_dup dX4_init_19 ?_
  refine r_callI0 okX3_init ⟨by decide, by decide⟩ ml_X4_11 (mX3_init (hS.nth 0 rfl)) (Nat.le_of_ble_eq_true rfl) (Nat.le_of_ble_eq_true rfl) (Nat.le_of_ble_eq_true rfl) (nn_tV) dX4_init_20 (kx_tV ?_)
  intro Mx hM
  obtain ⟨b2, ba2, bp2, br2, mm2, mr2, hM⟩ := hM
  have hS := hS.sub hM
  refine r_putfieldF clX4 1 (by decide) fl_X4_18 rfl rfl rfl hS.1 rfl rfl (Nat.le_of_ble_eq_true rfl) dX4_init_23 ?_
  refine hS.jput (fun Mx hS => ?_)
  refine r_aload_n dX4_init_26 rfl ?_
  refine r_iconst dX4_init_27 ?_
  refine r_putfield clX4 2 (by decide) fl_X4_21 rfl hS.1 rfl rfl (Nat.le_of_ble_eq_true rfl) dX4_init_28 ?_
  refine hS.jput (fun Mx hS => ?_)
  refine e_return dX4_init_31 rfl (Nat.le_of_ble_eq_true rfl) (Nat.le_of_ble_eq_true rfl) ?_
  exact oktV ⟨q5, b1, ba1, bp1, br1, mm1, mr1, q16, b2, ba2, bp2, br2, mm2, mr2, hS⟩

set_option maxHeartbeats 4000000 in
theorem mX6_init {M : Mem} {o : Nat} (ho : M o = some (oC 6 [.null, .null, vI 0, vI 0, vI 0, vI 0, vI 0, vI 0])) : Ct KX6_init [.ref o] M 2 120 (atV (fun M2 => ∃ (a b : Nat) (i1 i2 i3 i4 i5 i6 : Int) (f1 f2 : Int → Int), Sx M M2 o (oC 6 [.ref a, .ref b, vI i1, vI i2, vI i3, vI i4, vI i5, vI i6]) [(b, aI 60 f2), (a, aI 60 f1)])) := by
  refine Ct.of _ (by decide) rfl (Nat.le_of_ble_eq_true rfl) ?_
  have hS := Sx.start ho
  refine r_aload_n dX6_init_0 rfl ?_
  refine r_objInit ml_X6_3 oi_inst oi_code (by decide) (Nat.le_of_ble_eq_true rfl) dX6_init_1 ?_
  refine r_aload_n dX6_init_4 rfl ?_
  refine r_bipush dX6_init_5 (by decide) ?_
  refine r_newI (N := 60) rfl (by decide) ac_int (Nat.le_of_ble_eq_true rfl) (Nat.le_of_ble_eq_true rfl) dX6_init_7 (fun q7 hq7 => ?_)
  refine hS.jnew hq7 (fun Mx hS => ?_)
  refine r_putfieldF clX6 0 (by decide) fl_X6_9 rfl rfl rfl hS.1 rfl rfl (Nat.le_of_ble_eq_true rfl) dX6_init_9 ?_
  refine hS.jput (fun Mx hS => ?_)
  refine r_aload_n dX6_init_12 rfl ?_
  refine r_bipush dX6_init_13 (by decide) ?_
  refine r_newI (N := 60) rfl (by decide) ac_int (Nat.le_of_ble_eq_true rfl) (Nat.le_of_ble_eq_true rfl) dX6_init_15 (fun q15 hq15 => ?_)
  refine hS.jnew hq15 (fun Mx hS => ?_)
  refine r_putfieldF clX6 1 (by decide) fl_X6_15 rfl rfl rfl hS.1 rfl rfl (Nat.le_of_ble_eq_true rfl) dX6_init_17 ?_
  refine hS.jput (fun Mx hS => ?_)
  have hao := hS.ne (p := (q7, aI 60 zF)) (by simp)
  have hbo := hS.ne (p := (q15, aI 60 zF)) (by simp)
  have hab : q7 ≠ q15 := fun e => by have h9 := hS.2.2.1; simp at h9; exact h9 e.symm
  have hpi := pad_inj hao hbo hab
  have hpw : PrW Mx (pad o q7 q15) := ⟨⟨_, _, _, _, _, _, hS.1⟩, ⟨_, hS.nth 1 rfl⟩, ⟨_, hS.nth 0 rfl⟩⟩
  have hct : Ct KX6_restart [.ref o] Mx 0 0 (atV (fun M2 => PrP M2 (pad o q7 q15) ps0 ∧ FrI (pad o q7 q15) 96 99 Mx M2)) := mX6_restart hpw hpi
  refine r_aload_n dX6_init_20 rfl ?_
  refine r_callV0 okX6_restart ⟨by decide, by decide⟩ ml_X6_18 (hct) hS.1 rfl rfl (Nat.le_of_ble_eq_true rfl) (Nat.le_of_ble_eq_true rfl) (Nat.le_of_ble_eq_true rfl) rfl dX6_init_21 (nx_tV) (kx_tV ?_)
  intro M2 hM2
  obtain ⟨⟨h1, ⟨f1, h2, -⟩, ⟨f2, h3, -⟩⟩, h4⟩ := hM2
  refine e_return dX6_init_24 rfl (Nat.le_of_ble_eq_true rfl) (Nat.le_of_ble_eq_true rfl) ?_
  exact oktV ⟨q7, q15, _, _, _, _, _, _, f1, f2, hS.chg h1 h2 h3 (fun q x y z => h4 q (fun i c d => by rcases (show i = 96 ∨ i = 97 ∨ i = 98 by omega) with rfl | rfl | rfl; exact x; exact y; exact z))⟩

set_option maxHeartbeats 4000000 in
theorem mX7_init {M : Mem} {o : Nat} (ho : M o = some (oC 7 [.null, .null, .null])) : Ct KX7_init [.ref o] M 12 256 (atV (fun M2 => ∃ (y : AC) (L : List (Nat × AC)), Sx M M2 o y L ∧ StS o y L)) := by
  refine Ct.of _ (by decide) rfl (Nat.le_of_ble_eq_true rfl) ?_
  have hS := Sx.start ho
  refine r_aload_n dX7_init_0 rfl ?_
  refine r_objInit ml_X7_3 oi_inst oi_code (by decide) (Nat.le_of_ble_eq_true rfl) dX7_init_1 ?_
  refine r_aload_n dX7_init_4 rfl ?_
  refine r_iconst dX7_init_5 ?_
  refine r_newA (N := 4) (ci := 5) rfl (by decide) rfl cn_X7_9 ov_Members (Nat.le_of_ble_eq_true rfl) (Nat.le_of_ble_eq_true rfl) dX7_init_6 (fun q6 hq6 => ?_)
  refine hS.jnew hq6 (fun Mx hS => ?_)
  refine r_putfieldF clX7 0 (by decide) fl_X7_11 rfl rfl rfl hS.1 rfl rfl (Nat.le_of_ble_eq_true rfl) dX7_init_9 ?_
  refine hS.jput (fun Mx hS => ?_)
  refine r_iconst dX7_init_12 ?_
  refine r_istore_n dX7_init_13 (by decide) rfl ?_
  refine r_iload_n dX7_init_14 rfl ?_
  refine r_iconst dX7_init_15 ?_
  refine r_icmp_ge (tgt := 40) dX7_init_16 (by decide) (by omega) (by omega) (fun h16 => ?_) (fun h16 => ?_)
  · omega
  ·
    refine r_aload_n dX7_init_19 rfl ?_
    refine r_getfield clX7 0 (by decide) fl_X7_11 hS.1 rfl dX7_init_20 ?_
    refine r_iload_n dX7_init_23 rfl ?_
    refine r_new clX5 [.null, vI 0] (by intro j hj; rcases (show j = 0 ∨ j = 1 by omega) with rfl | rfl <;> rfl) cn_X7_9 inX5 iniX5 (Nat.le_of_ble_eq_true rfl) (Nat.le_of_ble_eq_true rfl) dX7_init_24 (fun p0 hq24 => ?_)
    refine hS.jnew hq24 (fun Mx hS => ?_)
    refine r_dup dX7_init_27 ?_
    refine r_bipush dX7_init_28 (by decide) ?_
    refine r_callI1 okX5_init ⟨by decide, by decide⟩ ml_X7_17 (mX5_initS (N := 60) (hS.nth 0 rfl) (by omega)) (Nat.le_of_ble_eq_true rfl) (Nat.le_of_ble_eq_true rfl) (Nat.le_of_ble_eq_true rfl) (nn_tV) dX7_init_30 (kx_tV ?_)
    intro Mx hM
    obtain ⟨a0, hM⟩ := hM
    have hS := hS.subF hM
    refine r_aastore (hS.nth 0 rfl) hM.1 (by omega) (by omega) (by omega) dX7_init_33 ?_
    refine hS.jwr (A := []) (fun Mx hS => ?_)
    refine r_iinc dX7_init_34 rfl rfl ?_
    refine r_goto (tgt := 14) dX7_init_37 (by decide) ?_
    refine r_iload_n dX7_init_14 rfl ?_
    refine r_iconst dX7_init_15 ?_
    refine r_icmp_ge (tgt := 40) dX7_init_16 (by decide) (by omega) (by omega) (fun h16 => ?_) (fun h16 => ?_)
    · omega
    ·
      refine r_aload_n dX7_init_19 rfl ?_
      refine r_getfield clX7 0 (by decide) fl_X7_11 hS.1 rfl dX7_init_20 ?_
      refine r_iload_n dX7_init_23 rfl ?_
      refine r_new clX5 [.null, vI 0] (by intro j hj; rcases (show j = 0 ∨ j = 1 by omega) with rfl | rfl <;> rfl) cn_X7_9 inX5 iniX5 (Nat.le_of_ble_eq_true rfl) (Nat.le_of_ble_eq_true rfl) dX7_init_24 (fun p1 hq24 => ?_)
      refine hS.jnew hq24 (fun Mx hS => ?_)
      refine r_dup dX7_init_27 ?_
      refine r_bipush dX7_init_28 (by decide) ?_
      refine r_callI1 okX5_init ⟨by decide, by decide⟩ ml_X7_17 (mX5_initS (N := 60) (hS.nth 0 rfl) (by omega)) (Nat.le_of_ble_eq_true rfl) (Nat.le_of_ble_eq_true rfl) (Nat.le_of_ble_eq_true rfl) (nn_tV) dX7_init_30 (kx_tV ?_)
      intro Mx hM
      obtain ⟨a1, hM⟩ := hM
      have hS := hS.subF hM
      refine r_aastore (hS.nth 0 rfl) hM.1 (by omega) (by omega) (by omega) dX7_init_33 ?_
      refine hS.jwr (A := []) (fun Mx hS => ?_)
      refine r_iinc dX7_init_34 rfl rfl ?_
      refine r_goto (tgt := 14) dX7_init_37 (by decide) ?_
      refine r_iload_n dX7_init_14 rfl ?_
      refine r_iconst dX7_init_15 ?_
      refine r_icmp_ge (tgt := 40) dX7_init_16 (by decide) (by omega) (by omega) (fun h16 => ?_) (fun h16 => ?_)
      · omega
      ·
        refine r_aload_n dX7_init_19 rfl ?_
        refine r_getfield clX7 0 (by decide) fl_X7_11 hS.1 rfl dX7_init_20 ?_
        refine r_iload_n dX7_init_23 rfl ?_
        refine r_new clX5 [.null, vI 0] (by intro j hj; rcases (show j = 0 ∨ j = 1 by omega) with rfl | rfl <;> rfl) cn_X7_9 inX5 iniX5 (Nat.le_of_ble_eq_true rfl) (Nat.le_of_ble_eq_true rfl) dX7_init_24 (fun p2 hq24 => ?_)
        refine hS.jnew hq24 (fun Mx hS => ?_)
        refine r_dup dX7_init_27 ?_
        refine r_bipush dX7_init_28 (by decide) ?_
        refine r_callI1 okX5_init ⟨by decide, by decide⟩ ml_X7_17 (mX5_initS (N := 60) (hS.nth 0 rfl) (by omega)) (Nat.le_of_ble_eq_true rfl) (Nat.le_of_ble_eq_true rfl) (Nat.le_of_ble_eq_true rfl) (nn_tV) dX7_init_30 (kx_tV ?_)
        intro Mx hM
        obtain ⟨a2, hM⟩ := hM
        have hS := hS.subF hM
        refine r_aastore (hS.nth 0 rfl) hM.1 (by omega) (by omega) (by omega) dX7_init_33 ?_
        refine hS.jwr (A := []) (fun Mx hS => ?_)
        refine r_iinc dX7_init_34 rfl rfl ?_
        refine r_goto (tgt := 14) dX7_init_37 (by decide) ?_
        refine r_iload_n dX7_init_14 rfl ?_
        refine r_iconst dX7_init_15 ?_
        refine r_icmp_ge (tgt := 40) dX7_init_16 (by decide) (by omega) (by omega) (fun h16 => ?_) (fun h16 => ?_)
        · omega
        ·
          refine r_aload_n dX7_init_19 rfl ?_
          refine r_getfield clX7 0 (by decide) fl_X7_11 hS.1 rfl dX7_init_20 ?_
          refine r_iload_n dX7_init_23 rfl ?_
          refine r_new clX5 [.null, vI 0] (by intro j hj; rcases (show j = 0 ∨ j = 1 by omega) with rfl | rfl <;> rfl) cn_X7_9 inX5 iniX5 (Nat.le_of_ble_eq_true rfl) (Nat.le_of_ble_eq_true rfl) dX7_init_24 (fun p3 hq24 => ?_)
          refine hS.jnew hq24 (fun Mx hS => ?_)
          refine r_dup dX7_init_27 ?_
          refine r_bipush dX7_init_28 (by decide) ?_
          refine r_callI1 okX5_init ⟨by decide, by decide⟩ ml_X7_17 (mX5_initS (N := 60) (hS.nth 0 rfl) (by omega)) (Nat.le_of_ble_eq_true rfl) (Nat.le_of_ble_eq_true rfl) (Nat.le_of_ble_eq_true rfl) (nn_tV) dX7_init_30 (kx_tV ?_)
          intro Mx hM
          obtain ⟨a3, hM⟩ := hM
          have hS := hS.subF hM
          refine r_aastore (hS.nth 0 rfl) hM.1 (by omega) (by omega) (by omega) dX7_init_33 ?_
          refine hS.jwr (A := []) (fun Mx hS => ?_)
          refine r_iinc dX7_init_34 rfl rfl ?_
          refine r_goto (tgt := 14) dX7_init_37 (by decide) ?_
          refine r_iload_n dX7_init_14 rfl ?_
          refine r_iconst dX7_init_15 ?_
          refine r_icmp_ge (tgt := 40) dX7_init_16 (by decide) (by omega) (by omega) (fun h16 => ?_) (fun h16 => ?_)
          ·
            refine r_aload_n dX7_init_40 rfl ?_
            refine r_new clX5 [.null, vI 0] (by intro j hj; rcases (show j = 0 ∨ j = 1 by omega) with rfl | rfl <;> rfl) cn_X7_9 inX5 iniX5 (Nat.le_of_ble_eq_true rfl) (Nat.le_of_ble_eq_true rfl) dX7_init_41 (fun q41 hq41 => ?_)
            refine hS.jnew hq41 (fun Mx hS => ?_)
            refine r_dup dX7_init_44 ?_
            refine r_iconst dX7_init_45 ?_
            refine r_callI1 okX5_init ⟨by decide, by decide⟩ ml_X7_17 (mX5_initS (N := 0) (hS.nth 0 rfl) (by omega)) (Nat.le_of_ble_eq_true rfl) (Nat.le_of_ble_eq_true rfl) (Nat.le_of_ble_eq_true rfl) (nn_tV) dX7_init_46 (kx_tV ?_)
            intro Mx hM
            obtain ⟨an, hM⟩ := hM
            have hS := hS.sub hM
            refine r_putfieldF clX7 1 (by decide) fl_X7_20 rfl rfl rfl hS.1 rfl rfl (Nat.le_of_ble_eq_true rfl) dX7_init_49 ?_
            refine hS.jput (fun Mx hS => ?_)
            refine r_aload_n dX7_init_52 rfl ?_
            refine r_iconst dX7_init_53 ?_
            refine r_newI (N := 2) rfl (by decide) ac_int (Nat.le_of_ble_eq_true rfl) (Nat.le_of_ble_eq_true rfl) dX7_init_54 (fun q54 hq54 => ?_)
            refine hS.jnew hq54 (fun Mx hS => ?_)
            refine r_dup dX7_init_56 ?_
            refine r_iconst dX7_init_57 ?_
            refine r_bipush dX7_init_58 (by decide) ?_
            refine r_iastore (hS.nth 0 rfl) (by omega) (by omega) (by omega) dX7_init_60 ?_
            refine hS.jwr (A := []) (fun Mx hS => ?_)
            refine r_dup dX7_init_61 ?_
            refine r_iconst dX7_init_62 ?_
            refine r_sipush dX7_init_63 (by decide) ?_
            refine r_iastore (hS.nth 0 rfl) (by omega) (by omega) (by omega) dX7_init_66 ?_
            refine hS.jwr (A := []) (fun Mx hS => ?_)
            refine r_putfieldF clX7 2 (by decide) fl_X7_24 rfl rfl rfl hS.1 rfl rfl (Nat.le_of_ble_eq_true rfl) dX7_init_67 ?_
            refine hS.jput (fun Mx hS => ?_)
            refine e_return dX7_init_70 rfl (Nat.le_of_ble_eq_true rfl) (Nat.le_of_ble_eq_true rfl) ?_
            exact oktV ⟨_, _, hS, q6, p0, a0, p1, a1, p2, a2, p3, a3, q41, an, q54, _, _, rfl, ⟨by simp [uI], by simp [uI], by simp [uI], by simp [uI]⟩, ⟨by simp [uI], by simp [uI]⟩, rfl⟩
          · omega

set_option maxHeartbeats 4000000 in
theorem mX2_init {M : Mem} {o : Nat} (ho : M o = some (oC 2 [.null, vI 0, vI 0])) : Ct KX2_init [.ref o] M 79 1560 (atV (fun M2 => ∃ (y : AC) (L : List (Nat × AC)), Sx M M2 o y L ∧ HsS y L)) := by
  refine Ct.of _ (by decide) rfl (Nat.le_of_ble_eq_true rfl) ?_
  have hS := Sx.start ho
  refine r_aload_n dX2_init_0 rfl ?_
  refine r_objInit ml_X2_3 oi_inst oi_code (by decide) (Nat.le_of_ble_eq_true rfl) dX2_init_1 ?_
  refine r_aload_n dX2_init_4 rfl ?_
  refine r_bipush dX2_init_5 (by decide) ?_
  refine r_newA (N := 6) (ci := 7) rfl (by decide) rfl cn_X2_9 ov_State (Nat.le_of_ble_eq_true rfl) (Nat.le_of_ble_eq_true rfl) dX2_init_7 (fun q7 hq7 => ?_)
  refine hS.jnew hq7 (fun Mx hS => ?_)
  refine r_putfieldF clX2 0 (by decide) fl_X2_11 rfl rfl rfl hS.1 rfl rfl (Nat.le_of_ble_eq_true rfl) dX2_init_10 ?_
  refine hS.jput (fun Mx hS => ?_)
  refine r_iconst dX2_init_13 ?_
  refine r_istore_n dX2_init_14 (by decide) rfl ?_
  refine r_iload_n dX2_init_15 rfl ?_
  refine r_bipush dX2_init_16 (by decide) ?_
  refine r_icmp_ge (tgt := 40) dX2_init_18 (by decide) (by omega) (by omega) (fun h18 => ?_) (fun h18 => ?_)
  · omega
  ·
    refine r_aload_n dX2_init_21 rfl ?_
    refine r_getfield clX2 0 (by decide) fl_X2_11 hS.1 rfl dX2_init_22 ?_
    refine r_iload_n dX2_init_25 rfl ?_
    refine r_new clX7 [.null, .null, .null] (by intro j hj; rcases (show j = 0 ∨ j = 1 ∨ j = 2 by omega) with rfl | rfl | rfl <;> rfl) cn_X2_9 inX7 iniX7 (Nat.le_of_ble_eq_true rfl) (Nat.le_of_ble_eq_true rfl) dX2_init_26 (fun q0 hq26 => ?_)
    refine hS.jnew hq26 (fun Mx hS => ?_)
    refine r_dup dX2_init_29 ?_
    refine r_callI0 okX7_init ⟨by decide, by decide⟩ ml_X2_17 (mX7_init (hS.nth 0 rfl)) (Nat.le_of_ble_eq_true rfl) (Nat.le_of_ble_eq_true rfl) (Nat.le_of_ble_eq_true rfl) (nn_tV) dX2_init_30 (kx_tV ?_)
    intro Mx hM
    obtain ⟨y0, L0, hM, hs0⟩ := hM
    obtain ⟨v0, rfl⟩ := hs0.y
    have hS := hS.subF hM
    refine r_aastore (hS.nth 0 rfl) hM.1 (by omega) (by omega) (by omega) dX2_init_33 ?_
    refine hS.jwr (A := []) (fun Mx hS => ?_)
    refine r_iinc dX2_init_34 rfl rfl ?_
    refine r_goto (tgt := 15) dX2_init_37 (by decide) ?_
    refine r_iload_n dX2_init_15 rfl ?_
    refine r_bipush dX2_init_16 (by decide) ?_
    refine r_icmp_ge (tgt := 40) dX2_init_18 (by decide) (by omega) (by omega) (fun h18 => ?_) (fun h18 => ?_)
    · omega
    ·
      refine r_aload_n dX2_init_21 rfl ?_
      refine r_getfield clX2 0 (by decide) fl_X2_11 hS.1 rfl dX2_init_22 ?_
      refine r_iload_n dX2_init_25 rfl ?_
      refine r_new clX7 [.null, .null, .null] (by intro j hj; rcases (show j = 0 ∨ j = 1 ∨ j = 2 by omega) with rfl | rfl | rfl <;> rfl) cn_X2_9 inX7 iniX7 (Nat.le_of_ble_eq_true rfl) (Nat.le_of_ble_eq_true rfl) dX2_init_26 (fun q1 hq26 => ?_)
      refine hS.jnew hq26 (fun Mx hS => ?_)
      refine r_dup dX2_init_29 ?_
      refine r_callI0 okX7_init ⟨by decide, by decide⟩ ml_X2_17 (mX7_init (hS.nth 0 rfl)) (Nat.le_of_ble_eq_true rfl) (Nat.le_of_ble_eq_true rfl) (Nat.le_of_ble_eq_true rfl) (nn_tV) dX2_init_30 (kx_tV ?_)
      intro Mx hM
      obtain ⟨y1, L1, hM, hs1⟩ := hM
      obtain ⟨v1, rfl⟩ := hs1.y
      have hS := hS.subF hM
      refine r_aastore (hS.nth 0 rfl) hM.1 (by omega) (by omega) (by omega) dX2_init_33 ?_
      refine hS.jwr (A := []) (fun Mx hS => ?_)
      refine r_iinc dX2_init_34 rfl rfl ?_
      refine r_goto (tgt := 15) dX2_init_37 (by decide) ?_
      refine r_iload_n dX2_init_15 rfl ?_
      refine r_bipush dX2_init_16 (by decide) ?_
      refine r_icmp_ge (tgt := 40) dX2_init_18 (by decide) (by omega) (by omega) (fun h18 => ?_) (fun h18 => ?_)
      · omega
      ·
        refine r_aload_n dX2_init_21 rfl ?_
        refine r_getfield clX2 0 (by decide) fl_X2_11 hS.1 rfl dX2_init_22 ?_
        refine r_iload_n dX2_init_25 rfl ?_
        refine r_new clX7 [.null, .null, .null] (by intro j hj; rcases (show j = 0 ∨ j = 1 ∨ j = 2 by omega) with rfl | rfl | rfl <;> rfl) cn_X2_9 inX7 iniX7 (Nat.le_of_ble_eq_true rfl) (Nat.le_of_ble_eq_true rfl) dX2_init_26 (fun q2 hq26 => ?_)
        refine hS.jnew hq26 (fun Mx hS => ?_)
        refine r_dup dX2_init_29 ?_
        refine r_callI0 okX7_init ⟨by decide, by decide⟩ ml_X2_17 (mX7_init (hS.nth 0 rfl)) (Nat.le_of_ble_eq_true rfl) (Nat.le_of_ble_eq_true rfl) (Nat.le_of_ble_eq_true rfl) (nn_tV) dX2_init_30 (kx_tV ?_)
        intro Mx hM
        obtain ⟨y2, L2, hM, hs2⟩ := hM
        obtain ⟨v2, rfl⟩ := hs2.y
        have hS := hS.subF hM
        refine r_aastore (hS.nth 0 rfl) hM.1 (by omega) (by omega) (by omega) dX2_init_33 ?_
        refine hS.jwr (A := []) (fun Mx hS => ?_)
        refine r_iinc dX2_init_34 rfl rfl ?_
        refine r_goto (tgt := 15) dX2_init_37 (by decide) ?_
        refine r_iload_n dX2_init_15 rfl ?_
        refine r_bipush dX2_init_16 (by decide) ?_
        refine r_icmp_ge (tgt := 40) dX2_init_18 (by decide) (by omega) (by omega) (fun h18 => ?_) (fun h18 => ?_)
        · omega
        ·
          refine r_aload_n dX2_init_21 rfl ?_
          refine r_getfield clX2 0 (by decide) fl_X2_11 hS.1 rfl dX2_init_22 ?_
          refine r_iload_n dX2_init_25 rfl ?_
          refine r_new clX7 [.null, .null, .null] (by intro j hj; rcases (show j = 0 ∨ j = 1 ∨ j = 2 by omega) with rfl | rfl | rfl <;> rfl) cn_X2_9 inX7 iniX7 (Nat.le_of_ble_eq_true rfl) (Nat.le_of_ble_eq_true rfl) dX2_init_26 (fun q3 hq26 => ?_)
          refine hS.jnew hq26 (fun Mx hS => ?_)
          refine r_dup dX2_init_29 ?_
          refine r_callI0 okX7_init ⟨by decide, by decide⟩ ml_X2_17 (mX7_init (hS.nth 0 rfl)) (Nat.le_of_ble_eq_true rfl) (Nat.le_of_ble_eq_true rfl) (Nat.le_of_ble_eq_true rfl) (nn_tV) dX2_init_30 (kx_tV ?_)
          intro Mx hM
          obtain ⟨y3, L3, hM, hs3⟩ := hM
          obtain ⟨v3, rfl⟩ := hs3.y
          have hS := hS.subF hM
          refine r_aastore (hS.nth 0 rfl) hM.1 (by omega) (by omega) (by omega) dX2_init_33 ?_
          refine hS.jwr (A := []) (fun Mx hS => ?_)
          refine r_iinc dX2_init_34 rfl rfl ?_
          refine r_goto (tgt := 15) dX2_init_37 (by decide) ?_
          refine r_iload_n dX2_init_15 rfl ?_
          refine r_bipush dX2_init_16 (by decide) ?_
          refine r_icmp_ge (tgt := 40) dX2_init_18 (by decide) (by omega) (by omega) (fun h18 => ?_) (fun h18 => ?_)
          · omega
          ·
            refine r_aload_n dX2_init_21 rfl ?_
            refine r_getfield clX2 0 (by decide) fl_X2_11 hS.1 rfl dX2_init_22 ?_
            refine r_iload_n dX2_init_25 rfl ?_
            refine r_new clX7 [.null, .null, .null] (by intro j hj; rcases (show j = 0 ∨ j = 1 ∨ j = 2 by omega) with rfl | rfl | rfl <;> rfl) cn_X2_9 inX7 iniX7 (Nat.le_of_ble_eq_true rfl) (Nat.le_of_ble_eq_true rfl) dX2_init_26 (fun q4 hq26 => ?_)
            refine hS.jnew hq26 (fun Mx hS => ?_)
            refine r_dup dX2_init_29 ?_
            refine r_callI0 okX7_init ⟨by decide, by decide⟩ ml_X2_17 (mX7_init (hS.nth 0 rfl)) (Nat.le_of_ble_eq_true rfl) (Nat.le_of_ble_eq_true rfl) (Nat.le_of_ble_eq_true rfl) (nn_tV) dX2_init_30 (kx_tV ?_)
            intro Mx hM
            obtain ⟨y4, L4, hM, hs4⟩ := hM
            obtain ⟨v4, rfl⟩ := hs4.y
            have hS := hS.subF hM
            refine r_aastore (hS.nth 0 rfl) hM.1 (by omega) (by omega) (by omega) dX2_init_33 ?_
            refine hS.jwr (A := []) (fun Mx hS => ?_)
            refine r_iinc dX2_init_34 rfl rfl ?_
            refine r_goto (tgt := 15) dX2_init_37 (by decide) ?_
            refine r_iload_n dX2_init_15 rfl ?_
            refine r_bipush dX2_init_16 (by decide) ?_
            refine r_icmp_ge (tgt := 40) dX2_init_18 (by decide) (by omega) (by omega) (fun h18 => ?_) (fun h18 => ?_)
            · omega
            ·
              refine r_aload_n dX2_init_21 rfl ?_
              refine r_getfield clX2 0 (by decide) fl_X2_11 hS.1 rfl dX2_init_22 ?_
              refine r_iload_n dX2_init_25 rfl ?_
              refine r_new clX7 [.null, .null, .null] (by intro j hj; rcases (show j = 0 ∨ j = 1 ∨ j = 2 by omega) with rfl | rfl | rfl <;> rfl) cn_X2_9 inX7 iniX7 (Nat.le_of_ble_eq_true rfl) (Nat.le_of_ble_eq_true rfl) dX2_init_26 (fun q5 hq26 => ?_)
              refine hS.jnew hq26 (fun Mx hS => ?_)
              refine r_dup dX2_init_29 ?_
              refine r_callI0 okX7_init ⟨by decide, by decide⟩ ml_X2_17 (mX7_init (hS.nth 0 rfl)) (Nat.le_of_ble_eq_true rfl) (Nat.le_of_ble_eq_true rfl) (Nat.le_of_ble_eq_true rfl) (nn_tV) dX2_init_30 (kx_tV ?_)
              intro Mx hM
              obtain ⟨y5, L5, hM, hs5⟩ := hM
              obtain ⟨v5, rfl⟩ := hs5.y
              have hS := hS.subF hM
              refine r_aastore (hS.nth 0 rfl) hM.1 (by omega) (by omega) (by omega) dX2_init_33 ?_
              refine hS.jwr (A := []) (fun Mx hS => ?_)
              refine r_iinc dX2_init_34 rfl rfl ?_
              refine r_goto (tgt := 15) dX2_init_37 (by decide) ?_
              refine r_iload_n dX2_init_15 rfl ?_
              refine r_bipush dX2_init_16 (by decide) ?_
              refine r_icmp_ge (tgt := 40) dX2_init_18 (by decide) (by omega) (by omega) (fun h18 => ?_) (fun h18 => ?_)
              ·
                refine r_aload_n dX2_init_40 rfl ?_
                refine r_iconst dX2_init_41 ?_
                refine r_putfield clX2 1 (by decide) fl_X2_18 rfl hS.1 rfl rfl (Nat.le_of_ble_eq_true rfl) dX2_init_42 ?_
                refine hS.jput (fun Mx hS => ?_)
                refine r_aload_n dX2_init_45 rfl ?_
                refine r_iconst dX2_init_46 ?_
                refine r_putfield clX2 2 (by decide) fl_X2_22 rfl hS.1 rfl rfl (Nat.le_of_ble_eq_true rfl) dX2_init_47 ?_
                refine hS.jput (fun Mx hS => ?_)
                refine e_return dX2_init_50 rfl (Nat.le_of_ble_eq_true rfl) (Nat.le_of_ble_eq_true rfl) ?_
                exact oktV ⟨_, _, hS, q7, _, q0, v0, L0, q1, v1, L1, q2, v2, L2, q3, v3, L3, q4, v4, L4, q5, v5, L5, rfl, rfl, hs0, hs1, hs2, hs3, hs4, hs5, by simp [uI], by simp [uI], by simp [uI], by simp [uI], by simp [uI], by simp [uI]⟩
              · omega

set_option maxHeartbeats 4000000 in
theorem mX8_init {M : Mem} {o : Nat} (ho : M o = some (oC 8 [.null, .null, .null, .null, .null, .null, .null, .null])) : Ct KX8_init [.ref o] M 121 2592 (atV (fun M2 => ∃ (y : AC) (L : List (Nat × AC)), Sx M M2 o y L ∧ XsS y L)) := by
  refine Ct.of _ (by decide) rfl (Nat.le_of_ble_eq_true rfl) ?_
  have hS := Sx.start ho
  refine r_aload_n dX8_init_0 rfl ?_
  refine r_objInit ml_X8_1 oi_inst oi_code (by decide) (Nat.le_of_ble_eq_true rfl) dX8_init_1 ?_
  refine r_aload_n dX8_init_4 rfl ?_
  refine r_new clX7 [.null, .null, .null] (by intro j hj; rcases (show j = 0 ∨ j = 1 ∨ j = 2 by omega) with rfl | rfl | rfl <;> rfl) cn_X8_7 inX7 iniX7 (Nat.le_of_ble_eq_true rfl) (Nat.le_of_ble_eq_true rfl) dX8_init_5 (fun q5 hq5 => ?_)
  refine hS.jnew hq5 (fun Mx hS => ?_)
  refine r_dup dX8_init_8 ?_
  refine r_callI0 okX7_init ⟨by decide, by decide⟩ ml_X8_9 (mX7_init (hS.nth 0 rfl)) (Nat.le_of_ble_eq_true rfl) (Nat.le_of_ble_eq_true rfl) (Nat.le_of_ble_eq_true rfl) (nn_tV) dX8_init_9 (kx_tV ?_)
  intro Mx hM
  obtain ⟨ys, Ls, hM, hss⟩ := hM
  have hS := hS.sub hM
  refine r_putfieldF clX8 0 (by decide) fl_X8_10 rfl rfl rfl hS.1 rfl rfl (Nat.le_of_ble_eq_true rfl) dX8_init_12 ?_
  refine hS.jput (fun Mx hS => ?_)
  refine r_aload_n dX8_init_15 rfl ?_
  refine r_new clX2 [.null, vI 0, vI 0] (by intro j hj; rcases (show j = 0 ∨ j = 1 ∨ j = 2 by omega) with rfl | rfl | rfl <;> rfl) cn_X8_16 inX2 iniX2 (Nat.le_of_ble_eq_true rfl) (Nat.le_of_ble_eq_true rfl) dX8_init_16 (fun q16 hq16 => ?_)
  refine hS.jnew hq16 (fun Mx hS => ?_)
  refine r_dup dX8_init_19 ?_
  refine r_callI0 okX2_init ⟨by decide, by decide⟩ ml_X8_18 (mX2_init (hS.nth 0 rfl)) (Nat.le_of_ble_eq_true rfl) (Nat.le_of_ble_eq_true rfl) (Nat.le_of_ble_eq_true rfl) (nn_tV) dX8_init_20 (kx_tV ?_)
  intro Mx hM
  obtain ⟨yh, Lh, hM, hsh⟩ := hM
  have hS := hS.sub hM
  refine r_putfieldF clX8 1 (by decide) fl_X8_19 rfl rfl rfl hS.1 rfl rfl (Nat.le_of_ble_eq_true rfl) dX8_init_23 ?_
  refine hS.jput (fun Mx hS => ?_)
  refine r_aload_n dX8_init_26 rfl ?_
  refine r_new clX1 [.null, vI 0] (by intro j hj; rcases (show j = 0 ∨ j = 1 by omega) with rfl | rfl <;> rfl) cn_X8_23 inX1 iniX1 (Nat.le_of_ble_eq_true rfl) (Nat.le_of_ble_eq_true rfl) dX8_init_27 (fun q27 hq27 => ?_)
  refine hS.jnew hq27 (fun Mx hS => ?_)
  refine r_dup dX8_init_30 ?_
  refine r_callI0 okX1_init ⟨by decide, by decide⟩ ml_X8_25 (mX1_init (hS.nth 0 rfl)) (Nat.le_of_ble_eq_true rfl) (Nat.le_of_ble_eq_true rfl) (Nat.le_of_ble_eq_true rfl) (nn_tV) dX8_init_31 (kx_tV ?_)
  intro Mx hM
  obtain ⟨ab, hM⟩ := hM
  have hS := hS.sub hM
  refine r_putfieldF clX8 2 (by decide) fl_X8_26 rfl rfl rfl hS.1 rfl rfl (Nat.le_of_ble_eq_true rfl) dX8_init_34 ?_
  refine hS.jput (fun Mx hS => ?_)
  refine r_aload_n dX8_init_37 rfl ?_
  refine r_new clX6 [.null, .null, vI 0, vI 0, vI 0, vI 0, vI 0, vI 0] (by intro j hj; rcases (show j = 0 ∨ j = 1 ∨ j = 2 ∨ j = 3 ∨ j = 4 ∨ j = 5 ∨ j = 6 ∨ j = 7 by omega) with rfl | rfl | rfl | rfl | rfl | rfl | rfl | rfl <;> rfl) cn_X8_30 inX6 iniX6 (Nat.le_of_ble_eq_true rfl) (Nat.le_of_ble_eq_true rfl) dX8_init_38 (fun q38 hq38 => ?_)
  refine hS.jnew hq38 (fun Mx hS => ?_)
  refine r_dup dX8_init_41 ?_
  refine r_callI0 okX6_init ⟨by decide, by decide⟩ ml_X8_32 (mX6_init (hS.nth 0 rfl)) (Nat.le_of_ble_eq_true rfl) (Nat.le_of_ble_eq_true rfl) (Nat.le_of_ble_eq_true rfl) (nn_tV) dX8_init_42 (kx_tV ?_)
  intro Mx hM
  obtain ⟨pa, pb, i1, i2, i3, i4, i5, i6, f1, f2, hM⟩ := hM
  have hS := hS.sub hM
  refine r_putfieldF clX8 3 (by decide) fl_X8_33 rfl rfl rfl hS.1 rfl rfl (Nat.le_of_ble_eq_true rfl) dX8_init_45 ?_
  refine hS.jput (fun Mx hS => ?_)
  refine r_aload_n dX8_init_48 rfl ?_
  refine r_new clX0 [.null, vI 0, .null] (by intro j hj; rcases (show j = 0 ∨ j = 1 ∨ j = 2 by omega) with rfl | rfl | rfl <;> rfl) cn_X8_37 inX0 iniX0 (Nat.le_of_ble_eq_true rfl) (Nat.le_of_ble_eq_true rfl) dX8_init_49 (fun q49 hq49 => ?_)
  refine hS.jnew hq49 (fun Mx hS => ?_)
  refine r_dup dX8_init_52 ?_
  refine r_callI0 okX0_init ⟨by decide, by decide⟩ ml_X8_39 (mX0_init (hS.nth 0 rfl)) (Nat.le_of_ble_eq_true rfl) (Nat.le_of_ble_eq_true rfl) (Nat.le_of_ble_eq_true rfl) (nn_tV) dX8_init_53 (kx_tV ?_)
  intro Mx hM
  obtain ⟨ka, kp, kr, hM⟩ := hM
  have hS := hS.sub hM
  refine r_putfieldF clX8 4 (by decide) fl_X8_40 rfl rfl rfl hS.1 rfl rfl (Nat.le_of_ble_eq_true rfl) dX8_init_56 ?_
  refine hS.jput (fun Mx hS => ?_)
  refine r_aload_n dX8_init_59 rfl ?_
  refine r_new clX4 [.null, .null, vI 0] (by intro j hj; rcases (show j = 0 ∨ j = 1 ∨ j = 2 by omega) with rfl | rfl | rfl <;> rfl) cn_X8_44 inX4 iniX4 (Nat.le_of_ble_eq_true rfl) (Nat.le_of_ble_eq_true rfl) dX8_init_60 (fun q60 hq60 => ?_)
  refine hS.jnew hq60 (fun Mx hS => ?_)
  refine r_dup dX8_init_63 ?_
  refine r_callI0 okX4_init ⟨by decide, by decide⟩ ml_X8_46 (mX4_init (hS.nth 0 rfl)) (Nat.le_of_ble_eq_true rfl) (Nat.le_of_ble_eq_true rfl) (Nat.le_of_ble_eq_true rfl) (nn_tV) dX8_init_64 (kx_tV ?_)
  intro Mx hM
  obtain ⟨l1, b1, ba1, bp1, br1, mm1, mr1, l2, b2, ba2, bp2, br2, mm2, mr2, hM⟩ := hM
  have hS := hS.sub hM
  refine r_putfieldF clX8 5 (by decide) fl_X8_47 rfl rfl rfl hS.1 rfl rfl (Nat.le_of_ble_eq_true rfl) dX8_init_67 ?_
  refine hS.jput (fun Mx hS => ?_)
  refine r_aload_n dX8_init_70 rfl ?_
  refine r_new clX5 [.null, vI 0] (by intro j hj; rcases (show j = 0 ∨ j = 1 by omega) with rfl | rfl <;> rfl) cn_X8_51 inX5 iniX5 (Nat.le_of_ble_eq_true rfl) (Nat.le_of_ble_eq_true rfl) dX8_init_71 (fun q71 hq71 => ?_)
  refine hS.jnew hq71 (fun Mx hS => ?_)
  refine r_dup dX8_init_74 ?_
  refine r_bipush dX8_init_75 (by decide) ?_
  refine r_callI1 okX5_init ⟨by decide, by decide⟩ ml_X8_53 (mX5_initS (N := 120) (hS.nth 0 rfl) (by omega)) (Nat.le_of_ble_eq_true rfl) (Nat.le_of_ble_eq_true rfl) (Nat.le_of_ble_eq_true rfl) (nn_tV) dX8_init_77 (kx_tV ?_)
  intro Mx hM
  obtain ⟨aut, hM⟩ := hM
  have hS := hS.sub hM
  refine r_putfieldF clX8 6 (by decide) fl_X8_56 rfl rfl rfl hS.1 rfl rfl (Nat.le_of_ble_eq_true rfl) dX8_init_80 ?_
  refine hS.jput (fun Mx hS => ?_)
  refine r_aload_n dX8_init_83 rfl ?_
  refine r_new clX5 [.null, vI 0] (by intro j hj; rcases (show j = 0 ∨ j = 1 by omega) with rfl | rfl <;> rfl) cn_X8_51 inX5 iniX5 (Nat.le_of_ble_eq_true rfl) (Nat.le_of_ble_eq_true rfl) dX8_init_84 (fun q84 hq84 => ?_)
  refine hS.jnew hq84 (fun Mx hS => ?_)
  refine r_dup dX8_init_87 ?_
  refine r_sipush dX8_init_88 (by decide) ?_
  refine r_callI1 okX5_init ⟨by decide, by decide⟩ ml_X8_53 (mX5_initS (N := 241) (hS.nth 0 rfl) (by omega)) (Nat.le_of_ble_eq_true rfl) (Nat.le_of_ble_eq_true rfl) (Nat.le_of_ble_eq_true rfl) (nn_tV) dX8_init_91 (kx_tV ?_)
  intro Mx hM
  obtain ⟨auw, hM⟩ := hM
  have hS := hS.sub hM
  refine r_putfieldF clX8 7 (by decide) fl_X8_60 rfl rfl rfl hS.1 rfl rfl (Nat.le_of_ble_eq_true rfl) dX8_init_94 ?_
  refine hS.jput (fun Mx hS => ?_)
  refine e_return dX8_init_97 rfl (Nat.le_of_ble_eq_true rfl) (Nat.le_of_ble_eq_true rfl) ?_
  exact oktV ⟨_, _, hS, q5, ys, Ls, q16, yh, Lh, q27, ab, q38, pa, pb, i1, i2, i3, i4, i5, i6, f1, f2, q49, ka, kp, kr, q60, l1, b1, ba1, bp1, br1, mm1, mr1, l2, b2, ba2, bp2, br2, mm2, mr2, q71, aut, q84, auw, rfl, hss, hsh, rfl⟩

