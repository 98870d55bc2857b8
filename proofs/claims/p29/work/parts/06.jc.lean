/-! J: making, ends, calls -/
theorem r_newA {κ : Kp} {bc bs : Nat} {Q : Rs → Mem → Prop} {pc : Nat} {L : Ls} {st : List Value} {M : Mem} {k n : Nat} {N ci ix : Nat} {z : Int} {r : vw_C} (hz : z = N) (hN : N ≤ 10000) (hci : vwCl[ci]? = some r) (hlk : Cond.classLink (kY κ).cls ix r.1 ∈ lw_g) (hov : ∀ (B : Nat) (s : State), Zt B s → va_AO r.1 s) (hk : k + 1 ≤ bc) (hn : n + N ≤ bs) (d : Dc κ pc (.anewarray ix) 3) (kk : ∀ q : Nat, M q = none → J κ bc bs Q (pc + 3) L (.ref q :: st) (up M q (aR ci N (fun _ => none))) (k + 1) (n + N)) : J κ bc bs Q (pc) L (vI z :: st) M (k) (n) := by
  intro p l e s m args below meth c H locs ls D B hc hB hZ hW hS hL
  obtain ⟨hx, hb, hr, hml, hown, hts, hlo, htab, hfl, hnm⟩ := id hc
  subst hz
  have h2 : R32 (N : Int) := by omega
  obtain ⟨ws, tys, hP, hK, hD, hR⟩ := id hW
  refine va_newq (D := D) (cl := vwCl) hx hb hown (hts _ hlk) (hov B s hZ) hK hP hD hS (fun q h => Nat.le_trans hB h) (n := iN (N : Int)) (N' := N) (by have h9 := (iN_lt (y := 0) h2 (by omega)); intro h; have := h9.mp h; omega) (by rw [iN_clamp h2]; omega) (by omega) hk hn d (fun q cA H1 hK1 hP1 hD1 hS1 => ?_)
  exact kk q (Rl.fresh hD1 hR) p l e s m args below meth c H1 locs ls D B hc hB hZ ⟨_, _, hP1, hK1, hD1, Rl.push ⟨ws.length, tys.length, cA, r, app_last, app_last, hci⟩ (low_eq hB hS hS1) hR⟩ hS1 hL

theorem r_new {κ : Kp} {bc bs : Nat} {Q : Rs → Mem → Prop} {pc : Nat} {L : Ls} {st : List Value} {M : Mem} {k n : Nat} {N ci ix : Nat} {C : String} {T : u_T} {ty : Nat → FieldType} (cl : Cl ci C T N ty) (fs : List Value) (hfs : ∀ j, j < N → defaultValue (ty j) = vp_V fs j) (hlk : Cond.classLink (kY κ).cls ix C ∈ lw_g) (hin : Cond.instantiable C N ∈ lw_g) (hini : Cond.initialized C ∈ lw_g) (hk : k + 1 ≤ bc) (hn : n + N ≤ bs) (d : Dc κ pc (.new ix) 3) (kk : ∀ q : Nat, M q = none → J κ bc bs Q (pc + 3) L (.ref q :: st) (up M q (oC ci fs)) (k + 1) (n + N)) : J κ bc bs Q (pc) L (st) M (k) (n) := by
  intro p l e s m args below meth c H locs ls D B hc hB hZ hW hS hL
  obtain ⟨hx, hb, hr, hml, hown, hts, hlo, htab, hfl, hnm⟩ := id hc
  obtain ⟨ws, tys, hP, hK, hD, hR⟩ := id hW
  refine va_new (D := D) (cl := vwCl) hx hb hts cl.2.1 ty cl.2.2.1 hown (hts _ hlk) (hts _ hin) (hts _ hini) hK hP hD hS (fun q h => Nat.le_trans hB h) cl.1 hfs hk hn d (fun q H1 hP1 hD1 hS1 => ?_)
  have hR1 := Rl.push (a := q) (e := .inr (ci, fs)) (tys' := []) (x := oC ci fs) ⟨ws.length, app_last⟩ (low_eq hB hS hS1) hR
  rw [List.append_nil] at hR1
  exact kk q (Rl.fresh hD1 hR) p l e s m args below meth c H1 locs ls D B hc hB hZ ⟨_, _, hP1, hK, hD1, hR1⟩ hS1 hL

theorem r_objInit {κ : Kp} {bc bs : Nat} {Q : Rs → Mem → Prop} {pc : Nat} {L : Ls} {st : List Value} {M : Mem} {k n : Nat} {a ix : Nat} (hlk : Cond.methodLink (kY κ).cls ix objectInit ∈ lw_g) (hin : Cond.instanceMethod objectInit ∈ lw_g) (hco : Cond.code objectInit ⟨#[0xb1]⟩ 1 none ∈ lw_g) (hF : 1 ≤ kF κ) (hV : (st.map fun v => v.category).sum + 12 ≤ kV κ) (d : Dc κ pc (.invokespecial ix) 3) (kk : J κ bc bs Q (pc + 3) L (st) M (k) (n)) : J κ bc bs Q (pc) L (.ref a :: st) M (k) (n) := by
  intro p l e s m args below meth c H locs ls D B hc hB hZ hW hS hL
  obtain ⟨hx, hb, hr, hml, hown, hts, hlo, htab, hfl, hnm⟩ := id hc
  refine W.objInit hx hb hown (hts _ hlk) (hts _ hin) (hts _ hco) rfl (by rw [hml]; exact hL.1) rfl d hF (by show 2 * 0 + _ + 12 ≤ kV κ; omega) ?_
  exact kk p l e s m args below meth c H locs ls D B hc hB hZ hW hS hL

theorem r_ireturn {κ : Kp} {bc bs : Nat} {Q : Rs → Mem → Prop} {pc : Nat} {L : Ls} {st : List Value} {M : Mem} {k n : Nat} {z : Int} (d : Dc κ pc .ireturn 1) (hR9 : kR κ = some .int) (hk : k ≤ bc) (hn : n ≤ bs) (hQ : Q (.inl (some (vI z))) M) : J κ bc bs Q (pc) L ([vI z]) M (k) (n) := by
  intro p l e s m args below meth c H locs ls D B hc hB hZ hW hS hL
  obtain ⟨hx, hb, hr, hml, hown, hts, hlo, htab, hfl, hnm⟩ := id hc
  refine W.widen hk hn (vx_ret ?_)
  exact W.iret (v := iN z) hx hb (hr.trans hR9) (fun t ht hW9 => ⟨⟨_, M, rfl, hQ, by rw [ht]; exact hW.moved hW9.alike⟩, hS.F ht⟩) hS.2.2 d hlo

theorem r_zreturn {κ : Kp} {bc bs : Nat} {Q : Rs → Mem → Prop} {pc : Nat} {L : Ls} {st : List Value} {M : Mem} {k n : Nat} {z : Int} (d : Dc κ pc .ireturn 1) (hR9 : kR κ = some .boolean) (hz : z = 0 ∨ z = 1) (hk : k ≤ bc) (hn : n ≤ bs) (hQ : Q (.inl (some (vI z))) M) : J κ bc bs Q (pc) L ([vI z]) M (k) (n) := by
  intro p l e s m args below meth c H locs ls D B hc hB hZ hW hS hL
  obtain ⟨hx, hb, hr, hml, hown, hts, hlo, htab, hfl, hnm⟩ := id hc
  refine W.widen hk hn (vx_ret ?_)
  exact W.zret (v := iN z) hx hb (hr.trans hR9) (by rcases hz with rfl | rfl <;> rfl) (fun t ht hW9 => ⟨⟨_, M, rfl, hQ, by rw [ht]; exact hW.moved hW9.alike⟩, hS.F ht⟩) hS.2.2 d hlo

theorem r_lreturn {κ : Kp} {bc bs : Nat} {Q : Rs → Mem → Prop} {pc : Nat} {L : Ls} {st : List Value} {M : Mem} {k n : Nat} {z : Int64} (d : Dc κ pc .lreturn 1) (hR9 : kR κ = some .long) (hk : k ≤ bc) (hn : n ≤ bs) (hQ : Q (.inl (some (.long z))) M) : J κ bc bs Q (pc) L ([.long z]) M (k) (n) := by
  intro p l e s m args below meth c H locs ls D B hc hB hZ hW hS hL
  obtain ⟨hx, hb, hr, hml, hown, hts, hlo, htab, hfl, hnm⟩ := id hc
  refine W.widen hk hn (vx_ret ?_)
  exact W.lret (v := z) hx hb (hr.trans hR9) (fun t ht hW9 => ⟨⟨_, M, rfl, hQ, by rw [ht]; exact hW.moved hW9.alike⟩, hS.F ht⟩) hS.2.2 d hlo

theorem r_dreturn {κ : Kp} {bc bs : Nat} {Q : Rs → Mem → Prop} {pc : Nat} {L : Ls} {st : List Value} {M : Mem} {k n : Nat} {z : UInt64} (d : Dc κ pc .dreturn 1) (hR9 : kR κ = some .double) (hk : k ≤ bc) (hn : n ≤ bs) (hQ : Q (.inl (some (.double z))) M) : J κ bc bs Q (pc) L ([.double z]) M (k) (n) := by
  intro p l e s m args below meth c H locs ls D B hc hB hZ hW hS hL
  obtain ⟨hx, hb, hr, hml, hown, hts, hlo, htab, hfl, hnm⟩ := id hc
  refine W.widen hk hn (vx_ret ?_)
  exact W.dret (v := z) hx hb (hr.trans hR9) (fun t ht hW9 => ⟨⟨_, M, rfl, hQ, by rw [ht]; exact hW.moved hW9.alike⟩, hS.F ht⟩) hS.2.2 d hlo

theorem r_areturn {κ : Kp} {bc bs : Nat} {Q : Rs → Mem → Prop} {pc : Nat} {L : Ls} {st : List Value} {M : Mem} {k n : Nat} {z : Nat} (d : Dc κ pc .areturn 1) {rt : FieldType} (hR9 : kR κ = some rt) (hrt : (∃ n, rt = .object n) ∨ ∃ t, rt = .array t) (hk : k ≤ bc) (hn : n ≤ bs) (hQ : Q (.inl (some (.ref z))) M) : J κ bc bs Q (pc) L ([.ref z]) M (k) (n) := by
  intro p l e s m args below meth c H locs ls D B hc hB hZ hW hS hL
  obtain ⟨hx, hb, hr, hml, hown, hts, hlo, htab, hfl, hnm⟩ := id hc
  refine W.widen hk hn (vx_ret ?_)
  exact W.aret (v := .ref z) hx hb (hr.trans hR9) hrt (Or.inr ⟨z, rfl⟩) (fun t ht hW9 => ⟨⟨_, M, rfl, hQ, by rw [ht]; exact hW.moved hW9.alike⟩, hS.F ht⟩) hS.2.2 d hlo

theorem r_areturnN {κ : Kp} {bc bs : Nat} {Q : Rs → Mem → Prop} {pc : Nat} {L : Ls} {st : List Value} {M : Mem} {k n : Nat}  (d : Dc κ pc .areturn 1) {rt : FieldType} (hR9 : kR κ = some rt) (hrt : (∃ n, rt = .object n) ∨ ∃ t, rt = .array t) (hk : k ≤ bc) (hn : n ≤ bs) (hQ : Q (.inl (some .null)) M) : J κ bc bs Q (pc) L ([.null]) M (k) (n) := by
  intro p l e s m args below meth c H locs ls D B hc hB hZ hW hS hL
  obtain ⟨hx, hb, hr, hml, hown, hts, hlo, htab, hfl, hnm⟩ := id hc
  refine W.widen hk hn (vx_ret ?_)
  exact W.aret (v := .null) hx hb (hr.trans hR9) hrt (Or.inl rfl) (fun t ht hW9 => ⟨⟨_, M, rfl, hQ, by rw [ht]; exact hW.moved hW9.alike⟩, hS.F ht⟩) hS.2.2 d hlo

theorem r_return {κ : Kp} {bc bs : Nat} {Q : Rs → Mem → Prop} {pc : Nat} {L : Ls} {st : List Value} {M : Mem} {k n : Nat}  (d : Dc κ pc .return_ 1) (hR9 : kR κ = none) (hk : k ≤ bc) (hn : n ≤ bs) (hQ : Q (.inl (none)) M) : J κ bc bs Q (pc) L ([]) M (k) (n) := by
  intro p l e s m args below meth c H locs ls D B hc hB hZ hW hS hL
  obtain ⟨hx, hb, hr, hml, hown, hts, hlo, htab, hfl, hnm⟩ := id hc
  refine W.widen hk hn (vx_ret ?_)
  exact W.vret hx hb (hr.trans hR9) (fun t ht hW9 => ⟨⟨_, M, rfl, hQ, by rw [ht]; exact hW.moved hW9.alike⟩, hS.F ht⟩) hS.2.2 d hlo

/-! calls -/
section QC
variable {p : Program} {l : Launch} {e : Env} {R : Room} {s : State} {m : MethodId} {args : Array Value} {below : List Frame} {meth : Method} {c : Code} {H : Heap} {locs : List Loc} {cells slots mc ms pc B : Nat} {ls : Array Slot} {st0 rest : List Value} {a : Array Value} {D : va_G} {Q' : Rs → Mem → Prop} {Z : State → Prop}
theorem qcall (hr : vx_Run p l e R s m args below meth c H locs cells slots mc ms (F0 m pc ls st0) rest (qR D B Q' a) (qX D B Q') (fun q => B ≤ q)) (hS : va_S (fun q => B ≤ q) s.heap H locs)
    (kx : ∀ (E : String) (ce : Cell) (q9 : Addr) (M' : Mem) (H1 : Heap) (locs1 : List Loc), Q' (.inr E) M' → Wd D B s H1 M' → va_S (fun q => B ≤ q) s.heap H1 locs1 → H1[q9]? = some ce → ce.vm = .none → s.vm.findClass E = some ce.cls → vx_W p l e R s m args below meth c H1 locs1 (cells + mc) (slots + ms) Z (F0 m pc ls rest) q9)
    (kk : ∀ (v : Option Value) (M' : Mem) (H1 : Heap) (locs1 : List Loc), Q' (.inl v) M' → Wd D B s H1 M' → va_S (fun q => B ≤ q) s.heap H1 locs1 → W p l e R s m args below meth c H1 locs1 (cells + mc) (slots + ms) Z (F0 m (pc + 3) ls (v.toList ++ rest))) : W p l e R s m args below meth c H locs cells slots Z (F0 m pc ls st0) := by
  intro T hT X
  rcases hr T hT X with ⟨v, st₀, t, T', L, h0, X', hL, e1, e2, ⟨⟨v2, M', hv, hq, hw⟩, hF⟩, st⟩ | ⟨q, st₀, t, T', L, E, ce, h0, X', hL, e1, e2, ⟨M', hq, hw, hF⟩, hce, hcv, hcl, st⟩
  · cases hv
    obtain ⟨k1, k2, k3⟩ := vx_keep h0 e1 hS (fun _ _ h => h) (fun _ h => h) hL hF
    have ha : t.vm.Alike s.vm := by rw [← e2]; exact X'.warmed.alike.symm
    obtain ⟨t2, a1, b1⟩ := kk v M' T'.heap (locs ++ L) hq (by rw [e1]; exact hw.moved ha) k3 T' rfl X'
    exact ⟨t2, st t2 a1, b1⟩
  · obtain ⟨k1, k2, k3⟩ := vx_keep h0 e1 hS (fun _ _ h => h) (fun _ h => h) hL hF
    have ha : t.vm.Alike s.vm := by rw [← e2]; exact X'.warmed.alike.symm
    obtain ⟨t2, a1, b1⟩ := kx E ce q M' T'.heap (locs ++ L) hq (by rw [e1]; exact hw.moved ha) k3 (by rw [e1]; exact hce) hcv hcl T' rfl X'
    exact ⟨t2, st.trans a1, b1⟩
theorem qcall0 (hr : va_Run p l e R s m args below meth c H locs cells slots mc ms (F0 m pc ls st0) rest (qR D B Q' a) (fun q => B ≤ q)) (hS : va_S (fun q => B ≤ q) s.heap H locs)
    (kk : ∀ (v : Option Value) (M' : Mem) (H1 : Heap) (locs1 : List Loc), Q' (.inl v) M' → Wd D B s H1 M' → va_S (fun q => B ≤ q) s.heap H1 locs1 → W p l e R s m args below meth c H1 locs1 (cells + mc) (slots + ms) Z (F0 m (pc + 3) ls (v.toList ++ rest))) : W p l e R s m args below meth c H locs cells slots Z (F0 m pc ls st0) := by
  intro T hT X
  obtain ⟨v, st₀, t, T', L, h0, X', hL, e1, e2, ⟨⟨v2, M', hv, hq, hw⟩, hF⟩, st⟩ := hr T hT X
  cases hv
  obtain ⟨k1, k2, k3⟩ := vx_keep h0 e1 hS (fun _ _ h => h) (fun _ h => h) hL hF
  have ha : t.vm.Alike s.vm := by rw [← e2]; exact X'.warmed.alike.symm
  obtain ⟨t2, a1, b1⟩ := kk v M' T'.heap (locs ++ L) hq (by rw [e1]; exact hw.moved ha) k3 T' rfl X'
  exact ⟨t2, st t2 a1, b1⟩
end QC
/-- a contract without a throw is the kit's -/
theorem met_of {l : Launch} {y : MethodName} {ws : List Cond} {rm : Room} {Pc : Array Value → State → Prop} {Qc : Array Value → State → Outcome → State → Prop} {XC : String → State → State → Prop} {mc ms : Nat} {free : Addr → Prop} (h : vx_Met l y ws rm Pc Qc XC mc ms free) (hX : ∀ E st t, ¬ XC E st t) : Met l y ws rm Pc Qc mc ms free := by
  intro p e h1 h2 h3 s m args below h4 h5 h6 h7
  obtain ⟨n, o, g1, g2, g3, g4⟩ := h p e h1 h2 h3 s m args below h4 h5 h6 h7
  refine ⟨n, o, g1, g2, g3, ?_⟩
  rcases g4 with g4 | ⟨q, -, E, ce, L, hx, -⟩
  · exact g4
  · exact absurd hx (hX E _ _)
theorem Zt.go {B : Nat} {s U : State} {H : Heap} {locs : List Loc} (hZ : Zt B s) (hS : va_S (fun q => B ≤ q) s.heap H locs) (hU : U.heap = H) (hWm : s.WarmedH U.vm) : Zt B U := by
  have hvm := hWm.alike
  unfold Zt
  rw [hU]
  exact ⟨vx_Zq.moved hvm (hZ.1.kept hS.2.1), vx_Zq.moved hvm (hZ.2.1.kept hS.2.1), va_AO.moved hvm hZ.2.2.1, va_AO.moved hvm hZ.2.2.2.1, va_Nw.warmM hWm hZ.2.2.2.2.1, va_Nw.warmM hWm hZ.2.2.2.2.2.1, hZ.2.2.2.2.2.2.warm hWm⟩
theorem Pic.blind {D : va_G} {B : Nat} {M : Mem} {As : List Value} : FrameBlind (va_Pc As (Pic D B M)) := by
  intro a U g mk q
  obtain ⟨q0, q1, ⟨z1, z2, z3, z4, z5, z6, z7⟩, q3⟩ := q
  have ha : U.vm.Alike (U.calling g mk a).vm := Vm.Alike.refl U.vm
  exact ⟨q0, q1, ⟨vx_Zq.moved ha z1, vx_Zq.moved ha z2, va_AO.moved ha z3, va_AO.moved ha z4, va_Nw.same rfl rfl z5, va_Nw.same rfl rfl z6, z7.same rfl⟩, q3.moved ha⟩
theorem Pic.at {D : va_G} {B : Nat} {s : State} {H : Heap} {M : Mem} {locs : List Loc} {As : List Value} (hB : B ≤ s.heap.size) (hZ : Zt B s) (hW : Wd D B s H M) (hS : va_S (fun q => B ≤ q) s.heap H locs) : ∀ U : State, U.heap = H → s.WarmedH U.vm → va_Pc As (Pic D B M) As.toArray U := by
  intro U hU hWm
  exact ⟨rfl, by rw [hU]; exact Nat.le_trans hB hS.1, hZ.go hS hU hWm, by rw [hU]; exact hW.moved hWm.alike⟩
/-- the tables' words of a callee -/
def Ok (κ : Kp) (n : Nat) : Prop := wc κ ∈ lw_g ∧ Cond.initialized (kY κ).cls ∈ lw_g ∧ ((kY κ).cls ≠ "java/lang/invoke/MethodHandle" ∧ (kY κ).cls ≠ "java/lang/invoke/VarHandle" ∧ (parseMethodDescriptor (kY κ).desc).map (fun d => d.parameters.length) = some n)
def OkV (κ : Kp) (n : Nat) : Prop := kH κ = [] ∧ Ok κ n ∧ Cond.instanceMethod (kY κ) ∈ lw_g ∧ Cond.selects (kY κ).cls (kY κ) (kY κ) ∈ lw_g
def OkS (κ : Kp) (n : Nat) : Prop := kH κ = [] ∧ Ok κ n ∧ Cond.static (kY κ) ∈ lw_g
def OkI (κ : Kp) (n : Nat) : Prop := kH κ = [] ∧ kR κ = none ∧ Ok κ n ∧ Cond.instanceMethod (kY κ) ∈ lw_g ∧ (kY κ).name = "<init>"
def OkH (κ : Kp) (n : Nat) : Prop := (kH κ).isEmpty = false ∧ Ok κ n ∧ Cond.static (kY κ) ∈ lw_g
theorem wc_code {κ : Kp} (h : kH κ = []) : wc κ = .code (kY κ) (kC κ) (kL κ) (kR κ) := by unfold wc; rw [h]; rfl
theorem wc_with {κ : Kp} (h : (kH κ).isEmpty = false) : wc κ = .codeWith (kY κ) (kC κ) (kL κ) (kR κ) (kH κ) := by unfold wc; rw [h]; rfl
theorem Ok.in {κ : Kp} {n : Nat} (h : Ok κ n) : GoodIn lw_g (wsOf κ) := fun w hw => (List.mem_cons.mp hw).elim (fun e => by rw [e]; exact lw_gg _ h.1) (fun e => lw_gg w e)
/-- the callee's room fits -/
abbrev Fit (κ κ' : Kp) : Prop := kF κ' + 1 ≤ kF κ ∧ 8 + (kL κ' + 11) + kV κ' ≤ kV κ
theorem Ok.callB {κ κ' : Kp} {n bc bs bc' bs' ix : Nat} {s : State} {args : Array Value} (hH : kH κ' = []) (h : Ok κ' n) (hts : ∀ w ∈ lw_g, w.before args s = true) (hlk : Cond.methodLink (kY κ).cls ix (kY κ') ∈ lw_g) (hfit : Fit κ κ') : CallB (rmOf κ bc bs) s args (kY κ).cls ix (kY κ') (kC κ') (kL κ') (kR κ') (wsOf κ') (rmOf κ' bc' bs') bc' bs' n :=
  callB_of n hts h.in (by rw [← wc_code hH]) rfl rfl (hts _ h.2.1) (hts _ hlk) h.2.2 hfit
/-- not caught in a method without handlers -/
theorem qthrow {κ : Kp} {bc bs : Nat} {Q : Rs → Mem → Prop} {p : Program} {l : Launch} {e : Env} {s : State} {m : MethodId} {args : Array Value} {below : List Frame} {meth : Method} {c : Code} {H : Heap} {locs : List Loc} {k n pc B : Nat} {ls : Array Slot} {rest : List Value} {D : va_G} {M' : Mem} {E : String} {ce : Cell} {q9 : Addr}
    (hH : kH κ = []) (htab : c.exceptionTable.toList = tableOf (kH κ)) (hlo : meth.locks = false) (hQ : Q (.inr E) M') (hW : Wd D B s H M') (hS : va_S (fun q => B ≤ q) s.heap H locs) (hce : H[q9]? = some ce) (hcv : ce.vm = .none) (hcl : s.vm.findClass E = some ce.cls) (hk : k ≤ bc) (hn : n ≤ bs) :
    vx_W p l e (rmOf κ bc bs) s m args below meth c H locs k n (vx_MQ below (qR D B Q) (qX D B Q) args s bc bs (fun q => B ≤ q)) (F0 m pc ls rest) q9 := by
  refine vx_out (fun x hx => ?_) hlo hce hcv hcl (fun t ht ha => ⟨M', hQ, by rw [ht]; exact hW.moved ha, hS.F ht⟩) hS.2.2 hk hn
  rw [htab, hH] at hx
  cases hx

theorem r_callV0 {κ : Kp} {bc bs : Nat} {Q : Rs → Mem → Prop} {pc : Nat} {L : Ls} {st : List Value} {M : Mem} {k n : Nat} {κ' : Kp} {ix bc' bs' : Nat} {Q' : Rs → Mem → Prop} {o : Nat}  (ok : OkV κ' 0) (hfit : Fit κ κ') (hlk : Cond.methodLink (kY κ).cls ix (kY κ') ∈ lw_g) (hct : Ct κ' (.ref o :: []) M bc' bs' Q') {ci : Nat} {fs : List Value} {r : vw_C} (hM : M o = some (oC ci fs)) (hci : vwCl[ci]? = some r) (hcls : r.1 = (kY κ').cls) (hst : (st.map fun v => v.category).sum ≤ 8) (hbk : k + bc' ≤ bc) (hbn : n + bs' ≤ bs) (hH : kH κ = []) (d : Dc κ pc (.invokevirtual ix) 3) (hthr : ∀ (E : String) (M' : Mem), Q' (.inr E) M' → Q (.inr E) M') (kk : ∀ (v : Option Value) (M' : Mem), Q' (.inl v) M' → J κ bc bs Q (pc + 3) L (v.toList ++ st) M' (k + bc') (n + bs')) : J κ bc bs Q (pc) L (.ref o :: st) M (k) (n) := by
  intro p l e s m args below meth c H locs ls D B hc hB hZ hW hS hL
  obtain ⟨hx, hb, hr, hml, hown, hts, hlo, htab, hfl, hnm⟩ := id hc
  refine qcall (vx_runV (As := []) (rest := st) ⟨hx, hb, hml, hown, hts⟩ (hct l D B hfl) ⟨Ok.callB ok.1 ok.2.1 hts hlk hfit, hts _ ok.2.2.1, hts _ ok.2.2.2⟩ ⟨Pic.blind, (by
    obtain ⟨ws, tys, hP, hK, hD, hR⟩ := id hW
    obtain ⟨q0, hq⟩ := hR o _ hM
    rw [← hcls]
    exact va_recv hK hP hci hq), Pic.at hB hZ hW hS⟩ rfl rfl hL.1 rfl (lv_room hst) d ⟨hbk, hbn⟩) hS (fun E ce q9 M' H1 locs1 hq hw hS1 hce hcv hcl => qthrow hH htab hlo (hthr E M' hq) hw hS1 hce hcv hcl hbk hbn) (fun v M' H1 locs1 hq hw hS1 => ?_)
  exact kk v M' hq p l e s m args below meth c H1 locs1 ls D B hc hB hZ hw hS1 hL

theorem r_callV1 {κ : Kp} {bc bs : Nat} {Q : Rs → Mem → Prop} {pc : Nat} {L : Ls} {st : List Value} {M : Mem} {k n : Nat} {κ' : Kp} {ix bc' bs' : Nat} {Q' : Rs → Mem → Prop} {o : Nat} {a1 : Value}  (ok : OkV κ' 1) (hfit : Fit κ κ') (hlk : Cond.methodLink (kY κ).cls ix (kY κ') ∈ lw_g) (hct : Ct κ' (.ref o :: [a1]) M bc' bs' Q') {ci : Nat} {fs : List Value} {r : vw_C} (hM : M o = some (oC ci fs)) (hci : vwCl[ci]? = some r) (hcls : r.1 = (kY κ').cls) (hst : (st.map fun v => v.category).sum ≤ 8) (hbk : k + bc' ≤ bc) (hbn : n + bs' ≤ bs) (hH : kH κ = []) (d : Dc κ pc (.invokevirtual ix) 3) (hthr : ∀ (E : String) (M' : Mem), Q' (.inr E) M' → Q (.inr E) M') (kk : ∀ (v : Option Value) (M' : Mem), Q' (.inl v) M' → J κ bc bs Q (pc + 3) L (v.toList ++ st) M' (k + bc') (n + bs')) : J κ bc bs Q (pc) L (a1 :: .ref o :: st) M (k) (n) := by
  intro p l e s m args below meth c H locs ls D B hc hB hZ hW hS hL
  obtain ⟨hx, hb, hr, hml, hown, hts, hlo, htab, hfl, hnm⟩ := id hc
  refine qcall (vx_runV (As := [a1]) (rest := st) ⟨hx, hb, hml, hown, hts⟩ (hct l D B hfl) ⟨Ok.callB ok.1 ok.2.1 hts hlk hfit, hts _ ok.2.2.1, hts _ ok.2.2.2⟩ ⟨Pic.blind, (by
    obtain ⟨ws, tys, hP, hK, hD, hR⟩ := id hW
    obtain ⟨q0, hq⟩ := hR o _ hM
    rw [← hcls]
    exact va_recv hK hP hci hq), Pic.at hB hZ hW hS⟩ rfl rfl hL.1 rfl (lv_room hst) d ⟨hbk, hbn⟩) hS (fun E ce q9 M' H1 locs1 hq hw hS1 hce hcv hcl => qthrow hH htab hlo (hthr E M' hq) hw hS1 hce hcv hcl hbk hbn) (fun v M' H1 locs1 hq hw hS1 => ?_)
  exact kk v M' hq p l e s m args below meth c H1 locs1 ls D B hc hB hZ hw hS1 hL

theorem r_callV2 {κ : Kp} {bc bs : Nat} {Q : Rs → Mem → Prop} {pc : Nat} {L : Ls} {st : List Value} {M : Mem} {k n : Nat} {κ' : Kp} {ix bc' bs' : Nat} {Q' : Rs → Mem → Prop} {o : Nat} {a1 a2 : Value}  (ok : OkV κ' 2) (hfit : Fit κ κ') (hlk : Cond.methodLink (kY κ).cls ix (kY κ') ∈ lw_g) (hct : Ct κ' (.ref o :: [a1, a2]) M bc' bs' Q') {ci : Nat} {fs : List Value} {r : vw_C} (hM : M o = some (oC ci fs)) (hci : vwCl[ci]? = some r) (hcls : r.1 = (kY κ').cls) (hst : (st.map fun v => v.category).sum ≤ 8) (hbk : k + bc' ≤ bc) (hbn : n + bs' ≤ bs) (hH : kH κ = []) (d : Dc κ pc (.invokevirtual ix) 3) (hthr : ∀ (E : String) (M' : Mem), Q' (.inr E) M' → Q (.inr E) M') (kk : ∀ (v : Option Value) (M' : Mem), Q' (.inl v) M' → J κ bc bs Q (pc + 3) L (v.toList ++ st) M' (k + bc') (n + bs')) : J κ bc bs Q (pc) L (a2 :: a1 :: .ref o :: st) M (k) (n) := by
  intro p l e s m args below meth c H locs ls D B hc hB hZ hW hS hL
  obtain ⟨hx, hb, hr, hml, hown, hts, hlo, htab, hfl, hnm⟩ := id hc
  refine qcall (vx_runV (As := [a1, a2]) (rest := st) ⟨hx, hb, hml, hown, hts⟩ (hct l D B hfl) ⟨Ok.callB ok.1 ok.2.1 hts hlk hfit, hts _ ok.2.2.1, hts _ ok.2.2.2⟩ ⟨Pic.blind, (by
    obtain ⟨ws, tys, hP, hK, hD, hR⟩ := id hW
    obtain ⟨q0, hq⟩ := hR o _ hM
    rw [← hcls]
    exact va_recv hK hP hci hq), Pic.at hB hZ hW hS⟩ rfl rfl hL.1 rfl (lv_room hst) d ⟨hbk, hbn⟩) hS (fun E ce q9 M' H1 locs1 hq hw hS1 hce hcv hcl => qthrow hH htab hlo (hthr E M' hq) hw hS1 hce hcv hcl hbk hbn) (fun v M' H1 locs1 hq hw hS1 => ?_)
  exact kk v M' hq p l e s m args below meth c H1 locs1 ls D B hc hB hZ hw hS1 hL

theorem r_callV3 {κ : Kp} {bc bs : Nat} {Q : Rs → Mem → Prop} {pc : Nat} {L : Ls} {st : List Value} {M : Mem} {k n : Nat} {κ' : Kp} {ix bc' bs' : Nat} {Q' : Rs → Mem → Prop} {o : Nat} {a1 a2 a3 : Value}  (ok : OkV κ' 3) (hfit : Fit κ κ') (hlk : Cond.methodLink (kY κ).cls ix (kY κ') ∈ lw_g) (hct : Ct κ' (.ref o :: [a1, a2, a3]) M bc' bs' Q') {ci : Nat} {fs : List Value} {r : vw_C} (hM : M o = some (oC ci fs)) (hci : vwCl[ci]? = some r) (hcls : r.1 = (kY κ').cls) (hst : (st.map fun v => v.category).sum ≤ 8) (hbk : k + bc' ≤ bc) (hbn : n + bs' ≤ bs) (hH : kH κ = []) (d : Dc κ pc (.invokevirtual ix) 3) (hthr : ∀ (E : String) (M' : Mem), Q' (.inr E) M' → Q (.inr E) M') (kk : ∀ (v : Option Value) (M' : Mem), Q' (.inl v) M' → J κ bc bs Q (pc + 3) L (v.toList ++ st) M' (k + bc') (n + bs')) : J κ bc bs Q (pc) L (a3 :: a2 :: a1 :: .ref o :: st) M (k) (n) := by
  intro p l e s m args below meth c H locs ls D B hc hB hZ hW hS hL
  obtain ⟨hx, hb, hr, hml, hown, hts, hlo, htab, hfl, hnm⟩ := id hc
  refine qcall (vx_runV (As := [a1, a2, a3]) (rest := st) ⟨hx, hb, hml, hown, hts⟩ (hct l D B hfl) ⟨Ok.callB ok.1 ok.2.1 hts hlk hfit, hts _ ok.2.2.1, hts _ ok.2.2.2⟩ ⟨Pic.blind, (by
    obtain ⟨ws, tys, hP, hK, hD, hR⟩ := id hW
    obtain ⟨q0, hq⟩ := hR o _ hM
    rw [← hcls]
    exact va_recv hK hP hci hq), Pic.at hB hZ hW hS⟩ rfl rfl hL.1 rfl (lv_room hst) d ⟨hbk, hbn⟩) hS (fun E ce q9 M' H1 locs1 hq hw hS1 hce hcv hcl => qthrow hH htab hlo (hthr E M' hq) hw hS1 hce hcv hcl hbk hbn) (fun v M' H1 locs1 hq hw hS1 => ?_)
  exact kk v M' hq p l e s m args below meth c H1 locs1 ls D B hc hB hZ hw hS1 hL

theorem r_callV4 {κ : Kp} {bc bs : Nat} {Q : Rs → Mem → Prop} {pc : Nat} {L : Ls} {st : List Value} {M : Mem} {k n : Nat} {κ' : Kp} {ix bc' bs' : Nat} {Q' : Rs → Mem → Prop} {o : Nat} {a1 a2 a3 a4 : Value}  (ok : OkV κ' 4) (hfit : Fit κ κ') (hlk : Cond.methodLink (kY κ).cls ix (kY κ') ∈ lw_g) (hct : Ct κ' (.ref o :: [a1, a2, a3, a4]) M bc' bs' Q') {ci : Nat} {fs : List Value} {r : vw_C} (hM : M o = some (oC ci fs)) (hci : vwCl[ci]? = some r) (hcls : r.1 = (kY κ').cls) (hst : (st.map fun v => v.category).sum ≤ 8) (hbk : k + bc' ≤ bc) (hbn : n + bs' ≤ bs) (hH : kH κ = []) (d : Dc κ pc (.invokevirtual ix) 3) (hthr : ∀ (E : String) (M' : Mem), Q' (.inr E) M' → Q (.inr E) M') (kk : ∀ (v : Option Value) (M' : Mem), Q' (.inl v) M' → J κ bc bs Q (pc + 3) L (v.toList ++ st) M' (k + bc') (n + bs')) : J κ bc bs Q (pc) L (a4 :: a3 :: a2 :: a1 :: .ref o :: st) M (k) (n) := by
  intro p l e s m args below meth c H locs ls D B hc hB hZ hW hS hL
  obtain ⟨hx, hb, hr, hml, hown, hts, hlo, htab, hfl, hnm⟩ := id hc
  refine qcall (vx_runV (As := [a1, a2, a3, a4]) (rest := st) ⟨hx, hb, hml, hown, hts⟩ (hct l D B hfl) ⟨Ok.callB ok.1 ok.2.1 hts hlk hfit, hts _ ok.2.2.1, hts _ ok.2.2.2⟩ ⟨Pic.blind, (by
    obtain ⟨ws, tys, hP, hK, hD, hR⟩ := id hW
    obtain ⟨q0, hq⟩ := hR o _ hM
    rw [← hcls]
    exact va_recv hK hP hci hq), Pic.at hB hZ hW hS⟩ rfl rfl hL.1 rfl (lv_room hst) d ⟨hbk, hbn⟩) hS (fun E ce q9 M' H1 locs1 hq hw hS1 hce hcv hcl => qthrow hH htab hlo (hthr E M' hq) hw hS1 hce hcv hcl hbk hbn) (fun v M' H1 locs1 hq hw hS1 => ?_)
  exact kk v M' hq p l e s m args below meth c H1 locs1 ls D B hc hB hZ hw hS1 hL

theorem r_callS0 {κ : Kp} {bc bs : Nat} {Q : Rs → Mem → Prop} {pc : Nat} {L : Ls} {st : List Value} {M : Mem} {k n : Nat} {κ' : Kp} {ix bc' bs' : Nat} {Q' : Rs → Mem → Prop}  (ok : OkS κ' 0) (hfit : Fit κ κ') (hlk : Cond.methodLink (kY κ).cls ix (kY κ') ∈ lw_g) (hct : Ct κ' [] M bc' bs' Q') (hst : (st.map fun v => v.category).sum ≤ 8) (hbk : k + bc' ≤ bc) (hbn : n + bs' ≤ bs) (hH : kH κ = []) (d : Dc κ pc (.invokestatic ix) 3) (hthr : ∀ (E : String) (M' : Mem), Q' (.inr E) M' → Q (.inr E) M') (kk : ∀ (v : Option Value) (M' : Mem), Q' (.inl v) M' → J κ bc bs Q (pc + 3) L (v.toList ++ st) M' (k + bc') (n + bs')) : J κ bc bs Q (pc) L (st) M (k) (n) := by
  intro p l e s m args below meth c H locs ls D B hc hB hZ hW hS hL
  obtain ⟨hx, hb, hr, hml, hown, hts, hlo, htab, hfl, hnm⟩ := id hc
  refine qcall (vx_runS (As := []) (rest := st) ⟨hx, hb, hml, hown, hts⟩ (hct l D B hfl) ⟨Ok.callB ok.1 ok.2.1 hts hlk hfit, hts _ ok.2.2⟩ ⟨Pic.blind, Pic.at hB hZ hW hS⟩ rfl rfl hL.1 rfl (lv_room hst) d ⟨hbk, hbn⟩) hS (fun E ce q9 M' H1 locs1 hq hw hS1 hce hcv hcl => qthrow hH htab hlo (hthr E M' hq) hw hS1 hce hcv hcl hbk hbn) (fun v M' H1 locs1 hq hw hS1 => ?_)
  exact kk v M' hq p l e s m args below meth c H1 locs1 ls D B hc hB hZ hw hS1 hL

theorem r_callS1 {κ : Kp} {bc bs : Nat} {Q : Rs → Mem → Prop} {pc : Nat} {L : Ls} {st : List Value} {M : Mem} {k n : Nat} {κ' : Kp} {ix bc' bs' : Nat} {Q' : Rs → Mem → Prop} {a1 : Value}  (ok : OkS κ' 1) (hfit : Fit κ κ') (hlk : Cond.methodLink (kY κ).cls ix (kY κ') ∈ lw_g) (hct : Ct κ' [a1] M bc' bs' Q') (hst : (st.map fun v => v.category).sum ≤ 8) (hbk : k + bc' ≤ bc) (hbn : n + bs' ≤ bs) (hH : kH κ = []) (d : Dc κ pc (.invokestatic ix) 3) (hthr : ∀ (E : String) (M' : Mem), Q' (.inr E) M' → Q (.inr E) M') (kk : ∀ (v : Option Value) (M' : Mem), Q' (.inl v) M' → J κ bc bs Q (pc + 3) L (v.toList ++ st) M' (k + bc') (n + bs')) : J κ bc bs Q (pc) L (a1 :: st) M (k) (n) := by
  intro p l e s m args below meth c H locs ls D B hc hB hZ hW hS hL
  obtain ⟨hx, hb, hr, hml, hown, hts, hlo, htab, hfl, hnm⟩ := id hc
  refine qcall (vx_runS (As := [a1]) (rest := st) ⟨hx, hb, hml, hown, hts⟩ (hct l D B hfl) ⟨Ok.callB ok.1 ok.2.1 hts hlk hfit, hts _ ok.2.2⟩ ⟨Pic.blind, Pic.at hB hZ hW hS⟩ rfl rfl hL.1 rfl (lv_room hst) d ⟨hbk, hbn⟩) hS (fun E ce q9 M' H1 locs1 hq hw hS1 hce hcv hcl => qthrow hH htab hlo (hthr E M' hq) hw hS1 hce hcv hcl hbk hbn) (fun v M' H1 locs1 hq hw hS1 => ?_)
  exact kk v M' hq p l e s m args below meth c H1 locs1 ls D B hc hB hZ hw hS1 hL

theorem r_callS2 {κ : Kp} {bc bs : Nat} {Q : Rs → Mem → Prop} {pc : Nat} {L : Ls} {st : List Value} {M : Mem} {k n : Nat} {κ' : Kp} {ix bc' bs' : Nat} {Q' : Rs → Mem → Prop} {a1 a2 : Value}  (ok : OkS κ' 2) (hfit : Fit κ κ') (hlk : Cond.methodLink (kY κ).cls ix (kY κ') ∈ lw_g) (hct : Ct κ' [a1, a2] M bc' bs' Q') (hst : (st.map fun v => v.category).sum ≤ 8) (hbk : k + bc' ≤ bc) (hbn : n + bs' ≤ bs) (hH : kH κ = []) (d : Dc κ pc (.invokestatic ix) 3) (hthr : ∀ (E : String) (M' : Mem), Q' (.inr E) M' → Q (.inr E) M') (kk : ∀ (v : Option Value) (M' : Mem), Q' (.inl v) M' → J κ bc bs Q (pc + 3) L (v.toList ++ st) M' (k + bc') (n + bs')) : J κ bc bs Q (pc) L (a2 :: a1 :: st) M (k) (n) := by
  intro p l e s m args below meth c H locs ls D B hc hB hZ hW hS hL
  obtain ⟨hx, hb, hr, hml, hown, hts, hlo, htab, hfl, hnm⟩ := id hc
  refine qcall (vx_runS (As := [a1, a2]) (rest := st) ⟨hx, hb, hml, hown, hts⟩ (hct l D B hfl) ⟨Ok.callB ok.1 ok.2.1 hts hlk hfit, hts _ ok.2.2⟩ ⟨Pic.blind, Pic.at hB hZ hW hS⟩ rfl rfl hL.1 rfl (lv_room hst) d ⟨hbk, hbn⟩) hS (fun E ce q9 M' H1 locs1 hq hw hS1 hce hcv hcl => qthrow hH htab hlo (hthr E M' hq) hw hS1 hce hcv hcl hbk hbn) (fun v M' H1 locs1 hq hw hS1 => ?_)
  exact kk v M' hq p l e s m args below meth c H1 locs1 ls D B hc hB hZ hw hS1 hL

theorem r_callS3 {κ : Kp} {bc bs : Nat} {Q : Rs → Mem → Prop} {pc : Nat} {L : Ls} {st : List Value} {M : Mem} {k n : Nat} {κ' : Kp} {ix bc' bs' : Nat} {Q' : Rs → Mem → Prop} {a1 a2 a3 : Value}  (ok : OkS κ' 3) (hfit : Fit κ κ') (hlk : Cond.methodLink (kY κ).cls ix (kY κ') ∈ lw_g) (hct : Ct κ' [a1, a2, a3] M bc' bs' Q') (hst : (st.map fun v => v.category).sum ≤ 8) (hbk : k + bc' ≤ bc) (hbn : n + bs' ≤ bs) (hH : kH κ = []) (d : Dc κ pc (.invokestatic ix) 3) (hthr : ∀ (E : String) (M' : Mem), Q' (.inr E) M' → Q (.inr E) M') (kk : ∀ (v : Option Value) (M' : Mem), Q' (.inl v) M' → J κ bc bs Q (pc + 3) L (v.toList ++ st) M' (k + bc') (n + bs')) : J κ bc bs Q (pc) L (a3 :: a2 :: a1 :: st) M (k) (n) := by
  intro p l e s m args below meth c H locs ls D B hc hB hZ hW hS hL
  obtain ⟨hx, hb, hr, hml, hown, hts, hlo, htab, hfl, hnm⟩ := id hc
  refine qcall (vx_runS (As := [a1, a2, a3]) (rest := st) ⟨hx, hb, hml, hown, hts⟩ (hct l D B hfl) ⟨Ok.callB ok.1 ok.2.1 hts hlk hfit, hts _ ok.2.2⟩ ⟨Pic.blind, Pic.at hB hZ hW hS⟩ rfl rfl hL.1 rfl (lv_room hst) d ⟨hbk, hbn⟩) hS (fun E ce q9 M' H1 locs1 hq hw hS1 hce hcv hcl => qthrow hH htab hlo (hthr E M' hq) hw hS1 hce hcv hcl hbk hbn) (fun v M' H1 locs1 hq hw hS1 => ?_)
  exact kk v M' hq p l e s m args below meth c H1 locs1 ls D B hc hB hZ hw hS1 hL

theorem r_callS4 {κ : Kp} {bc bs : Nat} {Q : Rs → Mem → Prop} {pc : Nat} {L : Ls} {st : List Value} {M : Mem} {k n : Nat} {κ' : Kp} {ix bc' bs' : Nat} {Q' : Rs → Mem → Prop} {a1 a2 a3 a4 : Value}  (ok : OkS κ' 4) (hfit : Fit κ κ') (hlk : Cond.methodLink (kY κ).cls ix (kY κ') ∈ lw_g) (hct : Ct κ' [a1, a2, a3, a4] M bc' bs' Q') (hst : (st.map fun v => v.category).sum ≤ 8) (hbk : k + bc' ≤ bc) (hbn : n + bs' ≤ bs) (hH : kH κ = []) (d : Dc κ pc (.invokestatic ix) 3) (hthr : ∀ (E : String) (M' : Mem), Q' (.inr E) M' → Q (.inr E) M') (kk : ∀ (v : Option Value) (M' : Mem), Q' (.inl v) M' → J κ bc bs Q (pc + 3) L (v.toList ++ st) M' (k + bc') (n + bs')) : J κ bc bs Q (pc) L (a4 :: a3 :: a2 :: a1 :: st) M (k) (n) := by
  intro p l e s m args below meth c H locs ls D B hc hB hZ hW hS hL
  obtain ⟨hx, hb, hr, hml, hown, hts, hlo, htab, hfl, hnm⟩ := id hc
  refine qcall (vx_runS (As := [a1, a2, a3, a4]) (rest := st) ⟨hx, hb, hml, hown, hts⟩ (hct l D B hfl) ⟨Ok.callB ok.1 ok.2.1 hts hlk hfit, hts _ ok.2.2⟩ ⟨Pic.blind, Pic.at hB hZ hW hS⟩ rfl rfl hL.1 rfl (lv_room hst) d ⟨hbk, hbn⟩) hS (fun E ce q9 M' H1 locs1 hq hw hS1 hce hcv hcl => qthrow hH htab hlo (hthr E M' hq) hw hS1 hce hcv hcl hbk hbn) (fun v M' H1 locs1 hq hw hS1 => ?_)
  exact kk v M' hq p l e s m args below meth c H1 locs1 ls D B hc hB hZ hw hS1 hL

theorem r_callS5 {κ : Kp} {bc bs : Nat} {Q : Rs → Mem → Prop} {pc : Nat} {L : Ls} {st : List Value} {M : Mem} {k n : Nat} {κ' : Kp} {ix bc' bs' : Nat} {Q' : Rs → Mem → Prop} {a1 a2 a3 a4 a5 : Value}  (ok : OkS κ' 5) (hfit : Fit κ κ') (hlk : Cond.methodLink (kY κ).cls ix (kY κ') ∈ lw_g) (hct : Ct κ' [a1, a2, a3, a4, a5] M bc' bs' Q') (hst : (st.map fun v => v.category).sum ≤ 8) (hbk : k + bc' ≤ bc) (hbn : n + bs' ≤ bs) (hH : kH κ = []) (d : Dc κ pc (.invokestatic ix) 3) (hthr : ∀ (E : String) (M' : Mem), Q' (.inr E) M' → Q (.inr E) M') (kk : ∀ (v : Option Value) (M' : Mem), Q' (.inl v) M' → J κ bc bs Q (pc + 3) L (v.toList ++ st) M' (k + bc') (n + bs')) : J κ bc bs Q (pc) L (a5 :: a4 :: a3 :: a2 :: a1 :: st) M (k) (n) := by
  intro p l e s m args below meth c H locs ls D B hc hB hZ hW hS hL
  obtain ⟨hx, hb, hr, hml, hown, hts, hlo, htab, hfl, hnm⟩ := id hc
  refine qcall (vx_runS (As := [a1, a2, a3, a4, a5]) (rest := st) ⟨hx, hb, hml, hown, hts⟩ (hct l D B hfl) ⟨Ok.callB ok.1 ok.2.1 hts hlk hfit, hts _ ok.2.2⟩ ⟨Pic.blind, Pic.at hB hZ hW hS⟩ rfl rfl hL.1 rfl (lv_room hst) d ⟨hbk, hbn⟩) hS (fun E ce q9 M' H1 locs1 hq hw hS1 hce hcv hcl => qthrow hH htab hlo (hthr E M' hq) hw hS1 hce hcv hcl hbk hbn) (fun v M' H1 locs1 hq hw hS1 => ?_)
  exact kk v M' hq p l e s m args below meth c H1 locs1 ls D B hc hB hZ hw hS1 hL

theorem r_callI0 {κ : Kp} {bc bs : Nat} {Q : Rs → Mem → Prop} {pc : Nat} {L : Ls} {st : List Value} {M : Mem} {k n : Nat} {κ' : Kp} {ix bc' bs' : Nat} {Q' : Rs → Mem → Prop} {o : Nat}  (ok : OkI κ' 0) (hfit : Fit κ κ') (hlk : Cond.methodLink (kY κ).cls ix (kY κ') ∈ lw_g) (hct : Ct κ' (.ref o :: []) M bc' bs' Q') (hst : (st.map fun v => v.category).sum ≤ 8) (hbk : k + bc' ≤ bc) (hbn : n + bs' ≤ bs) (hno : ∀ (E : String) (M' : Mem), ¬ Q' (.inr E) M') (d : Dc κ pc (.invokespecial ix) 3) (kk : ∀ (v : Option Value) (M' : Mem), Q' (.inl v) M' → J κ bc bs Q (pc + 3) L (v.toList ++ st) M' (k + bc') (n + bs')) : J κ bc bs Q (pc) L (.ref o :: st) M (k) (n) := by
  intro p l e s m args below meth c H locs ls D B hc hB hZ hW hS hL
  obtain ⟨hx, hb, hr, hml, hown, hts, hlo, htab, hfl, hnm⟩ := id hc
  refine qcall0 (va_runI (As := []) (rest := st) (b := o) ⟨hx, hb, hml, hown, hts⟩ (met_of (hct l D B hfl) (fun E _ _ h => by obtain ⟨M9, h9, -⟩ := h; exact hno E M9 h9)) ⟨(by have h9 := Ok.callB (bc := bc) (bs := bs) (bc' := bc') (bs' := bs') ok.1 ok.2.2.1 hts hlk hfit; rw [ok.2.1] at h9; exact h9), ok.2.2.2.2, hts _ ok.2.2.2.1⟩ ⟨Pic.blind, Pic.at hB hZ hW hS⟩ rfl rfl hL.1 rfl (lv_room hst) d ⟨hbk, hbn⟩) hS (fun v M' H1 locs1 hq hw hS1 => ?_)
  exact kk v M' hq p l e s m args below meth c H1 locs1 ls D B hc hB hZ hw hS1 hL

theorem r_callI1 {κ : Kp} {bc bs : Nat} {Q : Rs → Mem → Prop} {pc : Nat} {L : Ls} {st : List Value} {M : Mem} {k n : Nat} {κ' : Kp} {ix bc' bs' : Nat} {Q' : Rs → Mem → Prop} {o : Nat} {a1 : Value}  (ok : OkI κ' 1) (hfit : Fit κ κ') (hlk : Cond.methodLink (kY κ).cls ix (kY κ') ∈ lw_g) (hct : Ct κ' (.ref o :: [a1]) M bc' bs' Q') (hst : (st.map fun v => v.category).sum ≤ 8) (hbk : k + bc' ≤ bc) (hbn : n + bs' ≤ bs) (hno : ∀ (E : String) (M' : Mem), ¬ Q' (.inr E) M') (d : Dc κ pc (.invokespecial ix) 3) (kk : ∀ (v : Option Value) (M' : Mem), Q' (.inl v) M' → J κ bc bs Q (pc + 3) L (v.toList ++ st) M' (k + bc') (n + bs')) : J κ bc bs Q (pc) L (a1 :: .ref o :: st) M (k) (n) := by
  intro p l e s m args below meth c H locs ls D B hc hB hZ hW hS hL
  obtain ⟨hx, hb, hr, hml, hown, hts, hlo, htab, hfl, hnm⟩ := id hc
  refine qcall0 (va_runI (As := [a1]) (rest := st) (b := o) ⟨hx, hb, hml, hown, hts⟩ (met_of (hct l D B hfl) (fun E _ _ h => by obtain ⟨M9, h9, -⟩ := h; exact hno E M9 h9)) ⟨(by have h9 := Ok.callB (bc := bc) (bs := bs) (bc' := bc') (bs' := bs') ok.1 ok.2.2.1 hts hlk hfit; rw [ok.2.1] at h9; exact h9), ok.2.2.2.2, hts _ ok.2.2.2.1⟩ ⟨Pic.blind, Pic.at hB hZ hW hS⟩ rfl rfl hL.1 rfl (lv_room hst) d ⟨hbk, hbn⟩) hS (fun v M' H1 locs1 hq hw hS1 => ?_)
  exact kk v M' hq p l e s m args below meth c H1 locs1 ls D B hc hB hZ hw hS1 hL

theorem r_callN1 {κ : Kp} {bc bs : Nat} {Q : Rs → Mem → Prop} {pc : Nat} {L : Ls} {st : List Value} {M : Mem} {k n : Nat} {κ' : Kp} {ix bc' bs' : Nat} {Q' : Rs → Mem → Prop} {a1 : Value}  (ok : OkS κ' 1) (hfit : Fit κ κ') {host : String} (hlk : ∀ (B : Nat) (s : State), Zt B s → va_Nw (.methodLinkNest (kY κ).cls ix (kY κ') host) s) (hct : Ct κ' [a1] M bc' bs' Q') (hst : (st.map fun v => v.category).sum ≤ 8) (hbk : k + bc' ≤ bc) (hbn : n + bs' ≤ bs) (hno : ∀ (E : String) (M' : Mem), ¬ Q' (.inr E) M') (d : Dc κ pc (.invokestatic ix) 3) (kk : ∀ (v : Option Value) (M' : Mem), Q' (.inl v) M' → J κ bc bs Q (pc + 3) L (v.toList ++ st) M' (k + bc') (n + bs')) : J κ bc bs Q (pc) L (a1 :: st) M (k) (n) := by
  intro p l e s m args below meth c H locs ls D B hc hB hZ hW hS hL
  obtain ⟨hx, hb, hr, hml, hown, hts, hlo, htab, hfl, hnm⟩ := id hc
  refine qcall0 (va_runSN (As := [a1]) (rest := st) ⟨hx, hb, hml, hown, hts⟩ (met_of (hct l D B hfl) (fun E _ _ h => by obtain ⟨M9, h9, -⟩ := h; exact hno E M9 h9)) ⟨va_cnB 1 hts ok.2.1.in (by rw [← wc_code ok.1]) rfl rfl (hlk B s hZ) (hts _ ok.2.1.2.1) ok.2.1.2.2 hfit, hts _ ok.2.2, trivial⟩ ⟨Pic.blind, Pic.at hB hZ hW hS⟩ rfl rfl hL.1 rfl (lv_room hst) d ⟨hbk, hbn⟩) hS (fun v M' H1 locs1 hq hw hS1 => ?_)
  exact kk v M' hq p l e s m args below meth c H1 locs1 ls D B hc hB hZ hw hS1 hL

/-! a contract out of its body -/
def las : Nat → List Value → Ls
  | _, [] => []
  | i, v :: vs => if v.category = 2 then (i, some v) :: las (i + 2) vs else (i, some v) :: las (i + 1) vs
theorem las_mem : ∀ (vs : List Value) (i j : Nat) (v : Value), lk (las i vs) j = some v → (j, v) ∈ lv_args i vs
  | [], i, j, v, h => by simp [las, lk] at h
  | w :: vs, i, j, v, h => by
    unfold las at h
    unfold lv_args
    by_cases hw : w.category = 2
    · rw [if_pos hw] at h ⊢
      rw [lk_cons] at h
      by_cases e : j = i
      · rw [if_pos e] at h; cases h; rw [e]; exact List.mem_cons_self
      · rw [if_neg e] at h; exact List.mem_cons_of_mem _ (las_mem vs _ j v h)
    · rw [if_neg hw] at h ⊢
      rw [lk_cons] at h
      by_cases e : j = i
      · rw [if_pos e] at h; cases h; rw [e]; exact List.mem_cons_self
      · rw [if_neg e] at h; exact List.mem_cons_of_mem _ (las_mem vs _ j v h)
theorem Ct.of {κ : Kp} {bc bs : Nat} {Q : Rs → Mem → Prop} {M : Mem} (As : List Value) (hy : plainName (kY κ).cls = true) (hH : kH κ = []) (hlen : (lg_sl As).length ≤ kL κ) (hJ : J κ bc bs Q 0 (las 0 As) [] M 0 0) : Ct κ As M bc bs Q := by
  intro l D B hfl
  refine vx_ofW (cc := kC κ) (maxL := kL κ) (ret := kR κ) (ws' := lw_g) hy (by rw [← wc_code hH]) ?_
  intro p e s m args below meth c s₁ Bd hml ht hv
  obtain ⟨rfl, hB, hZ, hW⟩ := hv
  have hts9 := atoms_spec (ws := wsOf κ) Bd.pre
  have hl := lv_entry As (n := kL κ) hlen
  rw [lg_entry_eq]
  refine hJ p l e s m As.toArray below meth c s.heap [] _ D B ⟨Bd.exec, Bd.bytes, Bd.returns, hml, findClass_of_methodNamed Bd.named, fun w h => hts9 w (List.mem_cons_of_mem _ h), Bd.notSynchronized, ?_, hfl, (name_of_methodNamed Bd.named Bd.method).1⟩ hB hZ hW va_S.rf ⟨hl.1, hl.2.1, fun i v h => hl.2.2 (i, v) (las_mem As 0 i v h)⟩
  rw [hH]
  cases h9 : c.exceptionTable.toList with
  | nil => rfl
  | cons x xs => exact (ht x (by rw [h9]; exact List.mem_cons_self)).elim
theorem Ct.ofH {κ : Kp} {bc bs : Nat} {Q : Rs → Mem → Prop} {M : Mem} (As : List Value) (hy : plainName (kY κ).cls = true) (hH : (kH κ).isEmpty = false) (hlen : (lg_sl As).length ≤ kL κ) (hJ : J κ bc bs Q 0 (las 0 As) [] M 0 0) : Ct κ As M bc bs Q := by
  intro l D B hfl
  refine vx_ofWH (cc := kC κ) (maxL := kL κ) (ret := kR κ) (hh := kH κ) (ws' := lw_g) hy (by rw [← wc_with hH]) ?_
  intro p e s m args below meth c s₁ Bd hml hv
  obtain ⟨rfl, hB, hZ, hW⟩ := hv
  have hts9 := atoms_spec (ws := wsOf κ) Bd.pre
  have hl := lv_entry As (n := kL κ) hlen
  rw [lg_entry_eq]
  have hcw := hts9 _ List.mem_cons_self
  rw [wc_with hH] at hcw
  exact hJ p l e s m As.toArray below meth c s.heap [] _ D B ⟨Bd.exec, Bd.bytes, Bd.returns, hml, findClass_of_methodNamed Bd.named, fun w h => hts9 w (List.mem_cons_of_mem _ h), Bd.notSynchronized, vx_table (x := kY κ) Bd hcw, hfl, (name_of_methodNamed Bd.named Bd.method).1⟩ hB hZ hW va_S.rf ⟨hl.1, hl.2.1, fun i v h => hl.2.2 (i, v) (las_mem As 0 i v h)⟩
/-! ways to read J and Ct -/
theorem J.loc {κ : Kp} {bc bs : Nat} {Q : Rs → Mem → Prop} {pc : Nat} {L L' : Ls} {st : List Value} {M : Mem} {k n : Nat} (h : ∀ (i : Nat) (v : Value), lk L' i = some v → lk L i = some v) (j : J κ bc bs Q pc L' st M k n) : J κ bc bs Q pc L st M k n :=
  fun p l e s m args below meth c H locs ls D B hc hB hZ hW hS hL => j p l e s m args below meth c H locs ls D B hc hB hZ hW hS ⟨hL.1, hL.2.1, fun i v hi => hL.2.2 i v (h i v hi)⟩
theorem J.mem {κ : Kp} {bc bs : Nat} {Q : Rs → Mem → Prop} {pc : Nat} {L : Ls} {st : List Value} {M M' : Mem} {k n : Nat} (h : ∀ (a : Nat) (x : AC), M' a = some x → M a = some x) (j : J κ bc bs Q pc L st M' k n) : J κ bc bs Q pc L st M k n :=
  fun p l e s m args below meth c H locs ls D B hc hB hZ hW hS hL => j p l e s m args below meth c H locs ls D B hc hB hZ (hW.less h) hS hL
theorem J.wide {κ : Kp} {bc bs : Nat} {Q : Rs → Mem → Prop} {pc : Nat} {L : Ls} {st : List Value} {M : Mem} {k n k' n' : Nat} (hk : k ≤ k') (hn : n ≤ n') (j : J κ bc bs Q pc L st M k' n') : J κ bc bs Q pc L st M k n :=
  fun p l e s m args below meth c H locs ls D B hc hB hZ hW hS hL => W.widen hk hn (j p l e s m args below meth c H locs ls D B hc hB hZ hW hS hL)
def lsub (L' L : Ls) : Prop := ∀ (i : Nat) (v : Value), lk L' i = some v → lk L i = some v
theorem lsub_nil {L : Ls} : lsub [] L := fun i v h => by simp [lk] at h
theorem lsub_cons {L' L : Ls} {i : Nat} {v : Value} (h : lk L i = some v) (t : lsub L' L) : lsub ((i, some v) :: L') L := fun j w hj => by
  rw [lk_cons] at hj
  by_cases e : j = i
  · rw [if_pos e] at hj; cases hj; rw [e]; exact h
  · rw [if_neg e] at hj; exact t j w hj

