/-! calls whose exceptions are caught here, and calls of what catches them -/
/-- what is thrown at pc is caught at h -/
def Cat (κ : Kp) (pc : Nat) (E : String) (h : Nat) : Prop := ∃ (pre suf : List (Nat × Nat × Nat × Nat)) (sc ec ct : Nat) (nm : String), kH κ = pre ++ (sc, ec, h, ct) :: suf ∧ (∀ z ∈ pre, z.2.2.2 ≠ 0 ∧ ∃ nm2 : String, Cond.classLink (kY κ).cls z.2.2.2 nm2 ∈ lw_g ∧ ∀ (B : Nat) (s : State), Zt B s → va_Nc E nm2 s) ∧
  covers ⟨sc, ec, h, ct⟩ pc = true ∧ ct ≠ 0 ∧ Cond.classLink (kY κ).cls ct nm ∈ lw_g ∧ ∀ (B : Nat) (s : State), Zt B s → va_Nw (.castable E nm) s
theorem Cat.w {κ : Kp} {p : Program} {l : Launch} {e : Env} {R : Room} {s : State} {m : MethodId} {args : Array Value} {below : List Frame} {meth : Method} {c : Code} {H : Heap} {locs : List Loc} {k n pc h B : Nat} {ls : Array Slot} {rest : List Value} {E : String} {ce : Cell} {q : Addr} {Q : State → Prop}
    (hc : Cat κ pc E h) (hts : ∀ w ∈ lw_g, w.before args s = true) (htab : c.exceptionTable.toList = tableOf (kH κ)) (hown : s.vm.findClass (kY κ).cls = some m.cls) (hZ : Zt B s) (hce : H[q]? = some ce) (hcv : ce.vm = .none) (hcl : s.vm.findClass E = some ce.cls)
    (kk : W p l e R s m args below meth c H locs k n Q (F0 m h ls [.ref q])) : vx_W p l e R s m args below meth c H locs k n Q (F0 m pc ls rest) q := by
  obtain ⟨pre, suf, sc, ec, ct, nm, h1, h2, h3, h4, h5, h6⟩ := hc
  refine vx_catch (own := (kY κ).cls) (name := nm) (E := E) hown (tableOf pre) ⟨sc, ec, h, ct⟩ (tableOf suf) (by rw [htab, h1]; simp [tableOf]) (fun z hz => ?_) h3 h4 (hts _ h5) (h6 B s hZ) hce hcv hcl kk
  obtain ⟨y, hy, rfl⟩ := List.mem_map.mp hz
  obtain ⟨a, nm2, b, d⟩ := h2 y hy
  exact Or.inr ⟨a, nm2, hts _ b, d B s hZ⟩
theorem Ok.callW {κ κ' : Kp} {n bc bs bc' bs' ix : Nat} {s : State} {args : Array Value} (h : OkH κ' n) (hts : ∀ w ∈ lw_g, w.before args s = true) (hlk : Cond.methodLink (kY κ).cls ix (kY κ') ∈ lw_g) (hfit : Fit κ κ') : vx_CSW (rmOf κ bc bs) s args (kY κ).cls ix (kY κ') (kC κ') (kL κ') (kR κ') (kH κ') (wsOf κ') (rmOf κ' bc' bs') bc' bs' n := by
  obtain ⟨h1, h2, h3⟩ := h
  refine vx_cwSW (Ts := lw_g) (ws' := lw_g) n hts ?_ (by rw [← wc_with h1]) rfl rfl h2.2.2 hfit
  intro w hw
  unfold va_wsS at hw
  have hi := h2.in
  have h8 := lw_gg _ h2.2.1
  have h9 := lw_gg _ hlk
  have h10 := lw_gg _ h3
  rcases List.mem_append.mp hw with hw | hw
  · simp only [List.mem_cons, List.not_mem_nil, or_false] at hw
    rcases hw with rfl | rfl | rfl <;> assumption
  · exact hi w hw


theorem r_catchV0 {κ : Kp} {bc bs : Nat} {Q : Rs → Mem → Prop} {pc : Nat} {L : Ls} {st : List Value} {M : Mem} {k n : Nat} {κ' : Kp} {ix bc' bs' : Nat} {Q' : Rs → Mem → Prop} {o : Nat}  (ok : OkV κ' 0) (hfit : Fit κ κ') (hlk : Cond.methodLink (kY κ).cls ix (kY κ') ∈ lw_g) (hct : Ct κ' (.ref o :: []) M bc' bs' Q') {ci : Nat} {fs : List Value} {r : vw_C} (hM : M o = some (oC ci fs)) (hci : vwCl[ci]? = some r) (hcls : r.1 = (kY κ').cls) (hst : (st.map fun v => v.category).sum ≤ 8) (hbk : k + bc' ≤ bc) (hbn : n + bs' ≤ bs) (d : Dc κ pc (.invokevirtual ix) 3) (kx : ∀ (E : String) (M' : Mem), Q' (.inr E) M' → ∃ h : Nat, Cat κ pc E h ∧ ∀ q : Nat, J κ bc bs Q h L [.ref q] M' (k + bc') (n + bs')) (kk : ∀ (v : Option Value) (M' : Mem), Q' (.inl v) M' → J κ bc bs Q (pc + 3) L (v.toList ++ st) M' (k + bc') (n + bs')) : J κ bc bs Q (pc) L (.ref o :: st) M (k) (n) := by
  intro p l e s m args below meth c H locs ls D B hc hB hZ hW hS hL
  obtain ⟨hx, hb, hr, hml, hown, hts, hlo, htab, hfl, hnm⟩ := id hc
  refine qcall (vx_runV (As := []) (rest := st) ⟨hx, hb, hml, hown, hts⟩ (hct l D B hfl) ⟨Ok.callB ok.1 ok.2.1 hts hlk hfit, hts _ ok.2.2.1, hts _ ok.2.2.2⟩ ⟨Pic.blind, (by
    obtain ⟨ws, tys, hP, hK, hD, hR⟩ := id hW
    obtain ⟨q0, hq⟩ := hR o _ hM
    rw [← hcls]
    exact va_recv hK hP hci hq), Pic.at hB hZ hW hS⟩ rfl rfl hL.1 rfl (lv_room hst) d ⟨hbk, hbn⟩) hS (fun E ce q9 M' H1 locs1 hq hw hS1 hce hcv hcl => by
    obtain ⟨h, hcat, hj⟩ := kx E M' hq
    exact hcat.w hts htab hown hZ hce hcv hcl (hj q9 p l e s m args below meth c H1 locs1 ls D B hc hB hZ hw hS1 hL)) (fun v M' H1 locs1 hq hw hS1 => ?_)
  exact kk v M' hq p l e s m args below meth c H1 locs1 ls D B hc hB hZ hw hS1 hL

theorem r_catchV1 {κ : Kp} {bc bs : Nat} {Q : Rs → Mem → Prop} {pc : Nat} {L : Ls} {st : List Value} {M : Mem} {k n : Nat} {κ' : Kp} {ix bc' bs' : Nat} {Q' : Rs → Mem → Prop} {o : Nat} {a1 : Value}  (ok : OkV κ' 1) (hfit : Fit κ κ') (hlk : Cond.methodLink (kY κ).cls ix (kY κ') ∈ lw_g) (hct : Ct κ' (.ref o :: [a1]) M bc' bs' Q') {ci : Nat} {fs : List Value} {r : vw_C} (hM : M o = some (oC ci fs)) (hci : vwCl[ci]? = some r) (hcls : r.1 = (kY κ').cls) (hst : (st.map fun v => v.category).sum ≤ 8) (hbk : k + bc' ≤ bc) (hbn : n + bs' ≤ bs) (d : Dc κ pc (.invokevirtual ix) 3) (kx : ∀ (E : String) (M' : Mem), Q' (.inr E) M' → ∃ h : Nat, Cat κ pc E h ∧ ∀ q : Nat, J κ bc bs Q h L [.ref q] M' (k + bc') (n + bs')) (kk : ∀ (v : Option Value) (M' : Mem), Q' (.inl v) M' → J κ bc bs Q (pc + 3) L (v.toList ++ st) M' (k + bc') (n + bs')) : J κ bc bs Q (pc) L (a1 :: .ref o :: st) M (k) (n) := by
  intro p l e s m args below meth c H locs ls D B hc hB hZ hW hS hL
  obtain ⟨hx, hb, hr, hml, hown, hts, hlo, htab, hfl, hnm⟩ := id hc
  refine qcall (vx_runV (As := [a1]) (rest := st) ⟨hx, hb, hml, hown, hts⟩ (hct l D B hfl) ⟨Ok.callB ok.1 ok.2.1 hts hlk hfit, hts _ ok.2.2.1, hts _ ok.2.2.2⟩ ⟨Pic.blind, (by
    obtain ⟨ws, tys, hP, hK, hD, hR⟩ := id hW
    obtain ⟨q0, hq⟩ := hR o _ hM
    rw [← hcls]
    exact va_recv hK hP hci hq), Pic.at hB hZ hW hS⟩ rfl rfl hL.1 rfl (lv_room hst) d ⟨hbk, hbn⟩) hS (fun E ce q9 M' H1 locs1 hq hw hS1 hce hcv hcl => by
    obtain ⟨h, hcat, hj⟩ := kx E M' hq
    exact hcat.w hts htab hown hZ hce hcv hcl (hj q9 p l e s m args below meth c H1 locs1 ls D B hc hB hZ hw hS1 hL)) (fun v M' H1 locs1 hq hw hS1 => ?_)
  exact kk v M' hq p l e s m args below meth c H1 locs1 ls D B hc hB hZ hw hS1 hL

theorem r_catchV2 {κ : Kp} {bc bs : Nat} {Q : Rs → Mem → Prop} {pc : Nat} {L : Ls} {st : List Value} {M : Mem} {k n : Nat} {κ' : Kp} {ix bc' bs' : Nat} {Q' : Rs → Mem → Prop} {o : Nat} {a1 a2 : Value}  (ok : OkV κ' 2) (hfit : Fit κ κ') (hlk : Cond.methodLink (kY κ).cls ix (kY κ') ∈ lw_g) (hct : Ct κ' (.ref o :: [a1, a2]) M bc' bs' Q') {ci : Nat} {fs : List Value} {r : vw_C} (hM : M o = some (oC ci fs)) (hci : vwCl[ci]? = some r) (hcls : r.1 = (kY κ').cls) (hst : (st.map fun v => v.category).sum ≤ 8) (hbk : k + bc' ≤ bc) (hbn : n + bs' ≤ bs) (d : Dc κ pc (.invokevirtual ix) 3) (kx : ∀ (E : String) (M' : Mem), Q' (.inr E) M' → ∃ h : Nat, Cat κ pc E h ∧ ∀ q : Nat, J κ bc bs Q h L [.ref q] M' (k + bc') (n + bs')) (kk : ∀ (v : Option Value) (M' : Mem), Q' (.inl v) M' → J κ bc bs Q (pc + 3) L (v.toList ++ st) M' (k + bc') (n + bs')) : J κ bc bs Q (pc) L (a2 :: a1 :: .ref o :: st) M (k) (n) := by
  intro p l e s m args below meth c H locs ls D B hc hB hZ hW hS hL
  obtain ⟨hx, hb, hr, hml, hown, hts, hlo, htab, hfl, hnm⟩ := id hc
  refine qcall (vx_runV (As := [a1, a2]) (rest := st) ⟨hx, hb, hml, hown, hts⟩ (hct l D B hfl) ⟨Ok.callB ok.1 ok.2.1 hts hlk hfit, hts _ ok.2.2.1, hts _ ok.2.2.2⟩ ⟨Pic.blind, (by
    obtain ⟨ws, tys, hP, hK, hD, hR⟩ := id hW
    obtain ⟨q0, hq⟩ := hR o _ hM
    rw [← hcls]
    exact va_recv hK hP hci hq), Pic.at hB hZ hW hS⟩ rfl rfl hL.1 rfl (lv_room hst) d ⟨hbk, hbn⟩) hS (fun E ce q9 M' H1 locs1 hq hw hS1 hce hcv hcl => by
    obtain ⟨h, hcat, hj⟩ := kx E M' hq
    exact hcat.w hts htab hown hZ hce hcv hcl (hj q9 p l e s m args below meth c H1 locs1 ls D B hc hB hZ hw hS1 hL)) (fun v M' H1 locs1 hq hw hS1 => ?_)
  exact kk v M' hq p l e s m args below meth c H1 locs1 ls D B hc hB hZ hw hS1 hL

theorem r_catchV3 {κ : Kp} {bc bs : Nat} {Q : Rs → Mem → Prop} {pc : Nat} {L : Ls} {st : List Value} {M : Mem} {k n : Nat} {κ' : Kp} {ix bc' bs' : Nat} {Q' : Rs → Mem → Prop} {o : Nat} {a1 a2 a3 : Value}  (ok : OkV κ' 3) (hfit : Fit κ κ') (hlk : Cond.methodLink (kY κ).cls ix (kY κ') ∈ lw_g) (hct : Ct κ' (.ref o :: [a1, a2, a3]) M bc' bs' Q') {ci : Nat} {fs : List Value} {r : vw_C} (hM : M o = some (oC ci fs)) (hci : vwCl[ci]? = some r) (hcls : r.1 = (kY κ').cls) (hst : (st.map fun v => v.category).sum ≤ 8) (hbk : k + bc' ≤ bc) (hbn : n + bs' ≤ bs) (d : Dc κ pc (.invokevirtual ix) 3) (kx : ∀ (E : String) (M' : Mem), Q' (.inr E) M' → ∃ h : Nat, Cat κ pc E h ∧ ∀ q : Nat, J κ bc bs Q h L [.ref q] M' (k + bc') (n + bs')) (kk : ∀ (v : Option Value) (M' : Mem), Q' (.inl v) M' → J κ bc bs Q (pc + 3) L (v.toList ++ st) M' (k + bc') (n + bs')) : J κ bc bs Q (pc) L (a3 :: a2 :: a1 :: .ref o :: st) M (k) (n) := by
  intro p l e s m args below meth c H locs ls D B hc hB hZ hW hS hL
  obtain ⟨hx, hb, hr, hml, hown, hts, hlo, htab, hfl, hnm⟩ := id hc
  refine qcall (vx_runV (As := [a1, a2, a3]) (rest := st) ⟨hx, hb, hml, hown, hts⟩ (hct l D B hfl) ⟨Ok.callB ok.1 ok.2.1 hts hlk hfit, hts _ ok.2.2.1, hts _ ok.2.2.2⟩ ⟨Pic.blind, (by
    obtain ⟨ws, tys, hP, hK, hD, hR⟩ := id hW
    obtain ⟨q0, hq⟩ := hR o _ hM
    rw [← hcls]
    exact va_recv hK hP hci hq), Pic.at hB hZ hW hS⟩ rfl rfl hL.1 rfl (lv_room hst) d ⟨hbk, hbn⟩) hS (fun E ce q9 M' H1 locs1 hq hw hS1 hce hcv hcl => by
    obtain ⟨h, hcat, hj⟩ := kx E M' hq
    exact hcat.w hts htab hown hZ hce hcv hcl (hj q9 p l e s m args below meth c H1 locs1 ls D B hc hB hZ hw hS1 hL)) (fun v M' H1 locs1 hq hw hS1 => ?_)
  exact kk v M' hq p l e s m args below meth c H1 locs1 ls D B hc hB hZ hw hS1 hL

theorem r_catchV4 {κ : Kp} {bc bs : Nat} {Q : Rs → Mem → Prop} {pc : Nat} {L : Ls} {st : List Value} {M : Mem} {k n : Nat} {κ' : Kp} {ix bc' bs' : Nat} {Q' : Rs → Mem → Prop} {o : Nat} {a1 a2 a3 a4 : Value}  (ok : OkV κ' 4) (hfit : Fit κ κ') (hlk : Cond.methodLink (kY κ).cls ix (kY κ') ∈ lw_g) (hct : Ct κ' (.ref o :: [a1, a2, a3, a4]) M bc' bs' Q') {ci : Nat} {fs : List Value} {r : vw_C} (hM : M o = some (oC ci fs)) (hci : vwCl[ci]? = some r) (hcls : r.1 = (kY κ').cls) (hst : (st.map fun v => v.category).sum ≤ 8) (hbk : k + bc' ≤ bc) (hbn : n + bs' ≤ bs) (d : Dc κ pc (.invokevirtual ix) 3) (kx : ∀ (E : String) (M' : Mem), Q' (.inr E) M' → ∃ h : Nat, Cat κ pc E h ∧ ∀ q : Nat, J κ bc bs Q h L [.ref q] M' (k + bc') (n + bs')) (kk : ∀ (v : Option Value) (M' : Mem), Q' (.inl v) M' → J κ bc bs Q (pc + 3) L (v.toList ++ st) M' (k + bc') (n + bs')) : J κ bc bs Q (pc) L (a4 :: a3 :: a2 :: a1 :: .ref o :: st) M (k) (n) := by
  intro p l e s m args below meth c H locs ls D B hc hB hZ hW hS hL
  obtain ⟨hx, hb, hr, hml, hown, hts, hlo, htab, hfl, hnm⟩ := id hc
  refine qcall (vx_runV (As := [a1, a2, a3, a4]) (rest := st) ⟨hx, hb, hml, hown, hts⟩ (hct l D B hfl) ⟨Ok.callB ok.1 ok.2.1 hts hlk hfit, hts _ ok.2.2.1, hts _ ok.2.2.2⟩ ⟨Pic.blind, (by
    obtain ⟨ws, tys, hP, hK, hD, hR⟩ := id hW
    obtain ⟨q0, hq⟩ := hR o _ hM
    rw [← hcls]
    exact va_recv hK hP hci hq), Pic.at hB hZ hW hS⟩ rfl rfl hL.1 rfl (lv_room hst) d ⟨hbk, hbn⟩) hS (fun E ce q9 M' H1 locs1 hq hw hS1 hce hcv hcl => by
    obtain ⟨h, hcat, hj⟩ := kx E M' hq
    exact hcat.w hts htab hown hZ hce hcv hcl (hj q9 p l e s m args below meth c H1 locs1 ls D B hc hB hZ hw hS1 hL)) (fun v M' H1 locs1 hq hw hS1 => ?_)
  exact kk v M' hq p l e s m args below meth c H1 locs1 ls D B hc hB hZ hw hS1 hL

theorem r_callT2 {κ : Kp} {bc bs : Nat} {Q : Rs → Mem → Prop} {pc : Nat} {L : Ls} {st : List Value} {M : Mem} {k n : Nat} {κ' : Kp} {ix bc' bs' : Nat} {Q' : Rs → Mem → Prop} {a1 a2 : Value}  (ok : OkH κ' 2) (hfit : Fit κ κ') (hlk : Cond.methodLink (kY κ).cls ix (kY κ') ∈ lw_g) (hct : Ct κ' [a1, a2] M bc' bs' Q') (hst : (st.map fun v => v.category).sum ≤ 8) (hbk : k + bc' ≤ bc) (hbn : n + bs' ≤ bs) (hH : kH κ = []) (d : Dc κ pc (.invokestatic ix) 3) (hthr : ∀ (E : String) (M' : Mem), Q' (.inr E) M' → Q (.inr E) M') (kk : ∀ (v : Option Value) (M' : Mem), Q' (.inl v) M' → J κ bc bs Q (pc + 3) L (v.toList ++ st) M' (k + bc') (n + bs')) : J κ bc bs Q (pc) L (a2 :: a1 :: st) M (k) (n) := by
  intro p l e s m args below meth c H locs ls D B hc hB hZ hW hS hL
  obtain ⟨hx, hb, hr, hml, hown, hts, hlo, htab, hfl, hnm⟩ := id hc
  refine qcall (vx_runSX (As := [a1, a2]) (rest := st) ⟨hx, hb, hml, hown, hts⟩ (hct l D B hfl) (Ok.callW ok hts hlk hfit) ⟨Pic.blind, Pic.at hB hZ hW hS⟩ rfl rfl hL.1 rfl (lv_room hst) d ⟨hbk, hbn⟩) hS (fun E ce q9 M' H1 locs1 hq hw hS1 hce hcv hcl => qthrow hH htab hlo (hthr E M' hq) hw hS1 hce hcv hcl hbk hbn) (fun v M' H1 locs1 hq hw hS1 => ?_)
  exact kk v M' hq p l e s m args below meth c H1 locs1 ls D B hc hB hZ hw hS1 hL

theorem r_callT3 {κ : Kp} {bc bs : Nat} {Q : Rs → Mem → Prop} {pc : Nat} {L : Ls} {st : List Value} {M : Mem} {k n : Nat} {κ' : Kp} {ix bc' bs' : Nat} {Q' : Rs → Mem → Prop} {a1 a2 a3 : Value}  (ok : OkH κ' 3) (hfit : Fit κ κ') (hlk : Cond.methodLink (kY κ).cls ix (kY κ') ∈ lw_g) (hct : Ct κ' [a1, a2, a3] M bc' bs' Q') (hst : (st.map fun v => v.category).sum ≤ 8) (hbk : k + bc' ≤ bc) (hbn : n + bs' ≤ bs) (hH : kH κ = []) (d : Dc κ pc (.invokestatic ix) 3) (hthr : ∀ (E : String) (M' : Mem), Q' (.inr E) M' → Q (.inr E) M') (kk : ∀ (v : Option Value) (M' : Mem), Q' (.inl v) M' → J κ bc bs Q (pc + 3) L (v.toList ++ st) M' (k + bc') (n + bs')) : J κ bc bs Q (pc) L (a3 :: a2 :: a1 :: st) M (k) (n) := by
  intro p l e s m args below meth c H locs ls D B hc hB hZ hW hS hL
  obtain ⟨hx, hb, hr, hml, hown, hts, hlo, htab, hfl, hnm⟩ := id hc
  refine qcall (vx_runSX (As := [a1, a2, a3]) (rest := st) ⟨hx, hb, hml, hown, hts⟩ (hct l D B hfl) (Ok.callW ok hts hlk hfit) ⟨Pic.blind, Pic.at hB hZ hW hS⟩ rfl rfl hL.1 rfl (lv_room hst) d ⟨hbk, hbn⟩) hS (fun E ce q9 M' H1 locs1 hq hw hS1 hce hcv hcl => qthrow hH htab hlo (hthr E M' hq) hw hS1 hce hcv hcl hbk hbn) (fun v M' H1 locs1 hq hw hS1 => ?_)
  exact kk v M' hq p l e s m args below meth c H1 locs1 ls D B hc hB hZ hw hS1 hL

theorem r_callT4 {κ : Kp} {bc bs : Nat} {Q : Rs → Mem → Prop} {pc : Nat} {L : Ls} {st : List Value} {M : Mem} {k n : Nat} {κ' : Kp} {ix bc' bs' : Nat} {Q' : Rs → Mem → Prop} {a1 a2 a3 a4 : Value}  (ok : OkH κ' 4) (hfit : Fit κ κ') (hlk : Cond.methodLink (kY κ).cls ix (kY κ') ∈ lw_g) (hct : Ct κ' [a1, a2, a3, a4] M bc' bs' Q') (hst : (st.map fun v => v.category).sum ≤ 8) (hbk : k + bc' ≤ bc) (hbn : n + bs' ≤ bs) (hH : kH κ = []) (d : Dc κ pc (.invokestatic ix) 3) (hthr : ∀ (E : String) (M' : Mem), Q' (.inr E) M' → Q (.inr E) M') (kk : ∀ (v : Option Value) (M' : Mem), Q' (.inl v) M' → J κ bc bs Q (pc + 3) L (v.toList ++ st) M' (k + bc') (n + bs')) : J κ bc bs Q (pc) L (a4 :: a3 :: a2 :: a1 :: st) M (k) (n) := by
  intro p l e s m args below meth c H locs ls D B hc hB hZ hW hS hL
  obtain ⟨hx, hb, hr, hml, hown, hts, hlo, htab, hfl, hnm⟩ := id hc
  refine qcall (vx_runSX (As := [a1, a2, a3, a4]) (rest := st) ⟨hx, hb, hml, hown, hts⟩ (hct l D B hfl) (Ok.callW ok hts hlk hfit) ⟨Pic.blind, Pic.at hB hZ hW hS⟩ rfl rfl hL.1 rfl (lv_room hst) d ⟨hbk, hbn⟩) hS (fun E ce q9 M' H1 locs1 hq hw hS1 hce hcv hcl => qthrow hH htab hlo (hthr E M' hq) hw hS1 hce hcv hcl hbk hbn) (fun v M' H1 locs1 hq hw hS1 => ?_)
  exact kk v M' hq p l e s m args below meth c H1 locs1 ls D B hc hB hZ hw hS1 hL

theorem r_callT5 {κ : Kp} {bc bs : Nat} {Q : Rs → Mem → Prop} {pc : Nat} {L : Ls} {st : List Value} {M : Mem} {k n : Nat} {κ' : Kp} {ix bc' bs' : Nat} {Q' : Rs → Mem → Prop} {a1 a2 a3 a4 a5 : Value}  (ok : OkH κ' 5) (hfit : Fit κ κ') (hlk : Cond.methodLink (kY κ).cls ix (kY κ') ∈ lw_g) (hct : Ct κ' [a1, a2, a3, a4, a5] M bc' bs' Q') (hst : (st.map fun v => v.category).sum ≤ 8) (hbk : k + bc' ≤ bc) (hbn : n + bs' ≤ bs) (hH : kH κ = []) (d : Dc κ pc (.invokestatic ix) 3) (hthr : ∀ (E : String) (M' : Mem), Q' (.inr E) M' → Q (.inr E) M') (kk : ∀ (v : Option Value) (M' : Mem), Q' (.inl v) M' → J κ bc bs Q (pc + 3) L (v.toList ++ st) M' (k + bc') (n + bs')) : J κ bc bs Q (pc) L (a5 :: a4 :: a3 :: a2 :: a1 :: st) M (k) (n) := by
  intro p l e s m args below meth c H locs ls D B hc hB hZ hW hS hL
  obtain ⟨hx, hb, hr, hml, hown, hts, hlo, htab, hfl, hnm⟩ := id hc
  refine qcall (vx_runSX (As := [a1, a2, a3, a4, a5]) (rest := st) ⟨hx, hb, hml, hown, hts⟩ (hct l D B hfl) (Ok.callW ok hts hlk hfit) ⟨Pic.blind, Pic.at hB hZ hW hS⟩ rfl rfl hL.1 rfl (lv_room hst) d ⟨hbk, hbn⟩) hS (fun E ce q9 M' H1 locs1 hq hw hS1 hce hcv hcl => qthrow hH htab hlo (hthr E M' hq) hw hS1 hce hcv hcl hbk hbn) (fun v M' H1 locs1 hq hw hS1 => ?_)
  exact kk v M' hq p l e s m args below meth c H1 locs1 ls D B hc hB hZ hw hS1 hL

theorem r_callT6 {κ : Kp} {bc bs : Nat} {Q : Rs → Mem → Prop} {pc : Nat} {L : Ls} {st : List Value} {M : Mem} {k n : Nat} {κ' : Kp} {ix bc' bs' : Nat} {Q' : Rs → Mem → Prop} {a1 a2 a3 a4 a5 a6 : Value}  (ok : OkH κ' 6) (hfit : Fit κ κ') (hlk : Cond.methodLink (kY κ).cls ix (kY κ') ∈ lw_g) (hct : Ct κ' [a1, a2, a3, a4, a5, a6] M bc' bs' Q') (hst : (st.map fun v => v.category).sum ≤ 8) (hbk : k + bc' ≤ bc) (hbn : n + bs' ≤ bs) (hH : kH κ = []) (d : Dc κ pc (.invokestatic ix) 3) (hthr : ∀ (E : String) (M' : Mem), Q' (.inr E) M' → Q (.inr E) M') (kk : ∀ (v : Option Value) (M' : Mem), Q' (.inl v) M' → J κ bc bs Q (pc + 3) L (v.toList ++ st) M' (k + bc') (n + bs')) : J κ bc bs Q (pc) L (a6 :: a5 :: a4 :: a3 :: a2 :: a1 :: st) M (k) (n) := by
  intro p l e s m args below meth c H locs ls D B hc hB hZ hW hS hL
  obtain ⟨hx, hb, hr, hml, hown, hts, hlo, htab, hfl, hnm⟩ := id hc
  refine qcall (vx_runSX (As := [a1, a2, a3, a4, a5, a6]) (rest := st) ⟨hx, hb, hml, hown, hts⟩ (hct l D B hfl) (Ok.callW ok hts hlk hfit) ⟨Pic.blind, Pic.at hB hZ hW hS⟩ rfl rfl hL.1 rfl (lv_room hst) d ⟨hbk, hbn⟩) hS (fun E ce q9 M' H1 locs1 hq hw hS1 hce hcv hcl => qthrow hH htab hlo (hthr E M' hq) hw hS1 hce hcv hcl hbk hbn) (fun v M' H1 locs1 hq hw hS1 => ?_)
  exact kk v M' hq p l e s m args below meth c H1 locs1 ls D B hc hB hZ hw hS1 hL
