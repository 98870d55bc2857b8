/-! J: a method's frame over an abstract memory (addresses to objects and arrays, ints as integers); every row is one of the kit's rows -/
def iN (z : Int) : Int32 := Int32.ofInt z
def vI (z : Int) : Value := .int (iN z)
abbrev R32 (z : Int) : Prop := -2147483648 ≤ z ∧ z ≤ 2147483647
theorem iN_toInt {z : Int} (h : R32 z) : (iN z).toInt = z := by
  unfold iN
  rw [Int32.toInt_ofInt]
  show z.bmod (2 ^ 32) = z
  rw [Int.bmod_eq_of_le (by omega) (by omega)]
theorem iN_of (x : Int32) : x = iN x.toInt := (Int32.ofInt_toInt x).symm
theorem r32_of (x : Int32) : R32 x.toInt := by
  have h1 := Int32.le_toInt x
  have h2 := Int32.toInt_lt x
  constructor <;> omega
theorem iN_add (x y : Int) : iN x + iN y = iN (x + y) := (Int32.ofInt_add x y).symm
theorem iN_sub (x y : Int) : iN x - iN y = iN (x - y) := (Int32.ofInt_sub x y).symm
theorem iN_mul (x y : Int) : iN x * iN y = iN (x * y) := (Int32.ofInt_mul x y).symm
theorem iN_lt {x y : Int} (hx : R32 x) (hy : R32 y) : iN x < iN y ↔ x < y := by rw [Int32.lt_iff_toInt_lt, iN_toInt hx, iN_toInt hy]
theorem iN_le {x y : Int} (hx : R32 x) (hy : R32 y) : iN x ≤ iN y ↔ x ≤ y := by rw [Int32.le_iff_toInt_le, iN_toInt hx, iN_toInt hy]
theorem iN_eq {x y : Int} (hx : R32 x) (hy : R32 y) : iN x = iN y ↔ x = y := by rw [← Int32.toInt_inj, iN_toInt hx, iN_toInt hy]
theorem iN_0 : iN 0 = 0 := rfl
theorem iN_clamp {z : Int} (h : R32 z) : (iN z).toNatClampNeg = z.toNat := by
  have h1 := iN_toInt h
  show (iN z).toInt.toNat = z.toNat
  rw [h1]
theorem iN_in {z : Int} {n : Nat} (h0 : 0 ≤ z) (h1 : z < n) (h2 : R32 z) : vp_in (iN z) n := by
  refine vp_in_iff.mpr ?_
  rw [iN_toInt h2]
  exact ⟨h0, h1⟩
/-- abstract contents: an object, an int array, a long array, an array of references, the script -/
abbrev AC : Type := (Nat × List Value) ⊕ ((Nat × (Int → Int)) ⊕ ((Nat × (Int → Int64)) ⊕ ((Nat × (Nat × (Int → Option Nat))) ⊕ (Nat × (Int → Int)))))
def oC (ci : Nat) (fs : List Value) : AC := .inl (ci, fs)
def aI (n : Nat) (f : Int → Int) : AC := .inr (.inl (n, f))
def aL (n : Nat) (f : Int → Int64) : AC := .inr (.inr (.inl (n, f)))
def aR (ci n : Nat) (f : Int → Option Nat) : AC := .inr (.inr (.inr (.inl (ci, n, f))))
def aS (n : Nat) (f : Int → Int) : AC := .inr (.inr (.inr (.inr (n, f))))
abbrev Mem : Type := Nat → Option AC
def up (M : Mem) (a : Nat) (x : AC) : Mem := fun b => if b = a then some x else M b
def uI {α : Type} (f : Int → α) (i : Int) (x : α) : Int → α := fun j => if j = i then x else f j
theorem up_s (M : Mem) (a : Nat) (x : AC) : up M a x a = some x := by simp [up]
theorem up_n {M : Mem} {a b : Nat} (x : AC) (h : b ≠ a) : up M a x b = M b := by simp [up, h]
def Rl (ws : va_W) (tys : List (ClassId × FieldType)) (s : State) (H : Heap) (B a : Nat) : AC → Prop
  | .inl (ci, fs) => ∃ k : Nat, ws[k]? = some (a, .inr (ci, fs))
  | .inr (.inl (n, f)) => ∃ (k t0 : Nat) (cA : ClassId), ws[k]? = some (a, .inl (cA, n, .inl (fun j => iN (f j)))) ∧ tys[t0]? = some (cA, .int)
  | .inr (.inr (.inl (n, f))) => ∃ (k t0 : Nat) (cA : ClassId), ws[k]? = some (a, .inl (cA, n, .inr (.inl (fun j => f j)))) ∧ tys[t0]? = some (cA, .long)
  | .inr (.inr (.inr (.inl (ci, n, f)))) => ∃ (k t0 : Nat) (cA : ClassId) (r : vw_C), ws[k]? = some (a, .inl (cA, n, .inr (.inr (.inr (.inr (fun j => f j)))))) ∧ tys[t0]? = some (cA, .object r.1) ∧ vwCl[ci]? = some r
  | .inr (.inr (.inr (.inr (n, f)))) => va_X a n (fun j => iN (f j)) s H ∧ a < B
/-- the heap H, seen from the tables of s, holds the memory M, at addresses from B on (the script below it) -/
def Wd (D : va_G) (B : Nat) (s : State) (H : Heap) (M : Mem) : Prop :=
  ∃ (ws : va_W) (tys : List (ClassId × FieldType)), va_P D vwCl ws H ∧ va_K D vwCl tys s ∧ va_D (fun q => B ≤ q) ws ∧ ∀ (a : Nat) (x : AC), M a = some x → Rl ws tys s H B a x
theorem Rl.moved {ws : va_W} {tys : List (ClassId × FieldType)} {s t : State} {H H1 : Heap} {B a : Nat} {x : AC} (hvm : s.vm.Alike t.vm) (hH : ∀ q, q < B → H1[q]? = H[q]?) (h : Rl ws tys s H B a x) : Rl ws tys t H1 B a x := by
  match x, h with
  | .inl _, h => exact h
  | .inr (.inl _), h => exact h
  | .inr (.inr (.inl _)), h => exact h
  | .inr (.inr (.inr (.inl _))), h => exact h
  | .inr (.inr (.inr (.inr (n, f)))), h => exact ⟨(va_X.moved hvm h.1).kept (hH a h.2), h.2⟩
theorem Wd.moved {D : va_G} {B : Nat} {s t : State} {H : Heap} {M : Mem} (hvm : s.vm.Alike t.vm) (h : Wd D B s H M) : Wd D B t H M := by
  obtain ⟨ws, tys, hP, hK, hD, hR⟩ := h
  exact ⟨ws, tys, hP, va_K.moved hvm hK, hD, fun a x hx => (hR a x hx).moved hvm (fun _ _ => rfl)⟩
theorem Wd.less {D : va_G} {B : Nat} {s : State} {H : Heap} {M M' : Mem} (hM : ∀ a x, M' a = some x → M a = some x) (h : Wd D B s H M) : Wd D B s H M' := by
  obtain ⟨ws, tys, hP, hK, hD, hR⟩ := h
  exact ⟨ws, tys, hP, hK, hD, fun a x hx => hR a x (hM a x hx)⟩
/-- the words that every method may use -/
def lw_g : List Cond := lw_tbl.filter goodWord
theorem lw_gin {w : Cond} (i : Nat) (h : lw_tbl[i]? = some w) (g : goodWord w = true) : w ∈ lw_g := List.mem_filter.mpr ⟨List.mem_of_getElem? h, g⟩
theorem lw_gg : GoodIn lw_g lw_g := fun _ h => ⟨h, good_of_word (List.mem_filter.mp h).2⟩
/-- a method: name, code, locals, type, handlers, frames and words of locals below it -/
abbrev Kp : Type := MethodName × (ByteArray × (Nat × (Option FieldType × (List (Nat × Nat × Nat × Nat) × (Nat × Nat)))))
abbrev kY (κ : Kp) : MethodName := κ.1
abbrev kC (κ : Kp) : ByteArray := κ.2.1
abbrev kL (κ : Kp) : Nat := κ.2.2.1
abbrev kR (κ : Kp) : Option FieldType := κ.2.2.2.1
abbrev kH (κ : Kp) : List (Nat × Nat × Nat × Nat) := κ.2.2.2.2.1
abbrev kF (κ : Kp) : Nat := κ.2.2.2.2.2.1
abbrev kV (κ : Kp) : Nat := κ.2.2.2.2.2.2
def wc (κ : Kp) : Cond := if (kH κ).isEmpty = true then .code (kY κ) (kC κ) (kL κ) (kR κ) else .codeWith (kY κ) (kC κ) (kL κ) (kR κ) (kH κ)
abbrev wsOf (κ : Kp) : List Cond := wc κ :: lw_g
def rmOf (κ : Kp) (bc bs : Nat) : Room := { frames := kF κ, cells := bc, slots := bs, locals := kV κ }
/-- what a throw and a catch ask of the tables besides -/
def Zx (s : State) : Prop := (∃ a, vk_R "GapSets" 268 "no such set" a s) ∧ (∃ a, vk_R "GapSets" 273 "no such setting" a s) ∧ (∃ a, vk_R "GapSets" 277 "an argument is out of range" a s) ∧ (∃ a, vk_R "GapSets" 282 "the state does not allow this" a s) ∧
  va_Nw (.castable "java/lang/IndexOutOfBoundsException" "java/lang/IndexOutOfBoundsException") s ∧ va_Nw (.castable "java/lang/IllegalArgumentException" "java/lang/IllegalArgumentException") s ∧ va_Nw (.castable "java/lang/IllegalStateException" "java/lang/IllegalStateException") s ∧
  va_Nw (.declares ⟨"java/lang/RuntimeException", "<init>", "(Ljava/lang/String;)V"⟩) s ∧ va_Nw (.declares ⟨"java/lang/Exception", "<init>", "(Ljava/lang/String;)V"⟩) s ∧ va_Nw (.declares ⟨"java/lang/Throwable", "<init>", "(Ljava/lang/String;)V"⟩) s
theorem Zx.warm {s U : State} (hW : s.WarmedH U.vm) (h : Zx s) : Zx U := by
  obtain ⟨⟨a1, h1⟩, ⟨a2, h2⟩, ⟨a3, h3⟩, ⟨a4, h4⟩, h5, h6, h7, h11, h12, h13⟩ := h
  exact ⟨⟨a1, vk_R.warm hW h1⟩, ⟨a2, vk_R.warm hW h2⟩, ⟨a3, vk_R.warm hW h3⟩, ⟨a4, vk_R.warm hW h4⟩, va_Nw.warmC hW h5, va_Nw.warmC hW h6, va_Nw.warmC hW h7, va_Nw.warmD hW h11, va_Nw.warmD hW h12, va_Nw.warmD hW h13⟩
theorem Zx.same {s U : State} (hv : U.vm = s.vm) (h : Zx s) : Zx U := by
  obtain ⟨⟨a1, h1⟩, ⟨a2, h2⟩, ⟨a3, h3⟩, ⟨a4, h4⟩, h5, h6, h7, h11, h12, h13⟩ := h
  exact ⟨⟨a1, vk_R.same hv h1⟩, ⟨a2, vk_R.same hv h2⟩, ⟨a3, vk_R.same hv h3⟩, ⟨a4, vk_R.same hv h4⟩, va_Nw.same rfl hv.symm h5, va_Nw.same rfl hv.symm h6, va_Nw.same rfl hv.symm h7, va_Nw.same rfl hv.symm h11, va_Nw.same rfl hv.symm h12, va_Nw.same rfl hv.symm h13⟩
/-- what two statics of Throwable are, as a throw asks -/
def Zt (B : Nat) (s : State) : Prop := vx_Zq Bundle.tN "UNASSIGNED_STACK" Bundle.steD (fun q => B ≤ q) s s.heap ∧ vx_Zq Bundle.tN "SUPPRESSED_SENTINEL" Bundle.listD (fun q => B ≤ q) s s.heap ∧ va_AO "GapSets$Members" s ∧ va_AO "GapSets$State" s ∧ va_Nw (.methodLinkNest "GapSets$Members" 48 ⟨"GapSets", "gapBytes", "(I)I"⟩ "GapSets") s ∧ va_Nw (.methodLinkNest "GapSets$Blocks" 60 ⟨"GapSets", "gapBytes", "(I)I"⟩ "GapSets") s ∧ Zx s
def Cx (κ : Kp) (p : Program) (l : Launch) (s : State) (m : MethodId) (args : Array Value) (meth : Method) (c : Code) : Prop :=
  p.tables.exec = Jvm.exec ∧ c.code = kC κ ∧ meth.sig.returnType = kR κ ∧ c.maxLocals = kL κ ∧ s.vm.findClass (kY κ).cls = some m.cls ∧ (∀ w ∈ lw_g, w.before args s = true) ∧ meth.locks = false ∧ c.exceptionTable.toList = tableOf (kH κ) ∧ l.stackTraces = false ∧ meth.name = (kY κ).name
/-- locals: the newest entry of a place counts; none: not known -/
abbrev Ls : Type := List (Nat × Option Value)
def lk (L : Ls) (i : Nat) : Option Value := (L.lookup i).join
def Lc (ls : Array Slot) (nL : Nat) (L : Ls) : Prop := ls.size = nL ∧ lv_wf ls ∧ ∀ (i : Nat) (v : Value), lk L i = some v → ls[i]? = some (.val v)
/-- no value of two words is cut by a store at i -/
def okS (L : Ls) (i : Nat) : Bool := match i with
  | 0 => true
  | j + 1 => match lk L j with
    | some w => w.category == 1
    | none => false
abbrev Rs : Type := Option Value ⊕ String
def qR (D : va_G) (B : Nat) (Q : Rs → Mem → Prop) : Array Value → State → Outcome → State → Prop := fun _ st o t => (∃ (v : Option Value) (M' : Mem), o = .returned v ∧ Q (.inl v) M' ∧ Wd D B t t.heap M') ∧ va_F (fun q => B ≤ q) st t
def qX (D : va_G) (B : Nat) (Q : Rs → Mem → Prop) : String → State → State → Prop := fun E st t => ∃ M' : Mem, Q (.inr E) M' ∧ Wd D B t t.heap M' ∧ va_F (fun q => B ≤ q) st t
def Pic (D : va_G) (B : Nat) (M : Mem) (U : State) : Prop := B ≤ U.heap.size ∧ Zt B U ∧ Wd D B U U.heap M
/-- the contract of a method on these arguments over this memory, with bc cells of bs slots at most: Q says of the answer (or the exception) and the memory then -/
def Ct (κ : Kp) (args : List Value) (M : Mem) (bc bs : Nat) (Q : Rs → Mem → Prop) : Prop :=
  ∀ (l : Launch) (D : va_G) (B : Nat), l.stackTraces = false → vx_Met l (kY κ) (wsOf κ) (rmOf κ bc bs) (va_Pc args (Pic D B M)) (qR D B Q) (qX D B Q) bc bs (fun q => B ≤ q)
def J (κ : Kp) (bc bs : Nat) (Q : Rs → Mem → Prop) (pc : Nat) (L : Ls) (st : List Value) (M : Mem) (k n : Nat) : Prop :=
  ∀ (p : Program) (l : Launch) (e : Env) (s : State) (m : MethodId) (args : Array Value) (below : List Frame) (meth : Method) (c : Code) (H : Heap) (locs : List Loc) (ls : Array Slot) (D : va_G) (B : Nat),
    Cx κ p l s m args meth c → B ≤ s.heap.size → Zt B s → Wd D B s H M → va_S (fun q => B ≤ q) s.heap H locs → Lc ls (kL κ) L →
    W p l e (rmOf κ bc bs) s m args below meth c H locs k n (vx_MQ below (qR D B Q) (qX D B Q) args s bc bs (fun q => B ≤ q)) (F0 m pc ls st)
abbrev Dc (κ : Kp) (pc : Nat) (i : Instr) (len : Nat) : Prop := decode (kC κ) pc = .ok (i, len)

theorem r_iconst {κ : Kp} {bc bs : Nat} {Q : Rs → Mem → Prop} {pc : Nat} {L : Ls} {st : List Value} {M : Mem} {k n : Nat} {z : Int} (d : Dc κ pc (.iconst z) 1)  (kk : J κ bc bs Q (pc + 1) L (vI z :: st) M k n) : J κ bc bs Q (pc) L (st) M k n := by
  intro p l e s m args below meth c H locs ls D B hc hB hZ hW hS hL
  obtain ⟨hx, hb, hr, hml, hown, hts, hlo, htab, hfl, hnm⟩ := id hc
  refine lv_iconst (v := iN z) hx hb d rfl ?_
  exact kk p l e s m args below meth c H locs ls D B hc hB hZ hW hS hL

theorem r_bipush {κ : Kp} {bc bs : Nat} {Q : Rs → Mem → Prop} {pc : Nat} {L : Ls} {st : List Value} {M : Mem} {k n : Nat} {z : Int} (d : Dc κ pc (.bipush z) 2) (h : (Int8.ofInt z).toInt32 = iN z) (kk : J κ bc bs Q (pc + 2) L (vI z :: st) M k n) : J κ bc bs Q (pc) L (st) M k n := by
  intro p l e s m args below meth c H locs ls D B hc hB hZ hW hS hL
  obtain ⟨hx, hb, hr, hml, hown, hts, hlo, htab, hfl, hnm⟩ := id hc
  refine lv_bipush (v := iN z) hx hb d h ?_
  exact kk p l e s m args below meth c H locs ls D B hc hB hZ hW hS hL

theorem r_sipush {κ : Kp} {bc bs : Nat} {Q : Rs → Mem → Prop} {pc : Nat} {L : Ls} {st : List Value} {M : Mem} {k n : Nat} {z : Int} (d : Dc κ pc (.sipush z) 3) (h : (Int16.ofInt z).toInt32 = iN z) (kk : J κ bc bs Q (pc + 3) L (vI z :: st) M k n) : J κ bc bs Q (pc) L (st) M k n := by
  intro p l e s m args below meth c H locs ls D B hc hB hZ hW hS hL
  obtain ⟨hx, hb, hr, hml, hown, hts, hlo, htab, hfl, hnm⟩ := id hc
  refine lv_sipush (v := iN z) hx hb d h ?_
  exact kk p l e s m args below meth c H locs ls D B hc hB hZ hW hS hL

theorem r_iadd {κ : Kp} {bc bs : Nat} {Q : Rs → Mem → Prop} {pc : Nat} {L : Ls} {st : List Value} {M : Mem} {k n : Nat} {x y : Int} (d : Dc κ pc (.iadd) 1)  (kk : J κ bc bs Q (pc + 1) L (vI (x + y) :: st) M k n) : J κ bc bs Q (pc) L (vI y :: vI x :: st) M k n := by
  intro p l e s m args below meth c H locs ls D B hc hB hZ hW hS hL
  obtain ⟨hx, hb, hr, hml, hown, hts, hlo, htab, hfl, hnm⟩ := id hc
  refine lv_iadd (x := iN x) (y := iN y) hx hb d ?_
  rw [iN_add]
  exact kk p l e s m args below meth c H locs ls D B hc hB hZ hW hS hL

theorem r_isub {κ : Kp} {bc bs : Nat} {Q : Rs → Mem → Prop} {pc : Nat} {L : Ls} {st : List Value} {M : Mem} {k n : Nat} {x y : Int} (d : Dc κ pc (.isub) 1)  (kk : J κ bc bs Q (pc + 1) L (vI (x - y) :: st) M k n) : J κ bc bs Q (pc) L (vI y :: vI x :: st) M k n := by
  intro p l e s m args below meth c H locs ls D B hc hB hZ hW hS hL
  obtain ⟨hx, hb, hr, hml, hown, hts, hlo, htab, hfl, hnm⟩ := id hc
  refine lv_isub (x := iN x) (y := iN y) hx hb d ?_
  rw [iN_sub]
  exact kk p l e s m args below meth c H locs ls D B hc hB hZ hW hS hL

theorem r_imul {κ : Kp} {bc bs : Nat} {Q : Rs → Mem → Prop} {pc : Nat} {L : Ls} {st : List Value} {M : Mem} {k n : Nat} {x y : Int} (d : Dc κ pc (.imul) 1)  (kk : J κ bc bs Q (pc + 1) L (vI (x * y) :: st) M k n) : J κ bc bs Q (pc) L (vI y :: vI x :: st) M k n := by
  intro p l e s m args below meth c H locs ls D B hc hB hZ hW hS hL
  obtain ⟨hx, hb, hr, hml, hown, hts, hlo, htab, hfl, hnm⟩ := id hc
  refine lv_imul (x := iN x) (y := iN y) hx hb d ?_
  rw [iN_mul]
  exact kk p l e s m args below meth c H locs ls D B hc hB hZ hW hS hL

theorem r_ladd {κ : Kp} {bc bs : Nat} {Q : Rs → Mem → Prop} {pc : Nat} {L : Ls} {st : List Value} {M : Mem} {k n : Nat} {x y : Int64} (d : Dc κ pc (.ladd) 1)  (kk : J κ bc bs Q (pc + 1) L (.long (x + y) :: st) M k n) : J κ bc bs Q (pc) L (.long y :: .long x :: st) M k n := by
  intro p l e s m args below meth c H locs ls D B hc hB hZ hW hS hL
  obtain ⟨hx, hb, hr, hml, hown, hts, hlo, htab, hfl, hnm⟩ := id hc
  refine lv_ladd hx hb d ?_
  exact kk p l e s m args below meth c H locs ls D B hc hB hZ hW hS hL

theorem r_lsub {κ : Kp} {bc bs : Nat} {Q : Rs → Mem → Prop} {pc : Nat} {L : Ls} {st : List Value} {M : Mem} {k n : Nat} {x y : Int64} (d : Dc κ pc (.lsub) 1)  (kk : J κ bc bs Q (pc + 1) L (.long (x - y) :: st) M k n) : J κ bc bs Q (pc) L (.long y :: .long x :: st) M k n := by
  intro p l e s m args below meth c H locs ls D B hc hB hZ hW hS hL
  obtain ⟨hx, hb, hr, hml, hown, hts, hlo, htab, hfl, hnm⟩ := id hc
  refine lv_lsub hx hb d ?_
  exact kk p l e s m args below meth c H locs ls D B hc hB hZ hW hS hL

theorem r_lmul {κ : Kp} {bc bs : Nat} {Q : Rs → Mem → Prop} {pc : Nat} {L : Ls} {st : List Value} {M : Mem} {k n : Nat} {x y : Int64} (d : Dc κ pc (.lmul) 1)  (kk : J κ bc bs Q (pc + 1) L (.long (x * y) :: st) M k n) : J κ bc bs Q (pc) L (.long y :: .long x :: st) M k n := by
  intro p l e s m args below meth c H locs ls D B hc hB hZ hW hS hL
  obtain ⟨hx, hb, hr, hml, hown, hts, hlo, htab, hfl, hnm⟩ := id hc
  refine lv_lmul hx hb d ?_
  exact kk p l e s m args below meth c H locs ls D B hc hB hZ hW hS hL

theorem r_lshl {κ : Kp} {bc bs : Nat} {Q : Rs → Mem → Prop} {pc : Nat} {L : Ls} {st : List Value} {M : Mem} {k n : Nat} {x : Int64} {y : Int} (d : Dc κ pc (.lshl) 1)  (kk : J κ bc bs Q (pc + 1) L (.long (x <<< ((iN y).toInt64 &&& 63)) :: st) M k n) : J κ bc bs Q (pc) L (vI y :: .long x :: st) M k n := by
  intro p l e s m args below meth c H locs ls D B hc hB hZ hW hS hL
  obtain ⟨hx, hb, hr, hml, hown, hts, hlo, htab, hfl, hnm⟩ := id hc
  refine lv_lshl (y := iN y) hx hb d rfl ?_
  exact kk p l e s m args below meth c H locs ls D B hc hB hZ hW hS hL

theorem r_i2l {κ : Kp} {bc bs : Nat} {Q : Rs → Mem → Prop} {pc : Nat} {L : Ls} {st : List Value} {M : Mem} {k n : Nat} {x : Int} (d : Dc κ pc (.i2l) 1)  (kk : J κ bc bs Q (pc + 1) L (.long (iN x).toInt64 :: st) M k n) : J κ bc bs Q (pc) L (vI x :: st) M k n := by
  intro p l e s m args below meth c H locs ls D B hc hB hZ hW hS hL
  obtain ⟨hx, hb, hr, hml, hown, hts, hlo, htab, hfl, hnm⟩ := id hc
  refine lv_i2l (x := iN x) hx hb d rfl ?_
  exact kk p l e s m args below meth c H locs ls D B hc hB hZ hW hS hL

theorem r_lcmp {κ : Kp} {bc bs : Nat} {Q : Rs → Mem → Prop} {pc : Nat} {L : Ls} {st : List Value} {M : Mem} {k n : Nat} {x y : Int64} (d : Dc κ pc (.lcmp) 1)  (kk : J κ bc bs Q (pc + 1) L (.int (lg_cmp x y) :: st) M k n) : J κ bc bs Q (pc) L (.long y :: .long x :: st) M k n := by
  intro p l e s m args below meth c H locs ls D B hc hB hZ hW hS hL
  obtain ⟨hx, hb, hr, hml, hown, hts, hlo, htab, hfl, hnm⟩ := id hc
  refine W.lcmp hx hb d ?_
  exact kk p l e s m args below meth c H locs ls D B hc hB hZ hW hS hL

theorem r_iand {κ : Kp} {bc bs : Nat} {Q : Rs → Mem → Prop} {pc : Nat} {L : Ls} {st : List Value} {M : Mem} {k n : Nat} {x y : Int} (d : Dc κ pc (.iand) 1)  (kk : J κ bc bs Q (pc + 1) L (.int (iN x &&& iN y) :: st) M k n) : J κ bc bs Q (pc) L (vI y :: vI x :: st) M k n := by
  intro p l e s m args below meth c H locs ls D B hc hB hZ hW hS hL
  obtain ⟨hx, hb, hr, hml, hown, hts, hlo, htab, hfl, hnm⟩ := id hc
  refine lv_iand (x := iN x) (y := iN y) hx hb d ?_
  exact kk p l e s m args below meth c H locs ls D B hc hB hZ hW hS hL

theorem r_i2d {κ : Kp} {bc bs : Nat} {Q : Rs → Mem → Prop} {pc : Nat} {L : Ls} {st : List Value} {M : Mem} {k n : Nat} {x : Int} (d : Dc κ pc (.i2d) 1)  (kk : J κ bc bs Q (pc + 1) L (.double (FP.i2d (iN x)) :: st) M k n) : J κ bc bs Q (pc) L (vI x :: st) M k n := by
  intro p l e s m args below meth c H locs ls D B hc hB hZ hW hS hL
  obtain ⟨hx, hb, hr, hml, hown, hts, hlo, htab, hfl, hnm⟩ := id hc
  refine lv_i2d (x := iN x) hx hb d ?_
  exact kk p l e s m args below meth c H locs ls D B hc hB hZ hW hS hL

theorem r_dmul {κ : Kp} {bc bs : Nat} {Q : Rs → Mem → Prop} {pc : Nat} {L : Ls} {st : List Value} {M : Mem} {k n : Nat} {x y : UInt64} (d : Dc κ pc (.dmul) 1) (h : vf_n64 (FP.dmul x y)) (kk : J κ bc bs Q (pc + 1) L (.double (FP.dmul x y) :: st) M k n) : J κ bc bs Q (pc) L (.double y :: .double x :: st) M k n := by
  intro p l e s m args below meth c H locs ls D B hc hB hZ hW hS hL
  obtain ⟨hx, hb, hr, hml, hown, hts, hlo, htab, hfl, hnm⟩ := id hc
  refine lv_dmul hx hb d h ?_
  exact kk p l e s m args below meth c H locs ls D B hc hB hZ hW hS hL

theorem r_ddiv {κ : Kp} {bc bs : Nat} {Q : Rs → Mem → Prop} {pc : Nat} {L : Ls} {st : List Value} {M : Mem} {k n : Nat} {x y : UInt64} (d : Dc κ pc (.ddiv) 1) (h : vf_n64 (FP.ddiv x y)) (kk : J κ bc bs Q (pc + 1) L (.double (FP.ddiv x y) :: st) M k n) : J κ bc bs Q (pc) L (.double y :: .double x :: st) M k n := by
  intro p l e s m args below meth c H locs ls D B hc hB hZ hW hS hL
  obtain ⟨hx, hb, hr, hml, hown, hts, hlo, htab, hfl, hnm⟩ := id hc
  refine lv_ddiv hx hb d h ?_
  exact kk p l e s m args below meth c H locs ls D B hc hB hZ hW hS hL

theorem r_dsub {κ : Kp} {bc bs : Nat} {Q : Rs → Mem → Prop} {pc : Nat} {L : Ls} {st : List Value} {M : Mem} {k n : Nat} {x y : UInt64} (d : Dc κ pc (.dsub) 1) (h : vf_n64 (FP.dsub x y)) (kk : J κ bc bs Q (pc + 1) L (.double (FP.dsub x y) :: st) M k n) : J κ bc bs Q (pc) L (.double y :: .double x :: st) M k n := by
  intro p l e s m args below meth c H locs ls D B hc hB hZ hW hS hL
  obtain ⟨hx, hb, hr, hml, hown, hts, hlo, htab, hfl, hnm⟩ := id hc
  refine lv_dsub hx hb d h ?_
  exact kk p l e s m args below meth c H locs ls D B hc hB hZ hW hS hL

theorem r_dcmp {κ : Kp} {bc bs : Nat} {Q : Rs → Mem → Prop} {pc : Nat} {L : Ls} {st : List Value} {M : Mem} {k n : Nat} {x y : UInt64} {op : CmpOp} (d : Dc κ pc (.dcmp op) 1)  (kk : J κ bc bs Q (pc + 1) L (.int (Op.cmpValue (FP.dcmp x y) op) :: st) M k n) : J κ bc bs Q (pc) L (.double y :: .double x :: st) M k n := by
  intro p l e s m args below meth c H locs ls D B hc hB hZ hW hS hL
  obtain ⟨hx, hb, hr, hml, hown, hts, hlo, htab, hfl, hnm⟩ := id hc
  refine lv_dcmp hx hb d ?_
  exact kk p l e s m args below meth c H locs ls D B hc hB hZ hW hS hL

theorem r_dup {κ : Kp} {bc bs : Nat} {Q : Rs → Mem → Prop} {pc : Nat} {L : Ls} {st : List Value} {M : Mem} {k n : Nat} {a : Nat} (d : Dc κ pc (.dup) 1)  (kk : J κ bc bs Q (pc + 1) L (.ref a :: .ref a :: st) M k n) : J κ bc bs Q (pc) L (.ref a :: st) M k n := by
  intro p l e s m args below meth c H locs ls D B hc hB hZ hW hS hL
  obtain ⟨hx, hb, hr, hml, hown, hts, hlo, htab, hfl, hnm⟩ := id hc
  refine lv_dup hx hb d rfl ?_
  exact kk p l e s m args below meth c H locs ls D B hc hB hZ hW hS hL

theorem r_dupI {κ : Kp} {bc bs : Nat} {Q : Rs → Mem → Prop} {pc : Nat} {L : Ls} {st : List Value} {M : Mem} {k n : Nat} {a : Int} (d : Dc κ pc (.dup) 1)  (kk : J κ bc bs Q (pc + 1) L (vI a :: vI a :: st) M k n) : J κ bc bs Q (pc) L (vI a :: st) M k n := by
  intro p l e s m args below meth c H locs ls D B hc hB hZ hW hS hL
  obtain ⟨hx, hb, hr, hml, hown, hts, hlo, htab, hfl, hnm⟩ := id hc
  refine lv_dup hx hb d rfl ?_
  exact kk p l e s m args below meth c H locs ls D B hc hB hZ hW hS hL

theorem r_dup2 {κ : Kp} {bc bs : Nat} {Q : Rs → Mem → Prop} {pc : Nat} {L : Ls} {st : List Value} {M : Mem} {k n : Nat} {a : Nat} {x : Int} (d : Dc κ pc (.dup2) 1)  (kk : J κ bc bs Q (pc + 1) L (vI x :: .ref a :: vI x :: .ref a :: st) M k n) : J κ bc bs Q (pc) L (vI x :: .ref a :: st) M k n := by
  intro p l e s m args below meth c H locs ls D B hc hB hZ hW hS hL
  obtain ⟨hx, hb, hr, hml, hown, hts, hlo, htab, hfl, hnm⟩ := id hc
  refine lv_dup2_11 hx hb d rfl rfl ?_
  exact kk p l e s m args below meth c H locs ls D B hc hB hZ hW hS hL

theorem r_popI {κ : Kp} {bc bs : Nat} {Q : Rs → Mem → Prop} {pc : Nat} {L : Ls} {st : List Value} {M : Mem} {k n : Nat} {x : Int} (d : Dc κ pc (.pop) 1)  (kk : J κ bc bs Q (pc + 1) L (st) M k n) : J κ bc bs Q (pc) L (vI x :: st) M k n := by
  intro p l e s m args below meth c H locs ls D B hc hB hZ hW hS hL
  obtain ⟨hx, hb, hr, hml, hown, hts, hlo, htab, hfl, hnm⟩ := id hc
  refine lv_pop hx hb d rfl ?_
  exact kk p l e s m args below meth c H locs ls D B hc hB hZ hW hS hL

theorem r_popR {κ : Kp} {bc bs : Nat} {Q : Rs → Mem → Prop} {pc : Nat} {L : Ls} {st : List Value} {M : Mem} {k n : Nat} {a : Nat} (d : Dc κ pc (.pop) 1)  (kk : J κ bc bs Q (pc + 1) L (st) M k n) : J κ bc bs Q (pc) L (.ref a :: st) M k n := by
  intro p l e s m args below meth c H locs ls D B hc hB hZ hW hS hL
  obtain ⟨hx, hb, hr, hml, hown, hts, hlo, htab, hfl, hnm⟩ := id hc
  refine lv_pop hx hb d rfl ?_
  exact kk p l e s m args below meth c H locs ls D B hc hB hZ hW hS hL

theorem r_null {κ : Kp} {bc bs : Nat} {Q : Rs → Mem → Prop} {pc : Nat} {L : Ls} {st : List Value} {M : Mem} {k n : Nat}  (d : Dc κ pc (.aconst_null) 1)  (kk : J κ bc bs Q (pc + 1) L (.null :: st) M k n) : J κ bc bs Q (pc) L (st) M k n := by
  intro p l e s m args below meth c H locs ls D B hc hB hZ hW hS hL
  obtain ⟨hx, hb, hr, hml, hown, hts, hlo, htab, hfl, hnm⟩ := id hc
  refine lv_null hx hb d ?_
  exact kk p l e s m args below meth c H locs ls D B hc hB hZ hW hS hL

theorem iN_div {x y : Int} (h0 : 0 ≤ x) (hy : R32 y) (hx : R32 x) (hp : 0 < y) : iN x / iN y = iN (x / y) := by
  have h1 : 0 ≤ x / y := Int.ediv_nonneg h0 (by omega)
  have h2 : x / y ≤ x := Int.ediv_le_self y h0
  apply Int32.toInt_inj.mp
  rw [Int32.toInt_div, iN_toInt hx, iN_toInt hy, iN_toInt (by omega), Int.tdiv_eq_ediv_of_nonneg h0, Int.bmod_eq_of_le (by omega) (by omega)]

theorem r_idiv {κ : Kp} {bc bs : Nat} {Q : Rs → Mem → Prop} {pc : Nat} {L : Ls} {st : List Value} {M : Mem} {k n : Nat} {x y : Int} (d : Dc κ pc (.idiv) 1) (h0 : 0 ≤ x) (hx0 : R32 x) (hy0 : R32 y) (hyp : 0 < y) (kk : J κ bc bs Q (pc + 1) L (vI (x / y) :: st) M k n) : J κ bc bs Q (pc) L (vI y :: vI x :: st) M k n := by
  intro p l e s m args below meth c H locs ls D B hc hB hZ hW hS hL
  obtain ⟨hx, hb, hr, hml, hown, hts, hlo, htab, hfl, hnm⟩ := id hc
  refine lv_idiv (x := iN x) (y := iN y) hx hb d (fun h0 => by have := (iN_eq (y := 0) hy0 (by omega)).mp h0; omega) ?_
  rw [iN_div h0 hy0 hx0 hyp]
  exact kk p l e s m args below meth c H locs ls D B hc hB hZ hW hS hL

theorem r_irem {κ : Kp} {bc bs : Nat} {Q : Rs → Mem → Prop} {pc : Nat} {L : Ls} {st : List Value} {M : Mem} {k n : Nat} {x y : Int} (d : Dc κ pc (.irem) 1) (h0 : 0 ≤ x) (hx0 : R32 x) (hy0 : R32 y) (hyp : 0 < y) (kk : J κ bc bs Q (pc + 1) L (vI (x % y) :: st) M k n) : J κ bc bs Q (pc) L (vI y :: vI x :: st) M k n := by
  intro p l e s m args below meth c H locs ls D B hc hB hZ hW hS hL
  obtain ⟨hx, hb, hr, hml, hown, hts, hlo, htab, hfl, hnm⟩ := id hc
  refine lv_irem (x := iN x) (y := iN y) hx hb d (fun h0 => by have := (iN_eq (y := 0) hy0 (by omega)).mp h0; omega) ?_
  rw [iN_div h0 hy0 hx0 hyp, iN_mul, iN_sub, show x - x / y * y = x % y by rw [Int.emod_def, Int.mul_comm]]
  exact kk p l e s m args below meth c H locs ls D B hc hB hZ hW hS hL

theorem r_ldc2 {κ : Kp} {bc bs : Nat} {Q : Rs → Mem → Prop} {pc : Nat} {L : Ls} {st : List Value} {M : Mem} {k n : Nat} {v : Int64} {ix : Nat} (d : Dc κ pc (.ldc2_w ix) 3) (h : Cond.constantLong (kY κ).cls ix v ∈ lw_g) (kk : J κ bc bs Q (pc + 3) L (.long v :: st) M k n) : J κ bc bs Q (pc) L (st) M k n := by
  intro p l e s m args below meth c H locs ls D B hc hB hZ hW hS hL
  obtain ⟨hx, hb, hr, hml, hown, hts, hlo, htab, hfl, hnm⟩ := id hc
  refine lv_ldc2 hx hb hown (hts _ h) d ?_
  exact kk p l e s m args below meth c H locs ls D B hc hB hZ hW hS hL

theorem r_ldc2d {κ : Kp} {bc bs : Nat} {Q : Rs → Mem → Prop} {pc : Nat} {L : Ls} {st : List Value} {M : Mem} {k n : Nat} {v : UInt64} {ix : Nat} (d : Dc κ pc (.ldc2_w ix) 3) (h : Cond.constantDouble (kY κ).cls ix v ∈ lw_g) (kk : J κ bc bs Q (pc + 3) L (.double v :: st) M k n) : J κ bc bs Q (pc) L (st) M k n := by
  intro p l e s m args below meth c H locs ls D B hc hB hZ hW hS hL
  obtain ⟨hx, hb, hr, hml, hown, hts, hlo, htab, hfl, hnm⟩ := id hc
  refine lv_ldc2d hx hb hown (hts _ h) d ?_
  exact kk p l e s m args below meth c H locs ls D B hc hB hZ hW hS hL

theorem r_iload {κ : Kp} {bc bs : Nat} {Q : Rs → Mem → Prop} {pc : Nat} {L : Ls} {st : List Value} {M : Mem} {k n : Nat} {x : Int} {i : Nat} (d : Dc κ pc (.iload i) 2) (h : lk L i = some (vI x)) (kk : J κ bc bs Q (pc + 2) L (vI x :: st) M k n) : J κ bc bs Q (pc) L (st) M k n := by
  intro p l e s m args below meth c H locs ls D B hc hB hZ hW hS hL
  obtain ⟨hx, hb, hr, hml, hown, hts, hlo, htab, hfl, hnm⟩ := id hc
  refine lv_iload (x := iN x) hx hb d (hL.2.2 i _ h) ?_
  exact kk p l e s m args below meth c H locs ls D B hc hB hZ hW hS hL

theorem r_iload_n {κ : Kp} {bc bs : Nat} {Q : Rs → Mem → Prop} {pc : Nat} {L : Ls} {st : List Value} {M : Mem} {k n : Nat} {x : Int} {i : Fin 4} (d : Dc κ pc (.iload_n i) 1) (h : lk L i = some (vI x)) (kk : J κ bc bs Q (pc + 1) L (vI x :: st) M k n) : J κ bc bs Q (pc) L (st) M k n := by
  intro p l e s m args below meth c H locs ls D B hc hB hZ hW hS hL
  obtain ⟨hx, hb, hr, hml, hown, hts, hlo, htab, hfl, hnm⟩ := id hc
  refine lv_iload_n (x := iN x) hx hb d rfl (hL.2.2 (i : Nat) _ h) ?_
  exact kk p l e s m args below meth c H locs ls D B hc hB hZ hW hS hL

theorem r_aload {κ : Kp} {bc bs : Nat} {Q : Rs → Mem → Prop} {pc : Nat} {L : Ls} {st : List Value} {M : Mem} {k n : Nat} {x : Nat} {i : Nat} (d : Dc κ pc (.aload i) 2) (h : lk L i = some (.ref x)) (kk : J κ bc bs Q (pc + 2) L (.ref x :: st) M k n) : J κ bc bs Q (pc) L (st) M k n := by
  intro p l e s m args below meth c H locs ls D B hc hB hZ hW hS hL
  obtain ⟨hx, hb, hr, hml, hown, hts, hlo, htab, hfl, hnm⟩ := id hc
  refine lv_aload  hx hb d (hL.2.2 i _ h) ?_
  exact kk p l e s m args below meth c H locs ls D B hc hB hZ hW hS hL

theorem r_aload_n {κ : Kp} {bc bs : Nat} {Q : Rs → Mem → Prop} {pc : Nat} {L : Ls} {st : List Value} {M : Mem} {k n : Nat} {x : Nat} {i : Fin 4} (d : Dc κ pc (.aload_n i) 1) (h : lk L i = some (.ref x)) (kk : J κ bc bs Q (pc + 1) L (.ref x :: st) M k n) : J κ bc bs Q (pc) L (st) M k n := by
  intro p l e s m args below meth c H locs ls D B hc hB hZ hW hS hL
  obtain ⟨hx, hb, hr, hml, hown, hts, hlo, htab, hfl, hnm⟩ := id hc
  refine lv_aload_n  hx hb d rfl (hL.2.2 (i : Nat) _ h) ?_
  exact kk p l e s m args below meth c H locs ls D B hc hB hZ hW hS hL

theorem r_lload {κ : Kp} {bc bs : Nat} {Q : Rs → Mem → Prop} {pc : Nat} {L : Ls} {st : List Value} {M : Mem} {k n : Nat} {x : Int64} {i : Nat} (d : Dc κ pc (.lload i) 2) (h : lk L i = some (.long x)) (kk : J κ bc bs Q (pc + 2) L (.long x :: st) M k n) : J κ bc bs Q (pc) L (st) M k n := by
  intro p l e s m args below meth c H locs ls D B hc hB hZ hW hS hL
  obtain ⟨hx, hb, hr, hml, hown, hts, hlo, htab, hfl, hnm⟩ := id hc
  refine lv_lload  hx hb d (hL.2.2 i _ h) ?_
  exact kk p l e s m args below meth c H locs ls D B hc hB hZ hW hS hL

theorem r_lload_n {κ : Kp} {bc bs : Nat} {Q : Rs → Mem → Prop} {pc : Nat} {L : Ls} {st : List Value} {M : Mem} {k n : Nat} {x : Int64} {i : Fin 4} (d : Dc κ pc (.lload_n i) 1) (h : lk L i = some (.long x)) (kk : J κ bc bs Q (pc + 1) L (.long x :: st) M k n) : J κ bc bs Q (pc) L (st) M k n := by
  intro p l e s m args below meth c H locs ls D B hc hB hZ hW hS hL
  obtain ⟨hx, hb, hr, hml, hown, hts, hlo, htab, hfl, hnm⟩ := id hc
  refine lv_lload_n  hx hb d rfl (hL.2.2 (i : Nat) _ h) ?_
  exact kk p l e s m args below meth c H locs ls D B hc hB hZ hW hS hL

theorem r_dload {κ : Kp} {bc bs : Nat} {Q : Rs → Mem → Prop} {pc : Nat} {L : Ls} {st : List Value} {M : Mem} {k n : Nat} {x : UInt64} {i : Nat} (d : Dc κ pc (.dload i) 2) (h : lk L i = some (.double x)) (kk : J κ bc bs Q (pc + 2) L (.double x :: st) M k n) : J κ bc bs Q (pc) L (st) M k n := by
  intro p l e s m args below meth c H locs ls D B hc hB hZ hW hS hL
  obtain ⟨hx, hb, hr, hml, hown, hts, hlo, htab, hfl, hnm⟩ := id hc
  refine lv_dload  hx hb d (hL.2.2 i _ h) ?_
  exact kk p l e s m args below meth c H locs ls D B hc hB hZ hW hS hL

theorem r_dload_n {κ : Kp} {bc bs : Nat} {Q : Rs → Mem → Prop} {pc : Nat} {L : Ls} {st : List Value} {M : Mem} {k n : Nat} {x : UInt64} {i : Fin 4} (d : Dc κ pc (.dload_n i) 1) (h : lk L i = some (.double x)) (kk : J κ bc bs Q (pc + 1) L (.double x :: st) M k n) : J κ bc bs Q (pc) L (st) M k n := by
  intro p l e s m args below meth c H locs ls D B hc hB hZ hW hS hL
  obtain ⟨hx, hb, hr, hml, hown, hts, hlo, htab, hfl, hnm⟩ := id hc
  refine lv_dload_n  hx hb d rfl (hL.2.2 (i : Nat) _ h) ?_
  exact kk p l e s m args below meth c H locs ls D B hc hB hZ hW hS hL

theorem r_aloadN {κ : Kp} {bc bs : Nat} {Q : Rs → Mem → Prop} {pc : Nat} {L : Ls} {st : List Value} {M : Mem} {k n : Nat} {i : Nat} (d : Dc κ pc (.aload i) 2) (h : lk L i = some .null) (kk : J κ bc bs Q (pc + 2) L (.null :: st) M k n) : J κ bc bs Q (pc) L (st) M k n := by
  intro p l e s m args below meth c H locs ls D B hc hB hZ hW hS hL
  obtain ⟨hx, hb, hr, hml, hown, hts, hlo, htab, hfl, hnm⟩ := id hc
  refine lv_aloadN hx hb d (hL.2.2 i _ h) ?_
  exact kk p l e s m args below meth c H locs ls D B hc hB hZ hW hS hL

theorem r_aloadN_n {κ : Kp} {bc bs : Nat} {Q : Rs → Mem → Prop} {pc : Nat} {L : Ls} {st : List Value} {M : Mem} {k n : Nat} {i : Fin 4} (d : Dc κ pc (.aload_n i) 1) (h : lk L i = some .null) (kk : J κ bc bs Q (pc + 1) L (.null :: st) M k n) : J κ bc bs Q (pc) L (st) M k n := by
  intro p l e s m args below meth c H locs ls D B hc hB hZ hW hS hL
  obtain ⟨hx, hb, hr, hml, hown, hts, hlo, htab, hfl, hnm⟩ := id hc
  refine lv_aload_nN hx hb d rfl (hL.2.2 (i : Nat) _ h) ?_
  exact kk p l e s m args below meth c H locs ls D B hc hB hZ hW hS hL

theorem lk_cons {L : Ls} {i j : Nat} {v : Option Value} : lk ((i, v) :: L) j = if j = i then v else lk L j := by
  unfold lk
  rw [List.lookup_cons]
  by_cases h : j = i
  · subst h; simp
  · rw [if_neg h]
    have h9 : (j == i) = false := by simp [h]
    rw [h9]
/-- the known places, as the kit's rows want them -/
def prs (L : Ls) (N : Nat) : List (Nat × Value) := (List.range N).filterMap (fun i => (lk L i).map (fun v => (i, v)))
theorem prs_mem {L : Ls} {N i : Nat} {v : Value} : (i, v) ∈ prs L N ↔ i < N ∧ lk L i = some v := by
  unfold prs
  rw [List.mem_filterMap]
  constructor
  · rintro ⟨j, hj, h⟩
    cases hl : lk L j with
    | none => rw [hl] at h; cases h
    | some w => rw [hl] at h; cases h; exact ⟨List.mem_range.mp hj, hl⟩
  · rintro ⟨h1, h2⟩
    exact ⟨i, List.mem_range.mpr h1, by rw [h2]; rfl⟩
theorem Lc.has {ls : Array Slot} {nL : Nat} {L : Ls} (h : Lc ls nL L) : lv_has ls nL (prs L nL) := ⟨h.1, h.2.1, fun q hq => h.2.2 q.1 q.2 (prs_mem.mp hq).2⟩
theorem Lc.lt {ls : Array Slot} {nL : Nat} {L : Ls} (h : Lc ls nL L) {i : Nat} {v : Value} (hi : lk L i = some v) : i < nL := by
  have h1 := (Array.getElem?_eq_some_iff.mp (h.2.2 i v hi)).1
  rw [h.1] at h1
  exact h1
theorem Lc.st1 {ls ls' : Array Slot} {nL : Nat} {L : Ls} {i : Nat} {v : Value} (h : Lc ls nL L) (ho : okS L i = true) (h' : lv_has ls' nL ((i, v) :: (prs L nL).filter (fun q => !(q.1 == i) && !(q.1 + 1 == i && q.2.category == 2)))) : Lc ls' nL ((i, some v) :: L) := by
  refine ⟨h'.1, h'.2.1, fun j w hj => ?_⟩
  rw [lk_cons] at hj
  by_cases e : j = i
  · rw [if_pos e] at hj
    cases hj
    rw [e]
    exact h'.2.2 (i, v) List.mem_cons_self
  · rw [if_neg e] at hj
    refine h'.2.2 (j, w) (List.mem_cons_of_mem _ (List.mem_filter.mpr ⟨prs_mem.mpr ⟨h.lt hj, hj⟩, ?_⟩))
    cases i with
    | zero => simp [e]
    | succ i0 =>
      by_cases e2 : j = i0
      · subst e2
        have h9 : okS L (j + 1) = true := ho
        unfold okS at h9
        simp only [hj] at h9
        have h8 : w.category = 1 := by simpa using h9
        simp [h8]
      · have h7 : ¬ j + 1 = i0 + 1 := by omega
        simp [e, e2]
theorem Lc.st2 {ls ls' : Array Slot} {nL : Nat} {L : Ls} {i : Nat} {v : Value} (h : Lc ls nL L) (ho : okS L i = true) (h' : lv_has ls' nL ((i, v) :: (prs L nL).filter (fun q => !(q.1 == i) && (!(q.1 == i + 1) && !(q.1 + 1 == i && q.2.category == 2))))) : Lc ls' nL ((i, some v) :: (i + 1, none) :: L) := by
  refine ⟨h'.1, h'.2.1, fun j w hj => ?_⟩
  rw [lk_cons] at hj
  by_cases e : j = i
  · rw [if_pos e] at hj
    cases hj
    rw [e]
    exact h'.2.2 (i, v) List.mem_cons_self
  · rw [if_neg e, lk_cons] at hj
    by_cases e1 : j = i + 1
    · rw [if_pos e1] at hj; cases hj
    · rw [if_neg e1] at hj
      refine h'.2.2 (j, w) (List.mem_cons_of_mem _ (List.mem_filter.mpr ⟨prs_mem.mpr ⟨h.lt hj, hj⟩, ?_⟩))
      cases i with
      | zero => simp [e, e1]
      | succ i0 =>
        by_cases e2 : j = i0
        · subst e2
          have h9 : okS L (j + 1) = true := ho
          unfold okS at h9
          simp only [hj] at h9
          have h8 : w.category = 1 := by simpa using h9
          simp [h8]
          omega
        · have h7 : ¬ j + 1 = i0 + 1 := by omega
          simp [e, e1, e2]

theorem r_istore {κ : Kp} {bc bs : Nat} {Q : Rs → Mem → Prop} {pc : Nat} {L : Ls} {st : List Value} {M : Mem} {k n : Nat} {x : Int} {i : Nat} (d : Dc κ pc (.istore i) 2) (hi : (i : Nat) < kL κ) (ho : okS L i = true) (kk : J κ bc bs Q (pc + 2) ((i, some (vI x)) :: L) (st) M k n) : J κ bc bs Q (pc) L (vI x :: st) M k n := by
  intro p l e s m args below meth c H locs ls D B hc hB hZ hW hS hL
  obtain ⟨hx, hb, hr, hml, hown, hts, hlo, htab, hfl, hnm⟩ := id hc
  refine lv_istore (x := iN x) (lv := prs L (kL κ)) hx hb d hL.has hi rfl ?_
  intro ls' h'
  exact kk p l e s m args below meth c H locs ls' D B hc hB hZ hW hS (Lc.st1 hL ho h')

theorem r_istore_n {κ : Kp} {bc bs : Nat} {Q : Rs → Mem → Prop} {pc : Nat} {L : Ls} {st : List Value} {M : Mem} {k n : Nat} {x : Int} {i : Fin 4} (d : Dc κ pc (.istore_n i) 1) (hi : (i : Nat) < kL κ) (ho : okS L i = true) (kk : J κ bc bs Q (pc + 1) (((i : Nat), some (vI x)) :: L) (st) M k n) : J κ bc bs Q (pc) L (vI x :: st) M k n := by
  intro p l e s m args below meth c H locs ls D B hc hB hZ hW hS hL
  obtain ⟨hx, hb, hr, hml, hown, hts, hlo, htab, hfl, hnm⟩ := id hc
  refine lv_istore_n (x := iN x) (i := (i : Nat)) (lv := prs L (kL κ)) hx hb d rfl hL.has hi rfl ?_
  intro ls' h'
  exact kk p l e s m args below meth c H locs ls' D B hc hB hZ hW hS (Lc.st1 hL ho h')

theorem r_astore {κ : Kp} {bc bs : Nat} {Q : Rs → Mem → Prop} {pc : Nat} {L : Ls} {st : List Value} {M : Mem} {k n : Nat} {x : Nat} {i : Nat} (d : Dc κ pc (.astore i) 2) (hi : (i : Nat) < kL κ) (ho : okS L i = true) (kk : J κ bc bs Q (pc + 2) ((i, some (.ref x)) :: L) (st) M k n) : J κ bc bs Q (pc) L (.ref x :: st) M k n := by
  intro p l e s m args below meth c H locs ls D B hc hB hZ hW hS hL
  obtain ⟨hx, hb, hr, hml, hown, hts, hlo, htab, hfl, hnm⟩ := id hc
  refine lv_astore  (lv := prs L (kL κ)) hx hb d hL.has hi rfl ?_
  intro ls' h'
  exact kk p l e s m args below meth c H locs ls' D B hc hB hZ hW hS (Lc.st1 hL ho h')

theorem r_astore_n {κ : Kp} {bc bs : Nat} {Q : Rs → Mem → Prop} {pc : Nat} {L : Ls} {st : List Value} {M : Mem} {k n : Nat} {x : Nat} {i : Fin 4} (d : Dc κ pc (.astore_n i) 1) (hi : (i : Nat) < kL κ) (ho : okS L i = true) (kk : J κ bc bs Q (pc + 1) (((i : Nat), some (.ref x)) :: L) (st) M k n) : J κ bc bs Q (pc) L (.ref x :: st) M k n := by
  intro p l e s m args below meth c H locs ls D B hc hB hZ hW hS hL
  obtain ⟨hx, hb, hr, hml, hown, hts, hlo, htab, hfl, hnm⟩ := id hc
  refine lv_astore_n  (i := (i : Nat)) (lv := prs L (kL κ)) hx hb d rfl hL.has hi rfl ?_
  intro ls' h'
  exact kk p l e s m args below meth c H locs ls' D B hc hB hZ hW hS (Lc.st1 hL ho h')

theorem r_lstore {κ : Kp} {bc bs : Nat} {Q : Rs → Mem → Prop} {pc : Nat} {L : Ls} {st : List Value} {M : Mem} {k n : Nat} {x : Int64} {i : Nat} (d : Dc κ pc (.lstore i) 2) (hi : (i : Nat) + 1 < kL κ) (ho : okS L i = true) (kk : J κ bc bs Q (pc + 2) ((i, some (.long x)) :: (i + 1, none) :: L) (st) M k n) : J κ bc bs Q (pc) L (.long x :: st) M k n := by
  intro p l e s m args below meth c H locs ls D B hc hB hZ hW hS hL
  obtain ⟨hx, hb, hr, hml, hown, hts, hlo, htab, hfl, hnm⟩ := id hc
  refine lv_lstore  (lv := prs L (kL κ)) hx hb d hL.has hi rfl ?_
  intro ls' h'
  exact kk p l e s m args below meth c H locs ls' D B hc hB hZ hW hS (Lc.st2 hL ho h')

theorem r_lstore_n {κ : Kp} {bc bs : Nat} {Q : Rs → Mem → Prop} {pc : Nat} {L : Ls} {st : List Value} {M : Mem} {k n : Nat} {x : Int64} {i : Fin 4} (d : Dc κ pc (.lstore_n i) 1) (hi : (i : Nat) + 1 < kL κ) (ho : okS L i = true) (kk : J κ bc bs Q (pc + 1) (((i : Nat), some (.long x)) :: ((i : Nat) + 1, none) :: L) (st) M k n) : J κ bc bs Q (pc) L (.long x :: st) M k n := by
  intro p l e s m args below meth c H locs ls D B hc hB hZ hW hS hL
  obtain ⟨hx, hb, hr, hml, hown, hts, hlo, htab, hfl, hnm⟩ := id hc
  refine lv_lstore_n  (i := (i : Nat)) (lv := prs L (kL κ)) hx hb d rfl hL.has hi rfl ?_
  intro ls' h'
  exact kk p l e s m args below meth c H locs ls' D B hc hB hZ hW hS (Lc.st2 hL ho h')

theorem r_dstore {κ : Kp} {bc bs : Nat} {Q : Rs → Mem → Prop} {pc : Nat} {L : Ls} {st : List Value} {M : Mem} {k n : Nat} {x : UInt64} {i : Nat} (d : Dc κ pc (.dstore i) 2) (hi : (i : Nat) + 1 < kL κ) (ho : okS L i = true) (kk : J κ bc bs Q (pc + 2) ((i, some (.double x)) :: (i + 1, none) :: L) (st) M k n) : J κ bc bs Q (pc) L (.double x :: st) M k n := by
  intro p l e s m args below meth c H locs ls D B hc hB hZ hW hS hL
  obtain ⟨hx, hb, hr, hml, hown, hts, hlo, htab, hfl, hnm⟩ := id hc
  refine lv_dstore  (lv := prs L (kL κ)) hx hb d hL.has hi rfl ?_
  intro ls' h'
  exact kk p l e s m args below meth c H locs ls' D B hc hB hZ hW hS (Lc.st2 hL ho h')

theorem r_dstore_n {κ : Kp} {bc bs : Nat} {Q : Rs → Mem → Prop} {pc : Nat} {L : Ls} {st : List Value} {M : Mem} {k n : Nat} {x : UInt64} {i : Fin 4} (d : Dc κ pc (.dstore_n i) 1) (hi : (i : Nat) + 1 < kL κ) (ho : okS L i = true) (kk : J κ bc bs Q (pc + 1) (((i : Nat), some (.double x)) :: ((i : Nat) + 1, none) :: L) (st) M k n) : J κ bc bs Q (pc) L (.double x :: st) M k n := by
  intro p l e s m args below meth c H locs ls D B hc hB hZ hW hS hL
  obtain ⟨hx, hb, hr, hml, hown, hts, hlo, htab, hfl, hnm⟩ := id hc
  refine lv_dstore_n  (i := (i : Nat)) (lv := prs L (kL κ)) hx hb d rfl hL.has hi rfl ?_
  intro ls' h'
  exact kk p l e s m args below meth c H locs ls' D B hc hB hZ hW hS (Lc.st2 hL ho h')

theorem r_astoreN {κ : Kp} {bc bs : Nat} {Q : Rs → Mem → Prop} {pc : Nat} {L : Ls} {st : List Value} {M : Mem} {k n : Nat} {i : Nat} (d : Dc κ pc (.astore i) 2) (hi : (i : Nat) < kL κ) (ho : okS L i = true) (kk : J κ bc bs Q (pc + 2) ((i, some (.null)) :: L) (st) M k n) : J κ bc bs Q (pc) L (.null :: st) M k n := by
  intro p l e s m args below meth c H locs ls D B hc hB hZ hW hS hL
  obtain ⟨hx, hb, hr, hml, hown, hts, hlo, htab, hfl, hnm⟩ := id hc
  refine lv_astoreN (lv := prs L (kL κ)) hx hb d hL.has hi rfl ?_
  intro ls' h'
  exact kk p l e s m args below meth c H locs ls' D B hc hB hZ hW hS (Lc.st1 hL ho h')

theorem r_astoreN_n {κ : Kp} {bc bs : Nat} {Q : Rs → Mem → Prop} {pc : Nat} {L : Ls} {st : List Value} {M : Mem} {k n : Nat} {i : Fin 4} (d : Dc κ pc (.astore_n i) 1) (hi : (i : Nat) < kL κ) (ho : okS L i = true) (kk : J κ bc bs Q (pc + 1) (((i : Nat), some (.null)) :: L) (st) M k n) : J κ bc bs Q (pc) L (.null :: st) M k n := by
  intro p l e s m args below meth c H locs ls D B hc hB hZ hW hS hL
  obtain ⟨hx, hb, hr, hml, hown, hts, hlo, htab, hfl, hnm⟩ := id hc
  refine lv_astore_nN (i := (i : Nat)) (lv := prs L (kL κ)) hx hb d rfl hL.has hi rfl ?_
  intro ls' h'
  exact kk p l e s m args below meth c H locs ls' D B hc hB hZ hW hS (Lc.st1 hL ho h')

theorem r_iinc {κ : Kp} {bc bs : Nat} {Q : Rs → Mem → Prop} {pc : Nat} {L : Ls} {st : List Value} {M : Mem} {k n : Nat} {i : Nat} {z x : Int} (d : Dc κ pc (.iinc i z) 3) (h : lk L i = some (vI x)) (ho : okS L i = true) (kk : J κ bc bs Q (pc + 3) ((i, some (vI (x + z))) :: L) (st) M k n) : J κ bc bs Q (pc) L (st) M k n := by
  intro p l e s m args below meth c H locs ls D B hc hB hZ hW hS hL
  obtain ⟨hx, hb, hr, hml, hown, hts, hlo, htab, hfl, hnm⟩ := id hc
  have hm : (i, vI x) ∈ prs L (kL κ) := prs_mem.mpr ⟨hL.lt h, h⟩
  obtain ⟨k9, hk9⟩ := List.getElem?_of_mem hm
  refine lv_iinc (x := iN x) (v := iN (x + z)) (lv := prs L (kL κ)) hx hb d hL.has hk9 (iN_add x z) (hL.lt h) rfl ?_
  intro ls' h'
  exact kk p l e s m args below meth c H locs ls' D B hc hB hZ hW hS (Lc.st1 hL ho h')

theorem r_icmp_eq {κ : Kp} {bc bs : Nat} {Q : Rs → Mem → Prop} {pc : Nat} {L : Ls} {st : List Value} {M : Mem} {k n : Nat} {x y : Int} {off : Int} {tgt : Nat} (d : Dc κ pc (.if_icmp .eq off) 3) (ht : (pc : Int) + off = (tgt : Int)) (hx9 : R32 x) (hy9 : R32 y) (kt : x = y → J κ bc bs Q (tgt) L (st) M k n) (kf : ¬ (x = y) → J κ bc bs Q (pc + 3) L (st) M k n) : J κ bc bs Q (pc) L (vI y :: vI x :: st) M k n := by
  intro p l e s m args below meth c H locs ls D B hc hB hZ hW hS hL
  obtain ⟨hx, hb, hr, hml, hown, hts, hlo, htab, hfl, hnm⟩ := id hc
  refine lv_icmp_eq (x := iN x) (y := iN y) hx hb d ht (fun h => kt ?_ p l e s m args below meth c H locs ls D B hc hB hZ hW hS hL) (fun h => kf ?_ p l e s m args below meth c H locs ls D B hc hB hZ hW hS hL)
  · exact (iN_eq hx9 hy9).mp h
  · exact fun h9 => h ((iN_eq hx9 hy9).mpr h9)

theorem r_if_eq {κ : Kp} {bc bs : Nat} {Q : Rs → Mem → Prop} {pc : Nat} {L : Ls} {st : List Value} {M : Mem} {k n : Nat} {x : Int} {off : Int} {tgt : Nat} (d : Dc κ pc (.ifCond .eq off) 3) (ht : (pc : Int) + off = (tgt : Int)) (hx9 : R32 x) (kt : x = 0 → J κ bc bs Q (tgt) L (st) M k n) (kf : ¬ (x = 0) → J κ bc bs Q (pc + 3) L (st) M k n) : J κ bc bs Q (pc) L (vI x :: st) M k n := by
  intro p l e s m args below meth c H locs ls D B hc hB hZ hW hS hL
  obtain ⟨hx, hb, hr, hml, hown, hts, hlo, htab, hfl, hnm⟩ := id hc
  refine lv_if_eq (x := iN x) hx hb d ht (fun h => kt ?_ p l e s m args below meth c H locs ls D B hc hB hZ hW hS hL) (fun h => kf ?_ p l e s m args below meth c H locs ls D B hc hB hZ hW hS hL)
  · exact (iN_eq hx9 (show R32 0 by omega)).mp h
  · exact fun h9 => h ((iN_eq hx9 (show R32 0 by omega)).mpr h9)

theorem r_icmp_ne {κ : Kp} {bc bs : Nat} {Q : Rs → Mem → Prop} {pc : Nat} {L : Ls} {st : List Value} {M : Mem} {k n : Nat} {x y : Int} {off : Int} {tgt : Nat} (d : Dc κ pc (.if_icmp .ne off) 3) (ht : (pc : Int) + off = (tgt : Int)) (hx9 : R32 x) (hy9 : R32 y) (kt : ¬ x = y → J κ bc bs Q (tgt) L (st) M k n) (kf : x = y → J κ bc bs Q (pc + 3) L (st) M k n) : J κ bc bs Q (pc) L (vI y :: vI x :: st) M k n := by
  intro p l e s m args below meth c H locs ls D B hc hB hZ hW hS hL
  obtain ⟨hx, hb, hr, hml, hown, hts, hlo, htab, hfl, hnm⟩ := id hc
  refine lv_icmp_ne (x := iN x) (y := iN y) hx hb d ht (fun h => kt ?_ p l e s m args below meth c H locs ls D B hc hB hZ hW hS hL) (fun h => kf ?_ p l e s m args below meth c H locs ls D B hc hB hZ hW hS hL)
  · exact (not_congr (iN_eq hx9 hy9)).mp h
  · exact (iN_eq hx9 hy9).mp h

theorem r_if_ne {κ : Kp} {bc bs : Nat} {Q : Rs → Mem → Prop} {pc : Nat} {L : Ls} {st : List Value} {M : Mem} {k n : Nat} {x : Int} {off : Int} {tgt : Nat} (d : Dc κ pc (.ifCond .ne off) 3) (ht : (pc : Int) + off = (tgt : Int)) (hx9 : R32 x) (kt : ¬ x = 0 → J κ bc bs Q (tgt) L (st) M k n) (kf : x = 0 → J κ bc bs Q (pc + 3) L (st) M k n) : J κ bc bs Q (pc) L (vI x :: st) M k n := by
  intro p l e s m args below meth c H locs ls D B hc hB hZ hW hS hL
  obtain ⟨hx, hb, hr, hml, hown, hts, hlo, htab, hfl, hnm⟩ := id hc
  refine lv_if_ne (x := iN x) hx hb d ht (fun h => kt ?_ p l e s m args below meth c H locs ls D B hc hB hZ hW hS hL) (fun h => kf ?_ p l e s m args below meth c H locs ls D B hc hB hZ hW hS hL)
  · exact (not_congr (iN_eq hx9 (show R32 0 by omega))).mp h
  · exact (iN_eq hx9 (show R32 0 by omega)).mp h

theorem r_icmp_lt {κ : Kp} {bc bs : Nat} {Q : Rs → Mem → Prop} {pc : Nat} {L : Ls} {st : List Value} {M : Mem} {k n : Nat} {x y : Int} {off : Int} {tgt : Nat} (d : Dc κ pc (.if_icmp .lt off) 3) (ht : (pc : Int) + off = (tgt : Int)) (hx9 : R32 x) (hy9 : R32 y) (kt : x < y → J κ bc bs Q (tgt) L (st) M k n) (kf : ¬ (x < y) → J κ bc bs Q (pc + 3) L (st) M k n) : J κ bc bs Q (pc) L (vI y :: vI x :: st) M k n := by
  intro p l e s m args below meth c H locs ls D B hc hB hZ hW hS hL
  obtain ⟨hx, hb, hr, hml, hown, hts, hlo, htab, hfl, hnm⟩ := id hc
  refine lv_icmp_lt (x := iN x) (y := iN y) hx hb d ht (fun h => kt ?_ p l e s m args below meth c H locs ls D B hc hB hZ hW hS hL) (fun h => kf ?_ p l e s m args below meth c H locs ls D B hc hB hZ hW hS hL)
  · exact (iN_lt hx9 hy9).mp h
  · exact fun h9 => h ((iN_lt hx9 hy9).mpr h9)

theorem r_if_lt {κ : Kp} {bc bs : Nat} {Q : Rs → Mem → Prop} {pc : Nat} {L : Ls} {st : List Value} {M : Mem} {k n : Nat} {x : Int} {off : Int} {tgt : Nat} (d : Dc κ pc (.ifCond .lt off) 3) (ht : (pc : Int) + off = (tgt : Int)) (hx9 : R32 x) (kt : x < 0 → J κ bc bs Q (tgt) L (st) M k n) (kf : ¬ (x < 0) → J κ bc bs Q (pc + 3) L (st) M k n) : J κ bc bs Q (pc) L (vI x :: st) M k n := by
  intro p l e s m args below meth c H locs ls D B hc hB hZ hW hS hL
  obtain ⟨hx, hb, hr, hml, hown, hts, hlo, htab, hfl, hnm⟩ := id hc
  refine lv_if_lt (x := iN x) hx hb d ht (fun h => kt ?_ p l e s m args below meth c H locs ls D B hc hB hZ hW hS hL) (fun h => kf ?_ p l e s m args below meth c H locs ls D B hc hB hZ hW hS hL)
  · exact (iN_lt hx9 (show R32 0 by omega)).mp h
  · exact fun h9 => h ((iN_lt hx9 (show R32 0 by omega)).mpr h9)

theorem r_icmp_ge {κ : Kp} {bc bs : Nat} {Q : Rs → Mem → Prop} {pc : Nat} {L : Ls} {st : List Value} {M : Mem} {k n : Nat} {x y : Int} {off : Int} {tgt : Nat} (d : Dc κ pc (.if_icmp .ge off) 3) (ht : (pc : Int) + off = (tgt : Int)) (hx9 : R32 x) (hy9 : R32 y) (kt : y ≤ x → J κ bc bs Q (tgt) L (st) M k n) (kf : ¬ (y ≤ x) → J κ bc bs Q (pc + 3) L (st) M k n) : J κ bc bs Q (pc) L (vI y :: vI x :: st) M k n := by
  intro p l e s m args below meth c H locs ls D B hc hB hZ hW hS hL
  obtain ⟨hx, hb, hr, hml, hown, hts, hlo, htab, hfl, hnm⟩ := id hc
  refine lv_icmp_ge (x := iN x) (y := iN y) hx hb d ht (fun h => kt ?_ p l e s m args below meth c H locs ls D B hc hB hZ hW hS hL) (fun h => kf ?_ p l e s m args below meth c H locs ls D B hc hB hZ hW hS hL)
  · exact (iN_le hy9 hx9).mp h
  · exact fun h9 => h ((iN_le hy9 hx9).mpr h9)

theorem r_if_ge {κ : Kp} {bc bs : Nat} {Q : Rs → Mem → Prop} {pc : Nat} {L : Ls} {st : List Value} {M : Mem} {k n : Nat} {x : Int} {off : Int} {tgt : Nat} (d : Dc κ pc (.ifCond .ge off) 3) (ht : (pc : Int) + off = (tgt : Int)) (hx9 : R32 x) (kt : 0 ≤ x → J κ bc bs Q (tgt) L (st) M k n) (kf : ¬ (0 ≤ x) → J κ bc bs Q (pc + 3) L (st) M k n) : J κ bc bs Q (pc) L (vI x :: st) M k n := by
  intro p l e s m args below meth c H locs ls D B hc hB hZ hW hS hL
  obtain ⟨hx, hb, hr, hml, hown, hts, hlo, htab, hfl, hnm⟩ := id hc
  refine lv_if_ge (x := iN x) hx hb d ht (fun h => kt ?_ p l e s m args below meth c H locs ls D B hc hB hZ hW hS hL) (fun h => kf ?_ p l e s m args below meth c H locs ls D B hc hB hZ hW hS hL)
  · exact (iN_le (show R32 0 by omega) hx9).mp h
  · exact fun h9 => h ((iN_le (show R32 0 by omega) hx9).mpr h9)

theorem r_icmp_gt {κ : Kp} {bc bs : Nat} {Q : Rs → Mem → Prop} {pc : Nat} {L : Ls} {st : List Value} {M : Mem} {k n : Nat} {x y : Int} {off : Int} {tgt : Nat} (d : Dc κ pc (.if_icmp .gt off) 3) (ht : (pc : Int) + off = (tgt : Int)) (hx9 : R32 x) (hy9 : R32 y) (kt : y < x → J κ bc bs Q (tgt) L (st) M k n) (kf : ¬ (y < x) → J κ bc bs Q (pc + 3) L (st) M k n) : J κ bc bs Q (pc) L (vI y :: vI x :: st) M k n := by
  intro p l e s m args below meth c H locs ls D B hc hB hZ hW hS hL
  obtain ⟨hx, hb, hr, hml, hown, hts, hlo, htab, hfl, hnm⟩ := id hc
  refine lv_icmp_gt (x := iN x) (y := iN y) hx hb d ht (fun h => kt ?_ p l e s m args below meth c H locs ls D B hc hB hZ hW hS hL) (fun h => kf ?_ p l e s m args below meth c H locs ls D B hc hB hZ hW hS hL)
  · exact (iN_lt hy9 hx9).mp h
  · exact fun h9 => h ((iN_lt hy9 hx9).mpr h9)

theorem r_if_gt {κ : Kp} {bc bs : Nat} {Q : Rs → Mem → Prop} {pc : Nat} {L : Ls} {st : List Value} {M : Mem} {k n : Nat} {x : Int} {off : Int} {tgt : Nat} (d : Dc κ pc (.ifCond .gt off) 3) (ht : (pc : Int) + off = (tgt : Int)) (hx9 : R32 x) (kt : 0 < x → J κ bc bs Q (tgt) L (st) M k n) (kf : ¬ (0 < x) → J κ bc bs Q (pc + 3) L (st) M k n) : J κ bc bs Q (pc) L (vI x :: st) M k n := by
  intro p l e s m args below meth c H locs ls D B hc hB hZ hW hS hL
  obtain ⟨hx, hb, hr, hml, hown, hts, hlo, htab, hfl, hnm⟩ := id hc
  refine lv_if_gt (x := iN x) hx hb d ht (fun h => kt ?_ p l e s m args below meth c H locs ls D B hc hB hZ hW hS hL) (fun h => kf ?_ p l e s m args below meth c H locs ls D B hc hB hZ hW hS hL)
  · exact (iN_lt (show R32 0 by omega) hx9).mp h
  · exact fun h9 => h ((iN_lt (show R32 0 by omega) hx9).mpr h9)

theorem r_icmp_le {κ : Kp} {bc bs : Nat} {Q : Rs → Mem → Prop} {pc : Nat} {L : Ls} {st : List Value} {M : Mem} {k n : Nat} {x y : Int} {off : Int} {tgt : Nat} (d : Dc κ pc (.if_icmp .le off) 3) (ht : (pc : Int) + off = (tgt : Int)) (hx9 : R32 x) (hy9 : R32 y) (kt : x ≤ y → J κ bc bs Q (tgt) L (st) M k n) (kf : ¬ (x ≤ y) → J κ bc bs Q (pc + 3) L (st) M k n) : J κ bc bs Q (pc) L (vI y :: vI x :: st) M k n := by
  intro p l e s m args below meth c H locs ls D B hc hB hZ hW hS hL
  obtain ⟨hx, hb, hr, hml, hown, hts, hlo, htab, hfl, hnm⟩ := id hc
  refine lv_icmp_le (x := iN x) (y := iN y) hx hb d ht (fun h => kt ?_ p l e s m args below meth c H locs ls D B hc hB hZ hW hS hL) (fun h => kf ?_ p l e s m args below meth c H locs ls D B hc hB hZ hW hS hL)
  · exact (iN_le hx9 hy9).mp h
  · exact fun h9 => h ((iN_le hx9 hy9).mpr h9)

theorem r_if_le {κ : Kp} {bc bs : Nat} {Q : Rs → Mem → Prop} {pc : Nat} {L : Ls} {st : List Value} {M : Mem} {k n : Nat} {x : Int} {off : Int} {tgt : Nat} (d : Dc κ pc (.ifCond .le off) 3) (ht : (pc : Int) + off = (tgt : Int)) (hx9 : R32 x) (kt : x ≤ 0 → J κ bc bs Q (tgt) L (st) M k n) (kf : ¬ (x ≤ 0) → J κ bc bs Q (pc + 3) L (st) M k n) : J κ bc bs Q (pc) L (vI x :: st) M k n := by
  intro p l e s m args below meth c H locs ls D B hc hB hZ hW hS hL
  obtain ⟨hx, hb, hr, hml, hown, hts, hlo, htab, hfl, hnm⟩ := id hc
  refine lv_if_le (x := iN x) hx hb d ht (fun h => kt ?_ p l e s m args below meth c H locs ls D B hc hB hZ hW hS hL) (fun h => kf ?_ p l e s m args below meth c H locs ls D B hc hB hZ hW hS hL)
  · exact (iN_le hx9 (show R32 0 by omega)).mp h
  · exact fun h9 => h ((iN_le hx9 (show R32 0 by omega)).mpr h9)

theorem r_goto {κ : Kp} {bc bs : Nat} {Q : Rs → Mem → Prop} {pc : Nat} {L : Ls} {st : List Value} {M : Mem} {k n : Nat} {off : Int} {tgt : Nat} (d : Dc κ pc (.goto off) 3) (ht : (pc : Int) + off = (tgt : Int)) (kk : J κ bc bs Q (tgt) L (st) M k n) : J κ bc bs Q (pc) L (st) M k n := by
  intro p l e s m args below meth c H locs ls D B hc hB hZ hW hS hL
  obtain ⟨hx, hb, hr, hml, hown, hts, hlo, htab, hfl, hnm⟩ := id hc
  exact lv_goto hx hb d ht (kk p l e s m args below meth c H locs ls D B hc hB hZ hW hS hL)

theorem r_ifnull {κ : Kp} {bc bs : Nat} {Q : Rs → Mem → Prop} {pc : Nat} {L : Ls} {st : List Value} {M : Mem} {k n : Nat} {a : Nat} {off : Int} (d : Dc κ pc (.ifnull off) 3) (kk : J κ bc bs Q (pc + 3) L (st) M k n) : J κ bc bs Q (pc) L (.ref a :: st) M k n := by
  intro p l e s m args below meth c H locs ls D B hc hB hZ hW hS hL
  obtain ⟨hx, hb, hr, hml, hown, hts, hlo, htab, hfl, hnm⟩ := id hc
  exact lv_ifnull hx hb d (kk p l e s m args below meth c H locs ls D B hc hB hZ hW hS hL)

theorem r_ifnullN {κ : Kp} {bc bs : Nat} {Q : Rs → Mem → Prop} {pc : Nat} {L : Ls} {st : List Value} {M : Mem} {k n : Nat} {off : Int} {tgt : Nat} (d : Dc κ pc (.ifnull off) 3) (ht : (pc : Int) + off = (tgt : Int)) (kk : J κ bc bs Q (tgt) L (st) M k n) : J κ bc bs Q (pc) L (.null :: st) M k n := by
  intro p l e s m args below meth c H locs ls D B hc hB hZ hW hS hL
  obtain ⟨hx, hb, hr, hml, hown, hts, hlo, htab, hfl, hnm⟩ := id hc
  exact lv_ifnullN hx hb d ht (kk p l e s m args below meth c H locs ls D B hc hB hZ hW hS hL)

theorem r_ifnonnull {κ : Kp} {bc bs : Nat} {Q : Rs → Mem → Prop} {pc : Nat} {L : Ls} {st : List Value} {M : Mem} {k n : Nat} {a : Nat} {off : Int} {tgt : Nat} (d : Dc κ pc (.ifnonnull off) 3) (ht : (pc : Int) + off = (tgt : Int)) (kk : J κ bc bs Q (tgt) L (st) M k n) : J κ bc bs Q (pc) L (.ref a :: st) M k n := by
  intro p l e s m args below meth c H locs ls D B hc hB hZ hW hS hL
  obtain ⟨hx, hb, hr, hml, hown, hts, hlo, htab, hfl, hnm⟩ := id hc
  exact lv_ifnonnull hx hb d ht (kk p l e s m args below meth c H locs ls D B hc hB hZ hW hS hL)

theorem r_ifnonnullN {κ : Kp} {bc bs : Nat} {Q : Rs → Mem → Prop} {pc : Nat} {L : Ls} {st : List Value} {M : Mem} {k n : Nat} {off : Int} (d : Dc κ pc (.ifnonnull off) 3) (kk : J κ bc bs Q (pc + 3) L (st) M k n) : J κ bc bs Q (pc) L (.null :: st) M k n := by
  intro p l e s m args below meth c H locs ls D B hc hB hZ hW hS hL
  obtain ⟨hx, hb, hr, hml, hown, hts, hlo, htab, hfl, hnm⟩ := id hc
  exact lv_ifnonnullN hx hb d (kk p l e s m args below meth c H locs ls D B hc hB hZ hW hS hL)

theorem r_tableIn {κ : Kp} {bc bs : Nat} {Q : Rs → Mem → Prop} {pc : Nat} {L : Ls} {st : List Value} {M : Mem} {k n : Nat} {x : Int} {dflt lo hi : Int} {offs : Array Int} {len : Nat} {off : Int} {tgt : Nat} (d : Dc κ pc (.tableswitch dflt lo hi offs) len) (hx9 : R32 x) (h1 : lo ≤ x) (h2 : x ≤ hi) (ho : offs[(x - lo).toNat]? = some off) (ht : (pc : Int) + off = (tgt : Int)) (kk : J κ bc bs Q (tgt) L (st) M k n) : J κ bc bs Q (pc) L (vI x :: st) M k n := by
  intro p l e s m args below meth c H locs ls D B hc hB hZ hW hS hL
  obtain ⟨hx, hb, hr, hml, hown, hts, hlo, htab, hfl, hnm⟩ := id hc
  exact lv_tableIn (x := iN x) hx hb d (by rw [iN_toInt hx9]; omega) (by rw [iN_toInt hx9]; omega) (by rw [iN_toInt hx9]; exact ho) ht (kk p l e s m args below meth c H locs ls D B hc hB hZ hW hS hL)

theorem r_tableOut {κ : Kp} {bc bs : Nat} {Q : Rs → Mem → Prop} {pc : Nat} {L : Ls} {st : List Value} {M : Mem} {k n : Nat} {x : Int} {dflt lo hi : Int} {offs : Array Int} {len : Nat} {tgt : Nat} (d : Dc κ pc (.tableswitch dflt lo hi offs) len) (hx9 : R32 x) (h1 : x < lo ∨ hi < x) (ht : (pc : Int) + dflt = (tgt : Int)) (kk : J κ bc bs Q (tgt) L (st) M k n) : J κ bc bs Q (pc) L (vI x :: st) M k n := by
  intro p l e s m args below meth c H locs ls D B hc hB hZ hW hS hL
  obtain ⟨hx, hb, hr, hml, hown, hts, hlo, htab, hfl, hnm⟩ := id hc
  exact lv_tableOut (x := iN x) hx hb d (by rw [iN_toInt hx9]; exact h1) ht (kk p l e s m args below meth c H locs ls D B hc hB hZ hW hS hL)

