/-! THE JUDGEMENT zV: a point of a method's walk, told by its world (a list of cells), its locals and its stack. Heap, locations and frames are quantified inside. -/
section ZB
abbrev zX : Type := Program × Launch × Env × Room × State × MethodId × Array Value × List Frame × Method × Code × (State → Prop) × (Nat → Prop)
def zV : zX → va_G → Nat → Nat → Nat → va_W → Nat → List (Nat × Value) → List Value → Prop :=
  fun X D nL cells slots ws pc lv st => match X with
  | (p, l, e, R, s, m, args, below, meth, c, Q, A) => ∀ (H : Heap) (locs : List Loc) (ls : Array Slot), va_P D vwCl ws H → va_D A ws → va_S A s.heap H locs → lv_has ls nL lv → W p l e R s m args below meth c H locs cells slots Q (F0 m pc ls st)
def zN (U : State) : Prop := va_Nw (.methodLinkNest RX0 47 yX4_roundedDown "TheodoliteRow") U ∧ va_Nw (.methodLinkNest RX3 46 yX4_roundedDown "TheodoliteRow") U
theorem zN.same {u U : State} (h : u.vm = U.vm) (z : zN u) : zN U := ⟨va_Nw.same rfl h z.1, va_Nw.same rfl h z.2⟩
theorem zN.warm {s U : State} (hW : s.WarmedH U.vm) (z : zN s) : zN U := ⟨va_Nw.warmM hW z.1, va_Nw.warmM hW z.2⟩
def zC : zX → va_G → Nat → ByteArray → String → List Cond → List (ClassId × FieldType) → Prop :=
  fun X D nL cc own Ts tys => match X with
  | (p, _, _, _, s, m, args, _, meth, c, _, A) => p.tables.exec = Jvm.exec ∧ c.code = cc ∧ c.maxLocals = nL ∧ s.vm.findClass own = some m.cls ∧ (∀ w ∈ Ts, w.before args s = true) ∧ va_K D vwCl tys s ∧ (∀ q : Nat, s.heap.size ≤ q → A q) ∧ meth.locks = false ∧ zN s
def zR : zX → Room → Prop := fun X rm => match X with | (_, _, _, R, _) => R = rm
def zL : zX → Launch → Prop := fun X l0 => match X with | (_, l, _) => l = l0
variable {X : zX} {D : va_G} {nL : Nat} {cc : ByteArray} {own : String} {Ts : List Cond} {tys : List (ClassId × FieldType)} {cells slots : Nat} {ws : va_W} {pc : Nat} {lv lv' : List (Nat × Value)} {st : List Value}
theorem z_iload_n (C : zC X D nL cc own Ts tys) {k : Fin 4} (j : Nat) {x : Int32} (hdg : decode cc pc = .ok (.iload_n k, 1)) (hl : lv[j]? = some ((k : Nat), .int x)) (kk : zV X D nL cells slots ws (pc + 1) lv (.int x :: st)) : zV X D nL cells slots ws pc lv (st) := by
  obtain ⟨p, l, e, R, s, m, args, below, meth, c, Q, A⟩ := X
  obtain ⟨hx, hb, hml, hown, hts, hK, hA, hlk, hN⟩ := C
  intro H locs ls hP hD hS hv
  exact lv_iload_n hx hb hdg rfl (lv_at hv j hl) (kk H locs ls hP hD hS hv)
theorem z_lload_n (C : zC X D nL cc own Ts tys) {k : Fin 4} (j : Nat) {x : Int64} (hdg : decode cc pc = .ok (.lload_n k, 1)) (hl : lv[j]? = some ((k : Nat), .long x)) (kk : zV X D nL cells slots ws (pc + 1) lv (.long x :: st)) : zV X D nL cells slots ws pc lv (st) := by
  obtain ⟨p, l, e, R, s, m, args, below, meth, c, Q, A⟩ := X
  obtain ⟨hx, hb, hml, hown, hts, hK, hA, hlk, hN⟩ := C
  intro H locs ls hP hD hS hv
  exact lv_lload_n hx hb hdg rfl (lv_at hv j hl) (kk H locs ls hP hD hS hv)
theorem z_aload_n (C : zC X D nL cc own Ts tys) {k : Fin 4} (j : Nat) {x : Nat} (hdg : decode cc pc = .ok (.aload_n k, 1)) (hl : lv[j]? = some ((k : Nat), .ref x)) (kk : zV X D nL cells slots ws (pc + 1) lv (.ref x :: st)) : zV X D nL cells slots ws pc lv (st) := by
  obtain ⟨p, l, e, R, s, m, args, below, meth, c, Q, A⟩ := X
  obtain ⟨hx, hb, hml, hown, hts, hK, hA, hlk, hN⟩ := C
  intro H locs ls hP hD hS hv
  exact lv_aload_n hx hb hdg rfl (lv_at hv j hl) (kk H locs ls hP hD hS hv)
theorem z_iload (C : zC X D nL cc own Ts tys) {i : Nat} (j : Nat) {x : Int32} (hdg : decode cc pc = .ok (.iload i, 2)) (hl : lv[j]? = some (i, .int x)) (kk : zV X D nL cells slots ws (pc + 2) lv (.int x :: st)) : zV X D nL cells slots ws pc lv (st) := by
  obtain ⟨p, l, e, R, s, m, args, below, meth, c, Q, A⟩ := X
  obtain ⟨hx, hb, hml, hown, hts, hK, hA, hlk, hN⟩ := C
  intro H locs ls hP hD hS hv
  exact lv_iload hx hb hdg (lv_at hv j hl) (kk H locs ls hP hD hS hv)
theorem z_lload (C : zC X D nL cc own Ts tys) {i : Nat} (j : Nat) {x : Int64} (hdg : decode cc pc = .ok (.lload i, 2)) (hl : lv[j]? = some (i, .long x)) (kk : zV X D nL cells slots ws (pc + 2) lv (.long x :: st)) : zV X D nL cells slots ws pc lv (st) := by
  obtain ⟨p, l, e, R, s, m, args, below, meth, c, Q, A⟩ := X
  obtain ⟨hx, hb, hml, hown, hts, hK, hA, hlk, hN⟩ := C
  intro H locs ls hP hD hS hv
  exact lv_lload hx hb hdg (lv_at hv j hl) (kk H locs ls hP hD hS hv)
theorem z_aload (C : zC X D nL cc own Ts tys) {i : Nat} (j : Nat) {x : Nat} (hdg : decode cc pc = .ok (.aload i, 2)) (hl : lv[j]? = some (i, .ref x)) (kk : zV X D nL cells slots ws (pc + 2) lv (.ref x :: st)) : zV X D nL cells slots ws pc lv (st) := by
  obtain ⟨p, l, e, R, s, m, args, below, meth, c, Q, A⟩ := X
  obtain ⟨hx, hb, hml, hown, hts, hK, hA, hlk, hN⟩ := C
  intro H locs ls hP hD hS hv
  exact lv_aload hx hb hdg (lv_at hv j hl) (kk H locs ls hP hD hS hv)
theorem z_istore (C : zC X D nL cc own Ts tys) {i : Nat} {x : Int32} (hdg : decode cc pc = .ok (.istore i, 2)) (hn : i < nL) (hl : (i, Value.int x) :: lv.filter (fun q => !(q.1 == i) && !(q.1 + 1 == i && q.2.category == 2)) = lv') (kk : zV X D nL cells slots ws (pc + 2) lv' (st)) : zV X D nL cells slots ws pc lv (.int x :: st) := by
  obtain ⟨p, l, e, R, s, m, args, below, meth, c, Q, A⟩ := X
  obtain ⟨hx, hb, hml, hown, hts, hK, hA, hlk, hN⟩ := C
  intro H locs ls hP hD hS hv
  exact lv_istore hx hb hdg hv hn hl (fun ls2 hv2 => kk H locs ls2 hP hD hS hv2)
theorem z_istore_n (C : zC X D nL cc own Ts tys) {k : Fin 4} (i : Nat) {x : Int32} (hdg : decode cc pc = .ok (.istore_n k, 1)) (hi : (k : Nat) = i) (hn : i < nL) (hl : (i, Value.int x) :: lv.filter (fun q => !(q.1 == i) && !(q.1 + 1 == i && q.2.category == 2)) = lv') (kk : zV X D nL cells slots ws (pc + 1) lv' (st)) : zV X D nL cells slots ws pc lv (.int x :: st) := by
  obtain ⟨p, l, e, R, s, m, args, below, meth, c, Q, A⟩ := X
  obtain ⟨hx, hb, hml, hown, hts, hK, hA, hlk, hN⟩ := C
  intro H locs ls hP hD hS hv
  exact lv_istore_n hx hb hdg hi hv hn hl (fun ls2 hv2 => kk H locs ls2 hP hD hS hv2)
theorem z_lstore (C : zC X D nL cc own Ts tys) {i : Nat} {x : Int64} (hdg : decode cc pc = .ok (.lstore i, 2)) (hn : i + 1 < nL) (hl : (i, Value.long x) :: lv.filter (fun q => !(q.1 == i) && (!(q.1 == i + 1) && !(q.1 + 1 == i && q.2.category == 2))) = lv') (kk : zV X D nL cells slots ws (pc + 2) lv' (st)) : zV X D nL cells slots ws pc lv (.long x :: st) := by
  obtain ⟨p, l, e, R, s, m, args, below, meth, c, Q, A⟩ := X
  obtain ⟨hx, hb, hml, hown, hts, hK, hA, hlk, hN⟩ := C
  intro H locs ls hP hD hS hv
  exact lv_lstore hx hb hdg hv hn hl (fun ls2 hv2 => kk H locs ls2 hP hD hS hv2)
theorem z_lstore_n (C : zC X D nL cc own Ts tys) {k : Fin 4} (i : Nat) {x : Int64} (hdg : decode cc pc = .ok (.lstore_n k, 1)) (hi : (k : Nat) = i) (hn : i + 1 < nL) (hl : (i, Value.long x) :: lv.filter (fun q => !(q.1 == i) && (!(q.1 == i + 1) && !(q.1 + 1 == i && q.2.category == 2))) = lv') (kk : zV X D nL cells slots ws (pc + 1) lv' (st)) : zV X D nL cells slots ws pc lv (.long x :: st) := by
  obtain ⟨p, l, e, R, s, m, args, below, meth, c, Q, A⟩ := X
  obtain ⟨hx, hb, hml, hown, hts, hK, hA, hlk, hN⟩ := C
  intro H locs ls hP hD hS hv
  exact lv_lstore_n hx hb hdg hi hv hn hl (fun ls2 hv2 => kk H locs ls2 hP hD hS hv2)
theorem z_astore (C : zC X D nL cc own Ts tys) {i : Nat} {x : Nat} (hdg : decode cc pc = .ok (.astore i, 2)) (hn : i < nL) (hl : (i, Value.ref x) :: lv.filter (fun q => !(q.1 == i) && !(q.1 + 1 == i && q.2.category == 2)) = lv') (kk : zV X D nL cells slots ws (pc + 2) lv' (st)) : zV X D nL cells slots ws pc lv (.ref x :: st) := by
  obtain ⟨p, l, e, R, s, m, args, below, meth, c, Q, A⟩ := X
  obtain ⟨hx, hb, hml, hown, hts, hK, hA, hlk, hN⟩ := C
  intro H locs ls hP hD hS hv
  exact lv_astore hx hb hdg hv hn hl (fun ls2 hv2 => kk H locs ls2 hP hD hS hv2)
theorem z_astore_n (C : zC X D nL cc own Ts tys) {k : Fin 4} (i : Nat) {x : Nat} (hdg : decode cc pc = .ok (.astore_n k, 1)) (hi : (k : Nat) = i) (hn : i < nL) (hl : (i, Value.ref x) :: lv.filter (fun q => !(q.1 == i) && !(q.1 + 1 == i && q.2.category == 2)) = lv') (kk : zV X D nL cells slots ws (pc + 1) lv' (st)) : zV X D nL cells slots ws pc lv (.ref x :: st) := by
  obtain ⟨p, l, e, R, s, m, args, below, meth, c, Q, A⟩ := X
  obtain ⟨hx, hb, hml, hown, hts, hK, hA, hlk, hN⟩ := C
  intro H locs ls hP hD hS hv
  exact lv_astore_n hx hb hdg hi hv hn hl (fun ls2 hv2 => kk H locs ls2 hP hD hS hv2)
theorem z_iinc (C : zC X D nL cc own Ts tys) {i : Nat} (j : Nat) {n : Int} {x v : Int32} (hdg : decode cc pc = .ok (.iinc i n, 3)) (hk : lv[j]? = some (i, .int x)) (hv0 : x + Int32.ofInt n = v) (hn : i < nL) (hl : (i, Value.int v) :: lv.filter (fun q => !(q.1 == i) && !(q.1 + 1 == i && q.2.category == 2)) = lv') (kk : zV X D nL cells slots ws (pc + 3) lv' (st)) : zV X D nL cells slots ws pc lv (st) := by
  obtain ⟨p, l, e, R, s, m, args, below, meth, c, Q, A⟩ := X
  obtain ⟨hx, hb, hml, hown, hts, hK, hA, hlk, hN⟩ := C
  intro H locs ls hP hD hS hv
  exact lv_iinc hx hb hdg hv hk hv0 hn hl (fun ls2 hv2 => kk H locs ls2 hP hD hS hv2)
theorem z_iconst (C : zC X D nL cc own Ts tys) {n : Int} (v : Int32) (hdg : decode cc pc = .ok (.iconst n, 1)) (hv0 : Int32.ofInt n = v) (kk : zV X D nL cells slots ws (pc + 1) lv (.int v :: st)) : zV X D nL cells slots ws pc lv (st) := by
  obtain ⟨p, l, e, R, s, m, args, below, meth, c, Q, A⟩ := X
  obtain ⟨hx, hb, hml, hown, hts, hK, hA, hlk, hN⟩ := C
  intro H locs ls hP hD hS hv
  exact lv_iconst hx hb hdg hv0 (kk H locs ls hP hD hS hv)
theorem z_bipush (C : zC X D nL cc own Ts tys) {n : Int} (v : Int32) (hdg : decode cc pc = .ok (.bipush n, 2)) (hv0 : (Int8.ofInt n).toInt32 = v) (kk : zV X D nL cells slots ws (pc + 2) lv (.int v :: st)) : zV X D nL cells slots ws pc lv (st) := by
  obtain ⟨p, l, e, R, s, m, args, below, meth, c, Q, A⟩ := X
  obtain ⟨hx, hb, hml, hown, hts, hK, hA, hlk, hN⟩ := C
  intro H locs ls hP hD hS hv
  exact lv_bipush hx hb hdg hv0 (kk H locs ls hP hD hS hv)
theorem z_sipush (C : zC X D nL cc own Ts tys) {n : Int} (v : Int32) (hdg : decode cc pc = .ok (.sipush n, 3)) (hv0 : (Int16.ofInt n).toInt32 = v) (kk : zV X D nL cells slots ws (pc + 3) lv (.int v :: st)) : zV X D nL cells slots ws pc lv (st) := by
  obtain ⟨p, l, e, R, s, m, args, below, meth, c, Q, A⟩ := X
  obtain ⟨hx, hb, hml, hown, hts, hK, hA, hlk, hN⟩ := C
  intro H locs ls hP hD hS hv
  exact lv_sipush hx hb hdg hv0 (kk H locs ls hP hD hS hv)
theorem z_lconst (C : zC X D nL cc own Ts tys) {n : Fin 2} (v : Int64) (hdg : decode cc pc = .ok (.lconst n, 1)) (hv0 : Int64.ofNat (n : Nat) = v) (kk : zV X D nL cells slots ws (pc + 1) lv (.long v :: st)) : zV X D nL cells slots ws pc lv (st) := by
  obtain ⟨p, l, e, R, s, m, args, below, meth, c, Q, A⟩ := X
  obtain ⟨hx, hb, hml, hown, hts, hK, hA, hlk, hN⟩ := C
  intro H locs ls hP hD hS hv
  exact lv_lconst hx hb hdg hv0 (kk H locs ls hP hD hS hv)
theorem z_ldc2 (C : zC X D nL cc own Ts tys) {index : Nat} (v : Int64) (hw : Jvm.Cond.constantLong own index v ∈ Ts) (hdg : decode cc pc = .ok (.ldc2_w index, 3)) (kk : zV X D nL cells slots ws (pc + 3) lv (.long v :: st)) : zV X D nL cells slots ws pc lv (st) := by
  obtain ⟨p, l, e, R, s, m, args, below, meth, c, Q, A⟩ := X
  obtain ⟨hx, hb, hml, hown, hts, hK, hA, hlk, hN⟩ := C
  intro H locs ls hP hD hS hv
  exact lv_ldc2 hx hb hown (hts _ hw) hdg (kk H locs ls hP hD hS hv)
theorem z_ldc (C : zC X D nL cc own Ts tys) {index : Nat} (v : Int32) (hw : Jvm.Cond.constant own index v ∈ Ts) (hdg : decode cc pc = .ok (.ldc index, 2)) (kk : zV X D nL cells slots ws (pc + 2) lv (.int v :: st)) : zV X D nL cells slots ws pc lv (st) := by
  obtain ⟨p, l, e, R, s, m, args, below, meth, c, Q, A⟩ := X
  obtain ⟨hx, hb, hml, hown, hts, hK, hA, hlk, hN⟩ := C
  intro H locs ls hP hD hS hv
  exact lv_ldc hx hb hown (hts _ hw) hdg (kk H locs ls hP hD hS hv)
theorem z_iadd (C : zC X D nL cc own Ts tys) {x y : Int32} (hdg : decode cc pc = .ok (.iadd, 1)) (kk : zV X D nL cells slots ws (pc + 1) lv (.int (x + y) :: st)) : zV X D nL cells slots ws pc lv (.int y :: .int x :: st) := by
  obtain ⟨p, l, e, R, s, m, args, below, meth, c, Q, A⟩ := X
  obtain ⟨hx, hb, hml, hown, hts, hK, hA, hlk, hN⟩ := C
  intro H locs ls hP hD hS hv
  exact lv_iadd hx hb hdg (kk H locs ls hP hD hS hv)
theorem z_isub (C : zC X D nL cc own Ts tys) {x y : Int32} (hdg : decode cc pc = .ok (.isub, 1)) (kk : zV X D nL cells slots ws (pc + 1) lv (.int (x - y) :: st)) : zV X D nL cells slots ws pc lv (.int y :: .int x :: st) := by
  obtain ⟨p, l, e, R, s, m, args, below, meth, c, Q, A⟩ := X
  obtain ⟨hx, hb, hml, hown, hts, hK, hA, hlk, hN⟩ := C
  intro H locs ls hP hD hS hv
  exact lv_isub hx hb hdg (kk H locs ls hP hD hS hv)
theorem z_imul (C : zC X D nL cc own Ts tys) {x y : Int32} (hdg : decode cc pc = .ok (.imul, 1)) (kk : zV X D nL cells slots ws (pc + 1) lv (.int (x * y) :: st)) : zV X D nL cells slots ws pc lv (.int y :: .int x :: st) := by
  obtain ⟨p, l, e, R, s, m, args, below, meth, c, Q, A⟩ := X
  obtain ⟨hx, hb, hml, hown, hts, hK, hA, hlk, hN⟩ := C
  intro H locs ls hP hD hS hv
  exact lv_imul hx hb hdg (kk H locs ls hP hD hS hv)
theorem z_iand (C : zC X D nL cc own Ts tys) {x y : Int32} (hdg : decode cc pc = .ok (.iand, 1)) (kk : zV X D nL cells slots ws (pc + 1) lv (.int (x &&& y) :: st)) : zV X D nL cells slots ws pc lv (.int y :: .int x :: st) := by
  obtain ⟨p, l, e, R, s, m, args, below, meth, c, Q, A⟩ := X
  obtain ⟨hx, hb, hml, hown, hts, hK, hA, hlk, hN⟩ := C
  intro H locs ls hP hD hS hv
  exact lv_iand hx hb hdg (kk H locs ls hP hD hS hv)
theorem z_ladd (C : zC X D nL cc own Ts tys) {x y : Int64} (hdg : decode cc pc = .ok (.ladd, 1)) (kk : zV X D nL cells slots ws (pc + 1) lv (.long (x + y) :: st)) : zV X D nL cells slots ws pc lv (.long y :: .long x :: st) := by
  obtain ⟨p, l, e, R, s, m, args, below, meth, c, Q, A⟩ := X
  obtain ⟨hx, hb, hml, hown, hts, hK, hA, hlk, hN⟩ := C
  intro H locs ls hP hD hS hv
  exact lv_ladd hx hb hdg (kk H locs ls hP hD hS hv)
theorem z_lsub (C : zC X D nL cc own Ts tys) {x y : Int64} (hdg : decode cc pc = .ok (.lsub, 1)) (kk : zV X D nL cells slots ws (pc + 1) lv (.long (x - y) :: st)) : zV X D nL cells slots ws pc lv (.long y :: .long x :: st) := by
  obtain ⟨p, l, e, R, s, m, args, below, meth, c, Q, A⟩ := X
  obtain ⟨hx, hb, hml, hown, hts, hK, hA, hlk, hN⟩ := C
  intro H locs ls hP hD hS hv
  exact lv_lsub hx hb hdg (kk H locs ls hP hD hS hv)
theorem z_lmul (C : zC X D nL cc own Ts tys) {x y : Int64} (hdg : decode cc pc = .ok (.lmul, 1)) (kk : zV X D nL cells slots ws (pc + 1) lv (.long (x * y) :: st)) : zV X D nL cells slots ws pc lv (.long y :: .long x :: st) := by
  obtain ⟨p, l, e, R, s, m, args, below, meth, c, Q, A⟩ := X
  obtain ⟨hx, hb, hml, hown, hts, hK, hA, hlk, hN⟩ := C
  intro H locs ls hP hD hS hv
  exact lv_lmul hx hb hdg (kk H locs ls hP hD hS hv)
theorem z_lxor (C : zC X D nL cc own Ts tys) {x y : Int64} (hdg : decode cc pc = .ok (.lxor, 1)) (kk : zV X D nL cells slots ws (pc + 1) lv (.long (x ^^^ y) :: st)) : zV X D nL cells slots ws pc lv (.long y :: .long x :: st) := by
  obtain ⟨p, l, e, R, s, m, args, below, meth, c, Q, A⟩ := X
  obtain ⟨hx, hb, hml, hown, hts, hK, hA, hlk, hN⟩ := C
  intro H locs ls hP hD hS hv
  exact lv_lxor hx hb hdg (kk H locs ls hP hD hS hv)
theorem z_ineg (C : zC X D nL cc own Ts tys) {x : Int32} (hdg : decode cc pc = .ok (.ineg, 1)) (kk : zV X D nL cells slots ws (pc + 1) lv (.int (-x) :: st)) : zV X D nL cells slots ws pc lv (.int x :: st) := by
  obtain ⟨p, l, e, R, s, m, args, below, meth, c, Q, A⟩ := X
  obtain ⟨hx, hb, hml, hown, hts, hK, hA, hlk, hN⟩ := C
  intro H locs ls hP hD hS hv
  exact lv_ineg hx hb hdg (kk H locs ls hP hD hS hv)
theorem z_lneg (C : zC X D nL cc own Ts tys) {x : Int64} (hdg : decode cc pc = .ok (.lneg, 1)) (kk : zV X D nL cells slots ws (pc + 1) lv (.long (-x) :: st)) : zV X D nL cells slots ws pc lv (.long x :: st) := by
  obtain ⟨p, l, e, R, s, m, args, below, meth, c, Q, A⟩ := X
  obtain ⟨hx, hb, hml, hown, hts, hK, hA, hlk, hN⟩ := C
  intro H locs ls hP hD hS hv
  exact lv_lneg hx hb hdg (kk H locs ls hP hD hS hv)
theorem z_i2l (C : zC X D nL cc own Ts tys) {x : Int32} (hdg : decode cc pc = .ok (.i2l, 1)) (kk : zV X D nL cells slots ws (pc + 1) lv (.long (x.toInt64) :: st)) : zV X D nL cells slots ws pc lv (.int x :: st) := by
  obtain ⟨p, l, e, R, s, m, args, below, meth, c, Q, A⟩ := X
  obtain ⟨hx, hb, hml, hown, hts, hK, hA, hlk, hN⟩ := C
  intro H locs ls hP hD hS hv
  exact lv_i2l hx hb hdg rfl (kk H locs ls hP hD hS hv)
theorem z_l2i (C : zC X D nL cc own Ts tys) {x : Int64} (hdg : decode cc pc = .ok (.l2i, 1)) (kk : zV X D nL cells slots ws (pc + 1) lv (.int (x.toInt32) :: st)) : zV X D nL cells slots ws pc lv (.long x :: st) := by
  obtain ⟨p, l, e, R, s, m, args, below, meth, c, Q, A⟩ := X
  obtain ⟨hx, hb, hml, hown, hts, hK, hA, hlk, hN⟩ := C
  intro H locs ls hP hD hS hv
  exact lv_l2i hx hb hdg rfl (kk H locs ls hP hD hS hv)
theorem z_ldiv (C : zC X D nL cc own Ts tys) {x y : Int64} (hdg : decode cc pc = .ok (.ldiv, 1)) (hne : ¬ y = 0) (kk : zV X D nL cells slots ws (pc + 1) lv (.long (x / y) :: st)) : zV X D nL cells slots ws pc lv (.long y :: .long x :: st) := by
  obtain ⟨p, l, e, R, s, m, args, below, meth, c, Q, A⟩ := X
  obtain ⟨hx, hb, hml, hown, hts, hK, hA, hlk, hN⟩ := C
  intro H locs ls hP hD hS hv
  exact lv_ldiv hx hb hdg hne (kk H locs ls hP hD hS hv)
theorem z_dup (C : zC X D nL cc own Ts tys) {v : Value} (hdg : decode cc pc = .ok (.dup, 1)) (hc : v.category = 1) (kk : zV X D nL cells slots ws (pc + 1) lv (v :: v :: st)) : zV X D nL cells slots ws pc lv (v :: st) := by
  obtain ⟨p, l, e, R, s, m, args, below, meth, c, Q, A⟩ := X
  obtain ⟨hx, hb, hml, hown, hts, hK, hA, hlk, hN⟩ := C
  intro H locs ls hP hD hS hv
  exact lv_dup hx hb hdg hc (kk H locs ls hP hD hS hv)
theorem z_dup2 (C : zC X D nL cc own Ts tys) {v u : Value} (hdg : decode cc pc = .ok (.dup2, 1)) (hc : v.category = 1) (hc2 : u.category = 1) (kk : zV X D nL cells slots ws (pc + 1) lv (v :: u :: v :: u :: st)) : zV X D nL cells slots ws pc lv (v :: u :: st) := by
  obtain ⟨p, l, e, R, s, m, args, below, meth, c, Q, A⟩ := X
  obtain ⟨hx, hb, hml, hown, hts, hK, hA, hlk, hN⟩ := C
  intro H locs ls hP hD hS hv
  exact lv_dup2_11 hx hb hdg hc hc2 (kk H locs ls hP hD hS hv)
theorem z_pop (C : zC X D nL cc own Ts tys) {v : Value} (hdg : decode cc pc = .ok (.pop, 1)) (hc : v.category = 1) (kk : zV X D nL cells slots ws (pc + 1) lv (st)) : zV X D nL cells slots ws pc lv (v :: st) := by
  obtain ⟨p, l, e, R, s, m, args, below, meth, c, Q, A⟩ := X
  obtain ⟨hx, hb, hml, hown, hts, hK, hA, hlk, hN⟩ := C
  intro H locs ls hP hD hS hv
  exact lv_pop hx hb hdg hc (kk H locs ls hP hD hS hv)
theorem z_goto (C : zC X D nL cc own Ts tys) {off : Int} (tgt : Nat) (hdg : decode cc pc = .ok (.goto off, 3)) (ht : (pc : Int) + off = (tgt : Int)) (kk : zV X D nL cells slots ws tgt lv (st)) : zV X D nL cells slots ws pc lv (st) := by
  obtain ⟨p, l, e, R, s, m, args, below, meth, c, Q, A⟩ := X
  obtain ⟨hx, hb, hml, hown, hts, hK, hA, hlk, hN⟩ := C
  intro H locs ls hP hD hS hv
  exact lv_goto hx hb hdg ht (kk H locs ls hP hD hS hv)
theorem z_if_eq (C : zC X D nL cc own Ts tys) {x : Int32} {off : Int} (tgt : Nat) (hdg : decode cc pc = .ok (.ifCond .eq off, 3)) (ht : (pc : Int) + off = (tgt : Int)) (kt : x = 0 → zV X D nL cells slots ws tgt lv (st)) (kf : ¬ x = 0 → zV X D nL cells slots ws (pc + 3) lv (st)) : zV X D nL cells slots ws pc lv (.int x :: st) := by
  obtain ⟨p, l, e, R, s, m, args, below, meth, c, Q, A⟩ := X
  obtain ⟨hx, hb, hml, hown, hts, hK, hA, hlk, hN⟩ := C
  intro H locs ls hP hD hS hv
  exact lv_if_eq hx hb hdg ht (fun h => kt h H locs ls hP hD hS hv) (fun h => kf h H locs ls hP hD hS hv)
theorem z_if_ne (C : zC X D nL cc own Ts tys) {x : Int32} {off : Int} (tgt : Nat) (hdg : decode cc pc = .ok (.ifCond .ne off, 3)) (ht : (pc : Int) + off = (tgt : Int)) (kt : ¬ x = 0 → zV X D nL cells slots ws tgt lv (st)) (kf : x = 0 → zV X D nL cells slots ws (pc + 3) lv (st)) : zV X D nL cells slots ws pc lv (.int x :: st) := by
  obtain ⟨p, l, e, R, s, m, args, below, meth, c, Q, A⟩ := X
  obtain ⟨hx, hb, hml, hown, hts, hK, hA, hlk, hN⟩ := C
  intro H locs ls hP hD hS hv
  exact lv_if_ne hx hb hdg ht (fun h => kt h H locs ls hP hD hS hv) (fun h => kf h H locs ls hP hD hS hv)
theorem z_if_lt (C : zC X D nL cc own Ts tys) {x : Int32} {off : Int} (tgt : Nat) (hdg : decode cc pc = .ok (.ifCond .lt off, 3)) (ht : (pc : Int) + off = (tgt : Int)) (kt : x < 0 → zV X D nL cells slots ws tgt lv (st)) (kf : ¬ x < 0 → zV X D nL cells slots ws (pc + 3) lv (st)) : zV X D nL cells slots ws pc lv (.int x :: st) := by
  obtain ⟨p, l, e, R, s, m, args, below, meth, c, Q, A⟩ := X
  obtain ⟨hx, hb, hml, hown, hts, hK, hA, hlk, hN⟩ := C
  intro H locs ls hP hD hS hv
  exact lv_if_lt hx hb hdg ht (fun h => kt h H locs ls hP hD hS hv) (fun h => kf h H locs ls hP hD hS hv)
theorem z_if_le (C : zC X D nL cc own Ts tys) {x : Int32} {off : Int} (tgt : Nat) (hdg : decode cc pc = .ok (.ifCond .le off, 3)) (ht : (pc : Int) + off = (tgt : Int)) (kt : x ≤ 0 → zV X D nL cells slots ws tgt lv (st)) (kf : ¬ x ≤ 0 → zV X D nL cells slots ws (pc + 3) lv (st)) : zV X D nL cells slots ws pc lv (.int x :: st) := by
  obtain ⟨p, l, e, R, s, m, args, below, meth, c, Q, A⟩ := X
  obtain ⟨hx, hb, hml, hown, hts, hK, hA, hlk, hN⟩ := C
  intro H locs ls hP hD hS hv
  exact lv_if_le hx hb hdg ht (fun h => kt h H locs ls hP hD hS hv) (fun h => kf h H locs ls hP hD hS hv)
theorem z_if_gt (C : zC X D nL cc own Ts tys) {x : Int32} {off : Int} (tgt : Nat) (hdg : decode cc pc = .ok (.ifCond .gt off, 3)) (ht : (pc : Int) + off = (tgt : Int)) (kt : 0 < x → zV X D nL cells slots ws tgt lv (st)) (kf : ¬ 0 < x → zV X D nL cells slots ws (pc + 3) lv (st)) : zV X D nL cells slots ws pc lv (.int x :: st) := by
  obtain ⟨p, l, e, R, s, m, args, below, meth, c, Q, A⟩ := X
  obtain ⟨hx, hb, hml, hown, hts, hK, hA, hlk, hN⟩ := C
  intro H locs ls hP hD hS hv
  exact lv_if_gt hx hb hdg ht (fun h => kt h H locs ls hP hD hS hv) (fun h => kf h H locs ls hP hD hS hv)
theorem z_if_ge (C : zC X D nL cc own Ts tys) {x : Int32} {off : Int} (tgt : Nat) (hdg : decode cc pc = .ok (.ifCond .ge off, 3)) (ht : (pc : Int) + off = (tgt : Int)) (kt : 0 ≤ x → zV X D nL cells slots ws tgt lv (st)) (kf : ¬ 0 ≤ x → zV X D nL cells slots ws (pc + 3) lv (st)) : zV X D nL cells slots ws pc lv (.int x :: st) := by
  obtain ⟨p, l, e, R, s, m, args, below, meth, c, Q, A⟩ := X
  obtain ⟨hx, hb, hml, hown, hts, hK, hA, hlk, hN⟩ := C
  intro H locs ls hP hD hS hv
  exact lv_if_ge hx hb hdg ht (fun h => kt h H locs ls hP hD hS hv) (fun h => kf h H locs ls hP hD hS hv)
theorem z_icmp_eq (C : zC X D nL cc own Ts tys) {x y : Int32} {off : Int} (tgt : Nat) (hdg : decode cc pc = .ok (.if_icmp .eq off, 3)) (ht : (pc : Int) + off = (tgt : Int)) (kt : x = y → zV X D nL cells slots ws tgt lv (st)) (kf : ¬ x = y → zV X D nL cells slots ws (pc + 3) lv (st)) : zV X D nL cells slots ws pc lv (.int y :: .int x :: st) := by
  obtain ⟨p, l, e, R, s, m, args, below, meth, c, Q, A⟩ := X
  obtain ⟨hx, hb, hml, hown, hts, hK, hA, hlk, hN⟩ := C
  intro H locs ls hP hD hS hv
  exact lv_icmp_eq hx hb hdg ht (fun h => kt h H locs ls hP hD hS hv) (fun h => kf h H locs ls hP hD hS hv)
theorem z_lcmp_eq (C : zC X D nL cc own Ts tys) {x y : Int64} {off : Int} (tgt : Nat) (hdg : decode cc pc = .ok (.lcmp, 1)) (hdg2 : decode cc (pc + 1) = .ok (.ifCond .eq off, 3)) (ht : ((pc + 1 : Nat) : Int) + off = (tgt : Int)) (kt : x = y → zV X D nL cells slots ws tgt lv (st)) (kf : ¬ x = y → zV X D nL cells slots ws (pc + 1 + 3) lv (st)) : zV X D nL cells slots ws pc lv (.long y :: .long x :: st) := by
  obtain ⟨p, l, e, R, s, m, args, below, meth, c, Q, A⟩ := X
  obtain ⟨hx, hb, hml, hown, hts, hK, hA, hlk, hN⟩ := C
  intro H locs ls hP hD hS hv
  exact W.lcmp hx hb hdg (lv_if_eq hx hb hdg2 ht (fun h => kt ((lg_cmp_eq x y).mp h) H locs ls hP hD hS hv) (fun h => kf ((not_congr (lg_cmp_eq x y)).mp h) H locs ls hP hD hS hv))
theorem z_icmp_ne (C : zC X D nL cc own Ts tys) {x y : Int32} {off : Int} (tgt : Nat) (hdg : decode cc pc = .ok (.if_icmp .ne off, 3)) (ht : (pc : Int) + off = (tgt : Int)) (kt : ¬ x = y → zV X D nL cells slots ws tgt lv (st)) (kf : x = y → zV X D nL cells slots ws (pc + 3) lv (st)) : zV X D nL cells slots ws pc lv (.int y :: .int x :: st) := by
  obtain ⟨p, l, e, R, s, m, args, below, meth, c, Q, A⟩ := X
  obtain ⟨hx, hb, hml, hown, hts, hK, hA, hlk, hN⟩ := C
  intro H locs ls hP hD hS hv
  exact lv_icmp_ne hx hb hdg ht (fun h => kt h H locs ls hP hD hS hv) (fun h => kf h H locs ls hP hD hS hv)
theorem z_lcmp_ne (C : zC X D nL cc own Ts tys) {x y : Int64} {off : Int} (tgt : Nat) (hdg : decode cc pc = .ok (.lcmp, 1)) (hdg2 : decode cc (pc + 1) = .ok (.ifCond .ne off, 3)) (ht : ((pc + 1 : Nat) : Int) + off = (tgt : Int)) (kt : ¬ x = y → zV X D nL cells slots ws tgt lv (st)) (kf : x = y → zV X D nL cells slots ws (pc + 1 + 3) lv (st)) : zV X D nL cells slots ws pc lv (.long y :: .long x :: st) := by
  obtain ⟨p, l, e, R, s, m, args, below, meth, c, Q, A⟩ := X
  obtain ⟨hx, hb, hml, hown, hts, hK, hA, hlk, hN⟩ := C
  intro H locs ls hP hD hS hv
  exact W.lcmp hx hb hdg (lv_if_ne hx hb hdg2 ht (fun h => kt ((not_congr (lg_cmp_eq x y)).mp h) H locs ls hP hD hS hv) (fun h => kf ((lg_cmp_eq x y).mp h) H locs ls hP hD hS hv))
theorem z_icmp_lt (C : zC X D nL cc own Ts tys) {x y : Int32} {off : Int} (tgt : Nat) (hdg : decode cc pc = .ok (.if_icmp .lt off, 3)) (ht : (pc : Int) + off = (tgt : Int)) (kt : x < y → zV X D nL cells slots ws tgt lv (st)) (kf : ¬ x < y → zV X D nL cells slots ws (pc + 3) lv (st)) : zV X D nL cells slots ws pc lv (.int y :: .int x :: st) := by
  obtain ⟨p, l, e, R, s, m, args, below, meth, c, Q, A⟩ := X
  obtain ⟨hx, hb, hml, hown, hts, hK, hA, hlk, hN⟩ := C
  intro H locs ls hP hD hS hv
  exact lv_icmp_lt hx hb hdg ht (fun h => kt h H locs ls hP hD hS hv) (fun h => kf h H locs ls hP hD hS hv)
theorem z_lcmp_lt (C : zC X D nL cc own Ts tys) {x y : Int64} {off : Int} (tgt : Nat) (hdg : decode cc pc = .ok (.lcmp, 1)) (hdg2 : decode cc (pc + 1) = .ok (.ifCond .lt off, 3)) (ht : ((pc + 1 : Nat) : Int) + off = (tgt : Int)) (kt : x < y → zV X D nL cells slots ws tgt lv (st)) (kf : ¬ x < y → zV X D nL cells slots ws (pc + 1 + 3) lv (st)) : zV X D nL cells slots ws pc lv (.long y :: .long x :: st) := by
  obtain ⟨p, l, e, R, s, m, args, below, meth, c, Q, A⟩ := X
  obtain ⟨hx, hb, hml, hown, hts, hK, hA, hlk, hN⟩ := C
  intro H locs ls hP hD hS hv
  exact W.lcmp hx hb hdg (lv_if_lt hx hb hdg2 ht (fun h => kt ((lg_cmp_lt x y).mp h) H locs ls hP hD hS hv) (fun h => kf ((not_congr (lg_cmp_lt x y)).mp h) H locs ls hP hD hS hv))
theorem z_icmp_le (C : zC X D nL cc own Ts tys) {x y : Int32} {off : Int} (tgt : Nat) (hdg : decode cc pc = .ok (.if_icmp .le off, 3)) (ht : (pc : Int) + off = (tgt : Int)) (kt : x ≤ y → zV X D nL cells slots ws tgt lv (st)) (kf : ¬ x ≤ y → zV X D nL cells slots ws (pc + 3) lv (st)) : zV X D nL cells slots ws pc lv (.int y :: .int x :: st) := by
  obtain ⟨p, l, e, R, s, m, args, below, meth, c, Q, A⟩ := X
  obtain ⟨hx, hb, hml, hown, hts, hK, hA, hlk, hN⟩ := C
  intro H locs ls hP hD hS hv
  exact lv_icmp_le hx hb hdg ht (fun h => kt h H locs ls hP hD hS hv) (fun h => kf h H locs ls hP hD hS hv)
theorem z_lcmp_le (C : zC X D nL cc own Ts tys) {x y : Int64} {off : Int} (tgt : Nat) (hdg : decode cc pc = .ok (.lcmp, 1)) (hdg2 : decode cc (pc + 1) = .ok (.ifCond .le off, 3)) (ht : ((pc + 1 : Nat) : Int) + off = (tgt : Int)) (kt : x ≤ y → zV X D nL cells slots ws tgt lv (st)) (kf : ¬ x ≤ y → zV X D nL cells slots ws (pc + 1 + 3) lv (st)) : zV X D nL cells slots ws pc lv (.long y :: .long x :: st) := by
  obtain ⟨p, l, e, R, s, m, args, below, meth, c, Q, A⟩ := X
  obtain ⟨hx, hb, hml, hown, hts, hK, hA, hlk, hN⟩ := C
  intro H locs ls hP hD hS hv
  exact W.lcmp hx hb hdg (lv_if_le hx hb hdg2 ht (fun h => kt ((lg_cmp_le x y).mp h) H locs ls hP hD hS hv) (fun h => kf ((not_congr (lg_cmp_le x y)).mp h) H locs ls hP hD hS hv))
theorem z_icmp_gt (C : zC X D nL cc own Ts tys) {x y : Int32} {off : Int} (tgt : Nat) (hdg : decode cc pc = .ok (.if_icmp .gt off, 3)) (ht : (pc : Int) + off = (tgt : Int)) (kt : y < x → zV X D nL cells slots ws tgt lv (st)) (kf : ¬ y < x → zV X D nL cells slots ws (pc + 3) lv (st)) : zV X D nL cells slots ws pc lv (.int y :: .int x :: st) := by
  obtain ⟨p, l, e, R, s, m, args, below, meth, c, Q, A⟩ := X
  obtain ⟨hx, hb, hml, hown, hts, hK, hA, hlk, hN⟩ := C
  intro H locs ls hP hD hS hv
  exact lv_icmp_gt hx hb hdg ht (fun h => kt h H locs ls hP hD hS hv) (fun h => kf h H locs ls hP hD hS hv)
theorem z_lcmp_gt (C : zC X D nL cc own Ts tys) {x y : Int64} {off : Int} (tgt : Nat) (hdg : decode cc pc = .ok (.lcmp, 1)) (hdg2 : decode cc (pc + 1) = .ok (.ifCond .gt off, 3)) (ht : ((pc + 1 : Nat) : Int) + off = (tgt : Int)) (kt : y < x → zV X D nL cells slots ws tgt lv (st)) (kf : ¬ y < x → zV X D nL cells slots ws (pc + 1 + 3) lv (st)) : zV X D nL cells slots ws pc lv (.long y :: .long x :: st) := by
  obtain ⟨p, l, e, R, s, m, args, below, meth, c, Q, A⟩ := X
  obtain ⟨hx, hb, hml, hown, hts, hK, hA, hlk, hN⟩ := C
  intro H locs ls hP hD hS hv
  exact W.lcmp hx hb hdg (lv_if_gt hx hb hdg2 ht (fun h => kt ((lg_cmp_gt x y).mp h) H locs ls hP hD hS hv) (fun h => kf ((not_congr (lg_cmp_gt x y)).mp h) H locs ls hP hD hS hv))
theorem z_icmp_ge (C : zC X D nL cc own Ts tys) {x y : Int32} {off : Int} (tgt : Nat) (hdg : decode cc pc = .ok (.if_icmp .ge off, 3)) (ht : (pc : Int) + off = (tgt : Int)) (kt : y ≤ x → zV X D nL cells slots ws tgt lv (st)) (kf : ¬ y ≤ x → zV X D nL cells slots ws (pc + 3) lv (st)) : zV X D nL cells slots ws pc lv (.int y :: .int x :: st) := by
  obtain ⟨p, l, e, R, s, m, args, below, meth, c, Q, A⟩ := X
  obtain ⟨hx, hb, hml, hown, hts, hK, hA, hlk, hN⟩ := C
  intro H locs ls hP hD hS hv
  exact lv_icmp_ge hx hb hdg ht (fun h => kt h H locs ls hP hD hS hv) (fun h => kf h H locs ls hP hD hS hv)
theorem z_lcmp_ge (C : zC X D nL cc own Ts tys) {x y : Int64} {off : Int} (tgt : Nat) (hdg : decode cc pc = .ok (.lcmp, 1)) (hdg2 : decode cc (pc + 1) = .ok (.ifCond .ge off, 3)) (ht : ((pc + 1 : Nat) : Int) + off = (tgt : Int)) (kt : y ≤ x → zV X D nL cells slots ws tgt lv (st)) (kf : ¬ y ≤ x → zV X D nL cells slots ws (pc + 1 + 3) lv (st)) : zV X D nL cells slots ws pc lv (.long y :: .long x :: st) := by
  obtain ⟨p, l, e, R, s, m, args, below, meth, c, Q, A⟩ := X
  obtain ⟨hx, hb, hml, hown, hts, hK, hA, hlk, hN⟩ := C
  intro H locs ls hP hD hS hv
  exact W.lcmp hx hb hdg (lv_if_ge hx hb hdg2 ht (fun h => kt ((lg_cmp_ge x y).mp h) H locs ls hP hD hS hv) (fun h => kf ((not_congr (lg_cmp_ge x y)).mp h) H locs ls hP hD hS hv))
theorem z_mmax (C : zC X D nL cc own Ts tys) (rm : Room) (hR : zR X rm) {index : Nat} {x y : Int32} (h1 : Cond.methodLink own index Lib.Math.max.name ∈ Ts) (h2 : Cond.static Lib.Math.max.name ∈ Ts) (h3 : Cond.initialized "java/lang/Math" ∈ Ts) (h4 : Cond.code Lib.Math.max.name Lib.Math.max.code 2 (some .int) ∈ Ts) (hf : 1 ≤ rm.frames ∧ (st.map fun v => v.category).sum + 13 ≤ rm.locals ∧ cells ≤ rm.cells ∧ slots ≤ rm.slots) (hdg : decode cc pc = .ok (.invokestatic index, 3)) (kk : zV X D nL cells slots ws (pc + 3) lv (.int (if x < y then y else x) :: st)) : zV X D nL cells slots ws pc lv (.int y :: .int x :: st) := by
  obtain ⟨p, l, e, R, s, m, args, below, meth, c, Q, A⟩ := X
  obtain ⟨hx, hb, hml, hown, hts, hK, hA, hlk, hN⟩ := C
  intro H locs ls hP hD hS hv
  cases hR
  exact va_mmax hx hb (hml.trans hv.1.symm) hown (hts _ h1) (hts _ h2) (hts _ h3) (hts _ h4) hf.1 hf.2.1 hf.2.2.1 hf.2.2.2 hdg (kk H locs ls hP hD hS hv)
theorem z_mmin (C : zC X D nL cc own Ts tys) (rm : Room) (hR : zR X rm) {index : Nat} {x y : Int32} (h1 : Cond.methodLink own index Lib.Math.min.name ∈ Ts) (h2 : Cond.static Lib.Math.min.name ∈ Ts) (h3 : Cond.initialized "java/lang/Math" ∈ Ts) (h4 : Cond.code Lib.Math.min.name Lib.Math.min.code 2 (some .int) ∈ Ts) (hf : 1 ≤ rm.frames ∧ (st.map fun v => v.category).sum + 13 ≤ rm.locals ∧ cells ≤ rm.cells ∧ slots ≤ rm.slots) (hdg : decode cc pc = .ok (.invokestatic index, 3)) (kk : zV X D nL cells slots ws (pc + 3) lv (.int (if y < x then y else x) :: st)) : zV X D nL cells slots ws pc lv (.int y :: .int x :: st) := by
  obtain ⟨p, l, e, R, s, m, args, below, meth, c, Q, A⟩ := X
  obtain ⟨hx, hb, hml, hown, hts, hK, hA, hlk, hN⟩ := C
  intro H locs ls hP hD hS hv
  cases hR
  exact va_mmin hx hb (hml.trans hv.1.symm) hown (hts _ h1) (hts _ h2) (hts _ h3) (hts _ h4) hf.1 hf.2.1 hf.2.2.1 hf.2.2.2 hdg (kk H locs ls hP hD hS hv)
theorem z_mabsl (C : zC X D nL cc own Ts tys) (rm : Room) (hR : zR X rm) {index : Nat} {x : Int64} (h1 : Cond.methodLink own index Lib.MathLoose.abs_long.x ∈ Ts) (h2 : Cond.static Lib.MathLoose.abs_long.x ∈ Ts) (h3 : Cond.initialized "java/lang/Math" ∈ Ts) (h4 : Cond.code Lib.MathLoose.abs_long.x Lib.MathLoose.abs_long.code 2 (some .long) ∈ Ts) (hf : 1 ≤ rm.frames ∧ (st.map fun v => v.category).sum + 13 ≤ rm.locals ∧ cells ≤ rm.cells ∧ slots ≤ rm.slots) (hdg : decode cc pc = .ok (.invokestatic index, 3)) (kk : zV X D nL cells slots ws (pc + 3) lv (.long (if 0 < x then x else -x) :: st)) : zV X D nL cells slots ws pc lv (.long x :: st) := by
  obtain ⟨p, l, e, R, s, m, args, below, meth, c, Q, A⟩ := X
  obtain ⟨hx, hb, hml, hown, hts, hK, hA, hlk, hN⟩ := C
  intro H locs ls hP hD hS hv
  cases hR
  exact va_mabs_long hx hb (hml.trans hv.1.symm) hown (hts _ h1) (hts _ h2) (hts _ h3) (hts _ h4) hf.1 hf.2.1 hf.2.2.1 hf.2.2.2 hdg (kk H locs ls hP hD hS hv)
theorem z_topi {x : Int32} (k : ∀ y : Int32, y = x → zV X D nL cells slots ws pc lv (.int y :: st)) : zV X D nL cells slots ws pc lv (.int x :: st) := k x rfl
theorem z_topl {x : Int64} (k : ∀ y : Int64, y = x → zV X D nL cells slots ws pc lv (.long y :: st)) : zV X D nL cells slots ws pc lv (.long x :: st) := k x rfl
theorem z_sub (ks : List Nat) (h : lv_pick lv ks = lv') (kk : zV X D nL cells slots ws pc lv' st) : zV X D nL cells slots ws pc lv st := by
  obtain ⟨p, l, e, R, s, m, args, below, meth, c, Q, A⟩ := X
  intro H locs ls hP hD hS hv
  exact kk H locs ls hP hD hS (lv_sub hv ks h)
theorem z_widen {k n : Nat} (h1 : cells ≤ k) (h2 : slots ≤ n) (kk : zV X D nL k n ws pc lv st) : zV X D nL cells slots ws pc lv st := by
  obtain ⟨p, l, e, R, s, m, args, below, meth, c, Q, A⟩ := X
  intro H locs ls hP hD hS hv
  exact W.widen h1 h2 (kk H locs ls hP hD hS hv)
/-- an element of an array of arrays -/
theorem z_aald (C : zC X D nL cc own Ts tys) (q0 t0 : Nat) {a : Nat} {cA : ClassId} {ty : FieldType} {n : Nat} {f : Nat → Option Nat} (ha : ws[q0]? = some (a, .inl (cA, n, .inr (.inr (.inr (.inr f)))))) (ht : tys[t0]? = some (cA, .array ty)) {i : Int32} (hin : vp_in i n) (hdg : decode cc pc = .ok (.aaload, 1)) (kk : zV X D nL cells slots ws (pc + 1) lv (va_rf (f i.toNatClampNeg) :: st)) : zV X D nL cells slots ws pc lv (.int i :: .ref a :: st) := by
  obtain ⟨p, l, e, R, s, m, args, below, meth, c, Q, A⟩ := X
  obtain ⟨hx, hb, hml, hown, hts, hK, hA, hlk, hN⟩ := C
  intro H locs ls hP hD hS hv
  have hlt : i.toNatClampNeg < n := Nat.not_le.mp fun q => hin (Or.inr q)
  exact W.aald (v := va_rf (f i.toNatClampNeg)) (ty := .array ty) hx hb (hP q0 _ ha) ((hK.2 t0 _ ht).1 n (fun j => va_rf (f j))) rfl (fun q => by cases q) (by show ¬ (i < 0 ∨ (arrV _ _ _).slots.size ≤ _); rw [arrV_size]; exact hin) (by show (arrV _ _ _).slots[_]? = _; rw [arrV_read _ _ hlt]) rfl rfl hdg (kk H locs ls hP hD hS hv)
theorem z_iald (C : zC X D nL cc own Ts tys) (q0 t0 : Nat) {a : Nat} {cA : ClassId} {n : Nat} {f : Nat → Int32} (ha : ws[q0]? = some (a, .inl (cA, n, .inl f))) (ht : tys[t0]? = some (cA, .int)) {i : Int32} (hin : vp_in i n) (hdg : decode cc pc = .ok (.iaload, 1)) (kk : zV X D nL cells slots ws (pc + 1) lv (.int (f i.toNatClampNeg) :: st)) : zV X D nL cells slots ws pc lv (.int i :: .ref a :: st) := by
  obtain ⟨p, l, e, R, s, m, args, below, meth, c, Q, A⟩ := X
  obtain ⟨hx, hb, hml, hown, hts, hK, hA, hlk, hN⟩ := C
  intro H locs ls hP hD hS hv
  exact va_iald hx hb hK hP q0 t0 ha ht hin hdg (kk H locs ls hP hD hS hv)
theorem z_zald (C : zC X D nL cc own Ts tys) (q0 t0 : Nat) {a : Nat} {cA : ClassId} {n : Nat} {f : Nat → Int32} (ha : ws[q0]? = some (a, .inl (cA, n, .inl f))) (ht : tys[t0]? = some (cA, .boolean)) {i : Int32} (hin : vp_in i n) (hdg : decode cc pc = .ok (.baload, 1)) (kk : zV X D nL cells slots ws (pc + 1) lv (.int (f i.toNatClampNeg) :: st)) : zV X D nL cells slots ws pc lv (.int i :: .ref a :: st) := by
  obtain ⟨p, l, e, R, s, m, args, below, meth, c, Q, A⟩ := X
  obtain ⟨hx, hb, hml, hown, hts, hK, hA, hlk, hN⟩ := C
  intro H locs ls hP hD hS hv
  exact va_zald hx hb hK hP q0 t0 ha ht hin hdg (kk H locs ls hP hD hS hv)
theorem z_lald (C : zC X D nL cc own Ts tys) (q0 t0 : Nat) {a : Nat} {cA : ClassId} {n : Nat} {f : Nat → Int64} (ha : ws[q0]? = some (a, .inl (cA, n, .inr (.inl f)))) (ht : tys[t0]? = some (cA, .long)) {i : Int32} (hin : vp_in i n) (hdg : decode cc pc = .ok (.laload, 1)) (kk : zV X D nL cells slots ws (pc + 1) lv (.long (f i.toNatClampNeg) :: st)) : zV X D nL cells slots ws pc lv (.int i :: .ref a :: st) := by
  obtain ⟨p, l, e, R, s, m, args, below, meth, c, Q, A⟩ := X
  obtain ⟨hx, hb, hml, hown, hts, hK, hA, hlk, hN⟩ := C
  intro H locs ls hP hD hS hv
  exact va_lald hx hb hK hP q0 t0 ha ht hin hdg (kk H locs ls hP hD hS hv)
theorem z_iast (C : zC X D nL cc own Ts tys) (q0 t0 : Nat) {a : Nat} {cA : ClassId} {n : Nat} {f : Nat → Int32} (ha : ws[q0]? = some (a, .inl (cA, n, .inl f))) (ht : tys[t0]? = some (cA, .int)) {i x : Int32} (hin : vp_in i n) (hdg : decode cc pc = .ok (.iastore, 1)) {ws' : va_W} (hw : ws.set q0 (a, .inl (cA, n, .inl (upd f i.toNatClampNeg x))) = ws') (kk : zV X D nL cells slots ws' (pc + 1) lv st) : zV X D nL cells slots ws pc lv (.int x :: .int i :: .ref a :: st) := by
  obtain ⟨p, l, e, R, s, m, args, below, meth, c, Q, A⟩ := X
  obtain ⟨hx, hb, hml, hown, hts, hK, hA, hlk, hN⟩ := C
  intro H locs ls hP hD hS hv
  subst hw
  exact va_iast hx hb hK hP hD hS q0 t0 ha ht hin hdg (fun H1 locs1 hP1 hD1 hS1 => kk H1 locs1 ls hP1 hD1 hS1 hv)
theorem z_zast (C : zC X D nL cc own Ts tys) (q0 t0 : Nat) {a : Nat} {cA : ClassId} {n : Nat} {f : Nat → Int32} (ha : ws[q0]? = some (a, .inl (cA, n, .inl f))) (ht : tys[t0]? = some (cA, .boolean)) {i x : Int32} (hin : vp_in i n) (hdg : decode cc pc = .ok (.bastore, 1)) {ws' : va_W} (hw : ws.set q0 (a, .inl (cA, n, .inl (upd f i.toNatClampNeg (vp_nar .boolean x)))) = ws') (kk : zV X D nL cells slots ws' (pc + 1) lv st) : zV X D nL cells slots ws pc lv (.int x :: .int i :: .ref a :: st) := by
  obtain ⟨p, l, e, R, s, m, args, below, meth, c, Q, A⟩ := X
  obtain ⟨hx, hb, hml, hown, hts, hK, hA, hlk, hN⟩ := C
  intro H locs ls hP hD hS hv
  subst hw
  exact va_zast hx hb hK hP hD hS q0 t0 ha ht hin hdg (fun H1 locs1 hP1 hD1 hS1 => kk H1 locs1 ls hP1 hD1 hS1 hv)
theorem z_last (C : zC X D nL cc own Ts tys) (q0 t0 : Nat) {a : Nat} {cA : ClassId} {n : Nat} {f : Nat → Int64} (ha : ws[q0]? = some (a, .inl (cA, n, .inr (.inl f)))) (ht : tys[t0]? = some (cA, .long)) {i : Int32} {x : Int64} (hin : vp_in i n) (hdg : decode cc pc = .ok (.lastore, 1)) {ws' : va_W} (hw : ws.set q0 (a, .inl (cA, n, .inr (.inl (vp_updL f i.toNatClampNeg x)))) = ws') (kk : zV X D nL cells slots ws' (pc + 1) lv st) : zV X D nL cells slots ws pc lv (.long x :: .int i :: .ref a :: st) := by
  obtain ⟨p, l, e, R, s, m, args, below, meth, c, Q, A⟩ := X
  obtain ⟨hx, hb, hml, hown, hts, hK, hA, hlk, hN⟩ := C
  intro H locs ls hP hD hS hv
  subst hw
  exact va_last hx hb hK hP hD hS q0 t0 ha ht hin hdg (fun H1 locs1 hP1 hD1 hS1 => kk H1 locs1 ls hP1 hD1 hS1 hv)
theorem z_get (C : zC X D nL cc own Ts tys) {CN : String} {T : u_T} {N ci index a : Nat} (hin : ∀ w ∈ u_ws CN T N, w ∈ Ts) (q0 : Nat) {fs : List Value} (he : ws[q0]? = some (a, .inr (ci, fs))) (hc : vwCl[ci]? = some (CN, T, N)) (k : Nat) (hk : k < N) (hlink : Cond.fieldLink own index (T k).1 (T k).2.1 (T k).2.2.1 ∈ Ts) {v : Value} (hv0 : fs[k]? = some v) (hdg : decode cc pc = .ok (.getfield index, 3)) (kk : zV X D nL cells slots ws (pc + 3) lv (v :: st)) : zV X D nL cells slots ws pc lv (.ref a :: st) := by
  obtain ⟨p, l, e, R, s, m, args, below, meth, c, Q, A⟩ := X
  obtain ⟨hx, hb, hml, hown, hts, hK, hA, hlk, hN⟩ := C
  intro H locs ls hP hD hS hv
  exact va_get hx hb hts hin hown hK hP q0 he hc k hk (hts _ hlink) (fun _ h9 => h9) hv0 hdg (kk H locs ls hP hD hS hv)
theorem z_put (C : zC X D nL cc own Ts tys) {CN : String} {T : u_T} {N ci index a : Nat} (hin : ∀ w ∈ u_ws CN T N, w ∈ Ts) (ty0 : Nat → FieldType) (hty : ∀ k, k < N → parseFieldDescriptor (T k).2.2.1 = some (ty0 k)) (hnm : ∀ a, a < N → ∀ b, b < N → a ≠ b → (T a).2.1 ≠ (T b).2.1) (q0 : Nat) {fs : List Value} (he : ws[q0]? = some (a, .inr (ci, fs))) (hc : vwCl[ci]? = some (CN, T, N)) (k : Nat) (hk : k < N) (hlink : Cond.fieldLink own index (T k).1 (T k).2.1 (T k).2.2.1 ∈ Ts) (hfin : (T k).2.2.2 = false) {ty : FieldType} {v : Value} (hd : parseFieldDescriptor (T k).2.2.1 = some ty) (hn : narrow ty v = v) (hfit : fits ty v = true) (hl : k < fs.length) (hdg : decode cc pc = .ok (.putfield index, 3)) {ws' : va_W} (hw : ws.set q0 (a, .inr (ci, fs.set k v)) = ws') (kk : zV X D nL cells slots ws' (pc + 3) lv st) : zV X D nL cells slots ws pc lv (v :: .ref a :: st) := by
  obtain ⟨p, l, e, R, s, m, args, below, meth, c, Q, A⟩ := X
  obtain ⟨hx, hb, hml, hown, hts, hK, hA, hlk, hN⟩ := C
  intro H locs ls hP hD hS hv
  subst hw
  exact va_put hx hb hts hin ty0 hty hnm hown hK hP hD hS q0 he hc k hk (hts _ hlink) (fun _ h9 => h9) hfin hd hn hfit hl hdg (fun H1 locs1 hP1 hD1 hS1 => kk H1 locs1 ls hP1 hD1 hS1 hv)
end ZB
theorem zofW {l : Launch} {y : MethodName} {ws ws' : List Cond} {rm : Room} {Pc : Array Value → State → Prop} {Qc : Array Value → State → Outcome → State → Prop} {mc ms : Nat} {free : Addr → Prop} {cc : ByteArray} {maxL : Nat} {ret : Option FieldType}
    (hy : plainFor y = true) (hw : ws = Cond.code y cc maxL ret :: ws')
    (body : ∀ p e s m args below meth c s₁, BodyLoose p l y (headSpec ws rm) cc maxL ret e s m args below meth c s₁ → c.maxLocals = maxL → Pc args s →
      W p l e (headSpec ws rm).room s m args below meth c s.heap [] 0 0 (MQ below Qc args s mc ms free) (entryFrame m args maxL)) : Met l y ws rm Pc Qc mc ms free := by
  refine MetFree.of_bodySF (code := cc) (maxLocals := maxL) (ret := ret) hy ?_ ?_
  · intro args s m h hn
    obtain ⟨meth, c, h1, h2, h3, h4, h5, h6, -, -⟩ := Cond.code_spec hn (atoms_spec (ws := ws) h _ (by rw [hw]; exact List.mem_cons_self))
    exact ⟨meth, c, h1, h2, h3, h4, h5, h6⟩
  · intro p e s m args below meth c s₁ B hml hP _
    have hh0 : s₁.heap = s.heap := by rw [B.state]; rfl
    obtain ⟨t, a1, o, b1, b2, b3⟩ := body p e s m args below meth c s₁ B hml hP s₁ hh0 (Stand.of_body B)
    exact ⟨t, o, a1, b1, b2, ⟨b3.1, b3.2⟩⟩
/-! CONTRACTS over a world wf u of a state u -/
section ZM
variable {S : Type}
def zMi (l : Launch) (D : va_G) (tys : List (ClassId × FieldType)) (y : MethodName) (w : List Cond) (rm : Room) (av : List Value) (wf : S → va_W) (u0 : S) (post : Int32 → S → Prop) : Prop :=
  ∀ sz : Nat, Met l y w rm (va_Pc av (fun U => U.heap.size = sz ∧ va_P D vwCl (wf u0) U.heap ∧ va_K D vwCl tys U ∧ zN U ∧ va_D (fun _ => True) (wf u0))) (va_Qi post (fun u t => va_P D vwCl (wf u) t.heap ∧ va_K D vwCl tys t ∧ va_D (va_A (wf u0) sz) (wf u)) (va_A (wf u0) sz)) rm.cells rm.slots (va_A (wf u0) sz)
def zMl (l : Launch) (D : va_G) (tys : List (ClassId × FieldType)) (y : MethodName) (w : List Cond) (rm : Room) (av : List Value) (wf : S → va_W) (u0 : S) (post : Int64 → S → Prop) : Prop :=
  ∀ sz : Nat, Met l y w rm (va_Pc av (fun U => U.heap.size = sz ∧ va_P D vwCl (wf u0) U.heap ∧ va_K D vwCl tys U ∧ zN U ∧ va_D (fun _ => True) (wf u0))) (va_Ql post (fun u t => va_P D vwCl (wf u) t.heap ∧ va_K D vwCl tys t ∧ va_D (va_A (wf u0) sz) (wf u)) (va_A (wf u0) sz)) rm.cells rm.slots (va_A (wf u0) sz)
def zMv (l : Launch) (D : va_G) (tys : List (ClassId × FieldType)) (y : MethodName) (w : List Cond) (rm : Room) (av : List Value) (wf : S → va_W) (u0 : S) (post : S → Prop) : Prop :=
  ∀ sz : Nat, Met l y w rm (va_Pc av (fun U => U.heap.size = sz ∧ va_P D vwCl (wf u0) U.heap ∧ va_K D vwCl tys U ∧ zN U ∧ va_D (fun _ => True) (wf u0))) (va_Qv post (fun u t => va_P D vwCl (wf u) t.heap ∧ va_K D vwCl tys t ∧ va_D (va_A (wf u0) sz) (wf u)) (va_A (wf u0) sz)) rm.cells rm.slots (va_A (wf u0) sz)
/-- the ends of a body -/
def zEi (X : zX) (D : va_G) (nL : Nat) (cc : ByteArray) (rm : Room) (wf : S → va_W) (ty : FieldType) (post : Int32 → S → Prop) : Prop :=
  ∀ (pc cells slots : Nat) (u : S) (lv : List (Nat × Value)) (r : Int32), decode cc pc = .ok (.ireturn, 1) → narrow ty (.int r) = .int r → cells ≤ rm.cells → slots ≤ rm.slots → post r u → zV X D nL cells slots (wf u) pc lv [.int r]
def zEl (X : zX) (D : va_G) (nL : Nat) (cc : ByteArray) (rm : Room) (wf : S → va_W) (post : Int64 → S → Prop) : Prop :=
  ∀ (pc cells slots : Nat) (u : S) (lv : List (Nat × Value)) (r : Int64), decode cc pc = .ok (.lreturn, 1) → cells ≤ rm.cells → slots ≤ rm.slots → post r u → zV X D nL cells slots (wf u) pc lv [.long r]
def zEv (X : zX) (D : va_G) (nL : Nat) (cc : ByteArray) (rm : Room) (wf : S → va_W) (post : S → Prop) : Prop :=
  ∀ (pc cells slots : Nat) (u : S) (lv : List (Nat × Value)), decode cc pc = .ok (.return_, 1) → cells ≤ rm.cells → slots ≤ rm.slots → post u → zV X D nL cells slots (wf u) pc lv []
variable {l : Launch} {D : va_G} {tys : List (ClassId × FieldType)} {y : MethodName} {w w' : List Cond} {rm : Room} {av : List Value} {wf : S → va_W} {u0 : S} {cc : ByteArray} {maxL : Nat} {lv0 : List (Nat × Value)}
theorem zMi_start {ty : FieldType} {post : Int32 → S → Prop} {own : String} (hyo : y.cls = own) (hy : plainFor y = true) (hw : w = Cond.code y cc maxL (some ty) :: w') (hlen : (lg_sl av).length ≤ maxL) (hlv : lv_args 0 av = lv0)
    (h : ∀ X : zX, zC X D maxL cc own w tys → zR X rm → zL X l → zEi X D maxL cc rm wf ty post → zV X D maxL 0 0 (wf u0) 0 lv0 []) : zMi l D tys y w rm av wf u0 post := by
  intro sz
  refine zofW (cc := cc) (maxL := maxL) (ret := (some ty)) hy hw ?_
  intro p e s m args below meth c s₁ B hml hv
  obtain ⟨rfl, hsz, hP, hK, hN, hD0⟩ := hv
  have hx := B.exec
  have hb := B.bytes
  have hr := B.returns
  have hts := atoms_spec (ws := w) B.pre
  have hown : s.vm.findClass own = some m.cls := hyo ▸ findClass_of_methodNamed B.named
  have hlocks := B.notSynchronized
  subst hsz
  have hD := hD0.self (sz := s.heap.size)
  have hA : ∀ q : Nat, s.heap.size ≤ q → va_A (wf u0) s.heap.size q := fun q h => Or.inr h
  rw [lg_entry_eq]
  have hl := lv_entry av hlen
  rw [hlv] at hl
  refine h (p, l, e, (headSpec w rm).room, s, m, av.toArray, below, meth, c, _, va_A (wf u0) s.heap.size) ⟨hx, hb, hml, hown, hts, hK, hA, hlocks, hN⟩ rfl rfl ?_ s.heap [] _ hP hD va_S.rf hl
  · intro pc cells slots u lv r hdg hn hc hs hp H1 locs1 ls1 hP1 hD1 hS1 hv1
    exact W.widen hc hs (W.zret (v := r) hx hb hr hn (fun t ht hW => ⟨⟨r, u, rfl, hp, by rw [ht]; exact hP1, va_K.moved hW.alike hK, hD1⟩, hS1.F ht⟩) hS1.2.2 hdg hlocks)
theorem zMl_start {post : Int64 → S → Prop} {own : String} (hyo : y.cls = own) (hy : plainFor y = true) (hw : w = Cond.code y cc maxL (some .long) :: w') (hlen : (lg_sl av).length ≤ maxL) (hlv : lv_args 0 av = lv0)
    (h : ∀ X : zX, zC X D maxL cc own w tys → zR X rm → zL X l → zEl X D maxL cc rm wf post → zV X D maxL 0 0 (wf u0) 0 lv0 []) : zMl l D tys y w rm av wf u0 post := by
  intro sz
  refine zofW (cc := cc) (maxL := maxL) (ret := (some .long)) hy hw ?_
  intro p e s m args below meth c s₁ B hml hv
  obtain ⟨rfl, hsz, hP, hK, hN, hD0⟩ := hv
  have hx := B.exec
  have hb := B.bytes
  have hr := B.returns
  have hts := atoms_spec (ws := w) B.pre
  have hown : s.vm.findClass own = some m.cls := hyo ▸ findClass_of_methodNamed B.named
  have hlocks := B.notSynchronized
  subst hsz
  have hD := hD0.self (sz := s.heap.size)
  have hA : ∀ q : Nat, s.heap.size ≤ q → va_A (wf u0) s.heap.size q := fun q h => Or.inr h
  rw [lg_entry_eq]
  have hl := lv_entry av hlen
  rw [hlv] at hl
  refine h (p, l, e, (headSpec w rm).room, s, m, av.toArray, below, meth, c, _, va_A (wf u0) s.heap.size) ⟨hx, hb, hml, hown, hts, hK, hA, hlocks, hN⟩ rfl rfl ?_ s.heap [] _ hP hD va_S.rf hl
  · intro pc cells slots u lv r hdg hc hs hp H1 locs1 ls1 hP1 hD1 hS1 hv1
    exact W.widen hc hs (W.lret (v := r) hx hb hr (fun t ht hW => ⟨⟨r, u, rfl, hp, by rw [ht]; exact hP1, va_K.moved hW.alike hK, hD1⟩, hS1.F ht⟩) hS1.2.2 hdg hlocks)
theorem zMv_start {post : S → Prop} {own : String} (hyo : y.cls = own) (hy : plainFor y = true) (hw : w = Cond.code y cc maxL none :: w') (hlen : (lg_sl av).length ≤ maxL) (hlv : lv_args 0 av = lv0)
    (h : ∀ X : zX, zC X D maxL cc own w tys → zR X rm → zL X l → zEv X D maxL cc rm wf post → zV X D maxL 0 0 (wf u0) 0 lv0 []) : zMv l D tys y w rm av wf u0 post := by
  intro sz
  refine zofW (cc := cc) (maxL := maxL) (ret := none) hy hw ?_
  intro p e s m args below meth c s₁ B hml hv
  obtain ⟨rfl, hsz, hP, hK, hN, hD0⟩ := hv
  have hx := B.exec
  have hb := B.bytes
  have hr := B.returns
  have hts := atoms_spec (ws := w) B.pre
  have hown : s.vm.findClass own = some m.cls := hyo ▸ findClass_of_methodNamed B.named
  have hlocks := B.notSynchronized
  subst hsz
  have hD := hD0.self (sz := s.heap.size)
  have hA : ∀ q : Nat, s.heap.size ≤ q → va_A (wf u0) s.heap.size q := fun q h => Or.inr h
  rw [lg_entry_eq]
  have hl := lv_entry av hlen
  rw [hlv] at hl
  refine h (p, l, e, (headSpec w rm).room, s, m, av.toArray, below, meth, c, _, va_A (wf u0) s.heap.size) ⟨hx, hb, hml, hown, hts, hK, hA, hlocks, hN⟩ rfl rfl ?_ s.heap [] _ hP hD va_S.rf hl
  · intro pc cells slots u lv hdg hc hs hp H1 locs1 ls1 hP1 hD1 hS1 hv1
    exact W.widen hc hs (W.vret hx hb hr (fun t ht hW => ⟨⟨u, rfl, hp, by rw [ht]; exact hP1, va_K.moved hW.alike hK, hD1⟩, hS1.F ht⟩) hS1.2.2 hdg hlocks)
theorem z_calliV {X : zX} {nL : Nat} {own : String} {Ts : List Cond} {cells slots pc : Nat} {lv : List (Nat × Value)} {st : List Value} {cy : ByteArray} {R0 : Room} {ty : FieldType} {post : Int32 → S → Prop} (C : zC X D nL cc own Ts tys) (hR : zR X R0) (hL : zL X l) {b idx : Nat} {As : List Value} (hM : zMi l D tys y w rm (.ref b :: As) wf u0 post) (hG : GoodIn Ts (wsV own idx y.cls y w)) (hw : w = Cond.code y cy maxL (some ty) :: w') (hd : y.cls ≠ "java/lang/invoke/MethodHandle" ∧ y.cls ≠ "java/lang/invoke/VarHandle" ∧ (parseMethodDescriptor y.desc).map (fun d => d.parameters.length) = some As.length) (hRo : rm.frames + 1 ≤ R0.frames ∧ 8 + (maxL + 11) + rm.locals ≤ R0.locals) (hce : cells + rm.cells ≤ R0.cells ∧ slots + rm.slots ≤ R0.slots) (q0 ci : Nat) {fs : List Value} {CN : String} {T : u_T} {N : Nat} (hrecv : (wf u0)[q0]? = some (b, .inr (ci, fs))) (hcl : vwCl[ci]? = some (CN, T, N)) (hCN : CN = y.cls) {stk : List Value} (hstk : stk = As.reverse ++ .ref b :: st) (hcat : (st.map fun v => v.category).sum ≤ 8) (hdg : decode cc pc = .ok (.invokevirtual idx, 3)) (kk : ∀ (r : Int32) (u : S), post r u → zV X D nL (cells + rm.cells) (slots + rm.slots) (wf u) (pc + 3) lv (.int r :: st)) : zV X D nL cells slots (wf u0) pc lv stk := by
  obtain ⟨p, l2, e, R, s, m, args, below, meth, c, Q, A⟩ := X
  obtain ⟨hx, hb, hml, hown, hts, hK, hA, hlk, hN⟩ := C
  cases hR
  cases hL
  intro H locs ls hP hD hS hv
  have hF : ∀ q, va_A (wf u0) H.size q → A q := fun q hq => by
    rcases hq with ⟨k, e, hk⟩ | hq
    · exact hD.2 k _ hk
    · exact hA q (Nat.le_trans hS.1 hq)
  refine va_calli (va_runV (As := As) (rest := st) ⟨hx, hb, hml, hown, hts⟩ (hM H.size) (cwV As.length hts hG hw rfl rfl ⟨rfl, hd⟩ hRo) ⟨fun a U g mk q => by obtain ⟨q0, q1, qP, qK, qN, qD⟩ := q; exact ⟨q0, q1, qP, va_K.moved (u := U) (U := U.calling g mk a) (Vm.Alike.refl U.vm) qK, zN.same (u := U) (U := U.calling g mk a) rfl qN, qD⟩, hCN ▸ va_recv hK hP hcl hrecv, fun U hU hW => ⟨rfl, by rw [hU], by rw [hU]; exact hP, va_K.moved hW.alike hK, hN.warm hW, hD.weaken (fun _ _ _ _ => trivial)⟩⟩ rfl rfl hv.1 hstk (lv_room hcat) hdg hce) hS (fun q _ h => hF q h) hF (fun r u t H1 locs1 ht hvm hw hB hz1 hk1 hS1 => ?_)
  obtain ⟨hP1, hK1, hD1⟩ := hB
  rw [ht] at hP1
  exact kk r u hw H1 locs1 ls hP1 (hD1.weaken (fun _ _ _ h => hF _ h)) hS1 hv
theorem z_calliS {X : zX} {nL : Nat} {own : String} {Ts : List Cond} {cells slots pc : Nat} {lv : List (Nat × Value)} {st : List Value} {cy : ByteArray} {R0 : Room} {ty : FieldType} {post : Int32 → S → Prop} (C : zC X D nL cc own Ts tys) (hR : zR X R0) (hL : zL X l) {idx : Nat} {As : List Value} (hM : zMi l D tys y w rm (As) wf u0 post) (hG : GoodIn Ts (va_wsS own idx y w)) (hw : w = Cond.code y cy maxL (some ty) :: w') (hd : y.cls ≠ "java/lang/invoke/MethodHandle" ∧ y.cls ≠ "java/lang/invoke/VarHandle" ∧ (parseMethodDescriptor y.desc).map (fun d => d.parameters.length) = some As.length) (hRo : rm.frames + 1 ≤ R0.frames ∧ 8 + (maxL + 11) + rm.locals ≤ R0.locals) (hce : cells + rm.cells ≤ R0.cells ∧ slots + rm.slots ≤ R0.slots) {stk : List Value} (hstk : stk = As.reverse ++ st) (hcat : (st.map fun v => v.category).sum ≤ 8) (hdg : decode cc pc = .ok (.invokestatic idx, 3)) (kk : ∀ (r : Int32) (u : S), post r u → zV X D nL (cells + rm.cells) (slots + rm.slots) (wf u) (pc + 3) lv (.int r :: st)) : zV X D nL cells slots (wf u0) pc lv stk := by
  obtain ⟨p, l2, e, R, s, m, args, below, meth, c, Q, A⟩ := X
  obtain ⟨hx, hb, hml, hown, hts, hK, hA, hlk, hN⟩ := C
  cases hR
  cases hL
  intro H locs ls hP hD hS hv
  have hF : ∀ q, va_A (wf u0) H.size q → A q := fun q hq => by
    rcases hq with ⟨k, e, hk⟩ | hq
    · exact hD.2 k _ hk
    · exact hA q (Nat.le_trans hS.1 hq)
  refine va_calli (va_runS (As := As) (rest := st) ⟨hx, hb, hml, hown, hts⟩ (hM H.size) (va_cwS As.length hts hG hw rfl rfl hd hRo) ⟨fun a U g mk q => by obtain ⟨q0, q1, qP, qK, qN, qD⟩ := q; exact ⟨q0, q1, qP, va_K.moved (u := U) (U := U.calling g mk a) (Vm.Alike.refl U.vm) qK, zN.same (u := U) (U := U.calling g mk a) rfl qN, qD⟩, fun U hU hW => ⟨rfl, by rw [hU], by rw [hU]; exact hP, va_K.moved hW.alike hK, hN.warm hW, hD.weaken (fun _ _ _ _ => trivial)⟩⟩ rfl rfl hv.1 hstk (lv_room hcat) hdg hce) hS (fun q _ h => hF q h) hF (fun r u t H1 locs1 ht hvm hw hB hz1 hk1 hS1 => ?_)
  obtain ⟨hP1, hK1, hD1⟩ := hB
  rw [ht] at hP1
  exact kk r u hw H1 locs1 ls hP1 (hD1.weaken (fun _ _ _ h => hF _ h)) hS1 hv
theorem z_calllV {X : zX} {nL : Nat} {own : String} {Ts : List Cond} {cells slots pc : Nat} {lv : List (Nat × Value)} {st : List Value} {cy : ByteArray} {R0 : Room} {post : Int64 → S → Prop} (C : zC X D nL cc own Ts tys) (hR : zR X R0) (hL : zL X l) {b idx : Nat} {As : List Value} (hM : zMl l D tys y w rm (.ref b :: As) wf u0 post) (hG : GoodIn Ts (wsV own idx y.cls y w)) (hw : w = Cond.code y cy maxL (some .long) :: w') (hd : y.cls ≠ "java/lang/invoke/MethodHandle" ∧ y.cls ≠ "java/lang/invoke/VarHandle" ∧ (parseMethodDescriptor y.desc).map (fun d => d.parameters.length) = some As.length) (hRo : rm.frames + 1 ≤ R0.frames ∧ 8 + (maxL + 11) + rm.locals ≤ R0.locals) (hce : cells + rm.cells ≤ R0.cells ∧ slots + rm.slots ≤ R0.slots) (q0 ci : Nat) {fs : List Value} {CN : String} {T : u_T} {N : Nat} (hrecv : (wf u0)[q0]? = some (b, .inr (ci, fs))) (hcl : vwCl[ci]? = some (CN, T, N)) (hCN : CN = y.cls) {stk : List Value} (hstk : stk = As.reverse ++ .ref b :: st) (hcat : (st.map fun v => v.category).sum ≤ 8) (hdg : decode cc pc = .ok (.invokevirtual idx, 3)) (kk : ∀ (r : Int64) (u : S), post r u → zV X D nL (cells + rm.cells) (slots + rm.slots) (wf u) (pc + 3) lv (.long r :: st)) : zV X D nL cells slots (wf u0) pc lv stk := by
  obtain ⟨p, l2, e, R, s, m, args, below, meth, c, Q, A⟩ := X
  obtain ⟨hx, hb, hml, hown, hts, hK, hA, hlk, hN⟩ := C
  cases hR
  cases hL
  intro H locs ls hP hD hS hv
  have hF : ∀ q, va_A (wf u0) H.size q → A q := fun q hq => by
    rcases hq with ⟨k, e, hk⟩ | hq
    · exact hD.2 k _ hk
    · exact hA q (Nat.le_trans hS.1 hq)
  refine va_calll (va_runV (As := As) (rest := st) ⟨hx, hb, hml, hown, hts⟩ (hM H.size) (cwV As.length hts hG hw rfl rfl ⟨rfl, hd⟩ hRo) ⟨fun a U g mk q => by obtain ⟨q0, q1, qP, qK, qN, qD⟩ := q; exact ⟨q0, q1, qP, va_K.moved (u := U) (U := U.calling g mk a) (Vm.Alike.refl U.vm) qK, zN.same (u := U) (U := U.calling g mk a) rfl qN, qD⟩, hCN ▸ va_recv hK hP hcl hrecv, fun U hU hW => ⟨rfl, by rw [hU], by rw [hU]; exact hP, va_K.moved hW.alike hK, hN.warm hW, hD.weaken (fun _ _ _ _ => trivial)⟩⟩ rfl rfl hv.1 hstk (lv_room hcat) hdg hce) hS (fun q _ h => hF q h) hF (fun r u t H1 locs1 ht hvm hw hB hz1 hk1 hS1 => ?_)
  obtain ⟨hP1, hK1, hD1⟩ := hB
  rw [ht] at hP1
  exact kk r u hw H1 locs1 ls hP1 (hD1.weaken (fun _ _ _ h => hF _ h)) hS1 hv
theorem z_calllS {X : zX} {nL : Nat} {own : String} {Ts : List Cond} {cells slots pc : Nat} {lv : List (Nat × Value)} {st : List Value} {cy : ByteArray} {R0 : Room} {post : Int64 → S → Prop} (C : zC X D nL cc own Ts tys) (hR : zR X R0) (hL : zL X l) {idx : Nat} {As : List Value} (hM : zMl l D tys y w rm (As) wf u0 post) (hG : GoodIn Ts (va_wsS own idx y w)) (hw : w = Cond.code y cy maxL (some .long) :: w') (hd : y.cls ≠ "java/lang/invoke/MethodHandle" ∧ y.cls ≠ "java/lang/invoke/VarHandle" ∧ (parseMethodDescriptor y.desc).map (fun d => d.parameters.length) = some As.length) (hRo : rm.frames + 1 ≤ R0.frames ∧ 8 + (maxL + 11) + rm.locals ≤ R0.locals) (hce : cells + rm.cells ≤ R0.cells ∧ slots + rm.slots ≤ R0.slots) {stk : List Value} (hstk : stk = As.reverse ++ st) (hcat : (st.map fun v => v.category).sum ≤ 8) (hdg : decode cc pc = .ok (.invokestatic idx, 3)) (kk : ∀ (r : Int64) (u : S), post r u → zV X D nL (cells + rm.cells) (slots + rm.slots) (wf u) (pc + 3) lv (.long r :: st)) : zV X D nL cells slots (wf u0) pc lv stk := by
  obtain ⟨p, l2, e, R, s, m, args, below, meth, c, Q, A⟩ := X
  obtain ⟨hx, hb, hml, hown, hts, hK, hA, hlk, hN⟩ := C
  cases hR
  cases hL
  intro H locs ls hP hD hS hv
  have hF : ∀ q, va_A (wf u0) H.size q → A q := fun q hq => by
    rcases hq with ⟨k, e, hk⟩ | hq
    · exact hD.2 k _ hk
    · exact hA q (Nat.le_trans hS.1 hq)
  refine va_calll (va_runS (As := As) (rest := st) ⟨hx, hb, hml, hown, hts⟩ (hM H.size) (va_cwS As.length hts hG hw rfl rfl hd hRo) ⟨fun a U g mk q => by obtain ⟨q0, q1, qP, qK, qN, qD⟩ := q; exact ⟨q0, q1, qP, va_K.moved (u := U) (U := U.calling g mk a) (Vm.Alike.refl U.vm) qK, zN.same (u := U) (U := U.calling g mk a) rfl qN, qD⟩, fun U hU hW => ⟨rfl, by rw [hU], by rw [hU]; exact hP, va_K.moved hW.alike hK, hN.warm hW, hD.weaken (fun _ _ _ _ => trivial)⟩⟩ rfl rfl hv.1 hstk (lv_room hcat) hdg hce) hS (fun q _ h => hF q h) hF (fun r u t H1 locs1 ht hvm hw hB hz1 hk1 hS1 => ?_)
  obtain ⟨hP1, hK1, hD1⟩ := hB
  rw [ht] at hP1
  exact kk r u hw H1 locs1 ls hP1 (hD1.weaken (fun _ _ _ h => hF _ h)) hS1 hv
theorem z_callvV {X : zX} {nL : Nat} {own : String} {Ts : List Cond} {cells slots pc : Nat} {lv : List (Nat × Value)} {st : List Value} {cy : ByteArray} {R0 : Room} {post : S → Prop} (C : zC X D nL cc own Ts tys) (hR : zR X R0) (hL : zL X l) {b idx : Nat} {As : List Value} (hM : zMv l D tys y w rm (.ref b :: As) wf u0 post) (hG : GoodIn Ts (wsV own idx y.cls y w)) (hw : w = Cond.code y cy maxL none :: w') (hd : y.cls ≠ "java/lang/invoke/MethodHandle" ∧ y.cls ≠ "java/lang/invoke/VarHandle" ∧ (parseMethodDescriptor y.desc).map (fun d => d.parameters.length) = some As.length) (hRo : rm.frames + 1 ≤ R0.frames ∧ 8 + (maxL + 11) + rm.locals ≤ R0.locals) (hce : cells + rm.cells ≤ R0.cells ∧ slots + rm.slots ≤ R0.slots) (q0 ci : Nat) {fs : List Value} {CN : String} {T : u_T} {N : Nat} (hrecv : (wf u0)[q0]? = some (b, .inr (ci, fs))) (hcl : vwCl[ci]? = some (CN, T, N)) (hCN : CN = y.cls) {stk : List Value} (hstk : stk = As.reverse ++ .ref b :: st) (hcat : (st.map fun v => v.category).sum ≤ 8) (hdg : decode cc pc = .ok (.invokevirtual idx, 3)) (kk : ∀ (u : S), post u → zV X D nL (cells + rm.cells) (slots + rm.slots) (wf u) (pc + 3) lv st) : zV X D nL cells slots (wf u0) pc lv stk := by
  obtain ⟨p, l2, e, R, s, m, args, below, meth, c, Q, A⟩ := X
  obtain ⟨hx, hb, hml, hown, hts, hK, hA, hlk, hN⟩ := C
  cases hR
  cases hL
  intro H locs ls hP hD hS hv
  have hF : ∀ q, va_A (wf u0) H.size q → A q := fun q hq => by
    rcases hq with ⟨k, e, hk⟩ | hq
    · exact hD.2 k _ hk
    · exact hA q (Nat.le_trans hS.1 hq)
  refine va_callv (va_runV (As := As) (rest := st) ⟨hx, hb, hml, hown, hts⟩ (hM H.size) (cwV As.length hts hG hw rfl rfl ⟨rfl, hd⟩ hRo) ⟨fun a U g mk q => by obtain ⟨q0, q1, qP, qK, qN, qD⟩ := q; exact ⟨q0, q1, qP, va_K.moved (u := U) (U := U.calling g mk a) (Vm.Alike.refl U.vm) qK, zN.same (u := U) (U := U.calling g mk a) rfl qN, qD⟩, hCN ▸ va_recv hK hP hcl hrecv, fun U hU hW => ⟨rfl, by rw [hU], by rw [hU]; exact hP, va_K.moved hW.alike hK, hN.warm hW, hD.weaken (fun _ _ _ _ => trivial)⟩⟩ rfl rfl hv.1 hstk (lv_room hcat) hdg hce) hS (fun q _ h => hF q h) hF (fun u t H1 locs1 ht hvm hw hB hz1 hk1 hS1 => ?_)
  obtain ⟨hP1, hK1, hD1⟩ := hB
  rw [ht] at hP1
  exact kk u hw H1 locs1 ls hP1 (hD1.weaken (fun _ _ _ h => hF _ h)) hS1 hv
theorem z_callvS {X : zX} {nL : Nat} {own : String} {Ts : List Cond} {cells slots pc : Nat} {lv : List (Nat × Value)} {st : List Value} {cy : ByteArray} {R0 : Room} {post : S → Prop} (C : zC X D nL cc own Ts tys) (hR : zR X R0) (hL : zL X l) {idx : Nat} {As : List Value} (hM : zMv l D tys y w rm (As) wf u0 post) (hG : GoodIn Ts (va_wsS own idx y w)) (hw : w = Cond.code y cy maxL none :: w') (hd : y.cls ≠ "java/lang/invoke/MethodHandle" ∧ y.cls ≠ "java/lang/invoke/VarHandle" ∧ (parseMethodDescriptor y.desc).map (fun d => d.parameters.length) = some As.length) (hRo : rm.frames + 1 ≤ R0.frames ∧ 8 + (maxL + 11) + rm.locals ≤ R0.locals) (hce : cells + rm.cells ≤ R0.cells ∧ slots + rm.slots ≤ R0.slots) {stk : List Value} (hstk : stk = As.reverse ++ st) (hcat : (st.map fun v => v.category).sum ≤ 8) (hdg : decode cc pc = .ok (.invokestatic idx, 3)) (kk : ∀ (u : S), post u → zV X D nL (cells + rm.cells) (slots + rm.slots) (wf u) (pc + 3) lv st) : zV X D nL cells slots (wf u0) pc lv stk := by
  obtain ⟨p, l2, e, R, s, m, args, below, meth, c, Q, A⟩ := X
  obtain ⟨hx, hb, hml, hown, hts, hK, hA, hlk, hN⟩ := C
  cases hR
  cases hL
  intro H locs ls hP hD hS hv
  have hF : ∀ q, va_A (wf u0) H.size q → A q := fun q hq => by
    rcases hq with ⟨k, e, hk⟩ | hq
    · exact hD.2 k _ hk
    · exact hA q (Nat.le_trans hS.1 hq)
  refine va_callv (va_runS (As := As) (rest := st) ⟨hx, hb, hml, hown, hts⟩ (hM H.size) (va_cwS As.length hts hG hw rfl rfl hd hRo) ⟨fun a U g mk q => by obtain ⟨q0, q1, qP, qK, qN, qD⟩ := q; exact ⟨q0, q1, qP, va_K.moved (u := U) (U := U.calling g mk a) (Vm.Alike.refl U.vm) qK, zN.same (u := U) (U := U.calling g mk a) rfl qN, qD⟩, fun U hU hW => ⟨rfl, by rw [hU], by rw [hU]; exact hP, va_K.moved hW.alike hK, hN.warm hW, hD.weaken (fun _ _ _ _ => trivial)⟩⟩ rfl rfl hv.1 hstk (lv_room hcat) hdg hce) hS (fun q _ h => hF q h) hF (fun u t H1 locs1 ht hvm hw hB hz1 hk1 hS1 => ?_)
  obtain ⟨hP1, hK1, hD1⟩ := hB
  rw [ht] at hP1
  exact kk u hw H1 locs1 ls hP1 (hD1.weaken (fun _ _ _ h => hF _ h)) hS1 hv
theorem z_call0iV {X : zX} {nL : Nat} {own : String} {Ts : List Cond} {cells slots pc : Nat} {lv : List (Nat × Value)} {st : List Value} {cy : ByteArray} {R0 : Room} {ty : FieldType} {post : Int32 → S → Prop} (C : zC X D nL cc own Ts tys) (hR : zR X R0) (hL : zL X l) {b idx : Nat} {As : List Value} (hM : zMi l D tys y w rm (.ref b :: As) wf u0 post) (hG : GoodIn Ts (wsV own idx y.cls y w)) (hw : w = Cond.code y cy maxL (some ty) :: w') (hd : y.cls ≠ "java/lang/invoke/MethodHandle" ∧ y.cls ≠ "java/lang/invoke/VarHandle" ∧ (parseMethodDescriptor y.desc).map (fun d => d.parameters.length) = some As.length) (hz : rm.cells = 0 ∧ rm.slots = 0) (hRo : rm.frames + 1 ≤ R0.frames ∧ 8 + (maxL + 11) + rm.locals ≤ R0.locals) (hce : cells ≤ R0.cells ∧ slots ≤ R0.slots) (q0 ci : Nat) {fs : List Value} {CN : String} {T : u_T} {N : Nat} (hrecv : (wf u0)[q0]? = some (b, .inr (ci, fs))) (hcl : vwCl[ci]? = some (CN, T, N)) (hCN : CN = y.cls) {stk : List Value} (hstk : stk = As.reverse ++ .ref b :: st) (hcat : (st.map fun v => v.category).sum ≤ 8) (hdg : decode cc pc = .ok (.invokevirtual idx, 3)) (kk : ∀ (r : Int32) (u : S), post r u → zV X D nL cells slots (wf u) (pc + 3) lv (.int r :: st)) : zV X D nL cells slots (wf u0) pc lv stk :=
  z_calliV C hR hL hM hG hw hd hRo (by rw [hz.1, hz.2]; exact hce) q0 ci hrecv hcl hCN hstk hcat hdg (fun r u h => by rw [hz.1, hz.2]; exact kk r u h)
theorem z_call0iS {X : zX} {nL : Nat} {own : String} {Ts : List Cond} {cells slots pc : Nat} {lv : List (Nat × Value)} {st : List Value} {cy : ByteArray} {R0 : Room} {ty : FieldType} {post : Int32 → S → Prop} (C : zC X D nL cc own Ts tys) (hR : zR X R0) (hL : zL X l) {idx : Nat} {As : List Value} (hM : zMi l D tys y w rm (As) wf u0 post) (hG : GoodIn Ts (va_wsS own idx y w)) (hw : w = Cond.code y cy maxL (some ty) :: w') (hd : y.cls ≠ "java/lang/invoke/MethodHandle" ∧ y.cls ≠ "java/lang/invoke/VarHandle" ∧ (parseMethodDescriptor y.desc).map (fun d => d.parameters.length) = some As.length) (hz : rm.cells = 0 ∧ rm.slots = 0) (hRo : rm.frames + 1 ≤ R0.frames ∧ 8 + (maxL + 11) + rm.locals ≤ R0.locals) (hce : cells ≤ R0.cells ∧ slots ≤ R0.slots) {stk : List Value} (hstk : stk = As.reverse ++ st) (hcat : (st.map fun v => v.category).sum ≤ 8) (hdg : decode cc pc = .ok (.invokestatic idx, 3)) (kk : ∀ (r : Int32) (u : S), post r u → zV X D nL cells slots (wf u) (pc + 3) lv (.int r :: st)) : zV X D nL cells slots (wf u0) pc lv stk :=
  z_calliS C hR hL hM hG hw hd hRo (by rw [hz.1, hz.2]; exact hce) hstk hcat hdg (fun r u h => by rw [hz.1, hz.2]; exact kk r u h)
theorem z_call0lV {X : zX} {nL : Nat} {own : String} {Ts : List Cond} {cells slots pc : Nat} {lv : List (Nat × Value)} {st : List Value} {cy : ByteArray} {R0 : Room} {post : Int64 → S → Prop} (C : zC X D nL cc own Ts tys) (hR : zR X R0) (hL : zL X l) {b idx : Nat} {As : List Value} (hM : zMl l D tys y w rm (.ref b :: As) wf u0 post) (hG : GoodIn Ts (wsV own idx y.cls y w)) (hw : w = Cond.code y cy maxL (some .long) :: w') (hd : y.cls ≠ "java/lang/invoke/MethodHandle" ∧ y.cls ≠ "java/lang/invoke/VarHandle" ∧ (parseMethodDescriptor y.desc).map (fun d => d.parameters.length) = some As.length) (hz : rm.cells = 0 ∧ rm.slots = 0) (hRo : rm.frames + 1 ≤ R0.frames ∧ 8 + (maxL + 11) + rm.locals ≤ R0.locals) (hce : cells ≤ R0.cells ∧ slots ≤ R0.slots) (q0 ci : Nat) {fs : List Value} {CN : String} {T : u_T} {N : Nat} (hrecv : (wf u0)[q0]? = some (b, .inr (ci, fs))) (hcl : vwCl[ci]? = some (CN, T, N)) (hCN : CN = y.cls) {stk : List Value} (hstk : stk = As.reverse ++ .ref b :: st) (hcat : (st.map fun v => v.category).sum ≤ 8) (hdg : decode cc pc = .ok (.invokevirtual idx, 3)) (kk : ∀ (r : Int64) (u : S), post r u → zV X D nL cells slots (wf u) (pc + 3) lv (.long r :: st)) : zV X D nL cells slots (wf u0) pc lv stk :=
  z_calllV C hR hL hM hG hw hd hRo (by rw [hz.1, hz.2]; exact hce) q0 ci hrecv hcl hCN hstk hcat hdg (fun r u h => by rw [hz.1, hz.2]; exact kk r u h)
theorem z_call0lS {X : zX} {nL : Nat} {own : String} {Ts : List Cond} {cells slots pc : Nat} {lv : List (Nat × Value)} {st : List Value} {cy : ByteArray} {R0 : Room} {post : Int64 → S → Prop} (C : zC X D nL cc own Ts tys) (hR : zR X R0) (hL : zL X l) {idx : Nat} {As : List Value} (hM : zMl l D tys y w rm (As) wf u0 post) (hG : GoodIn Ts (va_wsS own idx y w)) (hw : w = Cond.code y cy maxL (some .long) :: w') (hd : y.cls ≠ "java/lang/invoke/MethodHandle" ∧ y.cls ≠ "java/lang/invoke/VarHandle" ∧ (parseMethodDescriptor y.desc).map (fun d => d.parameters.length) = some As.length) (hz : rm.cells = 0 ∧ rm.slots = 0) (hRo : rm.frames + 1 ≤ R0.frames ∧ 8 + (maxL + 11) + rm.locals ≤ R0.locals) (hce : cells ≤ R0.cells ∧ slots ≤ R0.slots) {stk : List Value} (hstk : stk = As.reverse ++ st) (hcat : (st.map fun v => v.category).sum ≤ 8) (hdg : decode cc pc = .ok (.invokestatic idx, 3)) (kk : ∀ (r : Int64) (u : S), post r u → zV X D nL cells slots (wf u) (pc + 3) lv (.long r :: st)) : zV X D nL cells slots (wf u0) pc lv stk :=
  z_calllS C hR hL hM hG hw hd hRo (by rw [hz.1, hz.2]; exact hce) hstk hcat hdg (fun r u h => by rw [hz.1, hz.2]; exact kk r u h)
theorem z_call0vV {X : zX} {nL : Nat} {own : String} {Ts : List Cond} {cells slots pc : Nat} {lv : List (Nat × Value)} {st : List Value} {cy : ByteArray} {R0 : Room} {post : S → Prop} (C : zC X D nL cc own Ts tys) (hR : zR X R0) (hL : zL X l) {b idx : Nat} {As : List Value} (hM : zMv l D tys y w rm (.ref b :: As) wf u0 post) (hG : GoodIn Ts (wsV own idx y.cls y w)) (hw : w = Cond.code y cy maxL none :: w') (hd : y.cls ≠ "java/lang/invoke/MethodHandle" ∧ y.cls ≠ "java/lang/invoke/VarHandle" ∧ (parseMethodDescriptor y.desc).map (fun d => d.parameters.length) = some As.length) (hz : rm.cells = 0 ∧ rm.slots = 0) (hRo : rm.frames + 1 ≤ R0.frames ∧ 8 + (maxL + 11) + rm.locals ≤ R0.locals) (hce : cells ≤ R0.cells ∧ slots ≤ R0.slots) (q0 ci : Nat) {fs : List Value} {CN : String} {T : u_T} {N : Nat} (hrecv : (wf u0)[q0]? = some (b, .inr (ci, fs))) (hcl : vwCl[ci]? = some (CN, T, N)) (hCN : CN = y.cls) {stk : List Value} (hstk : stk = As.reverse ++ .ref b :: st) (hcat : (st.map fun v => v.category).sum ≤ 8) (hdg : decode cc pc = .ok (.invokevirtual idx, 3)) (kk : ∀ (u : S), post u → zV X D nL cells slots (wf u) (pc + 3) lv st) : zV X D nL cells slots (wf u0) pc lv stk :=
  z_callvV C hR hL hM hG hw hd hRo (by rw [hz.1, hz.2]; exact hce) q0 ci hrecv hcl hCN hstk hcat hdg (fun u h => by rw [hz.1, hz.2]; exact kk u h)
theorem z_call0vS {X : zX} {nL : Nat} {own : String} {Ts : List Cond} {cells slots pc : Nat} {lv : List (Nat × Value)} {st : List Value} {cy : ByteArray} {R0 : Room} {post : S → Prop} (C : zC X D nL cc own Ts tys) (hR : zR X R0) (hL : zL X l) {idx : Nat} {As : List Value} (hM : zMv l D tys y w rm (As) wf u0 post) (hG : GoodIn Ts (va_wsS own idx y w)) (hw : w = Cond.code y cy maxL none :: w') (hd : y.cls ≠ "java/lang/invoke/MethodHandle" ∧ y.cls ≠ "java/lang/invoke/VarHandle" ∧ (parseMethodDescriptor y.desc).map (fun d => d.parameters.length) = some As.length) (hz : rm.cells = 0 ∧ rm.slots = 0) (hRo : rm.frames + 1 ≤ R0.frames ∧ 8 + (maxL + 11) + rm.locals ≤ R0.locals) (hce : cells ≤ R0.cells ∧ slots ≤ R0.slots) {stk : List Value} (hstk : stk = As.reverse ++ st) (hcat : (st.map fun v => v.category).sum ≤ 8) (hdg : decode cc pc = .ok (.invokestatic idx, 3)) (kk : ∀ (u : S), post u → zV X D nL cells slots (wf u) (pc + 3) lv st) : zV X D nL cells slots (wf u0) pc lv stk :=
  z_callvS C hR hL hM hG hw hd hRo (by rw [hz.1, hz.2]; exact hce) hstk hcat hdg (fun u h => by rw [hz.1, hz.2]; exact kk u h)
theorem z_call0lN {X : zX} {nL : Nat} {own : String} {Ts : List Cond} {cells slots pc : Nat} {lv : List (Nat × Value)} {st : List Value} {cy : ByteArray} {R0 : Room} {post : Int64 → S → Prop} (C : zC X D nL cc own Ts tys) (hR : zR X R0) (hL : zL X l) {idx : Nat} {host : String} {As : List Value} (hM : zMl l D tys y w rm As wf u0 post) (hG : GoodIn Ts w) (hw : w = Cond.code y cy maxL (some .long) :: w') (hN : ∀ U : State, zN U → va_Nw (.methodLinkNest own idx y host) U) (h1 : Cond.static y ∈ Ts) (h2 : Cond.initialized y.cls ∈ Ts) (hd : y.cls ≠ "java/lang/invoke/MethodHandle" ∧ y.cls ≠ "java/lang/invoke/VarHandle" ∧ (parseMethodDescriptor y.desc).map (fun d => d.parameters.length) = some As.length) (hz : rm.cells = 0 ∧ rm.slots = 0) (hRo : rm.frames + 1 ≤ R0.frames ∧ 8 + (maxL + 11) + rm.locals ≤ R0.locals) (hce : cells ≤ R0.cells ∧ slots ≤ R0.slots) {stk : List Value} (hstk : stk = As.reverse ++ st) (hcat : (st.map fun v => v.category).sum ≤ 8) (hdg : decode cc pc = .ok (.invokestatic idx, 3)) (kk : ∀ (r : Int64) (u : S), post r u → zV X D nL cells slots (wf u) (pc + 3) lv (.long r :: st)) : zV X D nL cells slots (wf u0) pc lv stk := by
  obtain ⟨p, l2, e, R, s, m, args, below, meth, c, Q, A⟩ := X
  obtain ⟨hx, hb, hml, hown, hts, hK, hA, hlk, hNs⟩ := C
  cases hR
  cases hL
  intro H locs ls hP hD hS hv
  have hF : ∀ q, va_A (wf u0) H.size q → A q := fun q hq => by
    rcases hq with ⟨k, e, hk⟩ | hq
    · exact hD.2 k _ hk
    · exact hA q (Nat.le_trans hS.1 hq)
  refine va_calll (va_runSN (As := As) (rest := st) ⟨hx, hb, hml, hown, hts⟩ (hM H.size) ⟨va_cnB As.length hts hG hw rfl rfl (hN s hNs) (hts _ h2) hd hRo, hts _ h1, trivial⟩ ⟨fun a U g mk q => by obtain ⟨q0, q1, qP, qK, qN, qD⟩ := q; exact ⟨q0, q1, qP, va_K.moved (u := U) (U := U.calling g mk a) (Vm.Alike.refl U.vm) qK, zN.same (u := U) (U := U.calling g mk a) rfl qN, qD⟩, fun U hU hW => ⟨rfl, by rw [hU], by rw [hU]; exact hP, va_K.moved hW.alike hK, hNs.warm hW, hD.weaken (fun _ _ _ _ => trivial)⟩⟩ rfl rfl hv.1 hstk (lv_room hcat) hdg (by rw [hz.1, hz.2]; exact hce)) hS (fun q _ h => hF q h) hF (fun r u t H1 locs1 ht hvm hw hB hz1 hk1 hS1 => ?_)
  obtain ⟨hP1, hK1, hD1⟩ := hB
  rw [ht] at hP1
  rw [hz.1, hz.2]
  exact kk r u hw H1 locs1 ls hP1 (hD1.weaken (fun _ _ _ h => hF _ h)) hS1 hv
end ZM
