/-! METHODS THAT THROW: the surroundings of a throw (zEx: names and texts; zZ: two static fields), contracts zXi, zXl, zXv, their ends and calls -/
section ZX
abbrev nISE : String := "java/lang/IllegalStateException"
abbrev nIAE : String := "java/lang/IllegalArgumentException"
abbrev nIOB : String := "java/lang/IndexOutOfBoundsException"
abbrev zNames : List String := ["java/lang/RuntimeException", "java/lang/Exception"]
def zEx (ea : Nat → Nat) (U : State) : Prop :=
  va_Nw (.castable nISE nISE) U ∧ va_Nw (.castable nIAE nIAE) U ∧ va_Nw (.castable nIOB nIOB) U ∧
  va_Nw (.declares (Bundle.initS "java/lang/RuntimeException")) U ∧ va_Nw (.declares (Bundle.initS "java/lang/Exception")) U ∧ va_Nw (.declares (Bundle.initS Bundle.tN)) U ∧
  vk_R RX4 45 "there are 6 stations" (ea 45) U ∧ vk_R RX4 64 "a height is from -9999 to 9999" (ea 64) U ∧ vk_R RX4 71 "an observation is between two stations" (ea 71) U ∧ vk_R RX4 73 "a difference is from -9999 to 9999" (ea 73) U ∧ vk_R RX4 75 "a weight is from 1 to 5" (ea 75) U ∧ vk_R RX4 80 "there are 14 observations" (ea 80) U ∧ vk_R RX4 94 "a bound is from 0 to 1000000000" (ea 94) U ∧ vk_R RX4 106 "the path has 10 stations" (ea 106) U ∧ vk_R RX4 119 "no observation in the net joins the stations" (ea 119) U ∧ vk_R RX4 165 "there is no such station" (ea 165) U ∧ vk_R RX4 171 "there is no such observation" (ea 171) U ∧ vk_R RX4 177 "the observation is withdrawn" (ea 177) U
theorem zEx.same {ea : Nat → Nat} {u U : State} (h : u.vm = U.vm) (z : zEx ea u) : zEx ea U := by
  obtain ⟨c1, c2, c3, d1, d2, d3, v0, v1, v2, v3, v4, v5, v6, v7, v8, v9, v10, v11⟩ := z
  exact ⟨va_Nw.same rfl h c1, va_Nw.same rfl h c2, va_Nw.same rfl h c3, va_Nw.same rfl h d1, va_Nw.same rfl h d2, va_Nw.same rfl h d3, vk_R.same h.symm v0, vk_R.same h.symm v1, vk_R.same h.symm v2, vk_R.same h.symm v3, vk_R.same h.symm v4, vk_R.same h.symm v5, vk_R.same h.symm v6, vk_R.same h.symm v7, vk_R.same h.symm v8, vk_R.same h.symm v9, vk_R.same h.symm v10, vk_R.same h.symm v11⟩
theorem zEx.warm {ea : Nat → Nat} {s U : State} (hW : s.WarmedH U.vm) (z : zEx ea s) : zEx ea U := by
  obtain ⟨c1, c2, c3, d1, d2, d3, v0, v1, v2, v3, v4, v5, v6, v7, v8, v9, v10, v11⟩ := z
  exact ⟨va_Nw.warmC hW c1, va_Nw.warmC hW c2, va_Nw.warmC hW c3, va_Nw.warmD hW d1, va_Nw.warmD hW d2, va_Nw.warmD hW d3, vk_R.warm hW v0, vk_R.warm hW v1, vk_R.warm hW v2, vk_R.warm hW v3, vk_R.warm hW v4, vk_R.warm hW v5, vk_R.warm hW v6, vk_R.warm hW v7, vk_R.warm hW v8, vk_R.warm hW v9, vk_R.warm hW v10, vk_R.warm hW v11⟩
def zZ (A : Nat → Prop) (U : State) (H : Heap) : Prop := vx_Zq Bundle.tN "UNASSIGNED_STACK" Bundle.steD A U H ∧ vx_Zq Bundle.tN "SUPPRESSED_SENTINEL" Bundle.listD A U H
theorem zZ.moved {A : Nat → Prop} {u U : State} {H : Heap} (hvm : u.vm.Alike U.vm) (h : zZ A u H) : zZ A U H := ⟨h.1.moved hvm, h.2.moved hvm⟩
theorem zZ.kept {A : Nat → Prop} {U : State} {H H1 : Heap} (h : zZ A U H) (hq : ∀ a : Nat, a < H.size → ¬ A a → H1[a]? = H[a]?) : zZ A U H1 := ⟨h.1.kept hq, h.2.kept hq⟩
theorem zZ.narrow {A B : Nat → Prop} {U : State} {H : Heap} (h : zZ A U H) (hAB : ∀ q, B q → A q) : zZ B U H := ⟨h.1.narrow hAB, h.2.narrow hAB⟩
variable {S : Type}
/-- the surroundings, at a method's entry -/
def zCX : zX → (Nat → Nat) → Prop := fun X ea => match X with
  | (_, l, _, _, s, _, _, _, _, c, _, A) => zEx ea s ∧ zZ A s s.heap ∧ l.stackTraces = false ∧ (∀ x ∈ c.exceptionTable.toList, False)
def zXE : zX → va_G → Room → (S → va_W) → (String → S → Prop) → Prop := fun X D rm wf px => match X with
  | (_, _, _, _, s, _, args, below, _, _, Q, A) => ∃ (Qc : Array Value → State → Outcome → State → Prop) (XC : String → State → State → Prop), Q = vx_MQ below Qc XC args s rm.cells rm.slots A ∧
      ∀ (E : String) (u : S) (H : Heap) (locs : List Loc) (t : State), va_P D vwCl (wf u) H → va_D A (wf u) → va_S A s.heap H locs → s.vm.Alike t.vm → H.size ≤ t.heap.size → (∀ q : Nat, q < H.size → t.heap[q]? = H[q]?) → px E u → XC E s t
def zXi (l : Launch) (D : va_G) (tys : List (ClassId × FieldType)) (ea : Nat → Nat) (y : MethodName) (w : List Cond) (rm : Room) (av : List Value) (wf : S → va_W) (u0 : S) (post : Int32 → S → Prop) (px : String → S → Prop) : Prop :=
  ∀ sz : Nat, vx_Met l y w rm (va_Pc av (fun U => U.heap.size = sz ∧ va_P D vwCl (wf u0) U.heap ∧ va_K D vwCl tys U ∧ zN U ∧ zEx ea U ∧ zZ (va_A (wf u0) sz) U U.heap ∧ va_D (fun _ => True) (wf u0))) (va_Qi post (fun u t => va_P D vwCl (wf u) t.heap ∧ va_K D vwCl tys t ∧ va_D (va_A (wf u0) sz) (wf u)) (va_A (wf u0) sz))
    (vx_X (fun _ => True) (fun E u t => px E u ∧ va_P D vwCl (wf u) t.heap ∧ va_K D vwCl tys t ∧ va_D (va_A (wf u0) sz) (wf u)) (va_A (wf u0) sz)) rm.cells rm.slots (va_A (wf u0) sz)
def zXl (l : Launch) (D : va_G) (tys : List (ClassId × FieldType)) (ea : Nat → Nat) (y : MethodName) (w : List Cond) (rm : Room) (av : List Value) (wf : S → va_W) (u0 : S) (post : Int64 → S → Prop) (px : String → S → Prop) : Prop :=
  ∀ sz : Nat, vx_Met l y w rm (va_Pc av (fun U => U.heap.size = sz ∧ va_P D vwCl (wf u0) U.heap ∧ va_K D vwCl tys U ∧ zN U ∧ zEx ea U ∧ zZ (va_A (wf u0) sz) U U.heap ∧ va_D (fun _ => True) (wf u0))) (va_Ql post (fun u t => va_P D vwCl (wf u) t.heap ∧ va_K D vwCl tys t ∧ va_D (va_A (wf u0) sz) (wf u)) (va_A (wf u0) sz))
    (vx_X (fun _ => True) (fun E u t => px E u ∧ va_P D vwCl (wf u) t.heap ∧ va_K D vwCl tys t ∧ va_D (va_A (wf u0) sz) (wf u)) (va_A (wf u0) sz)) rm.cells rm.slots (va_A (wf u0) sz)
def zXv (l : Launch) (D : va_G) (tys : List (ClassId × FieldType)) (ea : Nat → Nat) (y : MethodName) (w : List Cond) (rm : Room) (av : List Value) (wf : S → va_W) (u0 : S) (post : S → Prop) (px : String → S → Prop) : Prop :=
  ∀ sz : Nat, vx_Met l y w rm (va_Pc av (fun U => U.heap.size = sz ∧ va_P D vwCl (wf u0) U.heap ∧ va_K D vwCl tys U ∧ zN U ∧ zEx ea U ∧ zZ (va_A (wf u0) sz) U U.heap ∧ va_D (fun _ => True) (wf u0))) (va_Qv post (fun u t => va_P D vwCl (wf u) t.heap ∧ va_K D vwCl tys t ∧ va_D (va_A (wf u0) sz) (wf u)) (va_A (wf u0) sz))
    (vx_X (fun _ => True) (fun E u t => px E u ∧ va_P D vwCl (wf u) t.heap ∧ va_K D vwCl tys t ∧ va_D (va_A (wf u0) sz) (wf u)) (va_A (wf u0) sz)) rm.cells rm.slots (va_A (wf u0) sz)
variable {l : Launch} {D : va_G} {tys : List (ClassId × FieldType)} {ea : Nat → Nat} {y : MethodName} {w w' : List Cond} {rm : Room} {av : List Value} {wf : S → va_W} {u0 : S} {cc : ByteArray} {maxL : Nat} {lv0 : List (Nat × Value)}
theorem zXi_start (hst : l.stackTraces = false) {ty : FieldType} {post : Int32 → S → Prop} {px : String → S → Prop} {own : String} (hyo : y.cls = own) (hy : plainName y.cls = true) (hw : w = Cond.code y cc maxL (some ty) :: w') (hlen : (lg_sl av).length ≤ maxL) (hlv : lv_args 0 av = lv0)
    (h : ∀ X : zX, zC X D maxL cc own w tys → zR X rm → zL X l → zCX X ea → zXE X D rm wf px → zEi X D maxL cc rm wf ty post → zV X D maxL 0 0 (wf u0) 0 lv0 []) : zXi l D tys ea y w rm av wf u0 post px := by
  intro sz
  refine vx_ofW (cc := cc) (maxL := maxL) (ret := (some ty)) hy hw ?_
  intro p e s m args below meth c s₁ B hml hxt hv
  obtain ⟨rfl, hsz, hP, hK, hN, hE, hZ, hD0⟩ := hv
  have hx := B.exec
  have hb := B.bytes
  have hr := B.returns
  have hts := atoms_spec (ws := w) B.pre
  have hown : s.vm.findClass own = some m.cls := hyo ▸ findClass_of_methodNamed B.named
  have hlocks := B.notSynchronized
  subst hsz
  have hD := hD0.self (sz := s.heap.size)
  have hA : ∀ q : Nat, s.heap.size ≤ q → va_A (wf u0) s.heap.size q := fun q h => Or.inr h
  rw [lg_entry_eq]
  have hl := lv_entry av hlen
  rw [hlv] at hl
  refine h (p, l, e, (headSpec w rm).room, s, m, av.toArray, below, meth, c, _, va_A (wf u0) s.heap.size) ⟨hx, hb, hml, hown, hts, hK, hA, hlocks, hN⟩ rfl rfl ⟨hE, hZ, hst, hxt⟩ ⟨_, _, rfl, ?_⟩ ?_ s.heap [] _ hP hD va_S.rf hl
  · intro E u H locs t hP1 hD1 hS1 hal hsz hold hp
    exact ⟨u, trivial, ⟨hp, hP1.kept (fun k q hk => hold q.1 (hP1 k q hk).lt), va_K.moved hal hK, hD1⟩, Nat.le_trans hS1.1 hsz, fun q h1 h2 => (hold q (Nat.lt_of_lt_of_le h1 hS1.1)).trans (hS1.2.1 q h1 h2)⟩
  · intro pc cells slots u lv r hdg hn hc hs hp H1 locs1 ls1 hP1 hD1 hS1 hv1
    exact vx_ret (W.widen hc hs (W.zret (v := r) hx hb hr hn (fun t ht hW => ⟨⟨r, u, rfl, hp, by rw [ht]; exact hP1, va_K.moved hW.alike hK, hD1⟩, hS1.F ht⟩) hS1.2.2 hdg hlocks))
theorem zXl_start (hst : l.stackTraces = false) {post : Int64 → S → Prop} {px : String → S → Prop} {own : String} (hyo : y.cls = own) (hy : plainName y.cls = true) (hw : w = Cond.code y cc maxL (some .long) :: w') (hlen : (lg_sl av).length ≤ maxL) (hlv : lv_args 0 av = lv0)
    (h : ∀ X : zX, zC X D maxL cc own w tys → zR X rm → zL X l → zCX X ea → zXE X D rm wf px → zEl X D maxL cc rm wf post → zV X D maxL 0 0 (wf u0) 0 lv0 []) : zXl l D tys ea y w rm av wf u0 post px := by
  intro sz
  refine vx_ofW (cc := cc) (maxL := maxL) (ret := (some .long)) hy hw ?_
  intro p e s m args below meth c s₁ B hml hxt hv
  obtain ⟨rfl, hsz, hP, hK, hN, hE, hZ, hD0⟩ := hv
  have hx := B.exec
  have hb := B.bytes
  have hr := B.returns
  have hts := atoms_spec (ws := w) B.pre
  have hown : s.vm.findClass own = some m.cls := hyo ▸ findClass_of_methodNamed B.named
  have hlocks := B.notSynchronized
  subst hsz
  have hD := hD0.self (sz := s.heap.size)
  have hA : ∀ q : Nat, s.heap.size ≤ q → va_A (wf u0) s.heap.size q := fun q h => Or.inr h
  rw [lg_entry_eq]
  have hl := lv_entry av hlen
  rw [hlv] at hl
  refine h (p, l, e, (headSpec w rm).room, s, m, av.toArray, below, meth, c, _, va_A (wf u0) s.heap.size) ⟨hx, hb, hml, hown, hts, hK, hA, hlocks, hN⟩ rfl rfl ⟨hE, hZ, hst, hxt⟩ ⟨_, _, rfl, ?_⟩ ?_ s.heap [] _ hP hD va_S.rf hl
  · intro E u H locs t hP1 hD1 hS1 hal hsz hold hp
    exact ⟨u, trivial, ⟨hp, hP1.kept (fun k q hk => hold q.1 (hP1 k q hk).lt), va_K.moved hal hK, hD1⟩, Nat.le_trans hS1.1 hsz, fun q h1 h2 => (hold q (Nat.lt_of_lt_of_le h1 hS1.1)).trans (hS1.2.1 q h1 h2)⟩
  · intro pc cells slots u lv r hdg hc hs hp H1 locs1 ls1 hP1 hD1 hS1 hv1
    exact vx_ret (W.widen hc hs (W.lret (v := r) hx hb hr (fun t ht hW => ⟨⟨r, u, rfl, hp, by rw [ht]; exact hP1, va_K.moved hW.alike hK, hD1⟩, hS1.F ht⟩) hS1.2.2 hdg hlocks))
theorem zXv_start (hst : l.stackTraces = false) {post : S → Prop} {px : String → S → Prop} {own : String} (hyo : y.cls = own) (hy : plainName y.cls = true) (hw : w = Cond.code y cc maxL none :: w') (hlen : (lg_sl av).length ≤ maxL) (hlv : lv_args 0 av = lv0)
    (h : ∀ X : zX, zC X D maxL cc own w tys → zR X rm → zL X l → zCX X ea → zXE X D rm wf px → zEv X D maxL cc rm wf post → zV X D maxL 0 0 (wf u0) 0 lv0 []) : zXv l D tys ea y w rm av wf u0 post px := by
  intro sz
  refine vx_ofW (cc := cc) (maxL := maxL) (ret := none) hy hw ?_
  intro p e s m args below meth c s₁ B hml hxt hv
  obtain ⟨rfl, hsz, hP, hK, hN, hE, hZ, hD0⟩ := hv
  have hx := B.exec
  have hb := B.bytes
  have hr := B.returns
  have hts := atoms_spec (ws := w) B.pre
  have hown : s.vm.findClass own = some m.cls := hyo ▸ findClass_of_methodNamed B.named
  have hlocks := B.notSynchronized
  subst hsz
  have hD := hD0.self (sz := s.heap.size)
  have hA : ∀ q : Nat, s.heap.size ≤ q → va_A (wf u0) s.heap.size q := fun q h => Or.inr h
  rw [lg_entry_eq]
  have hl := lv_entry av hlen
  rw [hlv] at hl
  refine h (p, l, e, (headSpec w rm).room, s, m, av.toArray, below, meth, c, _, va_A (wf u0) s.heap.size) ⟨hx, hb, hml, hown, hts, hK, hA, hlocks, hN⟩ rfl rfl ⟨hE, hZ, hst, hxt⟩ ⟨_, _, rfl, ?_⟩ ?_ s.heap [] _ hP hD va_S.rf hl
  · intro E u H locs t hP1 hD1 hS1 hal hsz hold hp
    exact ⟨u, trivial, ⟨hp, hP1.kept (fun k q hk => hold q.1 (hP1 k q hk).lt), va_K.moved hal hK, hD1⟩, Nat.le_trans hS1.1 hsz, fun q h1 h2 => (hold q (Nat.lt_of_lt_of_le h1 hS1.1)).trans (hS1.2.1 q h1 h2)⟩
  · intro pc cells slots u lv hdg hc hs hp H1 locs1 ls1 hP1 hD1 hS1 hv1
    exact vx_ret (W.widen hc hs (W.vret hx hb hr (fun t ht hW => ⟨⟨u, rfl, hp, by rw [ht]; exact hP1, va_K.moved hW.alike hK, hD1⟩, hS1.F ht⟩) hS1.2.2 hdg hlocks))
variable {X : zX} {nL : Nat} {own : String} {Ts : List Cond} {cells slots pc : Nat} {lv : List (Nat × Value)} {st : List Value}
theorem z_throw {px : String → S → Prop} {u : S} {R0 : Room} (C : zC X D nL cc own Ts tys) (CX : zCX X ea) (hR : zR X R0) (XE : zXE X D R0 wf px) (cls text : String) {ik is ic : Nat} (hcls : Bundle.fit cls = true) (hnames : ∀ n ∈ zNames, Bundle.fit n = true)
    (h1 : Cond.classLink own ik cls ∈ Ts) (h2 : Cond.initialized cls ∈ Ts) (hstr : ∀ U, zEx ea U → vk_R own is text (ea is) U) (hg : ∀ w ∈ (vx_atS own ic cls zNames).filter goodWord, w ∈ Ts)
    {Bx : List Cond} (hb1 : ∀ w ∈ (vx_atS own ic cls zNames).filter (fun w => !goodWord w), w ∈ Bx) (hb2 : ∀ U, zEx ea U → ∀ (args : Array Value), ∀ w ∈ Bx, w.before args U = true) (hgood : ∀ w ∈ Cond.classLink own ik cls :: Cond.initialized cls :: vx_atS own ic cls zNames, vx_ot w = true)
    (d0 : decode cc pc = .ok (.new ik, 3)) (d3 : decode cc (pc + 3) = .ok (.dup, 1)) (d4 : decode cc (pc + 4) = .ok (.ldc is, 2)) (d6 : decode cc (pc + 6) = .ok (.invokespecial ic, 3)) (d9 : decode cc (pc + 9) = .ok (.athrow, 1))
    (hro : 5 < R0.frames ∧ (st.map fun v => v.category).sum + 82 ≤ R0.locals ∧ cells + 1 ≤ R0.cells ∧ slots + 6 ≤ R0.slots) (hp : px cls u) : zV X D nL cells slots (wf u) pc lv st := by
  obtain ⟨p, l2, e, R, s, m, args, below, meth, c, Q, A⟩ := X
  obtain ⟨hx, hb, hml, hown, hts, hK, hA, hlk, hNs⟩ := C
  obtain ⟨hE, hZ, hst, hxt⟩ := CX
  obtain ⟨Qc, XC, hQ, hXC⟩ := XE
  cases hR
  subst hQ
  intro H locs ls hP hD hS hv
  exact vx_throwS (A := A) (names := zNames) hx hb hst hown hcls hnames (hts _ h1) (hts _ h2) (hstr s hE) (vx_hat (fun w hw => hts w (hg w hw)) hb1 (hb2 s hE args)) hgood hZ.1 hZ.2 hS (hv.1.trans hml.symm) d0 d3 d4 d6 d9 (fun x hx => (hxt x hx).elim) hro.1 hro.2.1 hro.2.2.1 hro.2.2.2 hlk (fun t hal hsz hold => hXC cls u H locs t hP hD hS hal hsz hold hp) hS.2.2 hro.2.2.1 hro.2.2.2
theorem z_xcalliV {post : Int32 → S → Prop} {px qx : String → S → Prop} {R0 : Room} {cy : ByteArray} {ty : FieldType} (C : zC X D nL cc own Ts tys) (hR : zR X R0) (hL : zL X l) (CX : zCX X ea) (XE : zXE X D R0 wf qx) {b idx : Nat} {As : List Value} (hM : zXi l D tys ea y w rm (.ref b :: As) wf u0 post px) (hpq : ∀ E u, px E u → qx E u) (hG : GoodIn Ts (wsV own idx y.cls y w)) (hw : w = Cond.code y cy maxL (some ty) :: w') (hd : y.cls ≠ "java/lang/invoke/MethodHandle" ∧ y.cls ≠ "java/lang/invoke/VarHandle" ∧ (parseMethodDescriptor y.desc).map (fun d => d.parameters.length) = some As.length) (hRo : rm.frames + 1 ≤ R0.frames ∧ 8 + (maxL + 11) + rm.locals ≤ R0.locals) (hce : cells + rm.cells ≤ R0.cells ∧ slots + rm.slots ≤ R0.slots) (q0 ci : Nat) {fs : List Value} {CN : String} {T : u_T} {N : Nat} (hrecv : (wf u0)[q0]? = some (b, .inr (ci, fs))) (hcl : vwCl[ci]? = some (CN, T, N)) (hCN : CN = y.cls) {stk : List Value} (hstk : stk = As.reverse ++ .ref b :: st) (hcat : (st.map fun v => v.category).sum ≤ 8) (hdg : decode cc pc = .ok (.invokevirtual idx, 3)) (kk : ∀ (r : Int32) (u : S), post r u → zV X D nL (cells + rm.cells) (slots + rm.slots) (wf u) (pc + 3) lv (.int r :: st)) : zV X D nL cells slots (wf u0) pc lv stk := by
  obtain ⟨p, l2, e, R, s, m, args, below, meth, c, Q, A⟩ := X
  obtain ⟨hx, hb, hml, hown, hts, hK, hA, hlk, hNs⟩ := C
  obtain ⟨hE, hZ, hst, hxt⟩ := CX
  obtain ⟨Qc, XC, hQ, hXC⟩ := XE
  cases hR
  cases hL
  subst hQ
  intro H locs ls hP hD hS hv
  have hF : ∀ q, va_A (wf u0) H.size q → A q := fun q hq => by
    rcases hq with ⟨k, e, hk⟩ | hq
    · exact hD.2 k _ hk
    · exact hA q (Nat.le_trans hS.1 hq)
  refine vx_calli (AX := va_A (wf u0) H.size) (vx_runV (As := As) (rest := st) ⟨hx, hb, hml, hown, hts⟩ (hM H.size) (cwV As.length hts hG hw rfl rfl ⟨rfl, hd⟩ hRo) ⟨fun a U g mk q => by obtain ⟨q0, q1, qP, qK, qN, qE, qZ, qD⟩ := q; exact ⟨q0, q1, qP, va_K.moved (u := U) (U := U.calling g mk a) (Vm.Alike.refl U.vm) qK, zN.same (u := U) (U := U.calling g mk a) rfl qN, zEx.same (u := U) (U := U.calling g mk a) rfl qE, zZ.moved (u := U) (U := U.calling g mk a) (Vm.Alike.refl U.vm) qZ, qD⟩, hCN ▸ va_recv hK hP hcl hrecv, fun U hU hW => ⟨rfl, by rw [hU], by rw [hU]; exact hP, va_K.moved hW.alike hK, hNs.warm hW, hE.warm hW, by rw [hU]; exact ((hZ.kept hS.2.1).narrow hF).moved hW.alike, hD.weaken (fun _ _ _ _ => trivial)⟩⟩ rfl rfl hv.1 hstk (lv_room hcat) hdg hce) hS (fun q _ h => hF q h) hF (fun q _ h => hF q h) (fun E ce q9 u t H1 locs1 ht hvm _ hB hz1 hk1 hS1 hce9 hcv hcl9 => ?_) (fun r u t H1 locs1 ht hvm hw hB hz1 hk1 hS1 => ?_)
  · obtain ⟨hp, hP1, hK1, hD1⟩ := hB
    rw [ht] at hP1
    exact vx_out (fun x hx => (hxt x hx).elim) hlk hce9 hcv hcl9 (fun t2 ht2 hal => hXC E u H1 locs1 t2 hP1 (hD1.weaken (fun _ _ _ h => hF _ h)) hS1 hal (by rw [ht2]; exact Nat.le_refl _) (fun q _ => by rw [ht2]) (hpq E u hp)) hS1.2.2 hce.1 hce.2
  · obtain ⟨hP1, hK1, hD1⟩ := hB
    rw [ht] at hP1
    exact kk r u hw H1 locs1 ls hP1 (hD1.weaken (fun _ _ _ h => hF _ h)) hS1 hv
theorem z_xcalllV {post : Int64 → S → Prop} {px qx : String → S → Prop} {R0 : Room} {cy : ByteArray} (C : zC X D nL cc own Ts tys) (hR : zR X R0) (hL : zL X l) (CX : zCX X ea) (XE : zXE X D R0 wf qx) {b idx : Nat} {As : List Value} (hM : zXl l D tys ea y w rm (.ref b :: As) wf u0 post px) (hpq : ∀ E u, px E u → qx E u) (hG : GoodIn Ts (wsV own idx y.cls y w)) (hw : w = Cond.code y cy maxL (some .long) :: w') (hd : y.cls ≠ "java/lang/invoke/MethodHandle" ∧ y.cls ≠ "java/lang/invoke/VarHandle" ∧ (parseMethodDescriptor y.desc).map (fun d => d.parameters.length) = some As.length) (hRo : rm.frames + 1 ≤ R0.frames ∧ 8 + (maxL + 11) + rm.locals ≤ R0.locals) (hce : cells + rm.cells ≤ R0.cells ∧ slots + rm.slots ≤ R0.slots) (q0 ci : Nat) {fs : List Value} {CN : String} {T : u_T} {N : Nat} (hrecv : (wf u0)[q0]? = some (b, .inr (ci, fs))) (hcl : vwCl[ci]? = some (CN, T, N)) (hCN : CN = y.cls) {stk : List Value} (hstk : stk = As.reverse ++ .ref b :: st) (hcat : (st.map fun v => v.category).sum ≤ 8) (hdg : decode cc pc = .ok (.invokevirtual idx, 3)) (kk : ∀ (r : Int64) (u : S), post r u → zV X D nL (cells + rm.cells) (slots + rm.slots) (wf u) (pc + 3) lv (.long r :: st)) : zV X D nL cells slots (wf u0) pc lv stk := by
  obtain ⟨p, l2, e, R, s, m, args, below, meth, c, Q, A⟩ := X
  obtain ⟨hx, hb, hml, hown, hts, hK, hA, hlk, hNs⟩ := C
  obtain ⟨hE, hZ, hst, hxt⟩ := CX
  obtain ⟨Qc, XC, hQ, hXC⟩ := XE
  cases hR
  cases hL
  subst hQ
  intro H locs ls hP hD hS hv
  have hF : ∀ q, va_A (wf u0) H.size q → A q := fun q hq => by
    rcases hq with ⟨k, e, hk⟩ | hq
    · exact hD.2 k _ hk
    · exact hA q (Nat.le_trans hS.1 hq)
  refine vx_calll (AX := va_A (wf u0) H.size) (vx_runV (As := As) (rest := st) ⟨hx, hb, hml, hown, hts⟩ (hM H.size) (cwV As.length hts hG hw rfl rfl ⟨rfl, hd⟩ hRo) ⟨fun a U g mk q => by obtain ⟨q0, q1, qP, qK, qN, qE, qZ, qD⟩ := q; exact ⟨q0, q1, qP, va_K.moved (u := U) (U := U.calling g mk a) (Vm.Alike.refl U.vm) qK, zN.same (u := U) (U := U.calling g mk a) rfl qN, zEx.same (u := U) (U := U.calling g mk a) rfl qE, zZ.moved (u := U) (U := U.calling g mk a) (Vm.Alike.refl U.vm) qZ, qD⟩, hCN ▸ va_recv hK hP hcl hrecv, fun U hU hW => ⟨rfl, by rw [hU], by rw [hU]; exact hP, va_K.moved hW.alike hK, hNs.warm hW, hE.warm hW, by rw [hU]; exact ((hZ.kept hS.2.1).narrow hF).moved hW.alike, hD.weaken (fun _ _ _ _ => trivial)⟩⟩ rfl rfl hv.1 hstk (lv_room hcat) hdg hce) hS (fun q _ h => hF q h) hF (fun q _ h => hF q h) (fun E ce q9 u t H1 locs1 ht hvm _ hB hz1 hk1 hS1 hce9 hcv hcl9 => ?_) (fun r u t H1 locs1 ht hvm hw hB hz1 hk1 hS1 => ?_)
  · obtain ⟨hp, hP1, hK1, hD1⟩ := hB
    rw [ht] at hP1
    exact vx_out (fun x hx => (hxt x hx).elim) hlk hce9 hcv hcl9 (fun t2 ht2 hal => hXC E u H1 locs1 t2 hP1 (hD1.weaken (fun _ _ _ h => hF _ h)) hS1 hal (by rw [ht2]; exact Nat.le_refl _) (fun q _ => by rw [ht2]) (hpq E u hp)) hS1.2.2 hce.1 hce.2
  · obtain ⟨hP1, hK1, hD1⟩ := hB
    rw [ht] at hP1
    exact kk r u hw H1 locs1 ls hP1 (hD1.weaken (fun _ _ _ h => hF _ h)) hS1 hv
theorem z_xcallvV {post : S → Prop} {px qx : String → S → Prop} {R0 : Room} {cy : ByteArray} (C : zC X D nL cc own Ts tys) (hR : zR X R0) (hL : zL X l) (CX : zCX X ea) (XE : zXE X D R0 wf qx) {b idx : Nat} {As : List Value} (hM : zXv l D tys ea y w rm (.ref b :: As) wf u0 post px) (hpq : ∀ E u, px E u → qx E u) (hG : GoodIn Ts (wsV own idx y.cls y w)) (hw : w = Cond.code y cy maxL none :: w') (hd : y.cls ≠ "java/lang/invoke/MethodHandle" ∧ y.cls ≠ "java/lang/invoke/VarHandle" ∧ (parseMethodDescriptor y.desc).map (fun d => d.parameters.length) = some As.length) (hRo : rm.frames + 1 ≤ R0.frames ∧ 8 + (maxL + 11) + rm.locals ≤ R0.locals) (hce : cells + rm.cells ≤ R0.cells ∧ slots + rm.slots ≤ R0.slots) (q0 ci : Nat) {fs : List Value} {CN : String} {T : u_T} {N : Nat} (hrecv : (wf u0)[q0]? = some (b, .inr (ci, fs))) (hcl : vwCl[ci]? = some (CN, T, N)) (hCN : CN = y.cls) {stk : List Value} (hstk : stk = As.reverse ++ .ref b :: st) (hcat : (st.map fun v => v.category).sum ≤ 8) (hdg : decode cc pc = .ok (.invokevirtual idx, 3)) (kk : ∀ (u : S), post u → zV X D nL (cells + rm.cells) (slots + rm.slots) (wf u) (pc + 3) lv st) : zV X D nL cells slots (wf u0) pc lv stk := by
  obtain ⟨p, l2, e, R, s, m, args, below, meth, c, Q, A⟩ := X
  obtain ⟨hx, hb, hml, hown, hts, hK, hA, hlk, hNs⟩ := C
  obtain ⟨hE, hZ, hst, hxt⟩ := CX
  obtain ⟨Qc, XC, hQ, hXC⟩ := XE
  cases hR
  cases hL
  subst hQ
  intro H locs ls hP hD hS hv
  have hF : ∀ q, va_A (wf u0) H.size q → A q := fun q hq => by
    rcases hq with ⟨k, e, hk⟩ | hq
    · exact hD.2 k _ hk
    · exact hA q (Nat.le_trans hS.1 hq)
  refine vx_callv (AX := va_A (wf u0) H.size) (vx_runV (As := As) (rest := st) ⟨hx, hb, hml, hown, hts⟩ (hM H.size) (cwV As.length hts hG hw rfl rfl ⟨rfl, hd⟩ hRo) ⟨fun a U g mk q => by obtain ⟨q0, q1, qP, qK, qN, qE, qZ, qD⟩ := q; exact ⟨q0, q1, qP, va_K.moved (u := U) (U := U.calling g mk a) (Vm.Alike.refl U.vm) qK, zN.same (u := U) (U := U.calling g mk a) rfl qN, zEx.same (u := U) (U := U.calling g mk a) rfl qE, zZ.moved (u := U) (U := U.calling g mk a) (Vm.Alike.refl U.vm) qZ, qD⟩, hCN ▸ va_recv hK hP hcl hrecv, fun U hU hW => ⟨rfl, by rw [hU], by rw [hU]; exact hP, va_K.moved hW.alike hK, hNs.warm hW, hE.warm hW, by rw [hU]; exact ((hZ.kept hS.2.1).narrow hF).moved hW.alike, hD.weaken (fun _ _ _ _ => trivial)⟩⟩ rfl rfl hv.1 hstk (lv_room hcat) hdg hce) hS (fun q _ h => hF q h) hF (fun q _ h => hF q h) (fun E ce q9 u t H1 locs1 ht hvm _ hB hz1 hk1 hS1 hce9 hcv hcl9 => ?_) (fun u t H1 locs1 ht hvm hw hB hz1 hk1 hS1 => ?_)
  · obtain ⟨hp, hP1, hK1, hD1⟩ := hB
    rw [ht] at hP1
    exact vx_out (fun x hx => (hxt x hx).elim) hlk hce9 hcv hcl9 (fun t2 ht2 hal => hXC E u H1 locs1 t2 hP1 (hD1.weaken (fun _ _ _ h => hF _ h)) hS1 hal (by rw [ht2]; exact Nat.le_refl _) (fun q _ => by rw [ht2]) (hpq E u hp)) hS1.2.2 hce.1 hce.2
  · obtain ⟨hP1, hK1, hD1⟩ := hB
    rw [ht] at hP1
    exact kk u hw H1 locs1 ls hP1 (hD1.weaken (fun _ _ _ h => hF _ h)) hS1 hv
end ZX
