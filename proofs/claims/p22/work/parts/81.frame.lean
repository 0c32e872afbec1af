/-! CALLS BESIDE A FRAME: what a call leaves of the cells beside the callee's world; calls of methods that throw, caught by the table; the wrappers' contracts -/
section ZF
theorem z_swap {X : zX} {D : va_G} {nL cells slots pc : Nat} {wa wb : va_W} {lv : List (Nat × Value)} {st : List Value} (kk : zV X D nL cells slots (wb ++ wa) pc lv st) : zV X D nL cells slots (wa ++ wb) pc lv st := by
  obtain ⟨p, l, e, R, s, m, args, below, meth, c, Q, A⟩ := X
  intro H locs ls hP hD hS hv
  exact kk H locs ls (va_P.swap (a := []) hP) (va_D.swap (a := []) hD) hS hv
variable {S : Type}
variable {l : Launch} {D : va_G} {tys : List (ClassId × FieldType)} {ea : Nat → Nat} {y : MethodName} {w w' : List Cond} {rm : Room} {av : List Value} {wf : S → va_W} {u0 : S} {cc : ByteArray} {maxL : Nat} {lv0 : List (Nat × Value)}
variable {X : zX} {nL : Nat} {own : String} {Ts : List Cond} {cells slots pc : Nat} {lv : List (Nat × Value)} {st : List Value} {cy : ByteArray} {R0 : Room} {wr : va_W}
theorem z_frF {A : Nat → Prop} {H0 H : Heap} {locs : List Loc} {wc : va_W} (hD : va_D A (wr ++ wc)) (hA : ∀ q : Nat, H0.size ≤ q → A q) (hS : va_S A H0 H locs) : ∀ q, va_A wc H.size q → A q := fun q hq => by
  rcases hq with ⟨k, e, hk⟩ | hq
  · exact (va_rightD hD).2 k _ hk
  · exact hA q (Nat.le_trans hS.1 hq)
theorem z_fi {ty : FieldType} {post : Int32 → S → Prop} (C : zC X D nL cc own Ts tys) (hR : zR X R0) (hL : zL X l) {b idx : Nat} {As : List Value} (hM : zMi l D tys y w rm (.ref b :: As) wf u0 post) (hG : GoodIn Ts (wsV own idx y.cls y w)) (hw : w = Cond.code y cy maxL (some ty) :: w') (hd : y.cls ≠ "java/lang/invoke/MethodHandle" ∧ y.cls ≠ "java/lang/invoke/VarHandle" ∧ (parseMethodDescriptor y.desc).map (fun d => d.parameters.length) = some As.length) (hRo : rm.frames + 1 ≤ R0.frames ∧ 8 + (maxL + 11) + rm.locals ≤ R0.locals) (hce : cells + rm.cells ≤ R0.cells ∧ slots + rm.slots ≤ R0.slots) (q0 ci : Nat) {fs : List Value} {CN : String} {T : u_T} {N : Nat} (hrecv : (wf u0)[q0]? = some (b, .inr (ci, fs))) (hcl : vwCl[ci]? = some (CN, T, N)) (hCN : CN = y.cls) {stk : List Value} (hstk : stk = As.reverse ++ .ref b :: st) (hcat : (st.map fun v => v.category).sum ≤ 8) (hdg : decode cc pc = .ok (.invokevirtual idx, 3)) (kk : ∀ (r : Int32) (u : S), post r u → zV X D nL (cells + rm.cells) (slots + rm.slots) (wr ++ wf u) (pc + 3) lv (.int r :: st)) : zV X D nL cells slots (wr ++ wf u0) pc lv stk := by
  obtain ⟨p, l2, e, R, s, m, args, below, meth, c, Q, A⟩ := X
  obtain ⟨hx, hb, hml, hown, hts, hK, hA, hlk, hN⟩ := C
  cases hR
  cases hL
  intro H locs ls hP hD hS hv
  have hF := z_frF hD hA hS
  have hPc := va_right hP
  have hDc := va_rightD hD
  refine va_calli (va_runV (As := As) (rest := st) ⟨hx, hb, hml, hown, hts⟩ (hM H.size) (cwV As.length hts hG hw rfl rfl ⟨rfl, hd⟩ hRo) ⟨fun a U g mk q => by obtain ⟨q0, q1, qP, qK, qN, qD⟩ := q; exact ⟨q0, q1, qP, va_K.moved (u := U) (U := U.calling g mk a) (Vm.Alike.refl U.vm) qK, zN.same (u := U) (U := U.calling g mk a) rfl qN, qD⟩, hCN ▸ va_recv hK hPc hcl hrecv, fun U hU hW => ⟨rfl, by rw [hU], by rw [hU]; exact hPc, va_K.moved hW.alike hK, hN.warm hW, hDc.weaken (fun _ _ _ _ => trivial)⟩⟩ rfl rfl hv.1 hstk (lv_room hcat) hdg hce) hS (fun q _ h => hF q h) hF (fun r u t H1 locs1 ht hvm hw hB hz1 hk1 hS1 => ?_)
  obtain ⟨hP1, hK1, hD1⟩ := hB
  rw [ht] at hP1
  obtain ⟨hP2, hD2⟩ := va_frame hP hD hk1 hF hP1 hD1
  exact kk r u hw H1 locs1 ls hP2 hD2 hS1 hv
theorem z_fl {post : Int64 → S → Prop} (C : zC X D nL cc own Ts tys) (hR : zR X R0) (hL : zL X l) {b idx : Nat} {As : List Value} (hM : zMl l D tys y w rm (.ref b :: As) wf u0 post) (hG : GoodIn Ts (wsV own idx y.cls y w)) (hw : w = Cond.code y cy maxL (some .long) :: w') (hd : y.cls ≠ "java/lang/invoke/MethodHandle" ∧ y.cls ≠ "java/lang/invoke/VarHandle" ∧ (parseMethodDescriptor y.desc).map (fun d => d.parameters.length) = some As.length) (hRo : rm.frames + 1 ≤ R0.frames ∧ 8 + (maxL + 11) + rm.locals ≤ R0.locals) (hce : cells + rm.cells ≤ R0.cells ∧ slots + rm.slots ≤ R0.slots) (q0 ci : Nat) {fs : List Value} {CN : String} {T : u_T} {N : Nat} (hrecv : (wf u0)[q0]? = some (b, .inr (ci, fs))) (hcl : vwCl[ci]? = some (CN, T, N)) (hCN : CN = y.cls) {stk : List Value} (hstk : stk = As.reverse ++ .ref b :: st) (hcat : (st.map fun v => v.category).sum ≤ 8) (hdg : decode cc pc = .ok (.invokevirtual idx, 3)) (kk : ∀ (r : Int64) (u : S), post r u → zV X D nL (cells + rm.cells) (slots + rm.slots) (wr ++ wf u) (pc + 3) lv (.long r :: st)) : zV X D nL cells slots (wr ++ wf u0) pc lv stk := by
  obtain ⟨p, l2, e, R, s, m, args, below, meth, c, Q, A⟩ := X
  obtain ⟨hx, hb, hml, hown, hts, hK, hA, hlk, hN⟩ := C
  cases hR
  cases hL
  intro H locs ls hP hD hS hv
  have hF := z_frF hD hA hS
  have hPc := va_right hP
  have hDc := va_rightD hD
  refine va_calll (va_runV (As := As) (rest := st) ⟨hx, hb, hml, hown, hts⟩ (hM H.size) (cwV As.length hts hG hw rfl rfl ⟨rfl, hd⟩ hRo) ⟨fun a U g mk q => by obtain ⟨q0, q1, qP, qK, qN, qD⟩ := q; exact ⟨q0, q1, qP, va_K.moved (u := U) (U := U.calling g mk a) (Vm.Alike.refl U.vm) qK, zN.same (u := U) (U := U.calling g mk a) rfl qN, qD⟩, hCN ▸ va_recv hK hPc hcl hrecv, fun U hU hW => ⟨rfl, by rw [hU], by rw [hU]; exact hPc, va_K.moved hW.alike hK, hN.warm hW, hDc.weaken (fun _ _ _ _ => trivial)⟩⟩ rfl rfl hv.1 hstk (lv_room hcat) hdg hce) hS (fun q _ h => hF q h) hF (fun r u t H1 locs1 ht hvm hw hB hz1 hk1 hS1 => ?_)
  obtain ⟨hP1, hK1, hD1⟩ := hB
  rw [ht] at hP1
  obtain ⟨hP2, hD2⟩ := va_frame hP hD hk1 hF hP1 hD1
  exact kk r u hw H1 locs1 ls hP2 hD2 hS1 hv
/-- pairs of thrown classes that are not castable -/
def zNC (U : State) : Prop := va_Nc nIAE nIOB U ∧ va_Nc nISE nIOB U ∧ va_Nc nISE nIAE U
theorem zNC.moved {u U : State} (hvm : u.vm.Alike U.vm) (h : zNC u) : zNC U := ⟨h.1.moved hvm, h.2.1.moved hvm, h.2.2.moved hvm⟩
def zCL : zX → (Nat → Nat) → Prop := fun X ea => match X with | (_, l, _, _, s, _, _, _, _, _, _, A) => zEx ea s ∧ zNC s ∧ zZ A s s.heap ∧ l.stackTraces = false
def zHT : zX → List (Nat × Nat × Nat × Nat) → Prop := fun X hh => match X with | (_, _, _, _, _, _, _, _, _, c, _, _) => c.exceptionTable.toList = tableOf hh
/-- where an exception E is caught at pc -/
def zCat (own : String) (Ts : List Cond) (ea : Nat → Nat) (hh : List (Nat × Nat × Nat × Nat)) (pc : Nat) (E : String) (tgt : Nat) : Prop :=
  ∃ (pre : List ExceptionTableEntry) (x : ExceptionTableEntry) (suf : List ExceptionTableEntry), tableOf hh = pre ++ x :: suf ∧ (∀ z ∈ pre, z.catchType ≠ 0 ∧ ∃ nm : String, Cond.classLink own z.catchType nm ∈ Ts ∧ ∀ U, zNC U → va_Nc E nm U) ∧ covers x pc = true ∧ x.catchType ≠ 0 ∧ Cond.classLink own x.catchType E ∈ Ts ∧ (∀ U, zEx ea U → va_Nw (.castable E E) U) ∧ x.handlerPc = tgt
theorem z_xfi {ty : FieldType} {hh : List (Nat × Nat × Nat × Nat)} {post : Int32 → S → Prop} {px : String → S → Prop} (C : zC X D nL cc own Ts tys) (hR : zR X R0) (hL : zL X l) (CL : zCL X ea) (HT : zHT X hh) {b idx : Nat} {As : List Value} (hM : zXi l D tys ea y w rm (.ref b :: As) wf u0 post px) (hG : GoodIn Ts (wsV own idx y.cls y w)) (hw : w = Cond.code y cy maxL (some ty) :: w') (hd : y.cls ≠ "java/lang/invoke/MethodHandle" ∧ y.cls ≠ "java/lang/invoke/VarHandle" ∧ (parseMethodDescriptor y.desc).map (fun d => d.parameters.length) = some As.length) (hRo : rm.frames + 1 ≤ R0.frames ∧ 8 + (maxL + 11) + rm.locals ≤ R0.locals) (hce : cells + rm.cells ≤ R0.cells ∧ slots + rm.slots ≤ R0.slots) (q0 ci : Nat) {fs : List Value} {CN : String} {T : u_T} {N : Nat} (hrecv : (wf u0)[q0]? = some (b, .inr (ci, fs))) (hcl : vwCl[ci]? = some (CN, T, N)) (hCN : CN = y.cls) {stk : List Value} (hstk : stk = As.reverse ++ .ref b :: st) (hcat : (st.map fun v => v.category).sum ≤ 8) (hdg : decode cc pc = .ok (.invokevirtual idx, 3))
    (kx : ∀ (E : String) (u : S), px E u → ∃ tgt, zCat own Ts ea hh pc E tgt ∧ ∀ q9 : Nat, zV X D nL (cells + rm.cells) (slots + rm.slots) (wr ++ wf u) tgt lv [.ref q9])
    (kk : ∀ (r : Int32) (u : S), post r u → zV X D nL (cells + rm.cells) (slots + rm.slots) (wr ++ wf u) (pc + 3) lv (.int r :: st)) : zV X D nL cells slots (wr ++ wf u0) pc lv stk := by
  obtain ⟨p, l2, e, R, s, m, args, below, meth, c, Q, A⟩ := X
  obtain ⟨hx, hb, hml, hown, hts, hK, hA, hlk, hN⟩ := C
  obtain ⟨hE, hNc, hZ, hst⟩ := CL
  cases hR
  cases hL
  intro H locs ls hP hD hS hv
  have hF := z_frF hD hA hS
  have hPc := va_right hP
  have hDc := va_rightD hD
  refine vx_calli (AX := va_A (wf u0) H.size) (vx_runV (As := As) (rest := st) ⟨hx, hb, hml, hown, hts⟩ (hM H.size) (cwV As.length hts hG hw rfl rfl ⟨rfl, hd⟩ hRo) ⟨fun a U g mk q => by obtain ⟨q0, q1, qP, qK, qN, qE, qZ, qD⟩ := q; exact ⟨q0, q1, qP, va_K.moved (u := U) (U := U.calling g mk a) (Vm.Alike.refl U.vm) qK, zN.same (u := U) (U := U.calling g mk a) rfl qN, zEx.same (u := U) (U := U.calling g mk a) rfl qE, zZ.moved (u := U) (U := U.calling g mk a) (Vm.Alike.refl U.vm) qZ, qD⟩, hCN ▸ va_recv hK hPc hcl hrecv, fun U hU hW => ⟨rfl, by rw [hU], by rw [hU]; exact hPc, va_K.moved hW.alike hK, hN.warm hW, hE.warm hW, by rw [hU]; exact ((hZ.kept hS.2.1).narrow hF).moved hW.alike, hDc.weaken (fun _ _ _ _ => trivial)⟩⟩ rfl rfl hv.1 hstk (lv_room hcat) hdg hce) hS (fun q _ h => hF q h) hF (fun q _ h => hF q h) (fun E ce q9 u t H1 locs1 ht hvm _ hB hz1 hk1 hS1 hce9 hcv hcl9 => ?_) (fun r u t H1 locs1 ht hvm hw hB hz1 hk1 hS1 => ?_)
  · obtain ⟨hp, hP1, hK1, hD1⟩ := hB
    rw [ht] at hP1
    obtain ⟨hP2, hD2⟩ := va_frame hP hD hk1 hF hP1 hD1
    obtain ⟨tgt, ⟨pre, x, suf, e1, e2, e3, e4, e5, e6, e7⟩, k9⟩ := kx E u hp
    subst e7
    exact vx_catch hown pre x suf ((show c.exceptionTable.toList = tableOf hh from HT).trans e1) (fun z hz => Or.inr ⟨(e2 z hz).1, by obtain ⟨nm, h1, h2⟩ := (e2 z hz).2; exact ⟨nm, hts _ h1, h2 s hNc⟩⟩) e3 e4 (hts _ e5) (va_Nw.use rfl (e6 s hE)) hce9 hcv hcl9 (k9 q9 H1 locs1 ls hP2 hD2 hS1 hv)
  · obtain ⟨hP1, hK1, hD1⟩ := hB
    rw [ht] at hP1
    obtain ⟨hP2, hD2⟩ := va_frame hP hD hk1 hF hP1 hD1
    exact kk r u hw H1 locs1 ls hP2 hD2 hS1 hv
theorem z_xfl {hh : List (Nat × Nat × Nat × Nat)} {post : Int64 → S → Prop} {px : String → S → Prop} (C : zC X D nL cc own Ts tys) (hR : zR X R0) (hL : zL X l) (CL : zCL X ea) (HT : zHT X hh) {b idx : Nat} {As : List Value} (hM : zXl l D tys ea y w rm (.ref b :: As) wf u0 post px) (hG : GoodIn Ts (wsV own idx y.cls y w)) (hw : w = Cond.code y cy maxL (some .long) :: w') (hd : y.cls ≠ "java/lang/invoke/MethodHandle" ∧ y.cls ≠ "java/lang/invoke/VarHandle" ∧ (parseMethodDescriptor y.desc).map (fun d => d.parameters.length) = some As.length) (hRo : rm.frames + 1 ≤ R0.frames ∧ 8 + (maxL + 11) + rm.locals ≤ R0.locals) (hce : cells + rm.cells ≤ R0.cells ∧ slots + rm.slots ≤ R0.slots) (q0 ci : Nat) {fs : List Value} {CN : String} {T : u_T} {N : Nat} (hrecv : (wf u0)[q0]? = some (b, .inr (ci, fs))) (hcl : vwCl[ci]? = some (CN, T, N)) (hCN : CN = y.cls) {stk : List Value} (hstk : stk = As.reverse ++ .ref b :: st) (hcat : (st.map fun v => v.category).sum ≤ 8) (hdg : decode cc pc = .ok (.invokevirtual idx, 3))
    (kx : ∀ (E : String) (u : S), px E u → ∃ tgt, zCat own Ts ea hh pc E tgt ∧ ∀ q9 : Nat, zV X D nL (cells + rm.cells) (slots + rm.slots) (wr ++ wf u) tgt lv [.ref q9])
    (kk : ∀ (r : Int64) (u : S), post r u → zV X D nL (cells + rm.cells) (slots + rm.slots) (wr ++ wf u) (pc + 3) lv (.long r :: st)) : zV X D nL cells slots (wr ++ wf u0) pc lv stk := by
  obtain ⟨p, l2, e, R, s, m, args, below, meth, c, Q, A⟩ := X
  obtain ⟨hx, hb, hml, hown, hts, hK, hA, hlk, hN⟩ := C
  obtain ⟨hE, hNc, hZ, hst⟩ := CL
  cases hR
  cases hL
  intro H locs ls hP hD hS hv
  have hF := z_frF hD hA hS
  have hPc := va_right hP
  have hDc := va_rightD hD
  refine vx_calll (AX := va_A (wf u0) H.size) (vx_runV (As := As) (rest := st) ⟨hx, hb, hml, hown, hts⟩ (hM H.size) (cwV As.length hts hG hw rfl rfl ⟨rfl, hd⟩ hRo) ⟨fun a U g mk q => by obtain ⟨q0, q1, qP, qK, qN, qE, qZ, qD⟩ := q; exact ⟨q0, q1, qP, va_K.moved (u := U) (U := U.calling g mk a) (Vm.Alike.refl U.vm) qK, zN.same (u := U) (U := U.calling g mk a) rfl qN, zEx.same (u := U) (U := U.calling g mk a) rfl qE, zZ.moved (u := U) (U := U.calling g mk a) (Vm.Alike.refl U.vm) qZ, qD⟩, hCN ▸ va_recv hK hPc hcl hrecv, fun U hU hW => ⟨rfl, by rw [hU], by rw [hU]; exact hPc, va_K.moved hW.alike hK, hN.warm hW, hE.warm hW, by rw [hU]; exact ((hZ.kept hS.2.1).narrow hF).moved hW.alike, hDc.weaken (fun _ _ _ _ => trivial)⟩⟩ rfl rfl hv.1 hstk (lv_room hcat) hdg hce) hS (fun q _ h => hF q h) hF (fun q _ h => hF q h) (fun E ce q9 u t H1 locs1 ht hvm _ hB hz1 hk1 hS1 hce9 hcv hcl9 => ?_) (fun r u t H1 locs1 ht hvm hw hB hz1 hk1 hS1 => ?_)
  · obtain ⟨hp, hP1, hK1, hD1⟩ := hB
    rw [ht] at hP1
    obtain ⟨hP2, hD2⟩ := va_frame hP hD hk1 hF hP1 hD1
    obtain ⟨tgt, ⟨pre, x, suf, e1, e2, e3, e4, e5, e6, e7⟩, k9⟩ := kx E u hp
    subst e7
    exact vx_catch hown pre x suf ((show c.exceptionTable.toList = tableOf hh from HT).trans e1) (fun z hz => Or.inr ⟨(e2 z hz).1, by obtain ⟨nm, h1, h2⟩ := (e2 z hz).2; exact ⟨nm, hts _ h1, h2 s hNc⟩⟩) e3 e4 (hts _ e5) (va_Nw.use rfl (e6 s hE)) hce9 hcv hcl9 (k9 q9 H1 locs1 ls hP2 hD2 hS1 hv)
  · obtain ⟨hP1, hK1, hD1⟩ := hB
    rw [ht] at hP1
    obtain ⟨hP2, hD2⟩ := va_frame hP hD hk1 hF hP1 hD1
    exact kk r u hw H1 locs1 ls hP2 hD2 hS1 hv
/-- the contract of a wrapper: it catches what is thrown -/
def zWi (l : Launch) (D : va_G) (tys : List (ClassId × FieldType)) (ea : Nat → Nat) (y : MethodName) (w : List Cond) (rm : Room) (av : List Value) (wf : S → va_W) (u0 : S) (post : Int32 → S → Prop) : Prop :=
  ∀ sz : Nat, Met l y w rm (va_Pc av (fun U => U.heap.size = sz ∧ va_P D vwCl (wf u0) U.heap ∧ va_K D vwCl tys U ∧ zN U ∧ zEx ea U ∧ zNC U ∧ zZ (va_A (wf u0) sz) U U.heap ∧ va_D (fun _ => True) (wf u0))) (va_Qi post (fun u t => va_P D vwCl (wf u) t.heap ∧ va_K D vwCl tys t ∧ va_D (va_A (wf u0) sz) (wf u)) (va_A (wf u0) sz)) rm.cells rm.slots (va_A (wf u0) sz)
theorem zofWH {ws ws' : List Cond} {Pc : Array Value → State → Prop} {Qc : Array Value → State → Outcome → State → Prop} {mc ms : Nat} {free : Addr → Prop} {ret : Option FieldType} {hh : List (Nat × Nat × Nat × Nat)}
    (hy : plainName y.cls = true) (hw : ws = Cond.codeWith y cc maxL ret hh :: ws')
    (body : ∀ p e s m args below meth c s₁, BodyLoose p l y (headSpec ws rm) cc maxL ret e s m args below meth c s₁ → c.maxLocals = maxL → Pc args s →
      W p l e (headSpec ws rm).room s m args below meth c s.heap [] 0 0 (MQ below Qc args s mc ms free) (entryFrame m args maxL)) : Met l y ws rm Pc Qc mc ms free := by
  refine MetFree.of_bodyS (code := cc) (maxLocals := maxL) (ret := ret) hy ?_ ?_
  · intro args s m h hn
    obtain ⟨m9, meth, c, hn9, h1, h2, h3, h4, -, h5, h6, -⟩ := Cond.codeWith_spec (atoms_spec (ws := ws) h _ (by rw [hw]; exact List.mem_cons_self))
    cases hn.symm.trans hn9
    exact ⟨meth, c, h1, h2, h3, h4, h5, h6⟩
  · intro p e s m args below meth c s₁ B hml hP _
    have hh0 : s₁.heap = s.heap := by rw [B.state]; rfl
    obtain ⟨t, a1, o, b1, b2, b3⟩ := body p e s m args below meth c s₁ B hml hP s₁ hh0 (Stand.of_body B)
    exact ⟨t, o, a1, b1, b2, ⟨b3.1, b3.2⟩⟩
theorem zWi_start (hst : l.stackTraces = false) {post : Int32 → S → Prop} {own : String} {hh : List (Nat × Nat × Nat × Nat)} (hyo : y.cls = own) (hy : plainName y.cls = true) (hw : w = Cond.codeWith y cc maxL (some .int) hh :: w') (hlen : (lg_sl av).length ≤ maxL) (hlv : lv_args 0 av = lv0)
    (h : ∀ X : zX, zC X D maxL cc own w tys → zR X rm → zL X l → zCL X ea → zHT X hh → zEi X D maxL cc rm wf .int post → zV X D maxL 0 0 (wf u0) 0 lv0 []) : zWi l D tys ea y w rm av wf u0 post := by
  intro sz
  refine zofWH (cc := cc) (maxL := maxL) (ret := (some .int)) hy hw ?_
  intro p e s m args below meth c s₁ B hml hv
  obtain ⟨rfl, hsz, hP, hK, hN, hE, hNc, hZ, hD0⟩ := hv
  have hx := B.exec
  have hb := B.bytes
  have hr := B.returns
  have hts := atoms_spec (ws := w) B.pre
  have hown : s.vm.findClass own = some m.cls := hyo ▸ findClass_of_methodNamed B.named
  have hlocks := B.notSynchronized
  have htab : c.exceptionTable.toList = tableOf hh := vx_table (x := y) B (hts _ (by rw [hw]; exact List.mem_cons_self))
  subst hsz
  have hD := hD0.self (sz := s.heap.size)
  have hA : ∀ q : Nat, s.heap.size ≤ q → va_A (wf u0) s.heap.size q := fun q h => Or.inr h
  rw [lg_entry_eq]
  have hl := lv_entry av hlen
  rw [hlv] at hl
  refine h (p, l, e, (headSpec w rm).room, s, m, av.toArray, below, meth, c, _, va_A (wf u0) s.heap.size) ⟨hx, hb, hml, hown, hts, hK, hA, hlocks, hN⟩ rfl rfl ⟨hE, hNc, hZ, hst⟩ htab ?_ s.heap [] _ hP hD va_S.rf hl
  · intro pc cells slots u lv r hdg hn hc hs hp H1 locs1 ls1 hP1 hD1 hS1 hv1
    exact W.widen hc hs (W.zret (v := r) hx hb hr hn (fun t ht hW => ⟨⟨r, u, rfl, hp, by rw [ht]; exact hP1, va_K.moved hW.alike hK, hD1⟩, hS1.F ht⟩) hS1.2.2 hdg hlocks)
/-- a wrapper's call beside a frame -/
theorem z_fw {hh : List (Nat × Nat × Nat × Nat)} {post : Int32 → S → Prop} (C : zC X D nL cc own Ts tys) (hR : zR X R0) (hL : zL X l) (CL : zCL X ea) {idx : Nat} {As : List Value} (hM : zWi l D tys ea y w rm As wf u0 post) (hG : GoodIn Ts (va_wsS own idx y w)) (hw : w = Cond.codeWith y cy maxL (some .int) hh :: w') (hd : y.cls ≠ "java/lang/invoke/MethodHandle" ∧ y.cls ≠ "java/lang/invoke/VarHandle" ∧ (parseMethodDescriptor y.desc).map (fun d => d.parameters.length) = some As.length) (hRo : rm.frames + 1 ≤ R0.frames ∧ 8 + (maxL + 11) + rm.locals ≤ R0.locals) (hce : cells + rm.cells ≤ R0.cells ∧ slots + rm.slots ≤ R0.slots) {stk : List Value} (hstk : stk = As.reverse ++ st) (hcat : (st.map fun v => v.category).sum ≤ 8) (hdg : decode cc pc = .ok (.invokestatic idx, 3)) (kk : ∀ (r : Int32) (u : S), post r u → zV X D nL (cells + rm.cells) (slots + rm.slots) (wr ++ wf u) (pc + 3) lv (.int r :: st)) : zV X D nL cells slots (wr ++ wf u0) pc lv stk := by
  obtain ⟨p, l2, e, R, s, m, args, below, meth, c, Q, A⟩ := X
  obtain ⟨hx, hb, hml, hown, hts, hK, hA, hlk, hN⟩ := C
  obtain ⟨hE, hNc, hZ, hst⟩ := CL
  cases hR
  cases hL
  intro H locs ls hP hD hS hv
  have hF := z_frF hD hA hS
  have hPc := va_right hP
  have hDc := va_rightD hD
  refine va_calli (vx_runSW (hh := hh) (bytes := cy) (maxL := maxL) (ret := some .int) (n := As.length) (As := As) (rest := st) ⟨hx, hb, hml, hown, hts⟩ (hM H.size) (vx_cwSW As.length hts hG hw rfl rfl hd hRo) ⟨fun a U g mk q => by obtain ⟨q0, q1, qP, qK, qN, qE, qC, qZ, qD⟩ := q; exact ⟨q0, q1, qP, va_K.moved (u := U) (U := U.calling g mk a) (Vm.Alike.refl U.vm) qK, zN.same (u := U) (U := U.calling g mk a) rfl qN, zEx.same (u := U) (U := U.calling g mk a) rfl qE, zNC.moved (u := U) (U := U.calling g mk a) (Vm.Alike.refl U.vm) qC, zZ.moved (u := U) (U := U.calling g mk a) (Vm.Alike.refl U.vm) qZ, qD⟩, fun U hU hW => ⟨rfl, by rw [hU], by rw [hU]; exact hPc, va_K.moved hW.alike hK, hN.warm hW, hE.warm hW, hNc.moved hW.alike, by rw [hU]; exact ((hZ.kept hS.2.1).narrow hF).moved hW.alike, hDc.weaken (fun _ _ _ _ => trivial)⟩⟩ rfl rfl hv.1 hstk (lv_room hcat) hdg hce) hS (fun q _ h => hF q h) hF (fun r u t H1 locs1 ht hvm hw hB hz1 hk1 hS1 => ?_)
  obtain ⟨hP1, hK1, hD1⟩ := hB
  rw [ht] at hP1
  obtain ⟨hP2, hD2⟩ := va_frame hP hD hk1 hF hP1 hD1
  exact kk r u hw H1 locs1 ls hP2 hD2 hS1 hv
end ZF
