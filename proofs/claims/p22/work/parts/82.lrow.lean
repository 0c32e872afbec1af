/-! THE LAW'S METHODS: contracts, calls beside the law's arrays, rows of division -/
section ZLR
variable {S : Type}
def irm (x y : Int32) : Int32 := x - x / y * y
def zFr (g : Nat → ClassId) (mo to eo : Nat) (m t e : Nat → Int32) : va_W := [(mo, .inl (g 0, 4, .inl m)), (to, .inl (g 0, 12, .inl t)), (eo, .inl (g 0, 64, .inl e))]
def zWl (l : Launch) (D : va_G) (tys : List (ClassId × FieldType)) (ea : Nat → Nat) (y : MethodName) (w : List Cond) (rm : Room) (av : List Value) (wf : S → va_W) (u0 : S) (post : Int64 → S → Prop) : Prop :=
  ∀ sz : Nat, Met l y w rm (va_Pc av (fun U => U.heap.size = sz ∧ va_P D vwCl (wf u0) U.heap ∧ va_K D vwCl tys U ∧ zN U ∧ zEx ea U ∧ zNC U ∧ zZ (va_A (wf u0) sz) U U.heap ∧ va_D (fun _ => True) (wf u0))) (va_Ql post (fun u t => va_P D vwCl (wf u) t.heap ∧ va_K D vwCl tys t ∧ va_D (va_A (wf u0) sz) (wf u)) (va_A (wf u0) sz)) rm.cells rm.slots (va_A (wf u0) sz)
/-- dice: it reads the script, which is not of the world -/
def zDc (l : Launch) (D : va_G) (tys : List (ClassId × FieldType)) (y : MethodName) (w : List Cond) (rm : Room) (av : List Value) (b L : Nat) (xs : Nat → Int32) (wf : S → va_W) (u0 : S) (post : Int32 → S → Prop) : Prop :=
  ∀ sz : Nat, Met l y w rm (va_Pc av (fun U => U.heap.size = sz ∧ va_P D vwCl (wf u0) U.heap ∧ va_K D vwCl tys U ∧ zN U ∧ va_X b L xs U U.heap ∧ b < U.heap.size ∧ ¬ va_A (wf u0) sz b ∧ va_D (fun _ => True) (wf u0))) (va_Qi post (fun u t => va_P D vwCl (wf u) t.heap ∧ va_K D vwCl tys t ∧ va_D (va_A (wf u0) sz) (wf u)) (va_A (wf u0) sz)) rm.cells rm.slots (va_A (wf u0) sz)
def zSc : zX → Nat → Nat → (Nat → Int32) → Prop := fun X b L xs => match X with | (_, _, _, _, s, _, _, _, _, _, _, A) => va_X b L xs s s.heap ∧ b < s.heap.size ∧ ¬ A b
variable {l : Launch} {D : va_G} {tys : List (ClassId × FieldType)} {ea : Nat → Nat} {y : MethodName} {w w' : List Cond} {rm : Room} {av : List Value} {wf : S → va_W} {u0 : S} {cc : ByteArray} {maxL : Nat} {lv0 : List (Nat × Value)}
variable {X : zX} {nL : Nat} {own : String} {Ts : List Cond} {cells slots pc : Nat} {ws : va_W} {lv : List (Nat × Value)} {st : List Value} {cy : ByteArray} {R0 : Room} {wr : va_W}
theorem z_irem (C : zC X D nL cc own Ts tys) {x y : Int32} (hdg : decode cc pc = .ok (.irem, 1)) (hne : ¬ y = 0) (kk : zV X D nL cells slots ws (pc + 1) lv (.int (irm x y) :: st)) : zV X D nL cells slots ws pc lv (.int y :: .int x :: st) := by
  obtain ⟨p, l, e, R, s, m, args, below, meth, c, Q, A⟩ := X
  obtain ⟨hx, hb, hml, hown, hts, hK, hA, hlk, hN⟩ := C
  intro H locs ls hP hD hS hv
  exact lv_irem hx hb hdg hne (kk H locs ls hP hD hS hv)
theorem z_idiv (C : zC X D nL cc own Ts tys) {x y : Int32} (hdg : decode cc pc = .ok (.idiv, 1)) (hne : ¬ y = 0) (kk : zV X D nL cells slots ws (pc + 1) lv (.int (x / y) :: st)) : zV X D nL cells slots ws pc lv (.int y :: .int x :: st) := by
  obtain ⟨p, l, e, R, s, m, args, below, meth, c, Q, A⟩ := X
  obtain ⟨hx, hb, hml, hown, hts, hK, hA, hlk, hN⟩ := C
  intro H locs ls hP hD hS hv
  exact lv_idiv hx hb hdg hne (kk H locs ls hP hD hS hv)
theorem z_sld {b L : Nat} {xs : Nat → Int32} (C : zC X D nL cc own Ts tys) (SC : zSc X b L xs) {i : Int32} (hin : vp_in i L) (hdg : decode cc pc = .ok (.iaload, 1)) (kk : zV X D nL cells slots ws (pc + 1) lv (.int (xs i.toNatClampNeg) :: st)) : zV X D nL cells slots ws pc lv (.int i :: .ref b :: st) := by
  obtain ⟨p, l, e, R, s, m, args, below, meth, c, Q, A⟩ := X
  obtain ⟨hx, hb, hml, hown, hts, hK, hA, hlk, hN⟩ := C
  obtain ⟨hX, hbl, hbA⟩ := SC
  intro H locs ls hP hD hS hv
  exact va_sld hx hb hX hbl hbA hS hin hdg (kk H locs ls hP hD hS hv)
theorem z_slen {b L : Nat} {xs : Nat → Int32} (C : zC X D nL cc own Ts tys) (SC : zSc X b L xs) (hdg : decode cc pc = .ok (.arraylength, 1)) (kk : zV X D nL cells slots ws (pc + 1) lv (.int (Int32.ofNat L) :: st)) : zV X D nL cells slots ws pc lv (.ref b :: st) := by
  obtain ⟨p, l, e, R, s, m, args, below, meth, c, Q, A⟩ := X
  obtain ⟨hx, hb, hml, hown, hts, hK, hA, hlk, hN⟩ := C
  obtain ⟨hX, hbl, hbA⟩ := SC
  intro H locs ls hP hD hS hv
  exact va_slen hx hb hX hbl hbA hS hdg (kk H locs ls hP hD hS hv)
theorem zWl_start (hst : l.stackTraces = false) {post : Int64 → S → Prop} {own : String} {hh : List (Nat × Nat × Nat × Nat)} (hyo : y.cls = own) (hy : plainName y.cls = true) (hw : w = Cond.codeWith y cc maxL (some .long) hh :: w') (hlen : (lg_sl av).length ≤ maxL) (hlv : lv_args 0 av = lv0)
    (h : ∀ X : zX, zC X D maxL cc own w tys → zR X rm → zL X l → zCL X ea → zHT X hh → zEl X D maxL cc rm wf post → zV X D maxL 0 0 (wf u0) 0 lv0 []) : zWl l D tys ea y w rm av wf u0 post := by
  intro sz
  refine zofWH (cc := cc) (maxL := maxL) (ret := (some .long)) hy hw ?_
  intro p e s m args below meth c s₁ B hml hv
  obtain ⟨rfl, hsz, hP, hK, hN, hE, hNc, hZ, hD0⟩ := hv
  have hx := B.exec
  have hb := B.bytes
  have hr := B.returns
  have hts := atoms_spec (ws := w) B.pre
  have hown : s.vm.findClass own = some m.cls := hyo ▸ findClass_of_methodNamed B.named
  have hlocks := B.notSynchronized
  have htab : c.exceptionTable.toList = tableOf hh := vx_table (x := y) B (hts _ (by rw [hw]; exact List.mem_cons_self))
  subst hsz
  have hD := hD0.self (sz := s.heap.size)
  have hA : ∀ q : Nat, s.heap.size ≤ q → va_A (wf u0) s.heap.size q := fun q h => Or.inr h
  rw [lg_entry_eq]
  have hl := lv_entry av hlen
  rw [hlv] at hl
  refine h (p, l, e, (headSpec w rm).room, s, m, av.toArray, below, meth, c, _, va_A (wf u0) s.heap.size) ⟨hx, hb, hml, hown, hts, hK, hA, hlocks, hN⟩ rfl rfl ⟨hE, hNc, hZ, hst⟩ htab ?_ s.heap [] _ hP hD va_S.rf hl
  · intro pc cells slots u lv r hdg hc hs hp H1 locs1 ls1 hP1 hD1 hS1 hv1
    exact W.widen hc hs (W.lret (v := r) hx hb hr (fun t ht hW => ⟨⟨r, u, rfl, hp, by rw [ht]; exact hP1, va_K.moved hW.alike hK, hD1⟩, hS1.F ht⟩) hS1.2.2 hdg hlocks)
theorem zUi_start (hst : l.stackTraces = false) {ty : FieldType} {post : Int32 → S → Prop} {own : String} (hyo : y.cls = own) (hy : plainFor y = true) (hw : w = Cond.code y cc maxL (some ty) :: w') (hlen : (lg_sl av).length ≤ maxL) (hlv : lv_args 0 av = lv0)
    (h : ∀ X : zX, zC X D maxL cc own w tys → zR X rm → zL X l → zCL X ea → zEi X D maxL cc rm wf ty post → zV X D maxL 0 0 (wf u0) 0 lv0 []) : zWi l D tys ea y w rm av wf u0 post := by
  intro sz
  refine zofW (cc := cc) (maxL := maxL) (ret := (some ty)) hy hw ?_
  intro p e s m args below meth c s₁ B hml hv
  obtain ⟨rfl, hsz, hP, hK, hN, hE, hNc, hZ, hD0⟩ := hv
  have hx := B.exec
  have hb := B.bytes
  have hr := B.returns
  have hts := atoms_spec (ws := w) B.pre
  have hown : s.vm.findClass own = some m.cls := hyo ▸ findClass_of_methodNamed B.named
  have hlocks := B.notSynchronized
  subst hsz
  have hD := hD0.self (sz := s.heap.size)
  have hA : ∀ q : Nat, s.heap.size ≤ q → va_A (wf u0) s.heap.size q := fun q h => Or.inr h
  rw [lg_entry_eq]
  have hl := lv_entry av hlen
  rw [hlv] at hl
  refine h (p, l, e, (headSpec w rm).room, s, m, av.toArray, below, meth, c, _, va_A (wf u0) s.heap.size) ⟨hx, hb, hml, hown, hts, hK, hA, hlocks, hN⟩ rfl rfl ⟨hE, hNc, hZ, hst⟩ ?_ s.heap [] _ hP hD va_S.rf hl
  · intro pc cells slots u lv r hdg hn hc hs hp H1 locs1 ls1 hP1 hD1 hS1 hv1
    exact W.widen hc hs (W.zret (v := r) hx hb hr hn (fun t ht hW => ⟨⟨r, u, rfl, hp, by rw [ht]; exact hP1, va_K.moved hW.alike hK, hD1⟩, hS1.F ht⟩) hS1.2.2 hdg hlocks)
theorem zUl_start (hst : l.stackTraces = false) {post : Int64 → S → Prop} {own : String} (hyo : y.cls = own) (hy : plainFor y = true) (hw : w = Cond.code y cc maxL (some .long) :: w') (hlen : (lg_sl av).length ≤ maxL) (hlv : lv_args 0 av = lv0)
    (h : ∀ X : zX, zC X D maxL cc own w tys → zR X rm → zL X l → zCL X ea → zEl X D maxL cc rm wf post → zV X D maxL 0 0 (wf u0) 0 lv0 []) : zWl l D tys ea y w rm av wf u0 post := by
  intro sz
  refine zofW (cc := cc) (maxL := maxL) (ret := (some .long)) hy hw ?_
  intro p e s m args below meth c s₁ B hml hv
  obtain ⟨rfl, hsz, hP, hK, hN, hE, hNc, hZ, hD0⟩ := hv
  have hx := B.exec
  have hb := B.bytes
  have hr := B.returns
  have hts := atoms_spec (ws := w) B.pre
  have hown : s.vm.findClass own = some m.cls := hyo ▸ findClass_of_methodNamed B.named
  have hlocks := B.notSynchronized
  subst hsz
  have hD := hD0.self (sz := s.heap.size)
  have hA : ∀ q : Nat, s.heap.size ≤ q → va_A (wf u0) s.heap.size q := fun q h => Or.inr h
  rw [lg_entry_eq]
  have hl := lv_entry av hlen
  rw [hlv] at hl
  refine h (p, l, e, (headSpec w rm).room, s, m, av.toArray, below, meth, c, _, va_A (wf u0) s.heap.size) ⟨hx, hb, hml, hown, hts, hK, hA, hlocks, hN⟩ rfl rfl ⟨hE, hNc, hZ, hst⟩ ?_ s.heap [] _ hP hD va_S.rf hl
  · intro pc cells slots u lv r hdg hc hs hp H1 locs1 ls1 hP1 hD1 hS1 hv1
    exact W.widen hc hs (W.lret (v := r) hx hb hr (fun t ht hW => ⟨⟨r, u, rfl, hp, by rw [ht]; exact hP1, va_K.moved hW.alike hK, hD1⟩, hS1.F ht⟩) hS1.2.2 hdg hlocks)
theorem zDc_start {b L : Nat} {xs : Nat → Int32} {ty : FieldType} {post : Int32 → S → Prop} {own : String} (hyo : y.cls = own) (hy : plainFor y = true) (hw : w = Cond.code y cc maxL (some ty) :: w') (hlen : (lg_sl av).length ≤ maxL) (hlv : lv_args 0 av = lv0)
    (h : ∀ X : zX, zC X D maxL cc own w tys → zR X rm → zL X l → zSc X b L xs → zEi X D maxL cc rm wf ty post → zV X D maxL 0 0 (wf u0) 0 lv0 []) : zDc l D tys y w rm av b L xs wf u0 post := by
  intro sz
  refine zofW (cc := cc) (maxL := maxL) (ret := (some ty)) hy hw ?_
  intro p e s m args below meth c s₁ B hml hv
  obtain ⟨rfl, hsz, hP, hK, hN, hXb, hbl, hbA, hD0⟩ := hv
  have hx := B.exec
  have hb := B.bytes
  have hr := B.returns
  have hts := atoms_spec (ws := w) B.pre
  have hown : s.vm.findClass own = some m.cls := hyo ▸ findClass_of_methodNamed B.named
  have hlocks := B.notSynchronized
  subst hsz
  have hD := hD0.self (sz := s.heap.size)
  have hA : ∀ q : Nat, s.heap.size ≤ q → va_A (wf u0) s.heap.size q := fun q h => Or.inr h
  rw [lg_entry_eq]
  have hl := lv_entry av hlen
  rw [hlv] at hl
  refine h (p, l, e, (headSpec w rm).room, s, m, av.toArray, below, meth, c, _, va_A (wf u0) s.heap.size) ⟨hx, hb, hml, hown, hts, hK, hA, hlocks, hN⟩ rfl rfl ⟨hXb, hbl, hbA⟩ ?_ s.heap [] _ hP hD va_S.rf hl
  · intro pc cells slots u lv r hdg hn hc hs hp H1 locs1 ls1 hP1 hD1 hS1 hv1
    exact W.widen hc hs (W.zret (v := r) hx hb hr hn (fun t ht hW => ⟨⟨r, u, rfl, hp, by rw [ht]; exact hP1, va_K.moved hW.alike hK, hD1⟩, hS1.F ht⟩) hS1.2.2 hdg hlocks)
theorem z_fwl {hh : List (Nat × Nat × Nat × Nat)} {post : Int64 → S → Prop} (C : zC X D nL cc own Ts tys) (hR : zR X R0) (hL : zL X l) (CL : zCL X ea) {idx : Nat} {As : List Value} (hM : zWl l D tys ea y w rm As wf u0 post) (hG : GoodIn Ts (va_wsS own idx y w)) (hw : w = Cond.codeWith y cy maxL (some .long) hh :: w') (hd : y.cls ≠ "java/lang/invoke/MethodHandle" ∧ y.cls ≠ "java/lang/invoke/VarHandle" ∧ (parseMethodDescriptor y.desc).map (fun d => d.parameters.length) = some As.length) (hRo : rm.frames + 1 ≤ R0.frames ∧ 8 + (maxL + 11) + rm.locals ≤ R0.locals) (hce : cells + rm.cells ≤ R0.cells ∧ slots + rm.slots ≤ R0.slots) {stk : List Value} (hstk : stk = As.reverse ++ st) (hcat : (st.map fun v => v.category).sum ≤ 8) (hdg : decode cc pc = .ok (.invokestatic idx, 3)) (kk : ∀ (r : Int64) (u : S), post r u → zV X D nL (cells + rm.cells) (slots + rm.slots) (wr ++ wf u) (pc + 3) lv (.long r :: st)) : zV X D nL cells slots (wr ++ wf u0) pc lv stk := by
  obtain ⟨p, l2, e, R, s, m, args, below, meth, c, Q, A⟩ := X
  obtain ⟨hx, hb, hml, hown, hts, hK, hA, hlk, hN⟩ := C
  obtain ⟨hE, hNc, hZ, hst⟩ := CL
  cases hR
  cases hL
  intro H locs ls hP hD hS hv
  have hF := z_frF hD hA hS
  have hPc := va_right hP
  have hDc := va_rightD hD
  refine va_calll (vx_runSW (hh := hh) (bytes := cy) (maxL := maxL) (ret := some .long) (n := As.length) (As := As) (rest := st) ⟨hx, hb, hml, hown, hts⟩ (hM H.size) (vx_cwSW As.length hts hG hw rfl rfl hd hRo) ⟨fun a U g mk q => by obtain ⟨q0, q1, qP, qK, qN, qE, qC, qZ, qD⟩ := q; exact ⟨q0, q1, qP, va_K.moved (u := U) (U := U.calling g mk a) (Vm.Alike.refl U.vm) qK, zN.same (u := U) (U := U.calling g mk a) rfl qN, zEx.same (u := U) (U := U.calling g mk a) rfl qE, zNC.moved (u := U) (U := U.calling g mk a) (Vm.Alike.refl U.vm) qC, zZ.moved (u := U) (U := U.calling g mk a) (Vm.Alike.refl U.vm) qZ, qD⟩, fun U hU hW => ⟨rfl, by rw [hU], by rw [hU]; exact hPc, va_K.moved hW.alike hK, hN.warm hW, hE.warm hW, hNc.moved hW.alike, by rw [hU]; exact ((hZ.kept hS.2.1).narrow hF).moved hW.alike, hDc.weaken (fun _ _ _ _ => trivial)⟩⟩ rfl rfl hv.1 hstk (lv_room hcat) hdg hce) hS (fun q _ h => hF q h) hF (fun r u t H1 locs1 ht hvm hw hB hz1 hk1 hS1 => ?_)
  obtain ⟨hP1, hK1, hD1⟩ := hB
  rw [ht] at hP1
  obtain ⟨hP2, hD2⟩ := va_frame hP hD hk1 hF hP1 hD1
  exact kk r u hw H1 locs1 ls hP2 hD2 hS1 hv
theorem z_cui {ty : FieldType} {post : Int32 → S → Prop} (C : zC X D nL cc own Ts tys) (hR : zR X R0) (hL : zL X l) (CL : zCL X ea) {idx : Nat} {As : List Value} (hM : zWi l D tys ea y w rm As wf u0 post) (hG : GoodIn Ts (va_wsS own idx y w)) (hw : w = Cond.code y cy maxL (some ty) :: w') (hd : y.cls ≠ "java/lang/invoke/MethodHandle" ∧ y.cls ≠ "java/lang/invoke/VarHandle" ∧ (parseMethodDescriptor y.desc).map (fun d => d.parameters.length) = some As.length) (hRo : rm.frames + 1 ≤ R0.frames ∧ 8 + (maxL + 11) + rm.locals ≤ R0.locals) (hce : cells + rm.cells ≤ R0.cells ∧ slots + rm.slots ≤ R0.slots) {stk : List Value} (hstk : stk = As.reverse ++ st) (hcat : (st.map fun v => v.category).sum ≤ 8) (hdg : decode cc pc = .ok (.invokestatic idx, 3)) (kk : ∀ (r : Int32) (u : S), post r u → zV X D nL (cells + rm.cells) (slots + rm.slots) (wf u) (pc + 3) lv (.int r :: st)) : zV X D nL cells slots (wf u0) pc lv stk := by
  obtain ⟨p, l2, e, R, s, m, args, below, meth, c, Q, A⟩ := X
  obtain ⟨hx, hb, hml, hown, hts, hK, hA, hlk, hN⟩ := C
  obtain ⟨hE, hNc, hZ, hst⟩ := CL
  cases hR
  cases hL
  intro H locs ls hP hD hS hv
  have hF : ∀ q, va_A (wf u0) H.size q → A q := fun q hq => by
    rcases hq with ⟨k, e, hk⟩ | hq
    · exact hD.2 k _ hk
    · exact hA q (Nat.le_trans hS.1 hq)
  refine va_calli (va_runS (As := As) (rest := st) ⟨hx, hb, hml, hown, hts⟩ (hM H.size) (va_cwS As.length hts hG hw rfl rfl hd hRo) ⟨fun a U g mk q => by obtain ⟨q0, q1, qP, qK, qN, qE, qC, qZ, qD⟩ := q; exact ⟨q0, q1, qP, va_K.moved (u := U) (U := U.calling g mk a) (Vm.Alike.refl U.vm) qK, zN.same (u := U) (U := U.calling g mk a) rfl qN, zEx.same (u := U) (U := U.calling g mk a) rfl qE, zNC.moved (u := U) (U := U.calling g mk a) (Vm.Alike.refl U.vm) qC, zZ.moved (u := U) (U := U.calling g mk a) (Vm.Alike.refl U.vm) qZ, qD⟩, fun U hU hW => ⟨rfl, by rw [hU], by rw [hU]; exact hP, va_K.moved hW.alike hK, hN.warm hW, hE.warm hW, hNc.moved hW.alike, by rw [hU]; exact ((hZ.kept hS.2.1).narrow hF).moved hW.alike, hD.weaken (fun _ _ _ _ => trivial)⟩⟩ rfl rfl hv.1 hstk (lv_room hcat) hdg hce) hS (fun q _ h => hF q h) hF (fun r u t H1 locs1 ht hvm hw hB hz1 hk1 hS1 => ?_)
  obtain ⟨hP1, hK1, hD1⟩ := hB
  rw [ht] at hP1
  exact kk r u hw H1 locs1 ls hP1 (hD1.weaken (fun _ _ _ h => hF _ h)) hS1 hv
theorem z_cul {post : Int64 → S → Prop} (C : zC X D nL cc own Ts tys) (hR : zR X R0) (hL : zL X l) (CL : zCL X ea) {idx : Nat} {As : List Value} (hM : zWl l D tys ea y w rm As wf u0 post) (hG : GoodIn Ts (va_wsS own idx y w)) (hw : w = Cond.code y cy maxL (some .long) :: w') (hd : y.cls ≠ "java/lang/invoke/MethodHandle" ∧ y.cls ≠ "java/lang/invoke/VarHandle" ∧ (parseMethodDescriptor y.desc).map (fun d => d.parameters.length) = some As.length) (hRo : rm.frames + 1 ≤ R0.frames ∧ 8 + (maxL + 11) + rm.locals ≤ R0.locals) (hce : cells + rm.cells ≤ R0.cells ∧ slots + rm.slots ≤ R0.slots) {stk : List Value} (hstk : stk = As.reverse ++ st) (hcat : (st.map fun v => v.category).sum ≤ 8) (hdg : decode cc pc = .ok (.invokestatic idx, 3)) (kk : ∀ (r : Int64) (u : S), post r u → zV X D nL (cells + rm.cells) (slots + rm.slots) (wf u) (pc + 3) lv (.long r :: st)) : zV X D nL cells slots (wf u0) pc lv stk := by
  obtain ⟨p, l2, e, R, s, m, args, below, meth, c, Q, A⟩ := X
  obtain ⟨hx, hb, hml, hown, hts, hK, hA, hlk, hN⟩ := C
  obtain ⟨hE, hNc, hZ, hst⟩ := CL
  cases hR
  cases hL
  intro H locs ls hP hD hS hv
  have hF : ∀ q, va_A (wf u0) H.size q → A q := fun q hq => by
    rcases hq with ⟨k, e, hk⟩ | hq
    · exact hD.2 k _ hk
    · exact hA q (Nat.le_trans hS.1 hq)
  refine va_calll (va_runS (As := As) (rest := st) ⟨hx, hb, hml, hown, hts⟩ (hM H.size) (va_cwS As.length hts hG hw rfl rfl hd hRo) ⟨fun a U g mk q => by obtain ⟨q0, q1, qP, qK, qN, qE, qC, qZ, qD⟩ := q; exact ⟨q0, q1, qP, va_K.moved (u := U) (U := U.calling g mk a) (Vm.Alike.refl U.vm) qK, zN.same (u := U) (U := U.calling g mk a) rfl qN, zEx.same (u := U) (U := U.calling g mk a) rfl qE, zNC.moved (u := U) (U := U.calling g mk a) (Vm.Alike.refl U.vm) qC, zZ.moved (u := U) (U := U.calling g mk a) (Vm.Alike.refl U.vm) qZ, qD⟩, fun U hU hW => ⟨rfl, by rw [hU], by rw [hU]; exact hP, va_K.moved hW.alike hK, hN.warm hW, hE.warm hW, hNc.moved hW.alike, by rw [hU]; exact ((hZ.kept hS.2.1).narrow hF).moved hW.alike, hD.weaken (fun _ _ _ _ => trivial)⟩⟩ rfl rfl hv.1 hstk (lv_room hcat) hdg hce) hS (fun q _ h => hF q h) hF (fun r u t H1 locs1 ht hvm hw hB hz1 hk1 hS1 => ?_)
  obtain ⟨hP1, hK1, hD1⟩ := hB
  rw [ht] at hP1
  exact kk r u hw H1 locs1 ls hP1 (hD1.weaken (fun _ _ _ h => hF _ h)) hS1 hv
theorem z_cdc {b L : Nat} {xs : Nat → Int32} {ty : FieldType} {post : Int32 → S → Prop} (C : zC X D nL cc own Ts tys) (hR : zR X R0) (hL : zL X l) (SC : zSc X b L xs) {idx : Nat} {As : List Value} (hM : zDc l D tys y w rm As b L xs wf u0 post) (hG : GoodIn Ts (va_wsS own idx y w)) (hw : w = Cond.code y cy maxL (some ty) :: w') (hd : y.cls ≠ "java/lang/invoke/MethodHandle" ∧ y.cls ≠ "java/lang/invoke/VarHandle" ∧ (parseMethodDescriptor y.desc).map (fun d => d.parameters.length) = some As.length) (hRo : rm.frames + 1 ≤ R0.frames ∧ 8 + (maxL + 11) + rm.locals ≤ R0.locals) (hce : cells + rm.cells ≤ R0.cells ∧ slots + rm.slots ≤ R0.slots) {stk : List Value} (hstk : stk = As.reverse ++ st) (hcat : (st.map fun v => v.category).sum ≤ 8) (hdg : decode cc pc = .ok (.invokestatic idx, 3)) (kk : ∀ (r : Int32) (u : S), post r u → zV X D nL (cells + rm.cells) (slots + rm.slots) (wf u) (pc + 3) lv (.int r :: st)) : zV X D nL cells slots (wf u0) pc lv stk := by
  obtain ⟨p, l2, e, R, s, m, args, below, meth, c, Q, A⟩ := X
  obtain ⟨hx, hb, hml, hown, hts, hK, hA, hlk, hN⟩ := C
  obtain ⟨hX, hbl, hbA⟩ := SC
  cases hR
  cases hL
  intro H locs ls hP hD hS hv
  have hF : ∀ q, va_A (wf u0) H.size q → A q := fun q hq => by
    rcases hq with ⟨k, e, hk⟩ | hq
    · exact hD.2 k _ hk
    · exact hA q (Nat.le_trans hS.1 hq)
  refine va_calli (va_runS (As := As) (rest := st) ⟨hx, hb, hml, hown, hts⟩ (hM H.size) (va_cwS As.length hts hG hw rfl rfl hd hRo) ⟨fun a U g mk q => by obtain ⟨q0, q1, qP, qK, qN, qX, qb, qA, qD⟩ := q; exact ⟨q0, q1, qP, va_K.moved (u := U) (U := U.calling g mk a) (Vm.Alike.refl U.vm) qK, zN.same (u := U) (U := U.calling g mk a) rfl qN, va_X.moved (u := U) (U := U.calling g mk a) (Vm.Alike.refl U.vm) qX, qb, qA, qD⟩, fun U hU hW => ⟨rfl, by rw [hU], by rw [hU]; exact hP, va_K.moved hW.alike hK, hN.warm hW, by rw [hU]; exact va_X.moved hW.alike (hX.kept (hS.2.1 b hbl hbA)), by rw [hU]; exact Nat.lt_of_lt_of_le hbl hS.1, fun h => hbA (hF b h), hD.weaken (fun _ _ _ _ => trivial)⟩⟩ rfl rfl hv.1 hstk (lv_room hcat) hdg hce) hS (fun q _ h => hF q h) hF (fun r u t H1 locs1 ht hvm hw hB hz1 hk1 hS1 => ?_)
  obtain ⟨hP1, hK1, hD1⟩ := hB
  rw [ht] at hP1
  exact kk r u hw H1 locs1 ls hP1 (hD1.weaken (fun _ _ _ h => hF _ h)) hS1 hv
theorem z_xfi0 {ty : FieldType} {post : Int32 → S → Prop} {px : String → S → Prop} (C : zC X D nL cc own Ts tys) (hR : zR X R0) (hL : zL X l) (CL : zCL X ea) {b idx : Nat} {As : List Value} (hM : zXi l D tys ea y w rm (.ref b :: As) wf u0 post px) (hG : GoodIn Ts (wsV own idx y.cls y w)) (hw : w = Cond.code y cy maxL (some ty) :: w') (hd : y.cls ≠ "java/lang/invoke/MethodHandle" ∧ y.cls ≠ "java/lang/invoke/VarHandle" ∧ (parseMethodDescriptor y.desc).map (fun d => d.parameters.length) = some As.length) (hRo : rm.frames + 1 ≤ R0.frames ∧ 8 + (maxL + 11) + rm.locals ≤ R0.locals) (hce : cells + rm.cells ≤ R0.cells ∧ slots + rm.slots ≤ R0.slots) (q0 ci : Nat) {fs : List Value} {CN : String} {T : u_T} {N : Nat} (hrecv : (wf u0)[q0]? = some (b, .inr (ci, fs))) (hcl : vwCl[ci]? = some (CN, T, N)) (hCN : CN = y.cls) {stk : List Value} (hstk : stk = As.reverse ++ .ref b :: st) (hcat : (st.map fun v => v.category).sum ≤ 8) (hdg : decode cc pc = .ok (.invokevirtual idx, 3))
    (kx : ∀ (E : String) (u : S), px E u → False)
    (kk : ∀ (r : Int32) (u : S), post r u → zV X D nL (cells + rm.cells) (slots + rm.slots) (wr ++ wf u) (pc + 3) lv (.int r :: st)) : zV X D nL cells slots (wr ++ wf u0) pc lv stk := by
  obtain ⟨p, l2, e, R, s, m, args, below, meth, c, Q, A⟩ := X
  obtain ⟨hx, hb, hml, hown, hts, hK, hA, hlk, hN⟩ := C
  obtain ⟨hE, hNc, hZ, hst⟩ := CL
  cases hR
  cases hL
  intro H locs ls hP hD hS hv
  have hF := z_frF hD hA hS
  have hPc := va_right hP
  have hDc := va_rightD hD
  refine vx_calli (AX := va_A (wf u0) H.size) (vx_runV (As := As) (rest := st) ⟨hx, hb, hml, hown, hts⟩ (hM H.size) (cwV As.length hts hG hw rfl rfl ⟨rfl, hd⟩ hRo) ⟨fun a U g mk q => by obtain ⟨q0, q1, qP, qK, qN, qE, qZ, qD⟩ := q; exact ⟨q0, q1, qP, va_K.moved (u := U) (U := U.calling g mk a) (Vm.Alike.refl U.vm) qK, zN.same (u := U) (U := U.calling g mk a) rfl qN, zEx.same (u := U) (U := U.calling g mk a) rfl qE, zZ.moved (u := U) (U := U.calling g mk a) (Vm.Alike.refl U.vm) qZ, qD⟩, hCN ▸ va_recv hK hPc hcl hrecv, fun U hU hW => ⟨rfl, by rw [hU], by rw [hU]; exact hPc, va_K.moved hW.alike hK, hN.warm hW, hE.warm hW, by rw [hU]; exact ((hZ.kept hS.2.1).narrow hF).moved hW.alike, hDc.weaken (fun _ _ _ _ => trivial)⟩⟩ rfl rfl hv.1 hstk (lv_room hcat) hdg hce) hS (fun q _ h => hF q h) hF (fun q _ h => hF q h) (fun E ce q9 u t H1 locs1 ht hvm _ hB hz1 hk1 hS1 hce9 hcv hcl9 => ?_) (fun r u t H1 locs1 ht hvm hw hB hz1 hk1 hS1 => ?_)
  · exact (kx E u hB.1).elim
  · obtain ⟨hP1, hK1, hD1⟩ := hB
    rw [ht] at hP1
    obtain ⟨hP2, hD2⟩ := va_frame hP hD hk1 hF hP1 hD1
    exact kk r u hw H1 locs1 ls hP2 hD2 hS1 hv
theorem z_xfl0 {post : Int64 → S → Prop} {px : String → S → Prop} (C : zC X D nL cc own Ts tys) (hR : zR X R0) (hL : zL X l) (CL : zCL X ea) {b idx : Nat} {As : List Value} (hM : zXl l D tys ea y w rm (.ref b :: As) wf u0 post px) (hG : GoodIn Ts (wsV own idx y.cls y w)) (hw : w = Cond.code y cy maxL (some .long) :: w') (hd : y.cls ≠ "java/lang/invoke/MethodHandle" ∧ y.cls ≠ "java/lang/invoke/VarHandle" ∧ (parseMethodDescriptor y.desc).map (fun d => d.parameters.length) = some As.length) (hRo : rm.frames + 1 ≤ R0.frames ∧ 8 + (maxL + 11) + rm.locals ≤ R0.locals) (hce : cells + rm.cells ≤ R0.cells ∧ slots + rm.slots ≤ R0.slots) (q0 ci : Nat) {fs : List Value} {CN : String} {T : u_T} {N : Nat} (hrecv : (wf u0)[q0]? = some (b, .inr (ci, fs))) (hcl : vwCl[ci]? = some (CN, T, N)) (hCN : CN = y.cls) {stk : List Value} (hstk : stk = As.reverse ++ .ref b :: st) (hcat : (st.map fun v => v.category).sum ≤ 8) (hdg : decode cc pc = .ok (.invokevirtual idx, 3))
    (kx : ∀ (E : String) (u : S), px E u → False)
    (kk : ∀ (r : Int64) (u : S), post r u → zV X D nL (cells + rm.cells) (slots + rm.slots) (wr ++ wf u) (pc + 3) lv (.long r :: st)) : zV X D nL cells slots (wr ++ wf u0) pc lv stk := by
  obtain ⟨p, l2, e, R, s, m, args, below, meth, c, Q, A⟩ := X
  obtain ⟨hx, hb, hml, hown, hts, hK, hA, hlk, hN⟩ := C
  obtain ⟨hE, hNc, hZ, hst⟩ := CL
  cases hR
  cases hL
  intro H locs ls hP hD hS hv
  have hF := z_frF hD hA hS
  have hPc := va_right hP
  have hDc := va_rightD hD
  refine vx_calll (AX := va_A (wf u0) H.size) (vx_runV (As := As) (rest := st) ⟨hx, hb, hml, hown, hts⟩ (hM H.size) (cwV As.length hts hG hw rfl rfl ⟨rfl, hd⟩ hRo) ⟨fun a U g mk q => by obtain ⟨q0, q1, qP, qK, qN, qE, qZ, qD⟩ := q; exact ⟨q0, q1, qP, va_K.moved (u := U) (U := U.calling g mk a) (Vm.Alike.refl U.vm) qK, zN.same (u := U) (U := U.calling g mk a) rfl qN, zEx.same (u := U) (U := U.calling g mk a) rfl qE, zZ.moved (u := U) (U := U.calling g mk a) (Vm.Alike.refl U.vm) qZ, qD⟩, hCN ▸ va_recv hK hPc hcl hrecv, fun U hU hW => ⟨rfl, by rw [hU], by rw [hU]; exact hPc, va_K.moved hW.alike hK, hN.warm hW, hE.warm hW, by rw [hU]; exact ((hZ.kept hS.2.1).narrow hF).moved hW.alike, hDc.weaken (fun _ _ _ _ => trivial)⟩⟩ rfl rfl hv.1 hstk (lv_room hcat) hdg hce) hS (fun q _ h => hF q h) hF (fun q _ h => hF q h) (fun E ce q9 u t H1 locs1 ht hvm _ hB hz1 hk1 hS1 hce9 hcv hcl9 => ?_) (fun r u t H1 locs1 ht hvm hw hB hz1 hk1 hS1 => ?_)
  · exact (kx E u hB.1).elim
  · obtain ⟨hP1, hK1, hD1⟩ := hB
    rw [ht] at hP1
    obtain ⟨hP2, hD2⟩ := va_frame hP hD hk1 hF hP1 hD1
    exact kk r u hw H1 locs1 ls hP2 hD2 hS1 hv
end ZLR
