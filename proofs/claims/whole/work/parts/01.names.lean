/-! ===== BEGIN words of one list among another's, by their places ===== -/
theorem goodIn_r {big : List Cond} (ws : List Cond) (ps : List Nat) (hp : ws = ps.filterMap (fun i => big[i]?)) (h : ws.all goodWord = true) : GoodIn big ws := by
  intro w hw
  have h1 := List.all_eq_true.mp h w hw
  rw [hp] at hw
  obtain ⟨i, -, hi⟩ := List.mem_filterMap.mp hw
  have hm : w ∈ big := by first | exact List.mem_of_getElem? hi | exact List.getElem?_mem hi
  exact ⟨hm, good_of_word h1⟩
theorem goodIn_app {big a b : List Cond} (ha : GoodIn big a) (hb : GoodIn big b) : GoodIn big (a ++ b) := fun w h => (List.mem_append.mp h).elim (ha w) (hb w)
theorem goodIn_ca {big a b : List Cond} {c : Cond} (ha : GoodIn big (c :: a)) (hb : GoodIn big b) : GoodIn big (c :: (a ++ b)) := fun w h => (List.mem_cons.mp h).elim (fun e => ha w (List.mem_cons.mpr (Or.inl e))) (fun h => (List.mem_append.mp h).elim (fun h => ha w (List.mem_cons.mpr (Or.inr h))) (hb w))
theorem goodIn_sub {big ws : List Cond} (hm : ∀ w ∈ ws, w ∈ big) (h : ws.all goodWord = true) : GoodIn big ws := fun w hw => ⟨hm w hw, good_of_word (List.all_eq_true.mp h w hw)⟩
/-! ===== END ===== -/

/-! ===== BEGIN new T[n][m]: the outer array a place, the inner ones among the pooled ===== -/
/-- f, but v at every address of l -/
def vr_up {α : Type} (f : Nat → α) (l : List Nat) (v : α) : Nat → α := fun a => if a ∈ l then v else f a
theorem vr_up_in {α : Type} {f : Nat → α} {l : List Nat} {v : α} {a : Nat} (h : a ∈ l) : vr_up f l v a = v := if_pos h
theorem vr_up_ne {α : Type} {f : Nat → α} {l : List Nat} {v : α} {a : Nat} (h : a ∉ l) : vr_up f l v a = f a := if_neg h
theorem vr_rows {L l : List Nat} {f : Nat → va_E} {e : va_E} (h : ∀ a, a ∈ l → a ∉ L) : va_pl L f ++ l.map (fun a => (a, e)) = va_pl (L ++ l) (vr_up f l e) := by
  unfold va_pl
  rw [List.map_append]
  congr 1
  · apply List.map_congr_left
    intro a ha
    rw [vr_up_ne (fun q => h a q ha)]
  · apply List.map_congr_left
    intro a ha
    rw [vr_up_in ha]
theorem vr_lay {X rows : va_W} {x : Nat × va_E} {pl : va_W} {D : va_G} {cl : List vw_C} {H : Heap} (hP : va_P D cl (((X ++ pl) ++ [x]) ++ rows) H) : va_P D cl ((X ++ [x]) ++ (pl ++ rows)) H := by
  rw [List.append_assoc (X ++ pl)] at hP
  have h := va_P.swap hP
  rw [← List.append_assoc X] at h
  have h2 := va_P.swap h
  rw [List.append_assoc (X ++ [x])] at h2
  exact h2
theorem vr_layD {X rows : va_W} {x : Nat × va_E} {pl : va_W} {A : Nat → Prop} (hD : va_D A (((X ++ pl) ++ [x]) ++ rows)) : va_D A ((X ++ [x]) ++ (pl ++ rows)) := by
  rw [List.append_assoc (X ++ pl)] at hD
  have h := va_D.swap hD
  rw [← List.append_assoc X] at h
  have h2 := va_D.swap h
  rw [List.append_assoc (X ++ [x])] at h2
  exact h2
theorem vr_outer (c : ClassId) (N h0 : Nat) : ∀ i : Nat, Jvm.Free.Multi.outerC c N h0 i = arrV c N (fun j => va_rf (if j < i then some (h0 + 1 + j) else none))
  | 0 => by
    show ({ cls := c, slots := Array.replicate N .null, vm := .none } : Cell) = _
    rw [arrV_new]
    refine congrArg (arrV c N) (funext fun j => ?_)
    simp [va_rf]
  | i + 1 => by
    show (Jvm.Free.Multi.outerC c N h0 i).setSlot i (.ref (h0 + 1 + i)) = _
    rw [vr_outer c N h0 i, arrV_store]
    refine congrArg (arrV c N) (funext fun j => ?_)
    by_cases e : j = i
    · subst e
      simp [updV, va_rf]
    · by_cases h : j < i
      · simp [updV, e, h, Nat.lt_succ_of_lt h]
      · simp [updV, e, h, show ¬ j < i + 1 by omega]
section VGM
variable {p : Program} {l : Launch} {e : Env} {R : Room} {s : State} {m : MethodId} {args : Array Value} {below : List Frame} {meth : Method} {c : Code} {H : Heap} {locs : List Loc} {cells slots : Nat} {Q : State → Prop}
variable {cc : ByteArray} {pc : Nat} {ls : Array Slot} {rest : List Value} {D : va_G} {cl : List vw_C} {A : Nat → Prop} {a : Nat} {tys : List (ClassId × FieldType)} {ws : va_W} {H0 : Heap}
theorem va_mna {X : va_W} {L : List Nat} {f : Nat → va_E} {cc : ByteArray} (hexec : p.tables.exec = Jvm.exec) (hb : c.code = cc) {own : String} {index : Nat} {ty : FieldType} {cy : ClassId} (hown : s.vm.findClass own = some m.cls) (hclink : (Cond.classLink own index ("[" ++ (FieldType.array ty).toString)).before args s = true) (hover : va_AOA ty s) (harr : (Cond.arrayClass ty).before args s = true) (hcy : s.vm.findClass (FieldType.array ty).toString = some cy)
    (hK : va_K D cl tys s) (hP : va_P D cl (X ++ va_pl L f) H) (hD : va_D A (X ++ va_pl L f)) (hS : va_S A H0 H locs) (hA : ∀ q, H0.size ≤ q → A q) {n k : Int32} {N' K' : Nat} {z : vp_A} (hn : ¬ n < 0) (hk : ¬ k < 0) (hN : n.toNatClampNeg = N') (hM : k.toNatClampNeg = K')
    (hb1 : N' * 4 ≤ 536870912) (hb2 : K' * componentBytes ty ≤ 536870912) (hb3 : K' ≤ 536870912) (hdf : fits ty (defaultValue ty) = true) (hdd : (defaultValue ty).isDefault = true) (hcells : cells + (1 + N') ≤ R.cells) (hslots : slots + (N' + N' * K') ≤ R.slots) (hz : ∀ c : ClassId, Jvm.Free.Multi.innerC c K' (defaultValue ty) = vp_cell c z) (hdg : decode cc pc = .ok (.multianewarray index 2, 4))
    (kk : ∀ (q : Nat) (r : Nat → Nat) (cA : ClassId) (H1 : Heap), (∀ i j : Nat, i < N' → j < N' → r i = r j → i = j) → (∀ i : Nat, i < N' → r i ∉ L) → va_K D cl (tys ++ [(cA, .array ty)]) s →
      va_P D cl ((X ++ [(q, .inl (cA, N', .inr (.inr (.inr (.inr (fun i => if i < N' then some (r i) else none))))))]) ++ va_pl (L ++ (List.range N').map r) (vr_up f ((List.range N').map r) (.inl (cy, z)))) H1 → va_D A ((X ++ [(q, .inl (cA, N', .inr (.inr (.inr (.inr (fun i => if i < N' then some (r i) else none))))))]) ++ va_pl (L ++ (List.range N').map r) (vr_up f ((List.range N').map r) (.inl (cy, z)))) → va_S A H0 H1 locs →
      W p l e R s m args below meth c H1 locs (cells + 1 + N') (slots + N' + N' * K') Q (F0 m (pc + 4) ls (.ref q :: rest))) : W p l e R s m args below meth c H locs cells slots Q (F0 m pc ls (.int k :: .int n :: rest)) := by
  subst hN
  subst hM
  intro T hT Xs
  obtain ⟨vm₁, cA, comp, -, fA, fC, hO, -, X', step⟩ := Xs.multianewarray2F hexec hown hclink (va_AOA.use hover) harr (g := F0 m pc ls (.int k :: .int n :: rest)) rfl (by rw [hb]; exact hdg) rfl hn hk hb1 hb2 hb3 hdf hdd hcells hslots
  have ec : some cy = some comp := hcy.symm.trans fC
  cases ec
  generalize hF : Jvm.Free.Multi.fill (T.setVm vm₁) cA cy n.toNatClampNeg k.toNatClampNeg (defaultValue ty) n.toNatClampNeg = F at X' step
  have hTh : (T.setVm vm₁).heap = H := hT
  obtain ⟨f1, f2, -, -⟩ := Jvm.Free.Multi.fill_facts (T.setVm vm₁) cA cy n.toNatClampNeg k.toNatClampNeg (defaultValue ty) n.toNatClampNeg
  rw [hF, hTh] at f1 f2
  have hold : ∀ x : Nat, x < H.size → F.heap[x]? = H[x]? := fun x hx => by
    have := Jvm.Free.Multi.fill_old (T.setVm vm₁) cA cy n.toNatClampNeg k.toNatClampNeg (defaultValue ty) (a := x) (by rw [hTh]; exact hx) n.toNatClampNeg
    rw [hF, hTh] at this
    exact this
  have hrow : ∀ j : Nat, j < n.toNatClampNeg → F.heap[H.size + 1 + j]? = some (vp_cell cy z) := fun j hj => by
    have := Jvm.Free.Multi.fill_inner (T.setVm vm₁) cA cy n.toNatClampNeg k.toNatClampNeg (defaultValue ty) n.toNatClampNeg j hj
    rw [hF, hTh, hz] at this
    exact this
  have hout : Jvm.Free.Multi.outerC cA n.toNatClampNeg H.size n.toNatClampNeg = vp_cell cA (n.toNatClampNeg, .inr (.inr (.inr (.inr (fun i => if i < n.toNatClampNeg then some (H.size + 1 + i) else none))))) := by
    rw [vp_cell_q]
    exact vr_outer cA n.toNatClampNeg H.size n.toNatClampNeg
  rw [hout] at f2
  have hlt : ∀ a, a ∈ L → a < H.size := fun a ha => by
    obtain ⟨k9, hk9⟩ := va_pl_get (X := X) (f := f) ha
    exact (hP k9 _ hk9).lt
  have hnl : ∀ i : Nat, i < n.toNatClampNeg → H.size + 1 + i ∉ L := fun i _ h => by
    have := hlt _ h
    omega
  have hnm : ∀ a, a ∈ (List.range n.toNatClampNeg).map (fun i => H.size + 1 + i) → a ∉ L := fun a ha h => by
    obtain ⟨i, -, rfl⟩ := List.mem_map.mp ha
    have := hlt _ h
    omega
  have hP0 : va_P D cl (X ++ va_pl L f) F.heap := hP.kept (fun k9 x hx => hold x.1 ((hP k9 x hx).lt))
  have hP1 : va_P D cl ((X ++ va_pl L f) ++ [(H.size, .inl (cA, n.toNatClampNeg, .inr (.inr (.inr (.inr (fun i => if i < n.toNatClampNeg then some (H.size + 1 + i) else none))))))]) F.heap := hP0.app (fun k9 x hx => by
    have h0 : k9 < 1 := (List.getElem?_eq_some_iff.mp hx).1
    rw [show k9 = 0 by omega] at hx
    cases hx
    exact f2)
  have hP2 : va_P D cl (((X ++ va_pl L f) ++ [(H.size, .inl (cA, n.toNatClampNeg, .inr (.inr (.inr (.inr (fun i => if i < n.toNatClampNeg then some (H.size + 1 + i) else none))))))]) ++ ((List.range n.toNatClampNeg).map (fun i => H.size + 1 + i)).map (fun a => (a, .inl (cy, z)))) F.heap := hP1.app (fun k9 x hx => by
    obtain ⟨a, ha, rfl⟩ := List.mem_map.mp (List.mem_of_getElem? hx)
    obtain ⟨i, hi, rfl⟩ := List.mem_map.mp ha
    exact hrow i (List.mem_range.mp hi))
  have hD2 : va_D A (((X ++ va_pl L f) ++ [(H.size, .inl (cA, n.toNatClampNeg, .inr (.inr (.inr (.inr (fun i => if i < n.toNatClampNeg then some (H.size + 1 + i) else none))))))]) ++ ((List.range n.toNatClampNeg).map (fun i => H.size + 1 + i)).map (fun a => (a, .inl (cy, z)))) := by
    have hD1 := hD.push (e := .inl (cA, n.toNatClampNeg, .inr (.inr (.inr (.inr (fun i => if i < n.toNatClampNeg then some (H.size + 1 + i) else none)))))) hP rfl (hA _ hS.1)
    generalize hW1 : (X ++ va_pl L f) ++ [(H.size, .inl (cA, n.toNatClampNeg, .inr (.inr (.inr (.inr (fun i => if i < n.toNatClampNeg then some (H.size + 1 + i) else none))))))] = W1 at hD1 hP1 ⊢
    have hle : ∀ (k9 : Nat) (x : Nat × va_E), W1[k9]? = some x → x.1 ≤ H.size := fun k9 x hx => by
      rw [← hW1] at hx
      by_cases hl : k9 < (X ++ va_pl L f).length
      · rw [List.getElem?_append_left hl] at hx
        exact Nat.le_of_lt ((hP k9 x hx).lt)
      · rw [List.getElem?_append_right (by omega)] at hx
        have h0 : k9 - (X ++ va_pl L f).length < 1 := (List.getElem?_eq_some_iff.mp hx).1
        rw [show k9 - (X ++ va_pl L f).length = 0 by omega] at hx
        cases hx
        exact Nat.le_refl _
    have hr : ∀ (k9 : Nat) (x : Nat × va_E), (((List.range n.toNatClampNeg).map (fun i => H.size + 1 + i)).map (fun a => ((a, .inl (cy, z)) : Nat × va_E)))[k9]? = some x → x.1 = H.size + 1 + k9 := fun k9 x hx => by
      rw [List.getElem?_map, List.getElem?_map] at hx
      by_cases h9 : k9 < n.toNatClampNeg
      · rw [List.getElem?_range h9] at hx
        cases hx
        rfl
      · have hn0 : (List.range n.toNatClampNeg)[k9]? = none := List.getElem?_eq_none (by rw [List.length_range]; omega)
        rw [hn0] at hx
        cases hx
    refine ⟨fun i j x y hi hj hxy => ?_, fun k9 x hx => ?_⟩
    · by_cases h1 : i < W1.length <;> by_cases h2 : j < W1.length
      · rw [List.getElem?_append_left h1] at hi
        rw [List.getElem?_append_left h2] at hj
        exact hD1.1 i j x y hi hj hxy
      · rw [List.getElem?_append_left h1] at hi
        rw [List.getElem?_append_right (by omega)] at hj
        have := hle _ _ hi
        have := hr _ _ hj
        omega
      · rw [List.getElem?_append_right (by omega)] at hi
        rw [List.getElem?_append_left h2] at hj
        have := hle _ _ hj
        have := hr _ _ hi
        omega
      · rw [List.getElem?_append_right (by omega)] at hi hj
        have := hr _ _ hi
        have := hr _ _ hj
        omega
    · by_cases h1 : k9 < W1.length
      · rw [List.getElem?_append_left h1] at hx
        exact hD1.2 k9 x hx
      · rw [List.getElem?_append_right (by omega)] at hx
        have := hr _ _ hx
        exact hA _ (by have := hS.1; omega)
  have hAr : ArrOfT s cA (.array ty) := fun N9 z9 => by
    obtain ⟨-, k9, hk9, cm9, hkk9⟩ := (hO 0 0 0).1
    exact ⟨(fun q hq => by cases hq), k9, hk9, cm9, hkk9⟩
  have hK2 : va_K D cl (tys ++ [(cA, .array ty)]) s := ⟨hK.1, fun k9 x hx => by
    by_cases hl : k9 < tys.length
    · rw [List.getElem?_append_left hl] at hx
      exact hK.2 k9 x hx
    · rw [List.getElem?_append_right (by omega)] at hx
      have h0 : k9 - tys.length < 1 := (List.getElem?_eq_some_iff.mp hx).1
      rw [show k9 - tys.length = 0 by omega] at hx
      cases hx
      exact ⟨hAr, fA⟩⟩
  obtain ⟨t, a1, b1⟩ := kk H.size (fun i => H.size + 1 + i) cA F.heap (fun i j _ _ h => by have h9 : H.size + 1 + i = H.size + 1 + j := h; omega) hnl hK2 (by rw [← vr_rows hnm]; exact vr_lay hP2) (by rw [← vr_rows hnm]; exact vr_layD hD2) ⟨by rw [f1]; have := hS.1; omega, fun x h1 h2 => (hold x (Nat.lt_of_lt_of_le h1 hS.1)).trans (hS.2.1 x h1 h2), hS.2.2⟩ F rfl X'
  refine ⟨t, step t ?_, b1⟩
  have e : T.heap.size = H.size := by rw [hT]
  rw [e]
  exact a1
end VGM
/-! ===== END ===== -/

/-! ===== BEGIN exceptions that leave a method, and their catching by the caller (launches without stack traces) ===== -/
section VXA
/-! The laws vx_back, vx_callV, vx_callS, vx_callSW, vx_throw0, vx_throwS follow proofs of the library, with one case more: JvmDerived/Free/Laws.lean (Back.of_free), Shelf42/LK1.lean (callV, callS), Shelf/KitTraced.lean (throwNew0V, throwNewS). -/
/-- where a method has thrown q: the class by its name, the cell, what was written, the world -/
def vx_T (XC : String → State → State → Prop) (st : State) (q : Addr) (t : State) (mc ms : Nat) (free : Addr → Prop) : Prop :=
  ∃ (E : String) (ce : Cell) (L : List Loc), XC E st t ∧ t.heap[q]? = some ce ∧ ce.vm = .none ∧ st.vm.findClass E = some ce.cls ∧ st.WarmedH t.vm ∧ st.sameButNew ({ t with vm := st.vm } : State) L mc ms ∧ ∀ z ∈ L, free z.base
def vx_Q (Qc : Array Value → State → Outcome → State → Prop) (XC : String → State → State → Prop) (mc ms : Nat) (free : Addr → Prop) : Array Value → State → Outcome → State → Prop := fun a st o t =>
  (Qc a st o t ∧ ∃ L, FrameEnd st o t L mc ms ∧ ∀ q ∈ L, free q.base) ∨ ∃ q, o = .threw q ∧ vx_T XC st q t mc ms free
/-- a callee that returns or throws -/
def vx_Met (l : Launch) (y : MethodName) (ws : List Cond) (rm : Room) (Pc : Array Value → State → Prop) (Qc : Array Value → State → Outcome → State → Prop) (XC : String → State → State → Prop) (mc ms : Nat) (free : Addr → Prop) : Prop :=
  MetFree l y (headSpec ws rm) Pc (fun _ _ _ _ _ => True) (vx_Q Qc XC mc ms free)
def vx_Post (XC : String → State → State → Prop) (mc ms : Nat) (free : Addr → Prop) : Pt → Array Value → Addr → Pt → Prop := fun A a q B =>
  ∃ (g : JFrame) (mk : MethodId) (t : State) (L : List Loc) (E : String) (ce : Cell), B.U.heap = t.heap ∧ B.U.vm = t.vm ∧ XC E (A.U.calling g mk a) t ∧ t.heap[q]? = some ce ∧ ce.vm = .none ∧ A.U.vm.findClass E = some ce.cls ∧ B.locs = A.locs ++ L ∧ (∀ z ∈ L, free z.base) ∧ B.cells = A.cells + mc ∧ B.slots = A.slots + ms
def vx_Back (l : Launch) (R : Room) (p : Program) (e : Env) (below : List Frame) (s : State) (sargs : Array Value) (y : MethodName) (len W9 : Nat)
    (Pre : Pt → Array Value → Prop) (Post : Pt → Array Value → Option Value → Pt → Prop) (PostX : Pt → Array Value → Addr → Pt → Prop) : Prop :=
  ∀ (m : MethodId) (meth : Method) (c : Code) (A : Pt) (g : JFrame) (ig : Instr) (mk : MethodId) (a : Array Value),
    Stand p l e R s m sargs below meth c A.U A.locs A.cells A.slots → g.method = m → g.locals.size = c.maxLocals → decode c.code g.pc = .ok (ig, len) →
    2 * g.monitorRoom + (g.stack.map fun v => v.category).sum ≤ W9 → A.U.methodNamed? y = some mk → Pre A a →
    (∃ (v : Option Value) (B : Pt), Stand p l e R s m sargs below meth c B.U B.locs B.cells B.slots ∧ Post A a v B ∧
      Steps p.tables e below (doInvoke e (A.U.setTop g) [] mk a).1 (B.U.setTop { g with pc := g.pc + len, stack := v.toList ++ g.stack })) ∨
    (∃ (q : Addr) (B : Pt), Stand p l e R s m sargs below meth c B.U B.locs B.cells B.slots ∧ PostX A a q B ∧
      Steps p.tables e below (doInvoke e (A.U.setTop g) [] mk a).1 ((B.U.setTop g).pushFrame (.throwing q)))
section Payer
variable {l : Launch} {R : Room} {p : Program} {e : Env} {below : List Frame} {s : State} {sargs : Array Value} {y : MethodName} {len W9 : Nat}
theorem vx_back {ws : List Cond} {rm : Room} {Pc : Array Value → State → Prop} {Qc : Array Value → State → Outcome → State → Prop} {XC : String → State → State → Prop} {mc ms : Nat} {free : Addr → Prop} {bytes : ByteArray} {maxL : Nat} {ret : Option FieldType}
    (hM : vx_Met l y ws rm Pc Qc XC mc ms free) (hblind : FrameBlind Pc) (hrc : rm.cells = mc) (hrs : rm.slots = ms)
    (hframes : rm.frames + 1 ≤ R.frames) (hlocals : W9 + (maxL + 11) + rm.locals ≤ R.locals)
    (hws : ∀ w ∈ ws, ∀ a' U, s.WarmedH U.vm → w.before a' U = true) (hcode : Cond.code y bytes maxL ret ∈ ws) (hinit : ∀ a' U, s.WarmedH U.vm → (Cond.initialized y.cls).before a' U = true) :
    vx_Back l R p e below s sargs y len W9 (PreOf R mc ms Pc) (PostOf Qc mc ms free) (vx_Post XC mc ms free) := by
  intro m meth c A g ig mk a X hg hsize hdg hW hn hp
  have h1 : (headSpec ws rm).pre.before a A.U = true := atoms_intro fun w hw => hws w hw _ _ X.warmed
  have h2 : (Cond.code y bytes maxL ret).before a A.U = true := hws _ hcode _ _ X.warmed
  have h3 : (Cond.initialized y.cls).before a A.U = true := hinit _ _ X.warmed
  have h4 : A.cells + (headSpec ws rm).room.cells ≤ R.cells := by rw [show (headSpec ws rm).room.cells = mc from hrc]; exact hp.1
  have h5 : A.slots + (headSpec ws rm).room.slots ≤ R.slots := by rw [show (headSpec ws rm).room.slots = ms from hrs]; exact hp.2.1
  have hPc : Pc a (A.U.calling g mk a) := hblind _ _ _ _ hp.2.2
  obtain ⟨U, Ls, c0, s0⟩ := A
  dsimp only [Pt.U, Pt.locs, Pt.cells, Pt.slots] at h1 h2 h3 h4 h5 X hn hPc ⊢
  obtain ⟨methY, cY, hmY, hcY, -, hlY, -, -, -, -⟩ := Cond.code_spec hn h2
  obtain ⟨kY, hkY, -⟩ := className_of_methodNamed hn
  have hinitY : kY.init = .initialized := Cond.initialized_spec (findClass_of_methodNamed hn) hkY h3
  have h : At U g.method c below := by rw [hg]; exact X.here
  have hlocals9 : W9 + (maxL + 11) + (headSpec ws rm).room.locals ≤ R.locals := hlocals
  have happ : (headSpec ws rm).appliesLoose y e.platform (U.calling g mk a) = true :=
    Spec.appliesLoose_calling (g := g) h hdg hn hkY hinitY
      (X.room_calling (g := g) (R' := (headSpec ws rm).room) hsize hmY hcY hframes (by rw [hlY]; omega) h4 h5) h1
  obtain ⟨mid, hmid⟩ := h.above
  have hfr : (U.setTop g).frames = (.java g :: mid) ++ below := by rw [State.frames_setTop' g h.top, hmid]; rfl
  obtain ⟨o, s₂, hsteps, -, hend, hq⟩ := Steps.callFree hM p X.admits X.cas X.clock (acts := []) hfr happ hPc trivial
  have hq' : vx_Q Qc XC mc ms free a (U.calling g mk a) o s₂ := hq
  rw [State.frames_setTop' g h.top] at hend
  obtain ⟨g₀, hg0⟩ := Option.isSome_iff_exists.mp h.top
  obtain ⟨r, hr⟩ := State.topJava?_eq_some.mp hg0
  have hr' : (({ U with heap := s₂.heap, slotsUsed := s₂.slotsUsed } : State).setVm s₂.vm).frames = .java g₀ :: r := hr
  rcases hq' with ⟨hqc, L, hfe, hL⟩ | ⟨q, rfl, E, ce, L, hx, hce, hcv, hcl, hW₂, hsm, hL⟩
  · obtain ⟨⟨v, rfl⟩, hW₂, e2, q2, q3, q4, q5, q6⟩ := id hfe
    have e3 : s₂ = ({ (U.calling g mk a).setFrames s₂.frames with heap := s₂.heap, slotsUsed := s₂.slotsUsed } : State).setVm s₂.vm := by
      have : s₂ = ({ s₂ with vm := (U.calling g mk a).vm } : State).setVm s₂.vm := rfl
      rw [e2] at this
      exact this
    obtain ⟨c₂, i₂, len₂, hc₂, hd₂, hf₂⟩ := hend
    have hW' : U.WarmedH s₂.vm := hW₂
    have hcc : c₂ = c := by
      have h1 : s₂.code? g.method = U.code? g.method := by
        rw [State.code?_eq, State.code?_eq, hW'.alike.method?]
      exact Option.some.inj (hc₂.symm.trans (h1.trans h.code))
    subst hcc
    have hlen : len₂ = len := by rw [hdg] at hd₂; cases hd₂; rfl
    subst hlen
    have hs₂ : s₂ = (({ U with heap := s₂.heap, slotsUsed := s₂.slotsUsed } : State).setVm s₂.vm).setTop { g with pc := g.pc + len₂, stack := v.toList ++ g.stack } := by
      refine e3.trans ?_
      rw [hf₂, State.calling_eq h.top, State.setFrames_setFrames, State.setTop_of_frames _ hr', hr]
      rfl
    have hsame : U.sameButNew ({ U with heap := s₂.heap, slotsUsed := s₂.slotsUsed } : State) L mc ms := by
      refine ⟨?_, q2, q3, q4, q5, q6⟩
      obtain ⟨t, ht, -⟩ := State.frames_cons hr
      show ({ U with heap := s₂.heap, slotsUsed := s₂.slotsUsed } : State) = { U.setFrames U.frames with heap := s₂.heap, slotsUsed := s₂.slotsUsed }
      rw [State.setFrames_self ht]
    subst hg
    refine Or.inl ⟨v, ⟨(({ U with heap := s₂.heap, slotsUsed := s₂.slotsUsed } : State).setVm s₂.vm), Ls ++ L, c0 + mc, s0 + ms⟩,
      ⟨X.admits, X.cas, X.clock, X.frames, X.room, X.hears, X.method, X.code, (X.here.setHeapUsed s₂.heap s₂.slotsUsed).setVm hW'.alike, X.tail, State.WarmedH.trans X.warmed hW', X.limits, X.bytes, X.same.trans (hsame.setVm s.vm)⟩,
      ⟨g, mk, s₂, L, rfl, rfl, hqc, rfl, hL, rfl, rfl⟩, ?_⟩
    show Steps p.tables e below _ ((({ U with heap := s₂.heap, slotsUsed := s₂.slotsUsed } : State).setVm s₂.vm).setTop { g with pc := g.pc + len₂, stack := v.toList ++ g.stack })
    rw [← hs₂]
    exact hsteps
  · obtain ⟨e2, q2, q3, q4, q5, q6⟩ := id hsm
    have e3 : s₂ = ({ (U.calling g mk a).setFrames s₂.frames with heap := s₂.heap, slotsUsed := s₂.slotsUsed } : State).setVm s₂.vm := by
      have : s₂ = ({ s₂ with vm := (U.calling g mk a).vm } : State).setVm s₂.vm := rfl
      rw [e2] at this
      exact this
    have hf₂ : s₂.frames = .throwing q :: .java g :: U.frames.tail := hend
    have hW' : U.WarmedH s₂.vm := hW₂
    have hs₂ : s₂ = ((({ U with heap := s₂.heap, slotsUsed := s₂.slotsUsed } : State).setVm s₂.vm).setTop g).pushFrame (.throwing q) := by
      refine e3.trans ?_
      rw [hf₂, State.calling_eq h.top, State.setFrames_setFrames, State.pushFrame, State.frames_setTop _ hr', State.setTop_of_frames _ hr', State.setFrames_setFrames, hr]
      rfl
    have hsame : U.sameButNew ({ U with heap := s₂.heap, slotsUsed := s₂.slotsUsed } : State) L mc ms := by
      refine ⟨?_, q2, q3, q4, q5, q6⟩
      obtain ⟨t, ht, -⟩ := State.frames_cons hr
      show ({ U with heap := s₂.heap, slotsUsed := s₂.slotsUsed } : State) = { U.setFrames U.frames with heap := s₂.heap, slotsUsed := s₂.slotsUsed }
      rw [State.setFrames_self ht]
    subst hg
    refine Or.inr ⟨q, ⟨(({ U with heap := s₂.heap, slotsUsed := s₂.slotsUsed } : State).setVm s₂.vm), Ls ++ L, c0 + mc, s0 + ms⟩,
      ⟨X.admits, X.cas, X.clock, X.frames, X.room, X.hears, X.method, X.code, (X.here.setHeapUsed s₂.heap s₂.slotsUsed).setVm hW'.alike, X.tail, State.WarmedH.trans X.warmed hW', X.limits, X.bytes, X.same.trans (hsame.setVm s.vm)⟩,
      ⟨g, mk, s₂, L, E, ce, rfl, rfl, hx, hce, hcv, hcl, rfl, hL, rfl, rfl⟩, ?_⟩
    show Steps p.tables e below _ (((({ U with heap := s₂.heap, slotsUsed := s₂.slotsUsed } : State).setVm s₂.vm).setTop g).pushFrame (.throwing q))
    rw [← hs₂]
    exact hsteps
end Payer
section Calls
variable {p : Program} {l : Launch} {e : Env} {R : Room} {s : State} {m : MethodId} {args : Array Value} {below : List Frame} {meth : Method} {c : Code} {T : State} {locs : List Loc} {cells slots : Nat}
theorem vx_callV (X : Stand p l e R s m args below meth c T locs cells slots) (hexec : p.tables.exec = Jvm.exec) {own C : String} {index : Nat} {y : MethodName} {bytes : ByteArray} {maxL : Nat} {ret : Option FieldType}
    (hown : s.vm.findClass own = some m.cls) (hlink : (Cond.methodLink own index y).before args s = true) (hinst : (Cond.instanceMethod y).before args s = true) (hsel : (Cond.selects C y y).before args s = true)
    (hcode : (Cond.code y bytes maxL ret).before args s = true) (hy : y.cls ≠ "java/lang/invoke/MethodHandle" ∧ y.cls ≠ "java/lang/invoke/VarHandle")
    {W9 : Nat} {Pre : Pt → Array Value → Prop} {Post : Pt → Array Value → Option Value → Pt → Prop} {PostX : Pt → Array Value → Addr → Pt → Prop} (hK : vx_Back l R p e below s args y 3 W9 Pre Post PostX)
    {b : Addr} {cellB : Cell} (hcell : T.heap[b]? = some cellB) (hobj : cellB.vm.isStatics = false) (hcls : s.vm.findClass C = some cellB.cls)
    {g : JFrame} (hg : g.method = m) (hsize : g.locals.size = c.maxLocals) {argsL rest : List Value} (hlen : ∀ sig, parseMethodDescriptor y.desc = some sig → argsL.length = sig.parameters.length)
    (hstack : g.stack = argsL.reverse ++ .ref b :: rest) (hW : 2 * g.monitorRoom + (rest.map fun v => v.category).sum ≤ W9) (hdg : decode c.code g.pc = .ok (.invokevirtual index, 3))
    (hpre : ∀ vm₁, s.WarmedH vm₁ → Pre ⟨T.setVm vm₁, locs, cells, slots⟩ (Value.ref b :: argsL).toArray) :
    (∃ (v : Option Value) (vm₁ : Vm) (B : Pt), s.WarmedH vm₁ ∧ Stand p l e R s m args below meth c B.U B.locs B.cells B.slots ∧ Post ⟨T.setVm vm₁, locs, cells, slots⟩ (Value.ref b :: argsL).toArray v B ∧
      ∀ target, Steps p.tables e below (B.U.setTop { g with pc := g.pc + 3, stack := v.toList ++ rest }) target → Steps p.tables e below (T.setTop g) target) ∨
    (∃ (q : Addr) (vm₁ : Vm) (B : Pt), s.WarmedH vm₁ ∧ Stand p l e R s m args below meth c B.U B.locs B.cells B.slots ∧ PostX ⟨T.setVm vm₁, locs, cells, slots⟩ (Value.ref b :: argsL).toArray q B ∧
      Steps p.tables e below (T.setTop g) ((B.U.setTop { g with stack := rest }).pushFrame (.throwing q))) := by
  obtain ⟨mk, methM, hnamed, hmethM, hstM, habM⟩ := Cond.instanceMethod_spec hinst
  obtain ⟨methM', cM, hmethM', -, -, -, -, -, -, hsigM⟩ := Cond.code_spec hnamed hcode
  cases hmethM.symm.trans hmethM'
  obtain ⟨c2, r2, m2, q1, q2, q3, q4, kP, hkP, hkPi⟩ := Cond.selects_spec hsel
  cases hcls.symm.trans q1
  cases (State.methodFound?_of_named hnamed hy).symm.trans q2
  cases hnamed.symm.trans q3
  have hselP : selectMethod e.platform s.vm cellB.cls mk = .method mk := by rw [Launch.admits_selectMethod X.admits]; exact q4
  obtain ⟨vm₁, X₁, hstep₁⟩ := X.invokevirtual hexec hown hlink hnamed hmethM hstM hkP hkPi hy (a := b) (cell := cellB) hcell
    (fun z h => by rw [h] at hobj; cases hobj) hselP hmethM habM hkP hkPi (g := g) hg (argsL := argsL) (rest := rest) (hlen _ hsigM) hstack hdg
  rcases hK m meth c ⟨T.setVm vm₁, locs, cells, slots⟩ { g with stack := rest } (.invokevirtual index) mk (Value.ref b :: argsL).toArray X₁ hg hsize hdg hW (X₁.named hnamed) (hpre vm₁ X₁.warmed) with ⟨v, B, X', hpost, hsteps⟩ | ⟨q, B, X', hpost, hsteps⟩
  · exact Or.inl ⟨v, vm₁, B, X₁.warmed, X', hpost, fun target h => hstep₁ _ fun acts => by rw [doInvoke_state]; exact hsteps.trans h⟩
  · exact Or.inr ⟨q, vm₁, B, X₁.warmed, X', hpost, hstep₁ _ fun acts => by rw [doInvoke_state]; exact hsteps⟩
theorem vx_callS (X : Stand p l e R s m args below meth c T locs cells slots) (hexec : p.tables.exec = Jvm.exec) {own : String} {index : Nat} {y : MethodName} {bytes : ByteArray} {maxL : Nat} {ret : Option FieldType}
    (hown : s.vm.findClass own = some m.cls) (hlink : (Cond.methodLink own index y).before args s = true) (hstat : (Cond.static y).before args s = true) (hinit : (Cond.initialized y.cls).before args s = true)
    (hcode : (Cond.code y bytes maxL ret).before args s = true) (hy : y.cls ≠ "java/lang/invoke/MethodHandle" ∧ y.cls ≠ "java/lang/invoke/VarHandle")
    {W9 : Nat} {Pre : Pt → Array Value → Prop} {Post : Pt → Array Value → Option Value → Pt → Prop} {PostX : Pt → Array Value → Addr → Pt → Prop} (hK : vx_Back l R p e below s args y 3 W9 Pre Post PostX)
    {g : JFrame} (hg : g.method = m) (hsize : g.locals.size = c.maxLocals) {argsL rest : List Value} (hlen : ∀ sig, parseMethodDescriptor y.desc = some sig → argsL.length = sig.parameters.length)
    (hstack : g.stack = argsL.reverse ++ rest) (hW : 2 * g.monitorRoom + (rest.map fun v => v.category).sum ≤ W9) (hdg : decode c.code g.pc = .ok (.invokestatic index, 3))
    (hpre : ∀ vm₁, s.WarmedH vm₁ → Pre ⟨T.setVm vm₁, locs, cells, slots⟩ argsL.toArray) :
    (∃ (v : Option Value) (vm₁ : Vm) (B : Pt), s.WarmedH vm₁ ∧ Stand p l e R s m args below meth c B.U B.locs B.cells B.slots ∧ Post ⟨T.setVm vm₁, locs, cells, slots⟩ argsL.toArray v B ∧
      ∀ target, Steps p.tables e below (B.U.setTop { g with pc := g.pc + 3, stack := v.toList ++ rest }) target → Steps p.tables e below (T.setTop g) target) ∨
    (∃ (q : Addr) (vm₁ : Vm) (B : Pt), s.WarmedH vm₁ ∧ Stand p l e R s m args below meth c B.U B.locs B.cells B.slots ∧ PostX ⟨T.setVm vm₁, locs, cells, slots⟩ argsL.toArray q B ∧
      Steps p.tables e below (T.setTop g) ((B.U.setTop { g with stack := rest }).pushFrame (.throwing q))) := by
  obtain ⟨mk, hnamed⟩ := Cond.code_named hcode
  obtain ⟨methM, cM, hmethM, -, -, -, -, -, -, hsigM⟩ := Cond.code_spec hnamed hcode
  have hstatic : methM.isStatic = true := Cond.static_spec hnamed hmethM hstat
  obtain ⟨kP, hkP, -⟩ := className_of_methodNamed hnamed
  have hinitP : kP.init = .initialized := Cond.initialized_spec (findClass_of_methodNamed hnamed) hkP hinit
  obtain ⟨vm₁, X₁, hstep₁⟩ := X.invokestatic hexec hown hlink hnamed hmethM hstatic hkP hinitP hy (g := g) hg (argsL := argsL) (rest := rest) (hlen _ hsigM) hstack hdg
  rcases hK m meth c ⟨T.setVm vm₁, locs, cells, slots⟩ { g with stack := rest } (.invokestatic index) mk argsL.toArray X₁ hg hsize hdg hW (X₁.named hnamed) (hpre vm₁ X₁.warmed) with ⟨v, B, X', hpost, hsteps⟩ | ⟨q, B, X', hpost, hsteps⟩
  · exact Or.inl ⟨v, vm₁, B, X₁.warmed, X', hpost, fun target h => hstep₁ _ fun acts => by rw [doInvoke_state]; exact hsteps.trans h⟩
  · exact Or.inr ⟨q, vm₁, B, X₁.warmed, X', hpost, hstep₁ _ fun acts => by rw [doInvoke_state]; exact hsteps⟩
end Calls
theorem vx_cls {s : State} {T : State} {vm₁ : Vm} {E : String} {k : ClassId} (hW : s.WarmedH vm₁) (h : (T.setVm vm₁).vm.findClass E = some k) : s.vm.findClass E = some k := by
  have h1 : vm₁.findClass E = some k := h
  rw [hW.alike.findClass] at h1
  exact h1
/-- the method's frame g, with q thrown over it -/
def vx_W (p : Program) (l : Launch) (e : Env) (R : Room) (s : State) (m : MethodId) (args : Array Value) (below : List Frame) (meth : Method) (c : Code) (H : Heap) (locs : List Loc) (cells slots : Nat) (Q : State → Prop) (g : JFrame) (q : Addr) : Prop :=
  ∀ T : State, T.heap = H → Stand p l e R s m args below meth c T locs cells slots → ∃ t, Steps p.tables e below ((T.setTop g).pushFrame (.throwing q)) t ∧ Q t
def vx_Run (p : Program) (l : Launch) (e : Env) (R : Room) (s : State) (m : MethodId) (args : Array Value) (below : List Frame) (meth : Method) (c : Code) (H : Heap) (locs : List Loc) (cells slots mc ms : Nat) (g : JFrame) (rest : List Value) (Qa : State → Outcome → State → Prop) (XC : String → State → State → Prop) (free : Addr → Prop) : Prop :=
  ∀ T : State, T.heap = H → Stand p l e R s m args below meth c T locs cells slots →
    (∃ (v : Option Value) (st₀ t T' : State) (L : List Loc), st₀.heap = H ∧ Stand p l e R s m args below meth c T' (locs ++ L) (cells + mc) (slots + ms) ∧ (∀ q ∈ L, free q.base) ∧ T'.heap = t.heap ∧ T'.vm = t.vm ∧ Qa st₀ (.returned v) t ∧
      Goes p e below T g T' { g with pc := g.pc + 3, stack := v.toList ++ rest }) ∨
    (∃ (q : Addr) (st₀ t T' : State) (L : List Loc) (E : String) (ce : Cell), st₀.heap = H ∧ Stand p l e R s m args below meth c T' (locs ++ L) (cells + mc) (slots + ms) ∧ (∀ z ∈ L, free z.base) ∧ T'.heap = t.heap ∧ T'.vm = t.vm ∧ XC E st₀ t ∧ t.heap[q]? = some ce ∧ ce.vm = .none ∧ s.vm.findClass E = some ce.cls ∧
      Steps p.tables e below (T.setTop g) ((T'.setTop { g with stack := rest }).pushFrame (.throwing q)))
def vx_X {S : Type} (px : S → Prop) (B : String → S → State → Prop) (A : Nat → Prop) : String → State → State → Prop := fun E st t => ∃ u : S, px u ∧ B E u t ∧ va_F A st t
section Runs
variable {p : Program} {l : Launch} {e : Env} {R : Room} {s : State} {m : MethodId} {args : Array Value} {below : List Frame} {meth : Method} {c : Code} {H : Heap} {locs : List Loc} {cells slots : Nat}
variable {y : MethodName} {bytes cc : ByteArray} {maxL nL mc ms n index : Nat} {ret : Option FieldType} {ws : List Cond} {rm : Room} {Pc : Array Value → State → Prop} {Qc : Array Value → State → Outcome → State → Prop} {XC : String → State → State → Prop} {free : Addr → Prop} {Ts : List Cond} {own C : String} {b : Addr} {As rest : List Value} {g : JFrame}
theorem vx_callBack (cb : CallB R s args own index y bytes maxL ret ws rm mc ms n) (hM : vx_Met l y ws rm Pc Qc XC mc ms free) (hbl : FrameBlind Pc) : vx_Back l R p e below s args y 3 8 (PreOf R mc ms Pc) (PostOf Qc mc ms free) (vx_Post XC mc ms free) := by
  obtain ⟨hrc, hrs, hfr, hlo, hws, hcw, -, hini, -⟩ := cb
  exact vx_back (bytes := bytes) (maxL := maxL) (ret := ret) hM hbl hrc hrs hfr hlo hws hcw (fun a' U hW => word_at hW (Or.inl (by first | rfl | simp [Cond.onTables, Cond.keeps, Cond.steady])) hini)
theorem vx_runV (S : CallFix p m c cc nL s args Ts own) (hM : vx_Met l y ws rm Pc Qc XC mc ms free) (cw : CallW R s args own C index y bytes maxL ret ws rm mc ms n) (hp : PreV s H C b Pc As)
    (hg : g.method = m) (hn : As.length = n) (hsize : g.locals.size = nL) (hstack : g.stack = As.reverse ++ .ref b :: rest) (hW : 2 * g.monitorRoom + (rest.map fun v => v.category).sum ≤ 8) (hdg : decode cc g.pc = .ok (.invokevirtual index, 3)) (hf : cells + mc ≤ R.cells ∧ slots + ms ≤ R.slots) :
    vx_Run p l e R s m args below meth c H locs cells slots mc ms g rest (Qc (Value.ref b :: As).toArray) XC free := by
  have hK : vx_Back l R p e below s args y 3 8 (PreOf R mc ms Pc) (PostOf Qc mc ms free) (vx_Post XC mc ms free) := vx_callBack cw.1 hM hp.1
  obtain ⟨⟨-, -, -, -, -, -, hcode, -, hy, hlen, hl⟩, hin, hse⟩ := cw
  obtain ⟨hx, hb, hml, ho, -⟩ := S
  obtain ⟨-, ⟨cellB, hcB, hoB, hclB⟩, hPc⟩ := hp
  intro T hT X
  rcases vx_callV X hx (C := C) (bytes := bytes) (maxL := maxL) (ret := ret) ho hl hin hse hcode hy hK (by rw [hT]; exact hcB) hoB hclB hg (hsize.trans hml.symm) (argsL := As) (rest := rest) (fun sig h => hn.trans (hlen sig h)) hstack hW (by rw [hb]; exact hdg)
    (fun vm₁ hW₁ => ⟨hf.1, hf.2, hPc (T.setVm vm₁) hT hW₁⟩) with ⟨v, vm₁, ⟨U', l2, c2, s2⟩, hW₁, X', ⟨g', mk, t, L, e1, e2, hq, h1, hL, h2, h3⟩, st⟩ | ⟨q, vm₁, ⟨U', l2, c2, s2⟩, hW₁, X', ⟨g', mk, t, L, E, ce, e1, e2, hq, hce, hcv, hcl, h1, hL, h2, h3⟩, st⟩
  · dsimp only [Pt.U, Pt.locs, Pt.cells, Pt.slots] at X' e1 e2 h1 h2 h3 st
    subst h1; subst h2; subst h3
    exact Or.inl ⟨v, (T.setVm vm₁).calling g' mk (Value.ref b :: As).toArray, t, U', L, hT, X', hL, e1, e2, hq, st⟩
  · dsimp only [Pt.U, Pt.locs, Pt.cells, Pt.slots] at X' e1 e2 h1 h2 h3 st hcl
    subst h1; subst h2; subst h3
    exact Or.inr ⟨q, (T.setVm vm₁).calling g' mk (Value.ref b :: As).toArray, t, U', L, E, ce, hT, X', hL, e1, e2, hq, hce, hcv, vx_cls hW₁ hcl, st⟩
theorem vx_runS (S : CallFix p m c cc nL s args Ts own) (hM : vx_Met l y ws rm Pc Qc XC mc ms free) (cw : CallB R s args own index y bytes maxL ret ws rm mc ms n ∧ (Cond.static y).before args s = true) (hp : PreS s H Pc As)
    (hg : g.method = m) (hn : As.length = n) (hsize : g.locals.size = nL) (hstack : g.stack = As.reverse ++ rest) (hW : 2 * g.monitorRoom + (rest.map fun v => v.category).sum ≤ 8) (hdg : decode cc g.pc = .ok (.invokestatic index, 3)) (hf : cells + mc ≤ R.cells ∧ slots + ms ≤ R.slots) :
    vx_Run p l e R s m args below meth c H locs cells slots mc ms g rest (Qc As.toArray) XC free := by
  have hK : vx_Back l R p e below s args y 3 8 (PreOf R mc ms Pc) (PostOf Qc mc ms free) (vx_Post XC mc ms free) := vx_callBack cw.1 hM hp.1
  obtain ⟨⟨-, -, -, -, -, -, hcode, hini, hy, hlen, hl⟩, hstt⟩ := cw
  obtain ⟨hx, hb, hml, ho, -⟩ := S
  intro T hT X
  rcases vx_callS X hx (bytes := bytes) (maxL := maxL) (ret := ret) ho hl hstt hini hcode hy hK hg (hsize.trans hml.symm) (argsL := As) (rest := rest) (fun sig h => hn.trans (hlen sig h)) hstack hW (by rw [hb]; exact hdg)
    (fun vm₁ hW₁ => ⟨hf.1, hf.2, hp.2 (T.setVm vm₁) hT hW₁⟩) with ⟨v, vm₁, ⟨U', l2, c2, s2⟩, hW₁, X', ⟨g', mk, t, L, e1, e2, hq, h1, hL, h2, h3⟩, st⟩ | ⟨q, vm₁, ⟨U', l2, c2, s2⟩, hW₁, X', ⟨g', mk, t, L, E, ce, e1, e2, hq, hce, hcv, hcl, h1, hL, h2, h3⟩, st⟩
  · dsimp only [Pt.U, Pt.locs, Pt.cells, Pt.slots] at X' e1 e2 h1 h2 h3 st
    subst h1; subst h2; subst h3
    exact Or.inl ⟨v, (T.setVm vm₁).calling g' mk As.toArray, t, U', L, hT, X', hL, e1, e2, hq, st⟩
  · dsimp only [Pt.U, Pt.locs, Pt.cells, Pt.slots] at X' e1 e2 h1 h2 h3 st hcl
    subst h1; subst h2; subst h3
    exact Or.inr ⟨q, (T.setVm vm₁).calling g' mk As.toArray, t, U', L, E, ce, hT, X', hL, e1, e2, hq, hce, hcv, vx_cls hW₁ hcl, st⟩
end Runs
section Rows
variable {p : Program} {l : Launch} {e : Env} {R : Room} {s : State} {m : MethodId} {args : Array Value} {below : List Frame} {meth : Method} {c : Code} {H : Heap} {locs : List Loc} {cells slots : Nat} {Q : State → Prop}
variable {mc ms : Nat} {free : Addr → Prop} {A0 A1 : Nat → Prop} {H0 : Heap} {a : Array Value} {pc : Nat} {ls : Array Slot} {st0 rest : List Value}
theorem vx_keep {st₀ t T' : State} {L : List Loc} (h0 : st₀.heap = H) (e1 : T'.heap = t.heap) (hS : va_S A0 H0 H locs) (hA : ∀ q, q < H.size → A1 q → A0 q) (hf : ∀ q, free q → A0 q) (hL : ∀ q ∈ L, free q.base) (hF : va_F A1 st₀ t) :
    H.size ≤ T'.heap.size ∧ (∀ q : Nat, q < H.size → ¬ A1 q → T'.heap[q]? = H[q]?) ∧ va_S A0 H0 T'.heap (locs ++ L) := by
  obtain ⟨hz, hk⟩ := hF
  rw [h0] at hz hk
  exact ⟨by rw [e1]; exact hz, fun q h1 h2 => by rw [e1]; exact hk q h1 h2,
    ⟨Nat.le_trans hS.1 (by rw [e1]; exact hz), fun q h1 h2 => by rw [e1, hk q (Nat.lt_of_lt_of_le h1 hS.1) (fun z => h2 (hA q (Nat.lt_of_lt_of_le h1 hS.1) z))]; exact hS.2.1 q h1 h2, fun q hq => by
      rcases List.mem_append.mp hq with h | h
      · exact hS.2.2 q h
      · exact hf _ (hL q h)⟩⟩
theorem vx_calli {S SX : Type} {post : Int32 → S → Prop} {px : SX → Prop} {B : S → State → Prop} {BX : String → SX → State → Prop} {AX : Nat → Prop} (hr : vx_Run p l e R s m args below meth c H locs cells slots mc ms (F0 m pc ls st0) rest (va_Qi post B A1 a) (vx_X px BX AX) free) (hS : va_S A0 H0 H locs) (hA : ∀ q, q < H.size → A1 q → A0 q) (hf : ∀ q, free q → A0 q) (hAX : ∀ q, q < H.size → AX q → A0 q)
    (kx : ∀ (E : String) (ce : Cell) (q9 : Addr) (u : SX) (t : State) (H1 : Heap) (locs1 : List Loc), t.heap = H1 → s.vm.Alike t.vm → px u → BX E u t → H.size ≤ H1.size → (∀ q : Nat, q < H.size → ¬ AX q → H1[q]? = H[q]?) → va_S A0 H0 H1 locs1 → H1[q9]? = some ce → ce.vm = .none → s.vm.findClass E = some ce.cls → vx_W p l e R s m args below meth c H1 locs1 (cells + mc) (slots + ms) Q (F0 m pc ls rest) q9)
    (kk : ∀ (r : Int32) (u : S) (t : State) (H1 : Heap) (locs1 : List Loc), t.heap = H1 → s.vm.Alike t.vm → post r u → B u t → H.size ≤ H1.size → (∀ q : Nat, q < H.size → ¬ A1 q → H1[q]? = H[q]?) → va_S A0 H0 H1 locs1 → W p l e R s m args below meth c H1 locs1 (cells + mc) (slots + ms) Q (F0 m (pc + 3) ls (.int r :: rest))) : W p l e R s m args below meth c H locs cells slots Q (F0 m pc ls st0) := by
  intro T hT X
  rcases hr T hT X with ⟨v, st₀, t, T', L, h0, X', hL, e1, e2, ⟨⟨r, u, hv, hp, hb⟩, hF⟩, st⟩ | ⟨q, st₀, t, T', L, E, ce, h0, X', hL, e1, e2, ⟨u, hp, hb, hF⟩, hce, hcv, hcl, st⟩
  · cases hv
    obtain ⟨k1, k2, k3⟩ := vx_keep h0 e1 hS hA hf hL hF
    obtain ⟨t2, a1, b1⟩ := kk r u t T'.heap (locs ++ L) e1.symm (by rw [← e2]; exact X'.warmed.alike) hp hb k1 k2 k3 T' rfl X'
    exact ⟨t2, st t2 a1, b1⟩
  · obtain ⟨k1, k2, k3⟩ := vx_keep h0 e1 hS hAX hf hL hF
    obtain ⟨t2, a1, b1⟩ := kx E ce q u t T'.heap (locs ++ L) e1.symm (by rw [← e2]; exact X'.warmed.alike) hp hb k1 k2 k3 (by rw [e1]; exact hce) hcv hcl T' rfl X'
    exact ⟨t2, st.trans a1, b1⟩
theorem vx_calll {S SX : Type} {post : Int64 → S → Prop} {px : SX → Prop} {B : S → State → Prop} {BX : String → SX → State → Prop} {AX : Nat → Prop} (hr : vx_Run p l e R s m args below meth c H locs cells slots mc ms (F0 m pc ls st0) rest (va_Ql post B A1 a) (vx_X px BX AX) free) (hS : va_S A0 H0 H locs) (hA : ∀ q, q < H.size → A1 q → A0 q) (hf : ∀ q, free q → A0 q) (hAX : ∀ q, q < H.size → AX q → A0 q)
    (kx : ∀ (E : String) (ce : Cell) (q9 : Addr) (u : SX) (t : State) (H1 : Heap) (locs1 : List Loc), t.heap = H1 → s.vm.Alike t.vm → px u → BX E u t → H.size ≤ H1.size → (∀ q : Nat, q < H.size → ¬ AX q → H1[q]? = H[q]?) → va_S A0 H0 H1 locs1 → H1[q9]? = some ce → ce.vm = .none → s.vm.findClass E = some ce.cls → vx_W p l e R s m args below meth c H1 locs1 (cells + mc) (slots + ms) Q (F0 m pc ls rest) q9)
    (kk : ∀ (r : Int64) (u : S) (t : State) (H1 : Heap) (locs1 : List Loc), t.heap = H1 → s.vm.Alike t.vm → post r u → B u t → H.size ≤ H1.size → (∀ q : Nat, q < H.size → ¬ A1 q → H1[q]? = H[q]?) → va_S A0 H0 H1 locs1 → W p l e R s m args below meth c H1 locs1 (cells + mc) (slots + ms) Q (F0 m (pc + 3) ls (.long r :: rest))) : W p l e R s m args below meth c H locs cells slots Q (F0 m pc ls st0) := by
  intro T hT X
  rcases hr T hT X with ⟨v, st₀, t, T', L, h0, X', hL, e1, e2, ⟨⟨r, u, hv, hp, hb⟩, hF⟩, st⟩ | ⟨q, st₀, t, T', L, E, ce, h0, X', hL, e1, e2, ⟨u, hp, hb, hF⟩, hce, hcv, hcl, st⟩
  · cases hv
    obtain ⟨k1, k2, k3⟩ := vx_keep h0 e1 hS hA hf hL hF
    obtain ⟨t2, a1, b1⟩ := kk r u t T'.heap (locs ++ L) e1.symm (by rw [← e2]; exact X'.warmed.alike) hp hb k1 k2 k3 T' rfl X'
    exact ⟨t2, st t2 a1, b1⟩
  · obtain ⟨k1, k2, k3⟩ := vx_keep h0 e1 hS hAX hf hL hF
    obtain ⟨t2, a1, b1⟩ := kx E ce q u t T'.heap (locs ++ L) e1.symm (by rw [← e2]; exact X'.warmed.alike) hp hb k1 k2 k3 (by rw [e1]; exact hce) hcv hcl T' rfl X'
    exact ⟨t2, st.trans a1, b1⟩
theorem vx_callf {S SX : Type} {post : UInt32 → S → Prop} {px : SX → Prop} {B : S → State → Prop} {BX : String → SX → State → Prop} {AX : Nat → Prop} (hr : vx_Run p l e R s m args below meth c H locs cells slots mc ms (F0 m pc ls st0) rest (va_Qf post B A1 a) (vx_X px BX AX) free) (hS : va_S A0 H0 H locs) (hA : ∀ q, q < H.size → A1 q → A0 q) (hf : ∀ q, free q → A0 q) (hAX : ∀ q, q < H.size → AX q → A0 q)
    (kx : ∀ (E : String) (ce : Cell) (q9 : Addr) (u : SX) (t : State) (H1 : Heap) (locs1 : List Loc), t.heap = H1 → s.vm.Alike t.vm → px u → BX E u t → H.size ≤ H1.size → (∀ q : Nat, q < H.size → ¬ AX q → H1[q]? = H[q]?) → va_S A0 H0 H1 locs1 → H1[q9]? = some ce → ce.vm = .none → s.vm.findClass E = some ce.cls → vx_W p l e R s m args below meth c H1 locs1 (cells + mc) (slots + ms) Q (F0 m pc ls rest) q9)
    (kk : ∀ (r : UInt32) (u : S) (t : State) (H1 : Heap) (locs1 : List Loc), t.heap = H1 → s.vm.Alike t.vm → post r u → B u t → H.size ≤ H1.size → (∀ q : Nat, q < H.size → ¬ A1 q → H1[q]? = H[q]?) → va_S A0 H0 H1 locs1 → W p l e R s m args below meth c H1 locs1 (cells + mc) (slots + ms) Q (F0 m (pc + 3) ls (.float r :: rest))) : W p l e R s m args below meth c H locs cells slots Q (F0 m pc ls st0) := by
  intro T hT X
  rcases hr T hT X with ⟨v, st₀, t, T', L, h0, X', hL, e1, e2, ⟨⟨r, u, hv, hp, hb⟩, hF⟩, st⟩ | ⟨q, st₀, t, T', L, E, ce, h0, X', hL, e1, e2, ⟨u, hp, hb, hF⟩, hce, hcv, hcl, st⟩
  · cases hv
    obtain ⟨k1, k2, k3⟩ := vx_keep h0 e1 hS hA hf hL hF
    obtain ⟨t2, a1, b1⟩ := kk r u t T'.heap (locs ++ L) e1.symm (by rw [← e2]; exact X'.warmed.alike) hp hb k1 k2 k3 T' rfl X'
    exact ⟨t2, st t2 a1, b1⟩
  · obtain ⟨k1, k2, k3⟩ := vx_keep h0 e1 hS hAX hf hL hF
    obtain ⟨t2, a1, b1⟩ := kx E ce q u t T'.heap (locs ++ L) e1.symm (by rw [← e2]; exact X'.warmed.alike) hp hb k1 k2 k3 (by rw [e1]; exact hce) hcv hcl T' rfl X'
    exact ⟨t2, st.trans a1, b1⟩
theorem vx_calld {S SX : Type} {post : UInt64 → S → Prop} {px : SX → Prop} {B : S → State → Prop} {BX : String → SX → State → Prop} {AX : Nat → Prop} (hr : vx_Run p l e R s m args below meth c H locs cells slots mc ms (F0 m pc ls st0) rest (va_Qd post B A1 a) (vx_X px BX AX) free) (hS : va_S A0 H0 H locs) (hA : ∀ q, q < H.size → A1 q → A0 q) (hf : ∀ q, free q → A0 q) (hAX : ∀ q, q < H.size → AX q → A0 q)
    (kx : ∀ (E : String) (ce : Cell) (q9 : Addr) (u : SX) (t : State) (H1 : Heap) (locs1 : List Loc), t.heap = H1 → s.vm.Alike t.vm → px u → BX E u t → H.size ≤ H1.size → (∀ q : Nat, q < H.size → ¬ AX q → H1[q]? = H[q]?) → va_S A0 H0 H1 locs1 → H1[q9]? = some ce → ce.vm = .none → s.vm.findClass E = some ce.cls → vx_W p l e R s m args below meth c H1 locs1 (cells + mc) (slots + ms) Q (F0 m pc ls rest) q9)
    (kk : ∀ (r : UInt64) (u : S) (t : State) (H1 : Heap) (locs1 : List Loc), t.heap = H1 → s.vm.Alike t.vm → post r u → B u t → H.size ≤ H1.size → (∀ q : Nat, q < H.size → ¬ A1 q → H1[q]? = H[q]?) → va_S A0 H0 H1 locs1 → W p l e R s m args below meth c H1 locs1 (cells + mc) (slots + ms) Q (F0 m (pc + 3) ls (.double r :: rest))) : W p l e R s m args below meth c H locs cells slots Q (F0 m pc ls st0) := by
  intro T hT X
  rcases hr T hT X with ⟨v, st₀, t, T', L, h0, X', hL, e1, e2, ⟨⟨r, u, hv, hp, hb⟩, hF⟩, st⟩ | ⟨q, st₀, t, T', L, E, ce, h0, X', hL, e1, e2, ⟨u, hp, hb, hF⟩, hce, hcv, hcl, st⟩
  · cases hv
    obtain ⟨k1, k2, k3⟩ := vx_keep h0 e1 hS hA hf hL hF
    obtain ⟨t2, a1, b1⟩ := kk r u t T'.heap (locs ++ L) e1.symm (by rw [← e2]; exact X'.warmed.alike) hp hb k1 k2 k3 T' rfl X'
    exact ⟨t2, st t2 a1, b1⟩
  · obtain ⟨k1, k2, k3⟩ := vx_keep h0 e1 hS hAX hf hL hF
    obtain ⟨t2, a1, b1⟩ := kx E ce q u t T'.heap (locs ++ L) e1.symm (by rw [← e2]; exact X'.warmed.alike) hp hb k1 k2 k3 (by rw [e1]; exact hce) hcv hcl T' rfl X'
    exact ⟨t2, st.trans a1, b1⟩
theorem vx_callv {S SX : Type} {post : S → Prop} {px : SX → Prop} {B : S → State → Prop} {BX : String → SX → State → Prop} {AX : Nat → Prop} (hr : vx_Run p l e R s m args below meth c H locs cells slots mc ms (F0 m pc ls st0) rest (va_Qv post B A1 a) (vx_X px BX AX) free) (hS : va_S A0 H0 H locs) (hA : ∀ q, q < H.size → A1 q → A0 q) (hf : ∀ q, free q → A0 q) (hAX : ∀ q, q < H.size → AX q → A0 q)
    (kx : ∀ (E : String) (ce : Cell) (q9 : Addr) (u : SX) (t : State) (H1 : Heap) (locs1 : List Loc), t.heap = H1 → s.vm.Alike t.vm → px u → BX E u t → H.size ≤ H1.size → (∀ q : Nat, q < H.size → ¬ AX q → H1[q]? = H[q]?) → va_S A0 H0 H1 locs1 → H1[q9]? = some ce → ce.vm = .none → s.vm.findClass E = some ce.cls → vx_W p l e R s m args below meth c H1 locs1 (cells + mc) (slots + ms) Q (F0 m pc ls rest) q9)
    (kk : ∀ (u : S) (t : State) (H1 : Heap) (locs1 : List Loc), t.heap = H1 → s.vm.Alike t.vm → post u → B u t → H.size ≤ H1.size → (∀ q : Nat, q < H.size → ¬ A1 q → H1[q]? = H[q]?) → va_S A0 H0 H1 locs1 → W p l e R s m args below meth c H1 locs1 (cells + mc) (slots + ms) Q (F0 m (pc + 3) ls (rest))) : W p l e R s m args below meth c H locs cells slots Q (F0 m pc ls st0) := by
  intro T hT X
  rcases hr T hT X with ⟨v, st₀, t, T', L, h0, X', hL, e1, e2, ⟨⟨u, hv, hp, hb⟩, hF⟩, st⟩ | ⟨q, st₀, t, T', L, E, ce, h0, X', hL, e1, e2, ⟨u, hp, hb, hF⟩, hce, hcv, hcl, st⟩
  · cases hv
    obtain ⟨k1, k2, k3⟩ := vx_keep h0 e1 hS hA hf hL hF
    obtain ⟨t2, a1, b1⟩ := kk u t T'.heap (locs ++ L) e1.symm (by rw [← e2]; exact X'.warmed.alike) hp hb k1 k2 k3 T' rfl X'
    exact ⟨t2, st t2 a1, b1⟩
  · obtain ⟨k1, k2, k3⟩ := vx_keep h0 e1 hS hAX hf hL hF
    obtain ⟨t2, a1, b1⟩ := kx E ce q u t T'.heap (locs ++ L) e1.symm (by rw [← e2]; exact X'.warmed.alike) hp hb k1 k2 k3 (by rw [e1]; exact hce) hcv hcl T' rfl X'
    exact ⟨t2, st.trans a1, b1⟩
/-- caught by the row x of this method's table; the rows ahead don't take it -/
theorem vx_catch {own name : String} {E : String} {ce : Cell} {q : Addr} (hown : s.vm.findClass own = some m.cls) (pre : List ExceptionTableEntry) (x : ExceptionTableEntry) (suf : List ExceptionTableEntry) (hsplit : c.exceptionTable.toList = pre ++ x :: suf)
    (hpass : ∀ z ∈ pre, covers z pc = false ∨ (z.catchType ≠ 0 ∧ ∃ nm : String, (Cond.classLink own z.catchType nm).before args s = true ∧ va_Nc E nm s)) (hx : covers x pc = true) (h0 : x.catchType ≠ 0)
    (hlink : (Cond.classLink own x.catchType name).before args s = true) (hcast : (Cond.castable E name).before args s = true) (hcell : H[q]? = some ce) (hv : ce.vm = .none) (hcl : s.vm.findClass E = some ce.cls)
    (kk : W p l e R s m args below meth c H locs cells slots Q (F0 m x.handlerPc ls [.ref q])) : vx_W p l e R s m args below meth c H locs cells slots Q (F0 m pc ls rest) q := by
  intro T hT X
  have hpl : e.platform.magicAccessors = ({} : Platform).magicAccessors := by rw [X.admits.platform]
  obtain ⟨c3, c4, hc3, hc4, hasg⟩ := Cond.castable_spec hcast
  cases Option.some.inj (hc3.symm.trans hcl)
  obtain ⟨c5, hc5, hcl5⟩ := Cond.classLink_spec hown hlink e.platform hpl
  cases Option.some.inj (hc4.symm.trans hc5)
  obtain ⟨vm', X', st⟩ := X.thenCaughtThrough q (g := F0 m pc ls rest) rfl (Steps.refl _) (by rw [hT]; exact hcell) (by rw [hv]; rfl) (by obtain ⟨k9, h9, -⟩ := Vm.findClass_spec hcl; exact ⟨k9, h9⟩) pre x suf hsplit
    (fun z hz => by
      rcases hpass z hz with h | ⟨hz0, nm, hl1, hn1⟩
      · exact Or.inl h
      · obtain ⟨c6, hc6, hcl6⟩ := Cond.classLink_spec hown hl1 e.platform hpl
        obtain ⟨a8, b8, h1, h2, h3⟩ := hn1
        cases Option.some.inj (h1.symm.trans hcl)
        cases Option.some.inj (h2.symm.trans hc6)
        exact Or.inr ⟨hz0, _, hcl6, h3⟩) hx (Or.inr ⟨h0, c4, hcl5, hasg⟩)
  obtain ⟨t, a1, b1⟩ := kk (T.setVm vm') hT X'
  exact ⟨t, st.trans a1, b1⟩
end Rows
section Ends
variable {p : Program} {l : Launch} {e : Env} {R : Room} {s : State} {m : MethodId} {args : Array Value} {below : List Frame} {meth : Method} {c : Code} {H : Heap} {locs : List Loc} {cells slots : Nat} {Q : State → Prop}
variable {mc ms : Nat} {free : Addr → Prop} {A0 A1 : Nat → Prop} {H0 : Heap} {a : Array Value} {ls : Array Slot} {st0 rest : List Value}
variable {Qc : Array Value → State → Outcome → State → Prop} {XC : String → State → State → Prop}
/-- what a body that may throw owes at its end -/
def vx_MQ (below : List Frame) (Qc : Array Value → State → Outcome → State → Prop) (XC : String → State → State → Prop) (a : Array Value) (s : State) (mc ms : Nat) (free : Addr → Prop) : State → Prop := fun t =>
  ∃ o, t.status = .running ∧ Ended t below o ∧ vx_Q Qc XC mc ms free a s o t
theorem vx_ret {g : JFrame} {mc ms : Nat} (k : W p l e R s m args below meth c H locs cells slots (MQ below Qc args s mc ms free) g) : W p l e R s m args below meth c H locs cells slots (vx_MQ below Qc XC args s mc ms free) g := by
  intro T hT X
  obtain ⟨t, a1, o, b1, b2, b3, b4⟩ := k T hT X
  exact ⟨t, a1, o, b1, b2, Or.inl ⟨b3, b4⟩⟩
/-- not caught here: it goes on to the caller -/
theorem vx_widen {g : JFrame} {q : Addr} {k n : Nat} (h1 : cells ≤ k) (h2 : slots ≤ n) (kk : vx_W p l e R s m args below meth c H locs k n Q g q) : vx_W p l e R s m args below meth c H locs cells slots Q g q := fun T hT X => kk T hT (stand_widen X h1 h2)
theorem vx_out {pc : Nat} {E : String} {ce : Cell} {q : Addr} {mc ms : Nat} (hout : ∀ x ∈ c.exceptionTable.toList, covers x pc = false) (hlocks : meth.locks = false) (hcell : H[q]? = some ce) (hv : ce.vm = .none) (hcl : s.vm.findClass E = some ce.cls)
    (hx : ∀ t : State, t.heap = H → s.vm.Alike t.vm → XC E s t) (hf : ∀ z ∈ locs, free z.base) (hc : cells ≤ mc) (hs : slots ≤ ms) :
    vx_W p l e R s m args below meth c H locs cells slots (vx_MQ below Qc XC args s mc ms free) (F0 m pc ls rest) q := by
  intro T hT X
  obtain ⟨st1, hrun, hend, hW, hsm⟩ := X.leaveThrown q (g := F0 m pc ls rest) rfl rfl rfl hout hlocks
  have hcell9 : (T.setFrames (.throwing q :: below)).heap[q]? = some ce := by
    show T.heap[q]? = some ce
    rw [hT]; exact hcell
  exact ⟨_, st1, .threw q, hrun, hend, Or.inr ⟨q, rfl, E, ce, locs, hx _ hT hW.alike, hcell9, hv, hcl, hW, hsm.mono hc hs, hf⟩⟩
theorem vx_frame {U : State} {k n : Nat} (h : s.sameButNew ({ U with vm := s.vm } : State) locs k n) : s.heap.size ≤ U.heap.size ∧ ∀ q : Nat, q < s.heap.size → (∀ z ∈ locs, z.base ≠ q) → U.heap[q]? = s.heap[q]? := by
  obtain ⟨-, h2, -, -, -, h6⟩ := h
  refine ⟨h2, fun q hq hz => ?_⟩
  obtain ⟨c9, e1, e2, e3, e4⟩ := h6 q _ (Array.getElem?_eq_getElem hq)
  have hs : c9.slots = (s.heap[q]).slots := Array.ext_getElem? fun i => e4 i fun hm => hz _ hm rfl
  have h9 : c9 = s.heap[q] := by
    rw [hs] at e2
    exact e2
  have e5 : U.heap[q]? = some c9 := e1
  rw [e5, h9, Array.getElem?_eq_getElem hq]
/-- the words of a throw but the four that speak of the heap -/
def vx_no (w : Cond) : Bool := decide (w ≠ .isRef (.static Bundle.tN "UNASSIGNED_STACK" Bundle.steD)) && decide (w ≠ .isRef (.static Bundle.tN "SUPPRESSED_SENTINEL" Bundle.listD)) && decide (w ≠ .laysStatic Bundle.tN "UNASSIGNED_STACK" Bundle.steD) && decide (w ≠ .laysStatic Bundle.tN "SUPPRESSED_SENTINEL" Bundle.listD)
def vx_at0 (own : String) (ic : Nat) (X : String) (names : List String) : List Cond := (Bundle.ownAtoms0 own ic X names).filter vx_no
def vx_atS (own : String) (ic : Nat) (X : String) (names : List String) : List Cond := (Bundle.ownAtoms own ic X names).filter vx_no
/-- a word that the tables alone decide, or a good one -/
def vx_ot (w : Cond) : Bool := w.onTables || goodWord w
theorem vx_ot_at {args a' : Array Value} {s U : State} {w : Cond} (hW : s.WarmedH U.vm) (hvm : s.vm = U.vm) (hg : vx_ot w = true) (h : w.before args s = true) : w.before a' U = true := by
  simp only [vx_ot, Bool.or_eq_true] at hg
  rcases hg with hg | hg
  · exact va_tabs hg hvm h
  · exact word_at hW (good_of_word hg) h
/-- a list's words: the good ones out of the method's own list, the others by premises of their own -/
theorem vx_hat {args : Array Value} {s : State} {L B : List Cond} (h1 : ∀ w ∈ L.filter goodWord, w.before args s = true) (h2 : ∀ w ∈ L.filter (fun w => !goodWord w), w ∈ B) (h3 : ∀ w ∈ B, w.before args s = true) : ∀ w ∈ L, w.before args s = true := by
  intro w hw
  by_cases g : goodWord w = true
  · exact h1 w (List.mem_filter.mpr ⟨hw, g⟩)
  · refine h3 w (h2 w (List.mem_filter.mpr ⟨hw, ?_⟩))
    show (!goodWord w) = true
    cases hgw : goodWord w
    · rfl
    · exact absurd hgw g
theorem vx_c {args : Array Value} {s : State} {w : Cond} {B : List Cond} (h : w.before args s = true) (t : ∀ w ∈ B, w.before args s = true) : ∀ w' ∈ w :: B, w'.before args s = true := fun w' h' => (List.mem_cons.mp h').elim (fun e => by rw [e]; exact h) (t w')
theorem vx_n {args : Array Value} {s : State} : ∀ w ∈ ([] : List Cond), w.before args s = true := fun _ h => nomatch h
theorem vx_own {args : Array Value} {s : State} {L : List Cond} (h1 : ∀ w ∈ L.filter vx_no, w.before args s = true)
    (hU : (Cond.isRef (.static Bundle.tN "UNASSIGNED_STACK" Bundle.steD)).before args s = true) (hN : (Cond.isRef (.static Bundle.tN "SUPPRESSED_SENTINEL" Bundle.listD)).before args s = true)
    (lU : (Cond.laysStatic Bundle.tN "UNASSIGNED_STACK" Bundle.steD).before args s = true) (lN : (Cond.laysStatic Bundle.tN "SUPPRESSED_SENTINEL" Bundle.listD).before args s = true) : ∀ w ∈ L, w.before args s = true := by
  intro w hw
  by_cases e1 : w = .isRef (.static Bundle.tN "UNASSIGNED_STACK" Bundle.steD)
  · rw [e1]; exact hU
  · by_cases e2 : w = .isRef (.static Bundle.tN "SUPPRESSED_SENTINEL" Bundle.listD)
    · rw [e2]; exact hN
    · by_cases e3 : w = .laysStatic Bundle.tN "UNASSIGNED_STACK" Bundle.steD
      · rw [e3]; exact lU
      · by_cases e4 : w = .laysStatic Bundle.tN "SUPPRESSED_SENTINEL" Bundle.listD
        · rw [e4]; exact lN
        · exact h1 w (List.mem_filter.mpr ⟨hw, by unfold vx_no; rw [decide_eq_true e1, decide_eq_true e2, decide_eq_true e3, decide_eq_true e4]; rfl⟩)
/-- where a static field lies, its class's statics cell in H -/
def vx_L (C n d : String) (A : Nat → Prop) (U : State) (H : Heap) : Prop := ∃ (c : ClassId) (k : Class) (i : Nat) (f : Field) (a : Nat) (cell : Cell), U.vm.findClass C = some c ∧ U.fieldFound? C n d = some (c, k, i, f) ∧ f.isStatic = true ∧ k.statics = some a ∧ H[a]? = some cell ∧ cell.vm.isStatics = true ∧ cell.cls = c ∧ f.slot < cell.slots.size ∧ k.staticTypes[f.slot]? = some f.type ∧ ¬ A a
theorem vx_L.moved {C n d : String} {A : Nat → Prop} {u U : State} {H : Heap} (hvm : u.vm.Alike U.vm) (h : vx_L C n d A u H) : vx_L C n d A U H := by
  obtain ⟨c, k, i, f, a, cell, h1, h2, h3, h4, h5, h6, h7, h8, h9, h10⟩ := h
  obtain ⟨k', hi', he⟩ := State.fieldFound?_setVm hvm h2
  exact ⟨c, k', i, f, a, cell, by rw [hvm.findClass]; exact h1, hi', h3, by rw [he]; exact h4, h5, h6, h7, h8, by rw [he]; exact h9, h10⟩
theorem vx_L.kept {C n d : String} {A : Nat → Prop} {U : State} {H H1 : Heap} (h : vx_L C n d A U H) (hq : ∀ a : Nat, a < H.size → ¬ A a → H1[a]? = H[a]?) : vx_L C n d A U H1 := by
  obtain ⟨c, k, i, f, a, cell, h1, h2, h3, h4, h5, h6, h7, h8, h9, h10⟩ := h
  exact ⟨c, k, i, f, a, cell, h1, h2, h3, h4, by rw [hq a (Array.getElem?_eq_some_iff.mp h5).1 h10]; exact h5, h6, h7, h8, h9, h10⟩
theorem vx_L.narrow {C n d : String} {A B : Nat → Prop} {U : State} {H : Heap} (h : vx_L C n d A U H) (hAB : ∀ q, B q → A q) : vx_L C n d B U H := by
  obtain ⟨c, k, i, f, a, cell, h1, h2, h3, h4, h5, h6, h7, h8, h9, h10⟩ := h
  exact ⟨c, k, i, f, a, cell, h1, h2, h3, h4, h5, h6, h7, h8, h9, fun z => h10 (hAB _ z)⟩
theorem vx_L.word {C n d : String} {A : Nat → Prop} {s : State} {args : Array Value} (h : vx_L C n d A s s.heap) : (Cond.laysStatic C n d).before args s = true := by
  obtain ⟨c, k, i, f, a, cell, h1, h2, h3, h4, h5, h6, h7, h8, h9, -⟩ := h
  show (Cond.laysStatic C n d).holds args s none s [] = true
  exact Cond.laysStatic_of h1 h2 h3 h4 h5 h6 h7 h8 h9
/-- .. and what it holds: null or some reference -/
def vx_Zq (C n d : String) (A : Nat → Prop) (U : State) (H : Heap) : Prop := va_Zq C n d A U H ∧ vx_L C n d A U H
theorem vx_Zq.moved {C n d : String} {A : Nat → Prop} {u U : State} {H : Heap} (hvm : u.vm.Alike U.vm) (h : vx_Zq C n d A u H) : vx_Zq C n d A U H := ⟨va_Zq.moved hvm h.1, vx_L.moved hvm h.2⟩
theorem vx_Zq.kept {C n d : String} {A : Nat → Prop} {U : State} {H H1 : Heap} (h : vx_Zq C n d A U H) (hq : ∀ a : Nat, a < H.size → ¬ A a → H1[a]? = H[a]?) : vx_Zq C n d A U H1 := ⟨va_Zq.kept h.1 hq, vx_L.kept h.2 hq⟩
theorem vx_Zq.narrow {C n d : String} {A B : Nat → Prop} {U : State} {H : Heap} (h : vx_Zq C n d A U H) (hAB : ∀ q, B q → A q) : vx_Zq C n d B U H := ⟨va_Zq.narrow h.1 hAB, vx_L.narrow h.2 hAB⟩
theorem vx_Zqof {args : Array Value} {s : State} {C n d : String} {A : Nat → Prop} (hl : (Cond.laysStatic C n d).before args s = true) (hini : (Cond.initialized C).before args s = true) (h : (Cond.isRef (.static C n d)).before args s = true) (hA : ∀ a : Nat, a < s.heap.size → ¬ A a) : vx_Zq C n d A s s.heap := by
  refine ⟨va_Zqof hl hini h hA, ?_⟩
  obtain ⟨c, k, i, f, a, cell, h1, h2, h3, h4, h5, h6, h7, h8, h9⟩ := Cond.laysStatic_spec hl
  exact ⟨c, k, i, f, a, cell, h1, h2, h3, h4, h5, h6, h7, h8, h9, hA a (Array.getElem?_eq_some_iff.mp h5).1⟩
theorem vx_isRef {C n d : String} {v : Value} {A : Nat → Prop} {s : State} {args : Array Value} (h : va_Z C n d v A s s.heap) (hv : v.isRef = true) : (Cond.isRef (.static C n d)).before args s = true := by
  obtain ⟨cf, kf, fi, f, a, cell, h1, h2, h3, h4, h5, h6, h7, -⟩ := h
  have he : (Term.static C n d).eval args s none [] s = some v := by
    simp [Term.eval, State.fieldNamed?, h1, h2, h4, h5, h6, h7]
  simp only [Cond.before, Cond.holds, Cond.value, he]
  cases v <;> simp_all [Value.isRef]
theorem vx_isRefq {C n d : String} {A : Nat → Prop} {s : State} {args : Array Value} (h : va_Zq C n d A s s.heap) : (Cond.isRef (.static C n d)).before args s = true := by
  rcases h with h | ⟨t, h⟩
  · exact vx_isRef h rfl
  · exact vx_isRef h rfl
/-- the same frame, seen from here: as if the method were called anew in this heap -/
theorem vx_rebase {T : State} (X : Stand p l e R s m args below meth c T locs cells slots) {R' : Room} (hf : R'.frames ≤ R.frames) (hl : R'.locals ≤ R.locals) (hc : cells + R'.cells ≤ R.cells) (hs : slots + R'.slots ≤ R.slots) :
    Stand p l e R' ((T.setVm s.vm).setFrames (.invoking m args :: below)) m args below meth c T [] 0 0 := by
  have htop : (T.setVm s.vm).topJava?.isSome := X.here.top
  have hF : ((T.setVm s.vm).setFrames (.invoking m args :: below)).frames = .invoking m args :: below := State.frames_setFrames _ (State.cur_lt_of_top htop)
  obtain ⟨g₀, hg0⟩ := Option.isSome_iff_exists.mp htop
  obtain ⟨r, hr⟩ := State.topJava?_eq_some.mp hg0
  have hl9 : e.platform.stackLimits (T.setVm s.vm).me = e.platform.stackLimits s.me := X.limits
  have hb9 : (T.setVm s.vm).me.stackBytes = s.me.stackBytes := X.bytes
  refine ⟨X.admits, X.cas, X.clock, hF, ?_, X.hears, X.method, X.code, X.here, X.tail, X.warmed, ?_, ?_, ?_⟩
  · have h := X.room
    have hU : ((T.setVm s.vm).setFrames (.invoking m args :: below)).localsInUse = s.localsInUse := by
      rw [State.localsInUse_invoking hF (meth := meth) (c := c) X.method X.code, State.localsInUse_invoking X.frames X.method X.code]
    simp only [State.hasRoom, Bool.and_eq_true, decide_eq_true_eq] at h ⊢
    obtain ⟨⟨⟨⟨h1, h2, h3, h4, h5, h6⟩, h7⟩, h8⟩, h9⟩ := h
    rw [X.frames, List.length_cons] at h2 h3
    have q1 := X.heapSize
    have q2 := X.used
    simp only [hF, hU, List.length_cons, State.stackLimits_setFrames, State.stackBytes_setFrames, hl9, hb9]
    refine ⟨⟨⟨⟨by omega, by omega, by omega, by omega, by omega, h6⟩, ?_⟩, ?_⟩, X.book⟩
    · show T.heap.size + R'.cells ≤ e.platform.maxCells
      omega
    · show T.slotsUsed + R'.slots ≤ e.platform.maxSlots
      omega
  · rw [State.stackLimits_setFrames]; rfl
  · rw [State.stackBytes_setFrames]; rfl
  · refine ⟨?_, Nat.le_refl _, Nat.le_refl _, ?_, ?_, fun a c9 h9 => ⟨c9, h9, rfl, rfl, fun _ _ => rfl⟩⟩
    · obtain ⟨t, ht, -⟩ := State.frames_cons hr
      show T.setVm s.vm = { ((T.setVm s.vm).setFrames (.invoking m args :: below)).setFrames (T.setVm s.vm).frames with heap := T.heap, slotsUsed := T.slotsUsed }
      rw [State.setFrames_setFrames, State.setFrames_self ht]
      rfl
    · show T.slotsUsed = T.slotsUsed + ((T.heap.toList.drop T.heap.size).map (·.slots.size)).sum
      rw [List.drop_eq_nil_of_le (Nat.le_of_eq Array.length_toList)]
      rfl
    · show ((T.heap.toList.drop T.heap.size).map (·.slots.size)).sum ≤ 0
      rw [List.drop_eq_nil_of_le (Nat.le_of_eq Array.length_toList)]
      exact Nat.le_refl _
/-- 'throw new E()': new; dup; invokespecial; athrow -/
theorem vx_throw0 {cc : ByteArray} {pc : Nat} (hexec : p.tables.exec = Jvm.exec) (hb : c.code = cc) (hl : l.stackTraces = false) {own cls : String} {names : List String} {ik ic mc ms : Nat} {A : Nat → Prop}
    (hown : s.vm.findClass own = some m.cls) (hcls : Bundle.fit cls = true) (hnames : ∀ n ∈ names, Bundle.fit n = true)
    (hk : (Cond.classLink own ik cls).before args s = true) (hini : (Cond.initialized cls).before args s = true) (hat : ∀ w ∈ vx_at0 own ic cls names, w.before args s = true)
    (hgood : ∀ w ∈ Cond.classLink own ik cls :: Cond.initialized cls :: vx_at0 own ic cls names, vx_ot w = true)
    (hU : vx_Zq Bundle.tN "UNASSIGNED_STACK" Bundle.steD A s s.heap) (hN : vx_Zq Bundle.tN "SUPPRESSED_SENTINEL" Bundle.listD A s s.heap) (hS : va_S A s.heap H locs) (hsize : ls.size = c.maxLocals)
    (d0 : decode cc pc = .ok (.new ik, 3)) (d3 : decode cc (pc + 3) = .ok (.dup, 1)) (d4 : decode cc (pc + 4) = .ok (.invokespecial ic, 3)) (d7 : decode cc (pc + 7) = .ok (.athrow, 1))
    (hout : ∀ x ∈ c.exceptionTable.toList, covers x (pc + 7) = false)
    (hRframes : names.length + 3 < R.frames) (hRlocals : (rest.map fun v => v.category).sum + (13 * (names.length + 1) + 42) ≤ R.locals) (hRcells : cells + 1 ≤ R.cells) (hRslots : slots + 6 ≤ R.slots) (hlocks : meth.locks = false)
    (hx : ∀ t : State, s.vm.Alike t.vm → H.size ≤ t.heap.size → (∀ q : Nat, q < H.size → t.heap[q]? = H[q]?) → XC cls s t)
    (hf : ∀ z ∈ locs, free z.base) (hc : cells + 1 ≤ mc) (hs : slots + 6 ≤ ms) :
    W p l e R s m args below meth c H locs cells slots (vx_MQ below Qc XC args s mc ms free) (F0 m pc ls rest) := by
  intro T hT X
  have htr : e.platform.stackTraces = false := (show e.platform.stackTraces = l.stackTraces by rw [X.admits.platform]).trans hl
  have Y := vx_rebase X (R' := { frames := R.frames, locals := R.locals, cells := 1, slots := 6 }) (Nat.le_refl _) (Nat.le_refl _) hRcells hRslots
  obtain ⟨s', hA⟩ : ∃ z, z = (T.setVm s.vm).setFrames (.invoking m args :: below) := ⟨_, rfl⟩
  rw [← hA] at Y
  have hvm : s'.vm = s.vm := by rw [hA]; rfl
  have hhp : s'.heap = H := by rw [hA]; exact hT
  have hW0 : s.WarmedH s'.vm := by rw [hvm]; exact State.WarmedH.refl s
  have hat' : ∀ w ∈ vx_at0 own ic cls names, w.before args s' = true := fun w hw => vx_ot_at hW0 hvm.symm (hgood w (List.mem_cons_of_mem _ (List.mem_cons_of_mem _ hw))) (hat w hw)
  have hk' : (Cond.classLink own ik cls).before args s' = true := vx_ot_at hW0 hvm.symm (hgood _ List.mem_cons_self) hk
  have hini' : (Cond.initialized cls).before args s' = true := vx_ot_at hW0 hvm.symm (hgood _ (List.mem_cons_of_mem _ List.mem_cons_self)) hini
  have hU' : vx_Zq Bundle.tN "UNASSIGNED_STACK" Bundle.steD A s' s'.heap := by rw [hhp]; exact vx_Zq.moved hW0.alike (hU.kept hS.2.1)
  have hN' : vx_Zq Bundle.tN "SUPPRESSED_SENTINEL" Bundle.listD A s' s'.heap := by rw [hhp]; exact vx_Zq.moved hW0.alike (hN.kept hS.2.1)
  have h : ∀ w ∈ Bundle.ownAtoms0 own ic cls names, w.before args s' = true := vx_own hat' (vx_isRefq hU'.1) (vx_isRefq hN'.1) hU'.2.word hN'.2.word
  have hown' : s'.vm.findClass own = some m.cls := by rw [hvm]; exact hown
  have hins : (Cond.instantiable cls 6).before args s' = true := h _ (by simp [Bundle.ownAtoms0])
  obtain ⟨vm₁, cX, kX, hfX, hkX, -, -, X₁, st1⟩ := Y.newCold hexec (own := own) (C := cls) (index := ik) (n := 6) hown' hk' hins hini'
    (g := F0 m pc ls rest) rfl (by rw [hb]; exact d0) (Nat.le_refl _) (Nat.le_refl _)
  generalize hT1 : (T.setVm vm₁).pushCell { cls := cX, slots := kX.instanceTypes.map defaultValue, vm := .none } = T1 at X₁ st1
  have hcat : (Value.ref T.heap.size).category = 1 := rfl
  have hcellA : T1.heap[T.heap.size]? = some (freshCell cX kX) := by rw [← hT1]; exact State.heap_pushCell_size _ _
  have d3' : decode c.code (pc + 3) = .ok (.dup, 1) := by rw [hb]; exact d3
  obtain ⟨U, hsteps, hrun, hend, hW, hsame, ce, hce, hO⟩ := X₁.ctorThrow0 hexec htr (own := own) (cls := cls) (names := names) (ic := ic) hown' hcls hnames h (fun x hx => nomatch hx) hfX hkX hcellA (by rw [hhp, hT]; exact Nat.le_refl _)
    (g := { method := m, pc := pc + 4, locals := ls, stack := .ref T.heap.size :: .ref T.heap.size :: rest, locked := none }) rfl hsize rfl rfl (rest := rest) rfl
    (by rw [hb]; exact d4) (by rw [hb]; exact d7) hout hRframes (by simp only [List.map_cons, List.sum_cons, hcat]; omega) hlocks
  obtain ⟨f1, f2⟩ := vx_frame hsame
  rw [hhp] at f1 f2
  have hWs : s.WarmedH U.vm := State.WarmedH.trans hW0 hW
  have hcl : s.vm.findClass cls = some ce.cls := by
    have h9 := hO.cls
    rw [hvm] at h9
    exact h9
  have hall : s.sameButNew ({ U with vm := s.vm } : State) locs mc ms := by
    subst hA
    obtain ⟨e1, e2⟩ := hsame
    rw [State.setFrames_setFrames] at e1
    have h2 : (T.setVm s.vm).sameButNew ({ U with vm := s.vm } : State) [] (0 + 1) (0 + 6) := ⟨e1, e2⟩
    have h3 := X.same.trans h2
    rw [List.append_nil] at h3
    exact h3.mono hc hs
  refine ⟨U, ?_, .threw T.heap.size, hrun, hend, Or.inr ⟨T.heap.size, rfl, cls, ce, locs, hx U hWs.alike f1 (fun q hq => f2 q hq (fun z hz => nomatch hz)), hce, hO.vm, hcl, hWs, hall, hf⟩⟩
  refine st1 _ ?_
  show Steps p.tables e below (T1.setTop { method := m, pc := pc + 3, locals := ls, stack := .ref T.heap.size :: rest, locked := none }) _
  jvm_step X₁.here [X₁.here.top, hexec, d3', Value.category]
  exact hsteps
/-- 'throw new E("text")': new; dup; ldc; invokespecial; athrow -/
theorem vx_throwS {cc : ByteArray} {pc : Nat} (hexec : p.tables.exec = Jvm.exec) (hb : c.code = cc) (hl : l.stackTraces = false) {own cls text : String} {names : List String} {ik is ic mc ms sa : Nat} {A : Nat → Prop}
    (hown : s.vm.findClass own = some m.cls) (hcls : Bundle.fit cls = true) (hnames : ∀ n ∈ names, Bundle.fit n = true)
    (hk : (Cond.classLink own ik cls).before args s = true) (hini : (Cond.initialized cls).before args s = true) (hstr : vk_R own is text sa s) (hat : ∀ w ∈ vx_atS own ic cls names, w.before args s = true)
    (hgood : ∀ w ∈ Cond.classLink own ik cls :: Cond.initialized cls :: vx_atS own ic cls names, vx_ot w = true)
    (hU : vx_Zq Bundle.tN "UNASSIGNED_STACK" Bundle.steD A s s.heap) (hN : vx_Zq Bundle.tN "SUPPRESSED_SENTINEL" Bundle.listD A s s.heap) (hS : va_S A s.heap H locs) (hsize : ls.size = c.maxLocals)
    (d0 : decode cc pc = .ok (.new ik, 3)) (d3 : decode cc (pc + 3) = .ok (.dup, 1)) (d4 : decode cc (pc + 4) = .ok (.ldc is, 2)) (d6 : decode cc (pc + 6) = .ok (.invokespecial ic, 3)) (d9 : decode cc (pc + 9) = .ok (.athrow, 1))
    (hout : ∀ x ∈ c.exceptionTable.toList, covers x (pc + 9) = false)
    (hRframes : names.length + 3 < R.frames) (hRlocals : (rest.map fun v => v.category).sum + (13 * (names.length + 1) + 43) ≤ R.locals) (hRcells : cells + 1 ≤ R.cells) (hRslots : slots + 6 ≤ R.slots) (hlocks : meth.locks = false)
    (hx : ∀ t : State, s.vm.Alike t.vm → H.size ≤ t.heap.size → (∀ q : Nat, q < H.size → t.heap[q]? = H[q]?) → XC cls s t)
    (hf : ∀ z ∈ locs, free z.base) (hc : cells + 1 ≤ mc) (hs : slots + 6 ≤ ms) :
    W p l e R s m args below meth c H locs cells slots (vx_MQ below Qc XC args s mc ms free) (F0 m pc ls rest) := by
  intro T hT X
  have htr : e.platform.stackTraces = false := (show e.platform.stackTraces = l.stackTraces by rw [X.admits.platform]).trans hl
  have Y := vx_rebase X (R' := { frames := R.frames, locals := R.locals, cells := 1, slots := 6 }) (Nat.le_refl _) (Nat.le_refl _) hRcells hRslots
  obtain ⟨s', hA⟩ : ∃ z, z = (T.setVm s.vm).setFrames (.invoking m args :: below) := ⟨_, rfl⟩
  rw [← hA] at Y
  have hvm : s'.vm = s.vm := by rw [hA]; rfl
  have hhp : s'.heap = H := by rw [hA]; exact hT
  have hW0 : s.WarmedH s'.vm := by rw [hvm]; exact State.WarmedH.refl s
  have hat' : ∀ w ∈ vx_atS own ic cls names, w.before args s' = true := fun w hw => vx_ot_at hW0 hvm.symm (hgood w (List.mem_cons_of_mem _ (List.mem_cons_of_mem _ hw))) (hat w hw)
  have hk' : (Cond.classLink own ik cls).before args s' = true := vx_ot_at hW0 hvm.symm (hgood _ List.mem_cons_self) hk
  have hini' : (Cond.initialized cls).before args s' = true := vx_ot_at hW0 hvm.symm (hgood _ (List.mem_cons_of_mem _ List.mem_cons_self)) hini
  have hU' : vx_Zq Bundle.tN "UNASSIGNED_STACK" Bundle.steD A s' s'.heap := by rw [hhp]; exact vx_Zq.moved hW0.alike (hU.kept hS.2.1)
  have hN' : vx_Zq Bundle.tN "SUPPRESSED_SENTINEL" Bundle.listD A s' s'.heap := by rw [hhp]; exact vx_Zq.moved hW0.alike (hN.kept hS.2.1)
  have h : ∀ w ∈ Bundle.ownAtoms own ic cls names, w.before args s' = true := vx_own hat' (vx_isRefq hU'.1) (vx_isRefq hN'.1) hU'.2.word hN'.2.word
  have hown' : s'.vm.findClass own = some m.cls := by rw [hvm]; exact hown
  have hins : (Cond.instantiable cls 6).before args s' = true := h _ (by simp [Bundle.ownAtoms])
  obtain ⟨vm₁, cX, kX, hfX, hkX, -, -, X₁, st1⟩ := Y.newCold hexec (own := own) (C := cls) (index := ik) (n := 6) hown' hk' hins hini'
    (g := F0 m pc ls rest) rfl (by rw [hb]; exact d0) (Nat.le_refl _) (Nat.le_refl _)
  generalize hT1 : (T.setVm vm₁).pushCell { cls := cX, slots := kX.instanceTypes.map defaultValue, vm := .none } = T1 at X₁ st1
  have hcat : (Value.ref T.heap.size).category = 1 := rfl
  have hcellA : T1.heap[T.heap.size]? = some (freshCell cX kX) := by rw [← hT1]; exact State.heap_pushCell_size _ _
  have d3' : decode c.code (pc + 3) = .ok (.dup, 1) := by rw [hb]; exact d3
  have d4' : decode c.code (pc + 4) = .ok (.ldc is, 2) := by rw [hb]; exact d4
  have hstr' : vk_R own is text sa s' := vk_R.warm hW0 hstr
  obtain ⟨U, hsteps, hrun, hend, hW, hsame, ce, hce, hO⟩ := X₁.ctorThrowS hexec htr (own := own) (cls := cls) (names := names) (ic := ic) hown' hcls hnames h (fun x hx => nomatch hx) hfX hkX hcellA (by rw [hhp, hT]; exact Nat.le_refl _) (msg := .ref sa) rfl
    (g := { method := m, pc := pc + 6, locals := ls, stack := .ref sa :: .ref T.heap.size :: .ref T.heap.size :: rest, locked := none }) rfl hsize rfl rfl (rest := rest) rfl
    (by rw [hb]; exact d6) (by rw [hb]; exact d9) hout hRframes (by simp only [List.map_cons, List.sum_cons, hcat]; omega) hlocks
  obtain ⟨f1, f2⟩ := vx_frame hsame
  rw [hhp] at f1 f2
  have hWs : s.WarmedH U.vm := State.WarmedH.trans hW0 hW
  have hcl : s.vm.findClass cls = some ce.cls := by
    have h9 := hO.cls
    rw [hvm] at h9
    exact h9
  have hall : s.sameButNew ({ U with vm := s.vm } : State) locs mc ms := by
    subst hA
    obtain ⟨e1, e2⟩ := hsame
    rw [State.setFrames_setFrames] at e1
    have h2 : (T.setVm s.vm).sameButNew ({ U with vm := s.vm } : State) [] (0 + 1) (0 + 6) := ⟨e1, e2⟩
    have h3 := X.same.trans h2
    rw [List.append_nil] at h3
    exact h3.mono hc hs
  refine ⟨U, ?_, .threw T.heap.size, hrun, hend, Or.inr ⟨T.heap.size, rfl, cls, ce, locs, hx U hWs.alike f1 (fun q hq => f2 q hq (fun z hz => nomatch hz)), hce, hO.vm, hcl, hWs, hall, hf⟩⟩
  refine st1 _ ?_
  show Steps p.tables e below (T1.setTop { method := m, pc := pc + 3, locals := ls, stack := .ref T.heap.size :: rest, locked := none }) _
  jvm_step X₁.here [X₁.here.top, hexec, d3', Value.category]
  exact X₁.ldcString hexec (own := own) (text := text) (index := is) (a := sa) hown' hstr'.1 hstr'.2
    (g := { method := m, pc := pc + 4, locals := ls, stack := .ref T.heap.size :: .ref T.heap.size :: rest, locked := none }) rfl d4' _ hsteps
/-- 'throw new E("text")', the text by a wide index -/
theorem vx_throwSW {cc : ByteArray} {pc : Nat} (hexec : p.tables.exec = Jvm.exec) (hb : c.code = cc) (hl : l.stackTraces = false) {own cls text : String} {names : List String} {ik is ic mc ms sa : Nat} {A : Nat → Prop}
    (hown : s.vm.findClass own = some m.cls) (hcls : Bundle.fit cls = true) (hnames : ∀ n ∈ names, Bundle.fit n = true)
    (hk : (Cond.classLink own ik cls).before args s = true) (hini : (Cond.initialized cls).before args s = true) (hstr : vk_R own is text sa s) (hat : ∀ w ∈ vx_atS own ic cls names, w.before args s = true)
    (hgood : ∀ w ∈ Cond.classLink own ik cls :: Cond.initialized cls :: vx_atS own ic cls names, vx_ot w = true)
    (hU : vx_Zq Bundle.tN "UNASSIGNED_STACK" Bundle.steD A s s.heap) (hN : vx_Zq Bundle.tN "SUPPRESSED_SENTINEL" Bundle.listD A s s.heap) (hS : va_S A s.heap H locs) (hsize : ls.size = c.maxLocals)
    (d0 : decode cc pc = .ok (.new ik, 3)) (d3 : decode cc (pc + 3) = .ok (.dup, 1)) (d4 : decode cc (pc + 4) = .ok (.ldc_w is, 3)) (d7 : decode cc (pc + 7) = .ok (.invokespecial ic, 3)) (d10 : decode cc (pc + 10) = .ok (.athrow, 1))
    (hout : ∀ x ∈ c.exceptionTable.toList, covers x (pc + 10) = false)
    (hRframes : names.length + 3 < R.frames) (hRlocals : (rest.map fun v => v.category).sum + (13 * (names.length + 1) + 43) ≤ R.locals) (hRcells : cells + 1 ≤ R.cells) (hRslots : slots + 6 ≤ R.slots) (hlocks : meth.locks = false)
    (hx : ∀ t : State, s.vm.Alike t.vm → H.size ≤ t.heap.size → (∀ q : Nat, q < H.size → t.heap[q]? = H[q]?) → XC cls s t)
    (hf : ∀ z ∈ locs, free z.base) (hc : cells + 1 ≤ mc) (hs : slots + 6 ≤ ms) :
    W p l e R s m args below meth c H locs cells slots (vx_MQ below Qc XC args s mc ms free) (F0 m pc ls rest) := by
  intro T hT X
  have htr : e.platform.stackTraces = false := (show e.platform.stackTraces = l.stackTraces by rw [X.admits.platform]).trans hl
  have Y := vx_rebase X (R' := { frames := R.frames, locals := R.locals, cells := 1, slots := 6 }) (Nat.le_refl _) (Nat.le_refl _) hRcells hRslots
  obtain ⟨s', hA⟩ : ∃ z, z = (T.setVm s.vm).setFrames (.invoking m args :: below) := ⟨_, rfl⟩
  rw [← hA] at Y
  have hvm : s'.vm = s.vm := by rw [hA]; rfl
  have hhp : s'.heap = H := by rw [hA]; exact hT
  have hW0 : s.WarmedH s'.vm := by rw [hvm]; exact State.WarmedH.refl s
  have hat' : ∀ w ∈ vx_atS own ic cls names, w.before args s' = true := fun w hw => vx_ot_at hW0 hvm.symm (hgood w (List.mem_cons_of_mem _ (List.mem_cons_of_mem _ hw))) (hat w hw)
  have hk' : (Cond.classLink own ik cls).before args s' = true := vx_ot_at hW0 hvm.symm (hgood _ List.mem_cons_self) hk
  have hini' : (Cond.initialized cls).before args s' = true := vx_ot_at hW0 hvm.symm (hgood _ (List.mem_cons_of_mem _ List.mem_cons_self)) hini
  have hU' : vx_Zq Bundle.tN "UNASSIGNED_STACK" Bundle.steD A s' s'.heap := by rw [hhp]; exact vx_Zq.moved hW0.alike (hU.kept hS.2.1)
  have hN' : vx_Zq Bundle.tN "SUPPRESSED_SENTINEL" Bundle.listD A s' s'.heap := by rw [hhp]; exact vx_Zq.moved hW0.alike (hN.kept hS.2.1)
  have h : ∀ w ∈ Bundle.ownAtoms own ic cls names, w.before args s' = true := vx_own hat' (vx_isRefq hU'.1) (vx_isRefq hN'.1) hU'.2.word hN'.2.word
  have hown' : s'.vm.findClass own = some m.cls := by rw [hvm]; exact hown
  have hins : (Cond.instantiable cls 6).before args s' = true := h _ (by simp [Bundle.ownAtoms])
  obtain ⟨vm₁, cX, kX, hfX, hkX, -, -, X₁, st1⟩ := Y.newCold hexec (own := own) (C := cls) (index := ik) (n := 6) hown' hk' hins hini'
    (g := F0 m pc ls rest) rfl (by rw [hb]; exact d0) (Nat.le_refl _) (Nat.le_refl _)
  generalize hT1 : (T.setVm vm₁).pushCell { cls := cX, slots := kX.instanceTypes.map defaultValue, vm := .none } = T1 at X₁ st1
  have hcat : (Value.ref T.heap.size).category = 1 := rfl
  have hcellA : T1.heap[T.heap.size]? = some (freshCell cX kX) := by rw [← hT1]; exact State.heap_pushCell_size _ _
  have d3' : decode c.code (pc + 3) = .ok (.dup, 1) := by rw [hb]; exact d3
  have d4' : decode c.code (pc + 4) = .ok (.ldc_w is, 3) := by rw [hb]; exact d4
  have hstr' : vk_R own is text sa s' := vk_R.warm hW0 hstr
  obtain ⟨U, hsteps, hrun, hend, hW, hsame, ce, hce, hO⟩ := X₁.ctorThrowS hexec htr (own := own) (cls := cls) (names := names) (ic := ic) hown' hcls hnames h (fun x hx => nomatch hx) hfX hkX hcellA (by rw [hhp, hT]; exact Nat.le_refl _) (msg := .ref sa) rfl
    (g := { method := m, pc := pc + 7, locals := ls, stack := .ref sa :: .ref T.heap.size :: .ref T.heap.size :: rest, locked := none }) rfl hsize rfl rfl (rest := rest) rfl
    (by rw [hb]; exact d7) (by rw [hb]; exact d10) hout hRframes (by simp only [List.map_cons, List.sum_cons, hcat]; omega) hlocks
  obtain ⟨f1, f2⟩ := vx_frame hsame
  rw [hhp] at f1 f2
  have hWs : s.WarmedH U.vm := State.WarmedH.trans hW0 hW
  have hcl : s.vm.findClass cls = some ce.cls := by
    have h9 := hO.cls
    rw [hvm] at h9
    exact h9
  have hall : s.sameButNew ({ U with vm := s.vm } : State) locs mc ms := by
    subst hA
    obtain ⟨e1, e2⟩ := hsame
    rw [State.setFrames_setFrames] at e1
    have h2 : (T.setVm s.vm).sameButNew ({ U with vm := s.vm } : State) [] (0 + 1) (0 + 6) := ⟨e1, e2⟩
    have h3 := X.same.trans h2
    rw [List.append_nil] at h3
    exact h3.mono hc hs
  refine ⟨U, ?_, .threw T.heap.size, hrun, hend, Or.inr ⟨T.heap.size, rfl, cls, ce, locs, hx U hWs.alike f1 (fun q hq => f2 q hq (fun z hz => nomatch hz)), hce, hO.vm, hcl, hWs, hall, hf⟩⟩
  refine st1 _ ?_
  show Steps p.tables e below (T1.setTop { method := m, pc := pc + 3, locals := ls, stack := .ref T.heap.size :: rest, locked := none }) _
  jvm_step X₁.here [X₁.here.top, hexec, d3', Value.category]
  exact X₁.ldcStringW hexec (own := own) (text := text) (index := is) (a := sa) hown' hstr'.1 hstr'.2
    (g := { method := m, pc := pc + 4, locals := ls, stack := .ref T.heap.size :: .ref T.heap.size :: rest, locked := none }) rfl d4' _ hsteps
end Ends
section Bodies
variable {l : Launch}
theorem vx_ofW {y : MethodName} {ws ws' : List Cond} {rm : Room} {Pc : Array Value → State → Prop} {Qc : Array Value → State → Outcome → State → Prop} {XC : String → State → State → Prop} {mc ms : Nat} {free : Addr → Prop} {cc : ByteArray} {maxL : Nat} {ret : Option FieldType}
    (hy : plainName y.cls = true) (hw : ws = Cond.code y cc maxL ret :: ws')
    (body : ∀ p e s m args below meth c s₁, BodyLoose p l y (headSpec ws rm) cc maxL ret e s m args below meth c s₁ → c.maxLocals = maxL → (∀ x ∈ c.exceptionTable.toList, False) → Pc args s →
      W p l e (headSpec ws rm).room s m args below meth c s.heap [] 0 0 (vx_MQ below Qc XC args s mc ms free) (entryFrame m args maxL)) : vx_Met l y ws rm Pc Qc XC mc ms free := by
  refine MetFree.of_bodyS (code := cc) (maxLocals := maxL) (ret := ret) hy ?_ ?_
  · intro args s m h hn
    obtain ⟨meth, c, h1, h2, h3, h4, h5, h6, -, -⟩ := Cond.code_spec hn (atoms_spec (ws := ws) h _ (by rw [hw]; exact List.mem_cons_self))
    exact ⟨meth, c, h1, h2, h3, h4, h5, h6⟩
  · intro p e s m args below meth c s₁ B hml hP _
    have hh0 : s₁.heap = s.heap := by rw [B.state]; rfl
    have ht : ∀ x ∈ c.exceptionTable.toList, False := by
      obtain ⟨meth9, c9, h1, h2, -, -, -, -, h7, -⟩ := Cond.code_spec B.named (atoms_spec (ws := ws) B.pre _ (by rw [hw]; exact List.mem_cons_self))
      cases Option.some.inj (h1.symm.trans B.method)
      cases Option.some.inj (h2.symm.trans (Stand.of_body B).code)
      intro x hx
      rw [Array.isEmpty_iff.mp h7] at hx
      cases hx
    obtain ⟨t, a1, o, b1, b2, b3⟩ := body p e s m args below meth c s₁ B hml ht hP s₁ hh0 (Stand.of_body B)
    exact ⟨t, o, a1, b1, b2, b3⟩
/-- the table of a body with handlers -/
theorem vx_table {p : Program} {x y : MethodName} {S : Spec} {cc bytes : ByteArray} {maxL maxL' : Nat} {ret ret' : Option FieldType} {e : Env} {s s₁ : State} {m : MethodId} {args : Array Value} {below : List Frame} {meth : Method} {c : Code} {hh : List (Nat × Nat × Nat × Nat)}
    (B : BodyLoose p l y S cc maxL ret e s m args below meth c s₁) (h : (Cond.codeWith y bytes maxL' ret' hh).before args s = true) : c.exceptionTable.toList = tableOf hh := by
  obtain ⟨m9, meth9, c9, hn9, h1, h2, -, -, h6, -⟩ := Cond.codeWith_spec h
  cases Option.some.inj (hn9.symm.trans B.named)
  cases Option.some.inj (h1.symm.trans B.method)
  cases Option.some.inj (h2.symm.trans (Stand.of_body B).code)
  rw [← h6, table_eq]
end Bodies
end VXA
/-! ===== END ===== -/
/-! ===== BEGIN a static call of a method with an exception table ===== -/
section VXS
variable {p : Program} {l : Launch} {e : Env} {R : Room} {s : State} {m : MethodId} {args : Array Value} {below : List Frame} {meth : Method} {c : Code} {T : State} {H : Heap} {locs : List Loc} {cells slots : Nat}
abbrev vx_CSW (R : Room) (s : State) (args : Array Value) (own : String) (index : Nat) (y : MethodName) (bytes : ByteArray) (maxL : Nat) (ret : Option FieldType) (hh : List (Nat × Nat × Nat × Nat)) (ws : List Cond) (rm : Room) (mc ms n : Nat) : Prop :=
  (rm.cells = mc ∧ rm.slots = ms ∧ rm.frames + 1 ≤ R.frames ∧ 8 + (maxL + 11) + rm.locals ≤ R.locals ∧ (∀ w ∈ ws, ∀ (a' : Array Value) (U : State), s.WarmedH U.vm → w.before a' U = true) ∧ Cond.codeWith y bytes maxL ret hh ∈ ws) ∧
  (Cond.codeWith y bytes maxL ret hh).before args s = true ∧ (Cond.initialized y.cls).before args s = true ∧ (y.cls ≠ "java/lang/invoke/MethodHandle" ∧ y.cls ≠ "java/lang/invoke/VarHandle") ∧
  (∀ sig, parseMethodDescriptor y.desc = some sig → n = sig.parameters.length) ∧ (Cond.methodLink own index y).before args s = true ∧ (Cond.static y).before args s = true
theorem vx_cwSW {own : String} {index maxL mc ms : Nat} {y : MethodName} {bytes : ByteArray} {ret : Option FieldType} {hh : List (Nat × Nat × Nat × Nat)} {Ts ws ws' : List Cond} {rm : Room} (n : Nat) (ht : ∀ w ∈ Ts, w.before args s = true) (hT : GoodIn Ts (va_wsS own index y ws)) (hw : ws = Cond.codeWith y bytes maxL ret hh :: ws') (hrc : rm.cells = mc) (hrs : rm.slots = ms)
    (hd : y.cls ≠ "java/lang/invoke/MethodHandle" ∧ y.cls ≠ "java/lang/invoke/VarHandle" ∧ (parseMethodDescriptor y.desc).map (fun d => d.parameters.length) = some n) (hR : rm.frames + 1 ≤ R.frames ∧ 8 + (maxL + 11) + rm.locals ≤ R.locals) :
    vx_CSW R s args own index y bytes maxL ret hh ws rm mc ms n := by
  have ok : ∀ w ∈ va_wsS own index y ws, w.before args s = true := fun w h => ht w (hT w h).1
  have hG : GoodIn Ts ws := fun w h => hT w (by unfold va_wsS; exact List.mem_append_right _ h)
  have hc : Cond.codeWith y bytes maxL ret hh ∈ ws := by rw [hw]; exact List.mem_cons_self
  refine ⟨⟨hrc, hrs, hR.1, hR.2, pay_in ht hG, hc⟩, ht _ (hG _ hc).1, ok _ (by simp [va_wsS]), ⟨hd.1, hd.2.1⟩, fun sig h => ?_, ok _ (by simp [va_wsS]), ok _ (by simp [va_wsS])⟩
  have h2 := hd.2.2
  rw [h] at h2
  exact (Option.some.inj h2).symm
theorem vx_callSW (X : Stand p l e R s m args below meth c T locs cells slots) (hexec : p.tables.exec = Jvm.exec) {own : String} {index : Nat} {y : MethodName} {bytes : ByteArray} {maxL : Nat} {ret : Option FieldType} {hh : List (Nat × Nat × Nat × Nat)}
    (hown : s.vm.findClass own = some m.cls) (hlink : (Cond.methodLink own index y).before args s = true) (hstat : (Cond.static y).before args s = true) (hinit : (Cond.initialized y.cls).before args s = true)
    (hcode : (Cond.codeWith y bytes maxL ret hh).before args s = true) (hy : y.cls ≠ "java/lang/invoke/MethodHandle" ∧ y.cls ≠ "java/lang/invoke/VarHandle")
    {W9 : Nat} {Pre : Pt → Array Value → Prop} {Post : Pt → Array Value → Option Value → Pt → Prop} (hK : Back l R p e below s args y 3 W9 Pre Post)
    {g : JFrame} (hg : g.method = m) (hsize : g.locals.size = c.maxLocals) {argsL rest : List Value} (hlen : ∀ sig, parseMethodDescriptor y.desc = some sig → argsL.length = sig.parameters.length)
    (hstack : g.stack = argsL.reverse ++ rest) (hW : 2 * g.monitorRoom + (rest.map fun v => v.category).sum ≤ W9) (hdg : decode c.code g.pc = .ok (.invokestatic index, 3))
    (hpre : ∀ vm₁, s.WarmedH vm₁ → Pre ⟨T.setVm vm₁, locs, cells, slots⟩ argsL.toArray) :
    ∃ (v : Option Value) (vm₁ : Vm) (B : Pt), s.WarmedH vm₁ ∧ Stand p l e R s m args below meth c B.U B.locs B.cells B.slots ∧ Post ⟨T.setVm vm₁, locs, cells, slots⟩ argsL.toArray v B ∧
      ∀ target, Steps p.tables e below (B.U.setTop { g with pc := g.pc + 3, stack := v.toList ++ rest }) target → Steps p.tables e below (T.setTop g) target := by
  obtain ⟨mk, methM, cM, hnamed, hmethM, -, -, -, -, -, -, hsigM⟩ := Cond.codeWith_spec hcode
  have hstatic : methM.isStatic = true := Cond.static_spec hnamed hmethM hstat
  obtain ⟨kP, hkP, -⟩ := className_of_methodNamed hnamed
  have hinitP : kP.init = .initialized := Cond.initialized_spec (findClass_of_methodNamed hnamed) hkP hinit
  obtain ⟨vm₁, X₁, hstep₁⟩ := X.invokestatic hexec hown hlink hnamed hmethM hstatic hkP hinitP hy (g := g) hg (argsL := argsL) (rest := rest) (hlen _ hsigM) hstack hdg
  obtain ⟨v, B, X', hpost, hsteps⟩ := hK m meth c ⟨T.setVm vm₁, locs, cells, slots⟩ { g with stack := rest } (.invokestatic index) mk argsL.toArray X₁ hg hsize hdg hW (X₁.named hnamed) (hpre vm₁ X₁.warmed)
  exact ⟨v, vm₁, B, X₁.warmed, X', hpost, fun target h => hstep₁ _ fun acts => by rw [doInvoke_state]; exact hsteps.trans h⟩
theorem vx_runSW {y : MethodName} {bytes cc : ByteArray} {maxL nL mc ms n index : Nat} {ret : Option FieldType} {hh : List (Nat × Nat × Nat × Nat)} {ws : List Cond} {rm : Room} {Pc : Array Value → State → Prop} {Qc : Array Value → State → Outcome → State → Prop} {free : Addr → Prop} {Ts : List Cond} {own : String} {As rest : List Value} {g : JFrame}
    (S : CallFix p m c cc nL s args Ts own) (hM : Met l y ws rm Pc Qc mc ms free) (cw : vx_CSW R s args own index y bytes maxL ret hh ws rm mc ms n) (hp : PreS s H Pc As)
    (hg : g.method = m) (hn : As.length = n) (hsize : g.locals.size = nL) (hstack : g.stack = As.reverse ++ rest) (hW : 2 * g.monitorRoom + (rest.map fun v => v.category).sum ≤ 8) (hdg : decode cc g.pc = .ok (.invokestatic index, 3)) (hf : cells + mc ≤ R.cells ∧ slots + ms ≤ R.slots) :
    va_Run p l e R s m args below meth c H locs cells slots mc ms g rest (Qc As.toArray) (free) := by
  obtain ⟨⟨hrc, hrs, hfr, hlo, hws, hcw⟩, hcode, hini, hy, hlen, hl, hstt⟩ := cw
  have hK : Back l R p e below s args y 3 8 (PreOf R mc ms Pc) (PostOf Qc mc ms free) := va_backW (hh := hh) (bytes := bytes) (maxL := maxL) (ret := ret) hM hp.1 hrc hrs hfr hlo hws hcw (fun a' U hW => word_at hW (Or.inl (by first | rfl | simp [Cond.onTables, Cond.keeps, Cond.steady])) hini)
  obtain ⟨hx, hb, hml, ho, -⟩ := S
  intro T hT X
  obtain ⟨v, vm₁, ⟨U', l2, c2, s2⟩, hW₁, X', ⟨g', mk, t, L, e1, e2, hq, h1, hL, h2, h3⟩, st⟩ := vx_callSW X hx (hh := hh) (bytes := bytes) (maxL := maxL) (ret := ret) ho hl hstt hini hcode hy hK hg (hsize.trans hml.symm) (argsL := As) (rest := rest) (fun sig h => hn.trans (hlen sig h)) hstack hW (by rw [hb]; exact hdg)
    (fun vm₁ hW₁ => ⟨hf.1, hf.2, hp.2 (T.setVm vm₁) hT hW₁⟩)
  dsimp only [Pt.U, Pt.locs, Pt.cells, Pt.slots] at X' e1 e2 h1 h2 h3 st
  subst h1; subst h2; subst h3
  exact ⟨v, (T.setVm vm₁).calling g' mk As.toArray, t, U', L, hT, X', hL, e1, e2, hq, st⟩
/-- not caught here, past rows that name other classes: it goes on to the caller -/
theorem vx_outP {p : Program} {l : Launch} {e : Env} {R : Room} {s : State} {m : MethodId} {args : Array Value} {below : List Frame} {meth : Method} {c : Code} {H : Heap} {locs : List Loc} {cells slots : Nat} {free : Addr → Prop} {ls : Array Slot} {rest : List Value} {Qc : Array Value → State → Outcome → State → Prop} {XC : String → State → State → Prop}
    {pc : Nat} {own E : String} {ce : Cell} {q : Addr} {mc ms : Nat} (hown : s.vm.findClass own = some m.cls) (hlocks : meth.locks = false)
    (hpass : ∀ z ∈ c.exceptionTable.toList, covers z pc = false ∨ (z.catchType ≠ 0 ∧ ∃ nm : String, (Cond.classLink own z.catchType nm).before args s = true ∧ va_Nc E nm s)) (hcell : H[q]? = some ce) (hv : ce.vm = .none) (hcl : s.vm.findClass E = some ce.cls)
    (hx : ∀ t : State, t.heap = H → s.vm.Alike t.vm → XC E s t) (hf : ∀ z ∈ locs, free z.base) (hc : cells ≤ mc) (hs : slots ≤ ms) :
    vx_W p l e R s m args below meth c H locs cells slots (vx_MQ below Qc XC args s mc ms free) (F0 m pc ls rest) q := by
  intro T hT X
  have hpl : e.platform.magicAccessors = ({} : Platform).magicAccessors := by rw [X.admits.platform]
  obtain ⟨vm', hW', X', st⟩ := X.outThrough hlocks q (g := F0 m pc ls rest) rfl rfl rfl (cell := ce) (by rw [hT]; exact hcell) (by rw [hv]; rfl)
    (by obtain ⟨k9, h9, -⟩ := Vm.findClass_spec hcl; exact ⟨k9, h9⟩) (fun z hz => by
      rcases hpass z hz with h | ⟨hz0, nm, hl1, hn1⟩
      · exact Or.inl h
      · obtain ⟨c6, hc6, hcl6⟩ := Cond.classLink_spec hown hl1 e.platform hpl
        obtain ⟨a8, b8, h1, h2, h3⟩ := hn1
        cases Option.some.inj (h1.symm.trans hcl)
        cases Option.some.inj (h2.symm.trans hc6)
        exact Or.inr ⟨hz0, _, hcl6, h3⟩)
  obtain ⟨g₀, hfr⟩ := X'.frames_eq
  have hcell9 : ((T.setVm vm').setFrames (.throwing q :: below)).heap[q]? = some ce := by
    show T.heap[q]? = some ce
    rw [hT]; exact hcell
  have hend : Ended ((T.setVm vm').setFrames (.throwing q :: below)) below (.threw q) := State.frames_setFrames _ (State.cur_lt_of_frames hfr)
  refine ⟨(T.setVm vm').setFrames (.throwing q :: below), ?_, .threw q, X'.here.running, hend, Or.inr ⟨q, rfl, E, ce, locs, hx _ hT (X'.ends _).1.alike, hcell9, hv, hcl, (X'.ends _).1, (X'.ends _).2.mono hc hs, hf⟩⟩
  rw [X.pushThrowing_eq]
  exact st
/-- a thing of a world lies in the heap -/
theorem vx_lt {D : va_G} {cl : List vw_C} {ws : va_W} {H1 : Heap} (h : va_P D cl ws H1) {k : Nat} {q : Nat × va_E} (hk : ws[k]? = some q) : q.1 < H1.size := (h k q hk).lt
end VXS
/-! ===== END ===== -/
/-! ===== BEGIN methods with a table of their own: called by a name, returning or throwing ===== -/
section VXH
/-! vx_backW, vx_callVX, vx_callSX, vx_callVW, vx_runVW, vx_runVX, vx_runSX, vx_ofWH follow the same proofs as their sisters above (Free/Laws.lean, Shelf42/LK1.lean); vx_outP calls Shelf42/NT130.lean (outThrough). -/
section
variable {l : Launch} {R : Room} {p : Program} {e : Env} {below : List Frame} {s : State} {sargs : Array Value} {y : MethodName} {len W9 : Nat}
theorem vx_backW {ws : List Cond} {rm : Room} {Pc : Array Value → State → Prop} {Qc : Array Value → State → Outcome → State → Prop} {XC : String → State → State → Prop} {mc ms : Nat} {free : Addr → Prop} {bytes : ByteArray} {maxL : Nat} {ret : Option FieldType} {hh : List (Nat × Nat × Nat × Nat)}
    (hM : vx_Met l y ws rm Pc Qc XC mc ms free) (hblind : FrameBlind Pc) (hrc : rm.cells = mc) (hrs : rm.slots = ms)
    (hframes : rm.frames + 1 ≤ R.frames) (hlocals : W9 + (maxL + 11) + rm.locals ≤ R.locals)
    (hws : ∀ w ∈ ws, ∀ a' U, s.WarmedH U.vm → w.before a' U = true) (hcode : Cond.codeWith y bytes maxL ret hh ∈ ws) (hinit : ∀ a' U, s.WarmedH U.vm → (Cond.initialized y.cls).before a' U = true) :
    vx_Back l R p e below s sargs y len W9 (PreOf R mc ms Pc) (PostOf Qc mc ms free) (vx_Post XC mc ms free) := by
  intro m meth c A g ig mk a X hg hsize hdg hW hn hp
  have h1 : (headSpec ws rm).pre.before a A.U = true := atoms_intro fun w hw => hws w hw _ _ X.warmed
  have h2 : (Cond.codeWith y bytes maxL ret hh).before a A.U = true := hws _ hcode _ _ X.warmed
  have h3 : (Cond.initialized y.cls).before a A.U = true := hinit _ _ X.warmed
  have h4 : A.cells + (headSpec ws rm).room.cells ≤ R.cells := by rw [show (headSpec ws rm).room.cells = mc from hrc]; exact hp.1
  have h5 : A.slots + (headSpec ws rm).room.slots ≤ R.slots := by rw [show (headSpec ws rm).room.slots = ms from hrs]; exact hp.2.1
  have hPc : Pc a (A.U.calling g mk a) := hblind _ _ _ _ hp.2.2
  obtain ⟨U, Ls, c0, s0⟩ := A
  dsimp only [Pt.U, Pt.locs, Pt.cells, Pt.slots] at h1 h2 h3 h4 h5 X hn hPc ⊢
  obtain ⟨m9, methY, cY, hn9, hmY, hcY, -, hlY, -⟩ := Cond.codeWith_spec h2
  cases Option.some.inj (hn9.symm.trans hn)
  obtain ⟨kY, hkY, -⟩ := className_of_methodNamed hn
  have hinitY : kY.init = .initialized := Cond.initialized_spec (findClass_of_methodNamed hn) hkY h3
  have h : At U g.method c below := by rw [hg]; exact X.here
  have hlocals9 : W9 + (maxL + 11) + (headSpec ws rm).room.locals ≤ R.locals := hlocals
  have happ : (headSpec ws rm).appliesLoose y e.platform (U.calling g mk a) = true :=
    Spec.appliesLoose_calling (g := g) h hdg hn hkY hinitY
      (X.room_calling (g := g) (R' := (headSpec ws rm).room) hsize hmY hcY hframes (by rw [hlY]; omega) h4 h5) h1
  obtain ⟨mid, hmid⟩ := h.above
  have hfr : (U.setTop g).frames = (.java g :: mid) ++ below := by rw [State.frames_setTop' g h.top, hmid]; rfl
  obtain ⟨o, s₂, hsteps, -, hend, hq⟩ := Steps.callFree hM p X.admits X.cas X.clock (acts := []) hfr happ hPc trivial
  have hq' : vx_Q Qc XC mc ms free a (U.calling g mk a) o s₂ := hq
  rw [State.frames_setTop' g h.top] at hend
  obtain ⟨g₀, hg0⟩ := Option.isSome_iff_exists.mp h.top
  obtain ⟨r, hr⟩ := State.topJava?_eq_some.mp hg0
  have hr' : (({ U with heap := s₂.heap, slotsUsed := s₂.slotsUsed } : State).setVm s₂.vm).frames = .java g₀ :: r := hr
  rcases hq' with ⟨hqc, L, hfe, hL⟩ | ⟨q, rfl, E, ce, L, hx, hce, hcv, hcl, hW₂, hsm, hL⟩
  · obtain ⟨⟨v, rfl⟩, hW₂, e2, q2, q3, q4, q5, q6⟩ := id hfe
    have e3 : s₂ = ({ (U.calling g mk a).setFrames s₂.frames with heap := s₂.heap, slotsUsed := s₂.slotsUsed } : State).setVm s₂.vm := by
      have : s₂ = ({ s₂ with vm := (U.calling g mk a).vm } : State).setVm s₂.vm := rfl
      rw [e2] at this
      exact this
    obtain ⟨c₂, i₂, len₂, hc₂, hd₂, hf₂⟩ := hend
    have hW' : U.WarmedH s₂.vm := hW₂
    have hcc : c₂ = c := by
      have h1 : s₂.code? g.method = U.code? g.method := by
        rw [State.code?_eq, State.code?_eq, hW'.alike.method?]
      exact Option.some.inj (hc₂.symm.trans (h1.trans h.code))
    subst hcc
    have hlen : len₂ = len := by rw [hdg] at hd₂; cases hd₂; rfl
    subst hlen
    have hs₂ : s₂ = (({ U with heap := s₂.heap, slotsUsed := s₂.slotsUsed } : State).setVm s₂.vm).setTop { g with pc := g.pc + len₂, stack := v.toList ++ g.stack } := by
      refine e3.trans ?_
      rw [hf₂, State.calling_eq h.top, State.setFrames_setFrames, State.setTop_of_frames _ hr', hr]
      rfl
    have hsame : U.sameButNew ({ U with heap := s₂.heap, slotsUsed := s₂.slotsUsed } : State) L mc ms := by
      refine ⟨?_, q2, q3, q4, q5, q6⟩
      obtain ⟨t, ht, -⟩ := State.frames_cons hr
      show ({ U with heap := s₂.heap, slotsUsed := s₂.slotsUsed } : State) = { U.setFrames U.frames with heap := s₂.heap, slotsUsed := s₂.slotsUsed }
      rw [State.setFrames_self ht]
    subst hg
    refine Or.inl ⟨v, ⟨(({ U with heap := s₂.heap, slotsUsed := s₂.slotsUsed } : State).setVm s₂.vm), Ls ++ L, c0 + mc, s0 + ms⟩,
      ⟨X.admits, X.cas, X.clock, X.frames, X.room, X.hears, X.method, X.code, (X.here.setHeapUsed s₂.heap s₂.slotsUsed).setVm hW'.alike, X.tail, State.WarmedH.trans X.warmed hW', X.limits, X.bytes, X.same.trans (hsame.setVm s.vm)⟩,
      ⟨g, mk, s₂, L, rfl, rfl, hqc, rfl, hL, rfl, rfl⟩, ?_⟩
    show Steps p.tables e below _ ((({ U with heap := s₂.heap, slotsUsed := s₂.slotsUsed } : State).setVm s₂.vm).setTop { g with pc := g.pc + len₂, stack := v.toList ++ g.stack })
    rw [← hs₂]
    exact hsteps
  · obtain ⟨e2, q2, q3, q4, q5, q6⟩ := id hsm
    have e3 : s₂ = ({ (U.calling g mk a).setFrames s₂.frames with heap := s₂.heap, slotsUsed := s₂.slotsUsed } : State).setVm s₂.vm := by
      have : s₂ = ({ s₂ with vm := (U.calling g mk a).vm } : State).setVm s₂.vm := rfl
      rw [e2] at this
      exact this
    have hf₂ : s₂.frames = .throwing q :: .java g :: U.frames.tail := hend
    have hW' : U.WarmedH s₂.vm := hW₂
    have hs₂ : s₂ = ((({ U with heap := s₂.heap, slotsUsed := s₂.slotsUsed } : State).setVm s₂.vm).setTop g).pushFrame (.throwing q) := by
      refine e3.trans ?_
      rw [hf₂, State.calling_eq h.top, State.setFrames_setFrames, State.pushFrame, State.frames_setTop _ hr', State.setTop_of_frames _ hr', State.setFrames_setFrames, hr]
      rfl
    have hsame : U.sameButNew ({ U with heap := s₂.heap, slotsUsed := s₂.slotsUsed } : State) L mc ms := by
      refine ⟨?_, q2, q3, q4, q5, q6⟩
      obtain ⟨t, ht, -⟩ := State.frames_cons hr
      show ({ U with heap := s₂.heap, slotsUsed := s₂.slotsUsed } : State) = { U.setFrames U.frames with heap := s₂.heap, slotsUsed := s₂.slotsUsed }
      rw [State.setFrames_self ht]
    subst hg
    refine Or.inr ⟨q, ⟨(({ U with heap := s₂.heap, slotsUsed := s₂.slotsUsed } : State).setVm s₂.vm), Ls ++ L, c0 + mc, s0 + ms⟩,
      ⟨X.admits, X.cas, X.clock, X.frames, X.room, X.hears, X.method, X.code, (X.here.setHeapUsed s₂.heap s₂.slotsUsed).setVm hW'.alike, X.tail, State.WarmedH.trans X.warmed hW', X.limits, X.bytes, X.same.trans (hsame.setVm s.vm)⟩,
      ⟨g, mk, s₂, L, E, ce, rfl, rfl, hx, hce, hcv, hcl, rfl, hL, rfl, rfl⟩, ?_⟩
    show Steps p.tables e below _ (((({ U with heap := s₂.heap, slotsUsed := s₂.slotsUsed } : State).setVm s₂.vm).setTop g).pushFrame (.throwing q))
    rw [← hs₂]
    exact hsteps
end
variable {p : Program} {l : Launch} {e : Env} {R : Room} {s : State} {m : MethodId} {args : Array Value} {below : List Frame} {meth : Method} {c : Code} {T : State} {H : Heap} {locs : List Loc} {cells slots : Nat}
theorem vx_callVX (X : Stand p l e R s m args below meth c T locs cells slots) (hexec : p.tables.exec = Jvm.exec) {own C : String} {index : Nat} {y : MethodName} {bytes : ByteArray} {maxL : Nat} {ret : Option FieldType} {hh : List (Nat × Nat × Nat × Nat)}
    (hown : s.vm.findClass own = some m.cls) (hlink : (Cond.methodLink own index y).before args s = true) (hinst : (Cond.instanceMethod y).before args s = true) (hsel : (Cond.selects C y y).before args s = true)
    (hcode : (Cond.codeWith y bytes maxL ret hh).before args s = true) (hy : y.cls ≠ "java/lang/invoke/MethodHandle" ∧ y.cls ≠ "java/lang/invoke/VarHandle")
    {W9 : Nat} {Pre : Pt → Array Value → Prop} {Post : Pt → Array Value → Option Value → Pt → Prop} {PostX : Pt → Array Value → Addr → Pt → Prop} (hK : vx_Back l R p e below s args y 3 W9 Pre Post PostX)
    {b : Addr} {cellB : Cell} (hcell : T.heap[b]? = some cellB) (hobj : cellB.vm.isStatics = false) (hcls : s.vm.findClass C = some cellB.cls)
    {g : JFrame} (hg : g.method = m) (hsize : g.locals.size = c.maxLocals) {argsL rest : List Value} (hlen : ∀ sig, parseMethodDescriptor y.desc = some sig → argsL.length = sig.parameters.length)
    (hstack : g.stack = argsL.reverse ++ .ref b :: rest) (hW : 2 * g.monitorRoom + (rest.map fun v => v.category).sum ≤ W9) (hdg : decode c.code g.pc = .ok (.invokevirtual index, 3))
    (hpre : ∀ vm₁, s.WarmedH vm₁ → Pre ⟨T.setVm vm₁, locs, cells, slots⟩ (Value.ref b :: argsL).toArray) :
    (∃ (v : Option Value) (vm₁ : Vm) (B : Pt), s.WarmedH vm₁ ∧ Stand p l e R s m args below meth c B.U B.locs B.cells B.slots ∧ Post ⟨T.setVm vm₁, locs, cells, slots⟩ (Value.ref b :: argsL).toArray v B ∧
      ∀ target, Steps p.tables e below (B.U.setTop { g with pc := g.pc + 3, stack := v.toList ++ rest }) target → Steps p.tables e below (T.setTop g) target) ∨
    (∃ (q : Addr) (vm₁ : Vm) (B : Pt), s.WarmedH vm₁ ∧ Stand p l e R s m args below meth c B.U B.locs B.cells B.slots ∧ PostX ⟨T.setVm vm₁, locs, cells, slots⟩ (Value.ref b :: argsL).toArray q B ∧
      Steps p.tables e below (T.setTop g) ((B.U.setTop { g with stack := rest }).pushFrame (.throwing q))) := by
  obtain ⟨mk, methM, hnamed, hmethM, hstM, habM⟩ := Cond.instanceMethod_spec hinst
  obtain ⟨m8, methM', cM, hn8, hmethM', -, -, -, -, -, -, hsigM⟩ := Cond.codeWith_spec hcode
  cases Option.some.inj (hn8.symm.trans hnamed)
  cases hmethM.symm.trans hmethM'
  obtain ⟨c2, r2, m2, q1, q2, q3, q4, kP, hkP, hkPi⟩ := Cond.selects_spec hsel
  cases hcls.symm.trans q1
  cases (State.methodFound?_of_named hnamed hy).symm.trans q2
  cases hnamed.symm.trans q3
  have hselP : selectMethod e.platform s.vm cellB.cls mk = .method mk := by rw [Launch.admits_selectMethod X.admits]; exact q4
  obtain ⟨vm₁, X₁, hstep₁⟩ := X.invokevirtual hexec hown hlink hnamed hmethM hstM hkP hkPi hy (a := b) (cell := cellB) hcell
    (fun z h => by rw [h] at hobj; cases hobj) hselP hmethM habM hkP hkPi (g := g) hg (argsL := argsL) (rest := rest) (hlen _ hsigM) hstack hdg
  rcases hK m meth c ⟨T.setVm vm₁, locs, cells, slots⟩ { g with stack := rest } (.invokevirtual index) mk (Value.ref b :: argsL).toArray X₁ hg hsize hdg hW (X₁.named hnamed) (hpre vm₁ X₁.warmed) with ⟨v, B, X', hpost, hsteps⟩ | ⟨q, B, X', hpost, hsteps⟩
  · exact Or.inl ⟨v, vm₁, B, X₁.warmed, X', hpost, fun target h => hstep₁ _ fun acts => by rw [doInvoke_state]; exact hsteps.trans h⟩
  · exact Or.inr ⟨q, vm₁, B, X₁.warmed, X', hpost, hstep₁ _ fun acts => by rw [doInvoke_state]; exact hsteps⟩
theorem vx_callSX (X : Stand p l e R s m args below meth c T locs cells slots) (hexec : p.tables.exec = Jvm.exec) {own : String} {index : Nat} {y : MethodName} {bytes : ByteArray} {maxL : Nat} {ret : Option FieldType} {hh : List (Nat × Nat × Nat × Nat)}
    (hown : s.vm.findClass own = some m.cls) (hlink : (Cond.methodLink own index y).before args s = true) (hstat : (Cond.static y).before args s = true) (hinit : (Cond.initialized y.cls).before args s = true)
    (hcode : (Cond.codeWith y bytes maxL ret hh).before args s = true) (hy : y.cls ≠ "java/lang/invoke/MethodHandle" ∧ y.cls ≠ "java/lang/invoke/VarHandle")
    {W9 : Nat} {Pre : Pt → Array Value → Prop} {Post : Pt → Array Value → Option Value → Pt → Prop} {PostX : Pt → Array Value → Addr → Pt → Prop} (hK : vx_Back l R p e below s args y 3 W9 Pre Post PostX)
    {g : JFrame} (hg : g.method = m) (hsize : g.locals.size = c.maxLocals) {argsL rest : List Value} (hlen : ∀ sig, parseMethodDescriptor y.desc = some sig → argsL.length = sig.parameters.length)
    (hstack : g.stack = argsL.reverse ++ rest) (hW : 2 * g.monitorRoom + (rest.map fun v => v.category).sum ≤ W9) (hdg : decode c.code g.pc = .ok (.invokestatic index, 3))
    (hpre : ∀ vm₁, s.WarmedH vm₁ → Pre ⟨T.setVm vm₁, locs, cells, slots⟩ argsL.toArray) :
    (∃ (v : Option Value) (vm₁ : Vm) (B : Pt), s.WarmedH vm₁ ∧ Stand p l e R s m args below meth c B.U B.locs B.cells B.slots ∧ Post ⟨T.setVm vm₁, locs, cells, slots⟩ argsL.toArray v B ∧
      ∀ target, Steps p.tables e below (B.U.setTop { g with pc := g.pc + 3, stack := v.toList ++ rest }) target → Steps p.tables e below (T.setTop g) target) ∨
    (∃ (q : Addr) (vm₁ : Vm) (B : Pt), s.WarmedH vm₁ ∧ Stand p l e R s m args below meth c B.U B.locs B.cells B.slots ∧ PostX ⟨T.setVm vm₁, locs, cells, slots⟩ argsL.toArray q B ∧
      Steps p.tables e below (T.setTop g) ((B.U.setTop { g with stack := rest }).pushFrame (.throwing q))) := by
  obtain ⟨mk, methM, cM, hnamed, hmethM, -, -, -, -, -, -, hsigM⟩ := Cond.codeWith_spec hcode
  have hstatic : methM.isStatic = true := Cond.static_spec hnamed hmethM hstat
  obtain ⟨kP, hkP, -⟩ := className_of_methodNamed hnamed
  have hinitP : kP.init = .initialized := Cond.initialized_spec (findClass_of_methodNamed hnamed) hkP hinit
  obtain ⟨vm₁, X₁, hstep₁⟩ := X.invokestatic hexec hown hlink hnamed hmethM hstatic hkP hinitP hy (g := g) hg (argsL := argsL) (rest := rest) (hlen _ hsigM) hstack hdg
  rcases hK m meth c ⟨T.setVm vm₁, locs, cells, slots⟩ { g with stack := rest } (.invokestatic index) mk argsL.toArray X₁ hg hsize hdg hW (X₁.named hnamed) (hpre vm₁ X₁.warmed) with ⟨v, B, X', hpost, hsteps⟩ | ⟨q, B, X', hpost, hsteps⟩
  · exact Or.inl ⟨v, vm₁, B, X₁.warmed, X', hpost, fun target h => hstep₁ _ fun acts => by rw [doInvoke_state]; exact hsteps.trans h⟩
  · exact Or.inr ⟨q, vm₁, B, X₁.warmed, X', hpost, hstep₁ _ fun acts => by rw [doInvoke_state]; exact hsteps⟩
theorem vx_callVW (X : Stand p l e R s m args below meth c T locs cells slots) (hexec : p.tables.exec = Jvm.exec) {own C : String} {index : Nat} {y : MethodName} {bytes : ByteArray} {maxL : Nat} {ret : Option FieldType} {hh : List (Nat × Nat × Nat × Nat)}
    (hown : s.vm.findClass own = some m.cls) (hlink : (Cond.methodLink own index y).before args s = true) (hinst : (Cond.instanceMethod y).before args s = true) (hsel : (Cond.selects C y y).before args s = true)
    (hcode : (Cond.codeWith y bytes maxL ret hh).before args s = true) (hy : y.cls ≠ "java/lang/invoke/MethodHandle" ∧ y.cls ≠ "java/lang/invoke/VarHandle")
    {W9 : Nat} {Pre : Pt → Array Value → Prop} {Post : Pt → Array Value → Option Value → Pt → Prop} (hK : Back l R p e below s args y 3 W9 Pre Post)
    {b : Addr} {cellB : Cell} (hcell : T.heap[b]? = some cellB) (hobj : cellB.vm.isStatics = false) (hcls : s.vm.findClass C = some cellB.cls)
    {g : JFrame} (hg : g.method = m) (hsize : g.locals.size = c.maxLocals) {argsL rest : List Value} (hlen : ∀ sig, parseMethodDescriptor y.desc = some sig → argsL.length = sig.parameters.length)
    (hstack : g.stack = argsL.reverse ++ .ref b :: rest) (hW : 2 * g.monitorRoom + (rest.map fun v => v.category).sum ≤ W9) (hdg : decode c.code g.pc = .ok (.invokevirtual index, 3))
    (hpre : ∀ vm₁, s.WarmedH vm₁ → Pre ⟨T.setVm vm₁, locs, cells, slots⟩ (Value.ref b :: argsL).toArray) :
    ∃ (v : Option Value) (vm₁ : Vm) (B : Pt), s.WarmedH vm₁ ∧ Stand p l e R s m args below meth c B.U B.locs B.cells B.slots ∧ Post ⟨T.setVm vm₁, locs, cells, slots⟩ (Value.ref b :: argsL).toArray v B ∧
      ∀ target, Steps p.tables e below (B.U.setTop { g with pc := g.pc + 3, stack := v.toList ++ rest }) target → Steps p.tables e below (T.setTop g) target := by
  obtain ⟨mk, methM, hnamed, hmethM, hstM, habM⟩ := Cond.instanceMethod_spec hinst
  obtain ⟨m8, methM', cM, hn8, hmethM', -, -, -, -, -, -, hsigM⟩ := Cond.codeWith_spec hcode
  cases Option.some.inj (hn8.symm.trans hnamed)
  cases hmethM.symm.trans hmethM'
  obtain ⟨c2, r2, m2, q1, q2, q3, q4, kP, hkP, hkPi⟩ := Cond.selects_spec hsel
  cases hcls.symm.trans q1
  cases (State.methodFound?_of_named hnamed hy).symm.trans q2
  cases hnamed.symm.trans q3
  have hselP : selectMethod e.platform s.vm cellB.cls mk = .method mk := by rw [Launch.admits_selectMethod X.admits]; exact q4
  obtain ⟨vm₁, X₁, hstep₁⟩ := X.invokevirtual hexec hown hlink hnamed hmethM hstM hkP hkPi hy (a := b) (cell := cellB) hcell
    (fun z h => by rw [h] at hobj; cases hobj) hselP hmethM habM hkP hkPi (g := g) hg (argsL := argsL) (rest := rest) (hlen _ hsigM) hstack hdg
  obtain ⟨v, B, X', hpost, hsteps⟩ := hK m meth c ⟨T.setVm vm₁, locs, cells, slots⟩ { g with stack := rest } (.invokevirtual index) mk (Value.ref b :: argsL).toArray X₁ hg hsize hdg hW (X₁.named hnamed) (hpre vm₁ X₁.warmed)
  exact ⟨v, vm₁, B, X₁.warmed, X', hpost, fun target h => hstep₁ _ fun acts => by rw [doInvoke_state]; exact hsteps.trans h⟩
abbrev vx_CVW (R : Room) (s : State) (args : Array Value) (own C : String) (index : Nat) (y : MethodName) (bytes : ByteArray) (maxL : Nat) (ret : Option FieldType) (hh : List (Nat × Nat × Nat × Nat)) (ws : List Cond) (rm : Room) (mc ms n : Nat) : Prop :=
  (rm.cells = mc ∧ rm.slots = ms ∧ rm.frames + 1 ≤ R.frames ∧ 8 + (maxL + 11) + rm.locals ≤ R.locals ∧ (∀ w ∈ ws, ∀ (a' : Array Value) (U : State), s.WarmedH U.vm → w.before a' U = true) ∧ Cond.codeWith y bytes maxL ret hh ∈ ws) ∧
  (Cond.codeWith y bytes maxL ret hh).before args s = true ∧ (Cond.initialized y.cls).before args s = true ∧ (y.cls ≠ "java/lang/invoke/MethodHandle" ∧ y.cls ≠ "java/lang/invoke/VarHandle") ∧
  (∀ sig, parseMethodDescriptor y.desc = some sig → n = sig.parameters.length) ∧ (Cond.methodLink own index y).before args s = true ∧ (Cond.instanceMethod y).before args s = true ∧ (Cond.selects C y y).before args s = true
theorem vx_cwVW {own C : String} {index maxL mc ms : Nat} {y : MethodName} {bytes : ByteArray} {ret : Option FieldType} {hh : List (Nat × Nat × Nat × Nat)} {Ts ws ws' : List Cond} {rm : Room} (n : Nat) (ht : ∀ w ∈ Ts, w.before args s = true) (hT : GoodIn Ts (wsV own index C y ws)) (hw : ws = Cond.codeWith y bytes maxL ret hh :: ws') (hrc : rm.cells = mc) (hrs : rm.slots = ms)
    (hd : y.cls = C ∧ y.cls ≠ "java/lang/invoke/MethodHandle" ∧ y.cls ≠ "java/lang/invoke/VarHandle" ∧ (parseMethodDescriptor y.desc).map (fun d => d.parameters.length) = some n) (hR : rm.frames + 1 ≤ R.frames ∧ 8 + (maxL + 11) + rm.locals ≤ R.locals) :
    vx_CVW R s args own C index y bytes maxL ret hh ws rm mc ms n := by
  obtain ⟨hC, hd⟩ := hd
  subst hC
  have ok : ∀ w ∈ wsV own index y.cls y ws, w.before args s = true := fun w h => ht w (hT w h).1
  have hG : GoodIn Ts ws := fun w h => hT w (by unfold wsV; exact List.mem_append_right _ h)
  have hc : Cond.codeWith y bytes maxL ret hh ∈ ws := by rw [hw]; exact List.mem_cons_self
  refine ⟨⟨hrc, hrs, hR.1, hR.2, pay_in ht hG, hc⟩, ht _ (hG _ hc).1, ok _ (by simp [wsV]), ⟨hd.1, hd.2.1⟩, fun sig h => ?_, ok _ (by simp [wsV]), ok _ (by simp [wsV]), ok _ (by simp [wsV])⟩
  have h2 := hd.2.2
  rw [h] at h2
  exact (Option.some.inj h2).symm
theorem vx_runVW {y : MethodName} {bytes cc : ByteArray} {maxL nL mc ms n index : Nat} {ret : Option FieldType} {hh : List (Nat × Nat × Nat × Nat)} {ws : List Cond} {rm : Room} {Pc : Array Value → State → Prop} {Qc : Array Value → State → Outcome → State → Prop} {free : Addr → Prop} {Ts : List Cond} {own C : String} {b : Addr} {As rest : List Value} {g : JFrame}
    (S : CallFix p m c cc nL s args Ts own) (hM : Met l y ws rm Pc Qc mc ms free) (cw : vx_CVW R s args own C index y bytes maxL ret hh ws rm mc ms n) (hp : PreV s H C b Pc As)
    (hg : g.method = m) (hn : As.length = n) (hsize : g.locals.size = nL) (hstack : g.stack = As.reverse ++ .ref b :: rest) (hW : 2 * g.monitorRoom + (rest.map fun v => v.category).sum ≤ 8) (hdg : decode cc g.pc = .ok (.invokevirtual index, 3)) (hf : cells + mc ≤ R.cells ∧ slots + ms ≤ R.slots) :
    va_Run p l e R s m args below meth c H locs cells slots mc ms g rest (Qc (Value.ref b :: As).toArray) free := by
  obtain ⟨⟨hrc, hrs, hfr, hlo, hws, hcw⟩, hcode, hini, hy, hlen, hl, hin, hse⟩ := cw
  have hK : Back l R p e below s args y 3 8 (PreOf R mc ms Pc) (PostOf Qc mc ms free) := va_backW (hh := hh) (bytes := bytes) (maxL := maxL) (ret := ret) hM hp.1 hrc hrs hfr hlo hws hcw (fun a' U hW => word_at hW (Or.inl (by first | rfl | simp [Cond.onTables, Cond.keeps, Cond.steady])) hini)
  obtain ⟨hx, hb, hml, ho, -⟩ := S
  obtain ⟨-, ⟨cellB, hcB, hoB, hclB⟩, hPc⟩ := hp
  intro T hT X
  obtain ⟨v, vm₁, ⟨U', l2, c2, s2⟩, hW₁, X', ⟨g', mk, t, L, e1, e2, hq, h1, hL, h2, h3⟩, st⟩ := vx_callVW X hx (C := C) (hh := hh) (bytes := bytes) (maxL := maxL) (ret := ret) ho hl hin hse hcode hy hK (by rw [hT]; exact hcB) hoB hclB hg (hsize.trans hml.symm) (argsL := As) (rest := rest) (fun sig h => hn.trans (hlen sig h)) hstack hW (by rw [hb]; exact hdg)
    (fun vm₁ hW₁ => ⟨hf.1, hf.2, hPc (T.setVm vm₁) hT hW₁⟩)
  dsimp only [Pt.U, Pt.locs, Pt.cells, Pt.slots] at X' e1 e2 h1 h2 h3 st
  subst h1; subst h2; subst h3
  exact ⟨v, (T.setVm vm₁).calling g' mk (Value.ref b :: As).toArray, t, U', L, hT, X', hL, e1, e2, hq, st⟩
section
variable {y : MethodName} {bytes cc : ByteArray} {maxL nL mc ms n index : Nat} {ret : Option FieldType} {ws : List Cond} {rm : Room} {Pc : Array Value → State → Prop} {Qc : Array Value → State → Outcome → State → Prop} {XC : String → State → State → Prop} {free : Addr → Prop} {Ts : List Cond} {own C : String} {b : Addr} {As rest : List Value} {g : JFrame}
theorem vx_runVX {hh : List (Nat × Nat × Nat × Nat)} (S : CallFix p m c cc nL s args Ts own) (hM : vx_Met l y ws rm Pc Qc XC mc ms free) (cw : vx_CVW R s args own C index y bytes maxL ret hh ws rm mc ms n) (hp : PreV s H C b Pc As)
    (hg : g.method = m) (hn : As.length = n) (hsize : g.locals.size = nL) (hstack : g.stack = As.reverse ++ .ref b :: rest) (hW : 2 * g.monitorRoom + (rest.map fun v => v.category).sum ≤ 8) (hdg : decode cc g.pc = .ok (.invokevirtual index, 3)) (hf : cells + mc ≤ R.cells ∧ slots + ms ≤ R.slots) :
    vx_Run p l e R s m args below meth c H locs cells slots mc ms g rest (Qc (Value.ref b :: As).toArray) XC free := by
  obtain ⟨⟨hrc, hrs, hfr, hlo, hws, hcw⟩, hcode, hini, hy, hlen, hl, hin, hse⟩ := cw
  have hK : vx_Back l R p e below s args y 3 8 (PreOf R mc ms Pc) (PostOf Qc mc ms free) (vx_Post XC mc ms free) := vx_backW (hh := hh) (bytes := bytes) (maxL := maxL) (ret := ret) hM hp.1 hrc hrs hfr hlo hws hcw (fun a' U hW => word_at hW (Or.inl (by first | rfl | simp [Cond.onTables, Cond.keeps, Cond.steady])) hini)
  obtain ⟨hx, hb, hml, ho, -⟩ := S
  obtain ⟨-, ⟨cellB, hcB, hoB, hclB⟩, hPc⟩ := hp
  intro T hT X
  rcases vx_callVX X hx (C := C) (hh := hh) (bytes := bytes) (maxL := maxL) (ret := ret) ho hl hin hse hcode hy hK (by rw [hT]; exact hcB) hoB hclB hg (hsize.trans hml.symm) (argsL := As) (rest := rest) (fun sig h => hn.trans (hlen sig h)) hstack hW (by rw [hb]; exact hdg)
    (fun vm₁ hW₁ => ⟨hf.1, hf.2, hPc (T.setVm vm₁) hT hW₁⟩) with ⟨v, vm₁, ⟨U', l2, c2, s2⟩, hW₁, X', ⟨g', mk, t, L, e1, e2, hq, h1, hL, h2, h3⟩, st⟩ | ⟨q, vm₁, ⟨U', l2, c2, s2⟩, hW₁, X', ⟨g', mk, t, L, E, ce, e1, e2, hq, hce, hcv, hcl, h1, hL, h2, h3⟩, st⟩
  · dsimp only [Pt.U, Pt.locs, Pt.cells, Pt.slots] at X' e1 e2 h1 h2 h3 st
    subst h1; subst h2; subst h3
    exact Or.inl ⟨v, (T.setVm vm₁).calling g' mk (Value.ref b :: As).toArray, t, U', L, hT, X', hL, e1, e2, hq, st⟩
  · dsimp only [Pt.U, Pt.locs, Pt.cells, Pt.slots] at X' e1 e2 h1 h2 h3 st hcl
    subst h1; subst h2; subst h3
    exact Or.inr ⟨q, (T.setVm vm₁).calling g' mk (Value.ref b :: As).toArray, t, U', L, E, ce, hT, X', hL, e1, e2, hq, hce, hcv, vx_cls hW₁ hcl, st⟩
theorem vx_runSX {hh : List (Nat × Nat × Nat × Nat)} (S : CallFix p m c cc nL s args Ts own) (hM : vx_Met l y ws rm Pc Qc XC mc ms free) (cw : vx_CSW R s args own index y bytes maxL ret hh ws rm mc ms n) (hp : PreS s H Pc As)
    (hg : g.method = m) (hn : As.length = n) (hsize : g.locals.size = nL) (hstack : g.stack = As.reverse ++ rest) (hW : 2 * g.monitorRoom + (rest.map fun v => v.category).sum ≤ 8) (hdg : decode cc g.pc = .ok (.invokestatic index, 3)) (hf : cells + mc ≤ R.cells ∧ slots + ms ≤ R.slots) :
    vx_Run p l e R s m args below meth c H locs cells slots mc ms g rest (Qc As.toArray) XC free := by
  obtain ⟨⟨hrc, hrs, hfr, hlo, hws, hcw⟩, hcode, hini, hy, hlen, hl, hstt⟩ := cw
  have hK : vx_Back l R p e below s args y 3 8 (PreOf R mc ms Pc) (PostOf Qc mc ms free) (vx_Post XC mc ms free) := vx_backW (hh := hh) (bytes := bytes) (maxL := maxL) (ret := ret) hM hp.1 hrc hrs hfr hlo hws hcw (fun a' U hW => word_at hW (Or.inl (by first | rfl | simp [Cond.onTables, Cond.keeps, Cond.steady])) hini)
  obtain ⟨hx, hb, hml, ho, -⟩ := S
  intro T hT X
  rcases vx_callSX X hx (hh := hh) (bytes := bytes) (maxL := maxL) (ret := ret) ho hl hstt hini hcode hy hK hg (hsize.trans hml.symm) (argsL := As) (rest := rest) (fun sig h => hn.trans (hlen sig h)) hstack hW (by rw [hb]; exact hdg)
    (fun vm₁ hW₁ => ⟨hf.1, hf.2, hp.2 (T.setVm vm₁) hT hW₁⟩) with ⟨v, vm₁, ⟨U', l2, c2, s2⟩, hW₁, X', ⟨g', mk, t, L, e1, e2, hq, h1, hL, h2, h3⟩, st⟩ | ⟨q, vm₁, ⟨U', l2, c2, s2⟩, hW₁, X', ⟨g', mk, t, L, E, ce, e1, e2, hq, hce, hcv, hcl, h1, hL, h2, h3⟩, st⟩
  · dsimp only [Pt.U, Pt.locs, Pt.cells, Pt.slots] at X' e1 e2 h1 h2 h3 st
    subst h1; subst h2; subst h3
    exact Or.inl ⟨v, (T.setVm vm₁).calling g' mk As.toArray, t, U', L, hT, X', hL, e1, e2, hq, st⟩
  · dsimp only [Pt.U, Pt.locs, Pt.cells, Pt.slots] at X' e1 e2 h1 h2 h3 st hcl
    subst h1; subst h2; subst h3
    exact Or.inr ⟨q, (T.setVm vm₁).calling g' mk As.toArray, t, U', L, E, ce, hT, X', hL, e1, e2, hq, hce, hcv, vx_cls hW₁ hcl, st⟩
end
end VXH
theorem vx_ofWH {l : Launch} {y : MethodName} {ws ws' : List Cond} {rm : Room} {Pc : Array Value → State → Prop} {Qc : Array Value → State → Outcome → State → Prop} {XC : String → State → State → Prop} {mc ms : Nat} {free : Addr → Prop} {cc : ByteArray} {maxL : Nat} {ret : Option FieldType} {hh : List (Nat × Nat × Nat × Nat)}
    (hy : plainName y.cls = true) (hw : ws = Cond.codeWith y cc maxL ret hh :: ws')
    (body : ∀ p e s m args below meth c s₁, BodyLoose p l y (headSpec ws rm) cc maxL ret e s m args below meth c s₁ → c.maxLocals = maxL → Pc args s →
      W p l e (headSpec ws rm).room s m args below meth c s.heap [] 0 0 (vx_MQ below Qc XC args s mc ms free) (entryFrame m args maxL)) : vx_Met l y ws rm Pc Qc XC mc ms free := by
  refine MetFree.of_bodyS (code := cc) (maxLocals := maxL) (ret := ret) hy ?_ ?_
  · intro args s m h hn
    obtain ⟨m9, meth, c, hn9, h1, h2, h3, h4, -, h5, h6, -⟩ := Cond.codeWith_spec (atoms_spec (ws := ws) h _ (by rw [hw]; exact List.mem_cons_self))
    cases hn.symm.trans hn9
    exact ⟨meth, c, h1, h2, h3, h4, h5, h6⟩
  · intro p e s m args below meth c s₁ B hml hP _
    have hh0 : s₁.heap = s.heap := by rw [B.state]; rfl
    obtain ⟨t, a1, o, b1, b2, b3⟩ := body p e s m args below meth c s₁ B hml hP s₁ hh0 (Stand.of_body B)
    exact ⟨t, o, a1, b1, b2, b3⟩
/-! ===== END ===== -/

/-! ===== BEGIN printed: names, fields, word lists, decode rows ===== -/
def RX0 : String := "TheodoliteRow$Adjustment"
def TX0 : u_T := fun k => match k with
  | 0 => ("TheodoliteRow$Adjustment", "net", "LTheodoliteRow$Net;", true)
  | 1 => ("TheodoliteRow$Adjustment", "rowOf", "[I", true)
  | 2 => ("TheodoliteRow$Adjustment", "cells", "[[J", true)
  | 3 => ("TheodoliteRow$Adjustment", "unknowns", "I", false)
  | 4 => ("TheodoliteRow$Adjustment", "datum", "I", false)
  | _ => ("TheodoliteRow$Adjustment", "treeWeight", "J", false)
def tyX0 : Nat → FieldType := fun k => match k with
  | 0 => .object "TheodoliteRow$Net"
  | 1 => .array .int
  | 2 => .array (.array .long)
  | 3 => .int
  | 4 => .int
  | _ => .long
abbrev wsX00 : List Cond := u_ws RX0 TX0 6
theorem nmX0 : ∀ a, a < 6 → ∀ b, b < 6 → a ≠ b → (TX0 a).2.1 ≠ (TX0 b).2.1 := by decide +kernel
theorem tyX0_ok : ∀ k, k < 6 → parseFieldDescriptor (TX0 k).2.2.1 = some (tyX0 k) := by decide +kernel
abbrev cX0_init : ByteArray := prog_2_method_1_code
def yX0_init : MethodName := ⟨RX0, "<init>", "(LTheodoliteRow$Net;)V"⟩
abbrev cX0_heightOf : ByteArray := prog_2_method_2_code
def yX0_heightOf : MethodName := ⟨RX0, "heightOf", "(I)J"⟩
abbrev cX0_freeHeightOf : ByteArray := prog_2_method_3_code
def yX0_freeHeightOf : MethodName := ⟨RX0, "freeHeightOf", "(I)J"⟩
abbrev cX0_treeWeightOf : ByteArray := prog_2_method_4_code
def yX0_treeWeightOf : MethodName := ⟨RX0, "treeWeightOf", "(I)J"⟩
abbrev cX0_residualOf : ByteArray := prog_2_method_5_code
def yX0_residualOf : MethodName := ⟨RX0, "residualOf", "(I)J"⟩
abbrev cX0_checkOf : ByteArray := prog_2_method_6_code
def yX0_checkOf : MethodName := ⟨RX0, "checkOf", "(I)I"⟩
abbrev cX0_scoreOf : ByteArray := prog_2_method_7_code
def yX0_scoreOf : MethodName := ⟨RX0, "scoreOf", "(I)J"⟩
abbrev cX0_worstObservation : ByteArray := prog_2_method_8_code
def yX0_worstObservation : MethodName := ⟨RX0, "worstObservation", "()I"⟩
abbrev cX0_misfitOf : ByteArray := prog_2_method_9_code
def yX0_misfitOf : MethodName := ⟨RX0, "misfitOf", "(I)J"⟩
abbrev cX0_checkAgainst : ByteArray := prog_2_method_10_code
def yX0_checkAgainst : MethodName := ⟨RX0, "checkAgainst", "(IJ)I"⟩
abbrev cX0_riseOf : ByteArray := prog_2_method_11_code
def yX0_riseOf : MethodName := ⟨RX0, "riseOf", "(I)J"⟩
abbrev cX0_solve : ByteArray := prog_2_method_12_code
def yX0_solve : MethodName := ⟨RX0, "solve", "(II)V"⟩
abbrev cX0_numberUnknowns : ByteArray := prog_2_method_13_code
def yX0_numberUnknowns : MethodName := ⟨RX0, "numberUnknowns", "()V"⟩
abbrev cX0_clearCells : ByteArray := prog_2_method_14_code
def yX0_clearCells : MethodName := ⟨RX0, "clearCells", "()V"⟩
abbrev cX0_addToCells : ByteArray := prog_2_method_15_code
def yX0_addToCells : MethodName := ⟨RX0, "addToCells", "(I)V"⟩
abbrev cX0_addToRow : ByteArray := prog_2_method_16_code
def yX0_addToRow : MethodName := ⟨RX0, "addToRow", "(IIJJ)V"⟩
abbrev cX0_eliminate : ByteArray := prog_2_method_17_code
def yX0_eliminate : MethodName := ⟨RX0, "eliminate", "()V"⟩
abbrev cX0_clearColumn : ByteArray := prog_2_method_18_code
def yX0_clearColumn : MethodName := ⟨RX0, "clearColumn", "(IIJ)V"⟩
def RX1 : String := "TheodoliteRow$Net"
def TX1 : u_T := fun k => match k with
  | 0 => ("TheodoliteRow$Net", "stations", "I", false)
  | 1 => ("TheodoliteRow$Net", "isTold", "[Z", true)
  | 2 => ("TheodoliteRow$Net", "toldHeight", "[I", true)
  | 3 => ("TheodoliteRow$Net", "lowest", "[I", true)
  | 4 => ("TheodoliteRow$Net", "observations", "I", false)
  | 5 => ("TheodoliteRow$Net", "from", "[I", true)
  | 6 => ("TheodoliteRow$Net", "to", "[I", true)
  | 7 => ("TheodoliteRow$Net", "difference", "[I", true)
  | 8 => ("TheodoliteRow$Net", "weight", "[I", true)
  | _ => ("TheodoliteRow$Net", "isWithdrawn", "[Z", true)
def tyX1 : Nat → FieldType := fun k => match k with
  | 0 => .int
  | 1 => .array .boolean
  | 2 => .array .int
  | 3 => .array .int
  | 4 => .int
  | 5 => .array .int
  | 6 => .array .int
  | 7 => .array .int
  | 8 => .array .int
  | _ => .array .boolean
abbrev wsX10 : List Cond := u_ws RX1 TX1 10
theorem nmX1 : ∀ a, a < 10 → ∀ b, b < 10 → a ≠ b → (TX1 a).2.1 ≠ (TX1 b).2.1 := by decide +kernel
theorem tyX1_ok : ∀ k, k < 10 → parseFieldDescriptor (TX1 k).2.2.1 = some (tyX1 k) := by decide +kernel
abbrev cX1_init : ByteArray := prog_3_method_1_code
def yX1_init : MethodName := ⟨RX1, "<init>", "()V"⟩
abbrev cX1_hasStation : ByteArray := prog_3_method_2_code
def yX1_hasStation : MethodName := ⟨RX1, "hasStation", "(I)Z"⟩
abbrev cX1_hasObservation : ByteArray := prog_3_method_3_code
def yX1_hasObservation : MethodName := ⟨RX1, "hasObservation", "(I)Z"⟩
abbrev cX1_addStation : ByteArray := prog_3_method_4_code
def yX1_addStation : MethodName := ⟨RX1, "addStation", "()I"⟩
abbrev cX1_tellHeight : ByteArray := prog_3_method_5_code
def yX1_tellHeight : MethodName := ⟨RX1, "tellHeight", "(IIZ)Z"⟩
abbrev cX1_addObservation : ByteArray := prog_3_method_6_code
def yX1_addObservation : MethodName := ⟨RX1, "addObservation", "(IIII)I"⟩
abbrev cX1_setWithdrawn : ByteArray := prog_3_method_7_code
def yX1_setWithdrawn : MethodName := ⟨RX1, "setWithdrawn", "(IZ)Z"⟩
abbrev cX1_markParts : ByteArray := prog_3_method_8_code
def yX1_markParts : MethodName := ⟨RX1, "markParts", "()V"⟩
abbrev cX1_mergeParts : ByteArray := prog_3_method_9_code
def yX1_mergeParts : MethodName := ⟨RX1, "mergeParts", "(II)V"⟩
abbrev cX1_countParts : ByteArray := prog_3_method_10_code
def yX1_countParts : MethodName := ⟨RX1, "countParts", "()I"⟩
abbrev cX1_countStationsWith : ByteArray := prog_3_method_11_code
def yX1_countStationsWith : MethodName := ⟨RX1, "countStationsWith", "(I)I"⟩
abbrev cX1_areInOnePart : ByteArray := prog_3_method_12_code
def yX1_areInOnePart : MethodName := ⟨RX1, "areInOnePart", "(II)Z"⟩
abbrev cX1_isInPartOf : ByteArray := prog_3_method_13_code
def yX1_isInPartOf : MethodName := ⟨RX1, "isInPartOf", "(II)Z"⟩
abbrev cX1_datumOf : ByteArray := prog_3_method_14_code
def yX1_datumOf : MethodName := ⟨RX1, "datumOf", "(I)I"⟩
abbrev cX1_lowestBetween : ByteArray := prog_3_method_15_code
def yX1_lowestBetween : MethodName := ⟨RX1, "lowestBetween", "(II)I"⟩
abbrev cX1_differenceFrom : ByteArray := prog_3_method_16_code
def yX1_differenceFrom : MethodName := ⟨RX1, "differenceFrom", "(II)I"⟩
def RX2 : String := "TheodoliteRow$Path"
def TX2 : u_T := fun k => match k with
  | 0 => ("TheodoliteRow$Path", "length", "I", false)
  | 1 => ("TheodoliteRow$Path", "first", "I", false)
  | 2 => ("TheodoliteRow$Path", "last", "I", false)
  | _ => ("TheodoliteRow$Path", "total", "I", false)
def tyX2 : Nat → FieldType := fun k => match k with
  | 0 => .int
  | 1 => .int
  | 2 => .int
  | _ => .int
abbrev wsX20 : List Cond := u_ws RX2 TX2 4
theorem nmX2 : ∀ a, a < 4 → ∀ b, b < 4 → a ≠ b → (TX2 a).2.1 ≠ (TX2 b).2.1 := by decide +kernel
theorem tyX2_ok : ∀ k, k < 4 → parseFieldDescriptor (TX2 k).2.2.1 = some (tyX2 k) := by decide +kernel
abbrev cX2_init : ByteArray := prog_4_method_1_code
def yX2_init : MethodName := ⟨RX2, "<init>", "()V"⟩
abbrev cX2_begin : ByteArray := prog_4_method_2_code
def yX2_begin : MethodName := ⟨RX2, "begin", "(I)I"⟩
abbrev cX2_goOn : ByteArray := prog_4_method_3_code
def yX2_goOn : MethodName := ⟨RX2, "goOn", "(II)I"⟩
abbrev cX2_clear : ByteArray := prog_4_method_4_code
def yX2_clear : MethodName := ⟨RX2, "clear", "()I"⟩
def RX3 : String := "TheodoliteRow$TreeWalk"
def TX3 : u_T := fun k => match k with
  | 0 => ("TheodoliteRow$TreeWalk", "net", "LTheodoliteRow$Net;", true)
  | 1 => ("TheodoliteRow$TreeWalk", "piece", "[[I", true)
  | 2 => ("TheodoliteRow$TreeWalk", "rise", "[[I", true)
  | 3 => ("TheodoliteRow$TreeWalk", "branches", "I", false)
  | 4 => ("TheodoliteRow$TreeWalk", "datum", "I", false)
  | 5 => ("TheodoliteRow$TreeWalk", "askedStation", "I", false)
  | 6 => ("TheodoliteRow$TreeWalk", "askedObservation", "I", false)
  | 7 => ("TheodoliteRow$TreeWalk", "weightOfAll", "J", false)
  | 8 => ("TheodoliteRow$TreeWalk", "weightOfThoseWithAsked", "J", false)
  | _ => ("TheodoliteRow$TreeWalk", "weightedRises", "J", false)
def tyX3 : Nat → FieldType := fun k => match k with
  | 0 => .object "TheodoliteRow$Net"
  | 1 => .array (.array .int)
  | 2 => .array (.array .int)
  | 3 => .int
  | 4 => .int
  | 5 => .int
  | 6 => .int
  | 7 => .long
  | 8 => .long
  | _ => .long
abbrev wsX30 : List Cond := u_ws RX3 TX3 10
theorem nmX3 : ∀ a, a < 10 → ∀ b, b < 10 → a ≠ b → (TX3 a).2.1 ≠ (TX3 b).2.1 := by decide +kernel
theorem tyX3_ok : ∀ k, k < 10 → parseFieldDescriptor (TX3 k).2.2.1 = some (tyX3 k) := by decide +kernel
abbrev cX3_init : ByteArray := prog_5_method_1_code
def yX3_init : MethodName := ⟨RX3, "<init>", "(LTheodoliteRow$Net;)V"⟩
abbrev cX3_heightOf : ByteArray := prog_5_method_2_code
def yX3_heightOf : MethodName := ⟨RX3, "heightOf", "(I)J"⟩
abbrev cX3_checkOf : ByteArray := prog_5_method_3_code
def yX3_checkOf : MethodName := ⟨RX3, "checkOf", "(I)I"⟩
abbrev cX3_walk : ByteArray := prog_5_method_4_code
def yX3_walk : MethodName := ⟨RX3, "walk", "(II)V"⟩
abbrev cX3_grow : ByteArray := prog_5_method_5_code
def yX3_grow : MethodName := ⟨RX3, "grow", "(LTheodoliteRow$TreeWalk;IIJZ)V"⟩
abbrev cX3_joinsPieces : ByteArray := prog_5_method_6_code
def yX3_joinsPieces : MethodName := ⟨RX3, "joinsPieces", "(II)Z"⟩
abbrev cX3_joinPieces : ByteArray := prog_5_method_7_code
def yX3_joinPieces : MethodName := ⟨RX3, "joinPieces", "(II)V"⟩
abbrev cX3_countTree : ByteArray := prog_5_method_8_code
def yX3_countTree : MethodName := ⟨RX3, "countTree", "(IJZ)V"⟩
def RX4 : String := "TheodoliteRow"
def TX4 : u_T := fun k => match k with
  | 0 => ("TheodoliteRow", "net", "LTheodoliteRow$Net;", true)
  | 1 => ("TheodoliteRow", "adjustment", "LTheodoliteRow$Adjustment;", true)
  | 2 => ("TheodoliteRow", "treeWalk", "LTheodoliteRow$TreeWalk;", true)
  | _ => ("TheodoliteRow", "path", "LTheodoliteRow$Path;", true)
def tyX4 : Nat → FieldType := fun k => match k with
  | 0 => .object "TheodoliteRow$Net"
  | 1 => .object "TheodoliteRow$Adjustment"
  | 2 => .object "TheodoliteRow$TreeWalk"
  | _ => .object "TheodoliteRow$Path"
abbrev wsX40 : List Cond := u_ws RX4 TX4 4
theorem nmX4 : ∀ a, a < 4 → ∀ b, b < 4 → a ≠ b → (TX4 a).2.1 ≠ (TX4 b).2.1 := by decide +kernel
theorem tyX4_ok : ∀ k, k < 4 → parseFieldDescriptor (TX4 k).2.2.1 = some (tyX4 k) := by decide +kernel
abbrev cX4_init : ByteArray := prog_1_method_1_code
def yX4_init : MethodName := ⟨RX4, "<init>", "()V"⟩
abbrev cX4_station : ByteArray := prog_1_method_2_code
def yX4_station : MethodName := ⟨RX4, "station", "()I"⟩
abbrev cX4_datum : ByteArray := prog_1_method_3_code
def yX4_datum : MethodName := ⟨RX4, "datum", "(IIZ)Z"⟩
abbrev cX4_observe : ByteArray := prog_1_method_4_code
def yX4_observe : MethodName := ⟨RX4, "observe", "(IIII)I"⟩
abbrev cX4_withdraw : ByteArray := prog_1_method_5_code
def yX4_withdraw : MethodName := ⟨RX4, "withdraw", "(IZ)Z"⟩
abbrev cX4_clean : ByteArray := prog_1_method_6_code
def yX4_clean : MethodName := ⟨RX4, "clean", "(I)I"⟩
abbrev cX4_go : ByteArray := prog_1_method_7_code
def yX4_go : MethodName := ⟨RX4, "go", "(I)I"⟩
abbrev cX4_end : ByteArray := prog_1_method_8_code
def yX4_end : MethodName := ⟨RX4, "end", "()I"⟩
abbrev cX4_sum : ByteArray := prog_1_method_9_code
def yX4_sum : MethodName := ⟨RX4, "sum", "()I"⟩
abbrev cX4_isClosed : ByteArray := prog_1_method_10_code
def yX4_isClosed : MethodName := ⟨RX4, "isClosed", "()Z"⟩
abbrev cX4_height : ByteArray := prog_1_method_11_code
def yX4_height : MethodName := ⟨RX4, "height", "(I)J"⟩
abbrev cX4_heightAnew : ByteArray := prog_1_method_12_code
def yX4_heightAnew : MethodName := ⟨RX4, "heightAnew", "(I)J"⟩
abbrev cX4_free : ByteArray := prog_1_method_13_code
def yX4_free : MethodName := ⟨RX4, "free", "(I)J"⟩
abbrev cX4_residual : ByteArray := prog_1_method_14_code
def yX4_residual : MethodName := ⟨RX4, "residual", "(I)J"⟩
abbrev cX4_check : ByteArray := prog_1_method_15_code
def yX4_check : MethodName := ⟨RX4, "check", "(I)I"⟩
abbrev cX4_checkAnew : ByteArray := prog_1_method_16_code
def yX4_checkAnew : MethodName := ⟨RX4, "checkAnew", "(I)I"⟩
abbrev cX4_score : ByteArray := prog_1_method_17_code
def yX4_score : MethodName := ⟨RX4, "score", "(I)J"⟩
abbrev cX4_worst : ByteArray := prog_1_method_18_code
def yX4_worst : MethodName := ⟨RX4, "worst", "()I"⟩
abbrev cX4_trees : ByteArray := prog_1_method_19_code
def yX4_trees : MethodName := ⟨RX4, "trees", "(I)J"⟩
abbrev cX4_parts : ByteArray := prog_1_method_20_code
def yX4_parts : MethodName := ⟨RX4, "parts", "()I"⟩
abbrev cX4_needStation : ByteArray := prog_1_method_21_code
def yX4_needStation : MethodName := ⟨RX4, "needStation", "(I)V"⟩
abbrev cX4_needObservation : ByteArray := prog_1_method_22_code
def yX4_needObservation : MethodName := ⟨RX4, "needObservation", "(I)V"⟩
abbrev cX4_needObservationInNet : ByteArray := prog_1_method_23_code
def yX4_needObservationInNet : MethodName := ⟨RX4, "needObservationInNet", "(I)V"⟩
abbrev cX4_isBeyond : ByteArray := prog_1_method_24_code
def yX4_isBeyond : MethodName := ⟨RX4, "isBeyond", "(III)Z"⟩
abbrev cX4_roundedDown : ByteArray := prog_1_method_25_code
def yX4_roundedDown : MethodName := ⟨RX4, "roundedDown", "(JJ)J"⟩
def RX5 : String := "TheodoliteRowModel"
def TX5 : u_T := fun k => match k with
  | 0 => ("TheodoliteRowModel", "stations", "I", false)
  | 1 => ("TheodoliteRowModel", "isTold", "[Z", true)
  | 2 => ("TheodoliteRowModel", "told", "[I", true)
  | 3 => ("TheodoliteRowModel", "observations", "I", false)
  | 4 => ("TheodoliteRowModel", "froms", "[I", true)
  | 5 => ("TheodoliteRowModel", "tos", "[I", true)
  | 6 => ("TheodoliteRowModel", "differences", "[I", true)
  | 7 => ("TheodoliteRowModel", "weights", "[I", true)
  | 8 => ("TheodoliteRowModel", "isWithdrawn", "[Z", true)
  | 9 => ("TheodoliteRowModel", "path", "I", false)
  | 10 => ("TheodoliteRowModel", "steps", "[I", true)
  | 11 => ("TheodoliteRowModel", "sum", "I", false)
  | 12 => ("TheodoliteRowModel", "isIn", "[Z", true)
  | 13 => ("TheodoliteRowModel", "datum", "I", false)
  | 14 => ("TheodoliteRowModel", "a", "[J", true)
  | 15 => ("TheodoliteRowModel", "found", "[J", true)
  | 16 => ("TheodoliteRowModel", "trees", "J", false)
  | _ => ("TheodoliteRowModel", "thrown", "I", false)
def tyX5 : Nat → FieldType := fun k => match k with
  | 0 => .int
  | 1 => .array .boolean
  | 2 => .array .int
  | 3 => .int
  | 4 => .array .int
  | 5 => .array .int
  | 6 => .array .int
  | 7 => .array .int
  | 8 => .array .boolean
  | 9 => .int
  | 10 => .array .int
  | 11 => .int
  | 12 => .array .boolean
  | 13 => .int
  | 14 => .array .long
  | 15 => .array .long
  | 16 => .long
  | _ => .int
abbrev wsX50 : List Cond := u_ws RX5 TX5 18
theorem nmX5 : ∀ a, a < 18 → ∀ b, b < 18 → a ≠ b → (TX5 a).2.1 ≠ (TX5 b).2.1 := by decide +kernel
theorem tyX5_ok : ∀ k, k < 18 → parseFieldDescriptor (TX5 k).2.2.1 = some (tyX5 k) := by decide +kernel
abbrev cX5_init : ByteArray := prog_7_method_1_code
def yX5_init : MethodName := ⟨RX5, "<init>", "()V"⟩
abbrev cX5_thrown : ByteArray := prog_7_method_2_code
def yX5_thrown : MethodName := ⟨RX5, "thrown", "()I"⟩
abbrev cX5_goes : ByteArray := prog_7_method_3_code
def yX5_goes : MethodName := ⟨RX5, "goes", "(I)Z"⟩
abbrev cX5_isBetween : ByteArray := prog_7_method_4_code
def yX5_isBetween : MethodName := ⟨RX5, "isBetween", "(III)Z"⟩
abbrev cX5_isStation : ByteArray := prog_7_method_5_code
def yX5_isStation : MethodName := ⟨RX5, "isStation", "(I)Z"⟩
abbrev cX5_isObservation : ByteArray := prog_7_method_6_code
def yX5_isObservation : MethodName := ⟨RX5, "isObservation", "(I)Z"⟩
abbrev cX5_station : ByteArray := prog_7_method_7_code
def yX5_station : MethodName := ⟨RX5, "station", "()I"⟩
abbrev cX5_datum : ByteArray := prog_7_method_8_code
def yX5_datum : MethodName := ⟨RX5, "datum", "(IIZ)Z"⟩
abbrev cX5_observe : ByteArray := prog_7_method_9_code
def yX5_observe : MethodName := ⟨RX5, "observe", "(IIII)I"⟩
abbrev cX5_withdraw : ByteArray := prog_7_method_10_code
def yX5_withdraw : MethodName := ⟨RX5, "withdraw", "(IZ)Z"⟩
abbrev cX5_reaches : ByteArray := prog_7_method_11_code
def yX5_reaches : MethodName := ⟨RX5, "reaches", "(I)V"⟩
abbrev cX5_adds : ByteArray := prog_7_method_12_code
def yX5_adds : MethodName := ⟨RX5, "adds", "(IIJ)V"⟩
abbrev cX5_lays : ByteArray := prog_7_method_13_code
def yX5_lays : MethodName := ⟨RX5, "lays", "()V"⟩
abbrev cX5_laysDifferences : ByteArray := prog_7_method_14_code
def yX5_laysDifferences : MethodName := ⟨RX5, "laysDifferences", "()V"⟩
abbrev cX5_solves : ByteArray := prog_7_method_15_code
def yX5_solves : MethodName := ⟨RX5, "solves", "()V"⟩
abbrev cX5_finds : ByteArray := prog_7_method_16_code
def yX5_finds : MethodName := ⟨RX5, "finds", "(I)V"⟩
abbrev cX5_floor : ByteArray := prog_7_method_17_code
def yX5_floor : MethodName := ⟨RX5, "floor", "(JJ)J"⟩
abbrev cX5_size : ByteArray := prog_7_method_18_code
def yX5_size : MethodName := ⟨RX5, "size", "(J)J"⟩
abbrev cX5_heightOf : ByteArray := prog_7_method_19_code
def yX5_heightOf : MethodName := ⟨RX5, "heightOf", "(I)J"⟩
abbrev cX5_height : ByteArray := prog_7_method_20_code
def yX5_height : MethodName := ⟨RX5, "height", "(I)J"⟩
abbrev cX5_heightAnew : ByteArray := prog_7_method_21_code
def yX5_heightAnew : MethodName := ⟨RX5, "heightAnew", "(I)J"⟩
abbrev cX5_free : ByteArray := prog_7_method_22_code
def yX5_free : MethodName := ⟨RX5, "free", "(I)J"⟩
abbrev cX5_apart : ByteArray := prog_7_method_23_code
def yX5_apart : MethodName := ⟨RX5, "apart", "(I)J"⟩
abbrev cX5_isInNet : ByteArray := prog_7_method_24_code
def yX5_isInNet : MethodName := ⟨RX5, "isInNet", "(I)Z"⟩
abbrev cX5_residual : ByteArray := prog_7_method_25_code
def yX5_residual : MethodName := ⟨RX5, "residual", "(I)J"⟩
abbrev cX5_checkOf : ByteArray := prog_7_method_26_code
def yX5_checkOf : MethodName := ⟨RX5, "checkOf", "(I)I"⟩
abbrev cX5_check : ByteArray := prog_7_method_27_code
def yX5_check : MethodName := ⟨RX5, "check", "(I)I"⟩
abbrev cX5_checkAnew : ByteArray := prog_7_method_28_code
def yX5_checkAnew : MethodName := ⟨RX5, "checkAnew", "(I)I"⟩
abbrev cX5_scoreOf : ByteArray := prog_7_method_29_code
def yX5_scoreOf : MethodName := ⟨RX5, "scoreOf", "(I)J"⟩
abbrev cX5_score : ByteArray := prog_7_method_30_code
def yX5_score : MethodName := ⟨RX5, "score", "(I)J"⟩
abbrev cX5_worstOf : ByteArray := prog_7_method_31_code
def yX5_worstOf : MethodName := ⟨RX5, "worstOf", "()I"⟩
abbrev cX5_worst : ByteArray := prog_7_method_32_code
def yX5_worst : MethodName := ⟨RX5, "worst", "()I"⟩
abbrev cX5_clean : ByteArray := prog_7_method_33_code
def yX5_clean : MethodName := ⟨RX5, "clean", "(I)I"⟩
abbrev cX5_joins : ByteArray := prog_7_method_34_code
def yX5_joins : MethodName := ⟨RX5, "joins", "(II)I"⟩
abbrev cX5_go : ByteArray := prog_7_method_35_code
def yX5_go : MethodName := ⟨RX5, "go", "(I)I"⟩
abbrev cX5_end : ByteArray := prog_7_method_36_code
def yX5_end : MethodName := ⟨RX5, "end", "()I"⟩
abbrev cX5_sum : ByteArray := prog_7_method_37_code
def yX5_sum : MethodName := ⟨RX5, "sum", "()I"⟩
abbrev cX5_isClosed : ByteArray := prog_7_method_38_code
def yX5_isClosed : MethodName := ⟨RX5, "isClosed", "()Z"⟩
abbrev cX5_trees : ByteArray := prog_7_method_39_code
def yX5_trees : MethodName := ⟨RX5, "trees", "(I)J"⟩
abbrev cX5_parts : ByteArray := prog_7_method_40_code
def yX5_parts : MethodName := ⟨RX5, "parts", "()I"⟩
def RJ9 : String := "java/lang/Math"
def TJ9 : u_T := fun k => match k with
  | _ => ("", "", "", false)
def tyJ9 : Nat → FieldType := fun k => match k with
  | _ => .int
abbrev wsJ90 : List Cond := u_ws RJ9 TJ9 0
theorem nmJ9 : ∀ a, a < 0 → ∀ b, b < 0 → a ≠ b → (TJ9 a).2.1 ≠ (TJ9 b).2.1 := by decide +kernel
theorem tyJ9_ok : ∀ k, k < 0 → parseFieldDescriptor (TJ9 k).2.2.1 = some (tyJ9 k) := by decide +kernel
abbrev cJ9_floorDiv_f86c9 : ByteArray := prog_12_method_49_code
def yJ9_floorDiv_f86c9 : MethodName := ⟨RJ9, "floorDiv", "(JJ)J"⟩
abbrev cJ9_abs_067f4 : ByteArray := prog_12_method_61_code
def yJ9_abs_067f4 : MethodName := ⟨RJ9, "abs", "(J)J"⟩
abbrev cJ9_max_7cf53 : ByteArray := prog_12_method_65_code
def yJ9_max_7cf53 : MethodName := ⟨RJ9, "max", "(II)I"⟩
abbrev cJ9_min_7cf53 : ByteArray := prog_12_method_69_code
def yJ9_min_7cf53 : MethodName := ⟨RJ9, "min", "(II)I"⟩
def RJ0 : String := "java/lang/String"
def TJ0 : u_T := fun k => match k with
  | _ => ("", "", "", false)
def tyJ0 : Nat → FieldType := fun k => match k with
  | _ => .int
abbrev wsJ00 : List Cond := u_ws RJ0 TJ0 0
theorem nmJ0 : ∀ a, a < 0 → ∀ b, b < 0 → a ≠ b → (TJ0 a).2.1 ≠ (TJ0 b).2.1 := by decide +kernel
theorem tyJ0_ok : ∀ k, k < 0 → parseFieldDescriptor (TJ0 k).2.2.1 = some (tyJ0 k) := by decide +kernel
def RL : String := "TheodoliteRowLaw"
abbrev cL_station : ByteArray := method_3_code
def yL_station : MethodName := ⟨RL, "station", "(LTheodoliteRow;[J)I"⟩
abbrev cL_datum : ByteArray := method_4_code
def yL_datum : MethodName := ⟨RL, "datum", "(LTheodoliteRow;IIZ[J)I"⟩
abbrev cL_observe : ByteArray := method_5_code
def yL_observe : MethodName := ⟨RL, "observe", "(LTheodoliteRow;IIII[J)I"⟩
abbrev cL_withdraw : ByteArray := method_6_code
def yL_withdraw : MethodName := ⟨RL, "withdraw", "(LTheodoliteRow;IZ[J)I"⟩
abbrev cL_clean : ByteArray := method_7_code
def yL_clean : MethodName := ⟨RL, "clean", "(LTheodoliteRow;I[J)I"⟩
abbrev cL_go : ByteArray := method_8_code
def yL_go : MethodName := ⟨RL, "go", "(LTheodoliteRow;I[J)I"⟩
abbrev cL_height : ByteArray := method_9_code
def yL_height : MethodName := ⟨RL, "height", "(LTheodoliteRow;I[J)I"⟩
abbrev cL_heightAnew : ByteArray := method_10_code
def yL_heightAnew : MethodName := ⟨RL, "heightAnew", "(LTheodoliteRow;I[J)I"⟩
abbrev cL_free : ByteArray := method_11_code
def yL_free : MethodName := ⟨RL, "free", "(LTheodoliteRow;I[J)I"⟩
abbrev cL_residual : ByteArray := method_12_code
def yL_residual : MethodName := ⟨RL, "residual", "(LTheodoliteRow;I[J)I"⟩
abbrev cL_check : ByteArray := method_13_code
def yL_check : MethodName := ⟨RL, "check", "(LTheodoliteRow;I[J)I"⟩
abbrev cL_checkAnew : ByteArray := method_14_code
def yL_checkAnew : MethodName := ⟨RL, "checkAnew", "(LTheodoliteRow;I[J)I"⟩
abbrev cL_score : ByteArray := method_15_code
def yL_score : MethodName := ⟨RL, "score", "(LTheodoliteRow;I[J)I"⟩
abbrev cL_trees : ByteArray := method_16_code
def yL_trees : MethodName := ⟨RL, "trees", "(LTheodoliteRow;I[J)I"⟩
abbrev cL_law : ByteArray := code
def yL_law : MethodName := ⟨RL, "law", "([I)Z"⟩
def wsX0_init : List Cond := .code yX0_init cX0_init 2 none :: ([.methodLink RX0 3 objectInit, .instanceMethod objectInit, .code objectInit ⟨#[0xb1]⟩ 1 none, .fieldLink RX0 9 "TheodoliteRow$Adjustment" "net" "LTheodoliteRow$Net;", .arrayClass .int, .fieldLink RX0 15 "TheodoliteRow$Adjustment" "rowOf" "[I", .classLink RX0 19 "[[J", .arrayClass .long, .fieldLink RX0 21 "TheodoliteRow$Adjustment" "cells" "[[J"] ++ wsX00)
def wsX1_areInOnePart : List Cond := .code yX1_areInOnePart cX1_areInOnePart 3 (some .boolean) :: ([.fieldLink RX1 19 "TheodoliteRow$Net" "lowest" "[I"] ++ wsX10)
def wsX1_datumOf : List Cond := .code yX1_datumOf cX1_datumOf 3 (some .int) :: ([.fieldLink RX1 37 "TheodoliteRow$Net" "stations" "I", .fieldLink RX1 9 "TheodoliteRow$Net" "isTold" "[Z", .fieldLink RX1 19 "TheodoliteRow$Net" "lowest" "[I", .methodLink RX1 60 yX1_areInOnePart, .instanceMethod yX1_areInOnePart, .selects RX1 yX1_areInOnePart yX1_areInOnePart, .initialized RX1, .code yX1_areInOnePart cX1_areInOnePart 3 (some .boolean)] ++ wsX10)
def wsX0_numberUnknowns : List Cond := .code yX0_numberUnknowns cX0_numberUnknowns 3 none :: ([.fieldLink RX0 54 "TheodoliteRow$Adjustment" "unknowns" "I", .fieldLink RX0 9 "TheodoliteRow$Adjustment" "net" "LTheodoliteRow$Net;", .fieldLink RX0 51 "TheodoliteRow$Net" "stations" "I", .fieldLink RX0 37 "TheodoliteRow$Adjustment" "datum" "I", .fieldLink RX0 15 "TheodoliteRow$Adjustment" "rowOf" "[I", .methodLink RX0 118 yX1_areInOnePart, .instanceMethod yX1_areInOnePart, .selects RX1 yX1_areInOnePart yX1_areInOnePart, .initialized RX1, .code yX1_areInOnePart cX1_areInOnePart 3 (some .boolean), .fieldLink RX1 19 "TheodoliteRow$Net" "lowest" "[I"] ++ wsX00 ++ wsX10)
def wsX0_clearCells : List Cond := .code yX0_clearCells cX0_clearCells 3 none :: ([.fieldLink RX0 21 "TheodoliteRow$Adjustment" "cells" "[[J"] ++ wsX00)
def wsX1_isInPartOf : List Cond := .code yX1_isInPartOf cX1_isInPartOf 3 (some .boolean) :: ([.fieldLink RX1 34 "TheodoliteRow$Net" "isWithdrawn" "[Z", .fieldLink RX1 22 "TheodoliteRow$Net" "from" "[I", .methodLink RX1 60 yX1_areInOnePart, .instanceMethod yX1_areInOnePart, .selects RX1 yX1_areInOnePart yX1_areInOnePart, .initialized RX1, .code yX1_areInOnePart cX1_areInOnePart 3 (some .boolean), .fieldLink RX1 19 "TheodoliteRow$Net" "lowest" "[I"] ++ wsX10)
def wsX0_addToRow : List Cond := .code yX0_addToRow cX0_addToRow 7 none :: ([.fieldLink RX0 21 "TheodoliteRow$Adjustment" "cells" "[[J"] ++ wsX00)
def wsX0_addToCells : List Cond := .code yX0_addToCells cX0_addToCells 8 none :: ([.fieldLink RX0 15 "TheodoliteRow$Adjustment" "rowOf" "[I", .fieldLink RX0 9 "TheodoliteRow$Adjustment" "net" "LTheodoliteRow$Net;", .fieldLink RX0 60 "TheodoliteRow$Net" "from" "[I", .fieldLink RX0 89 "TheodoliteRow$Net" "to" "[I", .fieldLink RX0 76 "TheodoliteRow$Net" "weight" "[I", .fieldLink RX0 92 "TheodoliteRow$Net" "difference" "[I", .methodLink RX0 121 yX0_addToRow, .instanceMethod yX0_addToRow, .selects RX0 yX0_addToRow yX0_addToRow, .initialized RX0, .code yX0_addToRow cX0_addToRow 7 none, .fieldLink RX0 21 "TheodoliteRow$Adjustment" "cells" "[[J"] ++ wsX00 ++ wsX10)
def wsX0_clearColumn : List Cond := .code yX0_clearColumn cX0_clearColumn 12 none :: ([.fieldLink RX0 21 "TheodoliteRow$Adjustment" "cells" "[[J"] ++ wsX00)
def wsX0_eliminate : List Cond := .code yX0_eliminate cX0_eliminate 7 none :: ([.fieldLink RX0 54 "TheodoliteRow$Adjustment" "unknowns" "I", .fieldLink RX0 21 "TheodoliteRow$Adjustment" "cells" "[[J", .fieldLink RX0 41 "TheodoliteRow$Adjustment" "treeWeight" "J", .methodLink RX0 125 yX0_clearColumn, .instanceMethod yX0_clearColumn, .selects RX0 yX0_clearColumn yX0_clearColumn, .initialized RX0, .code yX0_clearColumn cX0_clearColumn 12 none] ++ wsX00)
def wsX0_solve_r1 : List Cond := [Cond.fieldLink RX0 9 "TheodoliteRow$Adjustment" "net" "LTheodoliteRow$Net;", Cond.fieldLink RX0 37 "TheodoliteRow$Adjustment" "datum" "I", Cond.fieldLink RX0 79 "TheodoliteRow$Net" "observations" "I", Cond.methodLink RX0 97 yX1_datumOf, Cond.instanceMethod yX1_datumOf, Cond.selects RX1 yX1_datumOf yX1_datumOf, Cond.initialized RX1, Cond.code yX1_datumOf cX1_datumOf 3 (some .int), Cond.fieldLink RX1 37 "TheodoliteRow$Net" "stations" "I", Cond.fieldLink RX1 9 "TheodoliteRow$Net" "isTold" "[Z", Cond.fieldLink RX1 19 "TheodoliteRow$Net" "lowest" "[I", Cond.methodLink RX1 60 yX1_areInOnePart, Cond.instanceMethod yX1_areInOnePart, Cond.selects RX1 yX1_areInOnePart yX1_areInOnePart, Cond.code yX1_areInOnePart cX1_areInOnePart 3 (some .boolean), Cond.methodLink RX0 101 yX0_numberUnknowns, Cond.instanceMethod yX0_numberUnknowns, Cond.selects RX0 yX0_numberUnknowns yX0_numberUnknowns, Cond.initialized RX0, Cond.code yX0_numberUnknowns cX0_numberUnknowns 3 none, Cond.fieldLink RX0 54 "TheodoliteRow$Adjustment" "unknowns" "I", Cond.fieldLink RX0 51 "TheodoliteRow$Net" "stations" "I", Cond.fieldLink RX0 15 "TheodoliteRow$Adjustment" "rowOf" "[I", Cond.methodLink RX0 118 yX1_areInOnePart]
def wsX0_solve_r2 : List Cond := [Cond.methodLink RX0 104 yX0_clearCells, Cond.instanceMethod yX0_clearCells, Cond.selects RX0 yX0_clearCells yX0_clearCells, Cond.code yX0_clearCells cX0_clearCells 3 none, Cond.fieldLink RX0 21 "TheodoliteRow$Adjustment" "cells" "[[J", Cond.methodLink RX0 107 yX1_isInPartOf, Cond.instanceMethod yX1_isInPartOf, Cond.selects RX1 yX1_isInPartOf yX1_isInPartOf, Cond.code yX1_isInPartOf cX1_isInPartOf 3 (some .boolean), Cond.fieldLink RX1 34 "TheodoliteRow$Net" "isWithdrawn" "[Z", Cond.fieldLink RX1 22 "TheodoliteRow$Net" "from" "[I", Cond.methodLink RX0 111 yX0_addToCells, Cond.instanceMethod yX0_addToCells, Cond.selects RX0 yX0_addToCells yX0_addToCells, Cond.code yX0_addToCells cX0_addToCells 8 none, Cond.fieldLink RX0 60 "TheodoliteRow$Net" "from" "[I", Cond.fieldLink RX0 89 "TheodoliteRow$Net" "to" "[I", Cond.fieldLink RX0 76 "TheodoliteRow$Net" "weight" "[I", Cond.fieldLink RX0 92 "TheodoliteRow$Net" "difference" "[I", Cond.methodLink RX0 121 yX0_addToRow, Cond.instanceMethod yX0_addToRow, Cond.selects RX0 yX0_addToRow yX0_addToRow, Cond.code yX0_addToRow cX0_addToRow 7 none, Cond.methodLink RX0 115 yX0_eliminate]
def wsX0_solve_r3 : List Cond := [Cond.instanceMethod yX0_eliminate, Cond.selects RX0 yX0_eliminate yX0_eliminate, Cond.code yX0_eliminate cX0_eliminate 7 none, Cond.fieldLink RX0 41 "TheodoliteRow$Adjustment" "treeWeight" "J", Cond.methodLink RX0 125 yX0_clearColumn, Cond.instanceMethod yX0_clearColumn, Cond.selects RX0 yX0_clearColumn yX0_clearColumn, Cond.code yX0_clearColumn cX0_clearColumn 12 none]
def wsX0_solve : List Cond := .code yX0_solve cX0_solve 4 none :: ((wsX0_solve_r1 ++ (wsX0_solve_r2 ++ wsX0_solve_r3)) ++ wsX00 ++ wsX10)
def wsX0_riseOf : List Cond := .code yX0_riseOf cX0_riseOf 3 (some .long) :: ([.fieldLink RX0 15 "TheodoliteRow$Adjustment" "rowOf" "[I", .fieldLink RX0 21 "TheodoliteRow$Adjustment" "cells" "[[J"] ++ wsX00)
def wsJ9_floorDiv_f86c9 : List Cond := .code yJ9_floorDiv_f86c9 cJ9_floorDiv_f86c9 6 (some .long) :: ([])
def wsX4_roundedDown : List Cond := .code yX4_roundedDown cX4_roundedDown 4 (some .long) :: ([.methodLink RX4 179 yJ9_floorDiv_f86c9, .static yJ9_floorDiv_f86c9, .initialized RJ9, .code yJ9_floorDiv_f86c9 cJ9_floorDiv_f86c9 6 (some .long)])
def wsX0_heightOf_r1 : List Cond := [Cond.fieldLink RX0 9 "TheodoliteRow$Adjustment" "net" "LTheodoliteRow$Net;", Cond.fieldLink RX0 32 "TheodoliteRow$Net" "toldHeight" "[I", Cond.fieldLink RX0 37 "TheodoliteRow$Adjustment" "datum" "I", Cond.fieldLink RX0 41 "TheodoliteRow$Adjustment" "treeWeight" "J", Cond.constantLong RX0 45 (100), Cond.methodLink RX0 24 yX0_solve, Cond.instanceMethod yX0_solve, Cond.selects RX0 yX0_solve yX0_solve, Cond.initialized RX0, Cond.code yX0_solve cX0_solve 4 none, Cond.fieldLink RX0 79 "TheodoliteRow$Net" "observations" "I", Cond.methodLink RX0 97 yX1_datumOf, Cond.instanceMethod yX1_datumOf, Cond.selects RX1 yX1_datumOf yX1_datumOf, Cond.initialized RX1, Cond.code yX1_datumOf cX1_datumOf 3 (some .int), Cond.fieldLink RX1 37 "TheodoliteRow$Net" "stations" "I", Cond.fieldLink RX1 9 "TheodoliteRow$Net" "isTold" "[Z", Cond.fieldLink RX1 19 "TheodoliteRow$Net" "lowest" "[I", Cond.methodLink RX1 60 yX1_areInOnePart, Cond.instanceMethod yX1_areInOnePart, Cond.selects RX1 yX1_areInOnePart yX1_areInOnePart, Cond.code yX1_areInOnePart cX1_areInOnePart 3 (some .boolean), Cond.methodLink RX0 101 yX0_numberUnknowns]
def wsX0_heightOf_r2 : List Cond := [Cond.instanceMethod yX0_numberUnknowns, Cond.selects RX0 yX0_numberUnknowns yX0_numberUnknowns, Cond.code yX0_numberUnknowns cX0_numberUnknowns 3 none, Cond.fieldLink RX0 54 "TheodoliteRow$Adjustment" "unknowns" "I", Cond.fieldLink RX0 51 "TheodoliteRow$Net" "stations" "I", Cond.fieldLink RX0 15 "TheodoliteRow$Adjustment" "rowOf" "[I", Cond.methodLink RX0 118 yX1_areInOnePart, Cond.methodLink RX0 104 yX0_clearCells, Cond.instanceMethod yX0_clearCells, Cond.selects RX0 yX0_clearCells yX0_clearCells, Cond.code yX0_clearCells cX0_clearCells 3 none, Cond.fieldLink RX0 21 "TheodoliteRow$Adjustment" "cells" "[[J", Cond.methodLink RX0 107 yX1_isInPartOf, Cond.instanceMethod yX1_isInPartOf, Cond.selects RX1 yX1_isInPartOf yX1_isInPartOf, Cond.code yX1_isInPartOf cX1_isInPartOf 3 (some .boolean), Cond.fieldLink RX1 34 "TheodoliteRow$Net" "isWithdrawn" "[Z", Cond.fieldLink RX1 22 "TheodoliteRow$Net" "from" "[I", Cond.methodLink RX0 111 yX0_addToCells, Cond.instanceMethod yX0_addToCells, Cond.selects RX0 yX0_addToCells yX0_addToCells, Cond.code yX0_addToCells cX0_addToCells 8 none, Cond.fieldLink RX0 60 "TheodoliteRow$Net" "from" "[I", Cond.fieldLink RX0 89 "TheodoliteRow$Net" "to" "[I"]
def wsX0_heightOf_r3 : List Cond := [Cond.fieldLink RX0 76 "TheodoliteRow$Net" "weight" "[I", Cond.fieldLink RX0 92 "TheodoliteRow$Net" "difference" "[I", Cond.methodLink RX0 121 yX0_addToRow, Cond.instanceMethod yX0_addToRow, Cond.selects RX0 yX0_addToRow yX0_addToRow, Cond.code yX0_addToRow cX0_addToRow 7 none, Cond.methodLink RX0 115 yX0_eliminate, Cond.instanceMethod yX0_eliminate, Cond.selects RX0 yX0_eliminate yX0_eliminate, Cond.code yX0_eliminate cX0_eliminate 7 none, Cond.methodLink RX0 125 yX0_clearColumn, Cond.instanceMethod yX0_clearColumn, Cond.selects RX0 yX0_clearColumn yX0_clearColumn, Cond.code yX0_clearColumn cX0_clearColumn 12 none, Cond.methodLink RX0 28 yX0_riseOf, Cond.instanceMethod yX0_riseOf, Cond.selects RX0 yX0_riseOf yX0_riseOf, Cond.code yX0_riseOf cX0_riseOf 3 (some .long), Cond.static yX4_roundedDown, Cond.initialized RX4, Cond.code yX4_roundedDown cX4_roundedDown 4 (some .long), Cond.methodLink RX4 179 yJ9_floorDiv_f86c9, Cond.static yJ9_floorDiv_f86c9, Cond.initialized RJ9]
def wsX0_heightOf_r4 : List Cond := [Cond.code yJ9_floorDiv_f86c9 cJ9_floorDiv_f86c9 6 (some .long)]
def wsX0_heightOf : List Cond := .code yX0_heightOf cX0_heightOf 4 (some .long) :: ((wsX0_heightOf_r1 ++ (wsX0_heightOf_r2 ++ (wsX0_heightOf_r3 ++ wsX0_heightOf_r4))) ++ wsX00 ++ wsX10)
def wsX0_freeHeightOf_r1 : List Cond := [Cond.fieldLink RX0 9 "TheodoliteRow$Adjustment" "net" "LTheodoliteRow$Net;", Cond.fieldLink RX0 51 "TheodoliteRow$Net" "stations" "I", Cond.fieldLink RX0 54 "TheodoliteRow$Adjustment" "unknowns" "I", Cond.constantLong RX0 45 (100), Cond.fieldLink RX0 41 "TheodoliteRow$Adjustment" "treeWeight" "J", Cond.methodLink RX0 24 yX0_solve, Cond.instanceMethod yX0_solve, Cond.selects RX0 yX0_solve yX0_solve, Cond.initialized RX0, Cond.code yX0_solve cX0_solve 4 none, Cond.fieldLink RX0 37 "TheodoliteRow$Adjustment" "datum" "I", Cond.fieldLink RX0 79 "TheodoliteRow$Net" "observations" "I", Cond.methodLink RX0 97 yX1_datumOf, Cond.instanceMethod yX1_datumOf, Cond.selects RX1 yX1_datumOf yX1_datumOf, Cond.initialized RX1, Cond.code yX1_datumOf cX1_datumOf 3 (some .int), Cond.fieldLink RX1 37 "TheodoliteRow$Net" "stations" "I", Cond.fieldLink RX1 9 "TheodoliteRow$Net" "isTold" "[Z", Cond.fieldLink RX1 19 "TheodoliteRow$Net" "lowest" "[I", Cond.methodLink RX1 60 yX1_areInOnePart, Cond.instanceMethod yX1_areInOnePart, Cond.selects RX1 yX1_areInOnePart yX1_areInOnePart, Cond.code yX1_areInOnePart cX1_areInOnePart 3 (some .boolean)]
def wsX0_freeHeightOf_r2 : List Cond := [Cond.methodLink RX0 101 yX0_numberUnknowns, Cond.instanceMethod yX0_numberUnknowns, Cond.selects RX0 yX0_numberUnknowns yX0_numberUnknowns, Cond.code yX0_numberUnknowns cX0_numberUnknowns 3 none, Cond.fieldLink RX0 15 "TheodoliteRow$Adjustment" "rowOf" "[I", Cond.methodLink RX0 118 yX1_areInOnePart, Cond.methodLink RX0 104 yX0_clearCells, Cond.instanceMethod yX0_clearCells, Cond.selects RX0 yX0_clearCells yX0_clearCells, Cond.code yX0_clearCells cX0_clearCells 3 none, Cond.fieldLink RX0 21 "TheodoliteRow$Adjustment" "cells" "[[J", Cond.methodLink RX0 107 yX1_isInPartOf, Cond.instanceMethod yX1_isInPartOf, Cond.selects RX1 yX1_isInPartOf yX1_isInPartOf, Cond.code yX1_isInPartOf cX1_isInPartOf 3 (some .boolean), Cond.fieldLink RX1 34 "TheodoliteRow$Net" "isWithdrawn" "[Z", Cond.fieldLink RX1 22 "TheodoliteRow$Net" "from" "[I", Cond.methodLink RX0 111 yX0_addToCells, Cond.instanceMethod yX0_addToCells, Cond.selects RX0 yX0_addToCells yX0_addToCells, Cond.code yX0_addToCells cX0_addToCells 8 none, Cond.fieldLink RX0 60 "TheodoliteRow$Net" "from" "[I", Cond.fieldLink RX0 89 "TheodoliteRow$Net" "to" "[I", Cond.fieldLink RX0 76 "TheodoliteRow$Net" "weight" "[I"]
def wsX0_freeHeightOf_r3 : List Cond := [Cond.fieldLink RX0 92 "TheodoliteRow$Net" "difference" "[I", Cond.methodLink RX0 121 yX0_addToRow, Cond.instanceMethod yX0_addToRow, Cond.selects RX0 yX0_addToRow yX0_addToRow, Cond.code yX0_addToRow cX0_addToRow 7 none, Cond.methodLink RX0 115 yX0_eliminate, Cond.instanceMethod yX0_eliminate, Cond.selects RX0 yX0_eliminate yX0_eliminate, Cond.code yX0_eliminate cX0_eliminate 7 none, Cond.methodLink RX0 125 yX0_clearColumn, Cond.instanceMethod yX0_clearColumn, Cond.selects RX0 yX0_clearColumn yX0_clearColumn, Cond.code yX0_clearColumn cX0_clearColumn 12 none, Cond.methodLink RX0 28 yX0_riseOf, Cond.instanceMethod yX0_riseOf, Cond.selects RX0 yX0_riseOf yX0_riseOf, Cond.code yX0_riseOf cX0_riseOf 3 (some .long), Cond.static yX4_roundedDown, Cond.initialized RX4, Cond.code yX4_roundedDown cX4_roundedDown 4 (some .long), Cond.methodLink RX4 179 yJ9_floorDiv_f86c9, Cond.static yJ9_floorDiv_f86c9, Cond.initialized RJ9, Cond.code yJ9_floorDiv_f86c9 cJ9_floorDiv_f86c9 6 (some .long)]
def wsX0_freeHeightOf : List Cond := .code yX0_freeHeightOf cX0_freeHeightOf 6 (some .long) :: ((wsX0_freeHeightOf_r1 ++ (wsX0_freeHeightOf_r2 ++ wsX0_freeHeightOf_r3)) ++ wsX00 ++ wsX10)
def wsX0_treeWeightOf_r1 : List Cond := [Cond.fieldLink RX0 41 "TheodoliteRow$Adjustment" "treeWeight" "J", Cond.methodLink RX0 24 yX0_solve, Cond.instanceMethod yX0_solve, Cond.selects RX0 yX0_solve yX0_solve, Cond.initialized RX0, Cond.code yX0_solve cX0_solve 4 none, Cond.fieldLink RX0 9 "TheodoliteRow$Adjustment" "net" "LTheodoliteRow$Net;", Cond.fieldLink RX0 37 "TheodoliteRow$Adjustment" "datum" "I", Cond.fieldLink RX0 79 "TheodoliteRow$Net" "observations" "I", Cond.methodLink RX0 97 yX1_datumOf, Cond.instanceMethod yX1_datumOf, Cond.selects RX1 yX1_datumOf yX1_datumOf, Cond.initialized RX1, Cond.code yX1_datumOf cX1_datumOf 3 (some .int), Cond.fieldLink RX1 37 "TheodoliteRow$Net" "stations" "I", Cond.fieldLink RX1 9 "TheodoliteRow$Net" "isTold" "[Z", Cond.fieldLink RX1 19 "TheodoliteRow$Net" "lowest" "[I", Cond.methodLink RX1 60 yX1_areInOnePart, Cond.instanceMethod yX1_areInOnePart, Cond.selects RX1 yX1_areInOnePart yX1_areInOnePart, Cond.code yX1_areInOnePart cX1_areInOnePart 3 (some .boolean), Cond.methodLink RX0 101 yX0_numberUnknowns, Cond.instanceMethod yX0_numberUnknowns, Cond.selects RX0 yX0_numberUnknowns yX0_numberUnknowns]
def wsX0_treeWeightOf_r2 : List Cond := [Cond.code yX0_numberUnknowns cX0_numberUnknowns 3 none, Cond.fieldLink RX0 54 "TheodoliteRow$Adjustment" "unknowns" "I", Cond.fieldLink RX0 51 "TheodoliteRow$Net" "stations" "I", Cond.fieldLink RX0 15 "TheodoliteRow$Adjustment" "rowOf" "[I", Cond.methodLink RX0 118 yX1_areInOnePart, Cond.methodLink RX0 104 yX0_clearCells, Cond.instanceMethod yX0_clearCells, Cond.selects RX0 yX0_clearCells yX0_clearCells, Cond.code yX0_clearCells cX0_clearCells 3 none, Cond.fieldLink RX0 21 "TheodoliteRow$Adjustment" "cells" "[[J", Cond.methodLink RX0 107 yX1_isInPartOf, Cond.instanceMethod yX1_isInPartOf, Cond.selects RX1 yX1_isInPartOf yX1_isInPartOf, Cond.code yX1_isInPartOf cX1_isInPartOf 3 (some .boolean), Cond.fieldLink RX1 34 "TheodoliteRow$Net" "isWithdrawn" "[Z", Cond.fieldLink RX1 22 "TheodoliteRow$Net" "from" "[I", Cond.methodLink RX0 111 yX0_addToCells, Cond.instanceMethod yX0_addToCells, Cond.selects RX0 yX0_addToCells yX0_addToCells, Cond.code yX0_addToCells cX0_addToCells 8 none, Cond.fieldLink RX0 60 "TheodoliteRow$Net" "from" "[I", Cond.fieldLink RX0 89 "TheodoliteRow$Net" "to" "[I", Cond.fieldLink RX0 76 "TheodoliteRow$Net" "weight" "[I", Cond.fieldLink RX0 92 "TheodoliteRow$Net" "difference" "[I"]
def wsX0_treeWeightOf_r3 : List Cond := [Cond.methodLink RX0 121 yX0_addToRow, Cond.instanceMethod yX0_addToRow, Cond.selects RX0 yX0_addToRow yX0_addToRow, Cond.code yX0_addToRow cX0_addToRow 7 none, Cond.methodLink RX0 115 yX0_eliminate, Cond.instanceMethod yX0_eliminate, Cond.selects RX0 yX0_eliminate yX0_eliminate, Cond.code yX0_eliminate cX0_eliminate 7 none, Cond.methodLink RX0 125 yX0_clearColumn, Cond.instanceMethod yX0_clearColumn, Cond.selects RX0 yX0_clearColumn yX0_clearColumn, Cond.code yX0_clearColumn cX0_clearColumn 12 none]
def wsX0_treeWeightOf : List Cond := .code yX0_treeWeightOf cX0_treeWeightOf 2 (some .long) :: ((wsX0_treeWeightOf_r1 ++ (wsX0_treeWeightOf_r2 ++ wsX0_treeWeightOf_r3)) ++ wsX00 ++ wsX10)
def wsX0_misfitOf_r1 : List Cond := [Cond.fieldLink RX0 9 "TheodoliteRow$Adjustment" "net" "LTheodoliteRow$Net;", Cond.fieldLink RX0 60 "TheodoliteRow$Net" "from" "[I", Cond.fieldLink RX0 89 "TheodoliteRow$Net" "to" "[I", Cond.fieldLink RX0 92 "TheodoliteRow$Net" "difference" "[I", Cond.fieldLink RX0 41 "TheodoliteRow$Adjustment" "treeWeight" "J", Cond.methodLink RX0 24 yX0_solve, Cond.instanceMethod yX0_solve, Cond.selects RX0 yX0_solve yX0_solve, Cond.initialized RX0, Cond.code yX0_solve cX0_solve 4 none, Cond.fieldLink RX0 37 "TheodoliteRow$Adjustment" "datum" "I", Cond.fieldLink RX0 79 "TheodoliteRow$Net" "observations" "I", Cond.methodLink RX0 97 yX1_datumOf, Cond.instanceMethod yX1_datumOf, Cond.selects RX1 yX1_datumOf yX1_datumOf, Cond.initialized RX1, Cond.code yX1_datumOf cX1_datumOf 3 (some .int), Cond.fieldLink RX1 37 "TheodoliteRow$Net" "stations" "I", Cond.fieldLink RX1 9 "TheodoliteRow$Net" "isTold" "[Z", Cond.fieldLink RX1 19 "TheodoliteRow$Net" "lowest" "[I", Cond.methodLink RX1 60 yX1_areInOnePart, Cond.instanceMethod yX1_areInOnePart, Cond.selects RX1 yX1_areInOnePart yX1_areInOnePart, Cond.code yX1_areInOnePart cX1_areInOnePart 3 (some .boolean)]
def wsX0_misfitOf_r2 : List Cond := [Cond.methodLink RX0 101 yX0_numberUnknowns, Cond.instanceMethod yX0_numberUnknowns, Cond.selects RX0 yX0_numberUnknowns yX0_numberUnknowns, Cond.code yX0_numberUnknowns cX0_numberUnknowns 3 none, Cond.fieldLink RX0 54 "TheodoliteRow$Adjustment" "unknowns" "I", Cond.fieldLink RX0 51 "TheodoliteRow$Net" "stations" "I", Cond.fieldLink RX0 15 "TheodoliteRow$Adjustment" "rowOf" "[I", Cond.methodLink RX0 118 yX1_areInOnePart, Cond.methodLink RX0 104 yX0_clearCells, Cond.instanceMethod yX0_clearCells, Cond.selects RX0 yX0_clearCells yX0_clearCells, Cond.code yX0_clearCells cX0_clearCells 3 none, Cond.fieldLink RX0 21 "TheodoliteRow$Adjustment" "cells" "[[J", Cond.methodLink RX0 107 yX1_isInPartOf, Cond.instanceMethod yX1_isInPartOf, Cond.selects RX1 yX1_isInPartOf yX1_isInPartOf, Cond.code yX1_isInPartOf cX1_isInPartOf 3 (some .boolean), Cond.fieldLink RX1 34 "TheodoliteRow$Net" "isWithdrawn" "[Z", Cond.fieldLink RX1 22 "TheodoliteRow$Net" "from" "[I", Cond.methodLink RX0 111 yX0_addToCells, Cond.instanceMethod yX0_addToCells, Cond.selects RX0 yX0_addToCells yX0_addToCells, Cond.code yX0_addToCells cX0_addToCells 8 none, Cond.fieldLink RX0 76 "TheodoliteRow$Net" "weight" "[I"]
def wsX0_misfitOf_r3 : List Cond := [Cond.methodLink RX0 121 yX0_addToRow, Cond.instanceMethod yX0_addToRow, Cond.selects RX0 yX0_addToRow yX0_addToRow, Cond.code yX0_addToRow cX0_addToRow 7 none, Cond.methodLink RX0 115 yX0_eliminate, Cond.instanceMethod yX0_eliminate, Cond.selects RX0 yX0_eliminate yX0_eliminate, Cond.code yX0_eliminate cX0_eliminate 7 none, Cond.methodLink RX0 125 yX0_clearColumn, Cond.instanceMethod yX0_clearColumn, Cond.selects RX0 yX0_clearColumn yX0_clearColumn, Cond.code yX0_clearColumn cX0_clearColumn 12 none, Cond.methodLink RX0 28 yX0_riseOf, Cond.instanceMethod yX0_riseOf, Cond.selects RX0 yX0_riseOf yX0_riseOf, Cond.code yX0_riseOf cX0_riseOf 3 (some .long)]
def wsX0_misfitOf : List Cond := .code yX0_misfitOf cX0_misfitOf 3 (some .long) :: ((wsX0_misfitOf_r1 ++ (wsX0_misfitOf_r2 ++ wsX0_misfitOf_r3)) ++ wsX00 ++ wsX10)
def wsX0_residualOf_r1 : List Cond := [Cond.constantLong RX0 45 (100), Cond.fieldLink RX0 41 "TheodoliteRow$Adjustment" "treeWeight" "J", Cond.methodLink RX0 57 yX0_misfitOf, Cond.instanceMethod yX0_misfitOf, Cond.selects RX0 yX0_misfitOf yX0_misfitOf, Cond.initialized RX0, Cond.code yX0_misfitOf cX0_misfitOf 3 (some .long), Cond.fieldLink RX0 9 "TheodoliteRow$Adjustment" "net" "LTheodoliteRow$Net;", Cond.fieldLink RX0 60 "TheodoliteRow$Net" "from" "[I", Cond.fieldLink RX0 89 "TheodoliteRow$Net" "to" "[I", Cond.fieldLink RX0 92 "TheodoliteRow$Net" "difference" "[I", Cond.methodLink RX0 24 yX0_solve, Cond.instanceMethod yX0_solve, Cond.selects RX0 yX0_solve yX0_solve, Cond.code yX0_solve cX0_solve 4 none, Cond.fieldLink RX0 37 "TheodoliteRow$Adjustment" "datum" "I", Cond.fieldLink RX0 79 "TheodoliteRow$Net" "observations" "I", Cond.methodLink RX0 97 yX1_datumOf, Cond.instanceMethod yX1_datumOf, Cond.selects RX1 yX1_datumOf yX1_datumOf, Cond.initialized RX1, Cond.code yX1_datumOf cX1_datumOf 3 (some .int), Cond.fieldLink RX1 37 "TheodoliteRow$Net" "stations" "I", Cond.fieldLink RX1 9 "TheodoliteRow$Net" "isTold" "[Z"]
def wsX0_residualOf_r2 : List Cond := [Cond.fieldLink RX1 19 "TheodoliteRow$Net" "lowest" "[I", Cond.methodLink RX1 60 yX1_areInOnePart, Cond.instanceMethod yX1_areInOnePart, Cond.selects RX1 yX1_areInOnePart yX1_areInOnePart, Cond.code yX1_areInOnePart cX1_areInOnePart 3 (some .boolean), Cond.methodLink RX0 101 yX0_numberUnknowns, Cond.instanceMethod yX0_numberUnknowns, Cond.selects RX0 yX0_numberUnknowns yX0_numberUnknowns, Cond.code yX0_numberUnknowns cX0_numberUnknowns 3 none, Cond.fieldLink RX0 54 "TheodoliteRow$Adjustment" "unknowns" "I", Cond.fieldLink RX0 51 "TheodoliteRow$Net" "stations" "I", Cond.fieldLink RX0 15 "TheodoliteRow$Adjustment" "rowOf" "[I", Cond.methodLink RX0 118 yX1_areInOnePart, Cond.methodLink RX0 104 yX0_clearCells, Cond.instanceMethod yX0_clearCells, Cond.selects RX0 yX0_clearCells yX0_clearCells, Cond.code yX0_clearCells cX0_clearCells 3 none, Cond.fieldLink RX0 21 "TheodoliteRow$Adjustment" "cells" "[[J", Cond.methodLink RX0 107 yX1_isInPartOf, Cond.instanceMethod yX1_isInPartOf, Cond.selects RX1 yX1_isInPartOf yX1_isInPartOf, Cond.code yX1_isInPartOf cX1_isInPartOf 3 (some .boolean), Cond.fieldLink RX1 34 "TheodoliteRow$Net" "isWithdrawn" "[Z", Cond.fieldLink RX1 22 "TheodoliteRow$Net" "from" "[I"]
def wsX0_residualOf_r3 : List Cond := [Cond.methodLink RX0 111 yX0_addToCells, Cond.instanceMethod yX0_addToCells, Cond.selects RX0 yX0_addToCells yX0_addToCells, Cond.code yX0_addToCells cX0_addToCells 8 none, Cond.fieldLink RX0 76 "TheodoliteRow$Net" "weight" "[I", Cond.methodLink RX0 121 yX0_addToRow, Cond.instanceMethod yX0_addToRow, Cond.selects RX0 yX0_addToRow yX0_addToRow, Cond.code yX0_addToRow cX0_addToRow 7 none, Cond.methodLink RX0 115 yX0_eliminate, Cond.instanceMethod yX0_eliminate, Cond.selects RX0 yX0_eliminate yX0_eliminate, Cond.code yX0_eliminate cX0_eliminate 7 none, Cond.methodLink RX0 125 yX0_clearColumn, Cond.instanceMethod yX0_clearColumn, Cond.selects RX0 yX0_clearColumn yX0_clearColumn, Cond.code yX0_clearColumn cX0_clearColumn 12 none, Cond.methodLink RX0 28 yX0_riseOf, Cond.instanceMethod yX0_riseOf, Cond.selects RX0 yX0_riseOf yX0_riseOf, Cond.code yX0_riseOf cX0_riseOf 3 (some .long), Cond.static yX4_roundedDown, Cond.initialized RX4, Cond.code yX4_roundedDown cX4_roundedDown 4 (some .long)]
def wsX0_residualOf_r4 : List Cond := [Cond.methodLink RX4 179 yJ9_floorDiv_f86c9, Cond.static yJ9_floorDiv_f86c9, Cond.initialized RJ9, Cond.code yJ9_floorDiv_f86c9 cJ9_floorDiv_f86c9 6 (some .long)]
def wsX0_residualOf : List Cond := .code yX0_residualOf cX0_residualOf 4 (some .long) :: ((wsX0_residualOf_r1 ++ (wsX0_residualOf_r2 ++ (wsX0_residualOf_r3 ++ wsX0_residualOf_r4))) ++ wsX00 ++ wsX10)
def wsX0_checkAgainst_r1 : List Cond := [Cond.fieldLink RX0 9 "TheodoliteRow$Adjustment" "net" "LTheodoliteRow$Net;", Cond.fieldLink RX0 60 "TheodoliteRow$Net" "from" "[I", Cond.constantLong RX0 95 (1000), Cond.fieldLink RX0 41 "TheodoliteRow$Adjustment" "treeWeight" "J", Cond.methodLink RX0 24 yX0_solve, Cond.instanceMethod yX0_solve, Cond.selects RX0 yX0_solve yX0_solve, Cond.initialized RX0, Cond.code yX0_solve cX0_solve 4 none, Cond.fieldLink RX0 37 "TheodoliteRow$Adjustment" "datum" "I", Cond.fieldLink RX0 79 "TheodoliteRow$Net" "observations" "I", Cond.methodLink RX0 97 yX1_datumOf, Cond.instanceMethod yX1_datumOf, Cond.selects RX1 yX1_datumOf yX1_datumOf, Cond.initialized RX1, Cond.code yX1_datumOf cX1_datumOf 3 (some .int), Cond.fieldLink RX1 37 "TheodoliteRow$Net" "stations" "I", Cond.fieldLink RX1 9 "TheodoliteRow$Net" "isTold" "[Z", Cond.fieldLink RX1 19 "TheodoliteRow$Net" "lowest" "[I", Cond.methodLink RX1 60 yX1_areInOnePart, Cond.instanceMethod yX1_areInOnePart, Cond.selects RX1 yX1_areInOnePart yX1_areInOnePart, Cond.code yX1_areInOnePart cX1_areInOnePart 3 (some .boolean), Cond.methodLink RX0 101 yX0_numberUnknowns]
def wsX0_checkAgainst_r2 : List Cond := [Cond.instanceMethod yX0_numberUnknowns, Cond.selects RX0 yX0_numberUnknowns yX0_numberUnknowns, Cond.code yX0_numberUnknowns cX0_numberUnknowns 3 none, Cond.fieldLink RX0 54 "TheodoliteRow$Adjustment" "unknowns" "I", Cond.fieldLink RX0 51 "TheodoliteRow$Net" "stations" "I", Cond.fieldLink RX0 15 "TheodoliteRow$Adjustment" "rowOf" "[I", Cond.methodLink RX0 118 yX1_areInOnePart, Cond.methodLink RX0 104 yX0_clearCells, Cond.instanceMethod yX0_clearCells, Cond.selects RX0 yX0_clearCells yX0_clearCells, Cond.code yX0_clearCells cX0_clearCells 3 none, Cond.fieldLink RX0 21 "TheodoliteRow$Adjustment" "cells" "[[J", Cond.methodLink RX0 107 yX1_isInPartOf, Cond.instanceMethod yX1_isInPartOf, Cond.selects RX1 yX1_isInPartOf yX1_isInPartOf, Cond.code yX1_isInPartOf cX1_isInPartOf 3 (some .boolean), Cond.fieldLink RX1 34 "TheodoliteRow$Net" "isWithdrawn" "[Z", Cond.fieldLink RX1 22 "TheodoliteRow$Net" "from" "[I", Cond.methodLink RX0 111 yX0_addToCells, Cond.instanceMethod yX0_addToCells, Cond.selects RX0 yX0_addToCells yX0_addToCells, Cond.code yX0_addToCells cX0_addToCells 8 none, Cond.fieldLink RX0 89 "TheodoliteRow$Net" "to" "[I", Cond.fieldLink RX0 76 "TheodoliteRow$Net" "weight" "[I"]
def wsX0_checkAgainst_r3 : List Cond := [Cond.fieldLink RX0 92 "TheodoliteRow$Net" "difference" "[I", Cond.methodLink RX0 121 yX0_addToRow, Cond.instanceMethod yX0_addToRow, Cond.selects RX0 yX0_addToRow yX0_addToRow, Cond.code yX0_addToRow cX0_addToRow 7 none, Cond.methodLink RX0 115 yX0_eliminate, Cond.instanceMethod yX0_eliminate, Cond.selects RX0 yX0_eliminate yX0_eliminate, Cond.code yX0_eliminate cX0_eliminate 7 none, Cond.methodLink RX0 125 yX0_clearColumn, Cond.instanceMethod yX0_clearColumn, Cond.selects RX0 yX0_clearColumn yX0_clearColumn, Cond.code yX0_clearColumn cX0_clearColumn 12 none, Cond.static yX4_roundedDown, Cond.initialized RX4, Cond.code yX4_roundedDown cX4_roundedDown 4 (some .long), Cond.methodLink RX4 179 yJ9_floorDiv_f86c9, Cond.static yJ9_floorDiv_f86c9, Cond.initialized RJ9, Cond.code yJ9_floorDiv_f86c9 cJ9_floorDiv_f86c9 6 (some .long)]
def wsX0_checkAgainst : List Cond := .code yX0_checkAgainst cX0_checkAgainst 4 (some .int) :: ((wsX0_checkAgainst_r1 ++ (wsX0_checkAgainst_r2 ++ wsX0_checkAgainst_r3)) ++ wsX00 ++ wsX10)
def wsX0_checkOf_r1 : List Cond := [Cond.fieldLink RX0 9 "TheodoliteRow$Adjustment" "net" "LTheodoliteRow$Net;", Cond.fieldLink RX0 60 "TheodoliteRow$Net" "from" "[I", Cond.methodLink RX0 63 yX0_treeWeightOf, Cond.instanceMethod yX0_treeWeightOf, Cond.selects RX0 yX0_treeWeightOf yX0_treeWeightOf, Cond.initialized RX0, Cond.code yX0_treeWeightOf cX0_treeWeightOf 2 (some .long), Cond.fieldLink RX0 41 "TheodoliteRow$Adjustment" "treeWeight" "J", Cond.methodLink RX0 24 yX0_solve, Cond.instanceMethod yX0_solve, Cond.selects RX0 yX0_solve yX0_solve, Cond.code yX0_solve cX0_solve 4 none, Cond.fieldLink RX0 37 "TheodoliteRow$Adjustment" "datum" "I", Cond.fieldLink RX0 79 "TheodoliteRow$Net" "observations" "I", Cond.methodLink RX0 97 yX1_datumOf, Cond.instanceMethod yX1_datumOf, Cond.selects RX1 yX1_datumOf yX1_datumOf, Cond.initialized RX1, Cond.code yX1_datumOf cX1_datumOf 3 (some .int), Cond.fieldLink RX1 37 "TheodoliteRow$Net" "stations" "I", Cond.fieldLink RX1 9 "TheodoliteRow$Net" "isTold" "[Z", Cond.fieldLink RX1 19 "TheodoliteRow$Net" "lowest" "[I", Cond.methodLink RX1 60 yX1_areInOnePart, Cond.instanceMethod yX1_areInOnePart]
def wsX0_checkOf_r2 : List Cond := [Cond.selects RX1 yX1_areInOnePart yX1_areInOnePart, Cond.code yX1_areInOnePart cX1_areInOnePart 3 (some .boolean), Cond.methodLink RX0 101 yX0_numberUnknowns, Cond.instanceMethod yX0_numberUnknowns, Cond.selects RX0 yX0_numberUnknowns yX0_numberUnknowns, Cond.code yX0_numberUnknowns cX0_numberUnknowns 3 none, Cond.fieldLink RX0 54 "TheodoliteRow$Adjustment" "unknowns" "I", Cond.fieldLink RX0 51 "TheodoliteRow$Net" "stations" "I", Cond.fieldLink RX0 15 "TheodoliteRow$Adjustment" "rowOf" "[I", Cond.methodLink RX0 118 yX1_areInOnePart, Cond.methodLink RX0 104 yX0_clearCells, Cond.instanceMethod yX0_clearCells, Cond.selects RX0 yX0_clearCells yX0_clearCells, Cond.code yX0_clearCells cX0_clearCells 3 none, Cond.fieldLink RX0 21 "TheodoliteRow$Adjustment" "cells" "[[J", Cond.methodLink RX0 107 yX1_isInPartOf, Cond.instanceMethod yX1_isInPartOf, Cond.selects RX1 yX1_isInPartOf yX1_isInPartOf, Cond.code yX1_isInPartOf cX1_isInPartOf 3 (some .boolean), Cond.fieldLink RX1 34 "TheodoliteRow$Net" "isWithdrawn" "[Z", Cond.fieldLink RX1 22 "TheodoliteRow$Net" "from" "[I", Cond.methodLink RX0 111 yX0_addToCells, Cond.instanceMethod yX0_addToCells, Cond.selects RX0 yX0_addToCells yX0_addToCells]
def wsX0_checkOf_r3 : List Cond := [Cond.code yX0_addToCells cX0_addToCells 8 none, Cond.fieldLink RX0 89 "TheodoliteRow$Net" "to" "[I", Cond.fieldLink RX0 76 "TheodoliteRow$Net" "weight" "[I", Cond.fieldLink RX0 92 "TheodoliteRow$Net" "difference" "[I", Cond.methodLink RX0 121 yX0_addToRow, Cond.instanceMethod yX0_addToRow, Cond.selects RX0 yX0_addToRow yX0_addToRow, Cond.code yX0_addToRow cX0_addToRow 7 none, Cond.methodLink RX0 115 yX0_eliminate, Cond.instanceMethod yX0_eliminate, Cond.selects RX0 yX0_eliminate yX0_eliminate, Cond.code yX0_eliminate cX0_eliminate 7 none, Cond.methodLink RX0 125 yX0_clearColumn, Cond.instanceMethod yX0_clearColumn, Cond.selects RX0 yX0_clearColumn yX0_clearColumn, Cond.code yX0_clearColumn cX0_clearColumn 12 none, Cond.methodLink RX0 66 yX0_checkAgainst, Cond.instanceMethod yX0_checkAgainst, Cond.selects RX0 yX0_checkAgainst yX0_checkAgainst, Cond.code yX0_checkAgainst cX0_checkAgainst 4 (some .int), Cond.constantLong RX0 95 (1000), Cond.static yX4_roundedDown, Cond.initialized RX4, Cond.code yX4_roundedDown cX4_roundedDown 4 (some .long)]
def wsX0_checkOf_r4 : List Cond := [Cond.methodLink RX4 179 yJ9_floorDiv_f86c9, Cond.static yJ9_floorDiv_f86c9, Cond.initialized RJ9, Cond.code yJ9_floorDiv_f86c9 cJ9_floorDiv_f86c9 6 (some .long)]
def wsX0_checkOf : List Cond := .code yX0_checkOf cX0_checkOf 2 (some .int) :: ((wsX0_checkOf_r1 ++ (wsX0_checkOf_r2 ++ (wsX0_checkOf_r3 ++ wsX0_checkOf_r4))) ++ wsX00 ++ wsX10)
def wsX0_scoreOf_r1 : List Cond := [Cond.constantLong RX0 45 (100), Cond.methodLink RX0 70 Lib.MathLoose.abs_long.x, Cond.static Lib.MathLoose.abs_long.x, Cond.initialized "java/lang/Math", Cond.code Lib.MathLoose.abs_long.x Lib.MathLoose.abs_long.code 2 (some .long), Cond.fieldLink RX0 41 "TheodoliteRow$Adjustment" "treeWeight" "J", Cond.fieldLink RX0 9 "TheodoliteRow$Adjustment" "net" "LTheodoliteRow$Net;", Cond.fieldLink RX0 76 "TheodoliteRow$Net" "weight" "[I", Cond.methodLink RX0 57 yX0_misfitOf, Cond.instanceMethod yX0_misfitOf, Cond.selects RX0 yX0_misfitOf yX0_misfitOf, Cond.initialized RX0, Cond.code yX0_misfitOf cX0_misfitOf 3 (some .long), Cond.fieldLink RX0 60 "TheodoliteRow$Net" "from" "[I", Cond.fieldLink RX0 89 "TheodoliteRow$Net" "to" "[I", Cond.fieldLink RX0 92 "TheodoliteRow$Net" "difference" "[I", Cond.methodLink RX0 24 yX0_solve, Cond.instanceMethod yX0_solve, Cond.selects RX0 yX0_solve yX0_solve, Cond.code yX0_solve cX0_solve 4 none, Cond.fieldLink RX0 37 "TheodoliteRow$Adjustment" "datum" "I", Cond.fieldLink RX0 79 "TheodoliteRow$Net" "observations" "I", Cond.methodLink RX0 97 yX1_datumOf, Cond.instanceMethod yX1_datumOf]
def wsX0_scoreOf_r2 : List Cond := [Cond.selects RX1 yX1_datumOf yX1_datumOf, Cond.initialized RX1, Cond.code yX1_datumOf cX1_datumOf 3 (some .int), Cond.fieldLink RX1 37 "TheodoliteRow$Net" "stations" "I", Cond.fieldLink RX1 9 "TheodoliteRow$Net" "isTold" "[Z", Cond.fieldLink RX1 19 "TheodoliteRow$Net" "lowest" "[I", Cond.methodLink RX1 60 yX1_areInOnePart, Cond.instanceMethod yX1_areInOnePart, Cond.selects RX1 yX1_areInOnePart yX1_areInOnePart, Cond.code yX1_areInOnePart cX1_areInOnePart 3 (some .boolean), Cond.methodLink RX0 101 yX0_numberUnknowns, Cond.instanceMethod yX0_numberUnknowns, Cond.selects RX0 yX0_numberUnknowns yX0_numberUnknowns, Cond.code yX0_numberUnknowns cX0_numberUnknowns 3 none, Cond.fieldLink RX0 54 "TheodoliteRow$Adjustment" "unknowns" "I", Cond.fieldLink RX0 51 "TheodoliteRow$Net" "stations" "I", Cond.fieldLink RX0 15 "TheodoliteRow$Adjustment" "rowOf" "[I", Cond.methodLink RX0 118 yX1_areInOnePart, Cond.methodLink RX0 104 yX0_clearCells, Cond.instanceMethod yX0_clearCells, Cond.selects RX0 yX0_clearCells yX0_clearCells, Cond.code yX0_clearCells cX0_clearCells 3 none, Cond.fieldLink RX0 21 "TheodoliteRow$Adjustment" "cells" "[[J", Cond.methodLink RX0 107 yX1_isInPartOf]
def wsX0_scoreOf_r3 : List Cond := [Cond.instanceMethod yX1_isInPartOf, Cond.selects RX1 yX1_isInPartOf yX1_isInPartOf, Cond.code yX1_isInPartOf cX1_isInPartOf 3 (some .boolean), Cond.fieldLink RX1 34 "TheodoliteRow$Net" "isWithdrawn" "[Z", Cond.fieldLink RX1 22 "TheodoliteRow$Net" "from" "[I", Cond.methodLink RX0 111 yX0_addToCells, Cond.instanceMethod yX0_addToCells, Cond.selects RX0 yX0_addToCells yX0_addToCells, Cond.code yX0_addToCells cX0_addToCells 8 none, Cond.methodLink RX0 121 yX0_addToRow, Cond.instanceMethod yX0_addToRow, Cond.selects RX0 yX0_addToRow yX0_addToRow, Cond.code yX0_addToRow cX0_addToRow 7 none, Cond.methodLink RX0 115 yX0_eliminate, Cond.instanceMethod yX0_eliminate, Cond.selects RX0 yX0_eliminate yX0_eliminate, Cond.code yX0_eliminate cX0_eliminate 7 none, Cond.methodLink RX0 125 yX0_clearColumn, Cond.instanceMethod yX0_clearColumn, Cond.selects RX0 yX0_clearColumn yX0_clearColumn, Cond.code yX0_clearColumn cX0_clearColumn 12 none, Cond.methodLink RX0 28 yX0_riseOf, Cond.instanceMethod yX0_riseOf, Cond.selects RX0 yX0_riseOf yX0_riseOf]
def wsX0_scoreOf_r4 : List Cond := [Cond.code yX0_riseOf cX0_riseOf 3 (some .long), Cond.static yX4_roundedDown, Cond.initialized RX4, Cond.code yX4_roundedDown cX4_roundedDown 4 (some .long), Cond.methodLink RX4 179 yJ9_floorDiv_f86c9, Cond.static yJ9_floorDiv_f86c9, Cond.initialized RJ9, Cond.code yJ9_floorDiv_f86c9 cJ9_floorDiv_f86c9 6 (some .long), Cond.methodLink RX0 66 yX0_checkAgainst, Cond.instanceMethod yX0_checkAgainst, Cond.selects RX0 yX0_checkAgainst yX0_checkAgainst, Cond.code yX0_checkAgainst cX0_checkAgainst 4 (some .int), Cond.constantLong RX0 95 (1000)]
def wsX0_scoreOf : List Cond := .code yX0_scoreOf cX0_scoreOf 7 (some .long) :: ((wsX0_scoreOf_r1 ++ (wsX0_scoreOf_r2 ++ (wsX0_scoreOf_r3 ++ wsX0_scoreOf_r4))) ++ wsX00 ++ wsX10)
def wsX0_worstObservation_r1 : List Cond := [Cond.fieldLink RX0 9 "TheodoliteRow$Adjustment" "net" "LTheodoliteRow$Net;", Cond.fieldLink RX0 79 "TheodoliteRow$Net" "observations" "I", Cond.fieldLink RX0 82 "TheodoliteRow$Net" "isWithdrawn" "[Z", Cond.methodLink RX0 86 yX0_scoreOf, Cond.instanceMethod yX0_scoreOf, Cond.selects RX0 yX0_scoreOf yX0_scoreOf, Cond.initialized RX0, Cond.code yX0_scoreOf cX0_scoreOf 7 (some .long), Cond.constantLong RX0 45 (100), Cond.methodLink RX0 70 Lib.MathLoose.abs_long.x, Cond.static Lib.MathLoose.abs_long.x, Cond.initialized "java/lang/Math", Cond.code Lib.MathLoose.abs_long.x Lib.MathLoose.abs_long.code 2 (some .long), Cond.fieldLink RX0 41 "TheodoliteRow$Adjustment" "treeWeight" "J", Cond.fieldLink RX0 76 "TheodoliteRow$Net" "weight" "[I", Cond.methodLink RX0 57 yX0_misfitOf, Cond.instanceMethod yX0_misfitOf, Cond.selects RX0 yX0_misfitOf yX0_misfitOf, Cond.code yX0_misfitOf cX0_misfitOf 3 (some .long), Cond.fieldLink RX0 60 "TheodoliteRow$Net" "from" "[I", Cond.fieldLink RX0 89 "TheodoliteRow$Net" "to" "[I", Cond.fieldLink RX0 92 "TheodoliteRow$Net" "difference" "[I", Cond.methodLink RX0 24 yX0_solve, Cond.instanceMethod yX0_solve]
def wsX0_worstObservation_r2 : List Cond := [Cond.selects RX0 yX0_solve yX0_solve, Cond.code yX0_solve cX0_solve 4 none, Cond.fieldLink RX0 37 "TheodoliteRow$Adjustment" "datum" "I", Cond.methodLink RX0 97 yX1_datumOf, Cond.instanceMethod yX1_datumOf, Cond.selects RX1 yX1_datumOf yX1_datumOf, Cond.initialized RX1, Cond.code yX1_datumOf cX1_datumOf 3 (some .int), Cond.fieldLink RX1 37 "TheodoliteRow$Net" "stations" "I", Cond.fieldLink RX1 9 "TheodoliteRow$Net" "isTold" "[Z", Cond.fieldLink RX1 19 "TheodoliteRow$Net" "lowest" "[I", Cond.methodLink RX1 60 yX1_areInOnePart, Cond.instanceMethod yX1_areInOnePart, Cond.selects RX1 yX1_areInOnePart yX1_areInOnePart, Cond.code yX1_areInOnePart cX1_areInOnePart 3 (some .boolean), Cond.methodLink RX0 101 yX0_numberUnknowns, Cond.instanceMethod yX0_numberUnknowns, Cond.selects RX0 yX0_numberUnknowns yX0_numberUnknowns, Cond.code yX0_numberUnknowns cX0_numberUnknowns 3 none, Cond.fieldLink RX0 54 "TheodoliteRow$Adjustment" "unknowns" "I", Cond.fieldLink RX0 51 "TheodoliteRow$Net" "stations" "I", Cond.fieldLink RX0 15 "TheodoliteRow$Adjustment" "rowOf" "[I", Cond.methodLink RX0 118 yX1_areInOnePart, Cond.methodLink RX0 104 yX0_clearCells]
def wsX0_worstObservation_r3 : List Cond := [Cond.instanceMethod yX0_clearCells, Cond.selects RX0 yX0_clearCells yX0_clearCells, Cond.code yX0_clearCells cX0_clearCells 3 none, Cond.fieldLink RX0 21 "TheodoliteRow$Adjustment" "cells" "[[J", Cond.methodLink RX0 107 yX1_isInPartOf, Cond.instanceMethod yX1_isInPartOf, Cond.selects RX1 yX1_isInPartOf yX1_isInPartOf, Cond.code yX1_isInPartOf cX1_isInPartOf 3 (some .boolean), Cond.fieldLink RX1 34 "TheodoliteRow$Net" "isWithdrawn" "[Z", Cond.fieldLink RX1 22 "TheodoliteRow$Net" "from" "[I", Cond.methodLink RX0 111 yX0_addToCells, Cond.instanceMethod yX0_addToCells, Cond.selects RX0 yX0_addToCells yX0_addToCells, Cond.code yX0_addToCells cX0_addToCells 8 none, Cond.methodLink RX0 121 yX0_addToRow, Cond.instanceMethod yX0_addToRow, Cond.selects RX0 yX0_addToRow yX0_addToRow, Cond.code yX0_addToRow cX0_addToRow 7 none, Cond.methodLink RX0 115 yX0_eliminate, Cond.instanceMethod yX0_eliminate, Cond.selects RX0 yX0_eliminate yX0_eliminate, Cond.code yX0_eliminate cX0_eliminate 7 none, Cond.methodLink RX0 125 yX0_clearColumn, Cond.instanceMethod yX0_clearColumn]
def wsX0_worstObservation_r4 : List Cond := [Cond.selects RX0 yX0_clearColumn yX0_clearColumn, Cond.code yX0_clearColumn cX0_clearColumn 12 none, Cond.methodLink RX0 28 yX0_riseOf, Cond.instanceMethod yX0_riseOf, Cond.selects RX0 yX0_riseOf yX0_riseOf, Cond.code yX0_riseOf cX0_riseOf 3 (some .long), Cond.static yX4_roundedDown, Cond.initialized RX4, Cond.code yX4_roundedDown cX4_roundedDown 4 (some .long), Cond.methodLink RX4 179 yJ9_floorDiv_f86c9, Cond.static yJ9_floorDiv_f86c9, Cond.initialized RJ9, Cond.code yJ9_floorDiv_f86c9 cJ9_floorDiv_f86c9 6 (some .long), Cond.methodLink RX0 66 yX0_checkAgainst, Cond.instanceMethod yX0_checkAgainst, Cond.selects RX0 yX0_checkAgainst yX0_checkAgainst, Cond.code yX0_checkAgainst cX0_checkAgainst 4 (some .int), Cond.constantLong RX0 95 (1000)]
def wsX0_worstObservation : List Cond := .code yX0_worstObservation cX0_worstObservation 7 (some .int) :: ((wsX0_worstObservation_r1 ++ (wsX0_worstObservation_r2 ++ (wsX0_worstObservation_r3 ++ wsX0_worstObservation_r4))) ++ wsX00 ++ wsX10)
def wsX1_init : List Cond := .code yX1_init cX1_init 1 none :: ([.methodLink RX1 3 objectInit, .instanceMethod objectInit, .code objectInit ⟨#[0xb1]⟩ 1 none, .arrayClass .boolean, .fieldLink RX1 9 "TheodoliteRow$Net" "isTold" "[Z", .arrayClass .int, .fieldLink RX1 15 "TheodoliteRow$Net" "toldHeight" "[I", .fieldLink RX1 19 "TheodoliteRow$Net" "lowest" "[I", .fieldLink RX1 22 "TheodoliteRow$Net" "from" "[I", .fieldLink RX1 25 "TheodoliteRow$Net" "to" "[I", .fieldLink RX1 28 "TheodoliteRow$Net" "difference" "[I", .fieldLink RX1 31 "TheodoliteRow$Net" "weight" "[I", .fieldLink RX1 34 "TheodoliteRow$Net" "isWithdrawn" "[Z"] ++ wsX10)
def wsX1_hasStation : List Cond := .code yX1_hasStation cX1_hasStation 2 (some .boolean) :: ([.fieldLink RX1 37 "TheodoliteRow$Net" "stations" "I"] ++ wsX10)
def wsX1_hasObservation : List Cond := .code yX1_hasObservation cX1_hasObservation 2 (some .boolean) :: ([.fieldLink RX1 41 "TheodoliteRow$Net" "observations" "I"] ++ wsX10)
def wsX1_mergeParts : List Cond := .code yX1_mergeParts cX1_mergeParts 6 none :: ([.methodLink RX1 51 Lib.Math.min.name, .static Lib.Math.min.name, .initialized "java/lang/Math", .code Lib.Math.min.name Lib.Math.min.code 2 (some .int), .methodLink RX1 57 Lib.Math.max.name, .static Lib.Math.max.name, .code Lib.Math.max.name Lib.Math.max.code 2 (some .int), .fieldLink RX1 37 "TheodoliteRow$Net" "stations" "I", .fieldLink RX1 19 "TheodoliteRow$Net" "lowest" "[I"] ++ wsX10)
def wsX1_markParts : List Cond := .code yX1_markParts cX1_markParts 2 none :: ([.fieldLink RX1 37 "TheodoliteRow$Net" "stations" "I", .fieldLink RX1 19 "TheodoliteRow$Net" "lowest" "[I", .fieldLink RX1 41 "TheodoliteRow$Net" "observations" "I", .fieldLink RX1 34 "TheodoliteRow$Net" "isWithdrawn" "[Z", .fieldLink RX1 22 "TheodoliteRow$Net" "from" "[I", .fieldLink RX1 25 "TheodoliteRow$Net" "to" "[I", .methodLink RX1 47 yX1_mergeParts, .instanceMethod yX1_mergeParts, .selects RX1 yX1_mergeParts yX1_mergeParts, .initialized RX1, .code yX1_mergeParts cX1_mergeParts 6 none, .methodLink RX1 51 Lib.Math.min.name, .static Lib.Math.min.name, .initialized "java/lang/Math", .code Lib.Math.min.name Lib.Math.min.code 2 (some .int), .methodLink RX1 57 Lib.Math.max.name, .static Lib.Math.max.name, .code Lib.Math.max.name Lib.Math.max.code 2 (some .int)] ++ wsX10)
def wsX1_addStation : List Cond := .code yX1_addStation cX1_addStation 2 (some .int) :: ([.fieldLink RX1 37 "TheodoliteRow$Net" "stations" "I", .methodLink RX1 44 yX1_markParts, .instanceMethod yX1_markParts, .selects RX1 yX1_markParts yX1_markParts, .initialized RX1, .code yX1_markParts cX1_markParts 2 none, .fieldLink RX1 19 "TheodoliteRow$Net" "lowest" "[I", .fieldLink RX1 41 "TheodoliteRow$Net" "observations" "I", .fieldLink RX1 34 "TheodoliteRow$Net" "isWithdrawn" "[Z", .fieldLink RX1 22 "TheodoliteRow$Net" "from" "[I", .fieldLink RX1 25 "TheodoliteRow$Net" "to" "[I", .methodLink RX1 47 yX1_mergeParts, .instanceMethod yX1_mergeParts, .selects RX1 yX1_mergeParts yX1_mergeParts, .code yX1_mergeParts cX1_mergeParts 6 none, .methodLink RX1 51 Lib.Math.min.name, .static Lib.Math.min.name, .initialized "java/lang/Math", .code Lib.Math.min.name Lib.Math.min.code 2 (some .int), .methodLink RX1 57 Lib.Math.max.name, .static Lib.Math.max.name, .code Lib.Math.max.name Lib.Math.max.code 2 (some .int)] ++ wsX10)
def wsX1_tellHeight : List Cond := .code yX1_tellHeight cX1_tellHeight 5 (some .boolean) :: ([.fieldLink RX1 9 "TheodoliteRow$Net" "isTold" "[Z", .fieldLink RX1 15 "TheodoliteRow$Net" "toldHeight" "[I"] ++ wsX10)
def wsX1_addObservation : List Cond := .code yX1_addObservation cX1_addObservation 6 (some .int) :: ([.fieldLink RX1 41 "TheodoliteRow$Net" "observations" "I", .fieldLink RX1 22 "TheodoliteRow$Net" "from" "[I", .fieldLink RX1 25 "TheodoliteRow$Net" "to" "[I", .fieldLink RX1 28 "TheodoliteRow$Net" "difference" "[I", .fieldLink RX1 31 "TheodoliteRow$Net" "weight" "[I", .methodLink RX1 44 yX1_markParts, .instanceMethod yX1_markParts, .selects RX1 yX1_markParts yX1_markParts, .initialized RX1, .code yX1_markParts cX1_markParts 2 none, .fieldLink RX1 37 "TheodoliteRow$Net" "stations" "I", .fieldLink RX1 19 "TheodoliteRow$Net" "lowest" "[I", .fieldLink RX1 34 "TheodoliteRow$Net" "isWithdrawn" "[Z", .methodLink RX1 47 yX1_mergeParts, .instanceMethod yX1_mergeParts, .selects RX1 yX1_mergeParts yX1_mergeParts, .code yX1_mergeParts cX1_mergeParts 6 none, .methodLink RX1 51 Lib.Math.min.name, .static Lib.Math.min.name, .initialized "java/lang/Math", .code Lib.Math.min.name Lib.Math.min.code 2 (some .int), .methodLink RX1 57 Lib.Math.max.name, .static Lib.Math.max.name, .code Lib.Math.max.name Lib.Math.max.code 2 (some .int)] ++ wsX10)
def wsX1_setWithdrawn : List Cond := .code yX1_setWithdrawn cX1_setWithdrawn 4 (some .boolean) :: ([.fieldLink RX1 34 "TheodoliteRow$Net" "isWithdrawn" "[Z", .methodLink RX1 44 yX1_markParts, .instanceMethod yX1_markParts, .selects RX1 yX1_markParts yX1_markParts, .initialized RX1, .code yX1_markParts cX1_markParts 2 none, .fieldLink RX1 37 "TheodoliteRow$Net" "stations" "I", .fieldLink RX1 19 "TheodoliteRow$Net" "lowest" "[I", .fieldLink RX1 41 "TheodoliteRow$Net" "observations" "I", .fieldLink RX1 22 "TheodoliteRow$Net" "from" "[I", .fieldLink RX1 25 "TheodoliteRow$Net" "to" "[I", .methodLink RX1 47 yX1_mergeParts, .instanceMethod yX1_mergeParts, .selects RX1 yX1_mergeParts yX1_mergeParts, .code yX1_mergeParts cX1_mergeParts 6 none, .methodLink RX1 51 Lib.Math.min.name, .static Lib.Math.min.name, .initialized "java/lang/Math", .code Lib.Math.min.name Lib.Math.min.code 2 (some .int), .methodLink RX1 57 Lib.Math.max.name, .static Lib.Math.max.name, .code Lib.Math.max.name Lib.Math.max.code 2 (some .int)] ++ wsX10)
def wsX1_countParts : List Cond := .code yX1_countParts cX1_countParts 3 (some .int) :: ([.fieldLink RX1 37 "TheodoliteRow$Net" "stations" "I", .fieldLink RX1 19 "TheodoliteRow$Net" "lowest" "[I"] ++ wsX10)
def wsX1_countStationsWith : List Cond := .code yX1_countStationsWith cX1_countStationsWith 4 (some .int) :: ([.fieldLink RX1 37 "TheodoliteRow$Net" "stations" "I", .methodLink RX1 60 yX1_areInOnePart, .instanceMethod yX1_areInOnePart, .selects RX1 yX1_areInOnePart yX1_areInOnePart, .initialized RX1, .code yX1_areInOnePart cX1_areInOnePart 3 (some .boolean), .fieldLink RX1 19 "TheodoliteRow$Net" "lowest" "[I"] ++ wsX10)
def wsX1_lowestBetween : List Cond := .code yX1_lowestBetween cX1_lowestBetween 6 (some .int) :: ([.fieldLink RX1 41 "TheodoliteRow$Net" "observations" "I", .fieldLink RX1 22 "TheodoliteRow$Net" "from" "[I", .fieldLink RX1 25 "TheodoliteRow$Net" "to" "[I", .fieldLink RX1 34 "TheodoliteRow$Net" "isWithdrawn" "[Z"] ++ wsX10)
def wsX1_differenceFrom : List Cond := .code yX1_differenceFrom cX1_differenceFrom 3 (some .int) :: ([.fieldLink RX1 22 "TheodoliteRow$Net" "from" "[I", .fieldLink RX1 28 "TheodoliteRow$Net" "difference" "[I"] ++ wsX10)
def wsX2_init : List Cond := .code yX2_init cX2_init 1 none :: ([.methodLink RX2 1 objectInit, .instanceMethod objectInit, .code objectInit ⟨#[0xb1]⟩ 1 none, .fieldLink RX2 7 "TheodoliteRow$Path" "length" "I"] ++ wsX20)
def wsX2_begin : List Cond := .code yX2_begin cX2_begin 2 (some .int) :: ([.fieldLink RX2 13 "TheodoliteRow$Path" "first" "I", .fieldLink RX2 16 "TheodoliteRow$Path" "last" "I", .fieldLink RX2 7 "TheodoliteRow$Path" "length" "I"] ++ wsX20)
def wsX2_goOn : List Cond := .code yX2_goOn cX2_goOn 3 (some .int) :: ([.fieldLink RX2 16 "TheodoliteRow$Path" "last" "I", .fieldLink RX2 19 "TheodoliteRow$Path" "total" "I", .fieldLink RX2 7 "TheodoliteRow$Path" "length" "I"] ++ wsX20)
def wsX2_clear : List Cond := .code yX2_clear cX2_clear 2 (some .int) :: ([.fieldLink RX2 7 "TheodoliteRow$Path" "length" "I", .fieldLink RX2 19 "TheodoliteRow$Path" "total" "I"] ++ wsX20)
def wsX3_init : List Cond := .code yX3_init cX3_init 2 none :: ([.methodLink RX3 3 objectInit, .instanceMethod objectInit, .code objectInit ⟨#[0xb1]⟩ 1 none, .fieldLink RX3 9 "TheodoliteRow$TreeWalk" "net" "LTheodoliteRow$Net;", .classLink RX3 15 "[[I", .arrayClass .int, .fieldLink RX3 17 "TheodoliteRow$TreeWalk" "piece" "[[I", .fieldLink RX3 20 "TheodoliteRow$TreeWalk" "rise" "[[I"] ++ wsX30)
def wsX3_countTree : List Cond := .code yX3_countTree cX3_countTree 5 none :: ([.fieldLink RX3 41 "TheodoliteRow$TreeWalk" "weightOfAll" "J", .fieldLink RX3 27 "TheodoliteRow$TreeWalk" "weightedRises" "J", .fieldLink RX3 20 "TheodoliteRow$TreeWalk" "rise" "[[I", .fieldLink RX3 58 "TheodoliteRow$TreeWalk" "askedStation" "I", .fieldLink RX3 37 "TheodoliteRow$TreeWalk" "datum" "I", .fieldLink RX3 55 "TheodoliteRow$TreeWalk" "weightOfThoseWithAsked" "J"] ++ wsX30)
def wsX3_joinsPieces : List Cond := .code yX3_joinsPieces cX3_joinsPieces 3 (some .boolean) :: ([.fieldLink RX3 9 "TheodoliteRow$TreeWalk" "net" "LTheodoliteRow$Net;", .fieldLink RX3 37 "TheodoliteRow$TreeWalk" "datum" "I", .fieldLink RX3 17 "TheodoliteRow$TreeWalk" "piece" "[[I", .fieldLink RX3 50 "TheodoliteRow$Net" "from" "[I", .fieldLink RX3 101 "TheodoliteRow$Net" "to" "[I", .methodLink RX3 98 yX1_isInPartOf, .instanceMethod yX1_isInPartOf, .selects RX1 yX1_isInPartOf yX1_isInPartOf, .initialized RX1, .code yX1_isInPartOf cX1_isInPartOf 3 (some .boolean), .fieldLink RX1 34 "TheodoliteRow$Net" "isWithdrawn" "[Z", .fieldLink RX1 22 "TheodoliteRow$Net" "from" "[I", .methodLink RX1 60 yX1_areInOnePart, .instanceMethod yX1_areInOnePart, .selects RX1 yX1_areInOnePart yX1_areInOnePart, .code yX1_areInOnePart cX1_areInOnePart 3 (some .boolean), .fieldLink RX1 19 "TheodoliteRow$Net" "lowest" "[I"] ++ wsX30 ++ wsX10)
def wsX3_joinPieces : List Cond := .code yX3_joinPieces cX3_joinPieces 8 none :: ([.fieldLink RX3 9 "TheodoliteRow$TreeWalk" "net" "LTheodoliteRow$Net;", .fieldLink RX3 50 "TheodoliteRow$Net" "from" "[I", .fieldLink RX3 101 "TheodoliteRow$Net" "to" "[I", .fieldLink RX3 20 "TheodoliteRow$TreeWalk" "rise" "[[I", .fieldLink RX3 104 "TheodoliteRow$Net" "difference" "[I", .fieldLink RX3 74 "TheodoliteRow$Net" "stations" "I", .fieldLink RX3 17 "TheodoliteRow$TreeWalk" "piece" "[[I"] ++ wsX30 ++ wsX10)
def wsX3_grow_r1 : List Cond := [Cond.fieldLink RX3 71 "TheodoliteRow$TreeWalk" "branches" "I", Cond.fieldLink RX3 9 "TheodoliteRow$TreeWalk" "net" "LTheodoliteRow$Net;", Cond.fieldLink RX3 85 "TheodoliteRow$Net" "observations" "I", Cond.fieldLink RX3 61 "TheodoliteRow$TreeWalk" "askedObservation" "I", Cond.fieldLink RX3 95 "TheodoliteRow$Net" "weight" "[I", Cond.methodLink RX3 81 yX3_countTree, Cond.instanceMethod yX3_countTree, Cond.selects RX3 yX3_countTree yX3_countTree, Cond.initialized RX3, Cond.code yX3_countTree cX3_countTree 5 none, Cond.fieldLink RX3 41 "TheodoliteRow$TreeWalk" "weightOfAll" "J", Cond.fieldLink RX3 27 "TheodoliteRow$TreeWalk" "weightedRises" "J", Cond.fieldLink RX3 20 "TheodoliteRow$TreeWalk" "rise" "[[I", Cond.fieldLink RX3 58 "TheodoliteRow$TreeWalk" "askedStation" "I", Cond.fieldLink RX3 37 "TheodoliteRow$TreeWalk" "datum" "I", Cond.fieldLink RX3 55 "TheodoliteRow$TreeWalk" "weightOfThoseWithAsked" "J", Cond.methodLink RX3 88 yX3_joinsPieces, Cond.instanceMethod yX3_joinsPieces, Cond.selects RX3 yX3_joinsPieces yX3_joinsPieces, Cond.code yX3_joinsPieces cX3_joinsPieces 3 (some .boolean), Cond.fieldLink RX3 17 "TheodoliteRow$TreeWalk" "piece" "[[I", Cond.fieldLink RX3 50 "TheodoliteRow$Net" "from" "[I", Cond.fieldLink RX3 101 "TheodoliteRow$Net" "to" "[I", Cond.methodLink RX3 98 yX1_isInPartOf]
def wsX3_grow_r2 : List Cond := [Cond.instanceMethod yX1_isInPartOf, Cond.selects RX1 yX1_isInPartOf yX1_isInPartOf, Cond.initialized RX1, Cond.code yX1_isInPartOf cX1_isInPartOf 3 (some .boolean), Cond.fieldLink RX1 34 "TheodoliteRow$Net" "isWithdrawn" "[Z", Cond.fieldLink RX1 22 "TheodoliteRow$Net" "from" "[I", Cond.methodLink RX1 60 yX1_areInOnePart, Cond.instanceMethod yX1_areInOnePart, Cond.selects RX1 yX1_areInOnePart yX1_areInOnePart, Cond.code yX1_areInOnePart cX1_areInOnePart 3 (some .boolean), Cond.fieldLink RX1 19 "TheodoliteRow$Net" "lowest" "[I", Cond.methodLink RX3 92 yX3_joinPieces, Cond.instanceMethod yX3_joinPieces, Cond.selects RX3 yX3_joinPieces yX3_joinPieces, Cond.code yX3_joinPieces cX3_joinPieces 8 none, Cond.fieldLink RX3 104 "TheodoliteRow$Net" "difference" "[I", Cond.fieldLink RX3 74 "TheodoliteRow$Net" "stations" "I", Cond.methodLink RX3 77 yX3_grow, Cond.static yX3_grow]
def wsX3_grow : List Cond := .code yX3_grow cX3_grow 8 none :: ((wsX3_grow_r1 ++ wsX3_grow_r2) ++ wsX30 ++ wsX10)
def wsX3_walk_r1 : List Cond := [Cond.fieldLink RX3 58 "TheodoliteRow$TreeWalk" "askedStation" "I", Cond.fieldLink RX3 61 "TheodoliteRow$TreeWalk" "askedObservation" "I", Cond.fieldLink RX3 9 "TheodoliteRow$TreeWalk" "net" "LTheodoliteRow$Net;", Cond.fieldLink RX3 37 "TheodoliteRow$TreeWalk" "datum" "I", Cond.fieldLink RX3 71 "TheodoliteRow$TreeWalk" "branches" "I", Cond.fieldLink RX3 41 "TheodoliteRow$TreeWalk" "weightOfAll" "J", Cond.fieldLink RX3 55 "TheodoliteRow$TreeWalk" "weightOfThoseWithAsked" "J", Cond.fieldLink RX3 27 "TheodoliteRow$TreeWalk" "weightedRises" "J", Cond.fieldLink RX3 74 "TheodoliteRow$Net" "stations" "I", Cond.fieldLink RX3 17 "TheodoliteRow$TreeWalk" "piece" "[[I", Cond.fieldLink RX3 20 "TheodoliteRow$TreeWalk" "rise" "[[I", Cond.methodLink RX3 64 yX1_datumOf, Cond.instanceMethod yX1_datumOf, Cond.selects RX1 yX1_datumOf yX1_datumOf, Cond.initialized RX1, Cond.code yX1_datumOf cX1_datumOf 3 (some .int), Cond.fieldLink RX1 37 "TheodoliteRow$Net" "stations" "I", Cond.fieldLink RX1 9 "TheodoliteRow$Net" "isTold" "[Z", Cond.fieldLink RX1 19 "TheodoliteRow$Net" "lowest" "[I", Cond.methodLink RX1 60 yX1_areInOnePart, Cond.instanceMethod yX1_areInOnePart, Cond.selects RX1 yX1_areInOnePart yX1_areInOnePart, Cond.code yX1_areInOnePart cX1_areInOnePart 3 (some .boolean), Cond.methodLink RX3 68 yX1_countStationsWith]
def wsX3_walk_r2 : List Cond := [Cond.instanceMethod yX1_countStationsWith, Cond.selects RX1 yX1_countStationsWith yX1_countStationsWith, Cond.code yX1_countStationsWith cX1_countStationsWith 4 (some .int), Cond.methodLink RX3 77 yX3_grow, Cond.static yX3_grow, Cond.initialized RX3, Cond.code yX3_grow cX3_grow 8 none, Cond.fieldLink RX3 85 "TheodoliteRow$Net" "observations" "I", Cond.fieldLink RX3 95 "TheodoliteRow$Net" "weight" "[I", Cond.methodLink RX3 81 yX3_countTree, Cond.instanceMethod yX3_countTree, Cond.selects RX3 yX3_countTree yX3_countTree, Cond.code yX3_countTree cX3_countTree 5 none, Cond.methodLink RX3 88 yX3_joinsPieces, Cond.instanceMethod yX3_joinsPieces, Cond.selects RX3 yX3_joinsPieces yX3_joinsPieces, Cond.code yX3_joinsPieces cX3_joinsPieces 3 (some .boolean), Cond.fieldLink RX3 50 "TheodoliteRow$Net" "from" "[I", Cond.fieldLink RX3 101 "TheodoliteRow$Net" "to" "[I", Cond.methodLink RX3 98 yX1_isInPartOf, Cond.instanceMethod yX1_isInPartOf, Cond.selects RX1 yX1_isInPartOf yX1_isInPartOf, Cond.code yX1_isInPartOf cX1_isInPartOf 3 (some .boolean), Cond.fieldLink RX1 34 "TheodoliteRow$Net" "isWithdrawn" "[Z"]
def wsX3_walk_r3 : List Cond := [Cond.fieldLink RX1 22 "TheodoliteRow$Net" "from" "[I", Cond.methodLink RX3 92 yX3_joinPieces, Cond.instanceMethod yX3_joinPieces, Cond.selects RX3 yX3_joinPieces yX3_joinPieces, Cond.code yX3_joinPieces cX3_joinPieces 8 none, Cond.fieldLink RX3 104 "TheodoliteRow$Net" "difference" "[I"]
def wsX3_walk : List Cond := .code yX3_walk cX3_walk 4 none :: ((wsX3_walk_r1 ++ (wsX3_walk_r2 ++ wsX3_walk_r3)) ++ wsX30 ++ wsX10)
def wsX3_heightOf_r1 : List Cond := [Cond.fieldLink RX3 27 "TheodoliteRow$TreeWalk" "weightedRises" "J", Cond.fieldLink RX3 9 "TheodoliteRow$TreeWalk" "net" "LTheodoliteRow$Net;", Cond.fieldLink RX3 31 "TheodoliteRow$Net" "toldHeight" "[I", Cond.fieldLink RX3 37 "TheodoliteRow$TreeWalk" "datum" "I", Cond.fieldLink RX3 41 "TheodoliteRow$TreeWalk" "weightOfAll" "J", Cond.constantLong RX3 44 (100), Cond.methodLink RX3 23 yX3_walk, Cond.instanceMethod yX3_walk, Cond.selects RX3 yX3_walk yX3_walk, Cond.initialized RX3, Cond.code yX3_walk cX3_walk 4 none, Cond.fieldLink RX3 58 "TheodoliteRow$TreeWalk" "askedStation" "I", Cond.fieldLink RX3 61 "TheodoliteRow$TreeWalk" "askedObservation" "I", Cond.fieldLink RX3 71 "TheodoliteRow$TreeWalk" "branches" "I", Cond.fieldLink RX3 55 "TheodoliteRow$TreeWalk" "weightOfThoseWithAsked" "J", Cond.fieldLink RX3 74 "TheodoliteRow$Net" "stations" "I", Cond.fieldLink RX3 17 "TheodoliteRow$TreeWalk" "piece" "[[I", Cond.fieldLink RX3 20 "TheodoliteRow$TreeWalk" "rise" "[[I", Cond.methodLink RX3 64 yX1_datumOf, Cond.instanceMethod yX1_datumOf, Cond.selects RX1 yX1_datumOf yX1_datumOf, Cond.initialized RX1, Cond.code yX1_datumOf cX1_datumOf 3 (some .int), Cond.fieldLink RX1 37 "TheodoliteRow$Net" "stations" "I"]
def wsX3_heightOf_r2 : List Cond := [Cond.fieldLink RX1 9 "TheodoliteRow$Net" "isTold" "[Z", Cond.fieldLink RX1 19 "TheodoliteRow$Net" "lowest" "[I", Cond.methodLink RX1 60 yX1_areInOnePart, Cond.instanceMethod yX1_areInOnePart, Cond.selects RX1 yX1_areInOnePart yX1_areInOnePart, Cond.code yX1_areInOnePart cX1_areInOnePart 3 (some .boolean), Cond.methodLink RX3 68 yX1_countStationsWith, Cond.instanceMethod yX1_countStationsWith, Cond.selects RX1 yX1_countStationsWith yX1_countStationsWith, Cond.code yX1_countStationsWith cX1_countStationsWith 4 (some .int), Cond.methodLink RX3 77 yX3_grow, Cond.static yX3_grow, Cond.code yX3_grow cX3_grow 8 none, Cond.fieldLink RX3 85 "TheodoliteRow$Net" "observations" "I", Cond.fieldLink RX3 95 "TheodoliteRow$Net" "weight" "[I", Cond.methodLink RX3 81 yX3_countTree, Cond.instanceMethod yX3_countTree, Cond.selects RX3 yX3_countTree yX3_countTree, Cond.code yX3_countTree cX3_countTree 5 none, Cond.methodLink RX3 88 yX3_joinsPieces, Cond.instanceMethod yX3_joinsPieces, Cond.selects RX3 yX3_joinsPieces yX3_joinsPieces, Cond.code yX3_joinsPieces cX3_joinsPieces 3 (some .boolean), Cond.fieldLink RX3 50 "TheodoliteRow$Net" "from" "[I"]
def wsX3_heightOf_r3 : List Cond := [Cond.fieldLink RX3 101 "TheodoliteRow$Net" "to" "[I", Cond.methodLink RX3 98 yX1_isInPartOf, Cond.instanceMethod yX1_isInPartOf, Cond.selects RX1 yX1_isInPartOf yX1_isInPartOf, Cond.code yX1_isInPartOf cX1_isInPartOf 3 (some .boolean), Cond.fieldLink RX1 34 "TheodoliteRow$Net" "isWithdrawn" "[Z", Cond.fieldLink RX1 22 "TheodoliteRow$Net" "from" "[I", Cond.methodLink RX3 92 yX3_joinPieces, Cond.instanceMethod yX3_joinPieces, Cond.selects RX3 yX3_joinPieces yX3_joinPieces, Cond.code yX3_joinPieces cX3_joinPieces 8 none, Cond.fieldLink RX3 104 "TheodoliteRow$Net" "difference" "[I", Cond.static yX4_roundedDown, Cond.initialized RX4, Cond.code yX4_roundedDown cX4_roundedDown 4 (some .long), Cond.methodLink RX4 179 yJ9_floorDiv_f86c9, Cond.static yJ9_floorDiv_f86c9, Cond.initialized RJ9, Cond.code yJ9_floorDiv_f86c9 cJ9_floorDiv_f86c9 6 (some .long)]
def wsX3_heightOf : List Cond := .code yX3_heightOf cX3_heightOf 4 (some .long) :: ((wsX3_heightOf_r1 ++ (wsX3_heightOf_r2 ++ wsX3_heightOf_r3)) ++ wsX30 ++ wsX10)
def wsX3_checkOf_r1 : List Cond := [Cond.fieldLink RX3 9 "TheodoliteRow$TreeWalk" "net" "LTheodoliteRow$Net;", Cond.fieldLink RX3 50 "TheodoliteRow$Net" "from" "[I", Cond.constantLong RX3 53 (1000), Cond.fieldLink RX3 41 "TheodoliteRow$TreeWalk" "weightOfAll" "J", Cond.fieldLink RX3 55 "TheodoliteRow$TreeWalk" "weightOfThoseWithAsked" "J", Cond.methodLink RX3 23 yX3_walk, Cond.instanceMethod yX3_walk, Cond.selects RX3 yX3_walk yX3_walk, Cond.initialized RX3, Cond.code yX3_walk cX3_walk 4 none, Cond.fieldLink RX3 58 "TheodoliteRow$TreeWalk" "askedStation" "I", Cond.fieldLink RX3 61 "TheodoliteRow$TreeWalk" "askedObservation" "I", Cond.fieldLink RX3 37 "TheodoliteRow$TreeWalk" "datum" "I", Cond.fieldLink RX3 71 "TheodoliteRow$TreeWalk" "branches" "I", Cond.fieldLink RX3 27 "TheodoliteRow$TreeWalk" "weightedRises" "J", Cond.fieldLink RX3 74 "TheodoliteRow$Net" "stations" "I", Cond.fieldLink RX3 17 "TheodoliteRow$TreeWalk" "piece" "[[I", Cond.fieldLink RX3 20 "TheodoliteRow$TreeWalk" "rise" "[[I", Cond.methodLink RX3 64 yX1_datumOf, Cond.instanceMethod yX1_datumOf, Cond.selects RX1 yX1_datumOf yX1_datumOf, Cond.initialized RX1, Cond.code yX1_datumOf cX1_datumOf 3 (some .int), Cond.fieldLink RX1 37 "TheodoliteRow$Net" "stations" "I"]
def wsX3_checkOf_r2 : List Cond := [Cond.fieldLink RX1 9 "TheodoliteRow$Net" "isTold" "[Z", Cond.fieldLink RX1 19 "TheodoliteRow$Net" "lowest" "[I", Cond.methodLink RX1 60 yX1_areInOnePart, Cond.instanceMethod yX1_areInOnePart, Cond.selects RX1 yX1_areInOnePart yX1_areInOnePart, Cond.code yX1_areInOnePart cX1_areInOnePart 3 (some .boolean), Cond.methodLink RX3 68 yX1_countStationsWith, Cond.instanceMethod yX1_countStationsWith, Cond.selects RX1 yX1_countStationsWith yX1_countStationsWith, Cond.code yX1_countStationsWith cX1_countStationsWith 4 (some .int), Cond.methodLink RX3 77 yX3_grow, Cond.static yX3_grow, Cond.code yX3_grow cX3_grow 8 none, Cond.fieldLink RX3 85 "TheodoliteRow$Net" "observations" "I", Cond.fieldLink RX3 95 "TheodoliteRow$Net" "weight" "[I", Cond.methodLink RX3 81 yX3_countTree, Cond.instanceMethod yX3_countTree, Cond.selects RX3 yX3_countTree yX3_countTree, Cond.code yX3_countTree cX3_countTree 5 none, Cond.methodLink RX3 88 yX3_joinsPieces, Cond.instanceMethod yX3_joinsPieces, Cond.selects RX3 yX3_joinsPieces yX3_joinsPieces, Cond.code yX3_joinsPieces cX3_joinsPieces 3 (some .boolean), Cond.fieldLink RX3 101 "TheodoliteRow$Net" "to" "[I"]
def wsX3_checkOf_r3 : List Cond := [Cond.methodLink RX3 98 yX1_isInPartOf, Cond.instanceMethod yX1_isInPartOf, Cond.selects RX1 yX1_isInPartOf yX1_isInPartOf, Cond.code yX1_isInPartOf cX1_isInPartOf 3 (some .boolean), Cond.fieldLink RX1 34 "TheodoliteRow$Net" "isWithdrawn" "[Z", Cond.fieldLink RX1 22 "TheodoliteRow$Net" "from" "[I", Cond.methodLink RX3 92 yX3_joinPieces, Cond.instanceMethod yX3_joinPieces, Cond.selects RX3 yX3_joinPieces yX3_joinPieces, Cond.code yX3_joinPieces cX3_joinPieces 8 none, Cond.fieldLink RX3 104 "TheodoliteRow$Net" "difference" "[I", Cond.static yX4_roundedDown, Cond.initialized RX4, Cond.code yX4_roundedDown cX4_roundedDown 4 (some .long), Cond.methodLink RX4 179 yJ9_floorDiv_f86c9, Cond.static yJ9_floorDiv_f86c9, Cond.initialized RJ9, Cond.code yJ9_floorDiv_f86c9 cJ9_floorDiv_f86c9 6 (some .long)]
def wsX3_checkOf : List Cond := .code yX3_checkOf cX3_checkOf 2 (some .int) :: ((wsX3_checkOf_r1 ++ (wsX3_checkOf_r2 ++ wsX3_checkOf_r3)) ++ wsX30 ++ wsX10)
def wsX4_init_r1 : List Cond := [Cond.methodLink RX4 1 objectInit, Cond.instanceMethod objectInit, Cond.code objectInit ⟨#[0xb1]⟩ 1 none, Cond.classLink RX4 7 RX1, Cond.instantiable RX1 10, Cond.initialized RX1, Cond.fieldLink RX4 10 "TheodoliteRow" "net" "LTheodoliteRow$Net;", Cond.classLink RX4 16 RX0, Cond.instantiable RX0 6, Cond.initialized RX0, Cond.fieldLink RX4 21 "TheodoliteRow" "adjustment" "LTheodoliteRow$Adjustment;", Cond.classLink RX4 25 RX3, Cond.instantiable RX3 10, Cond.initialized RX3, Cond.fieldLink RX4 28 "TheodoliteRow" "treeWalk" "LTheodoliteRow$TreeWalk;", Cond.classLink RX4 32 RX2, Cond.instantiable RX2 4, Cond.initialized RX2, Cond.fieldLink RX4 35 "TheodoliteRow" "path" "LTheodoliteRow$Path;", Cond.methodLink RX4 9 yX1_init, Cond.instanceMethod yX1_init, Cond.code yX1_init cX1_init 1 none, Cond.methodLink RX1 3 objectInit, Cond.arrayClass .boolean]
def wsX4_init_r2 : List Cond := [Cond.fieldLink RX1 9 "TheodoliteRow$Net" "isTold" "[Z", Cond.arrayClass .int, Cond.fieldLink RX1 15 "TheodoliteRow$Net" "toldHeight" "[I", Cond.fieldLink RX1 19 "TheodoliteRow$Net" "lowest" "[I", Cond.fieldLink RX1 22 "TheodoliteRow$Net" "from" "[I", Cond.fieldLink RX1 25 "TheodoliteRow$Net" "to" "[I", Cond.fieldLink RX1 28 "TheodoliteRow$Net" "difference" "[I", Cond.fieldLink RX1 31 "TheodoliteRow$Net" "weight" "[I", Cond.fieldLink RX1 34 "TheodoliteRow$Net" "isWithdrawn" "[Z", Cond.methodLink RX4 18 yX0_init, Cond.instanceMethod yX0_init, Cond.code yX0_init cX0_init 2 none, Cond.methodLink RX0 3 objectInit, Cond.fieldLink RX0 9 "TheodoliteRow$Adjustment" "net" "LTheodoliteRow$Net;", Cond.fieldLink RX0 15 "TheodoliteRow$Adjustment" "rowOf" "[I", Cond.classLink RX0 19 "[[J", Cond.arrayClass .long, Cond.fieldLink RX0 21 "TheodoliteRow$Adjustment" "cells" "[[J", Cond.methodLink RX4 27 yX3_init, Cond.instanceMethod yX3_init, Cond.code yX3_init cX3_init 2 none, Cond.methodLink RX3 3 objectInit, Cond.fieldLink RX3 9 "TheodoliteRow$TreeWalk" "net" "LTheodoliteRow$Net;", Cond.classLink RX3 15 "[[I"]
def wsX4_init_r3 : List Cond := [Cond.fieldLink RX3 17 "TheodoliteRow$TreeWalk" "piece" "[[I", Cond.fieldLink RX3 20 "TheodoliteRow$TreeWalk" "rise" "[[I", Cond.methodLink RX4 34 yX2_init, Cond.instanceMethod yX2_init, Cond.code yX2_init cX2_init 1 none, Cond.methodLink RX2 1 objectInit, Cond.fieldLink RX2 7 "TheodoliteRow$Path" "length" "I"]
def wsX4_init : List Cond := .code yX4_init cX4_init 1 none :: ((wsX4_init_r1 ++ (wsX4_init_r2 ++ wsX4_init_r3)) ++ wsX10 ++ wsX40 ++ wsX00 ++ wsX30 ++ wsX20)
def wsX4_station_r1 : List Cond := [Cond.classLink RX4 43 "java/lang/IllegalStateException", Cond.initialized "java/lang/IllegalStateException", Cond.fieldLink RX4 10 "TheodoliteRow" "net" "LTheodoliteRow$Net;", Cond.fieldLink RX4 39 "TheodoliteRow$Net" "stations" "I", Cond.methodLink RX4 50 yX1_addStation, Cond.instanceMethod yX1_addStation, Cond.selects RX1 yX1_addStation yX1_addStation, Cond.initialized RX1, Cond.code yX1_addStation cX1_addStation 2 (some .int), Cond.fieldLink RX1 37 "TheodoliteRow$Net" "stations" "I", Cond.methodLink RX1 44 yX1_markParts, Cond.instanceMethod yX1_markParts, Cond.selects RX1 yX1_markParts yX1_markParts, Cond.code yX1_markParts cX1_markParts 2 none, Cond.fieldLink RX1 19 "TheodoliteRow$Net" "lowest" "[I", Cond.fieldLink RX1 41 "TheodoliteRow$Net" "observations" "I", Cond.fieldLink RX1 34 "TheodoliteRow$Net" "isWithdrawn" "[Z", Cond.fieldLink RX1 22 "TheodoliteRow$Net" "from" "[I", Cond.fieldLink RX1 25 "TheodoliteRow$Net" "to" "[I", Cond.methodLink RX1 47 yX1_mergeParts, Cond.instanceMethod yX1_mergeParts, Cond.selects RX1 yX1_mergeParts yX1_mergeParts, Cond.code yX1_mergeParts cX1_mergeParts 6 none, Cond.methodLink RX1 51 Lib.Math.min.name]
def wsX4_station_r2 : List Cond := [Cond.static Lib.Math.min.name, Cond.initialized "java/lang/Math", Cond.code Lib.Math.min.name Lib.Math.min.code 2 (some .int), Cond.methodLink RX1 57 Lib.Math.max.name, Cond.static Lib.Math.max.name, Cond.code Lib.Math.max.name Lib.Math.max.code 2 (some .int)]
def wsX4_station : List Cond := .code yX4_station cX4_station 1 (some .int) :: ((wsX4_station_r1 ++ wsX4_station_r2) ++ wsX40 ++ wsX10 ++ (vx_atS RX4 47 "java/lang/IllegalStateException" ["java/lang/RuntimeException", "java/lang/Exception"]).filter goodWord)
def wsX4_needStation : List Cond := .code yX4_needStation cX4_needStation 2 none :: ([.classLink RX4 163 "java/lang/IndexOutOfBoundsException", .initialized "java/lang/IndexOutOfBoundsException", .fieldLink RX4 10 "TheodoliteRow" "net" "LTheodoliteRow$Net;", .methodLink RX4 159 yX1_hasStation, .instanceMethod yX1_hasStation, .selects RX1 yX1_hasStation yX1_hasStation, .initialized RX1, .code yX1_hasStation cX1_hasStation 2 (some .boolean), .fieldLink RX1 37 "TheodoliteRow$Net" "stations" "I"] ++ wsX40 ++ wsX10 ++ (vx_atS RX4 167 "java/lang/IndexOutOfBoundsException" ["java/lang/RuntimeException", "java/lang/Exception"]).filter goodWord)
def wsX4_isBeyond : List Cond := .code yX4_isBeyond cX4_isBeyond 3 (some .boolean) :: ([])
def wsX4_datum_r1 : List Cond := [Cond.classLink RX4 62 "java/lang/IllegalArgumentException", Cond.initialized "java/lang/IllegalArgumentException", Cond.fieldLink RX4 10 "TheodoliteRow" "net" "LTheodoliteRow$Net;", Cond.methodLink RX4 54 yX4_needStation, Cond.instanceMethod yX4_needStation, Cond.selects RX4 yX4_needStation yX4_needStation, Cond.initialized RX4, Cond.code yX4_needStation cX4_needStation 2 none, Cond.classLink RX4 163 "java/lang/IndexOutOfBoundsException", Cond.initialized "java/lang/IndexOutOfBoundsException", Cond.methodLink RX4 159 yX1_hasStation, Cond.instanceMethod yX1_hasStation, Cond.selects RX1 yX1_hasStation yX1_hasStation, Cond.initialized RX1, Cond.code yX1_hasStation cX1_hasStation 2 (some .boolean), Cond.fieldLink RX1 37 "TheodoliteRow$Net" "stations" "I", Cond.methodLink RX4 58 yX4_isBeyond, Cond.static yX4_isBeyond, Cond.code yX4_isBeyond cX4_isBeyond 3 (some .boolean), Cond.methodLink RX4 67 yX1_tellHeight, Cond.instanceMethod yX1_tellHeight, Cond.selects RX1 yX1_tellHeight yX1_tellHeight, Cond.code yX1_tellHeight cX1_tellHeight 5 (some .boolean), Cond.fieldLink RX1 9 "TheodoliteRow$Net" "isTold" "[Z"]
def wsX4_datum_r2 : List Cond := [Cond.fieldLink RX1 15 "TheodoliteRow$Net" "toldHeight" "[I"]
def wsX4_datum : List Cond := .code yX4_datum cX4_datum 4 (some .boolean) :: ((wsX4_datum_r1 ++ wsX4_datum_r2) ++ wsX40 ++ wsX10 ++ (vx_atS RX4 66 "java/lang/IllegalArgumentException" ["java/lang/RuntimeException", "java/lang/Exception"]).filter goodWord ++ (vx_atS RX4 167 "java/lang/IndexOutOfBoundsException" ["java/lang/RuntimeException", "java/lang/Exception"]).filter goodWord)
def wsX4_observe_r1 : List Cond := [Cond.classLink RX4 62 "java/lang/IllegalArgumentException", Cond.initialized "java/lang/IllegalArgumentException", Cond.classLink RX4 43 "java/lang/IllegalStateException", Cond.initialized "java/lang/IllegalStateException", Cond.fieldLink RX4 10 "TheodoliteRow" "net" "LTheodoliteRow$Net;", Cond.fieldLink RX4 77 "TheodoliteRow$Net" "observations" "I", Cond.methodLink RX4 54 yX4_needStation, Cond.instanceMethod yX4_needStation, Cond.selects RX4 yX4_needStation yX4_needStation, Cond.initialized RX4, Cond.code yX4_needStation cX4_needStation 2 none, Cond.classLink RX4 163 "java/lang/IndexOutOfBoundsException", Cond.initialized "java/lang/IndexOutOfBoundsException", Cond.methodLink RX4 159 yX1_hasStation, Cond.instanceMethod yX1_hasStation, Cond.selects RX1 yX1_hasStation yX1_hasStation, Cond.initialized RX1, Cond.code yX1_hasStation cX1_hasStation 2 (some .boolean), Cond.fieldLink RX1 37 "TheodoliteRow$Net" "stations" "I", Cond.methodLink RX4 58 yX4_isBeyond, Cond.static yX4_isBeyond, Cond.code yX4_isBeyond cX4_isBeyond 3 (some .boolean), Cond.methodLink RX4 82 yX1_addObservation, Cond.instanceMethod yX1_addObservation]
def wsX4_observe_r2 : List Cond := [Cond.selects RX1 yX1_addObservation yX1_addObservation, Cond.code yX1_addObservation cX1_addObservation 6 (some .int), Cond.fieldLink RX1 41 "TheodoliteRow$Net" "observations" "I", Cond.fieldLink RX1 22 "TheodoliteRow$Net" "from" "[I", Cond.fieldLink RX1 25 "TheodoliteRow$Net" "to" "[I", Cond.fieldLink RX1 28 "TheodoliteRow$Net" "difference" "[I", Cond.fieldLink RX1 31 "TheodoliteRow$Net" "weight" "[I", Cond.methodLink RX1 44 yX1_markParts, Cond.instanceMethod yX1_markParts, Cond.selects RX1 yX1_markParts yX1_markParts, Cond.code yX1_markParts cX1_markParts 2 none, Cond.fieldLink RX1 19 "TheodoliteRow$Net" "lowest" "[I", Cond.fieldLink RX1 34 "TheodoliteRow$Net" "isWithdrawn" "[Z", Cond.methodLink RX1 47 yX1_mergeParts, Cond.instanceMethod yX1_mergeParts, Cond.selects RX1 yX1_mergeParts yX1_mergeParts, Cond.code yX1_mergeParts cX1_mergeParts 6 none, Cond.methodLink RX1 51 Lib.Math.min.name, Cond.static Lib.Math.min.name, Cond.initialized "java/lang/Math", Cond.code Lib.Math.min.name Lib.Math.min.code 2 (some .int), Cond.methodLink RX1 57 Lib.Math.max.name, Cond.static Lib.Math.max.name, Cond.code Lib.Math.max.name Lib.Math.max.code 2 (some .int)]
def wsX4_observe : List Cond := .code yX4_observe cX4_observe 5 (some .int) :: ((wsX4_observe_r1 ++ wsX4_observe_r2) ++ wsX40 ++ wsX10 ++ (vx_atS RX4 66 "java/lang/IllegalArgumentException" ["java/lang/RuntimeException", "java/lang/Exception"]).filter goodWord ++ (vx_atS RX4 47 "java/lang/IllegalStateException" ["java/lang/RuntimeException", "java/lang/Exception"]).filter goodWord ++ (vx_atS RX4 167 "java/lang/IndexOutOfBoundsException" ["java/lang/RuntimeException", "java/lang/Exception"]).filter goodWord)
def wsX4_needObservation : List Cond := .code yX4_needObservation cX4_needObservation 2 none :: ([.classLink RX4 163 "java/lang/IndexOutOfBoundsException", .initialized "java/lang/IndexOutOfBoundsException", .fieldLink RX4 10 "TheodoliteRow" "net" "LTheodoliteRow$Net;", .methodLink RX4 168 yX1_hasObservation, .instanceMethod yX1_hasObservation, .selects RX1 yX1_hasObservation yX1_hasObservation, .initialized RX1, .code yX1_hasObservation cX1_hasObservation 2 (some .boolean), .fieldLink RX1 41 "TheodoliteRow$Net" "observations" "I"] ++ wsX40 ++ wsX10 ++ (vx_atS RX4 167 "java/lang/IndexOutOfBoundsException" ["java/lang/RuntimeException", "java/lang/Exception"]).filter goodWord)
def wsX4_withdraw_r1 : List Cond := [Cond.fieldLink RX4 10 "TheodoliteRow" "net" "LTheodoliteRow$Net;", Cond.methodLink RX4 86 yX4_needObservation, Cond.instanceMethod yX4_needObservation, Cond.selects RX4 yX4_needObservation yX4_needObservation, Cond.initialized RX4, Cond.code yX4_needObservation cX4_needObservation 2 none, Cond.classLink RX4 163 "java/lang/IndexOutOfBoundsException", Cond.initialized "java/lang/IndexOutOfBoundsException", Cond.methodLink RX4 168 yX1_hasObservation, Cond.instanceMethod yX1_hasObservation, Cond.selects RX1 yX1_hasObservation yX1_hasObservation, Cond.initialized RX1, Cond.code yX1_hasObservation cX1_hasObservation 2 (some .boolean), Cond.fieldLink RX1 41 "TheodoliteRow$Net" "observations" "I", Cond.methodLink RX4 89 yX1_setWithdrawn, Cond.instanceMethod yX1_setWithdrawn, Cond.selects RX1 yX1_setWithdrawn yX1_setWithdrawn, Cond.code yX1_setWithdrawn cX1_setWithdrawn 4 (some .boolean), Cond.fieldLink RX1 34 "TheodoliteRow$Net" "isWithdrawn" "[Z", Cond.methodLink RX1 44 yX1_markParts, Cond.instanceMethod yX1_markParts, Cond.selects RX1 yX1_markParts yX1_markParts, Cond.code yX1_markParts cX1_markParts 2 none, Cond.fieldLink RX1 37 "TheodoliteRow$Net" "stations" "I"]
def wsX4_withdraw_r2 : List Cond := [Cond.fieldLink RX1 19 "TheodoliteRow$Net" "lowest" "[I", Cond.fieldLink RX1 22 "TheodoliteRow$Net" "from" "[I", Cond.fieldLink RX1 25 "TheodoliteRow$Net" "to" "[I", Cond.methodLink RX1 47 yX1_mergeParts, Cond.instanceMethod yX1_mergeParts, Cond.selects RX1 yX1_mergeParts yX1_mergeParts, Cond.code yX1_mergeParts cX1_mergeParts 6 none, Cond.methodLink RX1 51 Lib.Math.min.name, Cond.static Lib.Math.min.name, Cond.initialized "java/lang/Math", Cond.code Lib.Math.min.name Lib.Math.min.code 2 (some .int), Cond.methodLink RX1 57 Lib.Math.max.name, Cond.static Lib.Math.max.name, Cond.code Lib.Math.max.name Lib.Math.max.code 2 (some .int)]
def wsX4_withdraw : List Cond := .code yX4_withdraw cX4_withdraw 3 (some .boolean) :: ((wsX4_withdraw_r1 ++ wsX4_withdraw_r2) ++ wsX40 ++ wsX10 ++ (vx_atS RX4 167 "java/lang/IndexOutOfBoundsException" ["java/lang/RuntimeException", "java/lang/Exception"]).filter goodWord)
def wsX4_clean_r1 : List Cond := [Cond.classLink RX4 62 "java/lang/IllegalArgumentException", Cond.initialized "java/lang/IllegalArgumentException", Cond.constant RX4 93 (1000000000), Cond.fieldLink RX4 21 "TheodoliteRow" "adjustment" "LTheodoliteRow$Adjustment;", Cond.fieldLink RX4 10 "TheodoliteRow" "net" "LTheodoliteRow$Net;", Cond.methodLink RX4 58 yX4_isBeyond, Cond.static yX4_isBeyond, Cond.initialized RX4, Cond.code yX4_isBeyond cX4_isBeyond 3 (some .boolean), Cond.methodLink RX4 96 yX0_worstObservation, Cond.instanceMethod yX0_worstObservation, Cond.selects RX0 yX0_worstObservation yX0_worstObservation, Cond.initialized RX0, Cond.code yX0_worstObservation cX0_worstObservation 7 (some .int), Cond.fieldLink RX0 9 "TheodoliteRow$Adjustment" "net" "LTheodoliteRow$Net;", Cond.fieldLink RX0 79 "TheodoliteRow$Net" "observations" "I", Cond.fieldLink RX0 82 "TheodoliteRow$Net" "isWithdrawn" "[Z", Cond.methodLink RX0 86 yX0_scoreOf, Cond.instanceMethod yX0_scoreOf, Cond.selects RX0 yX0_scoreOf yX0_scoreOf, Cond.code yX0_scoreOf cX0_scoreOf 7 (some .long), Cond.constantLong RX0 45 (100), Cond.methodLink RX0 70 Lib.MathLoose.abs_long.x, Cond.static Lib.MathLoose.abs_long.x]
def wsX4_clean_r2 : List Cond := [Cond.initialized "java/lang/Math", Cond.code Lib.MathLoose.abs_long.x Lib.MathLoose.abs_long.code 2 (some .long), Cond.fieldLink RX0 41 "TheodoliteRow$Adjustment" "treeWeight" "J", Cond.fieldLink RX0 76 "TheodoliteRow$Net" "weight" "[I", Cond.methodLink RX0 57 yX0_misfitOf, Cond.instanceMethod yX0_misfitOf, Cond.selects RX0 yX0_misfitOf yX0_misfitOf, Cond.code yX0_misfitOf cX0_misfitOf 3 (some .long), Cond.fieldLink RX0 60 "TheodoliteRow$Net" "from" "[I", Cond.fieldLink RX0 89 "TheodoliteRow$Net" "to" "[I", Cond.fieldLink RX0 92 "TheodoliteRow$Net" "difference" "[I", Cond.methodLink RX0 24 yX0_solve, Cond.instanceMethod yX0_solve, Cond.selects RX0 yX0_solve yX0_solve, Cond.code yX0_solve cX0_solve 4 none, Cond.fieldLink RX0 37 "TheodoliteRow$Adjustment" "datum" "I", Cond.methodLink RX0 97 yX1_datumOf, Cond.instanceMethod yX1_datumOf, Cond.selects RX1 yX1_datumOf yX1_datumOf, Cond.initialized RX1, Cond.code yX1_datumOf cX1_datumOf 3 (some .int), Cond.fieldLink RX1 37 "TheodoliteRow$Net" "stations" "I", Cond.fieldLink RX1 9 "TheodoliteRow$Net" "isTold" "[Z", Cond.fieldLink RX1 19 "TheodoliteRow$Net" "lowest" "[I"]
def wsX4_clean_r3 : List Cond := [Cond.methodLink RX1 60 yX1_areInOnePart, Cond.instanceMethod yX1_areInOnePart, Cond.selects RX1 yX1_areInOnePart yX1_areInOnePart, Cond.code yX1_areInOnePart cX1_areInOnePart 3 (some .boolean), Cond.methodLink RX0 101 yX0_numberUnknowns, Cond.instanceMethod yX0_numberUnknowns, Cond.selects RX0 yX0_numberUnknowns yX0_numberUnknowns, Cond.code yX0_numberUnknowns cX0_numberUnknowns 3 none, Cond.fieldLink RX0 54 "TheodoliteRow$Adjustment" "unknowns" "I", Cond.fieldLink RX0 51 "TheodoliteRow$Net" "stations" "I", Cond.fieldLink RX0 15 "TheodoliteRow$Adjustment" "rowOf" "[I", Cond.methodLink RX0 118 yX1_areInOnePart, Cond.methodLink RX0 104 yX0_clearCells, Cond.instanceMethod yX0_clearCells, Cond.selects RX0 yX0_clearCells yX0_clearCells, Cond.code yX0_clearCells cX0_clearCells 3 none, Cond.fieldLink RX0 21 "TheodoliteRow$Adjustment" "cells" "[[J", Cond.methodLink RX0 107 yX1_isInPartOf, Cond.instanceMethod yX1_isInPartOf, Cond.selects RX1 yX1_isInPartOf yX1_isInPartOf, Cond.code yX1_isInPartOf cX1_isInPartOf 3 (some .boolean), Cond.fieldLink RX1 34 "TheodoliteRow$Net" "isWithdrawn" "[Z", Cond.fieldLink RX1 22 "TheodoliteRow$Net" "from" "[I", Cond.methodLink RX0 111 yX0_addToCells]
def wsX4_clean_r4 : List Cond := [Cond.instanceMethod yX0_addToCells, Cond.selects RX0 yX0_addToCells yX0_addToCells, Cond.code yX0_addToCells cX0_addToCells 8 none, Cond.methodLink RX0 121 yX0_addToRow, Cond.instanceMethod yX0_addToRow, Cond.selects RX0 yX0_addToRow yX0_addToRow, Cond.code yX0_addToRow cX0_addToRow 7 none, Cond.methodLink RX0 115 yX0_eliminate, Cond.instanceMethod yX0_eliminate, Cond.selects RX0 yX0_eliminate yX0_eliminate, Cond.code yX0_eliminate cX0_eliminate 7 none, Cond.methodLink RX0 125 yX0_clearColumn, Cond.instanceMethod yX0_clearColumn, Cond.selects RX0 yX0_clearColumn yX0_clearColumn, Cond.code yX0_clearColumn cX0_clearColumn 12 none, Cond.methodLink RX0 28 yX0_riseOf, Cond.instanceMethod yX0_riseOf, Cond.selects RX0 yX0_riseOf yX0_riseOf, Cond.code yX0_riseOf cX0_riseOf 3 (some .long), Cond.static yX4_roundedDown, Cond.code yX4_roundedDown cX4_roundedDown 4 (some .long), Cond.methodLink RX4 179 yJ9_floorDiv_f86c9, Cond.static yJ9_floorDiv_f86c9, Cond.initialized RJ9]
def wsX4_clean_r5 : List Cond := [Cond.code yJ9_floorDiv_f86c9 cJ9_floorDiv_f86c9 6 (some .long), Cond.methodLink RX0 66 yX0_checkAgainst, Cond.instanceMethod yX0_checkAgainst, Cond.selects RX0 yX0_checkAgainst yX0_checkAgainst, Cond.code yX0_checkAgainst cX0_checkAgainst 4 (some .int), Cond.constantLong RX0 95 (1000), Cond.methodLink RX4 99 yX0_scoreOf, Cond.methodLink RX4 89 yX1_setWithdrawn, Cond.instanceMethod yX1_setWithdrawn, Cond.selects RX1 yX1_setWithdrawn yX1_setWithdrawn, Cond.code yX1_setWithdrawn cX1_setWithdrawn 4 (some .boolean), Cond.methodLink RX1 44 yX1_markParts, Cond.instanceMethod yX1_markParts, Cond.selects RX1 yX1_markParts yX1_markParts, Cond.code yX1_markParts cX1_markParts 2 none, Cond.fieldLink RX1 41 "TheodoliteRow$Net" "observations" "I", Cond.fieldLink RX1 25 "TheodoliteRow$Net" "to" "[I", Cond.methodLink RX1 47 yX1_mergeParts, Cond.instanceMethod yX1_mergeParts, Cond.selects RX1 yX1_mergeParts yX1_mergeParts, Cond.code yX1_mergeParts cX1_mergeParts 6 none, Cond.methodLink RX1 51 Lib.Math.min.name, Cond.static Lib.Math.min.name, Cond.code Lib.Math.min.name Lib.Math.min.code 2 (some .int)]
def wsX4_clean_r6 : List Cond := [Cond.methodLink RX1 57 Lib.Math.max.name, Cond.static Lib.Math.max.name, Cond.code Lib.Math.max.name Lib.Math.max.code 2 (some .int)]
def wsX4_clean : List Cond := .code yX4_clean cX4_clean 4 (some .int) :: ((wsX4_clean_r1 ++ (wsX4_clean_r2 ++ (wsX4_clean_r3 ++ (wsX4_clean_r4 ++ (wsX4_clean_r5 ++ wsX4_clean_r6))))) ++ wsX40 ++ wsX00 ++ wsX10 ++ (vx_atS RX4 66 "java/lang/IllegalArgumentException" ["java/lang/RuntimeException", "java/lang/Exception"]).filter goodWord)
def wsX4_go_r1 : List Cond := [Cond.classLink RX4 43 "java/lang/IllegalStateException", Cond.initialized "java/lang/IllegalStateException", Cond.fieldLink RX4 35 "TheodoliteRow" "path" "LTheodoliteRow$Path;", Cond.fieldLink RX4 103 "TheodoliteRow$Path" "length" "I", Cond.fieldLink RX4 10 "TheodoliteRow" "net" "LTheodoliteRow$Net;", Cond.fieldLink RX4 112 "TheodoliteRow$Path" "last" "I", Cond.methodLink RX4 54 yX4_needStation, Cond.instanceMethod yX4_needStation, Cond.selects RX4 yX4_needStation yX4_needStation, Cond.initialized RX4, Cond.code yX4_needStation cX4_needStation 2 none, Cond.classLink RX4 163 "java/lang/IndexOutOfBoundsException", Cond.initialized "java/lang/IndexOutOfBoundsException", Cond.methodLink RX4 159 yX1_hasStation, Cond.instanceMethod yX1_hasStation, Cond.selects RX1 yX1_hasStation yX1_hasStation, Cond.initialized RX1, Cond.code yX1_hasStation cX1_hasStation 2 (some .boolean), Cond.fieldLink RX1 37 "TheodoliteRow$Net" "stations" "I", Cond.methodLink RX4 108 yX2_begin, Cond.instanceMethod yX2_begin, Cond.selects RX2 yX2_begin yX2_begin, Cond.initialized RX2, Cond.code yX2_begin cX2_begin 2 (some .int)]
def wsX4_go_r2 : List Cond := [Cond.fieldLink RX2 13 "TheodoliteRow$Path" "first" "I", Cond.fieldLink RX2 16 "TheodoliteRow$Path" "last" "I", Cond.fieldLink RX2 7 "TheodoliteRow$Path" "length" "I", Cond.methodLink RX4 115 yX1_lowestBetween, Cond.instanceMethod yX1_lowestBetween, Cond.selects RX1 yX1_lowestBetween yX1_lowestBetween, Cond.code yX1_lowestBetween cX1_lowestBetween 6 (some .int), Cond.fieldLink RX1 41 "TheodoliteRow$Net" "observations" "I", Cond.fieldLink RX1 22 "TheodoliteRow$Net" "from" "[I", Cond.fieldLink RX1 25 "TheodoliteRow$Net" "to" "[I", Cond.fieldLink RX1 34 "TheodoliteRow$Net" "isWithdrawn" "[Z", Cond.methodLink RX4 121 yX1_differenceFrom, Cond.instanceMethod yX1_differenceFrom, Cond.selects RX1 yX1_differenceFrom yX1_differenceFrom, Cond.code yX1_differenceFrom cX1_differenceFrom 3 (some .int), Cond.fieldLink RX1 28 "TheodoliteRow$Net" "difference" "[I", Cond.methodLink RX4 124 yX2_goOn, Cond.instanceMethod yX2_goOn, Cond.selects RX2 yX2_goOn yX2_goOn, Cond.code yX2_goOn cX2_goOn 3 (some .int), Cond.fieldLink RX2 19 "TheodoliteRow$Path" "total" "I"]
def wsX4_go : List Cond := .code yX4_go cX4_go 3 (some .int) :: ((wsX4_go_r1 ++ wsX4_go_r2) ++ wsX40 ++ wsX20 ++ wsX10 ++ (vx_atS RX4 47 "java/lang/IllegalStateException" ["java/lang/RuntimeException", "java/lang/Exception"]).filter goodWord ++ (vx_atS RX4 167 "java/lang/IndexOutOfBoundsException" ["java/lang/RuntimeException", "java/lang/Exception"]).filter goodWord)
def wsX4_end : List Cond := .code yX4_end cX4_end 1 (some .int) :: ([.fieldLink RX4 35 "TheodoliteRow" "path" "LTheodoliteRow$Path;", .methodLink RX4 127 yX2_clear, .instanceMethod yX2_clear, .selects RX2 yX2_clear yX2_clear, .initialized RX2, .code yX2_clear cX2_clear 2 (some .int), .fieldLink RX2 7 "TheodoliteRow$Path" "length" "I", .fieldLink RX2 19 "TheodoliteRow$Path" "total" "I"] ++ wsX40 ++ wsX20)
def wsX4_sum : List Cond := .code yX4_sum cX4_sum 1 (some .int) :: ([.fieldLink RX4 35 "TheodoliteRow" "path" "LTheodoliteRow$Path;", .fieldLink RX4 130 "TheodoliteRow$Path" "total" "I"] ++ wsX40 ++ wsX20)
def wsX4_isClosed : List Cond := .code yX4_isClosed cX4_isClosed 1 (some .boolean) :: ([.fieldLink RX4 35 "TheodoliteRow" "path" "LTheodoliteRow$Path;", .fieldLink RX4 103 "TheodoliteRow$Path" "length" "I", .fieldLink RX4 133 "TheodoliteRow$Path" "first" "I", .fieldLink RX4 112 "TheodoliteRow$Path" "last" "I", .fieldLink RX4 130 "TheodoliteRow$Path" "total" "I"] ++ wsX40 ++ wsX20)
def wsX4_height_r1 : List Cond := [Cond.fieldLink RX4 21 "TheodoliteRow" "adjustment" "LTheodoliteRow$Adjustment;", Cond.methodLink RX4 54 yX4_needStation, Cond.instanceMethod yX4_needStation, Cond.selects RX4 yX4_needStation yX4_needStation, Cond.initialized RX4, Cond.code yX4_needStation cX4_needStation 2 none, Cond.classLink RX4 163 "java/lang/IndexOutOfBoundsException", Cond.initialized "java/lang/IndexOutOfBoundsException", Cond.fieldLink RX4 10 "TheodoliteRow" "net" "LTheodoliteRow$Net;", Cond.methodLink RX4 159 yX1_hasStation, Cond.instanceMethod yX1_hasStation, Cond.selects RX1 yX1_hasStation yX1_hasStation, Cond.initialized RX1, Cond.code yX1_hasStation cX1_hasStation 2 (some .boolean), Cond.fieldLink RX1 37 "TheodoliteRow$Net" "stations" "I", Cond.methodLink RX4 136 yX0_heightOf, Cond.instanceMethod yX0_heightOf, Cond.selects RX0 yX0_heightOf yX0_heightOf, Cond.initialized RX0, Cond.code yX0_heightOf cX0_heightOf 4 (some .long), Cond.fieldLink RX0 9 "TheodoliteRow$Adjustment" "net" "LTheodoliteRow$Net;", Cond.fieldLink RX0 32 "TheodoliteRow$Net" "toldHeight" "[I", Cond.fieldLink RX0 37 "TheodoliteRow$Adjustment" "datum" "I", Cond.fieldLink RX0 41 "TheodoliteRow$Adjustment" "treeWeight" "J"]
def wsX4_height_r2 : List Cond := [Cond.constantLong RX0 45 (100), Cond.methodLink RX0 24 yX0_solve, Cond.instanceMethod yX0_solve, Cond.selects RX0 yX0_solve yX0_solve, Cond.code yX0_solve cX0_solve 4 none, Cond.fieldLink RX0 79 "TheodoliteRow$Net" "observations" "I", Cond.methodLink RX0 97 yX1_datumOf, Cond.instanceMethod yX1_datumOf, Cond.selects RX1 yX1_datumOf yX1_datumOf, Cond.code yX1_datumOf cX1_datumOf 3 (some .int), Cond.fieldLink RX1 9 "TheodoliteRow$Net" "isTold" "[Z", Cond.fieldLink RX1 19 "TheodoliteRow$Net" "lowest" "[I", Cond.methodLink RX1 60 yX1_areInOnePart, Cond.instanceMethod yX1_areInOnePart, Cond.selects RX1 yX1_areInOnePart yX1_areInOnePart, Cond.code yX1_areInOnePart cX1_areInOnePart 3 (some .boolean), Cond.methodLink RX0 101 yX0_numberUnknowns, Cond.instanceMethod yX0_numberUnknowns, Cond.selects RX0 yX0_numberUnknowns yX0_numberUnknowns, Cond.code yX0_numberUnknowns cX0_numberUnknowns 3 none, Cond.fieldLink RX0 54 "TheodoliteRow$Adjustment" "unknowns" "I", Cond.fieldLink RX0 51 "TheodoliteRow$Net" "stations" "I", Cond.fieldLink RX0 15 "TheodoliteRow$Adjustment" "rowOf" "[I", Cond.methodLink RX0 118 yX1_areInOnePart]
def wsX4_height_r3 : List Cond := [Cond.methodLink RX0 104 yX0_clearCells, Cond.instanceMethod yX0_clearCells, Cond.selects RX0 yX0_clearCells yX0_clearCells, Cond.code yX0_clearCells cX0_clearCells 3 none, Cond.fieldLink RX0 21 "TheodoliteRow$Adjustment" "cells" "[[J", Cond.methodLink RX0 107 yX1_isInPartOf, Cond.instanceMethod yX1_isInPartOf, Cond.selects RX1 yX1_isInPartOf yX1_isInPartOf, Cond.code yX1_isInPartOf cX1_isInPartOf 3 (some .boolean), Cond.fieldLink RX1 34 "TheodoliteRow$Net" "isWithdrawn" "[Z", Cond.fieldLink RX1 22 "TheodoliteRow$Net" "from" "[I", Cond.methodLink RX0 111 yX0_addToCells, Cond.instanceMethod yX0_addToCells, Cond.selects RX0 yX0_addToCells yX0_addToCells, Cond.code yX0_addToCells cX0_addToCells 8 none, Cond.fieldLink RX0 60 "TheodoliteRow$Net" "from" "[I", Cond.fieldLink RX0 89 "TheodoliteRow$Net" "to" "[I", Cond.fieldLink RX0 76 "TheodoliteRow$Net" "weight" "[I", Cond.fieldLink RX0 92 "TheodoliteRow$Net" "difference" "[I", Cond.methodLink RX0 121 yX0_addToRow, Cond.instanceMethod yX0_addToRow, Cond.selects RX0 yX0_addToRow yX0_addToRow, Cond.code yX0_addToRow cX0_addToRow 7 none, Cond.methodLink RX0 115 yX0_eliminate]
def wsX4_height_r4 : List Cond := [Cond.instanceMethod yX0_eliminate, Cond.selects RX0 yX0_eliminate yX0_eliminate, Cond.code yX0_eliminate cX0_eliminate 7 none, Cond.methodLink RX0 125 yX0_clearColumn, Cond.instanceMethod yX0_clearColumn, Cond.selects RX0 yX0_clearColumn yX0_clearColumn, Cond.code yX0_clearColumn cX0_clearColumn 12 none, Cond.methodLink RX0 28 yX0_riseOf, Cond.instanceMethod yX0_riseOf, Cond.selects RX0 yX0_riseOf yX0_riseOf, Cond.code yX0_riseOf cX0_riseOf 3 (some .long), Cond.static yX4_roundedDown, Cond.code yX4_roundedDown cX4_roundedDown 4 (some .long), Cond.methodLink RX4 179 yJ9_floorDiv_f86c9, Cond.static yJ9_floorDiv_f86c9, Cond.initialized RJ9, Cond.code yJ9_floorDiv_f86c9 cJ9_floorDiv_f86c9 6 (some .long)]
def wsX4_height : List Cond := .code yX4_height cX4_height 2 (some .long) :: ((wsX4_height_r1 ++ (wsX4_height_r2 ++ (wsX4_height_r3 ++ wsX4_height_r4))) ++ wsX40 ++ wsX10 ++ wsX00 ++ (vx_atS RX4 167 "java/lang/IndexOutOfBoundsException" ["java/lang/RuntimeException", "java/lang/Exception"]).filter goodWord)
def wsX4_heightAnew_r1 : List Cond := [Cond.fieldLink RX4 28 "TheodoliteRow" "treeWalk" "LTheodoliteRow$TreeWalk;", Cond.methodLink RX4 54 yX4_needStation, Cond.instanceMethod yX4_needStation, Cond.selects RX4 yX4_needStation yX4_needStation, Cond.initialized RX4, Cond.code yX4_needStation cX4_needStation 2 none, Cond.classLink RX4 163 "java/lang/IndexOutOfBoundsException", Cond.initialized "java/lang/IndexOutOfBoundsException", Cond.fieldLink RX4 10 "TheodoliteRow" "net" "LTheodoliteRow$Net;", Cond.methodLink RX4 159 yX1_hasStation, Cond.instanceMethod yX1_hasStation, Cond.selects RX1 yX1_hasStation yX1_hasStation, Cond.initialized RX1, Cond.code yX1_hasStation cX1_hasStation 2 (some .boolean), Cond.fieldLink RX1 37 "TheodoliteRow$Net" "stations" "I", Cond.methodLink RX4 139 yX3_heightOf, Cond.instanceMethod yX3_heightOf, Cond.selects RX3 yX3_heightOf yX3_heightOf, Cond.initialized RX3, Cond.code yX3_heightOf cX3_heightOf 4 (some .long), Cond.fieldLink RX3 27 "TheodoliteRow$TreeWalk" "weightedRises" "J", Cond.fieldLink RX3 9 "TheodoliteRow$TreeWalk" "net" "LTheodoliteRow$Net;", Cond.fieldLink RX3 31 "TheodoliteRow$Net" "toldHeight" "[I", Cond.fieldLink RX3 37 "TheodoliteRow$TreeWalk" "datum" "I"]
def wsX4_heightAnew_r2 : List Cond := [Cond.fieldLink RX3 41 "TheodoliteRow$TreeWalk" "weightOfAll" "J", Cond.constantLong RX3 44 (100), Cond.methodLink RX3 23 yX3_walk, Cond.instanceMethod yX3_walk, Cond.selects RX3 yX3_walk yX3_walk, Cond.code yX3_walk cX3_walk 4 none, Cond.fieldLink RX3 58 "TheodoliteRow$TreeWalk" "askedStation" "I", Cond.fieldLink RX3 61 "TheodoliteRow$TreeWalk" "askedObservation" "I", Cond.fieldLink RX3 71 "TheodoliteRow$TreeWalk" "branches" "I", Cond.fieldLink RX3 55 "TheodoliteRow$TreeWalk" "weightOfThoseWithAsked" "J", Cond.fieldLink RX3 74 "TheodoliteRow$Net" "stations" "I", Cond.fieldLink RX3 17 "TheodoliteRow$TreeWalk" "piece" "[[I", Cond.fieldLink RX3 20 "TheodoliteRow$TreeWalk" "rise" "[[I", Cond.methodLink RX3 64 yX1_datumOf, Cond.instanceMethod yX1_datumOf, Cond.selects RX1 yX1_datumOf yX1_datumOf, Cond.code yX1_datumOf cX1_datumOf 3 (some .int), Cond.fieldLink RX1 9 "TheodoliteRow$Net" "isTold" "[Z", Cond.fieldLink RX1 19 "TheodoliteRow$Net" "lowest" "[I", Cond.methodLink RX1 60 yX1_areInOnePart, Cond.instanceMethod yX1_areInOnePart, Cond.selects RX1 yX1_areInOnePart yX1_areInOnePart, Cond.code yX1_areInOnePart cX1_areInOnePart 3 (some .boolean), Cond.methodLink RX3 68 yX1_countStationsWith]
def wsX4_heightAnew_r3 : List Cond := [Cond.instanceMethod yX1_countStationsWith, Cond.selects RX1 yX1_countStationsWith yX1_countStationsWith, Cond.code yX1_countStationsWith cX1_countStationsWith 4 (some .int), Cond.methodLink RX3 77 yX3_grow, Cond.static yX3_grow, Cond.code yX3_grow cX3_grow 8 none, Cond.fieldLink RX3 85 "TheodoliteRow$Net" "observations" "I", Cond.fieldLink RX3 95 "TheodoliteRow$Net" "weight" "[I", Cond.methodLink RX3 81 yX3_countTree, Cond.instanceMethod yX3_countTree, Cond.selects RX3 yX3_countTree yX3_countTree, Cond.code yX3_countTree cX3_countTree 5 none, Cond.methodLink RX3 88 yX3_joinsPieces, Cond.instanceMethod yX3_joinsPieces, Cond.selects RX3 yX3_joinsPieces yX3_joinsPieces, Cond.code yX3_joinsPieces cX3_joinsPieces 3 (some .boolean), Cond.fieldLink RX3 50 "TheodoliteRow$Net" "from" "[I", Cond.fieldLink RX3 101 "TheodoliteRow$Net" "to" "[I", Cond.methodLink RX3 98 yX1_isInPartOf, Cond.instanceMethod yX1_isInPartOf, Cond.selects RX1 yX1_isInPartOf yX1_isInPartOf, Cond.code yX1_isInPartOf cX1_isInPartOf 3 (some .boolean), Cond.fieldLink RX1 34 "TheodoliteRow$Net" "isWithdrawn" "[Z", Cond.fieldLink RX1 22 "TheodoliteRow$Net" "from" "[I"]
def wsX4_heightAnew_r4 : List Cond := [Cond.methodLink RX3 92 yX3_joinPieces, Cond.instanceMethod yX3_joinPieces, Cond.selects RX3 yX3_joinPieces yX3_joinPieces, Cond.code yX3_joinPieces cX3_joinPieces 8 none, Cond.fieldLink RX3 104 "TheodoliteRow$Net" "difference" "[I", Cond.static yX4_roundedDown, Cond.code yX4_roundedDown cX4_roundedDown 4 (some .long), Cond.methodLink RX4 179 yJ9_floorDiv_f86c9, Cond.static yJ9_floorDiv_f86c9, Cond.initialized RJ9, Cond.code yJ9_floorDiv_f86c9 cJ9_floorDiv_f86c9 6 (some .long)]
def wsX4_heightAnew : List Cond := .code yX4_heightAnew cX4_heightAnew 2 (some .long) :: ((wsX4_heightAnew_r1 ++ (wsX4_heightAnew_r2 ++ (wsX4_heightAnew_r3 ++ wsX4_heightAnew_r4))) ++ wsX40 ++ wsX10 ++ wsX30 ++ (vx_atS RX4 167 "java/lang/IndexOutOfBoundsException" ["java/lang/RuntimeException", "java/lang/Exception"]).filter goodWord)
def wsX4_free_r1 : List Cond := [Cond.fieldLink RX4 21 "TheodoliteRow" "adjustment" "LTheodoliteRow$Adjustment;", Cond.methodLink RX4 54 yX4_needStation, Cond.instanceMethod yX4_needStation, Cond.selects RX4 yX4_needStation yX4_needStation, Cond.initialized RX4, Cond.code yX4_needStation cX4_needStation 2 none, Cond.classLink RX4 163 "java/lang/IndexOutOfBoundsException", Cond.initialized "java/lang/IndexOutOfBoundsException", Cond.fieldLink RX4 10 "TheodoliteRow" "net" "LTheodoliteRow$Net;", Cond.methodLink RX4 159 yX1_hasStation, Cond.instanceMethod yX1_hasStation, Cond.selects RX1 yX1_hasStation yX1_hasStation, Cond.initialized RX1, Cond.code yX1_hasStation cX1_hasStation 2 (some .boolean), Cond.fieldLink RX1 37 "TheodoliteRow$Net" "stations" "I", Cond.methodLink RX4 140 yX0_freeHeightOf, Cond.instanceMethod yX0_freeHeightOf, Cond.selects RX0 yX0_freeHeightOf yX0_freeHeightOf, Cond.initialized RX0, Cond.code yX0_freeHeightOf cX0_freeHeightOf 6 (some .long), Cond.fieldLink RX0 9 "TheodoliteRow$Adjustment" "net" "LTheodoliteRow$Net;", Cond.fieldLink RX0 51 "TheodoliteRow$Net" "stations" "I", Cond.fieldLink RX0 54 "TheodoliteRow$Adjustment" "unknowns" "I", Cond.constantLong RX0 45 (100)]
def wsX4_free_r2 : List Cond := [Cond.fieldLink RX0 41 "TheodoliteRow$Adjustment" "treeWeight" "J", Cond.methodLink RX0 24 yX0_solve, Cond.instanceMethod yX0_solve, Cond.selects RX0 yX0_solve yX0_solve, Cond.code yX0_solve cX0_solve 4 none, Cond.fieldLink RX0 37 "TheodoliteRow$Adjustment" "datum" "I", Cond.fieldLink RX0 79 "TheodoliteRow$Net" "observations" "I", Cond.methodLink RX0 97 yX1_datumOf, Cond.instanceMethod yX1_datumOf, Cond.selects RX1 yX1_datumOf yX1_datumOf, Cond.code yX1_datumOf cX1_datumOf 3 (some .int), Cond.fieldLink RX1 9 "TheodoliteRow$Net" "isTold" "[Z", Cond.fieldLink RX1 19 "TheodoliteRow$Net" "lowest" "[I", Cond.methodLink RX1 60 yX1_areInOnePart, Cond.instanceMethod yX1_areInOnePart, Cond.selects RX1 yX1_areInOnePart yX1_areInOnePart, Cond.code yX1_areInOnePart cX1_areInOnePart 3 (some .boolean), Cond.methodLink RX0 101 yX0_numberUnknowns, Cond.instanceMethod yX0_numberUnknowns, Cond.selects RX0 yX0_numberUnknowns yX0_numberUnknowns, Cond.code yX0_numberUnknowns cX0_numberUnknowns 3 none, Cond.fieldLink RX0 15 "TheodoliteRow$Adjustment" "rowOf" "[I", Cond.methodLink RX0 118 yX1_areInOnePart, Cond.methodLink RX0 104 yX0_clearCells]
def wsX4_free_r3 : List Cond := [Cond.instanceMethod yX0_clearCells, Cond.selects RX0 yX0_clearCells yX0_clearCells, Cond.code yX0_clearCells cX0_clearCells 3 none, Cond.fieldLink RX0 21 "TheodoliteRow$Adjustment" "cells" "[[J", Cond.methodLink RX0 107 yX1_isInPartOf, Cond.instanceMethod yX1_isInPartOf, Cond.selects RX1 yX1_isInPartOf yX1_isInPartOf, Cond.code yX1_isInPartOf cX1_isInPartOf 3 (some .boolean), Cond.fieldLink RX1 34 "TheodoliteRow$Net" "isWithdrawn" "[Z", Cond.fieldLink RX1 22 "TheodoliteRow$Net" "from" "[I", Cond.methodLink RX0 111 yX0_addToCells, Cond.instanceMethod yX0_addToCells, Cond.selects RX0 yX0_addToCells yX0_addToCells, Cond.code yX0_addToCells cX0_addToCells 8 none, Cond.fieldLink RX0 60 "TheodoliteRow$Net" "from" "[I", Cond.fieldLink RX0 89 "TheodoliteRow$Net" "to" "[I", Cond.fieldLink RX0 76 "TheodoliteRow$Net" "weight" "[I", Cond.fieldLink RX0 92 "TheodoliteRow$Net" "difference" "[I", Cond.methodLink RX0 121 yX0_addToRow, Cond.instanceMethod yX0_addToRow, Cond.selects RX0 yX0_addToRow yX0_addToRow, Cond.code yX0_addToRow cX0_addToRow 7 none, Cond.methodLink RX0 115 yX0_eliminate, Cond.instanceMethod yX0_eliminate]
def wsX4_free_r4 : List Cond := [Cond.selects RX0 yX0_eliminate yX0_eliminate, Cond.code yX0_eliminate cX0_eliminate 7 none, Cond.methodLink RX0 125 yX0_clearColumn, Cond.instanceMethod yX0_clearColumn, Cond.selects RX0 yX0_clearColumn yX0_clearColumn, Cond.code yX0_clearColumn cX0_clearColumn 12 none, Cond.methodLink RX0 28 yX0_riseOf, Cond.instanceMethod yX0_riseOf, Cond.selects RX0 yX0_riseOf yX0_riseOf, Cond.code yX0_riseOf cX0_riseOf 3 (some .long), Cond.static yX4_roundedDown, Cond.code yX4_roundedDown cX4_roundedDown 4 (some .long), Cond.methodLink RX4 179 yJ9_floorDiv_f86c9, Cond.static yJ9_floorDiv_f86c9, Cond.initialized RJ9, Cond.code yJ9_floorDiv_f86c9 cJ9_floorDiv_f86c9 6 (some .long)]
def wsX4_free : List Cond := .code yX4_free cX4_free 2 (some .long) :: ((wsX4_free_r1 ++ (wsX4_free_r2 ++ (wsX4_free_r3 ++ wsX4_free_r4))) ++ wsX40 ++ wsX10 ++ wsX00 ++ (vx_atS RX4 167 "java/lang/IndexOutOfBoundsException" ["java/lang/RuntimeException", "java/lang/Exception"]).filter goodWord)
def wsX4_needObservationInNet : List Cond := .code yX4_needObservationInNet cX4_needObservationInNet 2 none :: ([.classLink RX4 43 "java/lang/IllegalStateException", .initialized "java/lang/IllegalStateException", .fieldLink RX4 10 "TheodoliteRow" "net" "LTheodoliteRow$Net;", .fieldLink RX4 173 "TheodoliteRow$Net" "isWithdrawn" "[Z", .methodLink RX4 86 yX4_needObservation, .instanceMethod yX4_needObservation, .selects RX4 yX4_needObservation yX4_needObservation, .initialized RX4, .code yX4_needObservation cX4_needObservation 2 none, .classLink RX4 163 "java/lang/IndexOutOfBoundsException", .initialized "java/lang/IndexOutOfBoundsException", .methodLink RX4 168 yX1_hasObservation, .instanceMethod yX1_hasObservation, .selects RX1 yX1_hasObservation yX1_hasObservation, .initialized RX1, .code yX1_hasObservation cX1_hasObservation 2 (some .boolean), .fieldLink RX1 41 "TheodoliteRow$Net" "observations" "I"] ++ wsX40 ++ wsX10 ++ (vx_atS RX4 47 "java/lang/IllegalStateException" ["java/lang/RuntimeException", "java/lang/Exception"]).filter goodWord ++ (vx_atS RX4 167 "java/lang/IndexOutOfBoundsException" ["java/lang/RuntimeException", "java/lang/Exception"]).filter goodWord)
def wsX4_residual_r1 : List Cond := [Cond.fieldLink RX4 21 "TheodoliteRow" "adjustment" "LTheodoliteRow$Adjustment;", Cond.methodLink RX4 143 yX4_needObservationInNet, Cond.instanceMethod yX4_needObservationInNet, Cond.selects RX4 yX4_needObservationInNet yX4_needObservationInNet, Cond.initialized RX4, Cond.code yX4_needObservationInNet cX4_needObservationInNet 2 none, Cond.classLink RX4 43 "java/lang/IllegalStateException", Cond.initialized "java/lang/IllegalStateException", Cond.fieldLink RX4 10 "TheodoliteRow" "net" "LTheodoliteRow$Net;", Cond.fieldLink RX4 173 "TheodoliteRow$Net" "isWithdrawn" "[Z", Cond.methodLink RX4 86 yX4_needObservation, Cond.instanceMethod yX4_needObservation, Cond.selects RX4 yX4_needObservation yX4_needObservation, Cond.code yX4_needObservation cX4_needObservation 2 none, Cond.classLink RX4 163 "java/lang/IndexOutOfBoundsException", Cond.initialized "java/lang/IndexOutOfBoundsException", Cond.methodLink RX4 168 yX1_hasObservation, Cond.instanceMethod yX1_hasObservation, Cond.selects RX1 yX1_hasObservation yX1_hasObservation, Cond.initialized RX1, Cond.code yX1_hasObservation cX1_hasObservation 2 (some .boolean), Cond.fieldLink RX1 41 "TheodoliteRow$Net" "observations" "I", Cond.methodLink RX4 146 yX0_residualOf, Cond.instanceMethod yX0_residualOf]
def wsX4_residual_r2 : List Cond := [Cond.selects RX0 yX0_residualOf yX0_residualOf, Cond.initialized RX0, Cond.code yX0_residualOf cX0_residualOf 4 (some .long), Cond.constantLong RX0 45 (100), Cond.fieldLink RX0 41 "TheodoliteRow$Adjustment" "treeWeight" "J", Cond.methodLink RX0 57 yX0_misfitOf, Cond.instanceMethod yX0_misfitOf, Cond.selects RX0 yX0_misfitOf yX0_misfitOf, Cond.code yX0_misfitOf cX0_misfitOf 3 (some .long), Cond.fieldLink RX0 9 "TheodoliteRow$Adjustment" "net" "LTheodoliteRow$Net;", Cond.fieldLink RX0 60 "TheodoliteRow$Net" "from" "[I", Cond.fieldLink RX0 89 "TheodoliteRow$Net" "to" "[I", Cond.fieldLink RX0 92 "TheodoliteRow$Net" "difference" "[I", Cond.methodLink RX0 24 yX0_solve, Cond.instanceMethod yX0_solve, Cond.selects RX0 yX0_solve yX0_solve, Cond.code yX0_solve cX0_solve 4 none, Cond.fieldLink RX0 37 "TheodoliteRow$Adjustment" "datum" "I", Cond.fieldLink RX0 79 "TheodoliteRow$Net" "observations" "I", Cond.methodLink RX0 97 yX1_datumOf, Cond.instanceMethod yX1_datumOf, Cond.selects RX1 yX1_datumOf yX1_datumOf, Cond.code yX1_datumOf cX1_datumOf 3 (some .int), Cond.fieldLink RX1 37 "TheodoliteRow$Net" "stations" "I"]
def wsX4_residual_r3 : List Cond := [Cond.fieldLink RX1 9 "TheodoliteRow$Net" "isTold" "[Z", Cond.fieldLink RX1 19 "TheodoliteRow$Net" "lowest" "[I", Cond.methodLink RX1 60 yX1_areInOnePart, Cond.instanceMethod yX1_areInOnePart, Cond.selects RX1 yX1_areInOnePart yX1_areInOnePart, Cond.code yX1_areInOnePart cX1_areInOnePart 3 (some .boolean), Cond.methodLink RX0 101 yX0_numberUnknowns, Cond.instanceMethod yX0_numberUnknowns, Cond.selects RX0 yX0_numberUnknowns yX0_numberUnknowns, Cond.code yX0_numberUnknowns cX0_numberUnknowns 3 none, Cond.fieldLink RX0 54 "TheodoliteRow$Adjustment" "unknowns" "I", Cond.fieldLink RX0 51 "TheodoliteRow$Net" "stations" "I", Cond.fieldLink RX0 15 "TheodoliteRow$Adjustment" "rowOf" "[I", Cond.methodLink RX0 118 yX1_areInOnePart, Cond.methodLink RX0 104 yX0_clearCells, Cond.instanceMethod yX0_clearCells, Cond.selects RX0 yX0_clearCells yX0_clearCells, Cond.code yX0_clearCells cX0_clearCells 3 none, Cond.fieldLink RX0 21 "TheodoliteRow$Adjustment" "cells" "[[J", Cond.methodLink RX0 107 yX1_isInPartOf, Cond.instanceMethod yX1_isInPartOf, Cond.selects RX1 yX1_isInPartOf yX1_isInPartOf, Cond.code yX1_isInPartOf cX1_isInPartOf 3 (some .boolean), Cond.fieldLink RX1 34 "TheodoliteRow$Net" "isWithdrawn" "[Z"]
def wsX4_residual_r4 : List Cond := [Cond.fieldLink RX1 22 "TheodoliteRow$Net" "from" "[I", Cond.methodLink RX0 111 yX0_addToCells, Cond.instanceMethod yX0_addToCells, Cond.selects RX0 yX0_addToCells yX0_addToCells, Cond.code yX0_addToCells cX0_addToCells 8 none, Cond.fieldLink RX0 76 "TheodoliteRow$Net" "weight" "[I", Cond.methodLink RX0 121 yX0_addToRow, Cond.instanceMethod yX0_addToRow, Cond.selects RX0 yX0_addToRow yX0_addToRow, Cond.code yX0_addToRow cX0_addToRow 7 none, Cond.methodLink RX0 115 yX0_eliminate, Cond.instanceMethod yX0_eliminate, Cond.selects RX0 yX0_eliminate yX0_eliminate, Cond.code yX0_eliminate cX0_eliminate 7 none, Cond.methodLink RX0 125 yX0_clearColumn, Cond.instanceMethod yX0_clearColumn, Cond.selects RX0 yX0_clearColumn yX0_clearColumn, Cond.code yX0_clearColumn cX0_clearColumn 12 none, Cond.methodLink RX0 28 yX0_riseOf, Cond.instanceMethod yX0_riseOf, Cond.selects RX0 yX0_riseOf yX0_riseOf, Cond.code yX0_riseOf cX0_riseOf 3 (some .long), Cond.static yX4_roundedDown, Cond.code yX4_roundedDown cX4_roundedDown 4 (some .long)]
def wsX4_residual_r5 : List Cond := [Cond.methodLink RX4 179 yJ9_floorDiv_f86c9, Cond.static yJ9_floorDiv_f86c9, Cond.initialized RJ9, Cond.code yJ9_floorDiv_f86c9 cJ9_floorDiv_f86c9 6 (some .long)]
def wsX4_residual : List Cond := .code yX4_residual cX4_residual 2 (some .long) :: ((wsX4_residual_r1 ++ (wsX4_residual_r2 ++ (wsX4_residual_r3 ++ (wsX4_residual_r4 ++ wsX4_residual_r5)))) ++ wsX40 ++ wsX10 ++ wsX00 ++ (vx_atS RX4 47 "java/lang/IllegalStateException" ["java/lang/RuntimeException", "java/lang/Exception"]).filter goodWord ++ (vx_atS RX4 167 "java/lang/IndexOutOfBoundsException" ["java/lang/RuntimeException", "java/lang/Exception"]).filter goodWord)
def wsX4_check_r1 : List Cond := [Cond.fieldLink RX4 21 "TheodoliteRow" "adjustment" "LTheodoliteRow$Adjustment;", Cond.methodLink RX4 143 yX4_needObservationInNet, Cond.instanceMethod yX4_needObservationInNet, Cond.selects RX4 yX4_needObservationInNet yX4_needObservationInNet, Cond.initialized RX4, Cond.code yX4_needObservationInNet cX4_needObservationInNet 2 none, Cond.classLink RX4 43 "java/lang/IllegalStateException", Cond.initialized "java/lang/IllegalStateException", Cond.fieldLink RX4 10 "TheodoliteRow" "net" "LTheodoliteRow$Net;", Cond.fieldLink RX4 173 "TheodoliteRow$Net" "isWithdrawn" "[Z", Cond.methodLink RX4 86 yX4_needObservation, Cond.instanceMethod yX4_needObservation, Cond.selects RX4 yX4_needObservation yX4_needObservation, Cond.code yX4_needObservation cX4_needObservation 2 none, Cond.classLink RX4 163 "java/lang/IndexOutOfBoundsException", Cond.initialized "java/lang/IndexOutOfBoundsException", Cond.methodLink RX4 168 yX1_hasObservation, Cond.instanceMethod yX1_hasObservation, Cond.selects RX1 yX1_hasObservation yX1_hasObservation, Cond.initialized RX1, Cond.code yX1_hasObservation cX1_hasObservation 2 (some .boolean), Cond.fieldLink RX1 41 "TheodoliteRow$Net" "observations" "I", Cond.methodLink RX4 149 yX0_checkOf, Cond.instanceMethod yX0_checkOf]
def wsX4_check_r2 : List Cond := [Cond.selects RX0 yX0_checkOf yX0_checkOf, Cond.initialized RX0, Cond.code yX0_checkOf cX0_checkOf 2 (some .int), Cond.fieldLink RX0 9 "TheodoliteRow$Adjustment" "net" "LTheodoliteRow$Net;", Cond.fieldLink RX0 60 "TheodoliteRow$Net" "from" "[I", Cond.methodLink RX0 63 yX0_treeWeightOf, Cond.instanceMethod yX0_treeWeightOf, Cond.selects RX0 yX0_treeWeightOf yX0_treeWeightOf, Cond.code yX0_treeWeightOf cX0_treeWeightOf 2 (some .long), Cond.fieldLink RX0 41 "TheodoliteRow$Adjustment" "treeWeight" "J", Cond.methodLink RX0 24 yX0_solve, Cond.instanceMethod yX0_solve, Cond.selects RX0 yX0_solve yX0_solve, Cond.code yX0_solve cX0_solve 4 none, Cond.fieldLink RX0 37 "TheodoliteRow$Adjustment" "datum" "I", Cond.fieldLink RX0 79 "TheodoliteRow$Net" "observations" "I", Cond.methodLink RX0 97 yX1_datumOf, Cond.instanceMethod yX1_datumOf, Cond.selects RX1 yX1_datumOf yX1_datumOf, Cond.code yX1_datumOf cX1_datumOf 3 (some .int), Cond.fieldLink RX1 37 "TheodoliteRow$Net" "stations" "I", Cond.fieldLink RX1 9 "TheodoliteRow$Net" "isTold" "[Z", Cond.fieldLink RX1 19 "TheodoliteRow$Net" "lowest" "[I", Cond.methodLink RX1 60 yX1_areInOnePart]
def wsX4_check_r3 : List Cond := [Cond.instanceMethod yX1_areInOnePart, Cond.selects RX1 yX1_areInOnePart yX1_areInOnePart, Cond.code yX1_areInOnePart cX1_areInOnePart 3 (some .boolean), Cond.methodLink RX0 101 yX0_numberUnknowns, Cond.instanceMethod yX0_numberUnknowns, Cond.selects RX0 yX0_numberUnknowns yX0_numberUnknowns, Cond.code yX0_numberUnknowns cX0_numberUnknowns 3 none, Cond.fieldLink RX0 54 "TheodoliteRow$Adjustment" "unknowns" "I", Cond.fieldLink RX0 51 "TheodoliteRow$Net" "stations" "I", Cond.fieldLink RX0 15 "TheodoliteRow$Adjustment" "rowOf" "[I", Cond.methodLink RX0 118 yX1_areInOnePart, Cond.methodLink RX0 104 yX0_clearCells, Cond.instanceMethod yX0_clearCells, Cond.selects RX0 yX0_clearCells yX0_clearCells, Cond.code yX0_clearCells cX0_clearCells 3 none, Cond.fieldLink RX0 21 "TheodoliteRow$Adjustment" "cells" "[[J", Cond.methodLink RX0 107 yX1_isInPartOf, Cond.instanceMethod yX1_isInPartOf, Cond.selects RX1 yX1_isInPartOf yX1_isInPartOf, Cond.code yX1_isInPartOf cX1_isInPartOf 3 (some .boolean), Cond.fieldLink RX1 34 "TheodoliteRow$Net" "isWithdrawn" "[Z", Cond.fieldLink RX1 22 "TheodoliteRow$Net" "from" "[I", Cond.methodLink RX0 111 yX0_addToCells, Cond.instanceMethod yX0_addToCells]
def wsX4_check_r4 : List Cond := [Cond.selects RX0 yX0_addToCells yX0_addToCells, Cond.code yX0_addToCells cX0_addToCells 8 none, Cond.fieldLink RX0 89 "TheodoliteRow$Net" "to" "[I", Cond.fieldLink RX0 76 "TheodoliteRow$Net" "weight" "[I", Cond.fieldLink RX0 92 "TheodoliteRow$Net" "difference" "[I", Cond.methodLink RX0 121 yX0_addToRow, Cond.instanceMethod yX0_addToRow, Cond.selects RX0 yX0_addToRow yX0_addToRow, Cond.code yX0_addToRow cX0_addToRow 7 none, Cond.methodLink RX0 115 yX0_eliminate, Cond.instanceMethod yX0_eliminate, Cond.selects RX0 yX0_eliminate yX0_eliminate, Cond.code yX0_eliminate cX0_eliminate 7 none, Cond.methodLink RX0 125 yX0_clearColumn, Cond.instanceMethod yX0_clearColumn, Cond.selects RX0 yX0_clearColumn yX0_clearColumn, Cond.code yX0_clearColumn cX0_clearColumn 12 none, Cond.methodLink RX0 66 yX0_checkAgainst, Cond.instanceMethod yX0_checkAgainst, Cond.selects RX0 yX0_checkAgainst yX0_checkAgainst, Cond.code yX0_checkAgainst cX0_checkAgainst 4 (some .int), Cond.constantLong RX0 95 (1000), Cond.static yX4_roundedDown, Cond.code yX4_roundedDown cX4_roundedDown 4 (some .long)]
def wsX4_check_r5 : List Cond := [Cond.methodLink RX4 179 yJ9_floorDiv_f86c9, Cond.static yJ9_floorDiv_f86c9, Cond.initialized RJ9, Cond.code yJ9_floorDiv_f86c9 cJ9_floorDiv_f86c9 6 (some .long)]
def wsX4_check : List Cond := .code yX4_check cX4_check 2 (some .int) :: ((wsX4_check_r1 ++ (wsX4_check_r2 ++ (wsX4_check_r3 ++ (wsX4_check_r4 ++ wsX4_check_r5)))) ++ wsX40 ++ wsX10 ++ wsX00 ++ (vx_atS RX4 47 "java/lang/IllegalStateException" ["java/lang/RuntimeException", "java/lang/Exception"]).filter goodWord ++ (vx_atS RX4 167 "java/lang/IndexOutOfBoundsException" ["java/lang/RuntimeException", "java/lang/Exception"]).filter goodWord)
def wsX4_checkAnew_r1 : List Cond := [Cond.fieldLink RX4 28 "TheodoliteRow" "treeWalk" "LTheodoliteRow$TreeWalk;", Cond.methodLink RX4 143 yX4_needObservationInNet, Cond.instanceMethod yX4_needObservationInNet, Cond.selects RX4 yX4_needObservationInNet yX4_needObservationInNet, Cond.initialized RX4, Cond.code yX4_needObservationInNet cX4_needObservationInNet 2 none, Cond.classLink RX4 43 "java/lang/IllegalStateException", Cond.initialized "java/lang/IllegalStateException", Cond.fieldLink RX4 10 "TheodoliteRow" "net" "LTheodoliteRow$Net;", Cond.fieldLink RX4 173 "TheodoliteRow$Net" "isWithdrawn" "[Z", Cond.methodLink RX4 86 yX4_needObservation, Cond.instanceMethod yX4_needObservation, Cond.selects RX4 yX4_needObservation yX4_needObservation, Cond.code yX4_needObservation cX4_needObservation 2 none, Cond.classLink RX4 163 "java/lang/IndexOutOfBoundsException", Cond.initialized "java/lang/IndexOutOfBoundsException", Cond.methodLink RX4 168 yX1_hasObservation, Cond.instanceMethod yX1_hasObservation, Cond.selects RX1 yX1_hasObservation yX1_hasObservation, Cond.initialized RX1, Cond.code yX1_hasObservation cX1_hasObservation 2 (some .boolean), Cond.fieldLink RX1 41 "TheodoliteRow$Net" "observations" "I", Cond.methodLink RX4 152 yX3_checkOf, Cond.instanceMethod yX3_checkOf]
def wsX4_checkAnew_r2 : List Cond := [Cond.selects RX3 yX3_checkOf yX3_checkOf, Cond.initialized RX3, Cond.code yX3_checkOf cX3_checkOf 2 (some .int), Cond.fieldLink RX3 9 "TheodoliteRow$TreeWalk" "net" "LTheodoliteRow$Net;", Cond.fieldLink RX3 50 "TheodoliteRow$Net" "from" "[I", Cond.constantLong RX3 53 (1000), Cond.fieldLink RX3 41 "TheodoliteRow$TreeWalk" "weightOfAll" "J", Cond.fieldLink RX3 55 "TheodoliteRow$TreeWalk" "weightOfThoseWithAsked" "J", Cond.methodLink RX3 23 yX3_walk, Cond.instanceMethod yX3_walk, Cond.selects RX3 yX3_walk yX3_walk, Cond.code yX3_walk cX3_walk 4 none, Cond.fieldLink RX3 58 "TheodoliteRow$TreeWalk" "askedStation" "I", Cond.fieldLink RX3 61 "TheodoliteRow$TreeWalk" "askedObservation" "I", Cond.fieldLink RX3 37 "TheodoliteRow$TreeWalk" "datum" "I", Cond.fieldLink RX3 71 "TheodoliteRow$TreeWalk" "branches" "I", Cond.fieldLink RX3 27 "TheodoliteRow$TreeWalk" "weightedRises" "J", Cond.fieldLink RX3 74 "TheodoliteRow$Net" "stations" "I", Cond.fieldLink RX3 17 "TheodoliteRow$TreeWalk" "piece" "[[I", Cond.fieldLink RX3 20 "TheodoliteRow$TreeWalk" "rise" "[[I", Cond.methodLink RX3 64 yX1_datumOf, Cond.instanceMethod yX1_datumOf, Cond.selects RX1 yX1_datumOf yX1_datumOf, Cond.code yX1_datumOf cX1_datumOf 3 (some .int)]
def wsX4_checkAnew_r3 : List Cond := [Cond.fieldLink RX1 37 "TheodoliteRow$Net" "stations" "I", Cond.fieldLink RX1 9 "TheodoliteRow$Net" "isTold" "[Z", Cond.fieldLink RX1 19 "TheodoliteRow$Net" "lowest" "[I", Cond.methodLink RX1 60 yX1_areInOnePart, Cond.instanceMethod yX1_areInOnePart, Cond.selects RX1 yX1_areInOnePart yX1_areInOnePart, Cond.code yX1_areInOnePart cX1_areInOnePart 3 (some .boolean), Cond.methodLink RX3 68 yX1_countStationsWith, Cond.instanceMethod yX1_countStationsWith, Cond.selects RX1 yX1_countStationsWith yX1_countStationsWith, Cond.code yX1_countStationsWith cX1_countStationsWith 4 (some .int), Cond.methodLink RX3 77 yX3_grow, Cond.static yX3_grow, Cond.code yX3_grow cX3_grow 8 none, Cond.fieldLink RX3 85 "TheodoliteRow$Net" "observations" "I", Cond.fieldLink RX3 95 "TheodoliteRow$Net" "weight" "[I", Cond.methodLink RX3 81 yX3_countTree, Cond.instanceMethod yX3_countTree, Cond.selects RX3 yX3_countTree yX3_countTree, Cond.code yX3_countTree cX3_countTree 5 none, Cond.methodLink RX3 88 yX3_joinsPieces, Cond.instanceMethod yX3_joinsPieces, Cond.selects RX3 yX3_joinsPieces yX3_joinsPieces, Cond.code yX3_joinsPieces cX3_joinsPieces 3 (some .boolean)]
def wsX4_checkAnew_r4 : List Cond := [Cond.fieldLink RX3 101 "TheodoliteRow$Net" "to" "[I", Cond.methodLink RX3 98 yX1_isInPartOf, Cond.instanceMethod yX1_isInPartOf, Cond.selects RX1 yX1_isInPartOf yX1_isInPartOf, Cond.code yX1_isInPartOf cX1_isInPartOf 3 (some .boolean), Cond.fieldLink RX1 34 "TheodoliteRow$Net" "isWithdrawn" "[Z", Cond.fieldLink RX1 22 "TheodoliteRow$Net" "from" "[I", Cond.methodLink RX3 92 yX3_joinPieces, Cond.instanceMethod yX3_joinPieces, Cond.selects RX3 yX3_joinPieces yX3_joinPieces, Cond.code yX3_joinPieces cX3_joinPieces 8 none, Cond.fieldLink RX3 104 "TheodoliteRow$Net" "difference" "[I", Cond.static yX4_roundedDown, Cond.code yX4_roundedDown cX4_roundedDown 4 (some .long), Cond.methodLink RX4 179 yJ9_floorDiv_f86c9, Cond.static yJ9_floorDiv_f86c9, Cond.initialized RJ9, Cond.code yJ9_floorDiv_f86c9 cJ9_floorDiv_f86c9 6 (some .long)]
def wsX4_checkAnew : List Cond := .code yX4_checkAnew cX4_checkAnew 2 (some .int) :: ((wsX4_checkAnew_r1 ++ (wsX4_checkAnew_r2 ++ (wsX4_checkAnew_r3 ++ wsX4_checkAnew_r4))) ++ wsX40 ++ wsX10 ++ wsX30 ++ (vx_atS RX4 47 "java/lang/IllegalStateException" ["java/lang/RuntimeException", "java/lang/Exception"]).filter goodWord ++ (vx_atS RX4 167 "java/lang/IndexOutOfBoundsException" ["java/lang/RuntimeException", "java/lang/Exception"]).filter goodWord)
def wsX4_score_r1 : List Cond := [Cond.fieldLink RX4 21 "TheodoliteRow" "adjustment" "LTheodoliteRow$Adjustment;", Cond.methodLink RX4 143 yX4_needObservationInNet, Cond.instanceMethod yX4_needObservationInNet, Cond.selects RX4 yX4_needObservationInNet yX4_needObservationInNet, Cond.initialized RX4, Cond.code yX4_needObservationInNet cX4_needObservationInNet 2 none, Cond.classLink RX4 43 "java/lang/IllegalStateException", Cond.initialized "java/lang/IllegalStateException", Cond.fieldLink RX4 10 "TheodoliteRow" "net" "LTheodoliteRow$Net;", Cond.fieldLink RX4 173 "TheodoliteRow$Net" "isWithdrawn" "[Z", Cond.methodLink RX4 86 yX4_needObservation, Cond.instanceMethod yX4_needObservation, Cond.selects RX4 yX4_needObservation yX4_needObservation, Cond.code yX4_needObservation cX4_needObservation 2 none, Cond.classLink RX4 163 "java/lang/IndexOutOfBoundsException", Cond.initialized "java/lang/IndexOutOfBoundsException", Cond.methodLink RX4 168 yX1_hasObservation, Cond.instanceMethod yX1_hasObservation, Cond.selects RX1 yX1_hasObservation yX1_hasObservation, Cond.initialized RX1, Cond.code yX1_hasObservation cX1_hasObservation 2 (some .boolean), Cond.fieldLink RX1 41 "TheodoliteRow$Net" "observations" "I", Cond.methodLink RX4 99 yX0_scoreOf, Cond.instanceMethod yX0_scoreOf]
def wsX4_score_r2 : List Cond := [Cond.selects RX0 yX0_scoreOf yX0_scoreOf, Cond.initialized RX0, Cond.code yX0_scoreOf cX0_scoreOf 7 (some .long), Cond.constantLong RX0 45 (100), Cond.methodLink RX0 70 Lib.MathLoose.abs_long.x, Cond.static Lib.MathLoose.abs_long.x, Cond.initialized "java/lang/Math", Cond.code Lib.MathLoose.abs_long.x Lib.MathLoose.abs_long.code 2 (some .long), Cond.fieldLink RX0 41 "TheodoliteRow$Adjustment" "treeWeight" "J", Cond.fieldLink RX0 9 "TheodoliteRow$Adjustment" "net" "LTheodoliteRow$Net;", Cond.fieldLink RX0 76 "TheodoliteRow$Net" "weight" "[I", Cond.methodLink RX0 57 yX0_misfitOf, Cond.instanceMethod yX0_misfitOf, Cond.selects RX0 yX0_misfitOf yX0_misfitOf, Cond.code yX0_misfitOf cX0_misfitOf 3 (some .long), Cond.fieldLink RX0 60 "TheodoliteRow$Net" "from" "[I", Cond.fieldLink RX0 89 "TheodoliteRow$Net" "to" "[I", Cond.fieldLink RX0 92 "TheodoliteRow$Net" "difference" "[I", Cond.methodLink RX0 24 yX0_solve, Cond.instanceMethod yX0_solve, Cond.selects RX0 yX0_solve yX0_solve, Cond.code yX0_solve cX0_solve 4 none, Cond.fieldLink RX0 37 "TheodoliteRow$Adjustment" "datum" "I", Cond.fieldLink RX0 79 "TheodoliteRow$Net" "observations" "I"]
def wsX4_score_r3 : List Cond := [Cond.methodLink RX0 97 yX1_datumOf, Cond.instanceMethod yX1_datumOf, Cond.selects RX1 yX1_datumOf yX1_datumOf, Cond.code yX1_datumOf cX1_datumOf 3 (some .int), Cond.fieldLink RX1 37 "TheodoliteRow$Net" "stations" "I", Cond.fieldLink RX1 9 "TheodoliteRow$Net" "isTold" "[Z", Cond.fieldLink RX1 19 "TheodoliteRow$Net" "lowest" "[I", Cond.methodLink RX1 60 yX1_areInOnePart, Cond.instanceMethod yX1_areInOnePart, Cond.selects RX1 yX1_areInOnePart yX1_areInOnePart, Cond.code yX1_areInOnePart cX1_areInOnePart 3 (some .boolean), Cond.methodLink RX0 101 yX0_numberUnknowns, Cond.instanceMethod yX0_numberUnknowns, Cond.selects RX0 yX0_numberUnknowns yX0_numberUnknowns, Cond.code yX0_numberUnknowns cX0_numberUnknowns 3 none, Cond.fieldLink RX0 54 "TheodoliteRow$Adjustment" "unknowns" "I", Cond.fieldLink RX0 51 "TheodoliteRow$Net" "stations" "I", Cond.fieldLink RX0 15 "TheodoliteRow$Adjustment" "rowOf" "[I", Cond.methodLink RX0 118 yX1_areInOnePart, Cond.methodLink RX0 104 yX0_clearCells, Cond.instanceMethod yX0_clearCells, Cond.selects RX0 yX0_clearCells yX0_clearCells, Cond.code yX0_clearCells cX0_clearCells 3 none, Cond.fieldLink RX0 21 "TheodoliteRow$Adjustment" "cells" "[[J"]
def wsX4_score_r4 : List Cond := [Cond.methodLink RX0 107 yX1_isInPartOf, Cond.instanceMethod yX1_isInPartOf, Cond.selects RX1 yX1_isInPartOf yX1_isInPartOf, Cond.code yX1_isInPartOf cX1_isInPartOf 3 (some .boolean), Cond.fieldLink RX1 34 "TheodoliteRow$Net" "isWithdrawn" "[Z", Cond.fieldLink RX1 22 "TheodoliteRow$Net" "from" "[I", Cond.methodLink RX0 111 yX0_addToCells, Cond.instanceMethod yX0_addToCells, Cond.selects RX0 yX0_addToCells yX0_addToCells, Cond.code yX0_addToCells cX0_addToCells 8 none, Cond.methodLink RX0 121 yX0_addToRow, Cond.instanceMethod yX0_addToRow, Cond.selects RX0 yX0_addToRow yX0_addToRow, Cond.code yX0_addToRow cX0_addToRow 7 none, Cond.methodLink RX0 115 yX0_eliminate, Cond.instanceMethod yX0_eliminate, Cond.selects RX0 yX0_eliminate yX0_eliminate, Cond.code yX0_eliminate cX0_eliminate 7 none, Cond.methodLink RX0 125 yX0_clearColumn, Cond.instanceMethod yX0_clearColumn, Cond.selects RX0 yX0_clearColumn yX0_clearColumn, Cond.code yX0_clearColumn cX0_clearColumn 12 none, Cond.methodLink RX0 28 yX0_riseOf, Cond.instanceMethod yX0_riseOf]
def wsX4_score_r5 : List Cond := [Cond.selects RX0 yX0_riseOf yX0_riseOf, Cond.code yX0_riseOf cX0_riseOf 3 (some .long), Cond.static yX4_roundedDown, Cond.code yX4_roundedDown cX4_roundedDown 4 (some .long), Cond.methodLink RX4 179 yJ9_floorDiv_f86c9, Cond.static yJ9_floorDiv_f86c9, Cond.initialized RJ9, Cond.code yJ9_floorDiv_f86c9 cJ9_floorDiv_f86c9 6 (some .long), Cond.methodLink RX0 66 yX0_checkAgainst, Cond.instanceMethod yX0_checkAgainst, Cond.selects RX0 yX0_checkAgainst yX0_checkAgainst, Cond.code yX0_checkAgainst cX0_checkAgainst 4 (some .int), Cond.constantLong RX0 95 (1000)]
def wsX4_score : List Cond := .code yX4_score cX4_score 2 (some .long) :: ((wsX4_score_r1 ++ (wsX4_score_r2 ++ (wsX4_score_r3 ++ (wsX4_score_r4 ++ wsX4_score_r5)))) ++ wsX40 ++ wsX10 ++ wsX00 ++ (vx_atS RX4 47 "java/lang/IllegalStateException" ["java/lang/RuntimeException", "java/lang/Exception"]).filter goodWord ++ (vx_atS RX4 167 "java/lang/IndexOutOfBoundsException" ["java/lang/RuntimeException", "java/lang/Exception"]).filter goodWord)
def wsX4_worst_r1 : List Cond := [Cond.fieldLink RX4 21 "TheodoliteRow" "adjustment" "LTheodoliteRow$Adjustment;", Cond.methodLink RX4 96 yX0_worstObservation, Cond.instanceMethod yX0_worstObservation, Cond.selects RX0 yX0_worstObservation yX0_worstObservation, Cond.initialized RX0, Cond.code yX0_worstObservation cX0_worstObservation 7 (some .int), Cond.fieldLink RX0 9 "TheodoliteRow$Adjustment" "net" "LTheodoliteRow$Net;", Cond.fieldLink RX0 79 "TheodoliteRow$Net" "observations" "I", Cond.fieldLink RX0 82 "TheodoliteRow$Net" "isWithdrawn" "[Z", Cond.methodLink RX0 86 yX0_scoreOf, Cond.instanceMethod yX0_scoreOf, Cond.selects RX0 yX0_scoreOf yX0_scoreOf, Cond.code yX0_scoreOf cX0_scoreOf 7 (some .long), Cond.constantLong RX0 45 (100), Cond.methodLink RX0 70 Lib.MathLoose.abs_long.x, Cond.static Lib.MathLoose.abs_long.x, Cond.initialized "java/lang/Math", Cond.code Lib.MathLoose.abs_long.x Lib.MathLoose.abs_long.code 2 (some .long), Cond.fieldLink RX0 41 "TheodoliteRow$Adjustment" "treeWeight" "J", Cond.fieldLink RX0 76 "TheodoliteRow$Net" "weight" "[I", Cond.methodLink RX0 57 yX0_misfitOf, Cond.instanceMethod yX0_misfitOf, Cond.selects RX0 yX0_misfitOf yX0_misfitOf, Cond.code yX0_misfitOf cX0_misfitOf 3 (some .long)]
def wsX4_worst_r2 : List Cond := [Cond.fieldLink RX0 60 "TheodoliteRow$Net" "from" "[I", Cond.fieldLink RX0 89 "TheodoliteRow$Net" "to" "[I", Cond.fieldLink RX0 92 "TheodoliteRow$Net" "difference" "[I", Cond.methodLink RX0 24 yX0_solve, Cond.instanceMethod yX0_solve, Cond.selects RX0 yX0_solve yX0_solve, Cond.code yX0_solve cX0_solve 4 none, Cond.fieldLink RX0 37 "TheodoliteRow$Adjustment" "datum" "I", Cond.methodLink RX0 97 yX1_datumOf, Cond.instanceMethod yX1_datumOf, Cond.selects RX1 yX1_datumOf yX1_datumOf, Cond.initialized RX1, Cond.code yX1_datumOf cX1_datumOf 3 (some .int), Cond.fieldLink RX1 37 "TheodoliteRow$Net" "stations" "I", Cond.fieldLink RX1 9 "TheodoliteRow$Net" "isTold" "[Z", Cond.fieldLink RX1 19 "TheodoliteRow$Net" "lowest" "[I", Cond.methodLink RX1 60 yX1_areInOnePart, Cond.instanceMethod yX1_areInOnePart, Cond.selects RX1 yX1_areInOnePart yX1_areInOnePart, Cond.code yX1_areInOnePart cX1_areInOnePart 3 (some .boolean), Cond.methodLink RX0 101 yX0_numberUnknowns, Cond.instanceMethod yX0_numberUnknowns, Cond.selects RX0 yX0_numberUnknowns yX0_numberUnknowns, Cond.code yX0_numberUnknowns cX0_numberUnknowns 3 none]
def wsX4_worst_r3 : List Cond := [Cond.fieldLink RX0 54 "TheodoliteRow$Adjustment" "unknowns" "I", Cond.fieldLink RX0 51 "TheodoliteRow$Net" "stations" "I", Cond.fieldLink RX0 15 "TheodoliteRow$Adjustment" "rowOf" "[I", Cond.methodLink RX0 118 yX1_areInOnePart, Cond.methodLink RX0 104 yX0_clearCells, Cond.instanceMethod yX0_clearCells, Cond.selects RX0 yX0_clearCells yX0_clearCells, Cond.code yX0_clearCells cX0_clearCells 3 none, Cond.fieldLink RX0 21 "TheodoliteRow$Adjustment" "cells" "[[J", Cond.methodLink RX0 107 yX1_isInPartOf, Cond.instanceMethod yX1_isInPartOf, Cond.selects RX1 yX1_isInPartOf yX1_isInPartOf, Cond.code yX1_isInPartOf cX1_isInPartOf 3 (some .boolean), Cond.fieldLink RX1 34 "TheodoliteRow$Net" "isWithdrawn" "[Z", Cond.fieldLink RX1 22 "TheodoliteRow$Net" "from" "[I", Cond.methodLink RX0 111 yX0_addToCells, Cond.instanceMethod yX0_addToCells, Cond.selects RX0 yX0_addToCells yX0_addToCells, Cond.code yX0_addToCells cX0_addToCells 8 none, Cond.methodLink RX0 121 yX0_addToRow, Cond.instanceMethod yX0_addToRow, Cond.selects RX0 yX0_addToRow yX0_addToRow, Cond.code yX0_addToRow cX0_addToRow 7 none, Cond.methodLink RX0 115 yX0_eliminate]
def wsX4_worst_r4 : List Cond := [Cond.instanceMethod yX0_eliminate, Cond.selects RX0 yX0_eliminate yX0_eliminate, Cond.code yX0_eliminate cX0_eliminate 7 none, Cond.methodLink RX0 125 yX0_clearColumn, Cond.instanceMethod yX0_clearColumn, Cond.selects RX0 yX0_clearColumn yX0_clearColumn, Cond.code yX0_clearColumn cX0_clearColumn 12 none, Cond.methodLink RX0 28 yX0_riseOf, Cond.instanceMethod yX0_riseOf, Cond.selects RX0 yX0_riseOf yX0_riseOf, Cond.code yX0_riseOf cX0_riseOf 3 (some .long), Cond.static yX4_roundedDown, Cond.initialized RX4, Cond.code yX4_roundedDown cX4_roundedDown 4 (some .long), Cond.methodLink RX4 179 yJ9_floorDiv_f86c9, Cond.static yJ9_floorDiv_f86c9, Cond.initialized RJ9, Cond.code yJ9_floorDiv_f86c9 cJ9_floorDiv_f86c9 6 (some .long), Cond.methodLink RX0 66 yX0_checkAgainst, Cond.instanceMethod yX0_checkAgainst, Cond.selects RX0 yX0_checkAgainst yX0_checkAgainst, Cond.code yX0_checkAgainst cX0_checkAgainst 4 (some .int), Cond.constantLong RX0 95 (1000)]
def wsX4_worst : List Cond := .code yX4_worst cX4_worst 1 (some .int) :: ((wsX4_worst_r1 ++ (wsX4_worst_r2 ++ (wsX4_worst_r3 ++ wsX4_worst_r4))) ++ wsX40 ++ wsX00 ++ wsX10)
def wsX4_trees_r1 : List Cond := [Cond.fieldLink RX4 21 "TheodoliteRow" "adjustment" "LTheodoliteRow$Adjustment;", Cond.methodLink RX4 54 yX4_needStation, Cond.instanceMethod yX4_needStation, Cond.selects RX4 yX4_needStation yX4_needStation, Cond.initialized RX4, Cond.code yX4_needStation cX4_needStation 2 none, Cond.classLink RX4 163 "java/lang/IndexOutOfBoundsException", Cond.initialized "java/lang/IndexOutOfBoundsException", Cond.fieldLink RX4 10 "TheodoliteRow" "net" "LTheodoliteRow$Net;", Cond.methodLink RX4 159 yX1_hasStation, Cond.instanceMethod yX1_hasStation, Cond.selects RX1 yX1_hasStation yX1_hasStation, Cond.initialized RX1, Cond.code yX1_hasStation cX1_hasStation 2 (some .boolean), Cond.fieldLink RX1 37 "TheodoliteRow$Net" "stations" "I", Cond.methodLink RX4 153 yX0_treeWeightOf, Cond.instanceMethod yX0_treeWeightOf, Cond.selects RX0 yX0_treeWeightOf yX0_treeWeightOf, Cond.initialized RX0, Cond.code yX0_treeWeightOf cX0_treeWeightOf 2 (some .long), Cond.fieldLink RX0 41 "TheodoliteRow$Adjustment" "treeWeight" "J", Cond.methodLink RX0 24 yX0_solve, Cond.instanceMethod yX0_solve, Cond.selects RX0 yX0_solve yX0_solve]
def wsX4_trees_r2 : List Cond := [Cond.code yX0_solve cX0_solve 4 none, Cond.fieldLink RX0 9 "TheodoliteRow$Adjustment" "net" "LTheodoliteRow$Net;", Cond.fieldLink RX0 37 "TheodoliteRow$Adjustment" "datum" "I", Cond.fieldLink RX0 79 "TheodoliteRow$Net" "observations" "I", Cond.methodLink RX0 97 yX1_datumOf, Cond.instanceMethod yX1_datumOf, Cond.selects RX1 yX1_datumOf yX1_datumOf, Cond.code yX1_datumOf cX1_datumOf 3 (some .int), Cond.fieldLink RX1 9 "TheodoliteRow$Net" "isTold" "[Z", Cond.fieldLink RX1 19 "TheodoliteRow$Net" "lowest" "[I", Cond.methodLink RX1 60 yX1_areInOnePart, Cond.instanceMethod yX1_areInOnePart, Cond.selects RX1 yX1_areInOnePart yX1_areInOnePart, Cond.code yX1_areInOnePart cX1_areInOnePart 3 (some .boolean), Cond.methodLink RX0 101 yX0_numberUnknowns, Cond.instanceMethod yX0_numberUnknowns, Cond.selects RX0 yX0_numberUnknowns yX0_numberUnknowns, Cond.code yX0_numberUnknowns cX0_numberUnknowns 3 none, Cond.fieldLink RX0 54 "TheodoliteRow$Adjustment" "unknowns" "I", Cond.fieldLink RX0 51 "TheodoliteRow$Net" "stations" "I", Cond.fieldLink RX0 15 "TheodoliteRow$Adjustment" "rowOf" "[I", Cond.methodLink RX0 118 yX1_areInOnePart, Cond.methodLink RX0 104 yX0_clearCells, Cond.instanceMethod yX0_clearCells]
def wsX4_trees_r3 : List Cond := [Cond.selects RX0 yX0_clearCells yX0_clearCells, Cond.code yX0_clearCells cX0_clearCells 3 none, Cond.fieldLink RX0 21 "TheodoliteRow$Adjustment" "cells" "[[J", Cond.methodLink RX0 107 yX1_isInPartOf, Cond.instanceMethod yX1_isInPartOf, Cond.selects RX1 yX1_isInPartOf yX1_isInPartOf, Cond.code yX1_isInPartOf cX1_isInPartOf 3 (some .boolean), Cond.fieldLink RX1 34 "TheodoliteRow$Net" "isWithdrawn" "[Z", Cond.fieldLink RX1 22 "TheodoliteRow$Net" "from" "[I", Cond.methodLink RX0 111 yX0_addToCells, Cond.instanceMethod yX0_addToCells, Cond.selects RX0 yX0_addToCells yX0_addToCells, Cond.code yX0_addToCells cX0_addToCells 8 none, Cond.fieldLink RX0 60 "TheodoliteRow$Net" "from" "[I", Cond.fieldLink RX0 89 "TheodoliteRow$Net" "to" "[I", Cond.fieldLink RX0 76 "TheodoliteRow$Net" "weight" "[I", Cond.fieldLink RX0 92 "TheodoliteRow$Net" "difference" "[I", Cond.methodLink RX0 121 yX0_addToRow, Cond.instanceMethod yX0_addToRow, Cond.selects RX0 yX0_addToRow yX0_addToRow, Cond.code yX0_addToRow cX0_addToRow 7 none, Cond.methodLink RX0 115 yX0_eliminate, Cond.instanceMethod yX0_eliminate, Cond.selects RX0 yX0_eliminate yX0_eliminate]
def wsX4_trees_r4 : List Cond := [Cond.code yX0_eliminate cX0_eliminate 7 none, Cond.methodLink RX0 125 yX0_clearColumn, Cond.instanceMethod yX0_clearColumn, Cond.selects RX0 yX0_clearColumn yX0_clearColumn, Cond.code yX0_clearColumn cX0_clearColumn 12 none]
def wsX4_trees : List Cond := .code yX4_trees cX4_trees 2 (some .long) :: ((wsX4_trees_r1 ++ (wsX4_trees_r2 ++ (wsX4_trees_r3 ++ wsX4_trees_r4))) ++ wsX40 ++ wsX10 ++ wsX00 ++ (vx_atS RX4 167 "java/lang/IndexOutOfBoundsException" ["java/lang/RuntimeException", "java/lang/Exception"]).filter goodWord)
def wsX4_parts : List Cond := .code yX4_parts cX4_parts 1 (some .int) :: ([.fieldLink RX4 10 "TheodoliteRow" "net" "LTheodoliteRow$Net;", .methodLink RX4 156 yX1_countParts, .instanceMethod yX1_countParts, .selects RX1 yX1_countParts yX1_countParts, .initialized RX1, .code yX1_countParts cX1_countParts 3 (some .int), .fieldLink RX1 37 "TheodoliteRow$Net" "stations" "I", .fieldLink RX1 19 "TheodoliteRow$Net" "lowest" "[I"] ++ wsX40 ++ wsX10)
def wsX5_init : List Cond := .code yX5_init cX5_init 1 none :: ([.methodLink RX5 1 objectInit, .instanceMethod objectInit, .code objectInit ⟨#[0xb1]⟩ 1 none, .arrayClass .boolean, .fieldLink RX5 7 "TheodoliteRowModel" "isTold" "[Z", .arrayClass .int, .fieldLink RX5 13 "TheodoliteRowModel" "told" "[I", .fieldLink RX5 17 "TheodoliteRowModel" "froms" "[I", .fieldLink RX5 20 "TheodoliteRowModel" "tos" "[I", .fieldLink RX5 23 "TheodoliteRowModel" "differences" "[I", .fieldLink RX5 26 "TheodoliteRowModel" "weights" "[I", .fieldLink RX5 29 "TheodoliteRowModel" "isWithdrawn" "[Z", .fieldLink RX5 32 "TheodoliteRowModel" "steps" "[I", .fieldLink RX5 35 "TheodoliteRowModel" "isIn" "[Z", .arrayClass .long, .fieldLink RX5 38 "TheodoliteRowModel" "a" "[J", .fieldLink RX5 42 "TheodoliteRowModel" "found" "[J", .fieldLink RX5 45 "TheodoliteRowModel" "sum" "I"] ++ wsX50)
def wsX5_thrown : List Cond := .code yX5_thrown cX5_thrown 1 (some .int) :: ([.fieldLink RX5 49 "TheodoliteRowModel" "thrown" "I"] ++ wsX50)
def wsX5_goes : List Cond := .code yX5_goes cX5_goes 2 (some .boolean) :: ([.fieldLink RX5 49 "TheodoliteRowModel" "thrown" "I"] ++ wsX50)
def wsX5_isBetween : List Cond := .code yX5_isBetween cX5_isBetween 3 (some .boolean) :: ([])
def wsX5_isStation : List Cond := .code yX5_isStation cX5_isStation 2 (some .boolean) :: ([.fieldLink RX5 52 "TheodoliteRowModel" "stations" "I", .methodLink RX5 55 yX5_isBetween, .static yX5_isBetween, .initialized RX5, .code yX5_isBetween cX5_isBetween 3 (some .boolean)] ++ wsX50)
def wsX5_isObservation : List Cond := .code yX5_isObservation cX5_isObservation 2 (some .boolean) :: ([.fieldLink RX5 59 "TheodoliteRowModel" "observations" "I", .methodLink RX5 55 yX5_isBetween, .static yX5_isBetween, .initialized RX5, .code yX5_isBetween cX5_isBetween 3 (some .boolean)] ++ wsX50)
def wsX5_station : List Cond := .code yX5_station cX5_station 1 (some .int) :: ([.fieldLink RX5 52 "TheodoliteRowModel" "stations" "I", .methodLink RX5 62 yX5_goes, .instanceMethod yX5_goes, .selects RX5 yX5_goes yX5_goes, .initialized RX5, .code yX5_goes cX5_goes 2 (some .boolean), .fieldLink RX5 49 "TheodoliteRowModel" "thrown" "I"] ++ wsX50)
def wsX5_datum : List Cond := .code yX5_datum cX5_datum 5 (some .boolean) :: ([.fieldLink RX5 7 "TheodoliteRowModel" "isTold" "[Z", .fieldLink RX5 13 "TheodoliteRowModel" "told" "[I", .methodLink RX5 66 yX5_isStation, .instanceMethod yX5_isStation, .selects RX5 yX5_isStation yX5_isStation, .initialized RX5, .code yX5_isStation cX5_isStation 2 (some .boolean), .fieldLink RX5 52 "TheodoliteRowModel" "stations" "I", .methodLink RX5 55 yX5_isBetween, .static yX5_isBetween, .code yX5_isBetween cX5_isBetween 3 (some .boolean), .methodLink RX5 62 yX5_goes, .instanceMethod yX5_goes, .selects RX5 yX5_goes yX5_goes, .code yX5_goes cX5_goes 2 (some .boolean), .fieldLink RX5 49 "TheodoliteRowModel" "thrown" "I"] ++ wsX50)
def wsX5_observe : List Cond := .code yX5_observe cX5_observe 7 (some .int) :: ([.fieldLink RX5 59 "TheodoliteRowModel" "observations" "I", .fieldLink RX5 17 "TheodoliteRowModel" "froms" "[I", .fieldLink RX5 20 "TheodoliteRowModel" "tos" "[I", .fieldLink RX5 23 "TheodoliteRowModel" "differences" "[I", .fieldLink RX5 26 "TheodoliteRowModel" "weights" "[I", .methodLink RX5 66 yX5_isStation, .instanceMethod yX5_isStation, .selects RX5 yX5_isStation yX5_isStation, .initialized RX5, .code yX5_isStation cX5_isStation 2 (some .boolean), .fieldLink RX5 52 "TheodoliteRowModel" "stations" "I", .methodLink RX5 55 yX5_isBetween, .static yX5_isBetween, .code yX5_isBetween cX5_isBetween 3 (some .boolean), .methodLink RX5 62 yX5_goes, .instanceMethod yX5_goes, .selects RX5 yX5_goes yX5_goes, .code yX5_goes cX5_goes 2 (some .boolean), .fieldLink RX5 49 "TheodoliteRowModel" "thrown" "I"] ++ wsX50)
def wsX5_withdraw : List Cond := .code yX5_withdraw cX5_withdraw 4 (some .boolean) :: ([.fieldLink RX5 29 "TheodoliteRowModel" "isWithdrawn" "[Z", .methodLink RX5 69 yX5_isObservation, .instanceMethod yX5_isObservation, .selects RX5 yX5_isObservation yX5_isObservation, .initialized RX5, .code yX5_isObservation cX5_isObservation 2 (some .boolean), .fieldLink RX5 59 "TheodoliteRowModel" "observations" "I", .methodLink RX5 55 yX5_isBetween, .static yX5_isBetween, .code yX5_isBetween cX5_isBetween 3 (some .boolean), .methodLink RX5 62 yX5_goes, .instanceMethod yX5_goes, .selects RX5 yX5_goes yX5_goes, .code yX5_goes cX5_goes 2 (some .boolean), .fieldLink RX5 49 "TheodoliteRowModel" "thrown" "I"] ++ wsX50)
def wsX5_reaches : List Cond := .code yX5_reaches cX5_reaches 4 none :: ([.fieldLink RX5 35 "TheodoliteRowModel" "isIn" "[Z", .fieldLink RX5 59 "TheodoliteRowModel" "observations" "I", .fieldLink RX5 29 "TheodoliteRowModel" "isWithdrawn" "[Z", .fieldLink RX5 17 "TheodoliteRowModel" "froms" "[I", .fieldLink RX5 20 "TheodoliteRowModel" "tos" "[I", .fieldLink RX5 72 "TheodoliteRowModel" "datum" "I", .fieldLink RX5 52 "TheodoliteRowModel" "stations" "I", .fieldLink RX5 7 "TheodoliteRowModel" "isTold" "[Z"] ++ wsX50)
def wsX5_adds : List Cond := .code yX5_adds cX5_adds 5 none :: ([.fieldLink RX5 72 "TheodoliteRowModel" "datum" "I", .fieldLink RX5 38 "TheodoliteRowModel" "a" "[J"] ++ wsX50)
def wsX5_lays : List Cond := .code yX5_lays cX5_lays 2 none :: ([.fieldLink RX5 38 "TheodoliteRowModel" "a" "[J", .fieldLink RX5 35 "TheodoliteRowModel" "isIn" "[Z", .fieldLink RX5 72 "TheodoliteRowModel" "datum" "I", .fieldLink RX5 59 "TheodoliteRowModel" "observations" "I", .fieldLink RX5 29 "TheodoliteRowModel" "isWithdrawn" "[Z", .fieldLink RX5 17 "TheodoliteRowModel" "froms" "[I", .fieldLink RX5 26 "TheodoliteRowModel" "weights" "[I", .fieldLink RX5 20 "TheodoliteRowModel" "tos" "[I", .methodLink RX5 75 yX5_adds, .instanceMethod yX5_adds, .selects RX5 yX5_adds yX5_adds, .initialized RX5, .code yX5_adds cX5_adds 5 none] ++ wsX50)
def wsX5_laysDifferences : List Cond := .code yX5_laysDifferences cX5_laysDifferences 2 none :: ([.fieldLink RX5 59 "TheodoliteRowModel" "observations" "I", .fieldLink RX5 29 "TheodoliteRowModel" "isWithdrawn" "[Z", .fieldLink RX5 35 "TheodoliteRowModel" "isIn" "[Z", .fieldLink RX5 17 "TheodoliteRowModel" "froms" "[I", .fieldLink RX5 20 "TheodoliteRowModel" "tos" "[I", .fieldLink RX5 26 "TheodoliteRowModel" "weights" "[I", .fieldLink RX5 23 "TheodoliteRowModel" "differences" "[I", .methodLink RX5 75 yX5_adds, .instanceMethod yX5_adds, .selects RX5 yX5_adds yX5_adds, .initialized RX5, .code yX5_adds cX5_adds 5 none, .fieldLink RX5 72 "TheodoliteRowModel" "datum" "I", .fieldLink RX5 38 "TheodoliteRowModel" "a" "[J"] ++ wsX50)
def wsX5_solves : List Cond := .code yX5_solves cX5_solves 11 none :: ([.fieldLink RX5 38 "TheodoliteRowModel" "a" "[J", .fieldLink RX5 79 "TheodoliteRowModel" "trees" "J", .fieldLink RX5 42 "TheodoliteRowModel" "found" "[J", .fieldLink RX5 35 "TheodoliteRowModel" "isIn" "[Z"] ++ wsX50)
def wsX5_finds_r1 : List Cond := [Cond.methodLink RX5 83 yX5_reaches, Cond.instanceMethod yX5_reaches, Cond.selects RX5 yX5_reaches yX5_reaches, Cond.initialized RX5, Cond.code yX5_reaches cX5_reaches 4 none, Cond.fieldLink RX5 35 "TheodoliteRowModel" "isIn" "[Z", Cond.fieldLink RX5 59 "TheodoliteRowModel" "observations" "I", Cond.fieldLink RX5 29 "TheodoliteRowModel" "isWithdrawn" "[Z", Cond.fieldLink RX5 17 "TheodoliteRowModel" "froms" "[I", Cond.fieldLink RX5 20 "TheodoliteRowModel" "tos" "[I", Cond.fieldLink RX5 72 "TheodoliteRowModel" "datum" "I", Cond.fieldLink RX5 52 "TheodoliteRowModel" "stations" "I", Cond.fieldLink RX5 7 "TheodoliteRowModel" "isTold" "[Z", Cond.methodLink RX5 87 yX5_lays, Cond.instanceMethod yX5_lays, Cond.selects RX5 yX5_lays yX5_lays, Cond.code yX5_lays cX5_lays 2 none, Cond.fieldLink RX5 38 "TheodoliteRowModel" "a" "[J", Cond.fieldLink RX5 26 "TheodoliteRowModel" "weights" "[I", Cond.methodLink RX5 75 yX5_adds, Cond.instanceMethod yX5_adds, Cond.selects RX5 yX5_adds yX5_adds, Cond.code yX5_adds cX5_adds 5 none, Cond.methodLink RX5 90 yX5_laysDifferences]
def wsX5_finds_r2 : List Cond := [Cond.instanceMethod yX5_laysDifferences, Cond.selects RX5 yX5_laysDifferences yX5_laysDifferences, Cond.code yX5_laysDifferences cX5_laysDifferences 2 none, Cond.fieldLink RX5 23 "TheodoliteRowModel" "differences" "[I", Cond.methodLink RX5 93 yX5_solves, Cond.instanceMethod yX5_solves, Cond.selects RX5 yX5_solves yX5_solves, Cond.code yX5_solves cX5_solves 11 none, Cond.fieldLink RX5 79 "TheodoliteRowModel" "trees" "J", Cond.fieldLink RX5 42 "TheodoliteRowModel" "found" "[J"]
def wsX5_finds : List Cond := .code yX5_finds cX5_finds 2 none :: ((wsX5_finds_r1 ++ wsX5_finds_r2) ++ wsX50)
def wsX5_floor : List Cond := .code yX5_floor cX5_floor 6 (some .long) :: ([])
def wsX5_size : List Cond := .code yX5_size cX5_size 2 (some .long) :: ([])
def wsX5_heightOf_r1 : List Cond := [Cond.constantLong RX5 99 (100), Cond.fieldLink RX5 13 "TheodoliteRowModel" "told" "[I", Cond.fieldLink RX5 72 "TheodoliteRowModel" "datum" "I", Cond.fieldLink RX5 42 "TheodoliteRowModel" "found" "[J", Cond.fieldLink RX5 79 "TheodoliteRowModel" "trees" "J", Cond.methodLink RX5 96 yX5_finds, Cond.instanceMethod yX5_finds, Cond.selects RX5 yX5_finds yX5_finds, Cond.initialized RX5, Cond.code yX5_finds cX5_finds 2 none, Cond.methodLink RX5 83 yX5_reaches, Cond.instanceMethod yX5_reaches, Cond.selects RX5 yX5_reaches yX5_reaches, Cond.code yX5_reaches cX5_reaches 4 none, Cond.fieldLink RX5 35 "TheodoliteRowModel" "isIn" "[Z", Cond.fieldLink RX5 59 "TheodoliteRowModel" "observations" "I", Cond.fieldLink RX5 29 "TheodoliteRowModel" "isWithdrawn" "[Z", Cond.fieldLink RX5 17 "TheodoliteRowModel" "froms" "[I", Cond.fieldLink RX5 20 "TheodoliteRowModel" "tos" "[I", Cond.fieldLink RX5 52 "TheodoliteRowModel" "stations" "I", Cond.fieldLink RX5 7 "TheodoliteRowModel" "isTold" "[Z", Cond.methodLink RX5 87 yX5_lays, Cond.instanceMethod yX5_lays, Cond.selects RX5 yX5_lays yX5_lays]
def wsX5_heightOf_r2 : List Cond := [Cond.code yX5_lays cX5_lays 2 none, Cond.fieldLink RX5 38 "TheodoliteRowModel" "a" "[J", Cond.fieldLink RX5 26 "TheodoliteRowModel" "weights" "[I", Cond.methodLink RX5 75 yX5_adds, Cond.instanceMethod yX5_adds, Cond.selects RX5 yX5_adds yX5_adds, Cond.code yX5_adds cX5_adds 5 none, Cond.methodLink RX5 90 yX5_laysDifferences, Cond.instanceMethod yX5_laysDifferences, Cond.selects RX5 yX5_laysDifferences yX5_laysDifferences, Cond.code yX5_laysDifferences cX5_laysDifferences 2 none, Cond.fieldLink RX5 23 "TheodoliteRowModel" "differences" "[I", Cond.methodLink RX5 93 yX5_solves, Cond.instanceMethod yX5_solves, Cond.selects RX5 yX5_solves yX5_solves, Cond.code yX5_solves cX5_solves 11 none, Cond.methodLink RX5 101 yX5_floor, Cond.static yX5_floor, Cond.code yX5_floor cX5_floor 6 (some .long)]
def wsX5_heightOf : List Cond := .code yX5_heightOf cX5_heightOf 2 (some .long) :: ((wsX5_heightOf_r1 ++ wsX5_heightOf_r2) ++ wsX50)
def wsX5_height_r1 : List Cond := [Cond.methodLink RX5 66 yX5_isStation, Cond.instanceMethod yX5_isStation, Cond.selects RX5 yX5_isStation yX5_isStation, Cond.initialized RX5, Cond.code yX5_isStation cX5_isStation 2 (some .boolean), Cond.fieldLink RX5 52 "TheodoliteRowModel" "stations" "I", Cond.methodLink RX5 55 yX5_isBetween, Cond.static yX5_isBetween, Cond.code yX5_isBetween cX5_isBetween 3 (some .boolean), Cond.methodLink RX5 62 yX5_goes, Cond.instanceMethod yX5_goes, Cond.selects RX5 yX5_goes yX5_goes, Cond.code yX5_goes cX5_goes 2 (some .boolean), Cond.fieldLink RX5 49 "TheodoliteRowModel" "thrown" "I", Cond.methodLink RX5 105 yX5_heightOf, Cond.instanceMethod yX5_heightOf, Cond.selects RX5 yX5_heightOf yX5_heightOf, Cond.code yX5_heightOf cX5_heightOf 2 (some .long), Cond.constantLong RX5 99 (100), Cond.fieldLink RX5 13 "TheodoliteRowModel" "told" "[I", Cond.fieldLink RX5 72 "TheodoliteRowModel" "datum" "I", Cond.fieldLink RX5 42 "TheodoliteRowModel" "found" "[J", Cond.fieldLink RX5 79 "TheodoliteRowModel" "trees" "J", Cond.methodLink RX5 96 yX5_finds]
def wsX5_height_r2 : List Cond := [Cond.instanceMethod yX5_finds, Cond.selects RX5 yX5_finds yX5_finds, Cond.code yX5_finds cX5_finds 2 none, Cond.methodLink RX5 83 yX5_reaches, Cond.instanceMethod yX5_reaches, Cond.selects RX5 yX5_reaches yX5_reaches, Cond.code yX5_reaches cX5_reaches 4 none, Cond.fieldLink RX5 35 "TheodoliteRowModel" "isIn" "[Z", Cond.fieldLink RX5 59 "TheodoliteRowModel" "observations" "I", Cond.fieldLink RX5 29 "TheodoliteRowModel" "isWithdrawn" "[Z", Cond.fieldLink RX5 17 "TheodoliteRowModel" "froms" "[I", Cond.fieldLink RX5 20 "TheodoliteRowModel" "tos" "[I", Cond.fieldLink RX5 7 "TheodoliteRowModel" "isTold" "[Z", Cond.methodLink RX5 87 yX5_lays, Cond.instanceMethod yX5_lays, Cond.selects RX5 yX5_lays yX5_lays, Cond.code yX5_lays cX5_lays 2 none, Cond.fieldLink RX5 38 "TheodoliteRowModel" "a" "[J", Cond.fieldLink RX5 26 "TheodoliteRowModel" "weights" "[I", Cond.methodLink RX5 75 yX5_adds, Cond.instanceMethod yX5_adds, Cond.selects RX5 yX5_adds yX5_adds, Cond.code yX5_adds cX5_adds 5 none, Cond.methodLink RX5 90 yX5_laysDifferences]
def wsX5_height_r3 : List Cond := [Cond.instanceMethod yX5_laysDifferences, Cond.selects RX5 yX5_laysDifferences yX5_laysDifferences, Cond.code yX5_laysDifferences cX5_laysDifferences 2 none, Cond.fieldLink RX5 23 "TheodoliteRowModel" "differences" "[I", Cond.methodLink RX5 93 yX5_solves, Cond.instanceMethod yX5_solves, Cond.selects RX5 yX5_solves yX5_solves, Cond.code yX5_solves cX5_solves 11 none, Cond.methodLink RX5 101 yX5_floor, Cond.static yX5_floor, Cond.code yX5_floor cX5_floor 6 (some .long)]
def wsX5_height : List Cond := .code yX5_height cX5_height 2 (some .long) :: ((wsX5_height_r1 ++ (wsX5_height_r2 ++ wsX5_height_r3)) ++ wsX50)
def wsX5_heightAnew_r1 : List Cond := [Cond.methodLink RX5 66 yX5_isStation, Cond.instanceMethod yX5_isStation, Cond.selects RX5 yX5_isStation yX5_isStation, Cond.initialized RX5, Cond.code yX5_isStation cX5_isStation 2 (some .boolean), Cond.fieldLink RX5 52 "TheodoliteRowModel" "stations" "I", Cond.methodLink RX5 55 yX5_isBetween, Cond.static yX5_isBetween, Cond.code yX5_isBetween cX5_isBetween 3 (some .boolean), Cond.methodLink RX5 62 yX5_goes, Cond.instanceMethod yX5_goes, Cond.selects RX5 yX5_goes yX5_goes, Cond.code yX5_goes cX5_goes 2 (some .boolean), Cond.fieldLink RX5 49 "TheodoliteRowModel" "thrown" "I", Cond.methodLink RX5 105 yX5_heightOf, Cond.instanceMethod yX5_heightOf, Cond.selects RX5 yX5_heightOf yX5_heightOf, Cond.code yX5_heightOf cX5_heightOf 2 (some .long), Cond.constantLong RX5 99 (100), Cond.fieldLink RX5 13 "TheodoliteRowModel" "told" "[I", Cond.fieldLink RX5 72 "TheodoliteRowModel" "datum" "I", Cond.fieldLink RX5 42 "TheodoliteRowModel" "found" "[J", Cond.fieldLink RX5 79 "TheodoliteRowModel" "trees" "J", Cond.methodLink RX5 96 yX5_finds]
def wsX5_heightAnew_r2 : List Cond := [Cond.instanceMethod yX5_finds, Cond.selects RX5 yX5_finds yX5_finds, Cond.code yX5_finds cX5_finds 2 none, Cond.methodLink RX5 83 yX5_reaches, Cond.instanceMethod yX5_reaches, Cond.selects RX5 yX5_reaches yX5_reaches, Cond.code yX5_reaches cX5_reaches 4 none, Cond.fieldLink RX5 35 "TheodoliteRowModel" "isIn" "[Z", Cond.fieldLink RX5 59 "TheodoliteRowModel" "observations" "I", Cond.fieldLink RX5 29 "TheodoliteRowModel" "isWithdrawn" "[Z", Cond.fieldLink RX5 17 "TheodoliteRowModel" "froms" "[I", Cond.fieldLink RX5 20 "TheodoliteRowModel" "tos" "[I", Cond.fieldLink RX5 7 "TheodoliteRowModel" "isTold" "[Z", Cond.methodLink RX5 87 yX5_lays, Cond.instanceMethod yX5_lays, Cond.selects RX5 yX5_lays yX5_lays, Cond.code yX5_lays cX5_lays 2 none, Cond.fieldLink RX5 38 "TheodoliteRowModel" "a" "[J", Cond.fieldLink RX5 26 "TheodoliteRowModel" "weights" "[I", Cond.methodLink RX5 75 yX5_adds, Cond.instanceMethod yX5_adds, Cond.selects RX5 yX5_adds yX5_adds, Cond.code yX5_adds cX5_adds 5 none, Cond.methodLink RX5 90 yX5_laysDifferences]
def wsX5_heightAnew_r3 : List Cond := [Cond.instanceMethod yX5_laysDifferences, Cond.selects RX5 yX5_laysDifferences yX5_laysDifferences, Cond.code yX5_laysDifferences cX5_laysDifferences 2 none, Cond.fieldLink RX5 23 "TheodoliteRowModel" "differences" "[I", Cond.methodLink RX5 93 yX5_solves, Cond.instanceMethod yX5_solves, Cond.selects RX5 yX5_solves yX5_solves, Cond.code yX5_solves cX5_solves 11 none, Cond.methodLink RX5 101 yX5_floor, Cond.static yX5_floor, Cond.code yX5_floor cX5_floor 6 (some .long)]
def wsX5_heightAnew : List Cond := .code yX5_heightAnew cX5_heightAnew 2 (some .long) :: ((wsX5_heightAnew_r1 ++ (wsX5_heightAnew_r2 ++ wsX5_heightAnew_r3)) ++ wsX50)
def wsX5_free_r1 : List Cond := [Cond.fieldLink RX5 52 "TheodoliteRowModel" "stations" "I", Cond.fieldLink RX5 42 "TheodoliteRowModel" "found" "[J", Cond.fieldLink RX5 35 "TheodoliteRowModel" "isIn" "[Z", Cond.constantLong RX5 99 (100), Cond.fieldLink RX5 79 "TheodoliteRowModel" "trees" "J", Cond.methodLink RX5 66 yX5_isStation, Cond.instanceMethod yX5_isStation, Cond.selects RX5 yX5_isStation yX5_isStation, Cond.initialized RX5, Cond.code yX5_isStation cX5_isStation 2 (some .boolean), Cond.methodLink RX5 55 yX5_isBetween, Cond.static yX5_isBetween, Cond.code yX5_isBetween cX5_isBetween 3 (some .boolean), Cond.methodLink RX5 62 yX5_goes, Cond.instanceMethod yX5_goes, Cond.selects RX5 yX5_goes yX5_goes, Cond.code yX5_goes cX5_goes 2 (some .boolean), Cond.fieldLink RX5 49 "TheodoliteRowModel" "thrown" "I", Cond.methodLink RX5 96 yX5_finds, Cond.instanceMethod yX5_finds, Cond.selects RX5 yX5_finds yX5_finds, Cond.code yX5_finds cX5_finds 2 none, Cond.methodLink RX5 83 yX5_reaches, Cond.instanceMethod yX5_reaches]
def wsX5_free_r2 : List Cond := [Cond.selects RX5 yX5_reaches yX5_reaches, Cond.code yX5_reaches cX5_reaches 4 none, Cond.fieldLink RX5 59 "TheodoliteRowModel" "observations" "I", Cond.fieldLink RX5 29 "TheodoliteRowModel" "isWithdrawn" "[Z", Cond.fieldLink RX5 17 "TheodoliteRowModel" "froms" "[I", Cond.fieldLink RX5 20 "TheodoliteRowModel" "tos" "[I", Cond.fieldLink RX5 72 "TheodoliteRowModel" "datum" "I", Cond.fieldLink RX5 7 "TheodoliteRowModel" "isTold" "[Z", Cond.methodLink RX5 87 yX5_lays, Cond.instanceMethod yX5_lays, Cond.selects RX5 yX5_lays yX5_lays, Cond.code yX5_lays cX5_lays 2 none, Cond.fieldLink RX5 38 "TheodoliteRowModel" "a" "[J", Cond.fieldLink RX5 26 "TheodoliteRowModel" "weights" "[I", Cond.methodLink RX5 75 yX5_adds, Cond.instanceMethod yX5_adds, Cond.selects RX5 yX5_adds yX5_adds, Cond.code yX5_adds cX5_adds 5 none, Cond.methodLink RX5 90 yX5_laysDifferences, Cond.instanceMethod yX5_laysDifferences, Cond.selects RX5 yX5_laysDifferences yX5_laysDifferences, Cond.code yX5_laysDifferences cX5_laysDifferences 2 none, Cond.fieldLink RX5 23 "TheodoliteRowModel" "differences" "[I", Cond.methodLink RX5 93 yX5_solves]
def wsX5_free_r3 : List Cond := [Cond.instanceMethod yX5_solves, Cond.selects RX5 yX5_solves yX5_solves, Cond.code yX5_solves cX5_solves 11 none, Cond.methodLink RX5 101 yX5_floor, Cond.static yX5_floor, Cond.code yX5_floor cX5_floor 6 (some .long)]
def wsX5_free : List Cond := .code yX5_free cX5_free 7 (some .long) :: ((wsX5_free_r1 ++ (wsX5_free_r2 ++ wsX5_free_r3)) ++ wsX50)
def wsX5_apart_r1 : List Cond := [Cond.fieldLink RX5 17 "TheodoliteRowModel" "froms" "[I", Cond.fieldLink RX5 42 "TheodoliteRowModel" "found" "[J", Cond.fieldLink RX5 20 "TheodoliteRowModel" "tos" "[I", Cond.fieldLink RX5 23 "TheodoliteRowModel" "differences" "[I", Cond.fieldLink RX5 79 "TheodoliteRowModel" "trees" "J", Cond.methodLink RX5 96 yX5_finds, Cond.instanceMethod yX5_finds, Cond.selects RX5 yX5_finds yX5_finds, Cond.initialized RX5, Cond.code yX5_finds cX5_finds 2 none, Cond.methodLink RX5 83 yX5_reaches, Cond.instanceMethod yX5_reaches, Cond.selects RX5 yX5_reaches yX5_reaches, Cond.code yX5_reaches cX5_reaches 4 none, Cond.fieldLink RX5 35 "TheodoliteRowModel" "isIn" "[Z", Cond.fieldLink RX5 59 "TheodoliteRowModel" "observations" "I", Cond.fieldLink RX5 29 "TheodoliteRowModel" "isWithdrawn" "[Z", Cond.fieldLink RX5 72 "TheodoliteRowModel" "datum" "I", Cond.fieldLink RX5 52 "TheodoliteRowModel" "stations" "I", Cond.fieldLink RX5 7 "TheodoliteRowModel" "isTold" "[Z", Cond.methodLink RX5 87 yX5_lays, Cond.instanceMethod yX5_lays, Cond.selects RX5 yX5_lays yX5_lays, Cond.code yX5_lays cX5_lays 2 none]
def wsX5_apart_r2 : List Cond := [Cond.fieldLink RX5 38 "TheodoliteRowModel" "a" "[J", Cond.fieldLink RX5 26 "TheodoliteRowModel" "weights" "[I", Cond.methodLink RX5 75 yX5_adds, Cond.instanceMethod yX5_adds, Cond.selects RX5 yX5_adds yX5_adds, Cond.code yX5_adds cX5_adds 5 none, Cond.methodLink RX5 90 yX5_laysDifferences, Cond.instanceMethod yX5_laysDifferences, Cond.selects RX5 yX5_laysDifferences yX5_laysDifferences, Cond.code yX5_laysDifferences cX5_laysDifferences 2 none, Cond.methodLink RX5 93 yX5_solves, Cond.instanceMethod yX5_solves, Cond.selects RX5 yX5_solves yX5_solves, Cond.code yX5_solves cX5_solves 11 none]
def wsX5_apart : List Cond := .code yX5_apart cX5_apart 2 (some .long) :: ((wsX5_apart_r1 ++ wsX5_apart_r2) ++ wsX50)
def wsX5_isInNet : List Cond := .code yX5_isInNet cX5_isInNet 3 (some .boolean) :: ([.fieldLink RX5 29 "TheodoliteRowModel" "isWithdrawn" "[Z", .methodLink RX5 69 yX5_isObservation, .instanceMethod yX5_isObservation, .selects RX5 yX5_isObservation yX5_isObservation, .initialized RX5, .code yX5_isObservation cX5_isObservation 2 (some .boolean), .fieldLink RX5 59 "TheodoliteRowModel" "observations" "I", .methodLink RX5 55 yX5_isBetween, .static yX5_isBetween, .code yX5_isBetween cX5_isBetween 3 (some .boolean), .methodLink RX5 62 yX5_goes, .instanceMethod yX5_goes, .selects RX5 yX5_goes yX5_goes, .code yX5_goes cX5_goes 2 (some .boolean), .fieldLink RX5 49 "TheodoliteRowModel" "thrown" "I"] ++ wsX50)
def wsX5_residual_r1 : List Cond := [Cond.constantLong RX5 99 (100), Cond.fieldLink RX5 79 "TheodoliteRowModel" "trees" "J", Cond.methodLink RX5 109 yX5_isInNet, Cond.instanceMethod yX5_isInNet, Cond.selects RX5 yX5_isInNet yX5_isInNet, Cond.initialized RX5, Cond.code yX5_isInNet cX5_isInNet 3 (some .boolean), Cond.fieldLink RX5 29 "TheodoliteRowModel" "isWithdrawn" "[Z", Cond.methodLink RX5 69 yX5_isObservation, Cond.instanceMethod yX5_isObservation, Cond.selects RX5 yX5_isObservation yX5_isObservation, Cond.code yX5_isObservation cX5_isObservation 2 (some .boolean), Cond.fieldLink RX5 59 "TheodoliteRowModel" "observations" "I", Cond.methodLink RX5 55 yX5_isBetween, Cond.static yX5_isBetween, Cond.code yX5_isBetween cX5_isBetween 3 (some .boolean), Cond.methodLink RX5 62 yX5_goes, Cond.instanceMethod yX5_goes, Cond.selects RX5 yX5_goes yX5_goes, Cond.code yX5_goes cX5_goes 2 (some .boolean), Cond.fieldLink RX5 49 "TheodoliteRowModel" "thrown" "I", Cond.methodLink RX5 112 yX5_apart, Cond.instanceMethod yX5_apart, Cond.selects RX5 yX5_apart yX5_apart]
def wsX5_residual_r2 : List Cond := [Cond.code yX5_apart cX5_apart 2 (some .long), Cond.fieldLink RX5 17 "TheodoliteRowModel" "froms" "[I", Cond.fieldLink RX5 42 "TheodoliteRowModel" "found" "[J", Cond.fieldLink RX5 20 "TheodoliteRowModel" "tos" "[I", Cond.fieldLink RX5 23 "TheodoliteRowModel" "differences" "[I", Cond.methodLink RX5 96 yX5_finds, Cond.instanceMethod yX5_finds, Cond.selects RX5 yX5_finds yX5_finds, Cond.code yX5_finds cX5_finds 2 none, Cond.methodLink RX5 83 yX5_reaches, Cond.instanceMethod yX5_reaches, Cond.selects RX5 yX5_reaches yX5_reaches, Cond.code yX5_reaches cX5_reaches 4 none, Cond.fieldLink RX5 35 "TheodoliteRowModel" "isIn" "[Z", Cond.fieldLink RX5 72 "TheodoliteRowModel" "datum" "I", Cond.fieldLink RX5 52 "TheodoliteRowModel" "stations" "I", Cond.fieldLink RX5 7 "TheodoliteRowModel" "isTold" "[Z", Cond.methodLink RX5 87 yX5_lays, Cond.instanceMethod yX5_lays, Cond.selects RX5 yX5_lays yX5_lays, Cond.code yX5_lays cX5_lays 2 none, Cond.fieldLink RX5 38 "TheodoliteRowModel" "a" "[J", Cond.fieldLink RX5 26 "TheodoliteRowModel" "weights" "[I", Cond.methodLink RX5 75 yX5_adds]
def wsX5_residual_r3 : List Cond := [Cond.instanceMethod yX5_adds, Cond.selects RX5 yX5_adds yX5_adds, Cond.code yX5_adds cX5_adds 5 none, Cond.methodLink RX5 90 yX5_laysDifferences, Cond.instanceMethod yX5_laysDifferences, Cond.selects RX5 yX5_laysDifferences yX5_laysDifferences, Cond.code yX5_laysDifferences cX5_laysDifferences 2 none, Cond.methodLink RX5 93 yX5_solves, Cond.instanceMethod yX5_solves, Cond.selects RX5 yX5_solves yX5_solves, Cond.code yX5_solves cX5_solves 11 none, Cond.methodLink RX5 101 yX5_floor, Cond.static yX5_floor, Cond.code yX5_floor cX5_floor 6 (some .long)]
def wsX5_residual : List Cond := .code yX5_residual cX5_residual 4 (some .long) :: ((wsX5_residual_r1 ++ (wsX5_residual_r2 ++ wsX5_residual_r3)) ++ wsX50)
def wsX5_checkOf_r1 : List Cond := [Cond.fieldLink RX5 17 "TheodoliteRowModel" "froms" "[I", Cond.fieldLink RX5 20 "TheodoliteRowModel" "tos" "[I", Cond.constantLong RX5 115 (-1), Cond.fieldLink RX5 26 "TheodoliteRowModel" "weights" "[I", Cond.fieldLink RX5 42 "TheodoliteRowModel" "found" "[J", Cond.constantLong RX5 117 (1000), Cond.fieldLink RX5 79 "TheodoliteRowModel" "trees" "J", Cond.methodLink RX5 83 yX5_reaches, Cond.instanceMethod yX5_reaches, Cond.selects RX5 yX5_reaches yX5_reaches, Cond.initialized RX5, Cond.code yX5_reaches cX5_reaches 4 none, Cond.fieldLink RX5 35 "TheodoliteRowModel" "isIn" "[Z", Cond.fieldLink RX5 59 "TheodoliteRowModel" "observations" "I", Cond.fieldLink RX5 29 "TheodoliteRowModel" "isWithdrawn" "[Z", Cond.fieldLink RX5 72 "TheodoliteRowModel" "datum" "I", Cond.fieldLink RX5 52 "TheodoliteRowModel" "stations" "I", Cond.fieldLink RX5 7 "TheodoliteRowModel" "isTold" "[Z", Cond.methodLink RX5 87 yX5_lays, Cond.instanceMethod yX5_lays, Cond.selects RX5 yX5_lays yX5_lays, Cond.code yX5_lays cX5_lays 2 none, Cond.fieldLink RX5 38 "TheodoliteRowModel" "a" "[J", Cond.methodLink RX5 75 yX5_adds]
def wsX5_checkOf_r2 : List Cond := [Cond.instanceMethod yX5_adds, Cond.selects RX5 yX5_adds yX5_adds, Cond.code yX5_adds cX5_adds 5 none, Cond.methodLink RX5 93 yX5_solves, Cond.instanceMethod yX5_solves, Cond.selects RX5 yX5_solves yX5_solves, Cond.code yX5_solves cX5_solves 11 none, Cond.methodLink RX5 101 yX5_floor, Cond.static yX5_floor, Cond.code yX5_floor cX5_floor 6 (some .long)]
def wsX5_checkOf : List Cond := .code yX5_checkOf cX5_checkOf 4 (some .int) :: ((wsX5_checkOf_r1 ++ wsX5_checkOf_r2) ++ wsX50)
def wsX5_check_r1 : List Cond := [Cond.methodLink RX5 109 yX5_isInNet, Cond.instanceMethod yX5_isInNet, Cond.selects RX5 yX5_isInNet yX5_isInNet, Cond.initialized RX5, Cond.code yX5_isInNet cX5_isInNet 3 (some .boolean), Cond.fieldLink RX5 29 "TheodoliteRowModel" "isWithdrawn" "[Z", Cond.methodLink RX5 69 yX5_isObservation, Cond.instanceMethod yX5_isObservation, Cond.selects RX5 yX5_isObservation yX5_isObservation, Cond.code yX5_isObservation cX5_isObservation 2 (some .boolean), Cond.fieldLink RX5 59 "TheodoliteRowModel" "observations" "I", Cond.methodLink RX5 55 yX5_isBetween, Cond.static yX5_isBetween, Cond.code yX5_isBetween cX5_isBetween 3 (some .boolean), Cond.methodLink RX5 62 yX5_goes, Cond.instanceMethod yX5_goes, Cond.selects RX5 yX5_goes yX5_goes, Cond.code yX5_goes cX5_goes 2 (some .boolean), Cond.fieldLink RX5 49 "TheodoliteRowModel" "thrown" "I", Cond.methodLink RX5 119 yX5_checkOf, Cond.instanceMethod yX5_checkOf, Cond.selects RX5 yX5_checkOf yX5_checkOf, Cond.code yX5_checkOf cX5_checkOf 4 (some .int), Cond.fieldLink RX5 17 "TheodoliteRowModel" "froms" "[I"]
def wsX5_check_r2 : List Cond := [Cond.fieldLink RX5 20 "TheodoliteRowModel" "tos" "[I", Cond.constantLong RX5 115 (-1), Cond.fieldLink RX5 26 "TheodoliteRowModel" "weights" "[I", Cond.fieldLink RX5 42 "TheodoliteRowModel" "found" "[J", Cond.constantLong RX5 117 (1000), Cond.fieldLink RX5 79 "TheodoliteRowModel" "trees" "J", Cond.methodLink RX5 83 yX5_reaches, Cond.instanceMethod yX5_reaches, Cond.selects RX5 yX5_reaches yX5_reaches, Cond.code yX5_reaches cX5_reaches 4 none, Cond.fieldLink RX5 35 "TheodoliteRowModel" "isIn" "[Z", Cond.fieldLink RX5 72 "TheodoliteRowModel" "datum" "I", Cond.fieldLink RX5 52 "TheodoliteRowModel" "stations" "I", Cond.fieldLink RX5 7 "TheodoliteRowModel" "isTold" "[Z", Cond.methodLink RX5 87 yX5_lays, Cond.instanceMethod yX5_lays, Cond.selects RX5 yX5_lays yX5_lays, Cond.code yX5_lays cX5_lays 2 none, Cond.fieldLink RX5 38 "TheodoliteRowModel" "a" "[J", Cond.methodLink RX5 75 yX5_adds, Cond.instanceMethod yX5_adds, Cond.selects RX5 yX5_adds yX5_adds, Cond.code yX5_adds cX5_adds 5 none, Cond.methodLink RX5 93 yX5_solves]
def wsX5_check_r3 : List Cond := [Cond.instanceMethod yX5_solves, Cond.selects RX5 yX5_solves yX5_solves, Cond.code yX5_solves cX5_solves 11 none, Cond.methodLink RX5 101 yX5_floor, Cond.static yX5_floor, Cond.code yX5_floor cX5_floor 6 (some .long)]
def wsX5_check : List Cond := .code yX5_check cX5_check 2 (some .int) :: ((wsX5_check_r1 ++ (wsX5_check_r2 ++ wsX5_check_r3)) ++ wsX50)
def wsX5_checkAnew_r1 : List Cond := [Cond.methodLink RX5 109 yX5_isInNet, Cond.instanceMethod yX5_isInNet, Cond.selects RX5 yX5_isInNet yX5_isInNet, Cond.initialized RX5, Cond.code yX5_isInNet cX5_isInNet 3 (some .boolean), Cond.fieldLink RX5 29 "TheodoliteRowModel" "isWithdrawn" "[Z", Cond.methodLink RX5 69 yX5_isObservation, Cond.instanceMethod yX5_isObservation, Cond.selects RX5 yX5_isObservation yX5_isObservation, Cond.code yX5_isObservation cX5_isObservation 2 (some .boolean), Cond.fieldLink RX5 59 "TheodoliteRowModel" "observations" "I", Cond.methodLink RX5 55 yX5_isBetween, Cond.static yX5_isBetween, Cond.code yX5_isBetween cX5_isBetween 3 (some .boolean), Cond.methodLink RX5 62 yX5_goes, Cond.instanceMethod yX5_goes, Cond.selects RX5 yX5_goes yX5_goes, Cond.code yX5_goes cX5_goes 2 (some .boolean), Cond.fieldLink RX5 49 "TheodoliteRowModel" "thrown" "I", Cond.methodLink RX5 119 yX5_checkOf, Cond.instanceMethod yX5_checkOf, Cond.selects RX5 yX5_checkOf yX5_checkOf, Cond.code yX5_checkOf cX5_checkOf 4 (some .int), Cond.fieldLink RX5 17 "TheodoliteRowModel" "froms" "[I"]
def wsX5_checkAnew_r2 : List Cond := [Cond.fieldLink RX5 20 "TheodoliteRowModel" "tos" "[I", Cond.constantLong RX5 115 (-1), Cond.fieldLink RX5 26 "TheodoliteRowModel" "weights" "[I", Cond.fieldLink RX5 42 "TheodoliteRowModel" "found" "[J", Cond.constantLong RX5 117 (1000), Cond.fieldLink RX5 79 "TheodoliteRowModel" "trees" "J", Cond.methodLink RX5 83 yX5_reaches, Cond.instanceMethod yX5_reaches, Cond.selects RX5 yX5_reaches yX5_reaches, Cond.code yX5_reaches cX5_reaches 4 none, Cond.fieldLink RX5 35 "TheodoliteRowModel" "isIn" "[Z", Cond.fieldLink RX5 72 "TheodoliteRowModel" "datum" "I", Cond.fieldLink RX5 52 "TheodoliteRowModel" "stations" "I", Cond.fieldLink RX5 7 "TheodoliteRowModel" "isTold" "[Z", Cond.methodLink RX5 87 yX5_lays, Cond.instanceMethod yX5_lays, Cond.selects RX5 yX5_lays yX5_lays, Cond.code yX5_lays cX5_lays 2 none, Cond.fieldLink RX5 38 "TheodoliteRowModel" "a" "[J", Cond.methodLink RX5 75 yX5_adds, Cond.instanceMethod yX5_adds, Cond.selects RX5 yX5_adds yX5_adds, Cond.code yX5_adds cX5_adds 5 none, Cond.methodLink RX5 93 yX5_solves]
def wsX5_checkAnew_r3 : List Cond := [Cond.instanceMethod yX5_solves, Cond.selects RX5 yX5_solves yX5_solves, Cond.code yX5_solves cX5_solves 11 none, Cond.methodLink RX5 101 yX5_floor, Cond.static yX5_floor, Cond.code yX5_floor cX5_floor 6 (some .long)]
def wsX5_checkAnew : List Cond := .code yX5_checkAnew cX5_checkAnew 2 (some .int) :: ((wsX5_checkAnew_r1 ++ (wsX5_checkAnew_r2 ++ wsX5_checkAnew_r3)) ++ wsX50)
def wsX5_scoreOf_r1 : List Cond := [Cond.constantLong RX5 99 (100), Cond.fieldLink RX5 79 "TheodoliteRowModel" "trees" "J", Cond.fieldLink RX5 26 "TheodoliteRowModel" "weights" "[I", Cond.methodLink RX5 119 yX5_checkOf, Cond.instanceMethod yX5_checkOf, Cond.selects RX5 yX5_checkOf yX5_checkOf, Cond.initialized RX5, Cond.code yX5_checkOf cX5_checkOf 4 (some .int), Cond.fieldLink RX5 17 "TheodoliteRowModel" "froms" "[I", Cond.fieldLink RX5 20 "TheodoliteRowModel" "tos" "[I", Cond.constantLong RX5 115 (-1), Cond.fieldLink RX5 42 "TheodoliteRowModel" "found" "[J", Cond.constantLong RX5 117 (1000), Cond.methodLink RX5 83 yX5_reaches, Cond.instanceMethod yX5_reaches, Cond.selects RX5 yX5_reaches yX5_reaches, Cond.code yX5_reaches cX5_reaches 4 none, Cond.fieldLink RX5 35 "TheodoliteRowModel" "isIn" "[Z", Cond.fieldLink RX5 59 "TheodoliteRowModel" "observations" "I", Cond.fieldLink RX5 29 "TheodoliteRowModel" "isWithdrawn" "[Z", Cond.fieldLink RX5 72 "TheodoliteRowModel" "datum" "I", Cond.fieldLink RX5 52 "TheodoliteRowModel" "stations" "I", Cond.fieldLink RX5 7 "TheodoliteRowModel" "isTold" "[Z", Cond.methodLink RX5 87 yX5_lays]
def wsX5_scoreOf_r2 : List Cond := [Cond.instanceMethod yX5_lays, Cond.selects RX5 yX5_lays yX5_lays, Cond.code yX5_lays cX5_lays 2 none, Cond.fieldLink RX5 38 "TheodoliteRowModel" "a" "[J", Cond.methodLink RX5 75 yX5_adds, Cond.instanceMethod yX5_adds, Cond.selects RX5 yX5_adds yX5_adds, Cond.code yX5_adds cX5_adds 5 none, Cond.methodLink RX5 93 yX5_solves, Cond.instanceMethod yX5_solves, Cond.selects RX5 yX5_solves yX5_solves, Cond.code yX5_solves cX5_solves 11 none, Cond.methodLink RX5 101 yX5_floor, Cond.static yX5_floor, Cond.code yX5_floor cX5_floor 6 (some .long), Cond.methodLink RX5 112 yX5_apart, Cond.instanceMethod yX5_apart, Cond.selects RX5 yX5_apart yX5_apart, Cond.code yX5_apart cX5_apart 2 (some .long), Cond.fieldLink RX5 23 "TheodoliteRowModel" "differences" "[I", Cond.methodLink RX5 96 yX5_finds, Cond.instanceMethod yX5_finds, Cond.selects RX5 yX5_finds yX5_finds, Cond.code yX5_finds cX5_finds 2 none]
def wsX5_scoreOf_r3 : List Cond := [Cond.methodLink RX5 90 yX5_laysDifferences, Cond.instanceMethod yX5_laysDifferences, Cond.selects RX5 yX5_laysDifferences yX5_laysDifferences, Cond.code yX5_laysDifferences cX5_laysDifferences 2 none, Cond.methodLink RX5 123 yX5_size, Cond.static yX5_size, Cond.code yX5_size cX5_size 2 (some .long)]
def wsX5_scoreOf : List Cond := .code yX5_scoreOf cX5_scoreOf 7 (some .long) :: ((wsX5_scoreOf_r1 ++ (wsX5_scoreOf_r2 ++ wsX5_scoreOf_r3)) ++ wsX50)
def wsX5_score_r1 : List Cond := [Cond.methodLink RX5 109 yX5_isInNet, Cond.instanceMethod yX5_isInNet, Cond.selects RX5 yX5_isInNet yX5_isInNet, Cond.initialized RX5, Cond.code yX5_isInNet cX5_isInNet 3 (some .boolean), Cond.fieldLink RX5 29 "TheodoliteRowModel" "isWithdrawn" "[Z", Cond.methodLink RX5 69 yX5_isObservation, Cond.instanceMethod yX5_isObservation, Cond.selects RX5 yX5_isObservation yX5_isObservation, Cond.code yX5_isObservation cX5_isObservation 2 (some .boolean), Cond.fieldLink RX5 59 "TheodoliteRowModel" "observations" "I", Cond.methodLink RX5 55 yX5_isBetween, Cond.static yX5_isBetween, Cond.code yX5_isBetween cX5_isBetween 3 (some .boolean), Cond.methodLink RX5 62 yX5_goes, Cond.instanceMethod yX5_goes, Cond.selects RX5 yX5_goes yX5_goes, Cond.code yX5_goes cX5_goes 2 (some .boolean), Cond.fieldLink RX5 49 "TheodoliteRowModel" "thrown" "I", Cond.methodLink RX5 127 yX5_scoreOf, Cond.instanceMethod yX5_scoreOf, Cond.selects RX5 yX5_scoreOf yX5_scoreOf, Cond.code yX5_scoreOf cX5_scoreOf 7 (some .long), Cond.constantLong RX5 99 (100)]
def wsX5_score_r2 : List Cond := [Cond.fieldLink RX5 79 "TheodoliteRowModel" "trees" "J", Cond.fieldLink RX5 26 "TheodoliteRowModel" "weights" "[I", Cond.methodLink RX5 119 yX5_checkOf, Cond.instanceMethod yX5_checkOf, Cond.selects RX5 yX5_checkOf yX5_checkOf, Cond.code yX5_checkOf cX5_checkOf 4 (some .int), Cond.fieldLink RX5 17 "TheodoliteRowModel" "froms" "[I", Cond.fieldLink RX5 20 "TheodoliteRowModel" "tos" "[I", Cond.constantLong RX5 115 (-1), Cond.fieldLink RX5 42 "TheodoliteRowModel" "found" "[J", Cond.constantLong RX5 117 (1000), Cond.methodLink RX5 83 yX5_reaches, Cond.instanceMethod yX5_reaches, Cond.selects RX5 yX5_reaches yX5_reaches, Cond.code yX5_reaches cX5_reaches 4 none, Cond.fieldLink RX5 35 "TheodoliteRowModel" "isIn" "[Z", Cond.fieldLink RX5 72 "TheodoliteRowModel" "datum" "I", Cond.fieldLink RX5 52 "TheodoliteRowModel" "stations" "I", Cond.fieldLink RX5 7 "TheodoliteRowModel" "isTold" "[Z", Cond.methodLink RX5 87 yX5_lays, Cond.instanceMethod yX5_lays, Cond.selects RX5 yX5_lays yX5_lays, Cond.code yX5_lays cX5_lays 2 none, Cond.fieldLink RX5 38 "TheodoliteRowModel" "a" "[J"]
def wsX5_score_r3 : List Cond := [Cond.methodLink RX5 75 yX5_adds, Cond.instanceMethod yX5_adds, Cond.selects RX5 yX5_adds yX5_adds, Cond.code yX5_adds cX5_adds 5 none, Cond.methodLink RX5 93 yX5_solves, Cond.instanceMethod yX5_solves, Cond.selects RX5 yX5_solves yX5_solves, Cond.code yX5_solves cX5_solves 11 none, Cond.methodLink RX5 101 yX5_floor, Cond.static yX5_floor, Cond.code yX5_floor cX5_floor 6 (some .long), Cond.methodLink RX5 112 yX5_apart, Cond.instanceMethod yX5_apart, Cond.selects RX5 yX5_apart yX5_apart, Cond.code yX5_apart cX5_apart 2 (some .long), Cond.fieldLink RX5 23 "TheodoliteRowModel" "differences" "[I", Cond.methodLink RX5 96 yX5_finds, Cond.instanceMethod yX5_finds, Cond.selects RX5 yX5_finds yX5_finds, Cond.code yX5_finds cX5_finds 2 none, Cond.methodLink RX5 90 yX5_laysDifferences, Cond.instanceMethod yX5_laysDifferences, Cond.selects RX5 yX5_laysDifferences yX5_laysDifferences, Cond.code yX5_laysDifferences cX5_laysDifferences 2 none]
def wsX5_score_r4 : List Cond := [Cond.methodLink RX5 123 yX5_size, Cond.static yX5_size, Cond.code yX5_size cX5_size 2 (some .long)]
def wsX5_score : List Cond := .code yX5_score cX5_score 2 (some .long) :: ((wsX5_score_r1 ++ (wsX5_score_r2 ++ (wsX5_score_r3 ++ wsX5_score_r4))) ++ wsX50)
def wsX5_worstOf_r1 : List Cond := [Cond.fieldLink RX5 59 "TheodoliteRowModel" "observations" "I", Cond.fieldLink RX5 29 "TheodoliteRowModel" "isWithdrawn" "[Z", Cond.methodLink RX5 127 yX5_scoreOf, Cond.instanceMethod yX5_scoreOf, Cond.selects RX5 yX5_scoreOf yX5_scoreOf, Cond.initialized RX5, Cond.code yX5_scoreOf cX5_scoreOf 7 (some .long), Cond.constantLong RX5 99 (100), Cond.fieldLink RX5 79 "TheodoliteRowModel" "trees" "J", Cond.fieldLink RX5 26 "TheodoliteRowModel" "weights" "[I", Cond.methodLink RX5 119 yX5_checkOf, Cond.instanceMethod yX5_checkOf, Cond.selects RX5 yX5_checkOf yX5_checkOf, Cond.code yX5_checkOf cX5_checkOf 4 (some .int), Cond.fieldLink RX5 17 "TheodoliteRowModel" "froms" "[I", Cond.fieldLink RX5 20 "TheodoliteRowModel" "tos" "[I", Cond.constantLong RX5 115 (-1), Cond.fieldLink RX5 42 "TheodoliteRowModel" "found" "[J", Cond.constantLong RX5 117 (1000), Cond.methodLink RX5 83 yX5_reaches, Cond.instanceMethod yX5_reaches, Cond.selects RX5 yX5_reaches yX5_reaches, Cond.code yX5_reaches cX5_reaches 4 none, Cond.fieldLink RX5 35 "TheodoliteRowModel" "isIn" "[Z"]
def wsX5_worstOf_r2 : List Cond := [Cond.fieldLink RX5 72 "TheodoliteRowModel" "datum" "I", Cond.fieldLink RX5 52 "TheodoliteRowModel" "stations" "I", Cond.fieldLink RX5 7 "TheodoliteRowModel" "isTold" "[Z", Cond.methodLink RX5 87 yX5_lays, Cond.instanceMethod yX5_lays, Cond.selects RX5 yX5_lays yX5_lays, Cond.code yX5_lays cX5_lays 2 none, Cond.fieldLink RX5 38 "TheodoliteRowModel" "a" "[J", Cond.methodLink RX5 75 yX5_adds, Cond.instanceMethod yX5_adds, Cond.selects RX5 yX5_adds yX5_adds, Cond.code yX5_adds cX5_adds 5 none, Cond.methodLink RX5 93 yX5_solves, Cond.instanceMethod yX5_solves, Cond.selects RX5 yX5_solves yX5_solves, Cond.code yX5_solves cX5_solves 11 none, Cond.methodLink RX5 101 yX5_floor, Cond.static yX5_floor, Cond.code yX5_floor cX5_floor 6 (some .long), Cond.methodLink RX5 112 yX5_apart, Cond.instanceMethod yX5_apart, Cond.selects RX5 yX5_apart yX5_apart, Cond.code yX5_apart cX5_apart 2 (some .long), Cond.fieldLink RX5 23 "TheodoliteRowModel" "differences" "[I"]
def wsX5_worstOf_r3 : List Cond := [Cond.methodLink RX5 96 yX5_finds, Cond.instanceMethod yX5_finds, Cond.selects RX5 yX5_finds yX5_finds, Cond.code yX5_finds cX5_finds 2 none, Cond.methodLink RX5 90 yX5_laysDifferences, Cond.instanceMethod yX5_laysDifferences, Cond.selects RX5 yX5_laysDifferences yX5_laysDifferences, Cond.code yX5_laysDifferences cX5_laysDifferences 2 none, Cond.methodLink RX5 123 yX5_size, Cond.static yX5_size, Cond.code yX5_size cX5_size 2 (some .long)]
def wsX5_worstOf : List Cond := .code yX5_worstOf cX5_worstOf 7 (some .int) :: ((wsX5_worstOf_r1 ++ (wsX5_worstOf_r2 ++ wsX5_worstOf_r3)) ++ wsX50)
def wsX5_worst_r1 : List Cond := [Cond.fieldLink RX5 49 "TheodoliteRowModel" "thrown" "I", Cond.methodLink RX5 130 yX5_worstOf, Cond.instanceMethod yX5_worstOf, Cond.selects RX5 yX5_worstOf yX5_worstOf, Cond.initialized RX5, Cond.code yX5_worstOf cX5_worstOf 7 (some .int), Cond.fieldLink RX5 59 "TheodoliteRowModel" "observations" "I", Cond.fieldLink RX5 29 "TheodoliteRowModel" "isWithdrawn" "[Z", Cond.methodLink RX5 127 yX5_scoreOf, Cond.instanceMethod yX5_scoreOf, Cond.selects RX5 yX5_scoreOf yX5_scoreOf, Cond.code yX5_scoreOf cX5_scoreOf 7 (some .long), Cond.constantLong RX5 99 (100), Cond.fieldLink RX5 79 "TheodoliteRowModel" "trees" "J", Cond.fieldLink RX5 26 "TheodoliteRowModel" "weights" "[I", Cond.methodLink RX5 119 yX5_checkOf, Cond.instanceMethod yX5_checkOf, Cond.selects RX5 yX5_checkOf yX5_checkOf, Cond.code yX5_checkOf cX5_checkOf 4 (some .int), Cond.fieldLink RX5 17 "TheodoliteRowModel" "froms" "[I", Cond.fieldLink RX5 20 "TheodoliteRowModel" "tos" "[I", Cond.constantLong RX5 115 (-1), Cond.fieldLink RX5 42 "TheodoliteRowModel" "found" "[J", Cond.constantLong RX5 117 (1000)]
def wsX5_worst_r2 : List Cond := [Cond.methodLink RX5 83 yX5_reaches, Cond.instanceMethod yX5_reaches, Cond.selects RX5 yX5_reaches yX5_reaches, Cond.code yX5_reaches cX5_reaches 4 none, Cond.fieldLink RX5 35 "TheodoliteRowModel" "isIn" "[Z", Cond.fieldLink RX5 72 "TheodoliteRowModel" "datum" "I", Cond.fieldLink RX5 52 "TheodoliteRowModel" "stations" "I", Cond.fieldLink RX5 7 "TheodoliteRowModel" "isTold" "[Z", Cond.methodLink RX5 87 yX5_lays, Cond.instanceMethod yX5_lays, Cond.selects RX5 yX5_lays yX5_lays, Cond.code yX5_lays cX5_lays 2 none, Cond.fieldLink RX5 38 "TheodoliteRowModel" "a" "[J", Cond.methodLink RX5 75 yX5_adds, Cond.instanceMethod yX5_adds, Cond.selects RX5 yX5_adds yX5_adds, Cond.code yX5_adds cX5_adds 5 none, Cond.methodLink RX5 93 yX5_solves, Cond.instanceMethod yX5_solves, Cond.selects RX5 yX5_solves yX5_solves, Cond.code yX5_solves cX5_solves 11 none, Cond.methodLink RX5 101 yX5_floor, Cond.static yX5_floor, Cond.code yX5_floor cX5_floor 6 (some .long)]
def wsX5_worst_r3 : List Cond := [Cond.methodLink RX5 112 yX5_apart, Cond.instanceMethod yX5_apart, Cond.selects RX5 yX5_apart yX5_apart, Cond.code yX5_apart cX5_apart 2 (some .long), Cond.fieldLink RX5 23 "TheodoliteRowModel" "differences" "[I", Cond.methodLink RX5 96 yX5_finds, Cond.instanceMethod yX5_finds, Cond.selects RX5 yX5_finds yX5_finds, Cond.code yX5_finds cX5_finds 2 none, Cond.methodLink RX5 90 yX5_laysDifferences, Cond.instanceMethod yX5_laysDifferences, Cond.selects RX5 yX5_laysDifferences yX5_laysDifferences, Cond.code yX5_laysDifferences cX5_laysDifferences 2 none, Cond.methodLink RX5 123 yX5_size, Cond.static yX5_size, Cond.code yX5_size cX5_size 2 (some .long)]
def wsX5_worst : List Cond := .code yX5_worst cX5_worst 1 (some .int) :: ((wsX5_worst_r1 ++ (wsX5_worst_r2 ++ wsX5_worst_r3)) ++ wsX50)
def wsX5_clean_r1 : List Cond := [Cond.constant RX5 134 (1000000000), Cond.fieldLink RX5 29 "TheodoliteRowModel" "isWithdrawn" "[Z", Cond.methodLink RX5 55 yX5_isBetween, Cond.static yX5_isBetween, Cond.initialized RX5, Cond.code yX5_isBetween cX5_isBetween 3 (some .boolean), Cond.methodLink RX5 62 yX5_goes, Cond.instanceMethod yX5_goes, Cond.selects RX5 yX5_goes yX5_goes, Cond.code yX5_goes cX5_goes 2 (some .boolean), Cond.fieldLink RX5 49 "TheodoliteRowModel" "thrown" "I", Cond.methodLink RX5 130 yX5_worstOf, Cond.instanceMethod yX5_worstOf, Cond.selects RX5 yX5_worstOf yX5_worstOf, Cond.code yX5_worstOf cX5_worstOf 7 (some .int), Cond.fieldLink RX5 59 "TheodoliteRowModel" "observations" "I", Cond.methodLink RX5 127 yX5_scoreOf, Cond.instanceMethod yX5_scoreOf, Cond.selects RX5 yX5_scoreOf yX5_scoreOf, Cond.code yX5_scoreOf cX5_scoreOf 7 (some .long), Cond.constantLong RX5 99 (100), Cond.fieldLink RX5 79 "TheodoliteRowModel" "trees" "J", Cond.fieldLink RX5 26 "TheodoliteRowModel" "weights" "[I", Cond.methodLink RX5 119 yX5_checkOf]
def wsX5_clean_r2 : List Cond := [Cond.instanceMethod yX5_checkOf, Cond.selects RX5 yX5_checkOf yX5_checkOf, Cond.code yX5_checkOf cX5_checkOf 4 (some .int), Cond.fieldLink RX5 17 "TheodoliteRowModel" "froms" "[I", Cond.fieldLink RX5 20 "TheodoliteRowModel" "tos" "[I", Cond.constantLong RX5 115 (-1), Cond.fieldLink RX5 42 "TheodoliteRowModel" "found" "[J", Cond.constantLong RX5 117 (1000), Cond.methodLink RX5 83 yX5_reaches, Cond.instanceMethod yX5_reaches, Cond.selects RX5 yX5_reaches yX5_reaches, Cond.code yX5_reaches cX5_reaches 4 none, Cond.fieldLink RX5 35 "TheodoliteRowModel" "isIn" "[Z", Cond.fieldLink RX5 72 "TheodoliteRowModel" "datum" "I", Cond.fieldLink RX5 52 "TheodoliteRowModel" "stations" "I", Cond.fieldLink RX5 7 "TheodoliteRowModel" "isTold" "[Z", Cond.methodLink RX5 87 yX5_lays, Cond.instanceMethod yX5_lays, Cond.selects RX5 yX5_lays yX5_lays, Cond.code yX5_lays cX5_lays 2 none, Cond.fieldLink RX5 38 "TheodoliteRowModel" "a" "[J", Cond.methodLink RX5 75 yX5_adds, Cond.instanceMethod yX5_adds, Cond.selects RX5 yX5_adds yX5_adds]
def wsX5_clean_r3 : List Cond := [Cond.code yX5_adds cX5_adds 5 none, Cond.methodLink RX5 93 yX5_solves, Cond.instanceMethod yX5_solves, Cond.selects RX5 yX5_solves yX5_solves, Cond.code yX5_solves cX5_solves 11 none, Cond.methodLink RX5 101 yX5_floor, Cond.static yX5_floor, Cond.code yX5_floor cX5_floor 6 (some .long), Cond.methodLink RX5 112 yX5_apart, Cond.instanceMethod yX5_apart, Cond.selects RX5 yX5_apart yX5_apart, Cond.code yX5_apart cX5_apart 2 (some .long), Cond.fieldLink RX5 23 "TheodoliteRowModel" "differences" "[I", Cond.methodLink RX5 96 yX5_finds, Cond.instanceMethod yX5_finds, Cond.selects RX5 yX5_finds yX5_finds, Cond.code yX5_finds cX5_finds 2 none, Cond.methodLink RX5 90 yX5_laysDifferences, Cond.instanceMethod yX5_laysDifferences, Cond.selects RX5 yX5_laysDifferences yX5_laysDifferences, Cond.code yX5_laysDifferences cX5_laysDifferences 2 none, Cond.methodLink RX5 123 yX5_size, Cond.static yX5_size, Cond.code yX5_size cX5_size 2 (some .long)]
def wsX5_clean : List Cond := .code yX5_clean cX5_clean 4 (some .int) :: ((wsX5_clean_r1 ++ (wsX5_clean_r2 ++ wsX5_clean_r3)) ++ wsX50)
def wsX5_joins : List Cond := .code yX5_joins cX5_joins 6 (some .int) :: ([.fieldLink RX5 59 "TheodoliteRowModel" "observations" "I", .fieldLink RX5 17 "TheodoliteRowModel" "froms" "[I", .fieldLink RX5 20 "TheodoliteRowModel" "tos" "[I", .fieldLink RX5 29 "TheodoliteRowModel" "isWithdrawn" "[Z"] ++ wsX50)
def wsX5_go_r1 : List Cond := [Cond.fieldLink RX5 135 "TheodoliteRowModel" "path" "I", Cond.fieldLink RX5 32 "TheodoliteRowModel" "steps" "[I", Cond.fieldLink RX5 45 "TheodoliteRowModel" "sum" "I", Cond.fieldLink RX5 20 "TheodoliteRowModel" "tos" "[I", Cond.fieldLink RX5 23 "TheodoliteRowModel" "differences" "[I", Cond.methodLink RX5 66 yX5_isStation, Cond.instanceMethod yX5_isStation, Cond.selects RX5 yX5_isStation yX5_isStation, Cond.initialized RX5, Cond.code yX5_isStation cX5_isStation 2 (some .boolean), Cond.fieldLink RX5 52 "TheodoliteRowModel" "stations" "I", Cond.methodLink RX5 55 yX5_isBetween, Cond.static yX5_isBetween, Cond.code yX5_isBetween cX5_isBetween 3 (some .boolean), Cond.methodLink RX5 138 yX5_joins, Cond.instanceMethod yX5_joins, Cond.selects RX5 yX5_joins yX5_joins, Cond.code yX5_joins cX5_joins 6 (some .int), Cond.fieldLink RX5 59 "TheodoliteRowModel" "observations" "I", Cond.fieldLink RX5 17 "TheodoliteRowModel" "froms" "[I", Cond.fieldLink RX5 29 "TheodoliteRowModel" "isWithdrawn" "[Z", Cond.methodLink RX5 62 yX5_goes, Cond.instanceMethod yX5_goes, Cond.selects RX5 yX5_goes yX5_goes]
def wsX5_go_r2 : List Cond := [Cond.code yX5_goes cX5_goes 2 (some .boolean), Cond.fieldLink RX5 49 "TheodoliteRowModel" "thrown" "I"]
def wsX5_go : List Cond := .code yX5_go cX5_go 4 (some .int) :: ((wsX5_go_r1 ++ wsX5_go_r2) ++ wsX50)
def wsX5_end : List Cond := .code yX5_end cX5_end 2 (some .int) :: ([.fieldLink RX5 49 "TheodoliteRowModel" "thrown" "I", .fieldLink RX5 135 "TheodoliteRowModel" "path" "I", .fieldLink RX5 45 "TheodoliteRowModel" "sum" "I"] ++ wsX50)
def wsX5_sum : List Cond := .code yX5_sum cX5_sum 1 (some .int) :: ([.fieldLink RX5 49 "TheodoliteRowModel" "thrown" "I", .fieldLink RX5 45 "TheodoliteRowModel" "sum" "I"] ++ wsX50)
def wsX5_isClosed : List Cond := .code yX5_isClosed cX5_isClosed 1 (some .boolean) :: ([.fieldLink RX5 49 "TheodoliteRowModel" "thrown" "I", .fieldLink RX5 135 "TheodoliteRowModel" "path" "I", .fieldLink RX5 32 "TheodoliteRowModel" "steps" "[I", .fieldLink RX5 45 "TheodoliteRowModel" "sum" "I"] ++ wsX50)
def wsX5_trees_r1 : List Cond := [Cond.fieldLink RX5 79 "TheodoliteRowModel" "trees" "J", Cond.methodLink RX5 66 yX5_isStation, Cond.instanceMethod yX5_isStation, Cond.selects RX5 yX5_isStation yX5_isStation, Cond.initialized RX5, Cond.code yX5_isStation cX5_isStation 2 (some .boolean), Cond.fieldLink RX5 52 "TheodoliteRowModel" "stations" "I", Cond.methodLink RX5 55 yX5_isBetween, Cond.static yX5_isBetween, Cond.code yX5_isBetween cX5_isBetween 3 (some .boolean), Cond.methodLink RX5 62 yX5_goes, Cond.instanceMethod yX5_goes, Cond.selects RX5 yX5_goes yX5_goes, Cond.code yX5_goes cX5_goes 2 (some .boolean), Cond.fieldLink RX5 49 "TheodoliteRowModel" "thrown" "I", Cond.methodLink RX5 96 yX5_finds, Cond.instanceMethod yX5_finds, Cond.selects RX5 yX5_finds yX5_finds, Cond.code yX5_finds cX5_finds 2 none, Cond.methodLink RX5 83 yX5_reaches, Cond.instanceMethod yX5_reaches, Cond.selects RX5 yX5_reaches yX5_reaches, Cond.code yX5_reaches cX5_reaches 4 none, Cond.fieldLink RX5 35 "TheodoliteRowModel" "isIn" "[Z"]
def wsX5_trees_r2 : List Cond := [Cond.fieldLink RX5 59 "TheodoliteRowModel" "observations" "I", Cond.fieldLink RX5 29 "TheodoliteRowModel" "isWithdrawn" "[Z", Cond.fieldLink RX5 17 "TheodoliteRowModel" "froms" "[I", Cond.fieldLink RX5 20 "TheodoliteRowModel" "tos" "[I", Cond.fieldLink RX5 72 "TheodoliteRowModel" "datum" "I", Cond.fieldLink RX5 7 "TheodoliteRowModel" "isTold" "[Z", Cond.methodLink RX5 87 yX5_lays, Cond.instanceMethod yX5_lays, Cond.selects RX5 yX5_lays yX5_lays, Cond.code yX5_lays cX5_lays 2 none, Cond.fieldLink RX5 38 "TheodoliteRowModel" "a" "[J", Cond.fieldLink RX5 26 "TheodoliteRowModel" "weights" "[I", Cond.methodLink RX5 75 yX5_adds, Cond.instanceMethod yX5_adds, Cond.selects RX5 yX5_adds yX5_adds, Cond.code yX5_adds cX5_adds 5 none, Cond.methodLink RX5 90 yX5_laysDifferences, Cond.instanceMethod yX5_laysDifferences, Cond.selects RX5 yX5_laysDifferences yX5_laysDifferences, Cond.code yX5_laysDifferences cX5_laysDifferences 2 none, Cond.fieldLink RX5 23 "TheodoliteRowModel" "differences" "[I", Cond.methodLink RX5 93 yX5_solves, Cond.instanceMethod yX5_solves, Cond.selects RX5 yX5_solves yX5_solves]
def wsX5_trees_r3 : List Cond := [Cond.code yX5_solves cX5_solves 11 none, Cond.fieldLink RX5 42 "TheodoliteRowModel" "found" "[J"]
def wsX5_trees : List Cond := .code yX5_trees cX5_trees 2 (some .long) :: ((wsX5_trees_r1 ++ (wsX5_trees_r2 ++ wsX5_trees_r3)) ++ wsX50)
def wsX5_parts : List Cond := .code yX5_parts cX5_parts 5 (some .int) :: ([.fieldLink RX5 49 "TheodoliteRowModel" "thrown" "I", .fieldLink RX5 52 "TheodoliteRowModel" "stations" "I", .fieldLink RX5 35 "TheodoliteRowModel" "isIn" "[Z", .methodLink RX5 83 yX5_reaches, .instanceMethod yX5_reaches, .selects RX5 yX5_reaches yX5_reaches, .initialized RX5, .code yX5_reaches cX5_reaches 4 none, .fieldLink RX5 59 "TheodoliteRowModel" "observations" "I", .fieldLink RX5 29 "TheodoliteRowModel" "isWithdrawn" "[Z", .fieldLink RX5 17 "TheodoliteRowModel" "froms" "[I", .fieldLink RX5 20 "TheodoliteRowModel" "tos" "[I", .fieldLink RX5 72 "TheodoliteRowModel" "datum" "I", .fieldLink RX5 7 "TheodoliteRowModel" "isTold" "[Z"] ++ wsX50)
def wsJ9_abs_067f4 : List Cond := .code yJ9_abs_067f4 cJ9_abs_067f4 2 (some .long) :: ([])
def wsJ9_max_7cf53 : List Cond := .code yJ9_max_7cf53 cJ9_max_7cf53 2 (some .int) :: ([])
def wsJ9_min_7cf53 : List Cond := .code yJ9_min_7cf53 cJ9_min_7cf53 2 (some .int) :: ([])
def wsL_station_r1 : List Cond := [Cond.classLink RL 13 "java/lang/IllegalStateException", Cond.methodLink RL 7 yX4_station, Cond.instanceMethod yX4_station, Cond.selects RX4 yX4_station yX4_station, Cond.initialized RX4, Cond.code yX4_station cX4_station 1 (some .int), Cond.classLink RX4 43 "java/lang/IllegalStateException", Cond.initialized "java/lang/IllegalStateException", Cond.fieldLink RX4 10 "TheodoliteRow" "net" "LTheodoliteRow$Net;", Cond.fieldLink RX4 39 "TheodoliteRow$Net" "stations" "I", Cond.methodLink RX4 50 yX1_addStation, Cond.instanceMethod yX1_addStation, Cond.selects RX1 yX1_addStation yX1_addStation, Cond.initialized RX1, Cond.code yX1_addStation cX1_addStation 2 (some .int), Cond.fieldLink RX1 37 "TheodoliteRow$Net" "stations" "I", Cond.methodLink RX1 44 yX1_markParts, Cond.instanceMethod yX1_markParts, Cond.selects RX1 yX1_markParts yX1_markParts, Cond.code yX1_markParts cX1_markParts 2 none, Cond.fieldLink RX1 19 "TheodoliteRow$Net" "lowest" "[I", Cond.fieldLink RX1 41 "TheodoliteRow$Net" "observations" "I", Cond.fieldLink RX1 34 "TheodoliteRow$Net" "isWithdrawn" "[Z", Cond.fieldLink RX1 22 "TheodoliteRow$Net" "from" "[I"]
def wsL_station_r2 : List Cond := [Cond.fieldLink RX1 25 "TheodoliteRow$Net" "to" "[I", Cond.methodLink RX1 47 yX1_mergeParts, Cond.instanceMethod yX1_mergeParts, Cond.selects RX1 yX1_mergeParts yX1_mergeParts, Cond.code yX1_mergeParts cX1_mergeParts 6 none, Cond.methodLink RX1 51 Lib.Math.min.name, Cond.static Lib.Math.min.name, Cond.initialized "java/lang/Math", Cond.code Lib.Math.min.name Lib.Math.min.code 2 (some .int), Cond.methodLink RX1 57 Lib.Math.max.name, Cond.static Lib.Math.max.name, Cond.code Lib.Math.max.name Lib.Math.max.code 2 (some .int)]
def wsL_station : List Cond := .codeWith yL_station cL_station 3 (some .int) [(0, 8, 11, 13)] :: ((wsL_station_r1 ++ wsL_station_r2) ++ wsX40 ++ wsX10 ++ (vx_atS RX4 47 "java/lang/IllegalStateException" ["java/lang/RuntimeException", "java/lang/Exception"]).filter goodWord)
def wsL_datum_r1 : List Cond := [Cond.classLink RL 19 "java/lang/IndexOutOfBoundsException", Cond.classLink RL 21 "java/lang/IllegalArgumentException", Cond.methodLink RL 15 yX4_datum, Cond.instanceMethod yX4_datum, Cond.selects RX4 yX4_datum yX4_datum, Cond.initialized RX4, Cond.code yX4_datum cX4_datum 4 (some .boolean), Cond.classLink RX4 62 "java/lang/IllegalArgumentException", Cond.initialized "java/lang/IllegalArgumentException", Cond.fieldLink RX4 10 "TheodoliteRow" "net" "LTheodoliteRow$Net;", Cond.methodLink RX4 54 yX4_needStation, Cond.instanceMethod yX4_needStation, Cond.selects RX4 yX4_needStation yX4_needStation, Cond.code yX4_needStation cX4_needStation 2 none, Cond.classLink RX4 163 "java/lang/IndexOutOfBoundsException", Cond.initialized "java/lang/IndexOutOfBoundsException", Cond.methodLink RX4 159 yX1_hasStation, Cond.instanceMethod yX1_hasStation, Cond.selects RX1 yX1_hasStation yX1_hasStation, Cond.initialized RX1, Cond.code yX1_hasStation cX1_hasStation 2 (some .boolean), Cond.fieldLink RX1 37 "TheodoliteRow$Net" "stations" "I", Cond.methodLink RX4 58 yX4_isBeyond, Cond.static yX4_isBeyond]
def wsL_datum_r2 : List Cond := [Cond.code yX4_isBeyond cX4_isBeyond 3 (some .boolean), Cond.methodLink RX4 67 yX1_tellHeight, Cond.instanceMethod yX1_tellHeight, Cond.selects RX1 yX1_tellHeight yX1_tellHeight, Cond.code yX1_tellHeight cX1_tellHeight 5 (some .boolean), Cond.fieldLink RX1 9 "TheodoliteRow$Net" "isTold" "[Z", Cond.fieldLink RX1 15 "TheodoliteRow$Net" "toldHeight" "[I"]
def wsL_datum : List Cond := .codeWith yL_datum cL_datum 6 (some .int) [(0, 19, 22, 19), (0, 19, 26, 21)] :: ((wsL_datum_r1 ++ wsL_datum_r2) ++ wsX40 ++ wsX10 ++ (vx_atS RX4 66 "java/lang/IllegalArgumentException" ["java/lang/RuntimeException", "java/lang/Exception"]).filter goodWord ++ (vx_atS RX4 167 "java/lang/IndexOutOfBoundsException" ["java/lang/RuntimeException", "java/lang/Exception"]).filter goodWord)
def wsL_observe_r1 : List Cond := [Cond.classLink RL 19 "java/lang/IndexOutOfBoundsException", Cond.classLink RL 21 "java/lang/IllegalArgumentException", Cond.classLink RL 13 "java/lang/IllegalStateException", Cond.methodLink RL 23 yX4_observe, Cond.instanceMethod yX4_observe, Cond.selects RX4 yX4_observe yX4_observe, Cond.initialized RX4, Cond.code yX4_observe cX4_observe 5 (some .int), Cond.classLink RX4 62 "java/lang/IllegalArgumentException", Cond.initialized "java/lang/IllegalArgumentException", Cond.classLink RX4 43 "java/lang/IllegalStateException", Cond.initialized "java/lang/IllegalStateException", Cond.fieldLink RX4 10 "TheodoliteRow" "net" "LTheodoliteRow$Net;", Cond.fieldLink RX4 77 "TheodoliteRow$Net" "observations" "I", Cond.methodLink RX4 54 yX4_needStation, Cond.instanceMethod yX4_needStation, Cond.selects RX4 yX4_needStation yX4_needStation, Cond.code yX4_needStation cX4_needStation 2 none, Cond.classLink RX4 163 "java/lang/IndexOutOfBoundsException", Cond.initialized "java/lang/IndexOutOfBoundsException", Cond.methodLink RX4 159 yX1_hasStation, Cond.instanceMethod yX1_hasStation, Cond.selects RX1 yX1_hasStation yX1_hasStation, Cond.initialized RX1]
def wsL_observe_r2 : List Cond := [Cond.code yX1_hasStation cX1_hasStation 2 (some .boolean), Cond.fieldLink RX1 37 "TheodoliteRow$Net" "stations" "I", Cond.methodLink RX4 58 yX4_isBeyond, Cond.static yX4_isBeyond, Cond.code yX4_isBeyond cX4_isBeyond 3 (some .boolean), Cond.methodLink RX4 82 yX1_addObservation, Cond.instanceMethod yX1_addObservation, Cond.selects RX1 yX1_addObservation yX1_addObservation, Cond.code yX1_addObservation cX1_addObservation 6 (some .int), Cond.fieldLink RX1 41 "TheodoliteRow$Net" "observations" "I", Cond.fieldLink RX1 22 "TheodoliteRow$Net" "from" "[I", Cond.fieldLink RX1 25 "TheodoliteRow$Net" "to" "[I", Cond.fieldLink RX1 28 "TheodoliteRow$Net" "difference" "[I", Cond.fieldLink RX1 31 "TheodoliteRow$Net" "weight" "[I", Cond.methodLink RX1 44 yX1_markParts, Cond.instanceMethod yX1_markParts, Cond.selects RX1 yX1_markParts yX1_markParts, Cond.code yX1_markParts cX1_markParts 2 none, Cond.fieldLink RX1 19 "TheodoliteRow$Net" "lowest" "[I", Cond.fieldLink RX1 34 "TheodoliteRow$Net" "isWithdrawn" "[Z", Cond.methodLink RX1 47 yX1_mergeParts, Cond.instanceMethod yX1_mergeParts, Cond.selects RX1 yX1_mergeParts yX1_mergeParts, Cond.code yX1_mergeParts cX1_mergeParts 6 none]
def wsL_observe_r3 : List Cond := [Cond.methodLink RX1 51 Lib.Math.min.name, Cond.static Lib.Math.min.name, Cond.initialized "java/lang/Math", Cond.code Lib.Math.min.name Lib.Math.min.code 2 (some .int), Cond.methodLink RX1 57 Lib.Math.max.name, Cond.static Lib.Math.max.name, Cond.code Lib.Math.max.name Lib.Math.max.code 2 (some .int)]
def wsL_observe : List Cond := .codeWith yL_observe cL_observe 7 (some .int) [(0, 14, 17, 19), (0, 14, 21, 21), (0, 14, 25, 13)] :: ((wsL_observe_r1 ++ (wsL_observe_r2 ++ wsL_observe_r3)) ++ wsX40 ++ wsX10 ++ (vx_atS RX4 66 "java/lang/IllegalArgumentException" ["java/lang/RuntimeException", "java/lang/Exception"]).filter goodWord ++ (vx_atS RX4 47 "java/lang/IllegalStateException" ["java/lang/RuntimeException", "java/lang/Exception"]).filter goodWord ++ (vx_atS RX4 167 "java/lang/IndexOutOfBoundsException" ["java/lang/RuntimeException", "java/lang/Exception"]).filter goodWord)
def wsL_withdraw_r1 : List Cond := [Cond.classLink RL 19 "java/lang/IndexOutOfBoundsException", Cond.methodLink RL 27 yX4_withdraw, Cond.instanceMethod yX4_withdraw, Cond.selects RX4 yX4_withdraw yX4_withdraw, Cond.initialized RX4, Cond.code yX4_withdraw cX4_withdraw 3 (some .boolean), Cond.fieldLink RX4 10 "TheodoliteRow" "net" "LTheodoliteRow$Net;", Cond.methodLink RX4 86 yX4_needObservation, Cond.instanceMethod yX4_needObservation, Cond.selects RX4 yX4_needObservation yX4_needObservation, Cond.code yX4_needObservation cX4_needObservation 2 none, Cond.classLink RX4 163 "java/lang/IndexOutOfBoundsException", Cond.initialized "java/lang/IndexOutOfBoundsException", Cond.methodLink RX4 168 yX1_hasObservation, Cond.instanceMethod yX1_hasObservation, Cond.selects RX1 yX1_hasObservation yX1_hasObservation, Cond.initialized RX1, Cond.code yX1_hasObservation cX1_hasObservation 2 (some .boolean), Cond.fieldLink RX1 41 "TheodoliteRow$Net" "observations" "I", Cond.methodLink RX4 89 yX1_setWithdrawn, Cond.instanceMethod yX1_setWithdrawn, Cond.selects RX1 yX1_setWithdrawn yX1_setWithdrawn, Cond.code yX1_setWithdrawn cX1_setWithdrawn 4 (some .boolean), Cond.fieldLink RX1 34 "TheodoliteRow$Net" "isWithdrawn" "[Z"]
def wsL_withdraw_r2 : List Cond := [Cond.methodLink RX1 44 yX1_markParts, Cond.instanceMethod yX1_markParts, Cond.selects RX1 yX1_markParts yX1_markParts, Cond.code yX1_markParts cX1_markParts 2 none, Cond.fieldLink RX1 37 "TheodoliteRow$Net" "stations" "I", Cond.fieldLink RX1 19 "TheodoliteRow$Net" "lowest" "[I", Cond.fieldLink RX1 22 "TheodoliteRow$Net" "from" "[I", Cond.fieldLink RX1 25 "TheodoliteRow$Net" "to" "[I", Cond.methodLink RX1 47 yX1_mergeParts, Cond.instanceMethod yX1_mergeParts, Cond.selects RX1 yX1_mergeParts yX1_mergeParts, Cond.code yX1_mergeParts cX1_mergeParts 6 none, Cond.methodLink RX1 51 Lib.Math.min.name, Cond.static Lib.Math.min.name, Cond.initialized "java/lang/Math", Cond.code Lib.Math.min.name Lib.Math.min.code 2 (some .int), Cond.methodLink RX1 57 Lib.Math.max.name, Cond.static Lib.Math.max.name, Cond.code Lib.Math.max.name Lib.Math.max.code 2 (some .int)]
def wsL_withdraw : List Cond := .codeWith yL_withdraw cL_withdraw 5 (some .int) [(0, 17, 20, 19)] :: ((wsL_withdraw_r1 ++ wsL_withdraw_r2) ++ wsX40 ++ wsX10 ++ (vx_atS RX4 167 "java/lang/IndexOutOfBoundsException" ["java/lang/RuntimeException", "java/lang/Exception"]).filter goodWord)
def wsL_clean_r1 : List Cond := [Cond.classLink RL 21 "java/lang/IllegalArgumentException", Cond.methodLink RL 31 yX4_clean, Cond.instanceMethod yX4_clean, Cond.selects RX4 yX4_clean yX4_clean, Cond.initialized RX4, Cond.code yX4_clean cX4_clean 4 (some .int), Cond.classLink RX4 62 "java/lang/IllegalArgumentException", Cond.initialized "java/lang/IllegalArgumentException", Cond.constant RX4 93 (1000000000), Cond.fieldLink RX4 21 "TheodoliteRow" "adjustment" "LTheodoliteRow$Adjustment;", Cond.fieldLink RX4 10 "TheodoliteRow" "net" "LTheodoliteRow$Net;", Cond.methodLink RX4 58 yX4_isBeyond, Cond.static yX4_isBeyond, Cond.code yX4_isBeyond cX4_isBeyond 3 (some .boolean), Cond.methodLink RX4 96 yX0_worstObservation, Cond.instanceMethod yX0_worstObservation, Cond.selects RX0 yX0_worstObservation yX0_worstObservation, Cond.initialized RX0, Cond.code yX0_worstObservation cX0_worstObservation 7 (some .int), Cond.fieldLink RX0 9 "TheodoliteRow$Adjustment" "net" "LTheodoliteRow$Net;", Cond.fieldLink RX0 79 "TheodoliteRow$Net" "observations" "I", Cond.fieldLink RX0 82 "TheodoliteRow$Net" "isWithdrawn" "[Z", Cond.methodLink RX0 86 yX0_scoreOf, Cond.instanceMethod yX0_scoreOf]
def wsL_clean_r2 : List Cond := [Cond.selects RX0 yX0_scoreOf yX0_scoreOf, Cond.code yX0_scoreOf cX0_scoreOf 7 (some .long), Cond.constantLong RX0 45 (100), Cond.methodLink RX0 70 Lib.MathLoose.abs_long.x, Cond.static Lib.MathLoose.abs_long.x, Cond.initialized "java/lang/Math", Cond.code Lib.MathLoose.abs_long.x Lib.MathLoose.abs_long.code 2 (some .long), Cond.fieldLink RX0 41 "TheodoliteRow$Adjustment" "treeWeight" "J", Cond.fieldLink RX0 76 "TheodoliteRow$Net" "weight" "[I", Cond.methodLink RX0 57 yX0_misfitOf, Cond.instanceMethod yX0_misfitOf, Cond.selects RX0 yX0_misfitOf yX0_misfitOf, Cond.code yX0_misfitOf cX0_misfitOf 3 (some .long), Cond.fieldLink RX0 60 "TheodoliteRow$Net" "from" "[I", Cond.fieldLink RX0 89 "TheodoliteRow$Net" "to" "[I", Cond.fieldLink RX0 92 "TheodoliteRow$Net" "difference" "[I", Cond.methodLink RX0 24 yX0_solve, Cond.instanceMethod yX0_solve, Cond.selects RX0 yX0_solve yX0_solve, Cond.code yX0_solve cX0_solve 4 none, Cond.fieldLink RX0 37 "TheodoliteRow$Adjustment" "datum" "I", Cond.methodLink RX0 97 yX1_datumOf, Cond.instanceMethod yX1_datumOf, Cond.selects RX1 yX1_datumOf yX1_datumOf]
def wsL_clean_r3 : List Cond := [Cond.initialized RX1, Cond.code yX1_datumOf cX1_datumOf 3 (some .int), Cond.fieldLink RX1 37 "TheodoliteRow$Net" "stations" "I", Cond.fieldLink RX1 9 "TheodoliteRow$Net" "isTold" "[Z", Cond.fieldLink RX1 19 "TheodoliteRow$Net" "lowest" "[I", Cond.methodLink RX1 60 yX1_areInOnePart, Cond.instanceMethod yX1_areInOnePart, Cond.selects RX1 yX1_areInOnePart yX1_areInOnePart, Cond.code yX1_areInOnePart cX1_areInOnePart 3 (some .boolean), Cond.methodLink RX0 101 yX0_numberUnknowns, Cond.instanceMethod yX0_numberUnknowns, Cond.selects RX0 yX0_numberUnknowns yX0_numberUnknowns, Cond.code yX0_numberUnknowns cX0_numberUnknowns 3 none, Cond.fieldLink RX0 54 "TheodoliteRow$Adjustment" "unknowns" "I", Cond.fieldLink RX0 51 "TheodoliteRow$Net" "stations" "I", Cond.fieldLink RX0 15 "TheodoliteRow$Adjustment" "rowOf" "[I", Cond.methodLink RX0 118 yX1_areInOnePart, Cond.methodLink RX0 104 yX0_clearCells, Cond.instanceMethod yX0_clearCells, Cond.selects RX0 yX0_clearCells yX0_clearCells, Cond.code yX0_clearCells cX0_clearCells 3 none, Cond.fieldLink RX0 21 "TheodoliteRow$Adjustment" "cells" "[[J", Cond.methodLink RX0 107 yX1_isInPartOf, Cond.instanceMethod yX1_isInPartOf]
def wsL_clean_r4 : List Cond := [Cond.selects RX1 yX1_isInPartOf yX1_isInPartOf, Cond.code yX1_isInPartOf cX1_isInPartOf 3 (some .boolean), Cond.fieldLink RX1 34 "TheodoliteRow$Net" "isWithdrawn" "[Z", Cond.fieldLink RX1 22 "TheodoliteRow$Net" "from" "[I", Cond.methodLink RX0 111 yX0_addToCells, Cond.instanceMethod yX0_addToCells, Cond.selects RX0 yX0_addToCells yX0_addToCells, Cond.code yX0_addToCells cX0_addToCells 8 none, Cond.methodLink RX0 121 yX0_addToRow, Cond.instanceMethod yX0_addToRow, Cond.selects RX0 yX0_addToRow yX0_addToRow, Cond.code yX0_addToRow cX0_addToRow 7 none, Cond.methodLink RX0 115 yX0_eliminate, Cond.instanceMethod yX0_eliminate, Cond.selects RX0 yX0_eliminate yX0_eliminate, Cond.code yX0_eliminate cX0_eliminate 7 none, Cond.methodLink RX0 125 yX0_clearColumn, Cond.instanceMethod yX0_clearColumn, Cond.selects RX0 yX0_clearColumn yX0_clearColumn, Cond.code yX0_clearColumn cX0_clearColumn 12 none, Cond.methodLink RX0 28 yX0_riseOf, Cond.instanceMethod yX0_riseOf, Cond.selects RX0 yX0_riseOf yX0_riseOf, Cond.code yX0_riseOf cX0_riseOf 3 (some .long)]
def wsL_clean_r5 : List Cond := [Cond.static yX4_roundedDown, Cond.code yX4_roundedDown cX4_roundedDown 4 (some .long), Cond.methodLink RX4 179 yJ9_floorDiv_f86c9, Cond.static yJ9_floorDiv_f86c9, Cond.initialized RJ9, Cond.code yJ9_floorDiv_f86c9 cJ9_floorDiv_f86c9 6 (some .long), Cond.methodLink RX0 66 yX0_checkAgainst, Cond.instanceMethod yX0_checkAgainst, Cond.selects RX0 yX0_checkAgainst yX0_checkAgainst, Cond.code yX0_checkAgainst cX0_checkAgainst 4 (some .int), Cond.constantLong RX0 95 (1000), Cond.methodLink RX4 99 yX0_scoreOf, Cond.methodLink RX4 89 yX1_setWithdrawn, Cond.instanceMethod yX1_setWithdrawn, Cond.selects RX1 yX1_setWithdrawn yX1_setWithdrawn, Cond.code yX1_setWithdrawn cX1_setWithdrawn 4 (some .boolean), Cond.methodLink RX1 44 yX1_markParts, Cond.instanceMethod yX1_markParts, Cond.selects RX1 yX1_markParts yX1_markParts, Cond.code yX1_markParts cX1_markParts 2 none, Cond.fieldLink RX1 41 "TheodoliteRow$Net" "observations" "I", Cond.fieldLink RX1 25 "TheodoliteRow$Net" "to" "[I", Cond.methodLink RX1 47 yX1_mergeParts, Cond.instanceMethod yX1_mergeParts]
def wsL_clean_r6 : List Cond := [Cond.selects RX1 yX1_mergeParts yX1_mergeParts, Cond.code yX1_mergeParts cX1_mergeParts 6 none, Cond.methodLink RX1 51 Lib.Math.min.name, Cond.static Lib.Math.min.name, Cond.code Lib.Math.min.name Lib.Math.min.code 2 (some .int), Cond.methodLink RX1 57 Lib.Math.max.name, Cond.static Lib.Math.max.name, Cond.code Lib.Math.max.name Lib.Math.max.code 2 (some .int)]
def wsL_clean : List Cond := .codeWith yL_clean cL_clean 4 (some .int) [(0, 9, 12, 21)] :: ((wsL_clean_r1 ++ (wsL_clean_r2 ++ (wsL_clean_r3 ++ (wsL_clean_r4 ++ (wsL_clean_r5 ++ wsL_clean_r6))))) ++ wsX40 ++ wsX00 ++ wsX10 ++ (vx_atS RX4 66 "java/lang/IllegalArgumentException" ["java/lang/RuntimeException", "java/lang/Exception"]).filter goodWord)
def wsL_go_r1 : List Cond := [Cond.classLink RL 19 "java/lang/IndexOutOfBoundsException", Cond.classLink RL 13 "java/lang/IllegalStateException", Cond.methodLink RL 35 yX4_go, Cond.instanceMethod yX4_go, Cond.selects RX4 yX4_go yX4_go, Cond.initialized RX4, Cond.code yX4_go cX4_go 3 (some .int), Cond.classLink RX4 43 "java/lang/IllegalStateException", Cond.initialized "java/lang/IllegalStateException", Cond.fieldLink RX4 35 "TheodoliteRow" "path" "LTheodoliteRow$Path;", Cond.fieldLink RX4 103 "TheodoliteRow$Path" "length" "I", Cond.fieldLink RX4 10 "TheodoliteRow" "net" "LTheodoliteRow$Net;", Cond.fieldLink RX4 112 "TheodoliteRow$Path" "last" "I", Cond.methodLink RX4 54 yX4_needStation, Cond.instanceMethod yX4_needStation, Cond.selects RX4 yX4_needStation yX4_needStation, Cond.code yX4_needStation cX4_needStation 2 none, Cond.classLink RX4 163 "java/lang/IndexOutOfBoundsException", Cond.initialized "java/lang/IndexOutOfBoundsException", Cond.methodLink RX4 159 yX1_hasStation, Cond.instanceMethod yX1_hasStation, Cond.selects RX1 yX1_hasStation yX1_hasStation, Cond.initialized RX1, Cond.code yX1_hasStation cX1_hasStation 2 (some .boolean)]
def wsL_go_r2 : List Cond := [Cond.fieldLink RX1 37 "TheodoliteRow$Net" "stations" "I", Cond.methodLink RX4 108 yX2_begin, Cond.instanceMethod yX2_begin, Cond.selects RX2 yX2_begin yX2_begin, Cond.initialized RX2, Cond.code yX2_begin cX2_begin 2 (some .int), Cond.fieldLink RX2 13 "TheodoliteRow$Path" "first" "I", Cond.fieldLink RX2 16 "TheodoliteRow$Path" "last" "I", Cond.fieldLink RX2 7 "TheodoliteRow$Path" "length" "I", Cond.methodLink RX4 115 yX1_lowestBetween, Cond.instanceMethod yX1_lowestBetween, Cond.selects RX1 yX1_lowestBetween yX1_lowestBetween, Cond.code yX1_lowestBetween cX1_lowestBetween 6 (some .int), Cond.fieldLink RX1 41 "TheodoliteRow$Net" "observations" "I", Cond.fieldLink RX1 22 "TheodoliteRow$Net" "from" "[I", Cond.fieldLink RX1 25 "TheodoliteRow$Net" "to" "[I", Cond.fieldLink RX1 34 "TheodoliteRow$Net" "isWithdrawn" "[Z", Cond.methodLink RX4 121 yX1_differenceFrom, Cond.instanceMethod yX1_differenceFrom, Cond.selects RX1 yX1_differenceFrom yX1_differenceFrom, Cond.code yX1_differenceFrom cX1_differenceFrom 3 (some .int), Cond.fieldLink RX1 28 "TheodoliteRow$Net" "difference" "[I", Cond.methodLink RX4 124 yX2_goOn, Cond.instanceMethod yX2_goOn]
def wsL_go_r3 : List Cond := [Cond.selects RX2 yX2_goOn yX2_goOn, Cond.code yX2_goOn cX2_goOn 3 (some .int), Cond.fieldLink RX2 19 "TheodoliteRow$Path" "total" "I"]
def wsL_go : List Cond := .codeWith yL_go cL_go 4 (some .int) [(0, 9, 12, 19), (0, 9, 15, 13)] :: ((wsL_go_r1 ++ (wsL_go_r2 ++ wsL_go_r3)) ++ wsX40 ++ wsX20 ++ wsX10 ++ (vx_atS RX4 47 "java/lang/IllegalStateException" ["java/lang/RuntimeException", "java/lang/Exception"]).filter goodWord ++ (vx_atS RX4 167 "java/lang/IndexOutOfBoundsException" ["java/lang/RuntimeException", "java/lang/Exception"]).filter goodWord)
def wsL_height_r1 : List Cond := [Cond.classLink RL 19 "java/lang/IndexOutOfBoundsException", Cond.methodLink RL 38 yX4_height, Cond.instanceMethod yX4_height, Cond.selects RX4 yX4_height yX4_height, Cond.initialized RX4, Cond.code yX4_height cX4_height 2 (some .long), Cond.fieldLink RX4 21 "TheodoliteRow" "adjustment" "LTheodoliteRow$Adjustment;", Cond.methodLink RX4 54 yX4_needStation, Cond.instanceMethod yX4_needStation, Cond.selects RX4 yX4_needStation yX4_needStation, Cond.code yX4_needStation cX4_needStation 2 none, Cond.classLink RX4 163 "java/lang/IndexOutOfBoundsException", Cond.initialized "java/lang/IndexOutOfBoundsException", Cond.fieldLink RX4 10 "TheodoliteRow" "net" "LTheodoliteRow$Net;", Cond.methodLink RX4 159 yX1_hasStation, Cond.instanceMethod yX1_hasStation, Cond.selects RX1 yX1_hasStation yX1_hasStation, Cond.initialized RX1, Cond.code yX1_hasStation cX1_hasStation 2 (some .boolean), Cond.fieldLink RX1 37 "TheodoliteRow$Net" "stations" "I", Cond.methodLink RX4 136 yX0_heightOf, Cond.instanceMethod yX0_heightOf, Cond.selects RX0 yX0_heightOf yX0_heightOf, Cond.initialized RX0]
def wsL_height_r2 : List Cond := [Cond.code yX0_heightOf cX0_heightOf 4 (some .long), Cond.fieldLink RX0 9 "TheodoliteRow$Adjustment" "net" "LTheodoliteRow$Net;", Cond.fieldLink RX0 32 "TheodoliteRow$Net" "toldHeight" "[I", Cond.fieldLink RX0 37 "TheodoliteRow$Adjustment" "datum" "I", Cond.fieldLink RX0 41 "TheodoliteRow$Adjustment" "treeWeight" "J", Cond.constantLong RX0 45 (100), Cond.methodLink RX0 24 yX0_solve, Cond.instanceMethod yX0_solve, Cond.selects RX0 yX0_solve yX0_solve, Cond.code yX0_solve cX0_solve 4 none, Cond.fieldLink RX0 79 "TheodoliteRow$Net" "observations" "I", Cond.methodLink RX0 97 yX1_datumOf, Cond.instanceMethod yX1_datumOf, Cond.selects RX1 yX1_datumOf yX1_datumOf, Cond.code yX1_datumOf cX1_datumOf 3 (some .int), Cond.fieldLink RX1 9 "TheodoliteRow$Net" "isTold" "[Z", Cond.fieldLink RX1 19 "TheodoliteRow$Net" "lowest" "[I", Cond.methodLink RX1 60 yX1_areInOnePart, Cond.instanceMethod yX1_areInOnePart, Cond.selects RX1 yX1_areInOnePart yX1_areInOnePart, Cond.code yX1_areInOnePart cX1_areInOnePart 3 (some .boolean), Cond.methodLink RX0 101 yX0_numberUnknowns, Cond.instanceMethod yX0_numberUnknowns, Cond.selects RX0 yX0_numberUnknowns yX0_numberUnknowns]
def wsL_height_r3 : List Cond := [Cond.code yX0_numberUnknowns cX0_numberUnknowns 3 none, Cond.fieldLink RX0 54 "TheodoliteRow$Adjustment" "unknowns" "I", Cond.fieldLink RX0 51 "TheodoliteRow$Net" "stations" "I", Cond.fieldLink RX0 15 "TheodoliteRow$Adjustment" "rowOf" "[I", Cond.methodLink RX0 118 yX1_areInOnePart, Cond.methodLink RX0 104 yX0_clearCells, Cond.instanceMethod yX0_clearCells, Cond.selects RX0 yX0_clearCells yX0_clearCells, Cond.code yX0_clearCells cX0_clearCells 3 none, Cond.fieldLink RX0 21 "TheodoliteRow$Adjustment" "cells" "[[J", Cond.methodLink RX0 107 yX1_isInPartOf, Cond.instanceMethod yX1_isInPartOf, Cond.selects RX1 yX1_isInPartOf yX1_isInPartOf, Cond.code yX1_isInPartOf cX1_isInPartOf 3 (some .boolean), Cond.fieldLink RX1 34 "TheodoliteRow$Net" "isWithdrawn" "[Z", Cond.fieldLink RX1 22 "TheodoliteRow$Net" "from" "[I", Cond.methodLink RX0 111 yX0_addToCells, Cond.instanceMethod yX0_addToCells, Cond.selects RX0 yX0_addToCells yX0_addToCells, Cond.code yX0_addToCells cX0_addToCells 8 none, Cond.fieldLink RX0 60 "TheodoliteRow$Net" "from" "[I", Cond.fieldLink RX0 89 "TheodoliteRow$Net" "to" "[I", Cond.fieldLink RX0 76 "TheodoliteRow$Net" "weight" "[I", Cond.fieldLink RX0 92 "TheodoliteRow$Net" "difference" "[I"]
def wsL_height_r4 : List Cond := [Cond.methodLink RX0 121 yX0_addToRow, Cond.instanceMethod yX0_addToRow, Cond.selects RX0 yX0_addToRow yX0_addToRow, Cond.code yX0_addToRow cX0_addToRow 7 none, Cond.methodLink RX0 115 yX0_eliminate, Cond.instanceMethod yX0_eliminate, Cond.selects RX0 yX0_eliminate yX0_eliminate, Cond.code yX0_eliminate cX0_eliminate 7 none, Cond.methodLink RX0 125 yX0_clearColumn, Cond.instanceMethod yX0_clearColumn, Cond.selects RX0 yX0_clearColumn yX0_clearColumn, Cond.code yX0_clearColumn cX0_clearColumn 12 none, Cond.methodLink RX0 28 yX0_riseOf, Cond.instanceMethod yX0_riseOf, Cond.selects RX0 yX0_riseOf yX0_riseOf, Cond.code yX0_riseOf cX0_riseOf 3 (some .long), Cond.static yX4_roundedDown, Cond.code yX4_roundedDown cX4_roundedDown 4 (some .long), Cond.methodLink RX4 179 yJ9_floorDiv_f86c9, Cond.static yJ9_floorDiv_f86c9, Cond.initialized RJ9, Cond.code yJ9_floorDiv_f86c9 cJ9_floorDiv_f86c9 6 (some .long)]
def wsL_height : List Cond := .codeWith yL_height cL_height 4 (some .int) [(0, 8, 11, 19)] :: ((wsL_height_r1 ++ (wsL_height_r2 ++ (wsL_height_r3 ++ wsL_height_r4))) ++ wsX40 ++ wsX10 ++ wsX00 ++ (vx_atS RX4 167 "java/lang/IndexOutOfBoundsException" ["java/lang/RuntimeException", "java/lang/Exception"]).filter goodWord)
def wsL_heightAnew_r1 : List Cond := [Cond.classLink RL 19 "java/lang/IndexOutOfBoundsException", Cond.methodLink RL 42 yX4_heightAnew, Cond.instanceMethod yX4_heightAnew, Cond.selects RX4 yX4_heightAnew yX4_heightAnew, Cond.initialized RX4, Cond.code yX4_heightAnew cX4_heightAnew 2 (some .long), Cond.fieldLink RX4 28 "TheodoliteRow" "treeWalk" "LTheodoliteRow$TreeWalk;", Cond.methodLink RX4 54 yX4_needStation, Cond.instanceMethod yX4_needStation, Cond.selects RX4 yX4_needStation yX4_needStation, Cond.code yX4_needStation cX4_needStation 2 none, Cond.classLink RX4 163 "java/lang/IndexOutOfBoundsException", Cond.initialized "java/lang/IndexOutOfBoundsException", Cond.fieldLink RX4 10 "TheodoliteRow" "net" "LTheodoliteRow$Net;", Cond.methodLink RX4 159 yX1_hasStation, Cond.instanceMethod yX1_hasStation, Cond.selects RX1 yX1_hasStation yX1_hasStation, Cond.initialized RX1, Cond.code yX1_hasStation cX1_hasStation 2 (some .boolean), Cond.fieldLink RX1 37 "TheodoliteRow$Net" "stations" "I", Cond.methodLink RX4 139 yX3_heightOf, Cond.instanceMethod yX3_heightOf, Cond.selects RX3 yX3_heightOf yX3_heightOf, Cond.initialized RX3]
def wsL_heightAnew_r2 : List Cond := [Cond.code yX3_heightOf cX3_heightOf 4 (some .long), Cond.fieldLink RX3 27 "TheodoliteRow$TreeWalk" "weightedRises" "J", Cond.fieldLink RX3 9 "TheodoliteRow$TreeWalk" "net" "LTheodoliteRow$Net;", Cond.fieldLink RX3 31 "TheodoliteRow$Net" "toldHeight" "[I", Cond.fieldLink RX3 37 "TheodoliteRow$TreeWalk" "datum" "I", Cond.fieldLink RX3 41 "TheodoliteRow$TreeWalk" "weightOfAll" "J", Cond.constantLong RX3 44 (100), Cond.methodLink RX3 23 yX3_walk, Cond.instanceMethod yX3_walk, Cond.selects RX3 yX3_walk yX3_walk, Cond.code yX3_walk cX3_walk 4 none, Cond.fieldLink RX3 58 "TheodoliteRow$TreeWalk" "askedStation" "I", Cond.fieldLink RX3 61 "TheodoliteRow$TreeWalk" "askedObservation" "I", Cond.fieldLink RX3 71 "TheodoliteRow$TreeWalk" "branches" "I", Cond.fieldLink RX3 55 "TheodoliteRow$TreeWalk" "weightOfThoseWithAsked" "J", Cond.fieldLink RX3 74 "TheodoliteRow$Net" "stations" "I", Cond.fieldLink RX3 17 "TheodoliteRow$TreeWalk" "piece" "[[I", Cond.fieldLink RX3 20 "TheodoliteRow$TreeWalk" "rise" "[[I", Cond.methodLink RX3 64 yX1_datumOf, Cond.instanceMethod yX1_datumOf, Cond.selects RX1 yX1_datumOf yX1_datumOf, Cond.code yX1_datumOf cX1_datumOf 3 (some .int), Cond.fieldLink RX1 9 "TheodoliteRow$Net" "isTold" "[Z", Cond.fieldLink RX1 19 "TheodoliteRow$Net" "lowest" "[I"]
def wsL_heightAnew_r3 : List Cond := [Cond.methodLink RX1 60 yX1_areInOnePart, Cond.instanceMethod yX1_areInOnePart, Cond.selects RX1 yX1_areInOnePart yX1_areInOnePart, Cond.code yX1_areInOnePart cX1_areInOnePart 3 (some .boolean), Cond.methodLink RX3 68 yX1_countStationsWith, Cond.instanceMethod yX1_countStationsWith, Cond.selects RX1 yX1_countStationsWith yX1_countStationsWith, Cond.code yX1_countStationsWith cX1_countStationsWith 4 (some .int), Cond.methodLink RX3 77 yX3_grow, Cond.static yX3_grow, Cond.code yX3_grow cX3_grow 8 none, Cond.fieldLink RX3 85 "TheodoliteRow$Net" "observations" "I", Cond.fieldLink RX3 95 "TheodoliteRow$Net" "weight" "[I", Cond.methodLink RX3 81 yX3_countTree, Cond.instanceMethod yX3_countTree, Cond.selects RX3 yX3_countTree yX3_countTree, Cond.code yX3_countTree cX3_countTree 5 none, Cond.methodLink RX3 88 yX3_joinsPieces, Cond.instanceMethod yX3_joinsPieces, Cond.selects RX3 yX3_joinsPieces yX3_joinsPieces, Cond.code yX3_joinsPieces cX3_joinsPieces 3 (some .boolean), Cond.fieldLink RX3 50 "TheodoliteRow$Net" "from" "[I", Cond.fieldLink RX3 101 "TheodoliteRow$Net" "to" "[I", Cond.methodLink RX3 98 yX1_isInPartOf]
def wsL_heightAnew_r4 : List Cond := [Cond.instanceMethod yX1_isInPartOf, Cond.selects RX1 yX1_isInPartOf yX1_isInPartOf, Cond.code yX1_isInPartOf cX1_isInPartOf 3 (some .boolean), Cond.fieldLink RX1 34 "TheodoliteRow$Net" "isWithdrawn" "[Z", Cond.fieldLink RX1 22 "TheodoliteRow$Net" "from" "[I", Cond.methodLink RX3 92 yX3_joinPieces, Cond.instanceMethod yX3_joinPieces, Cond.selects RX3 yX3_joinPieces yX3_joinPieces, Cond.code yX3_joinPieces cX3_joinPieces 8 none, Cond.fieldLink RX3 104 "TheodoliteRow$Net" "difference" "[I", Cond.static yX4_roundedDown, Cond.code yX4_roundedDown cX4_roundedDown 4 (some .long), Cond.methodLink RX4 179 yJ9_floorDiv_f86c9, Cond.static yJ9_floorDiv_f86c9, Cond.initialized RJ9, Cond.code yJ9_floorDiv_f86c9 cJ9_floorDiv_f86c9 6 (some .long)]
def wsL_heightAnew : List Cond := .codeWith yL_heightAnew cL_heightAnew 4 (some .int) [(0, 8, 11, 19)] :: ((wsL_heightAnew_r1 ++ (wsL_heightAnew_r2 ++ (wsL_heightAnew_r3 ++ wsL_heightAnew_r4))) ++ wsX40 ++ wsX10 ++ wsX30 ++ (vx_atS RX4 167 "java/lang/IndexOutOfBoundsException" ["java/lang/RuntimeException", "java/lang/Exception"]).filter goodWord)
def wsL_free_r1 : List Cond := [Cond.classLink RL 19 "java/lang/IndexOutOfBoundsException", Cond.methodLink RL 45 yX4_free, Cond.instanceMethod yX4_free, Cond.selects RX4 yX4_free yX4_free, Cond.initialized RX4, Cond.code yX4_free cX4_free 2 (some .long), Cond.fieldLink RX4 21 "TheodoliteRow" "adjustment" "LTheodoliteRow$Adjustment;", Cond.methodLink RX4 54 yX4_needStation, Cond.instanceMethod yX4_needStation, Cond.selects RX4 yX4_needStation yX4_needStation, Cond.code yX4_needStation cX4_needStation 2 none, Cond.classLink RX4 163 "java/lang/IndexOutOfBoundsException", Cond.initialized "java/lang/IndexOutOfBoundsException", Cond.fieldLink RX4 10 "TheodoliteRow" "net" "LTheodoliteRow$Net;", Cond.methodLink RX4 159 yX1_hasStation, Cond.instanceMethod yX1_hasStation, Cond.selects RX1 yX1_hasStation yX1_hasStation, Cond.initialized RX1, Cond.code yX1_hasStation cX1_hasStation 2 (some .boolean), Cond.fieldLink RX1 37 "TheodoliteRow$Net" "stations" "I", Cond.methodLink RX4 140 yX0_freeHeightOf, Cond.instanceMethod yX0_freeHeightOf, Cond.selects RX0 yX0_freeHeightOf yX0_freeHeightOf, Cond.initialized RX0]
def wsL_free_r2 : List Cond := [Cond.code yX0_freeHeightOf cX0_freeHeightOf 6 (some .long), Cond.fieldLink RX0 9 "TheodoliteRow$Adjustment" "net" "LTheodoliteRow$Net;", Cond.fieldLink RX0 51 "TheodoliteRow$Net" "stations" "I", Cond.fieldLink RX0 54 "TheodoliteRow$Adjustment" "unknowns" "I", Cond.constantLong RX0 45 (100), Cond.fieldLink RX0 41 "TheodoliteRow$Adjustment" "treeWeight" "J", Cond.methodLink RX0 24 yX0_solve, Cond.instanceMethod yX0_solve, Cond.selects RX0 yX0_solve yX0_solve, Cond.code yX0_solve cX0_solve 4 none, Cond.fieldLink RX0 37 "TheodoliteRow$Adjustment" "datum" "I", Cond.fieldLink RX0 79 "TheodoliteRow$Net" "observations" "I", Cond.methodLink RX0 97 yX1_datumOf, Cond.instanceMethod yX1_datumOf, Cond.selects RX1 yX1_datumOf yX1_datumOf, Cond.code yX1_datumOf cX1_datumOf 3 (some .int), Cond.fieldLink RX1 9 "TheodoliteRow$Net" "isTold" "[Z", Cond.fieldLink RX1 19 "TheodoliteRow$Net" "lowest" "[I", Cond.methodLink RX1 60 yX1_areInOnePart, Cond.instanceMethod yX1_areInOnePart, Cond.selects RX1 yX1_areInOnePart yX1_areInOnePart, Cond.code yX1_areInOnePart cX1_areInOnePart 3 (some .boolean), Cond.methodLink RX0 101 yX0_numberUnknowns, Cond.instanceMethod yX0_numberUnknowns]
def wsL_free_r3 : List Cond := [Cond.selects RX0 yX0_numberUnknowns yX0_numberUnknowns, Cond.code yX0_numberUnknowns cX0_numberUnknowns 3 none, Cond.fieldLink RX0 15 "TheodoliteRow$Adjustment" "rowOf" "[I", Cond.methodLink RX0 118 yX1_areInOnePart, Cond.methodLink RX0 104 yX0_clearCells, Cond.instanceMethod yX0_clearCells, Cond.selects RX0 yX0_clearCells yX0_clearCells, Cond.code yX0_clearCells cX0_clearCells 3 none, Cond.fieldLink RX0 21 "TheodoliteRow$Adjustment" "cells" "[[J", Cond.methodLink RX0 107 yX1_isInPartOf, Cond.instanceMethod yX1_isInPartOf, Cond.selects RX1 yX1_isInPartOf yX1_isInPartOf, Cond.code yX1_isInPartOf cX1_isInPartOf 3 (some .boolean), Cond.fieldLink RX1 34 "TheodoliteRow$Net" "isWithdrawn" "[Z", Cond.fieldLink RX1 22 "TheodoliteRow$Net" "from" "[I", Cond.methodLink RX0 111 yX0_addToCells, Cond.instanceMethod yX0_addToCells, Cond.selects RX0 yX0_addToCells yX0_addToCells, Cond.code yX0_addToCells cX0_addToCells 8 none, Cond.fieldLink RX0 60 "TheodoliteRow$Net" "from" "[I", Cond.fieldLink RX0 89 "TheodoliteRow$Net" "to" "[I", Cond.fieldLink RX0 76 "TheodoliteRow$Net" "weight" "[I", Cond.fieldLink RX0 92 "TheodoliteRow$Net" "difference" "[I", Cond.methodLink RX0 121 yX0_addToRow]
def wsL_free_r4 : List Cond := [Cond.instanceMethod yX0_addToRow, Cond.selects RX0 yX0_addToRow yX0_addToRow, Cond.code yX0_addToRow cX0_addToRow 7 none, Cond.methodLink RX0 115 yX0_eliminate, Cond.instanceMethod yX0_eliminate, Cond.selects RX0 yX0_eliminate yX0_eliminate, Cond.code yX0_eliminate cX0_eliminate 7 none, Cond.methodLink RX0 125 yX0_clearColumn, Cond.instanceMethod yX0_clearColumn, Cond.selects RX0 yX0_clearColumn yX0_clearColumn, Cond.code yX0_clearColumn cX0_clearColumn 12 none, Cond.methodLink RX0 28 yX0_riseOf, Cond.instanceMethod yX0_riseOf, Cond.selects RX0 yX0_riseOf yX0_riseOf, Cond.code yX0_riseOf cX0_riseOf 3 (some .long), Cond.static yX4_roundedDown, Cond.code yX4_roundedDown cX4_roundedDown 4 (some .long), Cond.methodLink RX4 179 yJ9_floorDiv_f86c9, Cond.static yJ9_floorDiv_f86c9, Cond.initialized RJ9, Cond.code yJ9_floorDiv_f86c9 cJ9_floorDiv_f86c9 6 (some .long)]
def wsL_free : List Cond := .codeWith yL_free cL_free 4 (some .int) [(0, 8, 11, 19)] :: ((wsL_free_r1 ++ (wsL_free_r2 ++ (wsL_free_r3 ++ wsL_free_r4))) ++ wsX40 ++ wsX10 ++ wsX00 ++ (vx_atS RX4 167 "java/lang/IndexOutOfBoundsException" ["java/lang/RuntimeException", "java/lang/Exception"]).filter goodWord)
def wsL_residual_r1 : List Cond := [Cond.classLink RL 19 "java/lang/IndexOutOfBoundsException", Cond.classLink RL 13 "java/lang/IllegalStateException", Cond.methodLink RL 48 yX4_residual, Cond.instanceMethod yX4_residual, Cond.selects RX4 yX4_residual yX4_residual, Cond.initialized RX4, Cond.code yX4_residual cX4_residual 2 (some .long), Cond.fieldLink RX4 21 "TheodoliteRow" "adjustment" "LTheodoliteRow$Adjustment;", Cond.methodLink RX4 143 yX4_needObservationInNet, Cond.instanceMethod yX4_needObservationInNet, Cond.selects RX4 yX4_needObservationInNet yX4_needObservationInNet, Cond.code yX4_needObservationInNet cX4_needObservationInNet 2 none, Cond.classLink RX4 43 "java/lang/IllegalStateException", Cond.initialized "java/lang/IllegalStateException", Cond.fieldLink RX4 10 "TheodoliteRow" "net" "LTheodoliteRow$Net;", Cond.fieldLink RX4 173 "TheodoliteRow$Net" "isWithdrawn" "[Z", Cond.methodLink RX4 86 yX4_needObservation, Cond.instanceMethod yX4_needObservation, Cond.selects RX4 yX4_needObservation yX4_needObservation, Cond.code yX4_needObservation cX4_needObservation 2 none, Cond.classLink RX4 163 "java/lang/IndexOutOfBoundsException", Cond.initialized "java/lang/IndexOutOfBoundsException", Cond.methodLink RX4 168 yX1_hasObservation, Cond.instanceMethod yX1_hasObservation]
def wsL_residual_r2 : List Cond := [Cond.selects RX1 yX1_hasObservation yX1_hasObservation, Cond.initialized RX1, Cond.code yX1_hasObservation cX1_hasObservation 2 (some .boolean), Cond.fieldLink RX1 41 "TheodoliteRow$Net" "observations" "I", Cond.methodLink RX4 146 yX0_residualOf, Cond.instanceMethod yX0_residualOf, Cond.selects RX0 yX0_residualOf yX0_residualOf, Cond.initialized RX0, Cond.code yX0_residualOf cX0_residualOf 4 (some .long), Cond.constantLong RX0 45 (100), Cond.fieldLink RX0 41 "TheodoliteRow$Adjustment" "treeWeight" "J", Cond.methodLink RX0 57 yX0_misfitOf, Cond.instanceMethod yX0_misfitOf, Cond.selects RX0 yX0_misfitOf yX0_misfitOf, Cond.code yX0_misfitOf cX0_misfitOf 3 (some .long), Cond.fieldLink RX0 9 "TheodoliteRow$Adjustment" "net" "LTheodoliteRow$Net;", Cond.fieldLink RX0 60 "TheodoliteRow$Net" "from" "[I", Cond.fieldLink RX0 89 "TheodoliteRow$Net" "to" "[I", Cond.fieldLink RX0 92 "TheodoliteRow$Net" "difference" "[I", Cond.methodLink RX0 24 yX0_solve, Cond.instanceMethod yX0_solve, Cond.selects RX0 yX0_solve yX0_solve, Cond.code yX0_solve cX0_solve 4 none, Cond.fieldLink RX0 37 "TheodoliteRow$Adjustment" "datum" "I"]
def wsL_residual_r3 : List Cond := [Cond.fieldLink RX0 79 "TheodoliteRow$Net" "observations" "I", Cond.methodLink RX0 97 yX1_datumOf, Cond.instanceMethod yX1_datumOf, Cond.selects RX1 yX1_datumOf yX1_datumOf, Cond.code yX1_datumOf cX1_datumOf 3 (some .int), Cond.fieldLink RX1 37 "TheodoliteRow$Net" "stations" "I", Cond.fieldLink RX1 9 "TheodoliteRow$Net" "isTold" "[Z", Cond.fieldLink RX1 19 "TheodoliteRow$Net" "lowest" "[I", Cond.methodLink RX1 60 yX1_areInOnePart, Cond.instanceMethod yX1_areInOnePart, Cond.selects RX1 yX1_areInOnePart yX1_areInOnePart, Cond.code yX1_areInOnePart cX1_areInOnePart 3 (some .boolean), Cond.methodLink RX0 101 yX0_numberUnknowns, Cond.instanceMethod yX0_numberUnknowns, Cond.selects RX0 yX0_numberUnknowns yX0_numberUnknowns, Cond.code yX0_numberUnknowns cX0_numberUnknowns 3 none, Cond.fieldLink RX0 54 "TheodoliteRow$Adjustment" "unknowns" "I", Cond.fieldLink RX0 51 "TheodoliteRow$Net" "stations" "I", Cond.fieldLink RX0 15 "TheodoliteRow$Adjustment" "rowOf" "[I", Cond.methodLink RX0 118 yX1_areInOnePart, Cond.methodLink RX0 104 yX0_clearCells, Cond.instanceMethod yX0_clearCells, Cond.selects RX0 yX0_clearCells yX0_clearCells, Cond.code yX0_clearCells cX0_clearCells 3 none]
def wsL_residual_r4 : List Cond := [Cond.fieldLink RX0 21 "TheodoliteRow$Adjustment" "cells" "[[J", Cond.methodLink RX0 107 yX1_isInPartOf, Cond.instanceMethod yX1_isInPartOf, Cond.selects RX1 yX1_isInPartOf yX1_isInPartOf, Cond.code yX1_isInPartOf cX1_isInPartOf 3 (some .boolean), Cond.fieldLink RX1 34 "TheodoliteRow$Net" "isWithdrawn" "[Z", Cond.fieldLink RX1 22 "TheodoliteRow$Net" "from" "[I", Cond.methodLink RX0 111 yX0_addToCells, Cond.instanceMethod yX0_addToCells, Cond.selects RX0 yX0_addToCells yX0_addToCells, Cond.code yX0_addToCells cX0_addToCells 8 none, Cond.fieldLink RX0 76 "TheodoliteRow$Net" "weight" "[I", Cond.methodLink RX0 121 yX0_addToRow, Cond.instanceMethod yX0_addToRow, Cond.selects RX0 yX0_addToRow yX0_addToRow, Cond.code yX0_addToRow cX0_addToRow 7 none, Cond.methodLink RX0 115 yX0_eliminate, Cond.instanceMethod yX0_eliminate, Cond.selects RX0 yX0_eliminate yX0_eliminate, Cond.code yX0_eliminate cX0_eliminate 7 none, Cond.methodLink RX0 125 yX0_clearColumn, Cond.instanceMethod yX0_clearColumn, Cond.selects RX0 yX0_clearColumn yX0_clearColumn, Cond.code yX0_clearColumn cX0_clearColumn 12 none]
def wsL_residual_r5 : List Cond := [Cond.methodLink RX0 28 yX0_riseOf, Cond.instanceMethod yX0_riseOf, Cond.selects RX0 yX0_riseOf yX0_riseOf, Cond.code yX0_riseOf cX0_riseOf 3 (some .long), Cond.static yX4_roundedDown, Cond.code yX4_roundedDown cX4_roundedDown 4 (some .long), Cond.methodLink RX4 179 yJ9_floorDiv_f86c9, Cond.static yJ9_floorDiv_f86c9, Cond.initialized RJ9, Cond.code yJ9_floorDiv_f86c9 cJ9_floorDiv_f86c9 6 (some .long)]
def wsL_residual : List Cond := .codeWith yL_residual cL_residual 4 (some .int) [(0, 8, 11, 19), (0, 8, 14, 13)] :: ((wsL_residual_r1 ++ (wsL_residual_r2 ++ (wsL_residual_r3 ++ (wsL_residual_r4 ++ wsL_residual_r5)))) ++ wsX40 ++ wsX10 ++ wsX00 ++ (vx_atS RX4 47 "java/lang/IllegalStateException" ["java/lang/RuntimeException", "java/lang/Exception"]).filter goodWord ++ (vx_atS RX4 167 "java/lang/IndexOutOfBoundsException" ["java/lang/RuntimeException", "java/lang/Exception"]).filter goodWord)
def wsL_check_r1 : List Cond := [Cond.classLink RL 19 "java/lang/IndexOutOfBoundsException", Cond.classLink RL 13 "java/lang/IllegalStateException", Cond.methodLink RL 51 yX4_check, Cond.instanceMethod yX4_check, Cond.selects RX4 yX4_check yX4_check, Cond.initialized RX4, Cond.code yX4_check cX4_check 2 (some .int), Cond.fieldLink RX4 21 "TheodoliteRow" "adjustment" "LTheodoliteRow$Adjustment;", Cond.methodLink RX4 143 yX4_needObservationInNet, Cond.instanceMethod yX4_needObservationInNet, Cond.selects RX4 yX4_needObservationInNet yX4_needObservationInNet, Cond.code yX4_needObservationInNet cX4_needObservationInNet 2 none, Cond.classLink RX4 43 "java/lang/IllegalStateException", Cond.initialized "java/lang/IllegalStateException", Cond.fieldLink RX4 10 "TheodoliteRow" "net" "LTheodoliteRow$Net;", Cond.fieldLink RX4 173 "TheodoliteRow$Net" "isWithdrawn" "[Z", Cond.methodLink RX4 86 yX4_needObservation, Cond.instanceMethod yX4_needObservation, Cond.selects RX4 yX4_needObservation yX4_needObservation, Cond.code yX4_needObservation cX4_needObservation 2 none, Cond.classLink RX4 163 "java/lang/IndexOutOfBoundsException", Cond.initialized "java/lang/IndexOutOfBoundsException", Cond.methodLink RX4 168 yX1_hasObservation, Cond.instanceMethod yX1_hasObservation]
def wsL_check_r2 : List Cond := [Cond.selects RX1 yX1_hasObservation yX1_hasObservation, Cond.initialized RX1, Cond.code yX1_hasObservation cX1_hasObservation 2 (some .boolean), Cond.fieldLink RX1 41 "TheodoliteRow$Net" "observations" "I", Cond.methodLink RX4 149 yX0_checkOf, Cond.instanceMethod yX0_checkOf, Cond.selects RX0 yX0_checkOf yX0_checkOf, Cond.initialized RX0, Cond.code yX0_checkOf cX0_checkOf 2 (some .int), Cond.fieldLink RX0 9 "TheodoliteRow$Adjustment" "net" "LTheodoliteRow$Net;", Cond.fieldLink RX0 60 "TheodoliteRow$Net" "from" "[I", Cond.methodLink RX0 63 yX0_treeWeightOf, Cond.instanceMethod yX0_treeWeightOf, Cond.selects RX0 yX0_treeWeightOf yX0_treeWeightOf, Cond.code yX0_treeWeightOf cX0_treeWeightOf 2 (some .long), Cond.fieldLink RX0 41 "TheodoliteRow$Adjustment" "treeWeight" "J", Cond.methodLink RX0 24 yX0_solve, Cond.instanceMethod yX0_solve, Cond.selects RX0 yX0_solve yX0_solve, Cond.code yX0_solve cX0_solve 4 none, Cond.fieldLink RX0 37 "TheodoliteRow$Adjustment" "datum" "I", Cond.fieldLink RX0 79 "TheodoliteRow$Net" "observations" "I", Cond.methodLink RX0 97 yX1_datumOf, Cond.instanceMethod yX1_datumOf]
def wsL_check_r3 : List Cond := [Cond.selects RX1 yX1_datumOf yX1_datumOf, Cond.code yX1_datumOf cX1_datumOf 3 (some .int), Cond.fieldLink RX1 37 "TheodoliteRow$Net" "stations" "I", Cond.fieldLink RX1 9 "TheodoliteRow$Net" "isTold" "[Z", Cond.fieldLink RX1 19 "TheodoliteRow$Net" "lowest" "[I", Cond.methodLink RX1 60 yX1_areInOnePart, Cond.instanceMethod yX1_areInOnePart, Cond.selects RX1 yX1_areInOnePart yX1_areInOnePart, Cond.code yX1_areInOnePart cX1_areInOnePart 3 (some .boolean), Cond.methodLink RX0 101 yX0_numberUnknowns, Cond.instanceMethod yX0_numberUnknowns, Cond.selects RX0 yX0_numberUnknowns yX0_numberUnknowns, Cond.code yX0_numberUnknowns cX0_numberUnknowns 3 none, Cond.fieldLink RX0 54 "TheodoliteRow$Adjustment" "unknowns" "I", Cond.fieldLink RX0 51 "TheodoliteRow$Net" "stations" "I", Cond.fieldLink RX0 15 "TheodoliteRow$Adjustment" "rowOf" "[I", Cond.methodLink RX0 118 yX1_areInOnePart, Cond.methodLink RX0 104 yX0_clearCells, Cond.instanceMethod yX0_clearCells, Cond.selects RX0 yX0_clearCells yX0_clearCells, Cond.code yX0_clearCells cX0_clearCells 3 none, Cond.fieldLink RX0 21 "TheodoliteRow$Adjustment" "cells" "[[J", Cond.methodLink RX0 107 yX1_isInPartOf, Cond.instanceMethod yX1_isInPartOf]
def wsL_check_r4 : List Cond := [Cond.selects RX1 yX1_isInPartOf yX1_isInPartOf, Cond.code yX1_isInPartOf cX1_isInPartOf 3 (some .boolean), Cond.fieldLink RX1 34 "TheodoliteRow$Net" "isWithdrawn" "[Z", Cond.fieldLink RX1 22 "TheodoliteRow$Net" "from" "[I", Cond.methodLink RX0 111 yX0_addToCells, Cond.instanceMethod yX0_addToCells, Cond.selects RX0 yX0_addToCells yX0_addToCells, Cond.code yX0_addToCells cX0_addToCells 8 none, Cond.fieldLink RX0 89 "TheodoliteRow$Net" "to" "[I", Cond.fieldLink RX0 76 "TheodoliteRow$Net" "weight" "[I", Cond.fieldLink RX0 92 "TheodoliteRow$Net" "difference" "[I", Cond.methodLink RX0 121 yX0_addToRow, Cond.instanceMethod yX0_addToRow, Cond.selects RX0 yX0_addToRow yX0_addToRow, Cond.code yX0_addToRow cX0_addToRow 7 none, Cond.methodLink RX0 115 yX0_eliminate, Cond.instanceMethod yX0_eliminate, Cond.selects RX0 yX0_eliminate yX0_eliminate, Cond.code yX0_eliminate cX0_eliminate 7 none, Cond.methodLink RX0 125 yX0_clearColumn, Cond.instanceMethod yX0_clearColumn, Cond.selects RX0 yX0_clearColumn yX0_clearColumn, Cond.code yX0_clearColumn cX0_clearColumn 12 none, Cond.methodLink RX0 66 yX0_checkAgainst]
def wsL_check_r5 : List Cond := [Cond.instanceMethod yX0_checkAgainst, Cond.selects RX0 yX0_checkAgainst yX0_checkAgainst, Cond.code yX0_checkAgainst cX0_checkAgainst 4 (some .int), Cond.constantLong RX0 95 (1000), Cond.static yX4_roundedDown, Cond.code yX4_roundedDown cX4_roundedDown 4 (some .long), Cond.methodLink RX4 179 yJ9_floorDiv_f86c9, Cond.static yJ9_floorDiv_f86c9, Cond.initialized RJ9, Cond.code yJ9_floorDiv_f86c9 cJ9_floorDiv_f86c9 6 (some .long)]
def wsL_check : List Cond := .codeWith yL_check cL_check 4 (some .int) [(0, 9, 12, 19), (0, 9, 15, 13)] :: ((wsL_check_r1 ++ (wsL_check_r2 ++ (wsL_check_r3 ++ (wsL_check_r4 ++ wsL_check_r5)))) ++ wsX40 ++ wsX10 ++ wsX00 ++ (vx_atS RX4 47 "java/lang/IllegalStateException" ["java/lang/RuntimeException", "java/lang/Exception"]).filter goodWord ++ (vx_atS RX4 167 "java/lang/IndexOutOfBoundsException" ["java/lang/RuntimeException", "java/lang/Exception"]).filter goodWord)
def wsL_checkAnew_r1 : List Cond := [Cond.classLink RL 19 "java/lang/IndexOutOfBoundsException", Cond.classLink RL 13 "java/lang/IllegalStateException", Cond.methodLink RL 54 yX4_checkAnew, Cond.instanceMethod yX4_checkAnew, Cond.selects RX4 yX4_checkAnew yX4_checkAnew, Cond.initialized RX4, Cond.code yX4_checkAnew cX4_checkAnew 2 (some .int), Cond.fieldLink RX4 28 "TheodoliteRow" "treeWalk" "LTheodoliteRow$TreeWalk;", Cond.methodLink RX4 143 yX4_needObservationInNet, Cond.instanceMethod yX4_needObservationInNet, Cond.selects RX4 yX4_needObservationInNet yX4_needObservationInNet, Cond.code yX4_needObservationInNet cX4_needObservationInNet 2 none, Cond.classLink RX4 43 "java/lang/IllegalStateException", Cond.initialized "java/lang/IllegalStateException", Cond.fieldLink RX4 10 "TheodoliteRow" "net" "LTheodoliteRow$Net;", Cond.fieldLink RX4 173 "TheodoliteRow$Net" "isWithdrawn" "[Z", Cond.methodLink RX4 86 yX4_needObservation, Cond.instanceMethod yX4_needObservation, Cond.selects RX4 yX4_needObservation yX4_needObservation, Cond.code yX4_needObservation cX4_needObservation 2 none, Cond.classLink RX4 163 "java/lang/IndexOutOfBoundsException", Cond.initialized "java/lang/IndexOutOfBoundsException", Cond.methodLink RX4 168 yX1_hasObservation, Cond.instanceMethod yX1_hasObservation]
def wsL_checkAnew_r2 : List Cond := [Cond.selects RX1 yX1_hasObservation yX1_hasObservation, Cond.initialized RX1, Cond.code yX1_hasObservation cX1_hasObservation 2 (some .boolean), Cond.fieldLink RX1 41 "TheodoliteRow$Net" "observations" "I", Cond.methodLink RX4 152 yX3_checkOf, Cond.instanceMethod yX3_checkOf, Cond.selects RX3 yX3_checkOf yX3_checkOf, Cond.initialized RX3, Cond.code yX3_checkOf cX3_checkOf 2 (some .int), Cond.fieldLink RX3 9 "TheodoliteRow$TreeWalk" "net" "LTheodoliteRow$Net;", Cond.fieldLink RX3 50 "TheodoliteRow$Net" "from" "[I", Cond.constantLong RX3 53 (1000), Cond.fieldLink RX3 41 "TheodoliteRow$TreeWalk" "weightOfAll" "J", Cond.fieldLink RX3 55 "TheodoliteRow$TreeWalk" "weightOfThoseWithAsked" "J", Cond.methodLink RX3 23 yX3_walk, Cond.instanceMethod yX3_walk, Cond.selects RX3 yX3_walk yX3_walk, Cond.code yX3_walk cX3_walk 4 none, Cond.fieldLink RX3 58 "TheodoliteRow$TreeWalk" "askedStation" "I", Cond.fieldLink RX3 61 "TheodoliteRow$TreeWalk" "askedObservation" "I", Cond.fieldLink RX3 37 "TheodoliteRow$TreeWalk" "datum" "I", Cond.fieldLink RX3 71 "TheodoliteRow$TreeWalk" "branches" "I", Cond.fieldLink RX3 27 "TheodoliteRow$TreeWalk" "weightedRises" "J", Cond.fieldLink RX3 74 "TheodoliteRow$Net" "stations" "I"]
def wsL_checkAnew_r3 : List Cond := [Cond.fieldLink RX3 17 "TheodoliteRow$TreeWalk" "piece" "[[I", Cond.fieldLink RX3 20 "TheodoliteRow$TreeWalk" "rise" "[[I", Cond.methodLink RX3 64 yX1_datumOf, Cond.instanceMethod yX1_datumOf, Cond.selects RX1 yX1_datumOf yX1_datumOf, Cond.code yX1_datumOf cX1_datumOf 3 (some .int), Cond.fieldLink RX1 37 "TheodoliteRow$Net" "stations" "I", Cond.fieldLink RX1 9 "TheodoliteRow$Net" "isTold" "[Z", Cond.fieldLink RX1 19 "TheodoliteRow$Net" "lowest" "[I", Cond.methodLink RX1 60 yX1_areInOnePart, Cond.instanceMethod yX1_areInOnePart, Cond.selects RX1 yX1_areInOnePart yX1_areInOnePart, Cond.code yX1_areInOnePart cX1_areInOnePart 3 (some .boolean), Cond.methodLink RX3 68 yX1_countStationsWith, Cond.instanceMethod yX1_countStationsWith, Cond.selects RX1 yX1_countStationsWith yX1_countStationsWith, Cond.code yX1_countStationsWith cX1_countStationsWith 4 (some .int), Cond.methodLink RX3 77 yX3_grow, Cond.static yX3_grow, Cond.code yX3_grow cX3_grow 8 none, Cond.fieldLink RX3 85 "TheodoliteRow$Net" "observations" "I", Cond.fieldLink RX3 95 "TheodoliteRow$Net" "weight" "[I", Cond.methodLink RX3 81 yX3_countTree, Cond.instanceMethod yX3_countTree]
def wsL_checkAnew_r4 : List Cond := [Cond.selects RX3 yX3_countTree yX3_countTree, Cond.code yX3_countTree cX3_countTree 5 none, Cond.methodLink RX3 88 yX3_joinsPieces, Cond.instanceMethod yX3_joinsPieces, Cond.selects RX3 yX3_joinsPieces yX3_joinsPieces, Cond.code yX3_joinsPieces cX3_joinsPieces 3 (some .boolean), Cond.fieldLink RX3 101 "TheodoliteRow$Net" "to" "[I", Cond.methodLink RX3 98 yX1_isInPartOf, Cond.instanceMethod yX1_isInPartOf, Cond.selects RX1 yX1_isInPartOf yX1_isInPartOf, Cond.code yX1_isInPartOf cX1_isInPartOf 3 (some .boolean), Cond.fieldLink RX1 34 "TheodoliteRow$Net" "isWithdrawn" "[Z", Cond.fieldLink RX1 22 "TheodoliteRow$Net" "from" "[I", Cond.methodLink RX3 92 yX3_joinPieces, Cond.instanceMethod yX3_joinPieces, Cond.selects RX3 yX3_joinPieces yX3_joinPieces, Cond.code yX3_joinPieces cX3_joinPieces 8 none, Cond.fieldLink RX3 104 "TheodoliteRow$Net" "difference" "[I", Cond.static yX4_roundedDown, Cond.code yX4_roundedDown cX4_roundedDown 4 (some .long), Cond.methodLink RX4 179 yJ9_floorDiv_f86c9, Cond.static yJ9_floorDiv_f86c9, Cond.initialized RJ9, Cond.code yJ9_floorDiv_f86c9 cJ9_floorDiv_f86c9 6 (some .long)]
def wsL_checkAnew : List Cond := .codeWith yL_checkAnew cL_checkAnew 4 (some .int) [(0, 9, 12, 19), (0, 9, 15, 13)] :: ((wsL_checkAnew_r1 ++ (wsL_checkAnew_r2 ++ (wsL_checkAnew_r3 ++ wsL_checkAnew_r4))) ++ wsX40 ++ wsX10 ++ wsX30 ++ (vx_atS RX4 47 "java/lang/IllegalStateException" ["java/lang/RuntimeException", "java/lang/Exception"]).filter goodWord ++ (vx_atS RX4 167 "java/lang/IndexOutOfBoundsException" ["java/lang/RuntimeException", "java/lang/Exception"]).filter goodWord)
def wsL_score_r1 : List Cond := [Cond.classLink RL 19 "java/lang/IndexOutOfBoundsException", Cond.classLink RL 13 "java/lang/IllegalStateException", Cond.methodLink RL 57 yX4_score, Cond.instanceMethod yX4_score, Cond.selects RX4 yX4_score yX4_score, Cond.initialized RX4, Cond.code yX4_score cX4_score 2 (some .long), Cond.fieldLink RX4 21 "TheodoliteRow" "adjustment" "LTheodoliteRow$Adjustment;", Cond.methodLink RX4 143 yX4_needObservationInNet, Cond.instanceMethod yX4_needObservationInNet, Cond.selects RX4 yX4_needObservationInNet yX4_needObservationInNet, Cond.code yX4_needObservationInNet cX4_needObservationInNet 2 none, Cond.classLink RX4 43 "java/lang/IllegalStateException", Cond.initialized "java/lang/IllegalStateException", Cond.fieldLink RX4 10 "TheodoliteRow" "net" "LTheodoliteRow$Net;", Cond.fieldLink RX4 173 "TheodoliteRow$Net" "isWithdrawn" "[Z", Cond.methodLink RX4 86 yX4_needObservation, Cond.instanceMethod yX4_needObservation, Cond.selects RX4 yX4_needObservation yX4_needObservation, Cond.code yX4_needObservation cX4_needObservation 2 none, Cond.classLink RX4 163 "java/lang/IndexOutOfBoundsException", Cond.initialized "java/lang/IndexOutOfBoundsException", Cond.methodLink RX4 168 yX1_hasObservation, Cond.instanceMethod yX1_hasObservation]
def wsL_score_r2 : List Cond := [Cond.selects RX1 yX1_hasObservation yX1_hasObservation, Cond.initialized RX1, Cond.code yX1_hasObservation cX1_hasObservation 2 (some .boolean), Cond.fieldLink RX1 41 "TheodoliteRow$Net" "observations" "I", Cond.methodLink RX4 99 yX0_scoreOf, Cond.instanceMethod yX0_scoreOf, Cond.selects RX0 yX0_scoreOf yX0_scoreOf, Cond.initialized RX0, Cond.code yX0_scoreOf cX0_scoreOf 7 (some .long), Cond.constantLong RX0 45 (100), Cond.methodLink RX0 70 Lib.MathLoose.abs_long.x, Cond.static Lib.MathLoose.abs_long.x, Cond.initialized "java/lang/Math", Cond.code Lib.MathLoose.abs_long.x Lib.MathLoose.abs_long.code 2 (some .long), Cond.fieldLink RX0 41 "TheodoliteRow$Adjustment" "treeWeight" "J", Cond.fieldLink RX0 9 "TheodoliteRow$Adjustment" "net" "LTheodoliteRow$Net;", Cond.fieldLink RX0 76 "TheodoliteRow$Net" "weight" "[I", Cond.methodLink RX0 57 yX0_misfitOf, Cond.instanceMethod yX0_misfitOf, Cond.selects RX0 yX0_misfitOf yX0_misfitOf, Cond.code yX0_misfitOf cX0_misfitOf 3 (some .long), Cond.fieldLink RX0 60 "TheodoliteRow$Net" "from" "[I", Cond.fieldLink RX0 89 "TheodoliteRow$Net" "to" "[I", Cond.fieldLink RX0 92 "TheodoliteRow$Net" "difference" "[I"]
def wsL_score_r3 : List Cond := [Cond.methodLink RX0 24 yX0_solve, Cond.instanceMethod yX0_solve, Cond.selects RX0 yX0_solve yX0_solve, Cond.code yX0_solve cX0_solve 4 none, Cond.fieldLink RX0 37 "TheodoliteRow$Adjustment" "datum" "I", Cond.fieldLink RX0 79 "TheodoliteRow$Net" "observations" "I", Cond.methodLink RX0 97 yX1_datumOf, Cond.instanceMethod yX1_datumOf, Cond.selects RX1 yX1_datumOf yX1_datumOf, Cond.code yX1_datumOf cX1_datumOf 3 (some .int), Cond.fieldLink RX1 37 "TheodoliteRow$Net" "stations" "I", Cond.fieldLink RX1 9 "TheodoliteRow$Net" "isTold" "[Z", Cond.fieldLink RX1 19 "TheodoliteRow$Net" "lowest" "[I", Cond.methodLink RX1 60 yX1_areInOnePart, Cond.instanceMethod yX1_areInOnePart, Cond.selects RX1 yX1_areInOnePart yX1_areInOnePart, Cond.code yX1_areInOnePart cX1_areInOnePart 3 (some .boolean), Cond.methodLink RX0 101 yX0_numberUnknowns, Cond.instanceMethod yX0_numberUnknowns, Cond.selects RX0 yX0_numberUnknowns yX0_numberUnknowns, Cond.code yX0_numberUnknowns cX0_numberUnknowns 3 none, Cond.fieldLink RX0 54 "TheodoliteRow$Adjustment" "unknowns" "I", Cond.fieldLink RX0 51 "TheodoliteRow$Net" "stations" "I", Cond.fieldLink RX0 15 "TheodoliteRow$Adjustment" "rowOf" "[I"]
def wsL_score_r4 : List Cond := [Cond.methodLink RX0 118 yX1_areInOnePart, Cond.methodLink RX0 104 yX0_clearCells, Cond.instanceMethod yX0_clearCells, Cond.selects RX0 yX0_clearCells yX0_clearCells, Cond.code yX0_clearCells cX0_clearCells 3 none, Cond.fieldLink RX0 21 "TheodoliteRow$Adjustment" "cells" "[[J", Cond.methodLink RX0 107 yX1_isInPartOf, Cond.instanceMethod yX1_isInPartOf, Cond.selects RX1 yX1_isInPartOf yX1_isInPartOf, Cond.code yX1_isInPartOf cX1_isInPartOf 3 (some .boolean), Cond.fieldLink RX1 34 "TheodoliteRow$Net" "isWithdrawn" "[Z", Cond.fieldLink RX1 22 "TheodoliteRow$Net" "from" "[I", Cond.methodLink RX0 111 yX0_addToCells, Cond.instanceMethod yX0_addToCells, Cond.selects RX0 yX0_addToCells yX0_addToCells, Cond.code yX0_addToCells cX0_addToCells 8 none, Cond.methodLink RX0 121 yX0_addToRow, Cond.instanceMethod yX0_addToRow, Cond.selects RX0 yX0_addToRow yX0_addToRow, Cond.code yX0_addToRow cX0_addToRow 7 none, Cond.methodLink RX0 115 yX0_eliminate, Cond.instanceMethod yX0_eliminate, Cond.selects RX0 yX0_eliminate yX0_eliminate, Cond.code yX0_eliminate cX0_eliminate 7 none]
def wsL_score_r5 : List Cond := [Cond.methodLink RX0 125 yX0_clearColumn, Cond.instanceMethod yX0_clearColumn, Cond.selects RX0 yX0_clearColumn yX0_clearColumn, Cond.code yX0_clearColumn cX0_clearColumn 12 none, Cond.methodLink RX0 28 yX0_riseOf, Cond.instanceMethod yX0_riseOf, Cond.selects RX0 yX0_riseOf yX0_riseOf, Cond.code yX0_riseOf cX0_riseOf 3 (some .long), Cond.static yX4_roundedDown, Cond.code yX4_roundedDown cX4_roundedDown 4 (some .long), Cond.methodLink RX4 179 yJ9_floorDiv_f86c9, Cond.static yJ9_floorDiv_f86c9, Cond.initialized RJ9, Cond.code yJ9_floorDiv_f86c9 cJ9_floorDiv_f86c9 6 (some .long), Cond.methodLink RX0 66 yX0_checkAgainst, Cond.instanceMethod yX0_checkAgainst, Cond.selects RX0 yX0_checkAgainst yX0_checkAgainst, Cond.code yX0_checkAgainst cX0_checkAgainst 4 (some .int), Cond.constantLong RX0 95 (1000)]
def wsL_score : List Cond := .codeWith yL_score cL_score 4 (some .int) [(0, 8, 11, 19), (0, 8, 14, 13)] :: ((wsL_score_r1 ++ (wsL_score_r2 ++ (wsL_score_r3 ++ (wsL_score_r4 ++ wsL_score_r5)))) ++ wsX40 ++ wsX10 ++ wsX00 ++ (vx_atS RX4 47 "java/lang/IllegalStateException" ["java/lang/RuntimeException", "java/lang/Exception"]).filter goodWord ++ (vx_atS RX4 167 "java/lang/IndexOutOfBoundsException" ["java/lang/RuntimeException", "java/lang/Exception"]).filter goodWord)
def wsL_trees_r1 : List Cond := [Cond.classLink RL 19 "java/lang/IndexOutOfBoundsException", Cond.methodLink RL 60 yX4_trees, Cond.instanceMethod yX4_trees, Cond.selects RX4 yX4_trees yX4_trees, Cond.initialized RX4, Cond.code yX4_trees cX4_trees 2 (some .long), Cond.fieldLink RX4 21 "TheodoliteRow" "adjustment" "LTheodoliteRow$Adjustment;", Cond.methodLink RX4 54 yX4_needStation, Cond.instanceMethod yX4_needStation, Cond.selects RX4 yX4_needStation yX4_needStation, Cond.code yX4_needStation cX4_needStation 2 none, Cond.classLink RX4 163 "java/lang/IndexOutOfBoundsException", Cond.initialized "java/lang/IndexOutOfBoundsException", Cond.fieldLink RX4 10 "TheodoliteRow" "net" "LTheodoliteRow$Net;", Cond.methodLink RX4 159 yX1_hasStation, Cond.instanceMethod yX1_hasStation, Cond.selects RX1 yX1_hasStation yX1_hasStation, Cond.initialized RX1, Cond.code yX1_hasStation cX1_hasStation 2 (some .boolean), Cond.fieldLink RX1 37 "TheodoliteRow$Net" "stations" "I", Cond.methodLink RX4 153 yX0_treeWeightOf, Cond.instanceMethod yX0_treeWeightOf, Cond.selects RX0 yX0_treeWeightOf yX0_treeWeightOf, Cond.initialized RX0]
def wsL_trees_r2 : List Cond := [Cond.code yX0_treeWeightOf cX0_treeWeightOf 2 (some .long), Cond.fieldLink RX0 41 "TheodoliteRow$Adjustment" "treeWeight" "J", Cond.methodLink RX0 24 yX0_solve, Cond.instanceMethod yX0_solve, Cond.selects RX0 yX0_solve yX0_solve, Cond.code yX0_solve cX0_solve 4 none, Cond.fieldLink RX0 9 "TheodoliteRow$Adjustment" "net" "LTheodoliteRow$Net;", Cond.fieldLink RX0 37 "TheodoliteRow$Adjustment" "datum" "I", Cond.fieldLink RX0 79 "TheodoliteRow$Net" "observations" "I", Cond.methodLink RX0 97 yX1_datumOf, Cond.instanceMethod yX1_datumOf, Cond.selects RX1 yX1_datumOf yX1_datumOf, Cond.code yX1_datumOf cX1_datumOf 3 (some .int), Cond.fieldLink RX1 9 "TheodoliteRow$Net" "isTold" "[Z", Cond.fieldLink RX1 19 "TheodoliteRow$Net" "lowest" "[I", Cond.methodLink RX1 60 yX1_areInOnePart, Cond.instanceMethod yX1_areInOnePart, Cond.selects RX1 yX1_areInOnePart yX1_areInOnePart, Cond.code yX1_areInOnePart cX1_areInOnePart 3 (some .boolean), Cond.methodLink RX0 101 yX0_numberUnknowns, Cond.instanceMethod yX0_numberUnknowns, Cond.selects RX0 yX0_numberUnknowns yX0_numberUnknowns, Cond.code yX0_numberUnknowns cX0_numberUnknowns 3 none, Cond.fieldLink RX0 54 "TheodoliteRow$Adjustment" "unknowns" "I"]
def wsL_trees_r3 : List Cond := [Cond.fieldLink RX0 51 "TheodoliteRow$Net" "stations" "I", Cond.fieldLink RX0 15 "TheodoliteRow$Adjustment" "rowOf" "[I", Cond.methodLink RX0 118 yX1_areInOnePart, Cond.methodLink RX0 104 yX0_clearCells, Cond.instanceMethod yX0_clearCells, Cond.selects RX0 yX0_clearCells yX0_clearCells, Cond.code yX0_clearCells cX0_clearCells 3 none, Cond.fieldLink RX0 21 "TheodoliteRow$Adjustment" "cells" "[[J", Cond.methodLink RX0 107 yX1_isInPartOf, Cond.instanceMethod yX1_isInPartOf, Cond.selects RX1 yX1_isInPartOf yX1_isInPartOf, Cond.code yX1_isInPartOf cX1_isInPartOf 3 (some .boolean), Cond.fieldLink RX1 34 "TheodoliteRow$Net" "isWithdrawn" "[Z", Cond.fieldLink RX1 22 "TheodoliteRow$Net" "from" "[I", Cond.methodLink RX0 111 yX0_addToCells, Cond.instanceMethod yX0_addToCells, Cond.selects RX0 yX0_addToCells yX0_addToCells, Cond.code yX0_addToCells cX0_addToCells 8 none, Cond.fieldLink RX0 60 "TheodoliteRow$Net" "from" "[I", Cond.fieldLink RX0 89 "TheodoliteRow$Net" "to" "[I", Cond.fieldLink RX0 76 "TheodoliteRow$Net" "weight" "[I", Cond.fieldLink RX0 92 "TheodoliteRow$Net" "difference" "[I", Cond.methodLink RX0 121 yX0_addToRow, Cond.instanceMethod yX0_addToRow]
def wsL_trees_r4 : List Cond := [Cond.selects RX0 yX0_addToRow yX0_addToRow, Cond.code yX0_addToRow cX0_addToRow 7 none, Cond.methodLink RX0 115 yX0_eliminate, Cond.instanceMethod yX0_eliminate, Cond.selects RX0 yX0_eliminate yX0_eliminate, Cond.code yX0_eliminate cX0_eliminate 7 none, Cond.methodLink RX0 125 yX0_clearColumn, Cond.instanceMethod yX0_clearColumn, Cond.selects RX0 yX0_clearColumn yX0_clearColumn, Cond.code yX0_clearColumn cX0_clearColumn 12 none]
def wsL_trees : List Cond := .codeWith yL_trees cL_trees 4 (some .int) [(0, 8, 11, 19)] :: ((wsL_trees_r1 ++ (wsL_trees_r2 ++ (wsL_trees_r3 ++ wsL_trees_r4))) ++ wsX40 ++ wsX10 ++ wsX00 ++ (vx_atS RX4 167 "java/lang/IndexOutOfBoundsException" ["java/lang/RuntimeException", "java/lang/Exception"]).filter goodWord)
def wsL_law0_r1 : List Cond := [Cond.classLink RL 8 RX4, Cond.instantiable RX4 4, Cond.initialized RX4, Cond.classLink RL 64 RX5, Cond.instantiable RX5 18, Cond.initialized RX5, Cond.arrayClass .long, Cond.methodLink RL 63 yX4_init, Cond.instanceMethod yX4_init, Cond.code yX4_init cX4_init 1 none, Cond.methodLink RX4 1 objectInit, Cond.instanceMethod objectInit, Cond.code objectInit ⟨#[0xb1]⟩ 1 none, Cond.classLink RX4 7 RX1, Cond.instantiable RX1 10, Cond.initialized RX1, Cond.fieldLink RX4 10 "TheodoliteRow" "net" "LTheodoliteRow$Net;", Cond.classLink RX4 16 RX0, Cond.instantiable RX0 6, Cond.initialized RX0, Cond.fieldLink RX4 21 "TheodoliteRow" "adjustment" "LTheodoliteRow$Adjustment;", Cond.classLink RX4 25 RX3, Cond.instantiable RX3 10, Cond.initialized RX3]
def wsL_law0_r2 : List Cond := [Cond.fieldLink RX4 28 "TheodoliteRow" "treeWalk" "LTheodoliteRow$TreeWalk;", Cond.classLink RX4 32 RX2, Cond.instantiable RX2 4, Cond.initialized RX2, Cond.fieldLink RX4 35 "TheodoliteRow" "path" "LTheodoliteRow$Path;", Cond.methodLink RX4 9 yX1_init, Cond.instanceMethod yX1_init, Cond.code yX1_init cX1_init 1 none, Cond.methodLink RX1 3 objectInit, Cond.arrayClass .boolean, Cond.fieldLink RX1 9 "TheodoliteRow$Net" "isTold" "[Z", Cond.arrayClass .int, Cond.fieldLink RX1 15 "TheodoliteRow$Net" "toldHeight" "[I", Cond.fieldLink RX1 19 "TheodoliteRow$Net" "lowest" "[I", Cond.fieldLink RX1 22 "TheodoliteRow$Net" "from" "[I", Cond.fieldLink RX1 25 "TheodoliteRow$Net" "to" "[I", Cond.fieldLink RX1 28 "TheodoliteRow$Net" "difference" "[I", Cond.fieldLink RX1 31 "TheodoliteRow$Net" "weight" "[I", Cond.fieldLink RX1 34 "TheodoliteRow$Net" "isWithdrawn" "[Z", Cond.methodLink RX4 18 yX0_init, Cond.instanceMethod yX0_init, Cond.code yX0_init cX0_init 2 none, Cond.methodLink RX0 3 objectInit, Cond.fieldLink RX0 9 "TheodoliteRow$Adjustment" "net" "LTheodoliteRow$Net;"]
def wsL_law0_r3 : List Cond := [Cond.fieldLink RX0 15 "TheodoliteRow$Adjustment" "rowOf" "[I", Cond.classLink RX0 19 "[[J", Cond.fieldLink RX0 21 "TheodoliteRow$Adjustment" "cells" "[[J", Cond.methodLink RX4 27 yX3_init, Cond.instanceMethod yX3_init, Cond.code yX3_init cX3_init 2 none, Cond.methodLink RX3 3 objectInit, Cond.fieldLink RX3 9 "TheodoliteRow$TreeWalk" "net" "LTheodoliteRow$Net;", Cond.classLink RX3 15 "[[I", Cond.fieldLink RX3 17 "TheodoliteRow$TreeWalk" "piece" "[[I", Cond.fieldLink RX3 20 "TheodoliteRow$TreeWalk" "rise" "[[I", Cond.methodLink RX4 34 yX2_init, Cond.instanceMethod yX2_init, Cond.code yX2_init cX2_init 1 none, Cond.methodLink RX2 1 objectInit, Cond.fieldLink RX2 7 "TheodoliteRow$Path" "length" "I", Cond.methodLink RL 66 yX5_init, Cond.instanceMethod yX5_init, Cond.code yX5_init cX5_init 1 none, Cond.methodLink RX5 1 objectInit, Cond.fieldLink RX5 7 "TheodoliteRowModel" "isTold" "[Z", Cond.fieldLink RX5 13 "TheodoliteRowModel" "told" "[I", Cond.fieldLink RX5 17 "TheodoliteRowModel" "froms" "[I", Cond.fieldLink RX5 20 "TheodoliteRowModel" "tos" "[I"]
def wsL_law0_r4 : List Cond := [Cond.fieldLink RX5 23 "TheodoliteRowModel" "differences" "[I", Cond.fieldLink RX5 26 "TheodoliteRowModel" "weights" "[I", Cond.fieldLink RX5 29 "TheodoliteRowModel" "isWithdrawn" "[Z", Cond.fieldLink RX5 32 "TheodoliteRowModel" "steps" "[I", Cond.fieldLink RX5 35 "TheodoliteRowModel" "isIn" "[Z", Cond.fieldLink RX5 38 "TheodoliteRowModel" "a" "[J", Cond.fieldLink RX5 42 "TheodoliteRowModel" "found" "[J", Cond.fieldLink RX5 45 "TheodoliteRowModel" "sum" "I", Cond.methodLink RL 67 yL_station, Cond.static yL_station, Cond.initialized RL, Cond.codeWith yL_station cL_station 3 (some .int) [(0, 8, 11, 13)], Cond.classLink RL 13 "java/lang/IllegalStateException", Cond.methodLink RL 7 yX4_station, Cond.instanceMethod yX4_station, Cond.selects RX4 yX4_station yX4_station, Cond.code yX4_station cX4_station 1 (some .int), Cond.classLink RX4 43 "java/lang/IllegalStateException", Cond.initialized "java/lang/IllegalStateException", Cond.fieldLink RX4 39 "TheodoliteRow$Net" "stations" "I", Cond.methodLink RX4 50 yX1_addStation, Cond.instanceMethod yX1_addStation, Cond.selects RX1 yX1_addStation yX1_addStation, Cond.code yX1_addStation cX1_addStation 2 (some .int)]
def wsL_law0_r5 : List Cond := [Cond.fieldLink RX1 37 "TheodoliteRow$Net" "stations" "I", Cond.methodLink RX1 44 yX1_markParts, Cond.instanceMethod yX1_markParts, Cond.selects RX1 yX1_markParts yX1_markParts, Cond.code yX1_markParts cX1_markParts 2 none, Cond.fieldLink RX1 41 "TheodoliteRow$Net" "observations" "I", Cond.methodLink RX1 47 yX1_mergeParts, Cond.instanceMethod yX1_mergeParts, Cond.selects RX1 yX1_mergeParts yX1_mergeParts, Cond.code yX1_mergeParts cX1_mergeParts 6 none, Cond.methodLink RX1 51 Lib.Math.min.name, Cond.static Lib.Math.min.name, Cond.initialized "java/lang/Math", Cond.code Lib.Math.min.name Lib.Math.min.code 2 (some .int), Cond.methodLink RX1 57 Lib.Math.max.name, Cond.static Lib.Math.max.name, Cond.code Lib.Math.max.name Lib.Math.max.code 2 (some .int), Cond.methodLink RL 72 yX5_station, Cond.instanceMethod yX5_station, Cond.selects RX5 yX5_station yX5_station, Cond.code yX5_station cX5_station 1 (some .int), Cond.fieldLink RX5 52 "TheodoliteRowModel" "stations" "I", Cond.methodLink RX5 62 yX5_goes, Cond.instanceMethod yX5_goes]
def wsL_law0_r6 : List Cond := [Cond.selects RX5 yX5_goes yX5_goes, Cond.code yX5_goes cX5_goes 2 (some .boolean), Cond.fieldLink RX5 49 "TheodoliteRowModel" "thrown" "I", Cond.methodLink RL 73 yX5_thrown, Cond.instanceMethod yX5_thrown, Cond.selects RX5 yX5_thrown yX5_thrown, Cond.code yX5_thrown cX5_thrown 1 (some .int), Cond.methodLink RL 76 yL_datum, Cond.static yL_datum, Cond.codeWith yL_datum cL_datum 6 (some .int) [(0, 19, 22, 19), (0, 19, 26, 21)], Cond.classLink RL 19 "java/lang/IndexOutOfBoundsException", Cond.classLink RL 21 "java/lang/IllegalArgumentException", Cond.methodLink RL 15 yX4_datum, Cond.instanceMethod yX4_datum, Cond.selects RX4 yX4_datum yX4_datum, Cond.code yX4_datum cX4_datum 4 (some .boolean), Cond.classLink RX4 62 "java/lang/IllegalArgumentException", Cond.initialized "java/lang/IllegalArgumentException", Cond.methodLink RX4 54 yX4_needStation, Cond.instanceMethod yX4_needStation, Cond.selects RX4 yX4_needStation yX4_needStation, Cond.code yX4_needStation cX4_needStation 2 none, Cond.classLink RX4 163 "java/lang/IndexOutOfBoundsException", Cond.initialized "java/lang/IndexOutOfBoundsException"]
def wsL_law0_r7 : List Cond := [Cond.methodLink RX4 159 yX1_hasStation, Cond.instanceMethod yX1_hasStation, Cond.selects RX1 yX1_hasStation yX1_hasStation, Cond.code yX1_hasStation cX1_hasStation 2 (some .boolean), Cond.methodLink RX4 58 yX4_isBeyond, Cond.static yX4_isBeyond, Cond.code yX4_isBeyond cX4_isBeyond 3 (some .boolean), Cond.methodLink RX4 67 yX1_tellHeight, Cond.instanceMethod yX1_tellHeight, Cond.selects RX1 yX1_tellHeight yX1_tellHeight, Cond.code yX1_tellHeight cX1_tellHeight 5 (some .boolean), Cond.methodLink RL 79 yX5_datum, Cond.instanceMethod yX5_datum, Cond.selects RX5 yX5_datum yX5_datum, Cond.code yX5_datum cX5_datum 5 (some .boolean), Cond.methodLink RX5 66 yX5_isStation, Cond.instanceMethod yX5_isStation, Cond.selects RX5 yX5_isStation yX5_isStation, Cond.code yX5_isStation cX5_isStation 2 (some .boolean), Cond.methodLink RX5 55 yX5_isBetween, Cond.static yX5_isBetween, Cond.code yX5_isBetween cX5_isBetween 3 (some .boolean), Cond.methodLink RL 80 yL_observe, Cond.static yL_observe]
def wsL_law0_r8 : List Cond := [Cond.codeWith yL_observe cL_observe 7 (some .int) [(0, 14, 17, 19), (0, 14, 21, 21), (0, 14, 25, 13)], Cond.methodLink RL 23 yX4_observe, Cond.instanceMethod yX4_observe, Cond.selects RX4 yX4_observe yX4_observe, Cond.code yX4_observe cX4_observe 5 (some .int), Cond.fieldLink RX4 77 "TheodoliteRow$Net" "observations" "I", Cond.methodLink RX4 82 yX1_addObservation, Cond.instanceMethod yX1_addObservation, Cond.selects RX1 yX1_addObservation yX1_addObservation, Cond.code yX1_addObservation cX1_addObservation 6 (some .int), Cond.methodLink RL 83 yX5_observe, Cond.instanceMethod yX5_observe, Cond.selects RX5 yX5_observe yX5_observe, Cond.code yX5_observe cX5_observe 7 (some .int), Cond.fieldLink RX5 59 "TheodoliteRowModel" "observations" "I", Cond.methodLink RL 84 yL_withdraw, Cond.static yL_withdraw, Cond.codeWith yL_withdraw cL_withdraw 5 (some .int) [(0, 17, 20, 19)], Cond.methodLink RL 27 yX4_withdraw, Cond.instanceMethod yX4_withdraw, Cond.selects RX4 yX4_withdraw yX4_withdraw, Cond.code yX4_withdraw cX4_withdraw 3 (some .boolean), Cond.methodLink RX4 86 yX4_needObservation, Cond.instanceMethod yX4_needObservation]
def wsL_law0_r9 : List Cond := [Cond.selects RX4 yX4_needObservation yX4_needObservation, Cond.code yX4_needObservation cX4_needObservation 2 none, Cond.methodLink RX4 168 yX1_hasObservation, Cond.instanceMethod yX1_hasObservation, Cond.selects RX1 yX1_hasObservation yX1_hasObservation, Cond.code yX1_hasObservation cX1_hasObservation 2 (some .boolean), Cond.methodLink RX4 89 yX1_setWithdrawn, Cond.instanceMethod yX1_setWithdrawn, Cond.selects RX1 yX1_setWithdrawn yX1_setWithdrawn, Cond.code yX1_setWithdrawn cX1_setWithdrawn 4 (some .boolean), Cond.methodLink RL 87 yX5_withdraw, Cond.instanceMethod yX5_withdraw, Cond.selects RX5 yX5_withdraw yX5_withdraw, Cond.code yX5_withdraw cX5_withdraw 4 (some .boolean), Cond.methodLink RX5 69 yX5_isObservation, Cond.instanceMethod yX5_isObservation, Cond.selects RX5 yX5_isObservation yX5_isObservation, Cond.code yX5_isObservation cX5_isObservation 2 (some .boolean), Cond.methodLink RL 88 yL_clean, Cond.static yL_clean, Cond.codeWith yL_clean cL_clean 4 (some .int) [(0, 9, 12, 21)], Cond.methodLink RL 31 yX4_clean, Cond.instanceMethod yX4_clean, Cond.selects RX4 yX4_clean yX4_clean]
def wsL_law0_r10 : List Cond := [Cond.code yX4_clean cX4_clean 4 (some .int), Cond.constant RX4 93 (1000000000), Cond.methodLink RX4 96 yX0_worstObservation, Cond.instanceMethod yX0_worstObservation, Cond.selects RX0 yX0_worstObservation yX0_worstObservation, Cond.code yX0_worstObservation cX0_worstObservation 7 (some .int), Cond.fieldLink RX0 79 "TheodoliteRow$Net" "observations" "I", Cond.fieldLink RX0 82 "TheodoliteRow$Net" "isWithdrawn" "[Z", Cond.methodLink RX0 86 yX0_scoreOf, Cond.instanceMethod yX0_scoreOf, Cond.selects RX0 yX0_scoreOf yX0_scoreOf, Cond.code yX0_scoreOf cX0_scoreOf 7 (some .long), Cond.constantLong RX0 45 (100), Cond.methodLink RX0 70 Lib.MathLoose.abs_long.x, Cond.static Lib.MathLoose.abs_long.x, Cond.code Lib.MathLoose.abs_long.x Lib.MathLoose.abs_long.code 2 (some .long), Cond.fieldLink RX0 41 "TheodoliteRow$Adjustment" "treeWeight" "J", Cond.fieldLink RX0 76 "TheodoliteRow$Net" "weight" "[I", Cond.methodLink RX0 57 yX0_misfitOf, Cond.instanceMethod yX0_misfitOf, Cond.selects RX0 yX0_misfitOf yX0_misfitOf, Cond.code yX0_misfitOf cX0_misfitOf 3 (some .long), Cond.fieldLink RX0 60 "TheodoliteRow$Net" "from" "[I", Cond.fieldLink RX0 89 "TheodoliteRow$Net" "to" "[I"]
def wsL_law0_r11 : List Cond := [Cond.fieldLink RX0 92 "TheodoliteRow$Net" "difference" "[I", Cond.methodLink RX0 24 yX0_solve, Cond.instanceMethod yX0_solve, Cond.selects RX0 yX0_solve yX0_solve, Cond.code yX0_solve cX0_solve 4 none, Cond.fieldLink RX0 37 "TheodoliteRow$Adjustment" "datum" "I", Cond.methodLink RX0 97 yX1_datumOf, Cond.instanceMethod yX1_datumOf, Cond.selects RX1 yX1_datumOf yX1_datumOf, Cond.code yX1_datumOf cX1_datumOf 3 (some .int), Cond.methodLink RX1 60 yX1_areInOnePart, Cond.instanceMethod yX1_areInOnePart, Cond.selects RX1 yX1_areInOnePart yX1_areInOnePart, Cond.code yX1_areInOnePart cX1_areInOnePart 3 (some .boolean), Cond.methodLink RX0 101 yX0_numberUnknowns, Cond.instanceMethod yX0_numberUnknowns, Cond.selects RX0 yX0_numberUnknowns yX0_numberUnknowns, Cond.code yX0_numberUnknowns cX0_numberUnknowns 3 none, Cond.fieldLink RX0 54 "TheodoliteRow$Adjustment" "unknowns" "I", Cond.fieldLink RX0 51 "TheodoliteRow$Net" "stations" "I", Cond.methodLink RX0 118 yX1_areInOnePart, Cond.methodLink RX0 104 yX0_clearCells, Cond.instanceMethod yX0_clearCells, Cond.selects RX0 yX0_clearCells yX0_clearCells]
def wsL_law0_r12 : List Cond := [Cond.code yX0_clearCells cX0_clearCells 3 none, Cond.methodLink RX0 107 yX1_isInPartOf, Cond.instanceMethod yX1_isInPartOf, Cond.selects RX1 yX1_isInPartOf yX1_isInPartOf, Cond.code yX1_isInPartOf cX1_isInPartOf 3 (some .boolean), Cond.methodLink RX0 111 yX0_addToCells, Cond.instanceMethod yX0_addToCells, Cond.selects RX0 yX0_addToCells yX0_addToCells, Cond.code yX0_addToCells cX0_addToCells 8 none, Cond.methodLink RX0 121 yX0_addToRow, Cond.instanceMethod yX0_addToRow, Cond.selects RX0 yX0_addToRow yX0_addToRow, Cond.code yX0_addToRow cX0_addToRow 7 none, Cond.methodLink RX0 115 yX0_eliminate, Cond.instanceMethod yX0_eliminate, Cond.selects RX0 yX0_eliminate yX0_eliminate, Cond.code yX0_eliminate cX0_eliminate 7 none, Cond.methodLink RX0 125 yX0_clearColumn, Cond.instanceMethod yX0_clearColumn, Cond.selects RX0 yX0_clearColumn yX0_clearColumn, Cond.code yX0_clearColumn cX0_clearColumn 12 none, Cond.methodLink RX0 28 yX0_riseOf, Cond.instanceMethod yX0_riseOf, Cond.selects RX0 yX0_riseOf yX0_riseOf]
def wsL_law0_r13 : List Cond := [Cond.code yX0_riseOf cX0_riseOf 3 (some .long), Cond.static yX4_roundedDown, Cond.code yX4_roundedDown cX4_roundedDown 4 (some .long), Cond.methodLink RX4 179 yJ9_floorDiv_f86c9, Cond.static yJ9_floorDiv_f86c9, Cond.initialized RJ9, Cond.code yJ9_floorDiv_f86c9 cJ9_floorDiv_f86c9 6 (some .long), Cond.methodLink RX0 66 yX0_checkAgainst, Cond.instanceMethod yX0_checkAgainst, Cond.selects RX0 yX0_checkAgainst yX0_checkAgainst, Cond.code yX0_checkAgainst cX0_checkAgainst 4 (some .int), Cond.constantLong RX0 95 (1000), Cond.methodLink RX4 99 yX0_scoreOf, Cond.methodLink RL 91 yX5_clean, Cond.instanceMethod yX5_clean, Cond.selects RX5 yX5_clean yX5_clean, Cond.code yX5_clean cX5_clean 4 (some .int), Cond.constant RX5 134 (1000000000), Cond.methodLink RX5 130 yX5_worstOf, Cond.instanceMethod yX5_worstOf, Cond.selects RX5 yX5_worstOf yX5_worstOf, Cond.code yX5_worstOf cX5_worstOf 7 (some .int), Cond.methodLink RX5 127 yX5_scoreOf, Cond.instanceMethod yX5_scoreOf]
def wsL_law0_r14 : List Cond := [Cond.selects RX5 yX5_scoreOf yX5_scoreOf, Cond.code yX5_scoreOf cX5_scoreOf 7 (some .long), Cond.constantLong RX5 99 (100), Cond.fieldLink RX5 79 "TheodoliteRowModel" "trees" "J", Cond.methodLink RX5 119 yX5_checkOf, Cond.instanceMethod yX5_checkOf, Cond.selects RX5 yX5_checkOf yX5_checkOf, Cond.code yX5_checkOf cX5_checkOf 4 (some .int), Cond.constantLong RX5 115 (-1), Cond.constantLong RX5 117 (1000), Cond.methodLink RX5 83 yX5_reaches, Cond.instanceMethod yX5_reaches, Cond.selects RX5 yX5_reaches yX5_reaches, Cond.code yX5_reaches cX5_reaches 4 none, Cond.fieldLink RX5 72 "TheodoliteRowModel" "datum" "I", Cond.methodLink RX5 87 yX5_lays, Cond.instanceMethod yX5_lays, Cond.selects RX5 yX5_lays yX5_lays, Cond.code yX5_lays cX5_lays 2 none, Cond.methodLink RX5 75 yX5_adds, Cond.instanceMethod yX5_adds, Cond.selects RX5 yX5_adds yX5_adds, Cond.code yX5_adds cX5_adds 5 none, Cond.methodLink RX5 93 yX5_solves]
def wsL_law0_r15 : List Cond := [Cond.instanceMethod yX5_solves, Cond.selects RX5 yX5_solves yX5_solves, Cond.code yX5_solves cX5_solves 11 none, Cond.methodLink RX5 101 yX5_floor, Cond.static yX5_floor, Cond.code yX5_floor cX5_floor 6 (some .long), Cond.methodLink RX5 112 yX5_apart, Cond.instanceMethod yX5_apart, Cond.selects RX5 yX5_apart yX5_apart, Cond.code yX5_apart cX5_apart 2 (some .long), Cond.methodLink RX5 96 yX5_finds, Cond.instanceMethod yX5_finds, Cond.selects RX5 yX5_finds yX5_finds, Cond.code yX5_finds cX5_finds 2 none, Cond.methodLink RX5 90 yX5_laysDifferences, Cond.instanceMethod yX5_laysDifferences, Cond.selects RX5 yX5_laysDifferences yX5_laysDifferences, Cond.code yX5_laysDifferences cX5_laysDifferences 2 none, Cond.methodLink RX5 123 yX5_size, Cond.static yX5_size, Cond.code yX5_size cX5_size 2 (some .long), Cond.methodLink RL 92 yL_go, Cond.static yL_go, Cond.codeWith yL_go cL_go 4 (some .int) [(0, 9, 12, 19), (0, 9, 15, 13)]]
def wsL_law0_r16 : List Cond := [Cond.methodLink RL 35 yX4_go, Cond.instanceMethod yX4_go, Cond.selects RX4 yX4_go yX4_go, Cond.code yX4_go cX4_go 3 (some .int), Cond.fieldLink RX4 103 "TheodoliteRow$Path" "length" "I", Cond.fieldLink RX4 112 "TheodoliteRow$Path" "last" "I", Cond.methodLink RX4 108 yX2_begin, Cond.instanceMethod yX2_begin, Cond.selects RX2 yX2_begin yX2_begin, Cond.code yX2_begin cX2_begin 2 (some .int), Cond.fieldLink RX2 13 "TheodoliteRow$Path" "first" "I", Cond.fieldLink RX2 16 "TheodoliteRow$Path" "last" "I", Cond.methodLink RX4 115 yX1_lowestBetween, Cond.instanceMethod yX1_lowestBetween, Cond.selects RX1 yX1_lowestBetween yX1_lowestBetween, Cond.code yX1_lowestBetween cX1_lowestBetween 6 (some .int), Cond.methodLink RX4 121 yX1_differenceFrom, Cond.instanceMethod yX1_differenceFrom, Cond.selects RX1 yX1_differenceFrom yX1_differenceFrom, Cond.code yX1_differenceFrom cX1_differenceFrom 3 (some .int), Cond.methodLink RX4 124 yX2_goOn, Cond.instanceMethod yX2_goOn, Cond.selects RX2 yX2_goOn yX2_goOn, Cond.code yX2_goOn cX2_goOn 3 (some .int)]
def wsL_law0_r17 : List Cond := [Cond.fieldLink RX2 19 "TheodoliteRow$Path" "total" "I", Cond.methodLink RL 94 yX5_go, Cond.instanceMethod yX5_go, Cond.selects RX5 yX5_go yX5_go, Cond.code yX5_go cX5_go 4 (some .int), Cond.fieldLink RX5 135 "TheodoliteRowModel" "path" "I", Cond.methodLink RX5 138 yX5_joins, Cond.instanceMethod yX5_joins, Cond.selects RX5 yX5_joins yX5_joins, Cond.code yX5_joins cX5_joins 6 (some .int), Cond.methodLink RL 95 yX4_end, Cond.instanceMethod yX4_end, Cond.selects RX4 yX4_end yX4_end, Cond.code yX4_end cX4_end 1 (some .int), Cond.methodLink RX4 127 yX2_clear, Cond.instanceMethod yX2_clear, Cond.selects RX2 yX2_clear yX2_clear, Cond.code yX2_clear cX2_clear 2 (some .int), Cond.methodLink RL 98 yX5_end, Cond.instanceMethod yX5_end, Cond.selects RX5 yX5_end yX5_end, Cond.code yX5_end cX5_end 2 (some .int), Cond.methodLink RL 99 yX4_sum, Cond.instanceMethod yX4_sum]
def wsL_law0_r18 : List Cond := [Cond.selects RX4 yX4_sum yX4_sum, Cond.code yX4_sum cX4_sum 1 (some .int), Cond.fieldLink RX4 130 "TheodoliteRow$Path" "total" "I", Cond.methodLink RL 102 yX5_sum, Cond.instanceMethod yX5_sum, Cond.selects RX5 yX5_sum yX5_sum, Cond.code yX5_sum cX5_sum 1 (some .int), Cond.methodLink RL 103 yX4_isClosed, Cond.instanceMethod yX4_isClosed, Cond.selects RX4 yX4_isClosed yX4_isClosed, Cond.code yX4_isClosed cX4_isClosed 1 (some .boolean), Cond.fieldLink RX4 133 "TheodoliteRow$Path" "first" "I", Cond.methodLink RL 107 yX5_isClosed, Cond.instanceMethod yX5_isClosed, Cond.selects RX5 yX5_isClosed yX5_isClosed, Cond.code yX5_isClosed cX5_isClosed 1 (some .boolean), Cond.methodLink RL 108 yL_height, Cond.static yL_height, Cond.codeWith yL_height cL_height 4 (some .int) [(0, 8, 11, 19)], Cond.methodLink RL 38 yX4_height, Cond.instanceMethod yX4_height, Cond.selects RX4 yX4_height yX4_height, Cond.code yX4_height cX4_height 2 (some .long), Cond.methodLink RX4 136 yX0_heightOf]
def wsL_law0_r19 : List Cond := [Cond.instanceMethod yX0_heightOf, Cond.selects RX0 yX0_heightOf yX0_heightOf, Cond.code yX0_heightOf cX0_heightOf 4 (some .long), Cond.fieldLink RX0 32 "TheodoliteRow$Net" "toldHeight" "[I", Cond.methodLink RL 110 yX5_height, Cond.instanceMethod yX5_height, Cond.selects RX5 yX5_height yX5_height, Cond.code yX5_height cX5_height 2 (some .long), Cond.methodLink RX5 105 yX5_heightOf, Cond.instanceMethod yX5_heightOf, Cond.selects RX5 yX5_heightOf yX5_heightOf, Cond.code yX5_heightOf cX5_heightOf 2 (some .long), Cond.methodLink RL 111 yL_heightAnew, Cond.static yL_heightAnew, Cond.codeWith yL_heightAnew cL_heightAnew 4 (some .int) [(0, 8, 11, 19)], Cond.methodLink RL 42 yX4_heightAnew, Cond.instanceMethod yX4_heightAnew, Cond.selects RX4 yX4_heightAnew yX4_heightAnew, Cond.code yX4_heightAnew cX4_heightAnew 2 (some .long), Cond.methodLink RX4 139 yX3_heightOf, Cond.instanceMethod yX3_heightOf, Cond.selects RX3 yX3_heightOf yX3_heightOf, Cond.code yX3_heightOf cX3_heightOf 4 (some .long), Cond.fieldLink RX3 27 "TheodoliteRow$TreeWalk" "weightedRises" "J"]
def wsL_law0_r20 : List Cond := [Cond.fieldLink RX3 31 "TheodoliteRow$Net" "toldHeight" "[I", Cond.fieldLink RX3 37 "TheodoliteRow$TreeWalk" "datum" "I", Cond.fieldLink RX3 41 "TheodoliteRow$TreeWalk" "weightOfAll" "J", Cond.constantLong RX3 44 (100), Cond.methodLink RX3 23 yX3_walk, Cond.instanceMethod yX3_walk, Cond.selects RX3 yX3_walk yX3_walk, Cond.code yX3_walk cX3_walk 4 none, Cond.fieldLink RX3 58 "TheodoliteRow$TreeWalk" "askedStation" "I", Cond.fieldLink RX3 61 "TheodoliteRow$TreeWalk" "askedObservation" "I", Cond.fieldLink RX3 71 "TheodoliteRow$TreeWalk" "branches" "I", Cond.fieldLink RX3 55 "TheodoliteRow$TreeWalk" "weightOfThoseWithAsked" "J", Cond.fieldLink RX3 74 "TheodoliteRow$Net" "stations" "I", Cond.methodLink RX3 64 yX1_datumOf, Cond.methodLink RX3 68 yX1_countStationsWith, Cond.instanceMethod yX1_countStationsWith, Cond.selects RX1 yX1_countStationsWith yX1_countStationsWith, Cond.code yX1_countStationsWith cX1_countStationsWith 4 (some .int), Cond.methodLink RX3 77 yX3_grow, Cond.static yX3_grow, Cond.code yX3_grow cX3_grow 8 none, Cond.fieldLink RX3 85 "TheodoliteRow$Net" "observations" "I", Cond.fieldLink RX3 95 "TheodoliteRow$Net" "weight" "[I", Cond.methodLink RX3 81 yX3_countTree]
def wsL_law0_r21 : List Cond := [Cond.instanceMethod yX3_countTree, Cond.selects RX3 yX3_countTree yX3_countTree, Cond.code yX3_countTree cX3_countTree 5 none, Cond.methodLink RX3 88 yX3_joinsPieces, Cond.instanceMethod yX3_joinsPieces, Cond.selects RX3 yX3_joinsPieces yX3_joinsPieces, Cond.code yX3_joinsPieces cX3_joinsPieces 3 (some .boolean), Cond.fieldLink RX3 50 "TheodoliteRow$Net" "from" "[I", Cond.fieldLink RX3 101 "TheodoliteRow$Net" "to" "[I", Cond.methodLink RX3 98 yX1_isInPartOf, Cond.methodLink RX3 92 yX3_joinPieces, Cond.instanceMethod yX3_joinPieces, Cond.selects RX3 yX3_joinPieces yX3_joinPieces, Cond.code yX3_joinPieces cX3_joinPieces 8 none, Cond.fieldLink RX3 104 "TheodoliteRow$Net" "difference" "[I", Cond.methodLink RL 113 yX5_heightAnew, Cond.instanceMethod yX5_heightAnew, Cond.selects RX5 yX5_heightAnew yX5_heightAnew, Cond.code yX5_heightAnew cX5_heightAnew 2 (some .long), Cond.methodLink RL 114 yL_free, Cond.static yL_free, Cond.codeWith yL_free cL_free 4 (some .int) [(0, 8, 11, 19)], Cond.methodLink RL 45 yX4_free, Cond.instanceMethod yX4_free]
def wsL_law0_r22 : List Cond := [Cond.selects RX4 yX4_free yX4_free, Cond.code yX4_free cX4_free 2 (some .long), Cond.methodLink RX4 140 yX0_freeHeightOf, Cond.instanceMethod yX0_freeHeightOf, Cond.selects RX0 yX0_freeHeightOf yX0_freeHeightOf, Cond.code yX0_freeHeightOf cX0_freeHeightOf 6 (some .long), Cond.methodLink RL 116 yX5_free, Cond.instanceMethod yX5_free, Cond.selects RX5 yX5_free yX5_free, Cond.code yX5_free cX5_free 7 (some .long), Cond.methodLink RL 117 yL_residual, Cond.static yL_residual, Cond.codeWith yL_residual cL_residual 4 (some .int) [(0, 8, 11, 19), (0, 8, 14, 13)], Cond.methodLink RL 48 yX4_residual, Cond.instanceMethod yX4_residual, Cond.selects RX4 yX4_residual yX4_residual, Cond.code yX4_residual cX4_residual 2 (some .long), Cond.methodLink RX4 143 yX4_needObservationInNet, Cond.instanceMethod yX4_needObservationInNet, Cond.selects RX4 yX4_needObservationInNet yX4_needObservationInNet, Cond.code yX4_needObservationInNet cX4_needObservationInNet 2 none, Cond.fieldLink RX4 173 "TheodoliteRow$Net" "isWithdrawn" "[Z", Cond.methodLink RX4 146 yX0_residualOf, Cond.instanceMethod yX0_residualOf]
def wsL_law0_r23 : List Cond := [Cond.selects RX0 yX0_residualOf yX0_residualOf, Cond.code yX0_residualOf cX0_residualOf 4 (some .long), Cond.methodLink RL 119 yX5_residual, Cond.instanceMethod yX5_residual, Cond.selects RX5 yX5_residual yX5_residual, Cond.code yX5_residual cX5_residual 4 (some .long), Cond.methodLink RX5 109 yX5_isInNet, Cond.instanceMethod yX5_isInNet, Cond.selects RX5 yX5_isInNet yX5_isInNet, Cond.code yX5_isInNet cX5_isInNet 3 (some .boolean), Cond.methodLink RL 120 yL_check, Cond.static yL_check, Cond.codeWith yL_check cL_check 4 (some .int) [(0, 9, 12, 19), (0, 9, 15, 13)], Cond.methodLink RL 51 yX4_check, Cond.instanceMethod yX4_check, Cond.selects RX4 yX4_check yX4_check, Cond.code yX4_check cX4_check 2 (some .int), Cond.methodLink RX4 149 yX0_checkOf, Cond.instanceMethod yX0_checkOf, Cond.selects RX0 yX0_checkOf yX0_checkOf, Cond.code yX0_checkOf cX0_checkOf 2 (some .int), Cond.methodLink RX0 63 yX0_treeWeightOf, Cond.instanceMethod yX0_treeWeightOf, Cond.selects RX0 yX0_treeWeightOf yX0_treeWeightOf]
def wsL_law0_r24 : List Cond := [Cond.code yX0_treeWeightOf cX0_treeWeightOf 2 (some .long), Cond.methodLink RL 122 yX5_check, Cond.instanceMethod yX5_check, Cond.selects RX5 yX5_check yX5_check, Cond.code yX5_check cX5_check 2 (some .int), Cond.methodLink RL 123 yL_checkAnew, Cond.static yL_checkAnew, Cond.codeWith yL_checkAnew cL_checkAnew 4 (some .int) [(0, 9, 12, 19), (0, 9, 15, 13)], Cond.methodLink RL 54 yX4_checkAnew, Cond.instanceMethod yX4_checkAnew, Cond.selects RX4 yX4_checkAnew yX4_checkAnew, Cond.code yX4_checkAnew cX4_checkAnew 2 (some .int), Cond.methodLink RX4 152 yX3_checkOf, Cond.instanceMethod yX3_checkOf, Cond.selects RX3 yX3_checkOf yX3_checkOf, Cond.code yX3_checkOf cX3_checkOf 2 (some .int), Cond.constantLong RX3 53 (1000), Cond.methodLink RL 125 yX5_checkAnew, Cond.instanceMethod yX5_checkAnew, Cond.selects RX5 yX5_checkAnew yX5_checkAnew, Cond.code yX5_checkAnew cX5_checkAnew 2 (some .int), Cond.methodLink RL 126 yL_score, Cond.static yL_score, Cond.codeWith yL_score cL_score 4 (some .int) [(0, 8, 11, 19), (0, 8, 14, 13)]]
def wsL_law0_r25 : List Cond := [Cond.methodLink RL 57 yX4_score, Cond.instanceMethod yX4_score, Cond.selects RX4 yX4_score yX4_score, Cond.code yX4_score cX4_score 2 (some .long), Cond.methodLink RL 128 yX5_score, Cond.instanceMethod yX5_score, Cond.selects RX5 yX5_score yX5_score, Cond.code yX5_score cX5_score 2 (some .long), Cond.methodLink RL 129 yX4_worst, Cond.instanceMethod yX4_worst, Cond.selects RX4 yX4_worst yX4_worst, Cond.code yX4_worst cX4_worst 1 (some .int), Cond.methodLink RL 132 yX5_worst, Cond.instanceMethod yX5_worst, Cond.selects RX5 yX5_worst yX5_worst, Cond.code yX5_worst cX5_worst 1 (some .int), Cond.methodLink RL 133 yL_trees, Cond.static yL_trees, Cond.codeWith yL_trees cL_trees 4 (some .int) [(0, 8, 11, 19)], Cond.methodLink RL 60 yX4_trees, Cond.instanceMethod yX4_trees, Cond.selects RX4 yX4_trees yX4_trees, Cond.code yX4_trees cX4_trees 2 (some .long), Cond.methodLink RX4 153 yX0_treeWeightOf]
def wsL_law0_r26 : List Cond := [Cond.methodLink RL 135 yX5_trees, Cond.instanceMethod yX5_trees, Cond.selects RX5 yX5_trees yX5_trees, Cond.code yX5_trees cX5_trees 2 (some .long), Cond.methodLink RL 136 yX4_parts, Cond.instanceMethod yX4_parts, Cond.selects RX4 yX4_parts yX4_parts, Cond.code yX4_parts cX4_parts 1 (some .int), Cond.methodLink RX4 156 yX1_countParts, Cond.instanceMethod yX1_countParts, Cond.selects RX1 yX1_countParts yX1_countParts, Cond.code yX1_countParts cX1_countParts 3 (some .int), Cond.methodLink RL 139 yX5_parts, Cond.instanceMethod yX5_parts, Cond.selects RX5 yX5_parts yX5_parts, Cond.code yX5_parts cX5_parts 5 (some .int)]
def wsL_law0 : List Cond := (wsL_law0_r1 ++ (wsL_law0_r2 ++ (wsL_law0_r3 ++ (wsL_law0_r4 ++ (wsL_law0_r5 ++ (wsL_law0_r6 ++ (wsL_law0_r7 ++ (wsL_law0_r8 ++ (wsL_law0_r9 ++ (wsL_law0_r10 ++ (wsL_law0_r11 ++ (wsL_law0_r12 ++ (wsL_law0_r13 ++ (wsL_law0_r14 ++ (wsL_law0_r15 ++ (wsL_law0_r16 ++ (wsL_law0_r17 ++ (wsL_law0_r18 ++ (wsL_law0_r19 ++ (wsL_law0_r20 ++ (wsL_law0_r21 ++ (wsL_law0_r22 ++ (wsL_law0_r23 ++ (wsL_law0_r24 ++ (wsL_law0_r25 ++ wsL_law0_r26))))))))))))))))))))))))) ++ wsX40 ++ wsX50 ++ wsX10 ++ wsX00 ++ wsX30 ++ wsX20 ++ ([] : List Cond)
def wsL_law : List Cond := wsL_law0 ++ (vx_atS RX4 47 "java/lang/IllegalStateException" ["java/lang/RuntimeException", "java/lang/Exception"]).filter goodWord ++ (vx_atS RX4 66 "java/lang/IllegalArgumentException" ["java/lang/RuntimeException", "java/lang/Exception"]).filter goodWord ++ (vx_atS RX4 167 "java/lang/IndexOutOfBoundsException" ["java/lang/RuntimeException", "java/lang/Exception"]).filter goodWord
set_option maxRecDepth 20000 in
theorem wsL_law_in0 : ∀ w ∈ wsL_law0, w ∈ lw_tbl := fun w h => (goodIn_p wsL_law0 [54, 57, 62, 119, 147, 186, 660, 325, 397, 401, 405, 408, 411, 724, 728, 720, 420, 424, 428, 447, 467, 732, 736, 739, 474, 482, 743, 489, 493, 497, 502, 747, 751, 509, 241, 245, 298, 249, 253, 257, 261, 265, 270, 274, 278, 282, 286, 290, 294, 301, 304, 308, 844, 840, 829, 815, 767, 771, 775, 783, 787, 807, 763, 779, 832, 519, 524, 528, 533, 537, 849, 853, 221, 225, 857, 229, 861, 233, 865, 544, 548, 755, 759, 555, 559, 563, 568, 571, 575, 579, 584, 791, 593, 597, 795, 604, 608, 613, 799, 803, 620, 624, 628, 811, 635, 639, 821, 647, 825, 237, 836, 654, 869, 313, 317, 873] (by decide +kernel) (by decide +kernel) w h).1
theorem wsL_law_x0 : ∀ w ∈ (vx_atS RX4 47 "java/lang/IllegalStateException" ["java/lang/RuntimeException", "java/lang/Exception"]).filter goodWord, w ∈ lw_tbl := by decide +kernel
theorem wsL_law_x1 : ∀ w ∈ (vx_atS RX4 66 "java/lang/IllegalArgumentException" ["java/lang/RuntimeException", "java/lang/Exception"]).filter goodWord, w ∈ lw_tbl := by decide +kernel
theorem wsL_law_x2 : ∀ w ∈ (vx_atS RX4 167 "java/lang/IndexOutOfBoundsException" ["java/lang/RuntimeException", "java/lang/Exception"]).filter goodWord, w ∈ lw_tbl := by decide +kernel
theorem wsL_law_in : ∀ w ∈ wsL_law, w ∈ lw_tbl := fun w h => (List.mem_append.mp h).elim (fun h => (List.mem_append.mp h).elim (fun h => (List.mem_append.mp h).elim (fun h => wsL_law_in0 w h) (fun h => wsL_law_x0 w h)) (fun h => wsL_law_x1 w h)) (fun h => wsL_law_x2 w h)
theorem inlX0 : ∀ w ∈ wsX00, w ∈ wsL_law := fun _ h => List.mem_append_left _ (List.mem_append_left _ (List.mem_append_left _ (List.mem_append_left _ (List.mem_append_left _ (List.mem_append_left _ (List.mem_append_right _ h))))))
theorem inX0 : ∀ w ∈ wsX00, w ∈ lw_tbl := fun w h => wsL_law_in w (inlX0 w h)
theorem inlX1 : ∀ w ∈ wsX10, w ∈ wsL_law := fun _ h => List.mem_append_left _ (List.mem_append_left _ (List.mem_append_left _ (List.mem_append_left _ (List.mem_append_left _ (List.mem_append_left _ (List.mem_append_left _ (List.mem_append_right _ h)))))))
theorem inX1 : ∀ w ∈ wsX10, w ∈ lw_tbl := fun w h => wsL_law_in w (inlX1 w h)
theorem inlX2 : ∀ w ∈ wsX20, w ∈ wsL_law := fun _ h => List.mem_append_left _ (List.mem_append_left _ (List.mem_append_left _ (List.mem_append_left _ (List.mem_append_right _ h))))
theorem inX2 : ∀ w ∈ wsX20, w ∈ lw_tbl := fun w h => wsL_law_in w (inlX2 w h)
theorem inlX3 : ∀ w ∈ wsX30, w ∈ wsL_law := fun _ h => List.mem_append_left _ (List.mem_append_left _ (List.mem_append_left _ (List.mem_append_left _ (List.mem_append_left _ (List.mem_append_right _ h)))))
theorem inX3 : ∀ w ∈ wsX30, w ∈ lw_tbl := fun w h => wsL_law_in w (inlX3 w h)
theorem inlX4 : ∀ w ∈ wsX40, w ∈ wsL_law := fun _ h => List.mem_append_left _ (List.mem_append_left _ (List.mem_append_left _ (List.mem_append_left _ (List.mem_append_left _ (List.mem_append_left _ (List.mem_append_left _ (List.mem_append_left _ (List.mem_append_left _ (List.mem_append_right _ h)))))))))
theorem inX4 : ∀ w ∈ wsX40, w ∈ lw_tbl := fun w h => wsL_law_in w (inlX4 w h)
theorem inlX5 : ∀ w ∈ wsX50, w ∈ wsL_law := fun _ h => List.mem_append_left _ (List.mem_append_left _ (List.mem_append_left _ (List.mem_append_left _ (List.mem_append_left _ (List.mem_append_left _ (List.mem_append_left _ (List.mem_append_left _ (List.mem_append_right _ h))))))))
theorem inX5 : ∀ w ∈ wsX50, w ∈ lw_tbl := fun w h => wsL_law_in w (inlX5 w h)
theorem inJ9 : ∀ w ∈ wsJ90, w ∈ lw_tbl := by decide +kernel
theorem inJ0 : ∀ w ∈ wsJ00, w ∈ lw_tbl := by decide +kernel
theorem dX0_init_0 : decode cX0_init 0 = .ok (.aload_n 0, 1) := by decide +kernel
theorem dX0_init_1 : decode cX0_init 1 = .ok (.invokespecial 3, 3) := by decide +kernel
theorem dX0_init_4 : decode cX0_init 4 = .ok (.aload_n 0, 1) := by decide +kernel
theorem dX0_init_5 : decode cX0_init 5 = .ok (.aload_n 1, 1) := by decide +kernel
theorem dX0_init_6 : decode cX0_init 6 = .ok (.putfield 9, 3) := by decide +kernel
theorem dX0_init_9 : decode cX0_init 9 = .ok (.aload_n 0, 1) := by decide +kernel
theorem dX0_init_10 : decode cX0_init 10 = .ok (.bipush 6, 2) := by decide +kernel
theorem dX0_init_12 : decode cX0_init 12 = .ok (.newarray .int, 2) := by decide +kernel
theorem dX0_init_14 : decode cX0_init 14 = .ok (.putfield 15, 3) := by decide +kernel
theorem dX0_init_17 : decode cX0_init 17 = .ok (.aload_n 0, 1) := by decide +kernel
theorem dX0_init_18 : decode cX0_init 18 = .ok (.iconst 5, 1) := by decide +kernel
theorem dX0_init_19 : decode cX0_init 19 = .ok (.bipush 6, 2) := by decide +kernel
theorem dX0_init_21 : decode cX0_init 21 = .ok (.multianewarray 19 2, 4) := by decide +kernel
theorem dX0_init_25 : decode cX0_init 25 = .ok (.putfield 21, 3) := by decide +kernel
theorem dX0_init_28 : decode cX0_init 28 = .ok (.return_, 1) := by decide +kernel
set_option maxRecDepth 20000 in
theorem ggX0_heightOf_X0_solve : GoodIn wsX0_heightOf wsX0_solve := goodIn_r _ [10, 1, 3, 11, 12, 13, 14, 15, 16, 17, 18, 19, 20, 21, 22, 23, 24, 25, 26, 9, 27, 28, 29, 30, 31, 32, 33, 34, 35, 36, 37, 38, 39, 40, 41, 42, 43, 44, 45, 46, 47, 48, 49, 50, 51, 52, 53, 54, 55, 56, 57, 58, 4, 59, 60, 61, 62, 74, 75, 76, 77, 78, 79, 80, 81, 82, 83, 84, 85, 86, 87, 88, 89] (by decide +kernel) (by decide +kernel)
set_option maxRecDepth 20000 in
theorem gX0_heightOf_X0_solve : GoodIn wsX0_heightOf (wsV RX0 24 RX0 yX0_solve wsX0_solve) := goodIn_app (goodIn_of _ (by decide +kernel)) ggX0_heightOf_X0_solve
set_option maxRecDepth 20000 in
theorem ggX0_heightOf_X0_riseOf : GoodIn wsX0_heightOf wsX0_riseOf := goodIn_r _ [66, 30, 36, 74, 75, 76, 77, 78, 79] (by decide +kernel) (by decide +kernel)
set_option maxRecDepth 20000 in
theorem gX0_heightOf_X0_riseOf : GoodIn wsX0_heightOf (wsV RX0 28 RX0 yX0_riseOf wsX0_riseOf) := goodIn_app (goodIn_of _ (by decide +kernel)) ggX0_heightOf_X0_riseOf
set_option maxRecDepth 20000 in
theorem ggX0_heightOf_X4_roundedDown : GoodIn wsX0_heightOf wsX4_roundedDown := goodIn_r _ [69, 70, 71, 72, 73] (by decide +kernel) (by decide +kernel)
set_option maxRecDepth 20000 in
theorem gX0_heightOf_X4_roundedDown_n47 : GoodIn wsX0_heightOf (wsX4_roundedDown) := ggX0_heightOf_X4_roundedDown
theorem dX0_heightOf_0 : decode cX0_heightOf 0 = .ok (.aload_n 0, 1) := by decide +kernel
theorem dX0_heightOf_1 : decode cX0_heightOf 1 = .ok (.iload_n 1, 1) := by decide +kernel
theorem dX0_heightOf_2 : decode cX0_heightOf 2 = .ok (.iconst (-1), 1) := by decide +kernel
theorem dX0_heightOf_3 : decode cX0_heightOf 3 = .ok (.invokevirtual 24, 3) := by decide +kernel
theorem dX0_heightOf_6 : decode cX0_heightOf 6 = .ok (.aload_n 0, 1) := by decide +kernel
theorem dX0_heightOf_7 : decode cX0_heightOf 7 = .ok (.iload_n 1, 1) := by decide +kernel
theorem dX0_heightOf_8 : decode cX0_heightOf 8 = .ok (.invokevirtual 28, 3) := by decide +kernel
theorem dX0_heightOf_11 : decode cX0_heightOf 11 = .ok (.aload_n 0, 1) := by decide +kernel
theorem dX0_heightOf_12 : decode cX0_heightOf 12 = .ok (.getfield 9, 3) := by decide +kernel
theorem dX0_heightOf_15 : decode cX0_heightOf 15 = .ok (.getfield 32, 3) := by decide +kernel
theorem dX0_heightOf_18 : decode cX0_heightOf 18 = .ok (.aload_n 0, 1) := by decide +kernel
theorem dX0_heightOf_19 : decode cX0_heightOf 19 = .ok (.getfield 37, 3) := by decide +kernel
theorem dX0_heightOf_22 : decode cX0_heightOf 22 = .ok (.iaload, 1) := by decide +kernel
theorem dX0_heightOf_23 : decode cX0_heightOf 23 = .ok (.i2l, 1) := by decide +kernel
theorem dX0_heightOf_24 : decode cX0_heightOf 24 = .ok (.aload_n 0, 1) := by decide +kernel
theorem dX0_heightOf_25 : decode cX0_heightOf 25 = .ok (.getfield 41, 3) := by decide +kernel
theorem dX0_heightOf_28 : decode cX0_heightOf 28 = .ok (.lmul, 1) := by decide +kernel
theorem dX0_heightOf_29 : decode cX0_heightOf 29 = .ok (.ladd, 1) := by decide +kernel
theorem dX0_heightOf_30 : decode cX0_heightOf 30 = .ok (.lstore_n 2, 1) := by decide +kernel
theorem dX0_heightOf_31 : decode cX0_heightOf 31 = .ok (.ldc2_w 45, 3) := by decide +kernel
theorem dX0_heightOf_34 : decode cX0_heightOf 34 = .ok (.lload_n 2, 1) := by decide +kernel
theorem dX0_heightOf_35 : decode cX0_heightOf 35 = .ok (.lmul, 1) := by decide +kernel
theorem dX0_heightOf_36 : decode cX0_heightOf 36 = .ok (.aload_n 0, 1) := by decide +kernel
theorem dX0_heightOf_37 : decode cX0_heightOf 37 = .ok (.getfield 41, 3) := by decide +kernel
theorem dX0_heightOf_40 : decode cX0_heightOf 40 = .ok (.invokestatic 47, 3) := by decide +kernel
theorem dX0_heightOf_43 : decode cX0_heightOf 43 = .ok (.lreturn, 1) := by decide +kernel
set_option maxRecDepth 20000 in
theorem ggX0_freeHeightOf_X0_solve : GoodIn wsX0_freeHeightOf wsX0_solve := goodIn_r _ [10, 1, 11, 12, 13, 14, 15, 16, 17, 18, 19, 20, 21, 22, 23, 24, 25, 26, 27, 9, 28, 3, 2, 29, 30, 31, 32, 33, 34, 35, 36, 37, 38, 39, 40, 41, 42, 43, 44, 45, 46, 47, 48, 49, 50, 51, 52, 53, 54, 55, 56, 57, 5, 58, 59, 60, 61, 73, 74, 75, 76, 77, 78, 79, 80, 81, 82, 83, 84, 85, 86, 87, 88] (by decide +kernel) (by decide +kernel)
set_option maxRecDepth 20000 in
theorem gX0_freeHeightOf_X0_solve : GoodIn wsX0_freeHeightOf (wsV RX0 24 RX0 yX0_solve wsX0_solve) := goodIn_app (goodIn_of _ (by decide +kernel)) ggX0_freeHeightOf_X0_solve
set_option maxRecDepth 20000 in
theorem ggX0_freeHeightOf_X0_riseOf : GoodIn wsX0_freeHeightOf wsX0_riseOf := goodIn_r _ [65, 29, 35, 73, 74, 75, 76, 77, 78] (by decide +kernel) (by decide +kernel)
set_option maxRecDepth 20000 in
theorem gX0_freeHeightOf_X0_riseOf : GoodIn wsX0_freeHeightOf (wsV RX0 28 RX0 yX0_riseOf wsX0_riseOf) := goodIn_app (goodIn_of _ (by decide +kernel)) ggX0_freeHeightOf_X0_riseOf
set_option maxRecDepth 20000 in
theorem ggX0_freeHeightOf_X4_roundedDown : GoodIn wsX0_freeHeightOf wsX4_roundedDown := goodIn_r _ [68, 69, 70, 71, 72] (by decide +kernel) (by decide +kernel)
set_option maxRecDepth 20000 in
theorem gX0_freeHeightOf_X4_roundedDown_n47 : GoodIn wsX0_freeHeightOf (wsX4_roundedDown) := ggX0_freeHeightOf_X4_roundedDown
theorem dX0_freeHeightOf_0 : decode cX0_freeHeightOf 0 = .ok (.aload_n 0, 1) := by decide +kernel
theorem dX0_freeHeightOf_1 : decode cX0_freeHeightOf 1 = .ok (.iload_n 1, 1) := by decide +kernel
theorem dX0_freeHeightOf_2 : decode cX0_freeHeightOf 2 = .ok (.iconst (-1), 1) := by decide +kernel
theorem dX0_freeHeightOf_3 : decode cX0_freeHeightOf 3 = .ok (.invokevirtual 24, 3) := by decide +kernel
theorem dX0_freeHeightOf_6 : decode cX0_freeHeightOf 6 = .ok (.lconst 0, 1) := by decide +kernel
theorem dX0_freeHeightOf_7 : decode cX0_freeHeightOf 7 = .ok (.lstore_n 2, 1) := by decide +kernel
theorem dX0_freeHeightOf_8 : decode cX0_freeHeightOf 8 = .ok (.iconst 0, 1) := by decide +kernel
theorem dX0_freeHeightOf_9 : decode cX0_freeHeightOf 9 = .ok (.istore 4, 2) := by decide +kernel
theorem dX0_freeHeightOf_11 : decode cX0_freeHeightOf 11 = .ok (.iload 4, 2) := by decide +kernel
theorem dX0_freeHeightOf_13 : decode cX0_freeHeightOf 13 = .ok (.aload_n 0, 1) := by decide +kernel
theorem dX0_freeHeightOf_14 : decode cX0_freeHeightOf 14 = .ok (.getfield 9, 3) := by decide +kernel
theorem dX0_freeHeightOf_17 : decode cX0_freeHeightOf 17 = .ok (.getfield 51, 3) := by decide +kernel
theorem dX0_freeHeightOf_20 : decode cX0_freeHeightOf 20 = .ok (.if_icmp .ge 18, 3) := by decide +kernel
theorem dX0_freeHeightOf_23 : decode cX0_freeHeightOf 23 = .ok (.lload_n 2, 1) := by decide +kernel
theorem dX0_freeHeightOf_24 : decode cX0_freeHeightOf 24 = .ok (.aload_n 0, 1) := by decide +kernel
theorem dX0_freeHeightOf_25 : decode cX0_freeHeightOf 25 = .ok (.iload 4, 2) := by decide +kernel
theorem dX0_freeHeightOf_27 : decode cX0_freeHeightOf 27 = .ok (.invokevirtual 28, 3) := by decide +kernel
theorem dX0_freeHeightOf_30 : decode cX0_freeHeightOf 30 = .ok (.ladd, 1) := by decide +kernel
theorem dX0_freeHeightOf_31 : decode cX0_freeHeightOf 31 = .ok (.lstore_n 2, 1) := by decide +kernel
theorem dX0_freeHeightOf_32 : decode cX0_freeHeightOf 32 = .ok (.iinc 4 1, 3) := by decide +kernel
theorem dX0_freeHeightOf_35 : decode cX0_freeHeightOf 35 = .ok (.goto (-24), 3) := by decide +kernel
theorem dX0_freeHeightOf_38 : decode cX0_freeHeightOf 38 = .ok (.aload_n 0, 1) := by decide +kernel
theorem dX0_freeHeightOf_39 : decode cX0_freeHeightOf 39 = .ok (.getfield 54, 3) := by decide +kernel
theorem dX0_freeHeightOf_42 : decode cX0_freeHeightOf 42 = .ok (.i2l, 1) := by decide +kernel
theorem dX0_freeHeightOf_43 : decode cX0_freeHeightOf 43 = .ok (.lconst 1, 1) := by decide +kernel
theorem dX0_freeHeightOf_44 : decode cX0_freeHeightOf 44 = .ok (.ladd, 1) := by decide +kernel
theorem dX0_freeHeightOf_45 : decode cX0_freeHeightOf 45 = .ok (.lstore 4, 2) := by decide +kernel
theorem dX0_freeHeightOf_47 : decode cX0_freeHeightOf 47 = .ok (.ldc2_w 45, 3) := by decide +kernel
theorem dX0_freeHeightOf_50 : decode cX0_freeHeightOf 50 = .ok (.lload 4, 2) := by decide +kernel
theorem dX0_freeHeightOf_52 : decode cX0_freeHeightOf 52 = .ok (.aload_n 0, 1) := by decide +kernel
theorem dX0_freeHeightOf_53 : decode cX0_freeHeightOf 53 = .ok (.iload_n 1, 1) := by decide +kernel
theorem dX0_freeHeightOf_54 : decode cX0_freeHeightOf 54 = .ok (.invokevirtual 28, 3) := by decide +kernel
theorem dX0_freeHeightOf_57 : decode cX0_freeHeightOf 57 = .ok (.lmul, 1) := by decide +kernel
theorem dX0_freeHeightOf_58 : decode cX0_freeHeightOf 58 = .ok (.lload_n 2, 1) := by decide +kernel
theorem dX0_freeHeightOf_59 : decode cX0_freeHeightOf 59 = .ok (.lsub, 1) := by decide +kernel
theorem dX0_freeHeightOf_60 : decode cX0_freeHeightOf 60 = .ok (.lmul, 1) := by decide +kernel
theorem dX0_freeHeightOf_61 : decode cX0_freeHeightOf 61 = .ok (.lload 4, 2) := by decide +kernel
theorem dX0_freeHeightOf_63 : decode cX0_freeHeightOf 63 = .ok (.aload_n 0, 1) := by decide +kernel
theorem dX0_freeHeightOf_64 : decode cX0_freeHeightOf 64 = .ok (.getfield 41, 3) := by decide +kernel
theorem dX0_freeHeightOf_67 : decode cX0_freeHeightOf 67 = .ok (.lmul, 1) := by decide +kernel
theorem dX0_freeHeightOf_68 : decode cX0_freeHeightOf 68 = .ok (.invokestatic 47, 3) := by decide +kernel
theorem dX0_freeHeightOf_71 : decode cX0_freeHeightOf 71 = .ok (.lreturn, 1) := by decide +kernel
set_option maxRecDepth 20000 in
theorem ggX0_treeWeightOf_X0_solve : GoodIn wsX0_treeWeightOf wsX0_solve := goodIn_r _ [6, 7, 8, 9, 10, 11, 12, 13, 14, 15, 16, 17, 18, 19, 20, 21, 22, 23, 24, 5, 25, 26, 27, 28, 29, 30, 31, 32, 33, 34, 35, 36, 37, 38, 39, 40, 41, 42, 43, 44, 45, 46, 47, 48, 49, 50, 51, 52, 53, 54, 55, 56, 1, 57, 58, 59, 60, 61, 62, 63, 64, 65, 66, 67, 68, 69, 70, 71, 72, 73, 74, 75, 76] (by decide +kernel) (by decide +kernel)
set_option maxRecDepth 20000 in
theorem gX0_treeWeightOf_X0_solve : GoodIn wsX0_treeWeightOf (wsV RX0 24 RX0 yX0_solve wsX0_solve) := goodIn_app (goodIn_of _ (by decide +kernel)) ggX0_treeWeightOf_X0_solve
theorem dX0_treeWeightOf_0 : decode cX0_treeWeightOf 0 = .ok (.aload_n 0, 1) := by decide +kernel
theorem dX0_treeWeightOf_1 : decode cX0_treeWeightOf 1 = .ok (.iload_n 1, 1) := by decide +kernel
theorem dX0_treeWeightOf_2 : decode cX0_treeWeightOf 2 = .ok (.iconst (-1), 1) := by decide +kernel
theorem dX0_treeWeightOf_3 : decode cX0_treeWeightOf 3 = .ok (.invokevirtual 24, 3) := by decide +kernel
theorem dX0_treeWeightOf_6 : decode cX0_treeWeightOf 6 = .ok (.aload_n 0, 1) := by decide +kernel
theorem dX0_treeWeightOf_7 : decode cX0_treeWeightOf 7 = .ok (.getfield 41, 3) := by decide +kernel
theorem dX0_treeWeightOf_10 : decode cX0_treeWeightOf 10 = .ok (.lreturn, 1) := by decide +kernel
set_option maxRecDepth 20000 in
theorem ggX0_residualOf_X0_misfitOf : GoodIn wsX0_residualOf wsX0_misfitOf := goodIn_r _ [7, 8, 9, 10, 11, 2, 12, 13, 14, 6, 15, 16, 17, 18, 19, 20, 21, 22, 23, 24, 25, 26, 27, 28, 29, 30, 31, 32, 33, 34, 35, 36, 37, 38, 39, 40, 41, 42, 43, 44, 45, 46, 47, 48, 49, 50, 51, 52, 53, 54, 55, 56, 57, 58, 59, 60, 61, 62, 63, 64, 65, 66, 67, 68, 69, 77, 78, 79, 80, 81, 82, 83, 84, 85, 86, 87, 88, 89, 90, 91, 92] (by decide +kernel) (by decide +kernel)
set_option maxRecDepth 20000 in
theorem gX0_residualOf_X0_misfitOf : GoodIn wsX0_residualOf (wsV RX0 57 RX0 yX0_misfitOf wsX0_misfitOf) := goodIn_app (goodIn_of _ (by decide +kernel)) ggX0_residualOf_X0_misfitOf
set_option maxRecDepth 20000 in
theorem ggX0_residualOf_X4_roundedDown : GoodIn wsX0_residualOf wsX4_roundedDown := goodIn_r _ [72, 73, 74, 75, 76] (by decide +kernel) (by decide +kernel)
set_option maxRecDepth 20000 in
theorem gX0_residualOf_X4_roundedDown_n47 : GoodIn wsX0_residualOf (wsX4_roundedDown) := ggX0_residualOf_X4_roundedDown
theorem dX0_residualOf_0 : decode cX0_residualOf 0 = .ok (.aload_n 0, 1) := by decide +kernel
theorem dX0_residualOf_1 : decode cX0_residualOf 1 = .ok (.iload_n 1, 1) := by decide +kernel
theorem dX0_residualOf_2 : decode cX0_residualOf 2 = .ok (.invokevirtual 57, 3) := by decide +kernel
theorem dX0_residualOf_5 : decode cX0_residualOf 5 = .ok (.lstore_n 2, 1) := by decide +kernel
theorem dX0_residualOf_6 : decode cX0_residualOf 6 = .ok (.ldc2_w 45, 3) := by decide +kernel
theorem dX0_residualOf_9 : decode cX0_residualOf 9 = .ok (.lload_n 2, 1) := by decide +kernel
theorem dX0_residualOf_10 : decode cX0_residualOf 10 = .ok (.lmul, 1) := by decide +kernel
theorem dX0_residualOf_11 : decode cX0_residualOf 11 = .ok (.aload_n 0, 1) := by decide +kernel
theorem dX0_residualOf_12 : decode cX0_residualOf 12 = .ok (.getfield 41, 3) := by decide +kernel
theorem dX0_residualOf_15 : decode cX0_residualOf 15 = .ok (.invokestatic 47, 3) := by decide +kernel
theorem dX0_residualOf_18 : decode cX0_residualOf 18 = .ok (.lreturn, 1) := by decide +kernel
set_option maxRecDepth 20000 in
theorem ggX0_checkOf_X0_treeWeightOf : GoodIn wsX0_checkOf wsX0_treeWeightOf := goodIn_r _ [7, 8, 9, 10, 11, 6, 12, 1, 13, 14, 15, 16, 17, 18, 19, 20, 21, 22, 23, 24, 25, 26, 27, 28, 29, 30, 31, 32, 33, 34, 35, 36, 37, 38, 39, 40, 41, 42, 43, 44, 45, 46, 47, 48, 49, 2, 50, 51, 52, 53, 54, 55, 56, 57, 58, 59, 60, 61, 62, 63, 64, 77, 78, 79, 80, 81, 82, 83, 84, 85, 86, 87, 88, 89, 90, 91, 92] (by decide +kernel) (by decide +kernel)
set_option maxRecDepth 20000 in
theorem gX0_checkOf_X0_treeWeightOf : GoodIn wsX0_checkOf (wsV RX0 63 RX0 yX0_treeWeightOf wsX0_treeWeightOf) := goodIn_app (goodIn_of _ (by decide +kernel)) ggX0_checkOf_X0_treeWeightOf
set_option maxRecDepth 20000 in
theorem ggX0_checkOf_X0_checkAgainst : GoodIn wsX0_checkOf wsX0_checkAgainst := goodIn_r _ [68, 1, 2, 69, 8, 9, 10, 11, 6, 12, 13, 14, 15, 16, 17, 18, 19, 20, 21, 22, 23, 24, 25, 26, 27, 28, 29, 30, 31, 32, 33, 34, 35, 36, 37, 38, 39, 40, 41, 42, 43, 44, 45, 46, 47, 48, 49, 50, 51, 52, 53, 54, 55, 56, 57, 58, 59, 60, 61, 62, 63, 64, 70, 71, 72, 73, 74, 75, 76, 77, 78, 79, 80, 81, 82, 83, 84, 85, 86, 87, 88, 89, 90, 91, 92] (by decide +kernel) (by decide +kernel)
set_option maxRecDepth 20000 in
theorem gX0_checkOf_X0_checkAgainst : GoodIn wsX0_checkOf (wsV RX0 66 RX0 yX0_checkAgainst wsX0_checkAgainst) := goodIn_app (goodIn_of _ (by decide +kernel)) ggX0_checkOf_X0_checkAgainst
theorem dX0_checkOf_0 : decode cX0_checkOf 0 = .ok (.aload_n 0, 1) := by decide +kernel
theorem dX0_checkOf_1 : decode cX0_checkOf 1 = .ok (.iload_n 1, 1) := by decide +kernel
theorem dX0_checkOf_2 : decode cX0_checkOf 2 = .ok (.aload_n 0, 1) := by decide +kernel
theorem dX0_checkOf_3 : decode cX0_checkOf 3 = .ok (.aload_n 0, 1) := by decide +kernel
theorem dX0_checkOf_4 : decode cX0_checkOf 4 = .ok (.getfield 9, 3) := by decide +kernel
theorem dX0_checkOf_7 : decode cX0_checkOf 7 = .ok (.getfield 60, 3) := by decide +kernel
theorem dX0_checkOf_10 : decode cX0_checkOf 10 = .ok (.iload_n 1, 1) := by decide +kernel
theorem dX0_checkOf_11 : decode cX0_checkOf 11 = .ok (.iaload, 1) := by decide +kernel
theorem dX0_checkOf_12 : decode cX0_checkOf 12 = .ok (.invokevirtual 63, 3) := by decide +kernel
theorem dX0_checkOf_15 : decode cX0_checkOf 15 = .ok (.invokevirtual 66, 3) := by decide +kernel
theorem dX0_checkOf_18 : decode cX0_checkOf 18 = .ok (.ireturn, 1) := by decide +kernel
set_option maxRecDepth 20000 in
theorem ggX0_scoreOf_X0_misfitOf : GoodIn wsX0_scoreOf wsX0_misfitOf := goodIn_r _ [13, 7, 14, 15, 16, 6, 17, 18, 19, 12, 20, 21, 22, 23, 24, 25, 26, 27, 28, 29, 30, 31, 32, 33, 34, 35, 36, 37, 38, 39, 40, 41, 42, 43, 44, 45, 46, 47, 48, 49, 50, 51, 52, 53, 54, 55, 56, 57, 8, 58, 59, 60, 61, 62, 63, 64, 65, 66, 67, 68, 69, 70, 71, 72, 73, 86, 87, 88, 89, 90, 91, 92, 93, 94, 95, 96, 97, 98, 99, 100, 101] (by decide +kernel) (by decide +kernel)
set_option maxRecDepth 20000 in
theorem gX0_scoreOf_X0_misfitOf : GoodIn wsX0_scoreOf (wsV RX0 57 RX0 yX0_misfitOf wsX0_misfitOf) := goodIn_app (goodIn_of _ (by decide +kernel)) ggX0_scoreOf_X0_misfitOf
set_option maxRecDepth 20000 in
theorem ggX0_scoreOf_X4_roundedDown : GoodIn wsX0_scoreOf wsX4_roundedDown := goodIn_r _ [76, 77, 78, 79, 80] (by decide +kernel) (by decide +kernel)
set_option maxRecDepth 20000 in
theorem gX0_scoreOf_X4_roundedDown_n47 : GoodIn wsX0_scoreOf (wsX4_roundedDown) := ggX0_scoreOf_X4_roundedDown
set_option maxRecDepth 20000 in
theorem ggX0_scoreOf_X0_checkAgainst : GoodIn wsX0_scoreOf wsX0_checkAgainst := goodIn_r _ [84, 7, 14, 85, 6, 17, 18, 19, 12, 20, 21, 22, 23, 24, 25, 26, 27, 28, 29, 30, 31, 32, 33, 34, 35, 36, 37, 38, 39, 40, 41, 42, 43, 44, 45, 46, 47, 48, 49, 50, 51, 52, 53, 54, 55, 56, 57, 15, 8, 16, 58, 59, 60, 61, 62, 63, 64, 65, 66, 67, 68, 69, 74, 75, 76, 77, 78, 79, 80, 86, 87, 88, 89, 90, 91, 92, 93, 94, 95, 96, 97, 98, 99, 100, 101] (by decide +kernel) (by decide +kernel)
set_option maxRecDepth 20000 in
theorem gX0_scoreOf_X0_checkAgainst : GoodIn wsX0_scoreOf (wsV RX0 66 RX0 yX0_checkAgainst wsX0_checkAgainst) := goodIn_app (goodIn_of _ (by decide +kernel)) ggX0_scoreOf_X0_checkAgainst
theorem dX0_scoreOf_0 : decode cX0_scoreOf 0 = .ok (.aload_n 0, 1) := by decide +kernel
theorem dX0_scoreOf_1 : decode cX0_scoreOf 1 = .ok (.iload_n 1, 1) := by decide +kernel
theorem dX0_scoreOf_2 : decode cX0_scoreOf 2 = .ok (.invokevirtual 57, 3) := by decide +kernel
theorem dX0_scoreOf_5 : decode cX0_scoreOf 5 = .ok (.lstore_n 2, 1) := by decide +kernel
theorem dX0_scoreOf_6 : decode cX0_scoreOf 6 = .ok (.ldc2_w 45, 3) := by decide +kernel
theorem dX0_scoreOf_9 : decode cX0_scoreOf 9 = .ok (.lload_n 2, 1) := by decide +kernel
theorem dX0_scoreOf_10 : decode cX0_scoreOf 10 = .ok (.invokestatic 70, 3) := by decide +kernel
theorem dX0_scoreOf_13 : decode cX0_scoreOf 13 = .ok (.lmul, 1) := by decide +kernel
theorem dX0_scoreOf_14 : decode cX0_scoreOf 14 = .ok (.aload_n 0, 1) := by decide +kernel
theorem dX0_scoreOf_15 : decode cX0_scoreOf 15 = .ok (.getfield 41, 3) := by decide +kernel
theorem dX0_scoreOf_18 : decode cX0_scoreOf 18 = .ok (.invokestatic 47, 3) := by decide +kernel
theorem dX0_scoreOf_21 : decode cX0_scoreOf 21 = .ok (.lstore 4, 2) := by decide +kernel
theorem dX0_scoreOf_23 : decode cX0_scoreOf 23 = .ok (.aload_n 0, 1) := by decide +kernel
theorem dX0_scoreOf_24 : decode cX0_scoreOf 24 = .ok (.iload_n 1, 1) := by decide +kernel
theorem dX0_scoreOf_25 : decode cX0_scoreOf 25 = .ok (.aload_n 0, 1) := by decide +kernel
theorem dX0_scoreOf_26 : decode cX0_scoreOf 26 = .ok (.getfield 41, 3) := by decide +kernel
theorem dX0_scoreOf_29 : decode cX0_scoreOf 29 = .ok (.invokevirtual 66, 3) := by decide +kernel
theorem dX0_scoreOf_32 : decode cX0_scoreOf 32 = .ok (.istore 6, 2) := by decide +kernel
theorem dX0_scoreOf_34 : decode cX0_scoreOf 34 = .ok (.iload 6, 2) := by decide +kernel
theorem dX0_scoreOf_36 : decode cX0_scoreOf 36 = .ok (.ifCond .ne 5, 3) := by decide +kernel
theorem dX0_scoreOf_39 : decode cX0_scoreOf 39 = .ok (.lconst 0, 1) := by decide +kernel
theorem dX0_scoreOf_40 : decode cX0_scoreOf 40 = .ok (.lreturn, 1) := by decide +kernel
theorem dX0_scoreOf_41 : decode cX0_scoreOf 41 = .ok (.lload 4, 2) := by decide +kernel
theorem dX0_scoreOf_43 : decode cX0_scoreOf 43 = .ok (.lload 4, 2) := by decide +kernel
theorem dX0_scoreOf_45 : decode cX0_scoreOf 45 = .ok (.lmul, 1) := by decide +kernel
theorem dX0_scoreOf_46 : decode cX0_scoreOf 46 = .ok (.aload_n 0, 1) := by decide +kernel
theorem dX0_scoreOf_47 : decode cX0_scoreOf 47 = .ok (.getfield 9, 3) := by decide +kernel
theorem dX0_scoreOf_50 : decode cX0_scoreOf 50 = .ok (.getfield 76, 3) := by decide +kernel
theorem dX0_scoreOf_53 : decode cX0_scoreOf 53 = .ok (.iload_n 1, 1) := by decide +kernel
theorem dX0_scoreOf_54 : decode cX0_scoreOf 54 = .ok (.iaload, 1) := by decide +kernel
theorem dX0_scoreOf_55 : decode cX0_scoreOf 55 = .ok (.i2l, 1) := by decide +kernel
theorem dX0_scoreOf_56 : decode cX0_scoreOf 56 = .ok (.lmul, 1) := by decide +kernel
theorem dX0_scoreOf_57 : decode cX0_scoreOf 57 = .ok (.iload 6, 2) := by decide +kernel
theorem dX0_scoreOf_59 : decode cX0_scoreOf 59 = .ok (.i2l, 1) := by decide +kernel
theorem dX0_scoreOf_60 : decode cX0_scoreOf 60 = .ok (.invokestatic 47, 3) := by decide +kernel
theorem dX0_scoreOf_63 : decode cX0_scoreOf 63 = .ok (.lreturn, 1) := by decide +kernel
set_option maxRecDepth 20000 in
theorem ggX0_worstObservation_X0_scoreOf : GoodIn wsX0_worstObservation wsX0_scoreOf := goodIn_r _ [8, 9, 10, 11, 12, 13, 14, 1, 15, 16, 17, 18, 7, 19, 20, 21, 22, 23, 24, 25, 26, 27, 2, 28, 29, 30, 31, 32, 33, 34, 35, 36, 37, 38, 39, 40, 41, 42, 43, 44, 45, 46, 47, 48, 49, 50, 51, 52, 53, 54, 55, 56, 57, 58, 59, 60, 61, 62, 63, 64, 65, 66, 67, 68, 69, 70, 71, 72, 73, 74, 75, 76, 77, 78, 79, 80, 81, 82, 83, 84, 85, 86, 87, 88, 89, 90, 91, 92, 93, 94, 95, 96, 97, 98, 99, 100, 101, 102, 103, 104, 105, 106] (by decide +kernel) (by decide +kernel)
set_option maxRecDepth 20000 in
theorem gX0_worstObservation_X0_scoreOf : GoodIn wsX0_worstObservation (wsV RX0 86 RX0 yX0_scoreOf wsX0_scoreOf) := goodIn_app (goodIn_of _ (by decide +kernel)) ggX0_worstObservation_X0_scoreOf
theorem dX0_worstObservation_0 : decode cX0_worstObservation 0 = .ok (.iconst (-1), 1) := by decide +kernel
theorem dX0_worstObservation_1 : decode cX0_worstObservation 1 = .ok (.istore_n 1, 1) := by decide +kernel
theorem dX0_worstObservation_2 : decode cX0_worstObservation 2 = .ok (.lconst 0, 1) := by decide +kernel
theorem dX0_worstObservation_3 : decode cX0_worstObservation 3 = .ok (.lstore_n 2, 1) := by decide +kernel
theorem dX0_worstObservation_4 : decode cX0_worstObservation 4 = .ok (.iconst 0, 1) := by decide +kernel
theorem dX0_worstObservation_5 : decode cX0_worstObservation 5 = .ok (.istore 4, 2) := by decide +kernel
theorem dX0_worstObservation_7 : decode cX0_worstObservation 7 = .ok (.iload 4, 2) := by decide +kernel
theorem dX0_worstObservation_9 : decode cX0_worstObservation 9 = .ok (.aload_n 0, 1) := by decide +kernel
theorem dX0_worstObservation_10 : decode cX0_worstObservation 10 = .ok (.getfield 9, 3) := by decide +kernel
theorem dX0_worstObservation_13 : decode cX0_worstObservation 13 = .ok (.getfield 79, 3) := by decide +kernel
theorem dX0_worstObservation_16 : decode cX0_worstObservation 16 = .ok (.if_icmp .ge 47, 3) := by decide +kernel
theorem dX0_worstObservation_19 : decode cX0_worstObservation 19 = .ok (.aload_n 0, 1) := by decide +kernel
theorem dX0_worstObservation_20 : decode cX0_worstObservation 20 = .ok (.getfield 9, 3) := by decide +kernel
theorem dX0_worstObservation_23 : decode cX0_worstObservation 23 = .ok (.getfield 82, 3) := by decide +kernel
theorem dX0_worstObservation_26 : decode cX0_worstObservation 26 = .ok (.iload 4, 2) := by decide +kernel
theorem dX0_worstObservation_28 : decode cX0_worstObservation 28 = .ok (.baload, 1) := by decide +kernel
theorem dX0_worstObservation_29 : decode cX0_worstObservation 29 = .ok (.ifCond .eq 7, 3) := by decide +kernel
theorem dX0_worstObservation_32 : decode cX0_worstObservation 32 = .ok (.lconst 0, 1) := by decide +kernel
theorem dX0_worstObservation_33 : decode cX0_worstObservation 33 = .ok (.goto 9, 3) := by decide +kernel
theorem dX0_worstObservation_36 : decode cX0_worstObservation 36 = .ok (.aload_n 0, 1) := by decide +kernel
theorem dX0_worstObservation_37 : decode cX0_worstObservation 37 = .ok (.iload 4, 2) := by decide +kernel
theorem dX0_worstObservation_39 : decode cX0_worstObservation 39 = .ok (.invokevirtual 86, 3) := by decide +kernel
theorem dX0_worstObservation_42 : decode cX0_worstObservation 42 = .ok (.lstore 5, 2) := by decide +kernel
theorem dX0_worstObservation_44 : decode cX0_worstObservation 44 = .ok (.lload 5, 2) := by decide +kernel
theorem dX0_worstObservation_46 : decode cX0_worstObservation 46 = .ok (.lload_n 2, 1) := by decide +kernel
theorem dX0_worstObservation_47 : decode cX0_worstObservation 47 = .ok (.lcmp, 1) := by decide +kernel
theorem dX0_worstObservation_48 : decode cX0_worstObservation 48 = .ok (.ifCond .le 9, 3) := by decide +kernel
theorem dX0_worstObservation_51 : decode cX0_worstObservation 51 = .ok (.iload 4, 2) := by decide +kernel
theorem dX0_worstObservation_53 : decode cX0_worstObservation 53 = .ok (.istore_n 1, 1) := by decide +kernel
theorem dX0_worstObservation_54 : decode cX0_worstObservation 54 = .ok (.lload 5, 2) := by decide +kernel
theorem dX0_worstObservation_56 : decode cX0_worstObservation 56 = .ok (.lstore_n 2, 1) := by decide +kernel
theorem dX0_worstObservation_57 : decode cX0_worstObservation 57 = .ok (.iinc 4 1, 3) := by decide +kernel
theorem dX0_worstObservation_60 : decode cX0_worstObservation 60 = .ok (.goto (-53), 3) := by decide +kernel
theorem dX0_worstObservation_63 : decode cX0_worstObservation 63 = .ok (.iload_n 1, 1) := by decide +kernel
theorem dX0_worstObservation_64 : decode cX0_worstObservation 64 = .ok (.ireturn, 1) := by decide +kernel
set_option maxRecDepth 20000 in
theorem ggX0_misfitOf_X0_solve : GoodIn wsX0_misfitOf wsX0_solve := goodIn_r _ [10, 1, 11, 12, 13, 14, 15, 16, 17, 18, 19, 20, 21, 22, 23, 24, 25, 26, 27, 9, 28, 29, 30, 31, 32, 33, 34, 35, 36, 37, 38, 39, 40, 41, 42, 43, 44, 45, 46, 47, 2, 3, 48, 4, 49, 50, 51, 52, 53, 54, 55, 56, 5, 57, 58, 59, 60, 65, 66, 67, 68, 69, 70, 71, 72, 73, 74, 75, 76, 77, 78, 79, 80] (by decide +kernel) (by decide +kernel)
set_option maxRecDepth 20000 in
theorem gX0_misfitOf_X0_solve : GoodIn wsX0_misfitOf (wsV RX0 24 RX0 yX0_solve wsX0_solve) := goodIn_app (goodIn_of _ (by decide +kernel)) ggX0_misfitOf_X0_solve
set_option maxRecDepth 20000 in
theorem ggX0_misfitOf_X0_riseOf : GoodIn wsX0_misfitOf wsX0_riseOf := goodIn_r _ [64, 31, 37, 65, 66, 67, 68, 69, 70] (by decide +kernel) (by decide +kernel)
set_option maxRecDepth 20000 in
theorem gX0_misfitOf_X0_riseOf : GoodIn wsX0_misfitOf (wsV RX0 28 RX0 yX0_riseOf wsX0_riseOf) := goodIn_app (goodIn_of _ (by decide +kernel)) ggX0_misfitOf_X0_riseOf
theorem dX0_misfitOf_0 : decode cX0_misfitOf 0 = .ok (.aload_n 0, 1) := by decide +kernel
theorem dX0_misfitOf_1 : decode cX0_misfitOf 1 = .ok (.getfield 9, 3) := by decide +kernel
theorem dX0_misfitOf_4 : decode cX0_misfitOf 4 = .ok (.getfield 60, 3) := by decide +kernel
theorem dX0_misfitOf_7 : decode cX0_misfitOf 7 = .ok (.iload_n 1, 1) := by decide +kernel
theorem dX0_misfitOf_8 : decode cX0_misfitOf 8 = .ok (.iaload, 1) := by decide +kernel
theorem dX0_misfitOf_9 : decode cX0_misfitOf 9 = .ok (.istore_n 2, 1) := by decide +kernel
theorem dX0_misfitOf_10 : decode cX0_misfitOf 10 = .ok (.aload_n 0, 1) := by decide +kernel
theorem dX0_misfitOf_11 : decode cX0_misfitOf 11 = .ok (.iload_n 2, 1) := by decide +kernel
theorem dX0_misfitOf_12 : decode cX0_misfitOf 12 = .ok (.iconst (-1), 1) := by decide +kernel
theorem dX0_misfitOf_13 : decode cX0_misfitOf 13 = .ok (.invokevirtual 24, 3) := by decide +kernel
theorem dX0_misfitOf_16 : decode cX0_misfitOf 16 = .ok (.aload_n 0, 1) := by decide +kernel
theorem dX0_misfitOf_17 : decode cX0_misfitOf 17 = .ok (.aload_n 0, 1) := by decide +kernel
theorem dX0_misfitOf_18 : decode cX0_misfitOf 18 = .ok (.getfield 9, 3) := by decide +kernel
theorem dX0_misfitOf_21 : decode cX0_misfitOf 21 = .ok (.getfield 89, 3) := by decide +kernel
theorem dX0_misfitOf_24 : decode cX0_misfitOf 24 = .ok (.iload_n 1, 1) := by decide +kernel
theorem dX0_misfitOf_25 : decode cX0_misfitOf 25 = .ok (.iaload, 1) := by decide +kernel
theorem dX0_misfitOf_26 : decode cX0_misfitOf 26 = .ok (.invokevirtual 28, 3) := by decide +kernel
theorem dX0_misfitOf_29 : decode cX0_misfitOf 29 = .ok (.aload_n 0, 1) := by decide +kernel
theorem dX0_misfitOf_30 : decode cX0_misfitOf 30 = .ok (.iload_n 2, 1) := by decide +kernel
theorem dX0_misfitOf_31 : decode cX0_misfitOf 31 = .ok (.invokevirtual 28, 3) := by decide +kernel
theorem dX0_misfitOf_34 : decode cX0_misfitOf 34 = .ok (.lsub, 1) := by decide +kernel
theorem dX0_misfitOf_35 : decode cX0_misfitOf 35 = .ok (.aload_n 0, 1) := by decide +kernel
theorem dX0_misfitOf_36 : decode cX0_misfitOf 36 = .ok (.getfield 9, 3) := by decide +kernel
theorem dX0_misfitOf_39 : decode cX0_misfitOf 39 = .ok (.getfield 92, 3) := by decide +kernel
theorem dX0_misfitOf_42 : decode cX0_misfitOf 42 = .ok (.iload_n 1, 1) := by decide +kernel
theorem dX0_misfitOf_43 : decode cX0_misfitOf 43 = .ok (.iaload, 1) := by decide +kernel
theorem dX0_misfitOf_44 : decode cX0_misfitOf 44 = .ok (.i2l, 1) := by decide +kernel
theorem dX0_misfitOf_45 : decode cX0_misfitOf 45 = .ok (.aload_n 0, 1) := by decide +kernel
theorem dX0_misfitOf_46 : decode cX0_misfitOf 46 = .ok (.getfield 41, 3) := by decide +kernel
theorem dX0_misfitOf_49 : decode cX0_misfitOf 49 = .ok (.lmul, 1) := by decide +kernel
theorem dX0_misfitOf_50 : decode cX0_misfitOf 50 = .ok (.lsub, 1) := by decide +kernel
theorem dX0_misfitOf_51 : decode cX0_misfitOf 51 = .ok (.lreturn, 1) := by decide +kernel
set_option maxRecDepth 20000 in
theorem ggX0_checkAgainst_X0_solve : GoodIn wsX0_checkAgainst wsX0_solve := goodIn_r _ [9, 1, 10, 11, 12, 13, 14, 15, 16, 17, 18, 19, 20, 21, 22, 23, 24, 25, 26, 8, 27, 28, 29, 30, 31, 32, 33, 34, 35, 36, 37, 38, 39, 40, 41, 42, 43, 44, 45, 46, 2, 47, 48, 49, 50, 51, 52, 53, 54, 55, 56, 57, 4, 58, 59, 60, 61, 69, 70, 71, 72, 73, 74, 75, 76, 77, 78, 79, 80, 81, 82, 83, 84] (by decide +kernel) (by decide +kernel)
set_option maxRecDepth 20000 in
theorem gX0_checkAgainst_X0_solve : GoodIn wsX0_checkAgainst (wsV RX0 24 RX0 yX0_solve wsX0_solve) := goodIn_app (goodIn_of _ (by decide +kernel)) ggX0_checkAgainst_X0_solve
set_option maxRecDepth 20000 in
theorem ggX0_checkAgainst_X4_roundedDown : GoodIn wsX0_checkAgainst wsX4_roundedDown := goodIn_r _ [64, 65, 66, 67, 68] (by decide +kernel) (by decide +kernel)
set_option maxRecDepth 20000 in
theorem gX0_checkAgainst_X4_roundedDown_n47 : GoodIn wsX0_checkAgainst (wsX4_roundedDown) := ggX0_checkAgainst_X4_roundedDown
theorem dX0_checkAgainst_0 : decode cX0_checkAgainst 0 = .ok (.aload_n 0, 1) := by decide +kernel
theorem dX0_checkAgainst_1 : decode cX0_checkAgainst 1 = .ok (.aload_n 0, 1) := by decide +kernel
theorem dX0_checkAgainst_2 : decode cX0_checkAgainst 2 = .ok (.getfield 9, 3) := by decide +kernel
theorem dX0_checkAgainst_5 : decode cX0_checkAgainst 5 = .ok (.getfield 60, 3) := by decide +kernel
theorem dX0_checkAgainst_8 : decode cX0_checkAgainst 8 = .ok (.iload_n 1, 1) := by decide +kernel
theorem dX0_checkAgainst_9 : decode cX0_checkAgainst 9 = .ok (.iaload, 1) := by decide +kernel
theorem dX0_checkAgainst_10 : decode cX0_checkAgainst 10 = .ok (.iload_n 1, 1) := by decide +kernel
theorem dX0_checkAgainst_11 : decode cX0_checkAgainst 11 = .ok (.invokevirtual 24, 3) := by decide +kernel
theorem dX0_checkAgainst_14 : decode cX0_checkAgainst 14 = .ok (.ldc2_w 95, 3) := by decide +kernel
theorem dX0_checkAgainst_17 : decode cX0_checkAgainst 17 = .ok (.aload_n 0, 1) := by decide +kernel
theorem dX0_checkAgainst_18 : decode cX0_checkAgainst 18 = .ok (.getfield 41, 3) := by decide +kernel
theorem dX0_checkAgainst_21 : decode cX0_checkAgainst 21 = .ok (.lmul, 1) := by decide +kernel
theorem dX0_checkAgainst_22 : decode cX0_checkAgainst 22 = .ok (.lload_n 2, 1) := by decide +kernel
theorem dX0_checkAgainst_23 : decode cX0_checkAgainst 23 = .ok (.invokestatic 47, 3) := by decide +kernel
theorem dX0_checkAgainst_26 : decode cX0_checkAgainst 26 = .ok (.l2i, 1) := by decide +kernel
theorem dX0_checkAgainst_27 : decode cX0_checkAgainst 27 = .ok (.ireturn, 1) := by decide +kernel
theorem dX0_riseOf_0 : decode cX0_riseOf 0 = .ok (.aload_n 0, 1) := by decide +kernel
theorem dX0_riseOf_1 : decode cX0_riseOf 1 = .ok (.getfield 15, 3) := by decide +kernel
theorem dX0_riseOf_4 : decode cX0_riseOf 4 = .ok (.iload_n 1, 1) := by decide +kernel
theorem dX0_riseOf_5 : decode cX0_riseOf 5 = .ok (.iaload, 1) := by decide +kernel
theorem dX0_riseOf_6 : decode cX0_riseOf 6 = .ok (.istore_n 2, 1) := by decide +kernel
theorem dX0_riseOf_7 : decode cX0_riseOf 7 = .ok (.iload_n 2, 1) := by decide +kernel
theorem dX0_riseOf_8 : decode cX0_riseOf 8 = .ok (.iconst (-1), 1) := by decide +kernel
theorem dX0_riseOf_9 : decode cX0_riseOf 9 = .ok (.if_icmp .ne 7, 3) := by decide +kernel
theorem dX0_riseOf_12 : decode cX0_riseOf 12 = .ok (.lconst 0, 1) := by decide +kernel
theorem dX0_riseOf_13 : decode cX0_riseOf 13 = .ok (.goto 11, 3) := by decide +kernel
theorem dX0_riseOf_16 : decode cX0_riseOf 16 = .ok (.aload_n 0, 1) := by decide +kernel
theorem dX0_riseOf_17 : decode cX0_riseOf 17 = .ok (.getfield 21, 3) := by decide +kernel
theorem dX0_riseOf_20 : decode cX0_riseOf 20 = .ok (.iload_n 2, 1) := by decide +kernel
theorem dX0_riseOf_21 : decode cX0_riseOf 21 = .ok (.aaload, 1) := by decide +kernel
theorem dX0_riseOf_22 : decode cX0_riseOf 22 = .ok (.iconst 5, 1) := by decide +kernel
theorem dX0_riseOf_23 : decode cX0_riseOf 23 = .ok (.laload, 1) := by decide +kernel
theorem dX0_riseOf_24 : decode cX0_riseOf 24 = .ok (.lreturn, 1) := by decide +kernel
set_option maxRecDepth 20000 in
theorem ggX0_solve_X1_datumOf : GoodIn wsX0_solve wsX1_datumOf := goodIn_r _ [8, 9, 10, 11, 12, 13, 14, 7, 15, 63, 64, 65, 66, 67, 68, 69, 70, 71, 72] (by decide +kernel) (by decide +kernel)
set_option maxRecDepth 20000 in
theorem gX0_solve_X1_datumOf : GoodIn wsX0_solve (wsV RX0 97 RX1 yX1_datumOf wsX1_datumOf) := goodIn_app (goodIn_of _ (by decide +kernel)) ggX0_solve_X1_datumOf
set_option maxRecDepth 20000 in
theorem ggX0_solve_X0_numberUnknowns : GoodIn wsX0_solve wsX0_numberUnknowns := goodIn_r _ [20, 21, 1, 22, 2, 23, 24, 13, 14, 7, 15, 11, 57, 58, 59, 60, 61, 62, 63, 64, 65, 66, 67, 68, 69, 70, 71, 72] (by decide +kernel) (by decide +kernel)
set_option maxRecDepth 20000 in
theorem gX0_solve_X0_numberUnknowns : GoodIn wsX0_solve (wsV RX0 101 RX0 yX0_numberUnknowns wsX0_numberUnknowns) := goodIn_app (goodIn_of _ (by decide +kernel)) ggX0_solve_X0_numberUnknowns
set_option maxRecDepth 20000 in
theorem ggX0_solve_X0_clearCells : GoodIn wsX0_solve wsX0_clearCells := goodIn_r _ [28, 29, 57, 58, 59, 60, 61, 62] (by decide +kernel) (by decide +kernel)
set_option maxRecDepth 20000 in
theorem gX0_solve_X0_clearCells : GoodIn wsX0_solve (wsV RX0 104 RX0 yX0_clearCells wsX0_clearCells) := goodIn_app (goodIn_of _ (by decide +kernel)) ggX0_solve_X0_clearCells
set_option maxRecDepth 20000 in
theorem ggX0_solve_X1_isInPartOf : GoodIn wsX0_solve wsX1_isInPartOf := goodIn_r _ [33, 34, 35, 12, 13, 14, 7, 15, 11, 63, 64, 65, 66, 67, 68, 69, 70, 71, 72] (by decide +kernel) (by decide +kernel)
set_option maxRecDepth 20000 in
theorem gX0_solve_X1_isInPartOf : GoodIn wsX0_solve (wsV RX0 107 RX1 yX1_isInPartOf wsX1_isInPartOf) := goodIn_app (goodIn_of _ (by decide +kernel)) ggX0_solve_X1_isInPartOf
set_option maxRecDepth 20000 in
theorem ggX0_solve_X0_addToCells : GoodIn wsX0_solve wsX0_addToCells := goodIn_r _ [39, 23, 1, 40, 41, 42, 43, 44, 45, 46, 19, 47, 29, 57, 58, 59, 60, 61, 62, 63, 64, 65, 66, 67, 68, 69, 70, 71, 72] (by decide +kernel) (by decide +kernel)
set_option maxRecDepth 20000 in
theorem gX0_solve_X0_addToCells : GoodIn wsX0_solve (wsV RX0 111 RX0 yX0_addToCells wsX0_addToCells) := goodIn_app (goodIn_of _ (by decide +kernel)) ggX0_solve_X0_addToCells
set_option maxRecDepth 20000 in
theorem ggX0_solve_X0_eliminate : GoodIn wsX0_solve wsX0_eliminate := goodIn_r _ [51, 21, 29, 52, 53, 54, 55, 19, 56, 57, 58, 59, 60, 61, 62] (by decide +kernel) (by decide +kernel)
set_option maxRecDepth 20000 in
theorem gX0_solve_X0_eliminate : GoodIn wsX0_solve (wsV RX0 115 RX0 yX0_eliminate wsX0_eliminate) := goodIn_app (goodIn_of _ (by decide +kernel)) ggX0_solve_X0_eliminate
theorem dX0_solve_0 : decode cX0_solve 0 = .ok (.aload_n 0, 1) := by decide +kernel
theorem dX0_solve_1 : decode cX0_solve 1 = .ok (.aload_n 0, 1) := by decide +kernel
theorem dX0_solve_2 : decode cX0_solve 2 = .ok (.getfield 9, 3) := by decide +kernel
theorem dX0_solve_5 : decode cX0_solve 5 = .ok (.iload_n 1, 1) := by decide +kernel
theorem dX0_solve_6 : decode cX0_solve 6 = .ok (.invokevirtual 97, 3) := by decide +kernel
theorem dX0_solve_9 : decode cX0_solve 9 = .ok (.putfield 37, 3) := by decide +kernel
theorem dX0_solve_12 : decode cX0_solve 12 = .ok (.aload_n 0, 1) := by decide +kernel
theorem dX0_solve_13 : decode cX0_solve 13 = .ok (.invokevirtual 101, 3) := by decide +kernel
theorem dX0_solve_16 : decode cX0_solve 16 = .ok (.aload_n 0, 1) := by decide +kernel
theorem dX0_solve_17 : decode cX0_solve 17 = .ok (.invokevirtual 104, 3) := by decide +kernel
theorem dX0_solve_20 : decode cX0_solve 20 = .ok (.iconst 0, 1) := by decide +kernel
theorem dX0_solve_21 : decode cX0_solve 21 = .ok (.istore_n 3, 1) := by decide +kernel
theorem dX0_solve_22 : decode cX0_solve 22 = .ok (.iload_n 3, 1) := by decide +kernel
theorem dX0_solve_23 : decode cX0_solve 23 = .ok (.aload_n 0, 1) := by decide +kernel
theorem dX0_solve_24 : decode cX0_solve 24 = .ok (.getfield 9, 3) := by decide +kernel
theorem dX0_solve_27 : decode cX0_solve 27 = .ok (.getfield 79, 3) := by decide +kernel
theorem dX0_solve_30 : decode cX0_solve 30 = .ok (.if_icmp .ge 34, 3) := by decide +kernel
theorem dX0_solve_33 : decode cX0_solve 33 = .ok (.iload_n 3, 1) := by decide +kernel
theorem dX0_solve_34 : decode cX0_solve 34 = .ok (.iload_n 2, 1) := by decide +kernel
theorem dX0_solve_35 : decode cX0_solve 35 = .ok (.if_icmp .eq 23, 3) := by decide +kernel
theorem dX0_solve_38 : decode cX0_solve 38 = .ok (.aload_n 0, 1) := by decide +kernel
theorem dX0_solve_39 : decode cX0_solve 39 = .ok (.getfield 9, 3) := by decide +kernel
theorem dX0_solve_42 : decode cX0_solve 42 = .ok (.iload_n 3, 1) := by decide +kernel
theorem dX0_solve_43 : decode cX0_solve 43 = .ok (.aload_n 0, 1) := by decide +kernel
theorem dX0_solve_44 : decode cX0_solve 44 = .ok (.getfield 37, 3) := by decide +kernel
theorem dX0_solve_47 : decode cX0_solve 47 = .ok (.invokevirtual 107, 3) := by decide +kernel
theorem dX0_solve_50 : decode cX0_solve 50 = .ok (.ifCond .eq 8, 3) := by decide +kernel
theorem dX0_solve_53 : decode cX0_solve 53 = .ok (.aload_n 0, 1) := by decide +kernel
theorem dX0_solve_54 : decode cX0_solve 54 = .ok (.iload_n 3, 1) := by decide +kernel
theorem dX0_solve_55 : decode cX0_solve 55 = .ok (.invokevirtual 111, 3) := by decide +kernel
theorem dX0_solve_58 : decode cX0_solve 58 = .ok (.iinc 3 1, 3) := by decide +kernel
theorem dX0_solve_61 : decode cX0_solve 61 = .ok (.goto (-39), 3) := by decide +kernel
theorem dX0_solve_64 : decode cX0_solve 64 = .ok (.aload_n 0, 1) := by decide +kernel
theorem dX0_solve_65 : decode cX0_solve 65 = .ok (.invokevirtual 115, 3) := by decide +kernel
theorem dX0_solve_68 : decode cX0_solve 68 = .ok (.return_, 1) := by decide +kernel
set_option maxRecDepth 20000 in
theorem ggX0_numberUnknowns_X1_areInOnePart : GoodIn wsX0_numberUnknowns wsX1_areInOnePart := goodIn_r _ [10, 11, 18, 19, 20, 21, 22, 23, 24, 25, 26, 27] (by decide +kernel) (by decide +kernel)
set_option maxRecDepth 20000 in
theorem gX0_numberUnknowns_X1_areInOnePart : GoodIn wsX0_numberUnknowns (wsV RX0 118 RX1 yX1_areInOnePart wsX1_areInOnePart) := goodIn_app (goodIn_of _ (by decide +kernel)) ggX0_numberUnknowns_X1_areInOnePart
theorem dX0_numberUnknowns_0 : decode cX0_numberUnknowns 0 = .ok (.aload_n 0, 1) := by decide +kernel
theorem dX0_numberUnknowns_1 : decode cX0_numberUnknowns 1 = .ok (.iconst 0, 1) := by decide +kernel
theorem dX0_numberUnknowns_2 : decode cX0_numberUnknowns 2 = .ok (.putfield 54, 3) := by decide +kernel
theorem dX0_numberUnknowns_5 : decode cX0_numberUnknowns 5 = .ok (.iconst 0, 1) := by decide +kernel
theorem dX0_numberUnknowns_6 : decode cX0_numberUnknowns 6 = .ok (.istore_n 1, 1) := by decide +kernel
theorem dX0_numberUnknowns_7 : decode cX0_numberUnknowns 7 = .ok (.iload_n 1, 1) := by decide +kernel
theorem dX0_numberUnknowns_8 : decode cX0_numberUnknowns 8 = .ok (.aload_n 0, 1) := by decide +kernel
theorem dX0_numberUnknowns_9 : decode cX0_numberUnknowns 9 = .ok (.getfield 9, 3) := by decide +kernel
theorem dX0_numberUnknowns_12 : decode cX0_numberUnknowns 12 = .ok (.getfield 51, 3) := by decide +kernel
theorem dX0_numberUnknowns_15 : decode cX0_numberUnknowns 15 = .ok (.if_icmp .ge 70, 3) := by decide +kernel
theorem dX0_numberUnknowns_18 : decode cX0_numberUnknowns 18 = .ok (.iload_n 1, 1) := by decide +kernel
theorem dX0_numberUnknowns_19 : decode cX0_numberUnknowns 19 = .ok (.aload_n 0, 1) := by decide +kernel
theorem dX0_numberUnknowns_20 : decode cX0_numberUnknowns 20 = .ok (.getfield 37, 3) := by decide +kernel
theorem dX0_numberUnknowns_23 : decode cX0_numberUnknowns 23 = .ok (.if_icmp .eq 22, 3) := by decide +kernel
theorem dX0_numberUnknowns_26 : decode cX0_numberUnknowns 26 = .ok (.aload_n 0, 1) := by decide +kernel
theorem dX0_numberUnknowns_27 : decode cX0_numberUnknowns 27 = .ok (.getfield 9, 3) := by decide +kernel
theorem dX0_numberUnknowns_30 : decode cX0_numberUnknowns 30 = .ok (.iload_n 1, 1) := by decide +kernel
theorem dX0_numberUnknowns_31 : decode cX0_numberUnknowns 31 = .ok (.aload_n 0, 1) := by decide +kernel
theorem dX0_numberUnknowns_32 : decode cX0_numberUnknowns 32 = .ok (.getfield 37, 3) := by decide +kernel
theorem dX0_numberUnknowns_35 : decode cX0_numberUnknowns 35 = .ok (.invokevirtual 118, 3) := by decide +kernel
theorem dX0_numberUnknowns_38 : decode cX0_numberUnknowns 38 = .ok (.ifCond .eq 7, 3) := by decide +kernel
theorem dX0_numberUnknowns_41 : decode cX0_numberUnknowns 41 = .ok (.iconst 1, 1) := by decide +kernel
theorem dX0_numberUnknowns_42 : decode cX0_numberUnknowns 42 = .ok (.goto 4, 3) := by decide +kernel
theorem dX0_numberUnknowns_45 : decode cX0_numberUnknowns 45 = .ok (.iconst 0, 1) := by decide +kernel
theorem dX0_numberUnknowns_46 : decode cX0_numberUnknowns 46 = .ok (.istore_n 2, 1) := by decide +kernel
theorem dX0_numberUnknowns_47 : decode cX0_numberUnknowns 47 = .ok (.aload_n 0, 1) := by decide +kernel
theorem dX0_numberUnknowns_48 : decode cX0_numberUnknowns 48 = .ok (.getfield 15, 3) := by decide +kernel
theorem dX0_numberUnknowns_51 : decode cX0_numberUnknowns 51 = .ok (.iload_n 1, 1) := by decide +kernel
theorem dX0_numberUnknowns_52 : decode cX0_numberUnknowns 52 = .ok (.iload_n 2, 1) := by decide +kernel
theorem dX0_numberUnknowns_53 : decode cX0_numberUnknowns 53 = .ok (.ifCond .eq 10, 3) := by decide +kernel
theorem dX0_numberUnknowns_56 : decode cX0_numberUnknowns 56 = .ok (.aload_n 0, 1) := by decide +kernel
theorem dX0_numberUnknowns_57 : decode cX0_numberUnknowns 57 = .ok (.getfield 54, 3) := by decide +kernel
theorem dX0_numberUnknowns_60 : decode cX0_numberUnknowns 60 = .ok (.goto 4, 3) := by decide +kernel
theorem dX0_numberUnknowns_63 : decode cX0_numberUnknowns 63 = .ok (.iconst (-1), 1) := by decide +kernel
theorem dX0_numberUnknowns_64 : decode cX0_numberUnknowns 64 = .ok (.iastore, 1) := by decide +kernel
theorem dX0_numberUnknowns_65 : decode cX0_numberUnknowns 65 = .ok (.iload_n 2, 1) := by decide +kernel
theorem dX0_numberUnknowns_66 : decode cX0_numberUnknowns 66 = .ok (.ifCond .eq 13, 3) := by decide +kernel
theorem dX0_numberUnknowns_69 : decode cX0_numberUnknowns 69 = .ok (.aload_n 0, 1) := by decide +kernel
theorem dX0_numberUnknowns_70 : decode cX0_numberUnknowns 70 = .ok (.dup, 1) := by decide +kernel
theorem dX0_numberUnknowns_71 : decode cX0_numberUnknowns 71 = .ok (.getfield 54, 3) := by decide +kernel
theorem dX0_numberUnknowns_74 : decode cX0_numberUnknowns 74 = .ok (.iconst 1, 1) := by decide +kernel
theorem dX0_numberUnknowns_75 : decode cX0_numberUnknowns 75 = .ok (.iadd, 1) := by decide +kernel
theorem dX0_numberUnknowns_76 : decode cX0_numberUnknowns 76 = .ok (.putfield 54, 3) := by decide +kernel
theorem dX0_numberUnknowns_79 : decode cX0_numberUnknowns 79 = .ok (.iinc 1 1, 3) := by decide +kernel
theorem dX0_numberUnknowns_82 : decode cX0_numberUnknowns 82 = .ok (.goto (-75), 3) := by decide +kernel
theorem dX0_numberUnknowns_85 : decode cX0_numberUnknowns 85 = .ok (.return_, 1) := by decide +kernel
theorem dX0_clearCells_0 : decode cX0_clearCells 0 = .ok (.iconst 0, 1) := by decide +kernel
theorem dX0_clearCells_1 : decode cX0_clearCells 1 = .ok (.istore_n 1, 1) := by decide +kernel
theorem dX0_clearCells_2 : decode cX0_clearCells 2 = .ok (.iload_n 1, 1) := by decide +kernel
theorem dX0_clearCells_3 : decode cX0_clearCells 3 = .ok (.iconst 5, 1) := by decide +kernel
theorem dX0_clearCells_4 : decode cX0_clearCells 4 = .ok (.if_icmp .ge 32, 3) := by decide +kernel
theorem dX0_clearCells_7 : decode cX0_clearCells 7 = .ok (.iconst 0, 1) := by decide +kernel
theorem dX0_clearCells_8 : decode cX0_clearCells 8 = .ok (.istore_n 2, 1) := by decide +kernel
theorem dX0_clearCells_9 : decode cX0_clearCells 9 = .ok (.iload_n 2, 1) := by decide +kernel
theorem dX0_clearCells_10 : decode cX0_clearCells 10 = .ok (.bipush 6, 2) := by decide +kernel
theorem dX0_clearCells_12 : decode cX0_clearCells 12 = .ok (.if_icmp .ge 18, 3) := by decide +kernel
theorem dX0_clearCells_15 : decode cX0_clearCells 15 = .ok (.aload_n 0, 1) := by decide +kernel
theorem dX0_clearCells_16 : decode cX0_clearCells 16 = .ok (.getfield 21, 3) := by decide +kernel
theorem dX0_clearCells_19 : decode cX0_clearCells 19 = .ok (.iload_n 1, 1) := by decide +kernel
theorem dX0_clearCells_20 : decode cX0_clearCells 20 = .ok (.aaload, 1) := by decide +kernel
theorem dX0_clearCells_21 : decode cX0_clearCells 21 = .ok (.iload_n 2, 1) := by decide +kernel
theorem dX0_clearCells_22 : decode cX0_clearCells 22 = .ok (.lconst 0, 1) := by decide +kernel
theorem dX0_clearCells_23 : decode cX0_clearCells 23 = .ok (.lastore, 1) := by decide +kernel
theorem dX0_clearCells_24 : decode cX0_clearCells 24 = .ok (.iinc 2 1, 3) := by decide +kernel
theorem dX0_clearCells_27 : decode cX0_clearCells 27 = .ok (.goto (-18), 3) := by decide +kernel
theorem dX0_clearCells_30 : decode cX0_clearCells 30 = .ok (.iinc 1 1, 3) := by decide +kernel
theorem dX0_clearCells_33 : decode cX0_clearCells 33 = .ok (.goto (-31), 3) := by decide +kernel
theorem dX0_clearCells_36 : decode cX0_clearCells 36 = .ok (.return_, 1) := by decide +kernel
set_option maxRecDepth 20000 in
theorem ggX0_addToCells_X0_addToRow : GoodIn wsX0_addToCells wsX0_addToRow := goodIn_r _ [11, 12, 13, 14, 15, 16, 17, 18] (by decide +kernel) (by decide +kernel)
set_option maxRecDepth 20000 in
theorem gX0_addToCells_X0_addToRow : GoodIn wsX0_addToCells (wsV RX0 121 RX0 yX0_addToRow wsX0_addToRow) := goodIn_app (goodIn_of _ (by decide +kernel)) ggX0_addToCells_X0_addToRow
theorem dX0_addToCells_0 : decode cX0_addToCells 0 = .ok (.aload_n 0, 1) := by decide +kernel
theorem dX0_addToCells_1 : decode cX0_addToCells 1 = .ok (.getfield 15, 3) := by decide +kernel
theorem dX0_addToCells_4 : decode cX0_addToCells 4 = .ok (.aload_n 0, 1) := by decide +kernel
theorem dX0_addToCells_5 : decode cX0_addToCells 5 = .ok (.getfield 9, 3) := by decide +kernel
theorem dX0_addToCells_8 : decode cX0_addToCells 8 = .ok (.getfield 60, 3) := by decide +kernel
theorem dX0_addToCells_11 : decode cX0_addToCells 11 = .ok (.iload_n 1, 1) := by decide +kernel
theorem dX0_addToCells_12 : decode cX0_addToCells 12 = .ok (.iaload, 1) := by decide +kernel
theorem dX0_addToCells_13 : decode cX0_addToCells 13 = .ok (.iaload, 1) := by decide +kernel
theorem dX0_addToCells_14 : decode cX0_addToCells 14 = .ok (.istore_n 2, 1) := by decide +kernel
theorem dX0_addToCells_15 : decode cX0_addToCells 15 = .ok (.aload_n 0, 1) := by decide +kernel
theorem dX0_addToCells_16 : decode cX0_addToCells 16 = .ok (.getfield 15, 3) := by decide +kernel
theorem dX0_addToCells_19 : decode cX0_addToCells 19 = .ok (.aload_n 0, 1) := by decide +kernel
theorem dX0_addToCells_20 : decode cX0_addToCells 20 = .ok (.getfield 9, 3) := by decide +kernel
theorem dX0_addToCells_23 : decode cX0_addToCells 23 = .ok (.getfield 89, 3) := by decide +kernel
theorem dX0_addToCells_26 : decode cX0_addToCells 26 = .ok (.iload_n 1, 1) := by decide +kernel
theorem dX0_addToCells_27 : decode cX0_addToCells 27 = .ok (.iaload, 1) := by decide +kernel
theorem dX0_addToCells_28 : decode cX0_addToCells 28 = .ok (.iaload, 1) := by decide +kernel
theorem dX0_addToCells_29 : decode cX0_addToCells 29 = .ok (.istore_n 3, 1) := by decide +kernel
theorem dX0_addToCells_30 : decode cX0_addToCells 30 = .ok (.aload_n 0, 1) := by decide +kernel
theorem dX0_addToCells_31 : decode cX0_addToCells 31 = .ok (.getfield 9, 3) := by decide +kernel
theorem dX0_addToCells_34 : decode cX0_addToCells 34 = .ok (.getfield 76, 3) := by decide +kernel
theorem dX0_addToCells_37 : decode cX0_addToCells 37 = .ok (.iload_n 1, 1) := by decide +kernel
theorem dX0_addToCells_38 : decode cX0_addToCells 38 = .ok (.iaload, 1) := by decide +kernel
theorem dX0_addToCells_39 : decode cX0_addToCells 39 = .ok (.i2l, 1) := by decide +kernel
theorem dX0_addToCells_40 : decode cX0_addToCells 40 = .ok (.lstore 4, 2) := by decide +kernel
theorem dX0_addToCells_42 : decode cX0_addToCells 42 = .ok (.lload 4, 2) := by decide +kernel
theorem dX0_addToCells_44 : decode cX0_addToCells 44 = .ok (.aload_n 0, 1) := by decide +kernel
theorem dX0_addToCells_45 : decode cX0_addToCells 45 = .ok (.getfield 9, 3) := by decide +kernel
theorem dX0_addToCells_48 : decode cX0_addToCells 48 = .ok (.getfield 92, 3) := by decide +kernel
theorem dX0_addToCells_51 : decode cX0_addToCells 51 = .ok (.iload_n 1, 1) := by decide +kernel
theorem dX0_addToCells_52 : decode cX0_addToCells 52 = .ok (.iaload, 1) := by decide +kernel
theorem dX0_addToCells_53 : decode cX0_addToCells 53 = .ok (.i2l, 1) := by decide +kernel
theorem dX0_addToCells_54 : decode cX0_addToCells 54 = .ok (.lmul, 1) := by decide +kernel
theorem dX0_addToCells_55 : decode cX0_addToCells 55 = .ok (.lstore 6, 2) := by decide +kernel
theorem dX0_addToCells_57 : decode cX0_addToCells 57 = .ok (.aload_n 0, 1) := by decide +kernel
theorem dX0_addToCells_58 : decode cX0_addToCells 58 = .ok (.iload_n 3, 1) := by decide +kernel
theorem dX0_addToCells_59 : decode cX0_addToCells 59 = .ok (.iload_n 2, 1) := by decide +kernel
theorem dX0_addToCells_60 : decode cX0_addToCells 60 = .ok (.lload 4, 2) := by decide +kernel
theorem dX0_addToCells_62 : decode cX0_addToCells 62 = .ok (.lload 6, 2) := by decide +kernel
theorem dX0_addToCells_64 : decode cX0_addToCells 64 = .ok (.invokevirtual 121, 3) := by decide +kernel
theorem dX0_addToCells_67 : decode cX0_addToCells 67 = .ok (.aload_n 0, 1) := by decide +kernel
theorem dX0_addToCells_68 : decode cX0_addToCells 68 = .ok (.iload_n 2, 1) := by decide +kernel
theorem dX0_addToCells_69 : decode cX0_addToCells 69 = .ok (.iload_n 3, 1) := by decide +kernel
theorem dX0_addToCells_70 : decode cX0_addToCells 70 = .ok (.lload 4, 2) := by decide +kernel
theorem dX0_addToCells_72 : decode cX0_addToCells 72 = .ok (.lload 6, 2) := by decide +kernel
theorem dX0_addToCells_74 : decode cX0_addToCells 74 = .ok (.lneg, 1) := by decide +kernel
theorem dX0_addToCells_75 : decode cX0_addToCells 75 = .ok (.invokevirtual 121, 3) := by decide +kernel
theorem dX0_addToCells_78 : decode cX0_addToCells 78 = .ok (.return_, 1) := by decide +kernel
theorem dX0_addToRow_0 : decode cX0_addToRow 0 = .ok (.iload_n 1, 1) := by decide +kernel
theorem dX0_addToRow_1 : decode cX0_addToRow 1 = .ok (.iconst (-1), 1) := by decide +kernel
theorem dX0_addToRow_2 : decode cX0_addToRow 2 = .ok (.if_icmp .ne 4, 3) := by decide +kernel
theorem dX0_addToRow_5 : decode cX0_addToRow 5 = .ok (.return_, 1) := by decide +kernel
theorem dX0_addToRow_6 : decode cX0_addToRow 6 = .ok (.aload_n 0, 1) := by decide +kernel
theorem dX0_addToRow_7 : decode cX0_addToRow 7 = .ok (.getfield 21, 3) := by decide +kernel
theorem dX0_addToRow_10 : decode cX0_addToRow 10 = .ok (.iload_n 1, 1) := by decide +kernel
theorem dX0_addToRow_11 : decode cX0_addToRow 11 = .ok (.aaload, 1) := by decide +kernel
theorem dX0_addToRow_12 : decode cX0_addToRow 12 = .ok (.iload_n 1, 1) := by decide +kernel
theorem dX0_addToRow_13 : decode cX0_addToRow 13 = .ok (.dup2, 1) := by decide +kernel
theorem dX0_addToRow_14 : decode cX0_addToRow 14 = .ok (.laload, 1) := by decide +kernel
theorem dX0_addToRow_15 : decode cX0_addToRow 15 = .ok (.lload_n 3, 1) := by decide +kernel
theorem dX0_addToRow_16 : decode cX0_addToRow 16 = .ok (.ladd, 1) := by decide +kernel
theorem dX0_addToRow_17 : decode cX0_addToRow 17 = .ok (.lastore, 1) := by decide +kernel
theorem dX0_addToRow_18 : decode cX0_addToRow 18 = .ok (.aload_n 0, 1) := by decide +kernel
theorem dX0_addToRow_19 : decode cX0_addToRow 19 = .ok (.getfield 21, 3) := by decide +kernel
theorem dX0_addToRow_22 : decode cX0_addToRow 22 = .ok (.iload_n 1, 1) := by decide +kernel
theorem dX0_addToRow_23 : decode cX0_addToRow 23 = .ok (.aaload, 1) := by decide +kernel
theorem dX0_addToRow_24 : decode cX0_addToRow 24 = .ok (.iconst 5, 1) := by decide +kernel
theorem dX0_addToRow_25 : decode cX0_addToRow 25 = .ok (.dup2, 1) := by decide +kernel
theorem dX0_addToRow_26 : decode cX0_addToRow 26 = .ok (.laload, 1) := by decide +kernel
theorem dX0_addToRow_27 : decode cX0_addToRow 27 = .ok (.lload 5, 2) := by decide +kernel
theorem dX0_addToRow_29 : decode cX0_addToRow 29 = .ok (.ladd, 1) := by decide +kernel
theorem dX0_addToRow_30 : decode cX0_addToRow 30 = .ok (.lastore, 1) := by decide +kernel
theorem dX0_addToRow_31 : decode cX0_addToRow 31 = .ok (.iload_n 2, 1) := by decide +kernel
theorem dX0_addToRow_32 : decode cX0_addToRow 32 = .ok (.iconst (-1), 1) := by decide +kernel
theorem dX0_addToRow_33 : decode cX0_addToRow 33 = .ok (.if_icmp .eq 15, 3) := by decide +kernel
theorem dX0_addToRow_36 : decode cX0_addToRow 36 = .ok (.aload_n 0, 1) := by decide +kernel
theorem dX0_addToRow_37 : decode cX0_addToRow 37 = .ok (.getfield 21, 3) := by decide +kernel
theorem dX0_addToRow_40 : decode cX0_addToRow 40 = .ok (.iload_n 1, 1) := by decide +kernel
theorem dX0_addToRow_41 : decode cX0_addToRow 41 = .ok (.aaload, 1) := by decide +kernel
theorem dX0_addToRow_42 : decode cX0_addToRow 42 = .ok (.iload_n 2, 1) := by decide +kernel
theorem dX0_addToRow_43 : decode cX0_addToRow 43 = .ok (.dup2, 1) := by decide +kernel
theorem dX0_addToRow_44 : decode cX0_addToRow 44 = .ok (.laload, 1) := by decide +kernel
theorem dX0_addToRow_45 : decode cX0_addToRow 45 = .ok (.lload_n 3, 1) := by decide +kernel
theorem dX0_addToRow_46 : decode cX0_addToRow 46 = .ok (.lsub, 1) := by decide +kernel
theorem dX0_addToRow_47 : decode cX0_addToRow 47 = .ok (.lastore, 1) := by decide +kernel
theorem dX0_addToRow_48 : decode cX0_addToRow 48 = .ok (.return_, 1) := by decide +kernel
set_option maxRecDepth 20000 in
theorem ggX0_eliminate_X0_clearColumn : GoodIn wsX0_eliminate wsX0_clearColumn := goodIn_r _ [8, 2, 9, 10, 11, 12, 13, 14] (by decide +kernel) (by decide +kernel)
set_option maxRecDepth 20000 in
theorem gX0_eliminate_X0_clearColumn : GoodIn wsX0_eliminate (wsV RX0 125 RX0 yX0_clearColumn wsX0_clearColumn) := goodIn_app (goodIn_of _ (by decide +kernel)) ggX0_eliminate_X0_clearColumn
theorem dX0_eliminate_0 : decode cX0_eliminate 0 = .ok (.lconst 1, 1) := by decide +kernel
theorem dX0_eliminate_1 : decode cX0_eliminate 1 = .ok (.lstore_n 1, 1) := by decide +kernel
theorem dX0_eliminate_2 : decode cX0_eliminate 2 = .ok (.iconst 0, 1) := by decide +kernel
theorem dX0_eliminate_3 : decode cX0_eliminate 3 = .ok (.istore_n 3, 1) := by decide +kernel
theorem dX0_eliminate_4 : decode cX0_eliminate 4 = .ok (.iload_n 3, 1) := by decide +kernel
theorem dX0_eliminate_5 : decode cX0_eliminate 5 = .ok (.aload_n 0, 1) := by decide +kernel
theorem dX0_eliminate_6 : decode cX0_eliminate 6 = .ok (.getfield 54, 3) := by decide +kernel
theorem dX0_eliminate_9 : decode cX0_eliminate 9 = .ok (.if_icmp .ge 67, 3) := by decide +kernel
theorem dX0_eliminate_12 : decode cX0_eliminate 12 = .ok (.aload_n 0, 1) := by decide +kernel
theorem dX0_eliminate_13 : decode cX0_eliminate 13 = .ok (.getfield 21, 3) := by decide +kernel
theorem dX0_eliminate_16 : decode cX0_eliminate 16 = .ok (.iload_n 3, 1) := by decide +kernel
theorem dX0_eliminate_17 : decode cX0_eliminate 17 = .ok (.aaload, 1) := by decide +kernel
theorem dX0_eliminate_18 : decode cX0_eliminate 18 = .ok (.iload_n 3, 1) := by decide +kernel
theorem dX0_eliminate_19 : decode cX0_eliminate 19 = .ok (.laload, 1) := by decide +kernel
theorem dX0_eliminate_20 : decode cX0_eliminate 20 = .ok (.lstore 4, 2) := by decide +kernel
theorem dX0_eliminate_22 : decode cX0_eliminate 22 = .ok (.lload 4, 2) := by decide +kernel
theorem dX0_eliminate_24 : decode cX0_eliminate 24 = .ok (.lconst 0, 1) := by decide +kernel
theorem dX0_eliminate_25 : decode cX0_eliminate 25 = .ok (.lcmp, 1) := by decide +kernel
theorem dX0_eliminate_26 : decode cX0_eliminate 26 = .ok (.ifCond .ne 9, 3) := by decide +kernel
theorem dX0_eliminate_29 : decode cX0_eliminate 29 = .ok (.aload_n 0, 1) := by decide +kernel
theorem dX0_eliminate_30 : decode cX0_eliminate 30 = .ok (.lconst 0, 1) := by decide +kernel
theorem dX0_eliminate_31 : decode cX0_eliminate 31 = .ok (.putfield 41, 3) := by decide +kernel
theorem dX0_eliminate_34 : decode cX0_eliminate 34 = .ok (.return_, 1) := by decide +kernel
theorem dX0_eliminate_35 : decode cX0_eliminate 35 = .ok (.iconst 0, 1) := by decide +kernel
theorem dX0_eliminate_36 : decode cX0_eliminate 36 = .ok (.istore 6, 2) := by decide +kernel
theorem dX0_eliminate_38 : decode cX0_eliminate 38 = .ok (.iload 6, 2) := by decide +kernel
theorem dX0_eliminate_40 : decode cX0_eliminate 40 = .ok (.aload_n 0, 1) := by decide +kernel
theorem dX0_eliminate_41 : decode cX0_eliminate 41 = .ok (.getfield 54, 3) := by decide +kernel
theorem dX0_eliminate_44 : decode cX0_eliminate 44 = .ok (.if_icmp .ge 23, 3) := by decide +kernel
theorem dX0_eliminate_47 : decode cX0_eliminate 47 = .ok (.iload 6, 2) := by decide +kernel
theorem dX0_eliminate_49 : decode cX0_eliminate 49 = .ok (.iload_n 3, 1) := by decide +kernel
theorem dX0_eliminate_50 : decode cX0_eliminate 50 = .ok (.if_icmp .eq 11, 3) := by decide +kernel
theorem dX0_eliminate_53 : decode cX0_eliminate 53 = .ok (.aload_n 0, 1) := by decide +kernel
theorem dX0_eliminate_54 : decode cX0_eliminate 54 = .ok (.iload 6, 2) := by decide +kernel
theorem dX0_eliminate_56 : decode cX0_eliminate 56 = .ok (.iload_n 3, 1) := by decide +kernel
theorem dX0_eliminate_57 : decode cX0_eliminate 57 = .ok (.lload_n 1, 1) := by decide +kernel
theorem dX0_eliminate_58 : decode cX0_eliminate 58 = .ok (.invokevirtual 125, 3) := by decide +kernel
theorem dX0_eliminate_61 : decode cX0_eliminate 61 = .ok (.iinc 6 1, 3) := by decide +kernel
theorem dX0_eliminate_64 : decode cX0_eliminate 64 = .ok (.goto (-26), 3) := by decide +kernel
theorem dX0_eliminate_67 : decode cX0_eliminate 67 = .ok (.lload 4, 2) := by decide +kernel
theorem dX0_eliminate_69 : decode cX0_eliminate 69 = .ok (.lstore_n 1, 1) := by decide +kernel
theorem dX0_eliminate_70 : decode cX0_eliminate 70 = .ok (.iinc 3 1, 3) := by decide +kernel
theorem dX0_eliminate_73 : decode cX0_eliminate 73 = .ok (.goto (-69), 3) := by decide +kernel
theorem dX0_eliminate_76 : decode cX0_eliminate 76 = .ok (.aload_n 0, 1) := by decide +kernel
theorem dX0_eliminate_77 : decode cX0_eliminate 77 = .ok (.lload_n 1, 1) := by decide +kernel
theorem dX0_eliminate_78 : decode cX0_eliminate 78 = .ok (.putfield 41, 3) := by decide +kernel
theorem dX0_eliminate_81 : decode cX0_eliminate 81 = .ok (.return_, 1) := by decide +kernel
theorem dX0_clearColumn_0 : decode cX0_clearColumn 0 = .ok (.aload_n 0, 1) := by decide +kernel
theorem dX0_clearColumn_1 : decode cX0_clearColumn 1 = .ok (.getfield 21, 3) := by decide +kernel
theorem dX0_clearColumn_4 : decode cX0_clearColumn 4 = .ok (.iload_n 2, 1) := by decide +kernel
theorem dX0_clearColumn_5 : decode cX0_clearColumn 5 = .ok (.aaload, 1) := by decide +kernel
theorem dX0_clearColumn_6 : decode cX0_clearColumn 6 = .ok (.iload_n 2, 1) := by decide +kernel
theorem dX0_clearColumn_7 : decode cX0_clearColumn 7 = .ok (.laload, 1) := by decide +kernel
theorem dX0_clearColumn_8 : decode cX0_clearColumn 8 = .ok (.lstore 5, 2) := by decide +kernel
theorem dX0_clearColumn_10 : decode cX0_clearColumn 10 = .ok (.aload_n 0, 1) := by decide +kernel
theorem dX0_clearColumn_11 : decode cX0_clearColumn 11 = .ok (.getfield 21, 3) := by decide +kernel
theorem dX0_clearColumn_14 : decode cX0_clearColumn 14 = .ok (.iload_n 1, 1) := by decide +kernel
theorem dX0_clearColumn_15 : decode cX0_clearColumn 15 = .ok (.aaload, 1) := by decide +kernel
theorem dX0_clearColumn_16 : decode cX0_clearColumn 16 = .ok (.iload_n 2, 1) := by decide +kernel
theorem dX0_clearColumn_17 : decode cX0_clearColumn 17 = .ok (.laload, 1) := by decide +kernel
theorem dX0_clearColumn_18 : decode cX0_clearColumn 18 = .ok (.lstore 7, 2) := by decide +kernel
theorem dX0_clearColumn_20 : decode cX0_clearColumn 20 = .ok (.iconst 0, 1) := by decide +kernel
theorem dX0_clearColumn_21 : decode cX0_clearColumn 21 = .ok (.istore 9, 2) := by decide +kernel
theorem dX0_clearColumn_23 : decode cX0_clearColumn 23 = .ok (.iload 9, 2) := by decide +kernel
theorem dX0_clearColumn_25 : decode cX0_clearColumn 25 = .ok (.bipush 6, 2) := by decide +kernel
theorem dX0_clearColumn_27 : decode cX0_clearColumn 27 = .ok (.if_icmp .ge 59, 3) := by decide +kernel
theorem dX0_clearColumn_30 : decode cX0_clearColumn 30 = .ok (.lload 5, 2) := by decide +kernel
theorem dX0_clearColumn_32 : decode cX0_clearColumn 32 = .ok (.aload_n 0, 1) := by decide +kernel
theorem dX0_clearColumn_33 : decode cX0_clearColumn 33 = .ok (.getfield 21, 3) := by decide +kernel
theorem dX0_clearColumn_36 : decode cX0_clearColumn 36 = .ok (.iload_n 1, 1) := by decide +kernel
theorem dX0_clearColumn_37 : decode cX0_clearColumn 37 = .ok (.aaload, 1) := by decide +kernel
theorem dX0_clearColumn_38 : decode cX0_clearColumn 38 = .ok (.iload 9, 2) := by decide +kernel
theorem dX0_clearColumn_40 : decode cX0_clearColumn 40 = .ok (.laload, 1) := by decide +kernel
theorem dX0_clearColumn_41 : decode cX0_clearColumn 41 = .ok (.lmul, 1) := by decide +kernel
theorem dX0_clearColumn_42 : decode cX0_clearColumn 42 = .ok (.lload 7, 2) := by decide +kernel
theorem dX0_clearColumn_44 : decode cX0_clearColumn 44 = .ok (.aload_n 0, 1) := by decide +kernel
theorem dX0_clearColumn_45 : decode cX0_clearColumn 45 = .ok (.getfield 21, 3) := by decide +kernel
theorem dX0_clearColumn_48 : decode cX0_clearColumn 48 = .ok (.iload_n 2, 1) := by decide +kernel
theorem dX0_clearColumn_49 : decode cX0_clearColumn 49 = .ok (.aaload, 1) := by decide +kernel
theorem dX0_clearColumn_50 : decode cX0_clearColumn 50 = .ok (.iload 9, 2) := by decide +kernel
theorem dX0_clearColumn_52 : decode cX0_clearColumn 52 = .ok (.laload, 1) := by decide +kernel
theorem dX0_clearColumn_53 : decode cX0_clearColumn 53 = .ok (.lmul, 1) := by decide +kernel
theorem dX0_clearColumn_54 : decode cX0_clearColumn 54 = .ok (.lsub, 1) := by decide +kernel
theorem dX0_clearColumn_55 : decode cX0_clearColumn 55 = .ok (.lstore 10, 2) := by decide +kernel
theorem dX0_clearColumn_57 : decode cX0_clearColumn 57 = .ok (.aload_n 0, 1) := by decide +kernel
theorem dX0_clearColumn_58 : decode cX0_clearColumn 58 = .ok (.getfield 21, 3) := by decide +kernel
theorem dX0_clearColumn_61 : decode cX0_clearColumn 61 = .ok (.iload_n 1, 1) := by decide +kernel
theorem dX0_clearColumn_62 : decode cX0_clearColumn 62 = .ok (.aaload, 1) := by decide +kernel
theorem dX0_clearColumn_63 : decode cX0_clearColumn 63 = .ok (.iload 9, 2) := by decide +kernel
theorem dX0_clearColumn_65 : decode cX0_clearColumn 65 = .ok (.lload_n 3, 1) := by decide +kernel
theorem dX0_clearColumn_66 : decode cX0_clearColumn 66 = .ok (.lconst 0, 1) := by decide +kernel
theorem dX0_clearColumn_67 : decode cX0_clearColumn 67 = .ok (.lcmp, 1) := by decide +kernel
theorem dX0_clearColumn_68 : decode cX0_clearColumn 68 = .ok (.ifCond .ne 7, 3) := by decide +kernel
theorem dX0_clearColumn_71 : decode cX0_clearColumn 71 = .ok (.lconst 0, 1) := by decide +kernel
theorem dX0_clearColumn_72 : decode cX0_clearColumn 72 = .ok (.goto 7, 3) := by decide +kernel
theorem dX0_clearColumn_75 : decode cX0_clearColumn 75 = .ok (.lload 10, 2) := by decide +kernel
theorem dX0_clearColumn_77 : decode cX0_clearColumn 77 = .ok (.lload_n 3, 1) := by decide +kernel
theorem dX0_clearColumn_78 : decode cX0_clearColumn 78 = .ok (.ldiv, 1) := by decide +kernel
theorem dX0_clearColumn_79 : decode cX0_clearColumn 79 = .ok (.lastore, 1) := by decide +kernel
theorem dX0_clearColumn_80 : decode cX0_clearColumn 80 = .ok (.iinc 9 1, 3) := by decide +kernel
theorem dX0_clearColumn_83 : decode cX0_clearColumn 83 = .ok (.goto (-60), 3) := by decide +kernel
theorem dX0_clearColumn_86 : decode cX0_clearColumn 86 = .ok (.return_, 1) := by decide +kernel
theorem dX1_init_0 : decode cX1_init 0 = .ok (.aload_n 0, 1) := by decide +kernel
theorem dX1_init_1 : decode cX1_init 1 = .ok (.invokespecial 3, 3) := by decide +kernel
theorem dX1_init_4 : decode cX1_init 4 = .ok (.aload_n 0, 1) := by decide +kernel
theorem dX1_init_5 : decode cX1_init 5 = .ok (.bipush 6, 2) := by decide +kernel
theorem dX1_init_7 : decode cX1_init 7 = .ok (.newarray .boolean, 2) := by decide +kernel
theorem dX1_init_9 : decode cX1_init 9 = .ok (.putfield 9, 3) := by decide +kernel
theorem dX1_init_12 : decode cX1_init 12 = .ok (.aload_n 0, 1) := by decide +kernel
theorem dX1_init_13 : decode cX1_init 13 = .ok (.bipush 6, 2) := by decide +kernel
theorem dX1_init_15 : decode cX1_init 15 = .ok (.newarray .int, 2) := by decide +kernel
theorem dX1_init_17 : decode cX1_init 17 = .ok (.putfield 15, 3) := by decide +kernel
theorem dX1_init_20 : decode cX1_init 20 = .ok (.aload_n 0, 1) := by decide +kernel
theorem dX1_init_21 : decode cX1_init 21 = .ok (.bipush 6, 2) := by decide +kernel
theorem dX1_init_23 : decode cX1_init 23 = .ok (.newarray .int, 2) := by decide +kernel
theorem dX1_init_25 : decode cX1_init 25 = .ok (.putfield 19, 3) := by decide +kernel
theorem dX1_init_28 : decode cX1_init 28 = .ok (.aload_n 0, 1) := by decide +kernel
theorem dX1_init_29 : decode cX1_init 29 = .ok (.bipush 14, 2) := by decide +kernel
theorem dX1_init_31 : decode cX1_init 31 = .ok (.newarray .int, 2) := by decide +kernel
theorem dX1_init_33 : decode cX1_init 33 = .ok (.putfield 22, 3) := by decide +kernel
theorem dX1_init_36 : decode cX1_init 36 = .ok (.aload_n 0, 1) := by decide +kernel
theorem dX1_init_37 : decode cX1_init 37 = .ok (.bipush 14, 2) := by decide +kernel
theorem dX1_init_39 : decode cX1_init 39 = .ok (.newarray .int, 2) := by decide +kernel
theorem dX1_init_41 : decode cX1_init 41 = .ok (.putfield 25, 3) := by decide +kernel
theorem dX1_init_44 : decode cX1_init 44 = .ok (.aload_n 0, 1) := by decide +kernel
theorem dX1_init_45 : decode cX1_init 45 = .ok (.bipush 14, 2) := by decide +kernel
theorem dX1_init_47 : decode cX1_init 47 = .ok (.newarray .int, 2) := by decide +kernel
theorem dX1_init_49 : decode cX1_init 49 = .ok (.putfield 28, 3) := by decide +kernel
theorem dX1_init_52 : decode cX1_init 52 = .ok (.aload_n 0, 1) := by decide +kernel
theorem dX1_init_53 : decode cX1_init 53 = .ok (.bipush 14, 2) := by decide +kernel
theorem dX1_init_55 : decode cX1_init 55 = .ok (.newarray .int, 2) := by decide +kernel
theorem dX1_init_57 : decode cX1_init 57 = .ok (.putfield 31, 3) := by decide +kernel
theorem dX1_init_60 : decode cX1_init 60 = .ok (.aload_n 0, 1) := by decide +kernel
theorem dX1_init_61 : decode cX1_init 61 = .ok (.bipush 14, 2) := by decide +kernel
theorem dX1_init_63 : decode cX1_init 63 = .ok (.newarray .boolean, 2) := by decide +kernel
theorem dX1_init_65 : decode cX1_init 65 = .ok (.putfield 34, 3) := by decide +kernel
theorem dX1_init_68 : decode cX1_init 68 = .ok (.return_, 1) := by decide +kernel
theorem dX1_hasStation_0 : decode cX1_hasStation 0 = .ok (.iload_n 1, 1) := by decide +kernel
theorem dX1_hasStation_1 : decode cX1_hasStation 1 = .ok (.ifCond .lt 15, 3) := by decide +kernel
theorem dX1_hasStation_4 : decode cX1_hasStation 4 = .ok (.iload_n 1, 1) := by decide +kernel
theorem dX1_hasStation_5 : decode cX1_hasStation 5 = .ok (.aload_n 0, 1) := by decide +kernel
theorem dX1_hasStation_6 : decode cX1_hasStation 6 = .ok (.getfield 37, 3) := by decide +kernel
theorem dX1_hasStation_9 : decode cX1_hasStation 9 = .ok (.if_icmp .ge 7, 3) := by decide +kernel
theorem dX1_hasStation_12 : decode cX1_hasStation 12 = .ok (.iconst 1, 1) := by decide +kernel
theorem dX1_hasStation_13 : decode cX1_hasStation 13 = .ok (.goto 4, 3) := by decide +kernel
theorem dX1_hasStation_16 : decode cX1_hasStation 16 = .ok (.iconst 0, 1) := by decide +kernel
theorem dX1_hasStation_17 : decode cX1_hasStation 17 = .ok (.ireturn, 1) := by decide +kernel
theorem dX1_hasObservation_0 : decode cX1_hasObservation 0 = .ok (.iload_n 1, 1) := by decide +kernel
theorem dX1_hasObservation_1 : decode cX1_hasObservation 1 = .ok (.ifCond .lt 15, 3) := by decide +kernel
theorem dX1_hasObservation_4 : decode cX1_hasObservation 4 = .ok (.iload_n 1, 1) := by decide +kernel
theorem dX1_hasObservation_5 : decode cX1_hasObservation 5 = .ok (.aload_n 0, 1) := by decide +kernel
theorem dX1_hasObservation_6 : decode cX1_hasObservation 6 = .ok (.getfield 41, 3) := by decide +kernel
theorem dX1_hasObservation_9 : decode cX1_hasObservation 9 = .ok (.if_icmp .ge 7, 3) := by decide +kernel
theorem dX1_hasObservation_12 : decode cX1_hasObservation 12 = .ok (.iconst 1, 1) := by decide +kernel
theorem dX1_hasObservation_13 : decode cX1_hasObservation 13 = .ok (.goto 4, 3) := by decide +kernel
theorem dX1_hasObservation_16 : decode cX1_hasObservation 16 = .ok (.iconst 0, 1) := by decide +kernel
theorem dX1_hasObservation_17 : decode cX1_hasObservation 17 = .ok (.ireturn, 1) := by decide +kernel
set_option maxRecDepth 20000 in
theorem ggX1_addStation_X1_markParts : GoodIn wsX1_addStation wsX1_markParts := goodIn_r _ [6, 1, 7, 8, 9, 10, 11, 12, 13, 14, 5, 15, 16, 17, 18, 19, 20, 21, 22, 23, 24, 25, 26, 27, 28, 29, 30, 31, 32] (by decide +kernel) (by decide +kernel)
set_option maxRecDepth 20000 in
theorem gX1_addStation_X1_markParts : GoodIn wsX1_addStation (wsV RX1 44 RX1 yX1_markParts wsX1_markParts) := goodIn_app (goodIn_of _ (by decide +kernel)) ggX1_addStation_X1_markParts
theorem dX1_addStation_0 : decode cX1_addStation 0 = .ok (.aload_n 0, 1) := by decide +kernel
theorem dX1_addStation_1 : decode cX1_addStation 1 = .ok (.getfield 37, 3) := by decide +kernel
theorem dX1_addStation_4 : decode cX1_addStation 4 = .ok (.istore_n 1, 1) := by decide +kernel
theorem dX1_addStation_5 : decode cX1_addStation 5 = .ok (.aload_n 0, 1) := by decide +kernel
theorem dX1_addStation_6 : decode cX1_addStation 6 = .ok (.iload_n 1, 1) := by decide +kernel
theorem dX1_addStation_7 : decode cX1_addStation 7 = .ok (.iconst 1, 1) := by decide +kernel
theorem dX1_addStation_8 : decode cX1_addStation 8 = .ok (.iadd, 1) := by decide +kernel
theorem dX1_addStation_9 : decode cX1_addStation 9 = .ok (.putfield 37, 3) := by decide +kernel
theorem dX1_addStation_12 : decode cX1_addStation 12 = .ok (.aload_n 0, 1) := by decide +kernel
theorem dX1_addStation_13 : decode cX1_addStation 13 = .ok (.invokevirtual 44, 3) := by decide +kernel
theorem dX1_addStation_16 : decode cX1_addStation 16 = .ok (.iload_n 1, 1) := by decide +kernel
theorem dX1_addStation_17 : decode cX1_addStation 17 = .ok (.ireturn, 1) := by decide +kernel
theorem dX1_tellHeight_0 : decode cX1_tellHeight 0 = .ok (.aload_n 0, 1) := by decide +kernel
theorem dX1_tellHeight_1 : decode cX1_tellHeight 1 = .ok (.getfield 9, 3) := by decide +kernel
theorem dX1_tellHeight_4 : decode cX1_tellHeight 4 = .ok (.iload_n 1, 1) := by decide +kernel
theorem dX1_tellHeight_5 : decode cX1_tellHeight 5 = .ok (.baload, 1) := by decide +kernel
theorem dX1_tellHeight_6 : decode cX1_tellHeight 6 = .ok (.istore 4, 2) := by decide +kernel
theorem dX1_tellHeight_8 : decode cX1_tellHeight 8 = .ok (.aload_n 0, 1) := by decide +kernel
theorem dX1_tellHeight_9 : decode cX1_tellHeight 9 = .ok (.getfield 9, 3) := by decide +kernel
theorem dX1_tellHeight_12 : decode cX1_tellHeight 12 = .ok (.iload_n 1, 1) := by decide +kernel
theorem dX1_tellHeight_13 : decode cX1_tellHeight 13 = .ok (.iload_n 3, 1) := by decide +kernel
theorem dX1_tellHeight_14 : decode cX1_tellHeight 14 = .ok (.bastore, 1) := by decide +kernel
theorem dX1_tellHeight_15 : decode cX1_tellHeight 15 = .ok (.aload_n 0, 1) := by decide +kernel
theorem dX1_tellHeight_16 : decode cX1_tellHeight 16 = .ok (.getfield 15, 3) := by decide +kernel
theorem dX1_tellHeight_19 : decode cX1_tellHeight 19 = .ok (.iload_n 1, 1) := by decide +kernel
theorem dX1_tellHeight_20 : decode cX1_tellHeight 20 = .ok (.iload_n 3, 1) := by decide +kernel
theorem dX1_tellHeight_21 : decode cX1_tellHeight 21 = .ok (.ifCond .eq 7, 3) := by decide +kernel
theorem dX1_tellHeight_24 : decode cX1_tellHeight 24 = .ok (.iload_n 2, 1) := by decide +kernel
theorem dX1_tellHeight_25 : decode cX1_tellHeight 25 = .ok (.goto 4, 3) := by decide +kernel
theorem dX1_tellHeight_28 : decode cX1_tellHeight 28 = .ok (.iconst 0, 1) := by decide +kernel
theorem dX1_tellHeight_29 : decode cX1_tellHeight 29 = .ok (.iastore, 1) := by decide +kernel
theorem dX1_tellHeight_30 : decode cX1_tellHeight 30 = .ok (.iload 4, 2) := by decide +kernel
theorem dX1_tellHeight_32 : decode cX1_tellHeight 32 = .ok (.ireturn, 1) := by decide +kernel
set_option maxRecDepth 20000 in
theorem ggX1_addObservation_X1_markParts : GoodIn wsX1_addObservation wsX1_markParts := goodIn_r _ [10, 11, 12, 1, 13, 2, 3, 14, 15, 16, 9, 17, 18, 19, 20, 21, 22, 23, 24, 25, 26, 27, 28, 29, 30, 31, 32, 33, 34] (by decide +kernel) (by decide +kernel)
set_option maxRecDepth 20000 in
theorem gX1_addObservation_X1_markParts : GoodIn wsX1_addObservation (wsV RX1 44 RX1 yX1_markParts wsX1_markParts) := goodIn_app (goodIn_of _ (by decide +kernel)) ggX1_addObservation_X1_markParts
theorem dX1_addObservation_0 : decode cX1_addObservation 0 = .ok (.aload_n 0, 1) := by decide +kernel
theorem dX1_addObservation_1 : decode cX1_addObservation 1 = .ok (.getfield 41, 3) := by decide +kernel
theorem dX1_addObservation_4 : decode cX1_addObservation 4 = .ok (.istore 5, 2) := by decide +kernel
theorem dX1_addObservation_6 : decode cX1_addObservation 6 = .ok (.aload_n 0, 1) := by decide +kernel
theorem dX1_addObservation_7 : decode cX1_addObservation 7 = .ok (.getfield 22, 3) := by decide +kernel
theorem dX1_addObservation_10 : decode cX1_addObservation 10 = .ok (.iload 5, 2) := by decide +kernel
theorem dX1_addObservation_12 : decode cX1_addObservation 12 = .ok (.iload_n 1, 1) := by decide +kernel
theorem dX1_addObservation_13 : decode cX1_addObservation 13 = .ok (.iastore, 1) := by decide +kernel
theorem dX1_addObservation_14 : decode cX1_addObservation 14 = .ok (.aload_n 0, 1) := by decide +kernel
theorem dX1_addObservation_15 : decode cX1_addObservation 15 = .ok (.getfield 25, 3) := by decide +kernel
theorem dX1_addObservation_18 : decode cX1_addObservation 18 = .ok (.iload 5, 2) := by decide +kernel
theorem dX1_addObservation_20 : decode cX1_addObservation 20 = .ok (.iload_n 2, 1) := by decide +kernel
theorem dX1_addObservation_21 : decode cX1_addObservation 21 = .ok (.iastore, 1) := by decide +kernel
theorem dX1_addObservation_22 : decode cX1_addObservation 22 = .ok (.aload_n 0, 1) := by decide +kernel
theorem dX1_addObservation_23 : decode cX1_addObservation 23 = .ok (.getfield 28, 3) := by decide +kernel
theorem dX1_addObservation_26 : decode cX1_addObservation 26 = .ok (.iload 5, 2) := by decide +kernel
theorem dX1_addObservation_28 : decode cX1_addObservation 28 = .ok (.iload_n 3, 1) := by decide +kernel
theorem dX1_addObservation_29 : decode cX1_addObservation 29 = .ok (.iastore, 1) := by decide +kernel
theorem dX1_addObservation_30 : decode cX1_addObservation 30 = .ok (.aload_n 0, 1) := by decide +kernel
theorem dX1_addObservation_31 : decode cX1_addObservation 31 = .ok (.getfield 31, 3) := by decide +kernel
theorem dX1_addObservation_34 : decode cX1_addObservation 34 = .ok (.iload 5, 2) := by decide +kernel
theorem dX1_addObservation_36 : decode cX1_addObservation 36 = .ok (.iload 4, 2) := by decide +kernel
theorem dX1_addObservation_38 : decode cX1_addObservation 38 = .ok (.iastore, 1) := by decide +kernel
theorem dX1_addObservation_39 : decode cX1_addObservation 39 = .ok (.aload_n 0, 1) := by decide +kernel
theorem dX1_addObservation_40 : decode cX1_addObservation 40 = .ok (.iload 5, 2) := by decide +kernel
theorem dX1_addObservation_42 : decode cX1_addObservation 42 = .ok (.iconst 1, 1) := by decide +kernel
theorem dX1_addObservation_43 : decode cX1_addObservation 43 = .ok (.iadd, 1) := by decide +kernel
theorem dX1_addObservation_44 : decode cX1_addObservation 44 = .ok (.putfield 41, 3) := by decide +kernel
theorem dX1_addObservation_47 : decode cX1_addObservation 47 = .ok (.aload_n 0, 1) := by decide +kernel
theorem dX1_addObservation_48 : decode cX1_addObservation 48 = .ok (.invokevirtual 44, 3) := by decide +kernel
theorem dX1_addObservation_51 : decode cX1_addObservation 51 = .ok (.iload 5, 2) := by decide +kernel
theorem dX1_addObservation_53 : decode cX1_addObservation 53 = .ok (.ireturn, 1) := by decide +kernel
set_option maxRecDepth 20000 in
theorem ggX1_setWithdrawn_X1_markParts : GoodIn wsX1_setWithdrawn wsX1_markParts := goodIn_r _ [6, 7, 8, 9, 1, 10, 11, 12, 13, 14, 5, 15, 16, 17, 18, 19, 20, 21, 22, 23, 24, 25, 26, 27, 28, 29, 30, 31, 32] (by decide +kernel) (by decide +kernel)
set_option maxRecDepth 20000 in
theorem gX1_setWithdrawn_X1_markParts : GoodIn wsX1_setWithdrawn (wsV RX1 44 RX1 yX1_markParts wsX1_markParts) := goodIn_app (goodIn_of _ (by decide +kernel)) ggX1_setWithdrawn_X1_markParts
theorem dX1_setWithdrawn_0 : decode cX1_setWithdrawn 0 = .ok (.aload_n 0, 1) := by decide +kernel
theorem dX1_setWithdrawn_1 : decode cX1_setWithdrawn 1 = .ok (.getfield 34, 3) := by decide +kernel
theorem dX1_setWithdrawn_4 : decode cX1_setWithdrawn 4 = .ok (.iload_n 1, 1) := by decide +kernel
theorem dX1_setWithdrawn_5 : decode cX1_setWithdrawn 5 = .ok (.baload, 1) := by decide +kernel
theorem dX1_setWithdrawn_6 : decode cX1_setWithdrawn 6 = .ok (.istore_n 3, 1) := by decide +kernel
theorem dX1_setWithdrawn_7 : decode cX1_setWithdrawn 7 = .ok (.aload_n 0, 1) := by decide +kernel
theorem dX1_setWithdrawn_8 : decode cX1_setWithdrawn 8 = .ok (.getfield 34, 3) := by decide +kernel
theorem dX1_setWithdrawn_11 : decode cX1_setWithdrawn 11 = .ok (.iload_n 1, 1) := by decide +kernel
theorem dX1_setWithdrawn_12 : decode cX1_setWithdrawn 12 = .ok (.iload_n 2, 1) := by decide +kernel
theorem dX1_setWithdrawn_13 : decode cX1_setWithdrawn 13 = .ok (.bastore, 1) := by decide +kernel
theorem dX1_setWithdrawn_14 : decode cX1_setWithdrawn 14 = .ok (.aload_n 0, 1) := by decide +kernel
theorem dX1_setWithdrawn_15 : decode cX1_setWithdrawn 15 = .ok (.invokevirtual 44, 3) := by decide +kernel
theorem dX1_setWithdrawn_18 : decode cX1_setWithdrawn 18 = .ok (.iload_n 3, 1) := by decide +kernel
theorem dX1_setWithdrawn_19 : decode cX1_setWithdrawn 19 = .ok (.ireturn, 1) := by decide +kernel
set_option maxRecDepth 20000 in
theorem ggX1_markParts_X1_mergeParts : GoodIn wsX1_markParts wsX1_mergeParts := goodIn_r _ [11, 12, 13, 14, 15, 16, 17, 18, 1, 2, 19, 20, 21, 22, 23, 24, 25, 26, 27, 28] (by decide +kernel) (by decide +kernel)
set_option maxRecDepth 20000 in
theorem gX1_markParts_X1_mergeParts : GoodIn wsX1_markParts (wsV RX1 47 RX1 yX1_mergeParts wsX1_mergeParts) := goodIn_app (goodIn_of _ (by decide +kernel)) ggX1_markParts_X1_mergeParts
theorem dX1_markParts_0 : decode cX1_markParts 0 = .ok (.iconst 0, 1) := by decide +kernel
theorem dX1_markParts_1 : decode cX1_markParts 1 = .ok (.istore_n 1, 1) := by decide +kernel
theorem dX1_markParts_2 : decode cX1_markParts 2 = .ok (.iload_n 1, 1) := by decide +kernel
theorem dX1_markParts_3 : decode cX1_markParts 3 = .ok (.aload_n 0, 1) := by decide +kernel
theorem dX1_markParts_4 : decode cX1_markParts 4 = .ok (.getfield 37, 3) := by decide +kernel
theorem dX1_markParts_7 : decode cX1_markParts 7 = .ok (.if_icmp .ge 16, 3) := by decide +kernel
theorem dX1_markParts_10 : decode cX1_markParts 10 = .ok (.aload_n 0, 1) := by decide +kernel
theorem dX1_markParts_11 : decode cX1_markParts 11 = .ok (.getfield 19, 3) := by decide +kernel
theorem dX1_markParts_14 : decode cX1_markParts 14 = .ok (.iload_n 1, 1) := by decide +kernel
theorem dX1_markParts_15 : decode cX1_markParts 15 = .ok (.iload_n 1, 1) := by decide +kernel
theorem dX1_markParts_16 : decode cX1_markParts 16 = .ok (.iastore, 1) := by decide +kernel
theorem dX1_markParts_17 : decode cX1_markParts 17 = .ok (.iinc 1 1, 3) := by decide +kernel
theorem dX1_markParts_20 : decode cX1_markParts 20 = .ok (.goto (-18), 3) := by decide +kernel
theorem dX1_markParts_23 : decode cX1_markParts 23 = .ok (.iconst 0, 1) := by decide +kernel
theorem dX1_markParts_24 : decode cX1_markParts 24 = .ok (.istore_n 1, 1) := by decide +kernel
theorem dX1_markParts_25 : decode cX1_markParts 25 = .ok (.iload_n 1, 1) := by decide +kernel
theorem dX1_markParts_26 : decode cX1_markParts 26 = .ok (.aload_n 0, 1) := by decide +kernel
theorem dX1_markParts_27 : decode cX1_markParts 27 = .ok (.getfield 41, 3) := by decide +kernel
theorem dX1_markParts_30 : decode cX1_markParts 30 = .ok (.if_icmp .ge 44, 3) := by decide +kernel
theorem dX1_markParts_33 : decode cX1_markParts 33 = .ok (.aload_n 0, 1) := by decide +kernel
theorem dX1_markParts_34 : decode cX1_markParts 34 = .ok (.getfield 34, 3) := by decide +kernel
theorem dX1_markParts_37 : decode cX1_markParts 37 = .ok (.iload_n 1, 1) := by decide +kernel
theorem dX1_markParts_38 : decode cX1_markParts 38 = .ok (.baload, 1) := by decide +kernel
theorem dX1_markParts_39 : decode cX1_markParts 39 = .ok (.ifCond .ne 29, 3) := by decide +kernel
theorem dX1_markParts_42 : decode cX1_markParts 42 = .ok (.aload_n 0, 1) := by decide +kernel
theorem dX1_markParts_43 : decode cX1_markParts 43 = .ok (.aload_n 0, 1) := by decide +kernel
theorem dX1_markParts_44 : decode cX1_markParts 44 = .ok (.getfield 19, 3) := by decide +kernel
theorem dX1_markParts_47 : decode cX1_markParts 47 = .ok (.aload_n 0, 1) := by decide +kernel
theorem dX1_markParts_48 : decode cX1_markParts 48 = .ok (.getfield 22, 3) := by decide +kernel
theorem dX1_markParts_51 : decode cX1_markParts 51 = .ok (.iload_n 1, 1) := by decide +kernel
theorem dX1_markParts_52 : decode cX1_markParts 52 = .ok (.iaload, 1) := by decide +kernel
theorem dX1_markParts_53 : decode cX1_markParts 53 = .ok (.iaload, 1) := by decide +kernel
theorem dX1_markParts_54 : decode cX1_markParts 54 = .ok (.aload_n 0, 1) := by decide +kernel
theorem dX1_markParts_55 : decode cX1_markParts 55 = .ok (.getfield 19, 3) := by decide +kernel
theorem dX1_markParts_58 : decode cX1_markParts 58 = .ok (.aload_n 0, 1) := by decide +kernel
theorem dX1_markParts_59 : decode cX1_markParts 59 = .ok (.getfield 25, 3) := by decide +kernel
theorem dX1_markParts_62 : decode cX1_markParts 62 = .ok (.iload_n 1, 1) := by decide +kernel
theorem dX1_markParts_63 : decode cX1_markParts 63 = .ok (.iaload, 1) := by decide +kernel
theorem dX1_markParts_64 : decode cX1_markParts 64 = .ok (.iaload, 1) := by decide +kernel
theorem dX1_markParts_65 : decode cX1_markParts 65 = .ok (.invokevirtual 47, 3) := by decide +kernel
theorem dX1_markParts_68 : decode cX1_markParts 68 = .ok (.iinc 1 1, 3) := by decide +kernel
theorem dX1_markParts_71 : decode cX1_markParts 71 = .ok (.goto (-46), 3) := by decide +kernel
theorem dX1_markParts_74 : decode cX1_markParts 74 = .ok (.return_, 1) := by decide +kernel
theorem dX1_mergeParts_0 : decode cX1_mergeParts 0 = .ok (.iload_n 1, 1) := by decide +kernel
theorem dX1_mergeParts_1 : decode cX1_mergeParts 1 = .ok (.iload_n 2, 1) := by decide +kernel
theorem dX1_mergeParts_2 : decode cX1_mergeParts 2 = .ok (.invokestatic 51, 3) := by decide +kernel
theorem dX1_mergeParts_5 : decode cX1_mergeParts 5 = .ok (.istore_n 3, 1) := by decide +kernel
theorem dX1_mergeParts_6 : decode cX1_mergeParts 6 = .ok (.iload_n 1, 1) := by decide +kernel
theorem dX1_mergeParts_7 : decode cX1_mergeParts 7 = .ok (.iload_n 2, 1) := by decide +kernel
theorem dX1_mergeParts_8 : decode cX1_mergeParts 8 = .ok (.invokestatic 57, 3) := by decide +kernel
theorem dX1_mergeParts_11 : decode cX1_mergeParts 11 = .ok (.istore 4, 2) := by decide +kernel
theorem dX1_mergeParts_13 : decode cX1_mergeParts 13 = .ok (.iconst 0, 1) := by decide +kernel
theorem dX1_mergeParts_14 : decode cX1_mergeParts 14 = .ok (.istore 5, 2) := by decide +kernel
theorem dX1_mergeParts_16 : decode cX1_mergeParts 16 = .ok (.iload 5, 2) := by decide +kernel
theorem dX1_mergeParts_18 : decode cX1_mergeParts 18 = .ok (.aload_n 0, 1) := by decide +kernel
theorem dX1_mergeParts_19 : decode cX1_mergeParts 19 = .ok (.getfield 37, 3) := by decide +kernel
theorem dX1_mergeParts_22 : decode cX1_mergeParts 22 = .ok (.if_icmp .ge 29, 3) := by decide +kernel
theorem dX1_mergeParts_25 : decode cX1_mergeParts 25 = .ok (.aload_n 0, 1) := by decide +kernel
theorem dX1_mergeParts_26 : decode cX1_mergeParts 26 = .ok (.getfield 19, 3) := by decide +kernel
theorem dX1_mergeParts_29 : decode cX1_mergeParts 29 = .ok (.iload 5, 2) := by decide +kernel
theorem dX1_mergeParts_31 : decode cX1_mergeParts 31 = .ok (.iaload, 1) := by decide +kernel
theorem dX1_mergeParts_32 : decode cX1_mergeParts 32 = .ok (.iload 4, 2) := by decide +kernel
theorem dX1_mergeParts_34 : decode cX1_mergeParts 34 = .ok (.if_icmp .ne 11, 3) := by decide +kernel
theorem dX1_mergeParts_37 : decode cX1_mergeParts 37 = .ok (.aload_n 0, 1) := by decide +kernel
theorem dX1_mergeParts_38 : decode cX1_mergeParts 38 = .ok (.getfield 19, 3) := by decide +kernel
theorem dX1_mergeParts_41 : decode cX1_mergeParts 41 = .ok (.iload 5, 2) := by decide +kernel
theorem dX1_mergeParts_43 : decode cX1_mergeParts 43 = .ok (.iload_n 3, 1) := by decide +kernel
theorem dX1_mergeParts_44 : decode cX1_mergeParts 44 = .ok (.iastore, 1) := by decide +kernel
theorem dX1_mergeParts_45 : decode cX1_mergeParts 45 = .ok (.iinc 5 1, 3) := by decide +kernel
theorem dX1_mergeParts_48 : decode cX1_mergeParts 48 = .ok (.goto (-32), 3) := by decide +kernel
theorem dX1_mergeParts_51 : decode cX1_mergeParts 51 = .ok (.return_, 1) := by decide +kernel
theorem dX1_countParts_0 : decode cX1_countParts 0 = .ok (.iconst 0, 1) := by decide +kernel
theorem dX1_countParts_1 : decode cX1_countParts 1 = .ok (.istore_n 1, 1) := by decide +kernel
theorem dX1_countParts_2 : decode cX1_countParts 2 = .ok (.iconst 0, 1) := by decide +kernel
theorem dX1_countParts_3 : decode cX1_countParts 3 = .ok (.istore_n 2, 1) := by decide +kernel
theorem dX1_countParts_4 : decode cX1_countParts 4 = .ok (.iload_n 2, 1) := by decide +kernel
theorem dX1_countParts_5 : decode cX1_countParts 5 = .ok (.aload_n 0, 1) := by decide +kernel
theorem dX1_countParts_6 : decode cX1_countParts 6 = .ok (.getfield 37, 3) := by decide +kernel
theorem dX1_countParts_9 : decode cX1_countParts 9 = .ok (.if_icmp .ge 22, 3) := by decide +kernel
theorem dX1_countParts_12 : decode cX1_countParts 12 = .ok (.aload_n 0, 1) := by decide +kernel
theorem dX1_countParts_13 : decode cX1_countParts 13 = .ok (.getfield 19, 3) := by decide +kernel
theorem dX1_countParts_16 : decode cX1_countParts 16 = .ok (.iload_n 2, 1) := by decide +kernel
theorem dX1_countParts_17 : decode cX1_countParts 17 = .ok (.iaload, 1) := by decide +kernel
theorem dX1_countParts_18 : decode cX1_countParts 18 = .ok (.iload_n 2, 1) := by decide +kernel
theorem dX1_countParts_19 : decode cX1_countParts 19 = .ok (.if_icmp .ne 6, 3) := by decide +kernel
theorem dX1_countParts_22 : decode cX1_countParts 22 = .ok (.iinc 1 1, 3) := by decide +kernel
theorem dX1_countParts_25 : decode cX1_countParts 25 = .ok (.iinc 2 1, 3) := by decide +kernel
theorem dX1_countParts_28 : decode cX1_countParts 28 = .ok (.goto (-24), 3) := by decide +kernel
theorem dX1_countParts_31 : decode cX1_countParts 31 = .ok (.iload_n 1, 1) := by decide +kernel
theorem dX1_countParts_32 : decode cX1_countParts 32 = .ok (.ireturn, 1) := by decide +kernel
set_option maxRecDepth 20000 in
theorem ggX1_countStationsWith_X1_areInOnePart : GoodIn wsX1_countStationsWith wsX1_areInOnePart := goodIn_r _ [6, 7, 8, 9, 10, 11, 12, 13, 14, 15, 16, 17] (by decide +kernel) (by decide +kernel)
set_option maxRecDepth 20000 in
theorem gX1_countStationsWith_X1_areInOnePart : GoodIn wsX1_countStationsWith (wsV RX1 60 RX1 yX1_areInOnePart wsX1_areInOnePart) := goodIn_app (goodIn_of _ (by decide +kernel)) ggX1_countStationsWith_X1_areInOnePart
theorem dX1_countStationsWith_0 : decode cX1_countStationsWith 0 = .ok (.iconst 0, 1) := by decide +kernel
theorem dX1_countStationsWith_1 : decode cX1_countStationsWith 1 = .ok (.istore_n 2, 1) := by decide +kernel
theorem dX1_countStationsWith_2 : decode cX1_countStationsWith 2 = .ok (.iconst 0, 1) := by decide +kernel
theorem dX1_countStationsWith_3 : decode cX1_countStationsWith 3 = .ok (.istore_n 3, 1) := by decide +kernel
theorem dX1_countStationsWith_4 : decode cX1_countStationsWith 4 = .ok (.iload_n 3, 1) := by decide +kernel
theorem dX1_countStationsWith_5 : decode cX1_countStationsWith 5 = .ok (.aload_n 0, 1) := by decide +kernel
theorem dX1_countStationsWith_6 : decode cX1_countStationsWith 6 = .ok (.getfield 37, 3) := by decide +kernel
theorem dX1_countStationsWith_9 : decode cX1_countStationsWith 9 = .ok (.if_icmp .ge 21, 3) := by decide +kernel
theorem dX1_countStationsWith_12 : decode cX1_countStationsWith 12 = .ok (.aload_n 0, 1) := by decide +kernel
theorem dX1_countStationsWith_13 : decode cX1_countStationsWith 13 = .ok (.iload_n 3, 1) := by decide +kernel
theorem dX1_countStationsWith_14 : decode cX1_countStationsWith 14 = .ok (.iload_n 1, 1) := by decide +kernel
theorem dX1_countStationsWith_15 : decode cX1_countStationsWith 15 = .ok (.invokevirtual 60, 3) := by decide +kernel
theorem dX1_countStationsWith_18 : decode cX1_countStationsWith 18 = .ok (.ifCond .eq 6, 3) := by decide +kernel
theorem dX1_countStationsWith_21 : decode cX1_countStationsWith 21 = .ok (.iinc 2 1, 3) := by decide +kernel
theorem dX1_countStationsWith_24 : decode cX1_countStationsWith 24 = .ok (.iinc 3 1, 3) := by decide +kernel
theorem dX1_countStationsWith_27 : decode cX1_countStationsWith 27 = .ok (.goto (-23), 3) := by decide +kernel
theorem dX1_countStationsWith_30 : decode cX1_countStationsWith 30 = .ok (.iload_n 2, 1) := by decide +kernel
theorem dX1_countStationsWith_31 : decode cX1_countStationsWith 31 = .ok (.ireturn, 1) := by decide +kernel
theorem dX1_areInOnePart_0 : decode cX1_areInOnePart 0 = .ok (.aload_n 0, 1) := by decide +kernel
theorem dX1_areInOnePart_1 : decode cX1_areInOnePart 1 = .ok (.getfield 19, 3) := by decide +kernel
theorem dX1_areInOnePart_4 : decode cX1_areInOnePart 4 = .ok (.iload_n 1, 1) := by decide +kernel
theorem dX1_areInOnePart_5 : decode cX1_areInOnePart 5 = .ok (.iaload, 1) := by decide +kernel
theorem dX1_areInOnePart_6 : decode cX1_areInOnePart 6 = .ok (.aload_n 0, 1) := by decide +kernel
theorem dX1_areInOnePart_7 : decode cX1_areInOnePart 7 = .ok (.getfield 19, 3) := by decide +kernel
theorem dX1_areInOnePart_10 : decode cX1_areInOnePart 10 = .ok (.iload_n 2, 1) := by decide +kernel
theorem dX1_areInOnePart_11 : decode cX1_areInOnePart 11 = .ok (.iaload, 1) := by decide +kernel
theorem dX1_areInOnePart_12 : decode cX1_areInOnePart 12 = .ok (.if_icmp .ne 7, 3) := by decide +kernel
theorem dX1_areInOnePart_15 : decode cX1_areInOnePart 15 = .ok (.iconst 1, 1) := by decide +kernel
theorem dX1_areInOnePart_16 : decode cX1_areInOnePart 16 = .ok (.goto 4, 3) := by decide +kernel
theorem dX1_areInOnePart_19 : decode cX1_areInOnePart 19 = .ok (.iconst 0, 1) := by decide +kernel
theorem dX1_areInOnePart_20 : decode cX1_areInOnePart 20 = .ok (.ireturn, 1) := by decide +kernel
set_option maxRecDepth 20000 in
theorem ggX1_isInPartOf_X1_areInOnePart : GoodIn wsX1_isInPartOf wsX1_areInOnePart := goodIn_r _ [7, 8, 9, 10, 11, 12, 13, 14, 15, 16, 17, 18] (by decide +kernel) (by decide +kernel)
set_option maxRecDepth 20000 in
theorem gX1_isInPartOf_X1_areInOnePart : GoodIn wsX1_isInPartOf (wsV RX1 60 RX1 yX1_areInOnePart wsX1_areInOnePart) := goodIn_app (goodIn_of _ (by decide +kernel)) ggX1_isInPartOf_X1_areInOnePart
theorem dX1_isInPartOf_0 : decode cX1_isInPartOf 0 = .ok (.aload_n 0, 1) := by decide +kernel
theorem dX1_isInPartOf_1 : decode cX1_isInPartOf 1 = .ok (.getfield 34, 3) := by decide +kernel
theorem dX1_isInPartOf_4 : decode cX1_isInPartOf 4 = .ok (.iload_n 1, 1) := by decide +kernel
theorem dX1_isInPartOf_5 : decode cX1_isInPartOf 5 = .ok (.baload, 1) := by decide +kernel
theorem dX1_isInPartOf_6 : decode cX1_isInPartOf 6 = .ok (.ifCond .ne 21, 3) := by decide +kernel
theorem dX1_isInPartOf_9 : decode cX1_isInPartOf 9 = .ok (.aload_n 0, 1) := by decide +kernel
theorem dX1_isInPartOf_10 : decode cX1_isInPartOf 10 = .ok (.aload_n 0, 1) := by decide +kernel
theorem dX1_isInPartOf_11 : decode cX1_isInPartOf 11 = .ok (.getfield 22, 3) := by decide +kernel
theorem dX1_isInPartOf_14 : decode cX1_isInPartOf 14 = .ok (.iload_n 1, 1) := by decide +kernel
theorem dX1_isInPartOf_15 : decode cX1_isInPartOf 15 = .ok (.iaload, 1) := by decide +kernel
theorem dX1_isInPartOf_16 : decode cX1_isInPartOf 16 = .ok (.iload_n 2, 1) := by decide +kernel
theorem dX1_isInPartOf_17 : decode cX1_isInPartOf 17 = .ok (.invokevirtual 60, 3) := by decide +kernel
theorem dX1_isInPartOf_20 : decode cX1_isInPartOf 20 = .ok (.ifCond .eq 7, 3) := by decide +kernel
theorem dX1_isInPartOf_23 : decode cX1_isInPartOf 23 = .ok (.iconst 1, 1) := by decide +kernel
theorem dX1_isInPartOf_24 : decode cX1_isInPartOf 24 = .ok (.goto 4, 3) := by decide +kernel
theorem dX1_isInPartOf_27 : decode cX1_isInPartOf 27 = .ok (.iconst 0, 1) := by decide +kernel
theorem dX1_isInPartOf_28 : decode cX1_isInPartOf 28 = .ok (.ireturn, 1) := by decide +kernel
set_option maxRecDepth 20000 in
theorem ggX1_datumOf_X1_areInOnePart : GoodIn wsX1_datumOf wsX1_areInOnePart := goodIn_r _ [8, 3, 9, 10, 11, 12, 13, 14, 15, 16, 17, 18] (by decide +kernel) (by decide +kernel)
set_option maxRecDepth 20000 in
theorem gX1_datumOf_X1_areInOnePart : GoodIn wsX1_datumOf (wsV RX1 60 RX1 yX1_areInOnePart wsX1_areInOnePart) := goodIn_app (goodIn_of _ (by decide +kernel)) ggX1_datumOf_X1_areInOnePart
theorem dX1_datumOf_0 : decode cX1_datumOf 0 = .ok (.iconst 0, 1) := by decide +kernel
theorem dX1_datumOf_1 : decode cX1_datumOf 1 = .ok (.istore_n 2, 1) := by decide +kernel
theorem dX1_datumOf_2 : decode cX1_datumOf 2 = .ok (.iload_n 2, 1) := by decide +kernel
theorem dX1_datumOf_3 : decode cX1_datumOf 3 = .ok (.aload_n 0, 1) := by decide +kernel
theorem dX1_datumOf_4 : decode cX1_datumOf 4 = .ok (.getfield 37, 3) := by decide +kernel
theorem dX1_datumOf_7 : decode cX1_datumOf 7 = .ok (.if_icmp .ge 29, 3) := by decide +kernel
theorem dX1_datumOf_10 : decode cX1_datumOf 10 = .ok (.aload_n 0, 1) := by decide +kernel
theorem dX1_datumOf_11 : decode cX1_datumOf 11 = .ok (.getfield 9, 3) := by decide +kernel
theorem dX1_datumOf_14 : decode cX1_datumOf 14 = .ok (.iload_n 2, 1) := by decide +kernel
theorem dX1_datumOf_15 : decode cX1_datumOf 15 = .ok (.baload, 1) := by decide +kernel
theorem dX1_datumOf_16 : decode cX1_datumOf 16 = .ok (.ifCond .eq 14, 3) := by decide +kernel
theorem dX1_datumOf_19 : decode cX1_datumOf 19 = .ok (.aload_n 0, 1) := by decide +kernel
theorem dX1_datumOf_20 : decode cX1_datumOf 20 = .ok (.iload_n 2, 1) := by decide +kernel
theorem dX1_datumOf_21 : decode cX1_datumOf 21 = .ok (.iload_n 1, 1) := by decide +kernel
theorem dX1_datumOf_22 : decode cX1_datumOf 22 = .ok (.invokevirtual 60, 3) := by decide +kernel
theorem dX1_datumOf_25 : decode cX1_datumOf 25 = .ok (.ifCond .eq 5, 3) := by decide +kernel
theorem dX1_datumOf_28 : decode cX1_datumOf 28 = .ok (.iload_n 2, 1) := by decide +kernel
theorem dX1_datumOf_29 : decode cX1_datumOf 29 = .ok (.ireturn, 1) := by decide +kernel
theorem dX1_datumOf_30 : decode cX1_datumOf 30 = .ok (.iinc 2 1, 3) := by decide +kernel
theorem dX1_datumOf_33 : decode cX1_datumOf 33 = .ok (.goto (-31), 3) := by decide +kernel
theorem dX1_datumOf_36 : decode cX1_datumOf 36 = .ok (.aload_n 0, 1) := by decide +kernel
theorem dX1_datumOf_37 : decode cX1_datumOf 37 = .ok (.getfield 19, 3) := by decide +kernel
theorem dX1_datumOf_40 : decode cX1_datumOf 40 = .ok (.iload_n 1, 1) := by decide +kernel
theorem dX1_datumOf_41 : decode cX1_datumOf 41 = .ok (.iaload, 1) := by decide +kernel
theorem dX1_datumOf_42 : decode cX1_datumOf 42 = .ok (.ireturn, 1) := by decide +kernel
theorem dX1_lowestBetween_0 : decode cX1_lowestBetween 0 = .ok (.iconst 0, 1) := by decide +kernel
theorem dX1_lowestBetween_1 : decode cX1_lowestBetween 1 = .ok (.istore_n 3, 1) := by decide +kernel
theorem dX1_lowestBetween_2 : decode cX1_lowestBetween 2 = .ok (.iload_n 3, 1) := by decide +kernel
theorem dX1_lowestBetween_3 : decode cX1_lowestBetween 3 = .ok (.aload_n 0, 1) := by decide +kernel
theorem dX1_lowestBetween_4 : decode cX1_lowestBetween 4 = .ok (.getfield 41, 3) := by decide +kernel
theorem dX1_lowestBetween_7 : decode cX1_lowestBetween 7 = .ok (.if_icmp .ge 84, 3) := by decide +kernel
theorem dX1_lowestBetween_10 : decode cX1_lowestBetween 10 = .ok (.aload_n 0, 1) := by decide +kernel
theorem dX1_lowestBetween_11 : decode cX1_lowestBetween 11 = .ok (.getfield 22, 3) := by decide +kernel
theorem dX1_lowestBetween_14 : decode cX1_lowestBetween 14 = .ok (.iload_n 3, 1) := by decide +kernel
theorem dX1_lowestBetween_15 : decode cX1_lowestBetween 15 = .ok (.iaload, 1) := by decide +kernel
theorem dX1_lowestBetween_16 : decode cX1_lowestBetween 16 = .ok (.iload_n 1, 1) := by decide +kernel
theorem dX1_lowestBetween_17 : decode cX1_lowestBetween 17 = .ok (.if_icmp .ne 17, 3) := by decide +kernel
theorem dX1_lowestBetween_20 : decode cX1_lowestBetween 20 = .ok (.aload_n 0, 1) := by decide +kernel
theorem dX1_lowestBetween_21 : decode cX1_lowestBetween 21 = .ok (.getfield 25, 3) := by decide +kernel
theorem dX1_lowestBetween_24 : decode cX1_lowestBetween 24 = .ok (.iload_n 3, 1) := by decide +kernel
theorem dX1_lowestBetween_25 : decode cX1_lowestBetween 25 = .ok (.iaload, 1) := by decide +kernel
theorem dX1_lowestBetween_26 : decode cX1_lowestBetween 26 = .ok (.iload_n 2, 1) := by decide +kernel
theorem dX1_lowestBetween_27 : decode cX1_lowestBetween 27 = .ok (.if_icmp .ne 7, 3) := by decide +kernel
theorem dX1_lowestBetween_30 : decode cX1_lowestBetween 30 = .ok (.iconst 1, 1) := by decide +kernel
theorem dX1_lowestBetween_31 : decode cX1_lowestBetween 31 = .ok (.goto 4, 3) := by decide +kernel
theorem dX1_lowestBetween_34 : decode cX1_lowestBetween 34 = .ok (.iconst 0, 1) := by decide +kernel
theorem dX1_lowestBetween_35 : decode cX1_lowestBetween 35 = .ok (.istore 4, 2) := by decide +kernel
theorem dX1_lowestBetween_37 : decode cX1_lowestBetween 37 = .ok (.aload_n 0, 1) := by decide +kernel
theorem dX1_lowestBetween_38 : decode cX1_lowestBetween 38 = .ok (.getfield 22, 3) := by decide +kernel
theorem dX1_lowestBetween_41 : decode cX1_lowestBetween 41 = .ok (.iload_n 3, 1) := by decide +kernel
theorem dX1_lowestBetween_42 : decode cX1_lowestBetween 42 = .ok (.iaload, 1) := by decide +kernel
theorem dX1_lowestBetween_43 : decode cX1_lowestBetween 43 = .ok (.iload_n 2, 1) := by decide +kernel
theorem dX1_lowestBetween_44 : decode cX1_lowestBetween 44 = .ok (.if_icmp .ne 17, 3) := by decide +kernel
theorem dX1_lowestBetween_47 : decode cX1_lowestBetween 47 = .ok (.aload_n 0, 1) := by decide +kernel
theorem dX1_lowestBetween_48 : decode cX1_lowestBetween 48 = .ok (.getfield 25, 3) := by decide +kernel
theorem dX1_lowestBetween_51 : decode cX1_lowestBetween 51 = .ok (.iload_n 3, 1) := by decide +kernel
theorem dX1_lowestBetween_52 : decode cX1_lowestBetween 52 = .ok (.iaload, 1) := by decide +kernel
theorem dX1_lowestBetween_53 : decode cX1_lowestBetween 53 = .ok (.iload_n 1, 1) := by decide +kernel
theorem dX1_lowestBetween_54 : decode cX1_lowestBetween 54 = .ok (.if_icmp .ne 7, 3) := by decide +kernel
theorem dX1_lowestBetween_57 : decode cX1_lowestBetween 57 = .ok (.iconst 1, 1) := by decide +kernel
theorem dX1_lowestBetween_58 : decode cX1_lowestBetween 58 = .ok (.goto 4, 3) := by decide +kernel
theorem dX1_lowestBetween_61 : decode cX1_lowestBetween 61 = .ok (.iconst 0, 1) := by decide +kernel
theorem dX1_lowestBetween_62 : decode cX1_lowestBetween 62 = .ok (.istore 5, 2) := by decide +kernel
theorem dX1_lowestBetween_64 : decode cX1_lowestBetween 64 = .ok (.aload_n 0, 1) := by decide +kernel
theorem dX1_lowestBetween_65 : decode cX1_lowestBetween 65 = .ok (.getfield 34, 3) := by decide +kernel
theorem dX1_lowestBetween_68 : decode cX1_lowestBetween 68 = .ok (.iload_n 3, 1) := by decide +kernel
theorem dX1_lowestBetween_69 : decode cX1_lowestBetween 69 = .ok (.baload, 1) := by decide +kernel
theorem dX1_lowestBetween_70 : decode cX1_lowestBetween 70 = .ok (.ifCond .ne 15, 3) := by decide +kernel
theorem dX1_lowestBetween_73 : decode cX1_lowestBetween 73 = .ok (.iload 4, 2) := by decide +kernel
theorem dX1_lowestBetween_75 : decode cX1_lowestBetween 75 = .ok (.ifCond .ne 8, 3) := by decide +kernel
theorem dX1_lowestBetween_78 : decode cX1_lowestBetween 78 = .ok (.iload 5, 2) := by decide +kernel
theorem dX1_lowestBetween_80 : decode cX1_lowestBetween 80 = .ok (.ifCond .eq 5, 3) := by decide +kernel
theorem dX1_lowestBetween_83 : decode cX1_lowestBetween 83 = .ok (.iload_n 3, 1) := by decide +kernel
theorem dX1_lowestBetween_84 : decode cX1_lowestBetween 84 = .ok (.ireturn, 1) := by decide +kernel
theorem dX1_lowestBetween_85 : decode cX1_lowestBetween 85 = .ok (.iinc 3 1, 3) := by decide +kernel
theorem dX1_lowestBetween_88 : decode cX1_lowestBetween 88 = .ok (.goto (-86), 3) := by decide +kernel
theorem dX1_lowestBetween_91 : decode cX1_lowestBetween 91 = .ok (.iconst (-1), 1) := by decide +kernel
theorem dX1_lowestBetween_92 : decode cX1_lowestBetween 92 = .ok (.ireturn, 1) := by decide +kernel
theorem dX1_differenceFrom_0 : decode cX1_differenceFrom 0 = .ok (.aload_n 0, 1) := by decide +kernel
theorem dX1_differenceFrom_1 : decode cX1_differenceFrom 1 = .ok (.getfield 22, 3) := by decide +kernel
theorem dX1_differenceFrom_4 : decode cX1_differenceFrom 4 = .ok (.iload_n 2, 1) := by decide +kernel
theorem dX1_differenceFrom_5 : decode cX1_differenceFrom 5 = .ok (.iaload, 1) := by decide +kernel
theorem dX1_differenceFrom_6 : decode cX1_differenceFrom 6 = .ok (.iload_n 1, 1) := by decide +kernel
theorem dX1_differenceFrom_7 : decode cX1_differenceFrom 7 = .ok (.if_icmp .ne 12, 3) := by decide +kernel
theorem dX1_differenceFrom_10 : decode cX1_differenceFrom 10 = .ok (.aload_n 0, 1) := by decide +kernel
theorem dX1_differenceFrom_11 : decode cX1_differenceFrom 11 = .ok (.getfield 28, 3) := by decide +kernel
theorem dX1_differenceFrom_14 : decode cX1_differenceFrom 14 = .ok (.iload_n 2, 1) := by decide +kernel
theorem dX1_differenceFrom_15 : decode cX1_differenceFrom 15 = .ok (.iaload, 1) := by decide +kernel
theorem dX1_differenceFrom_16 : decode cX1_differenceFrom 16 = .ok (.goto 10, 3) := by decide +kernel
theorem dX1_differenceFrom_19 : decode cX1_differenceFrom 19 = .ok (.aload_n 0, 1) := by decide +kernel
theorem dX1_differenceFrom_20 : decode cX1_differenceFrom 20 = .ok (.getfield 28, 3) := by decide +kernel
theorem dX1_differenceFrom_23 : decode cX1_differenceFrom 23 = .ok (.iload_n 2, 1) := by decide +kernel
theorem dX1_differenceFrom_24 : decode cX1_differenceFrom 24 = .ok (.iaload, 1) := by decide +kernel
theorem dX1_differenceFrom_25 : decode cX1_differenceFrom 25 = .ok (.ineg, 1) := by decide +kernel
theorem dX1_differenceFrom_26 : decode cX1_differenceFrom 26 = .ok (.ireturn, 1) := by decide +kernel
theorem dX2_init_0 : decode cX2_init 0 = .ok (.aload_n 0, 1) := by decide +kernel
theorem dX2_init_1 : decode cX2_init 1 = .ok (.invokespecial 1, 3) := by decide +kernel
theorem dX2_init_4 : decode cX2_init 4 = .ok (.aload_n 0, 1) := by decide +kernel
theorem dX2_init_5 : decode cX2_init 5 = .ok (.iconst 0, 1) := by decide +kernel
theorem dX2_init_6 : decode cX2_init 6 = .ok (.putfield 7, 3) := by decide +kernel
theorem dX2_init_9 : decode cX2_init 9 = .ok (.return_, 1) := by decide +kernel
theorem dX2_begin_0 : decode cX2_begin 0 = .ok (.aload_n 0, 1) := by decide +kernel
theorem dX2_begin_1 : decode cX2_begin 1 = .ok (.iload_n 1, 1) := by decide +kernel
theorem dX2_begin_2 : decode cX2_begin 2 = .ok (.putfield 13, 3) := by decide +kernel
theorem dX2_begin_5 : decode cX2_begin 5 = .ok (.aload_n 0, 1) := by decide +kernel
theorem dX2_begin_6 : decode cX2_begin 6 = .ok (.iload_n 1, 1) := by decide +kernel
theorem dX2_begin_7 : decode cX2_begin 7 = .ok (.putfield 16, 3) := by decide +kernel
theorem dX2_begin_10 : decode cX2_begin 10 = .ok (.aload_n 0, 1) := by decide +kernel
theorem dX2_begin_11 : decode cX2_begin 11 = .ok (.iconst 1, 1) := by decide +kernel
theorem dX2_begin_12 : decode cX2_begin 12 = .ok (.putfield 7, 3) := by decide +kernel
theorem dX2_begin_15 : decode cX2_begin 15 = .ok (.aload_n 0, 1) := by decide +kernel
theorem dX2_begin_16 : decode cX2_begin 16 = .ok (.getfield 7, 3) := by decide +kernel
theorem dX2_begin_19 : decode cX2_begin 19 = .ok (.ireturn, 1) := by decide +kernel
theorem dX2_goOn_0 : decode cX2_goOn 0 = .ok (.aload_n 0, 1) := by decide +kernel
theorem dX2_goOn_1 : decode cX2_goOn 1 = .ok (.iload_n 1, 1) := by decide +kernel
theorem dX2_goOn_2 : decode cX2_goOn 2 = .ok (.putfield 16, 3) := by decide +kernel
theorem dX2_goOn_5 : decode cX2_goOn 5 = .ok (.aload_n 0, 1) := by decide +kernel
theorem dX2_goOn_6 : decode cX2_goOn 6 = .ok (.aload_n 0, 1) := by decide +kernel
theorem dX2_goOn_7 : decode cX2_goOn 7 = .ok (.getfield 19, 3) := by decide +kernel
theorem dX2_goOn_10 : decode cX2_goOn 10 = .ok (.iload_n 2, 1) := by decide +kernel
theorem dX2_goOn_11 : decode cX2_goOn 11 = .ok (.iadd, 1) := by decide +kernel
theorem dX2_goOn_12 : decode cX2_goOn 12 = .ok (.putfield 19, 3) := by decide +kernel
theorem dX2_goOn_15 : decode cX2_goOn 15 = .ok (.aload_n 0, 1) := by decide +kernel
theorem dX2_goOn_16 : decode cX2_goOn 16 = .ok (.aload_n 0, 1) := by decide +kernel
theorem dX2_goOn_17 : decode cX2_goOn 17 = .ok (.getfield 7, 3) := by decide +kernel
theorem dX2_goOn_20 : decode cX2_goOn 20 = .ok (.iconst 1, 1) := by decide +kernel
theorem dX2_goOn_21 : decode cX2_goOn 21 = .ok (.iadd, 1) := by decide +kernel
theorem dX2_goOn_22 : decode cX2_goOn 22 = .ok (.putfield 7, 3) := by decide +kernel
theorem dX2_goOn_25 : decode cX2_goOn 25 = .ok (.aload_n 0, 1) := by decide +kernel
theorem dX2_goOn_26 : decode cX2_goOn 26 = .ok (.getfield 7, 3) := by decide +kernel
theorem dX2_goOn_29 : decode cX2_goOn 29 = .ok (.ireturn, 1) := by decide +kernel
theorem dX2_clear_0 : decode cX2_clear 0 = .ok (.aload_n 0, 1) := by decide +kernel
theorem dX2_clear_1 : decode cX2_clear 1 = .ok (.getfield 7, 3) := by decide +kernel
theorem dX2_clear_4 : decode cX2_clear 4 = .ok (.istore_n 1, 1) := by decide +kernel
theorem dX2_clear_5 : decode cX2_clear 5 = .ok (.aload_n 0, 1) := by decide +kernel
theorem dX2_clear_6 : decode cX2_clear 6 = .ok (.iconst 0, 1) := by decide +kernel
theorem dX2_clear_7 : decode cX2_clear 7 = .ok (.putfield 7, 3) := by decide +kernel
theorem dX2_clear_10 : decode cX2_clear 10 = .ok (.aload_n 0, 1) := by decide +kernel
theorem dX2_clear_11 : decode cX2_clear 11 = .ok (.iconst 0, 1) := by decide +kernel
theorem dX2_clear_12 : decode cX2_clear 12 = .ok (.putfield 19, 3) := by decide +kernel
theorem dX2_clear_15 : decode cX2_clear 15 = .ok (.iload_n 1, 1) := by decide +kernel
theorem dX2_clear_16 : decode cX2_clear 16 = .ok (.ireturn, 1) := by decide +kernel
theorem dX3_init_0 : decode cX3_init 0 = .ok (.aload_n 0, 1) := by decide +kernel
theorem dX3_init_1 : decode cX3_init 1 = .ok (.invokespecial 3, 3) := by decide +kernel
theorem dX3_init_4 : decode cX3_init 4 = .ok (.aload_n 0, 1) := by decide +kernel
theorem dX3_init_5 : decode cX3_init 5 = .ok (.aload_n 1, 1) := by decide +kernel
theorem dX3_init_6 : decode cX3_init 6 = .ok (.putfield 9, 3) := by decide +kernel
theorem dX3_init_9 : decode cX3_init 9 = .ok (.aload_n 0, 1) := by decide +kernel
theorem dX3_init_10 : decode cX3_init 10 = .ok (.bipush 6, 2) := by decide +kernel
theorem dX3_init_12 : decode cX3_init 12 = .ok (.bipush 6, 2) := by decide +kernel
theorem dX3_init_14 : decode cX3_init 14 = .ok (.multianewarray 15 2, 4) := by decide +kernel
theorem dX3_init_18 : decode cX3_init 18 = .ok (.putfield 17, 3) := by decide +kernel
theorem dX3_init_21 : decode cX3_init 21 = .ok (.aload_n 0, 1) := by decide +kernel
theorem dX3_init_22 : decode cX3_init 22 = .ok (.bipush 6, 2) := by decide +kernel
theorem dX3_init_24 : decode cX3_init 24 = .ok (.bipush 6, 2) := by decide +kernel
theorem dX3_init_26 : decode cX3_init 26 = .ok (.multianewarray 15 2, 4) := by decide +kernel
theorem dX3_init_30 : decode cX3_init 30 = .ok (.putfield 20, 3) := by decide +kernel
theorem dX3_init_33 : decode cX3_init 33 = .ok (.return_, 1) := by decide +kernel
set_option maxRecDepth 20000 in
theorem ggX3_heightOf_X3_walk : GoodIn wsX3_heightOf wsX3_walk := goodIn_r _ [11, 12, 13, 2, 4, 14, 5, 15, 1, 16, 17, 18, 19, 20, 21, 22, 23, 24, 25, 26, 27, 28, 29, 30, 31, 32, 33, 34, 35, 36, 10, 37, 38, 39, 40, 41, 42, 43, 44, 45, 46, 47, 48, 49, 50, 51, 52, 53, 54, 55, 56, 57, 58, 59, 60, 68, 69, 70, 71, 72, 73, 74, 75, 76, 77, 78, 79, 80, 81, 82, 83, 84, 85, 86, 87] (by decide +kernel) (by decide +kernel)
set_option maxRecDepth 20000 in
theorem gX3_heightOf_X3_walk : GoodIn wsX3_heightOf (wsV RX3 23 RX3 yX3_walk wsX3_walk) := goodIn_app (goodIn_of _ (by decide +kernel)) ggX3_heightOf_X3_walk
set_option maxRecDepth 20000 in
theorem ggX3_heightOf_X4_roundedDown : GoodIn wsX3_heightOf wsX4_roundedDown := goodIn_r _ [63, 64, 65, 66, 67] (by decide +kernel) (by decide +kernel)
set_option maxRecDepth 20000 in
theorem gX3_heightOf_X4_roundedDown_n46 : GoodIn wsX3_heightOf (wsX4_roundedDown) := ggX3_heightOf_X4_roundedDown
theorem dX3_heightOf_0 : decode cX3_heightOf 0 = .ok (.aload_n 0, 1) := by decide +kernel
theorem dX3_heightOf_1 : decode cX3_heightOf 1 = .ok (.iload_n 1, 1) := by decide +kernel
theorem dX3_heightOf_2 : decode cX3_heightOf 2 = .ok (.iconst (-1), 1) := by decide +kernel
theorem dX3_heightOf_3 : decode cX3_heightOf 3 = .ok (.invokevirtual 23, 3) := by decide +kernel
theorem dX3_heightOf_6 : decode cX3_heightOf 6 = .ok (.aload_n 0, 1) := by decide +kernel
theorem dX3_heightOf_7 : decode cX3_heightOf 7 = .ok (.getfield 27, 3) := by decide +kernel
theorem dX3_heightOf_10 : decode cX3_heightOf 10 = .ok (.aload_n 0, 1) := by decide +kernel
theorem dX3_heightOf_11 : decode cX3_heightOf 11 = .ok (.getfield 9, 3) := by decide +kernel
theorem dX3_heightOf_14 : decode cX3_heightOf 14 = .ok (.getfield 31, 3) := by decide +kernel
theorem dX3_heightOf_17 : decode cX3_heightOf 17 = .ok (.aload_n 0, 1) := by decide +kernel
theorem dX3_heightOf_18 : decode cX3_heightOf 18 = .ok (.getfield 37, 3) := by decide +kernel
theorem dX3_heightOf_21 : decode cX3_heightOf 21 = .ok (.iaload, 1) := by decide +kernel
theorem dX3_heightOf_22 : decode cX3_heightOf 22 = .ok (.i2l, 1) := by decide +kernel
theorem dX3_heightOf_23 : decode cX3_heightOf 23 = .ok (.aload_n 0, 1) := by decide +kernel
theorem dX3_heightOf_24 : decode cX3_heightOf 24 = .ok (.getfield 41, 3) := by decide +kernel
theorem dX3_heightOf_27 : decode cX3_heightOf 27 = .ok (.lmul, 1) := by decide +kernel
theorem dX3_heightOf_28 : decode cX3_heightOf 28 = .ok (.ladd, 1) := by decide +kernel
theorem dX3_heightOf_29 : decode cX3_heightOf 29 = .ok (.lstore_n 2, 1) := by decide +kernel
theorem dX3_heightOf_30 : decode cX3_heightOf 30 = .ok (.ldc2_w 44, 3) := by decide +kernel
theorem dX3_heightOf_33 : decode cX3_heightOf 33 = .ok (.lload_n 2, 1) := by decide +kernel
theorem dX3_heightOf_34 : decode cX3_heightOf 34 = .ok (.lmul, 1) := by decide +kernel
theorem dX3_heightOf_35 : decode cX3_heightOf 35 = .ok (.aload_n 0, 1) := by decide +kernel
theorem dX3_heightOf_36 : decode cX3_heightOf 36 = .ok (.getfield 41, 3) := by decide +kernel
theorem dX3_heightOf_39 : decode cX3_heightOf 39 = .ok (.invokestatic 46, 3) := by decide +kernel
theorem dX3_heightOf_42 : decode cX3_heightOf 42 = .ok (.lreturn, 1) := by decide +kernel
set_option maxRecDepth 20000 in
theorem ggX3_checkOf_X3_walk : GoodIn wsX3_checkOf wsX3_walk := goodIn_r _ [10, 11, 12, 1, 13, 14, 4, 5, 15, 16, 17, 18, 19, 20, 21, 22, 23, 24, 25, 26, 27, 28, 29, 30, 31, 32, 33, 34, 35, 36, 9, 37, 38, 39, 40, 41, 42, 43, 44, 45, 46, 47, 2, 48, 49, 50, 51, 52, 53, 54, 55, 56, 57, 58, 59, 67, 68, 69, 70, 71, 72, 73, 74, 75, 76, 77, 78, 79, 80, 81, 82, 83, 84, 85, 86] (by decide +kernel) (by decide +kernel)
set_option maxRecDepth 20000 in
theorem gX3_checkOf_X3_walk : GoodIn wsX3_checkOf (wsV RX3 23 RX3 yX3_walk wsX3_walk) := goodIn_app (goodIn_of _ (by decide +kernel)) ggX3_checkOf_X3_walk
set_option maxRecDepth 20000 in
theorem ggX3_checkOf_X4_roundedDown : GoodIn wsX3_checkOf wsX4_roundedDown := goodIn_r _ [62, 63, 64, 65, 66] (by decide +kernel) (by decide +kernel)
set_option maxRecDepth 20000 in
theorem gX3_checkOf_X4_roundedDown_n46 : GoodIn wsX3_checkOf (wsX4_roundedDown) := ggX3_checkOf_X4_roundedDown
theorem dX3_checkOf_0 : decode cX3_checkOf 0 = .ok (.aload_n 0, 1) := by decide +kernel
theorem dX3_checkOf_1 : decode cX3_checkOf 1 = .ok (.aload_n 0, 1) := by decide +kernel
theorem dX3_checkOf_2 : decode cX3_checkOf 2 = .ok (.getfield 9, 3) := by decide +kernel
theorem dX3_checkOf_5 : decode cX3_checkOf 5 = .ok (.getfield 50, 3) := by decide +kernel
theorem dX3_checkOf_8 : decode cX3_checkOf 8 = .ok (.iload_n 1, 1) := by decide +kernel
theorem dX3_checkOf_9 : decode cX3_checkOf 9 = .ok (.iaload, 1) := by decide +kernel
theorem dX3_checkOf_10 : decode cX3_checkOf 10 = .ok (.iload_n 1, 1) := by decide +kernel
theorem dX3_checkOf_11 : decode cX3_checkOf 11 = .ok (.invokevirtual 23, 3) := by decide +kernel
theorem dX3_checkOf_14 : decode cX3_checkOf 14 = .ok (.ldc2_w 53, 3) := by decide +kernel
theorem dX3_checkOf_17 : decode cX3_checkOf 17 = .ok (.aload_n 0, 1) := by decide +kernel
theorem dX3_checkOf_18 : decode cX3_checkOf 18 = .ok (.getfield 41, 3) := by decide +kernel
theorem dX3_checkOf_21 : decode cX3_checkOf 21 = .ok (.aload_n 0, 1) := by decide +kernel
theorem dX3_checkOf_22 : decode cX3_checkOf 22 = .ok (.getfield 55, 3) := by decide +kernel
theorem dX3_checkOf_25 : decode cX3_checkOf 25 = .ok (.lsub, 1) := by decide +kernel
theorem dX3_checkOf_26 : decode cX3_checkOf 26 = .ok (.lmul, 1) := by decide +kernel
theorem dX3_checkOf_27 : decode cX3_checkOf 27 = .ok (.aload_n 0, 1) := by decide +kernel
theorem dX3_checkOf_28 : decode cX3_checkOf 28 = .ok (.getfield 41, 3) := by decide +kernel
theorem dX3_checkOf_31 : decode cX3_checkOf 31 = .ok (.invokestatic 46, 3) := by decide +kernel
theorem dX3_checkOf_34 : decode cX3_checkOf 34 = .ok (.l2i, 1) := by decide +kernel
theorem dX3_checkOf_35 : decode cX3_checkOf 35 = .ok (.ireturn, 1) := by decide +kernel
set_option maxRecDepth 20000 in
theorem ggX3_walk_X1_datumOf : GoodIn wsX3_walk wsX1_datumOf := goodIn_r _ [16, 17, 18, 19, 20, 21, 22, 15, 23, 65, 66, 67, 68, 69, 70, 71, 72, 73, 74] (by decide +kernel) (by decide +kernel)
set_option maxRecDepth 20000 in
theorem gX3_walk_X1_datumOf : GoodIn wsX3_walk (wsV RX3 64 RX1 yX1_datumOf wsX1_datumOf) := goodIn_app (goodIn_of _ (by decide +kernel)) ggX3_walk_X1_datumOf
set_option maxRecDepth 20000 in
theorem ggX3_walk_X1_countStationsWith : GoodIn wsX3_walk wsX1_countStationsWith := goodIn_r _ [27, 17, 20, 21, 22, 15, 23, 19, 65, 66, 67, 68, 69, 70, 71, 72, 73, 74] (by decide +kernel) (by decide +kernel)
set_option maxRecDepth 20000 in
theorem gX3_walk_X1_countStationsWith : GoodIn wsX3_walk (wsV RX3 68 RX1 yX1_countStationsWith wsX1_countStationsWith) := goodIn_app (goodIn_of _ (by decide +kernel)) ggX3_walk_X1_countStationsWith
set_option maxRecDepth 20000 in
theorem ggX3_walk_X3_grow : GoodIn wsX3_walk wsX3_grow := goodIn_r _ [31, 5, 3, 32, 2, 33, 34, 35, 36, 30, 37, 6, 8, 11, 1, 4, 7, 38, 39, 40, 41, 10, 42, 43, 44, 45, 46, 15, 47, 48, 49, 20, 21, 22, 23, 19, 50, 51, 52, 53, 54, 9, 28, 29, 55, 56, 57, 58, 59, 60, 61, 62, 63, 64, 65, 66, 67, 68, 69, 70, 71, 72, 73, 74] (by decide +kernel) (by decide +kernel)
set_option maxRecDepth 20000 in
theorem gX3_walk_X3_grow : GoodIn wsX3_walk (va_wsS RX3 77 yX3_grow wsX3_grow) := goodIn_app (goodIn_of _ (by decide +kernel)) ggX3_walk_X3_grow
theorem dX3_walk_0 : decode cX3_walk 0 = .ok (.aload_n 0, 1) := by decide +kernel
theorem dX3_walk_1 : decode cX3_walk 1 = .ok (.iload_n 1, 1) := by decide +kernel
theorem dX3_walk_2 : decode cX3_walk 2 = .ok (.putfield 58, 3) := by decide +kernel
theorem dX3_walk_5 : decode cX3_walk 5 = .ok (.aload_n 0, 1) := by decide +kernel
theorem dX3_walk_6 : decode cX3_walk 6 = .ok (.iload_n 2, 1) := by decide +kernel
theorem dX3_walk_7 : decode cX3_walk 7 = .ok (.putfield 61, 3) := by decide +kernel
theorem dX3_walk_10 : decode cX3_walk 10 = .ok (.aload_n 0, 1) := by decide +kernel
theorem dX3_walk_11 : decode cX3_walk 11 = .ok (.aload_n 0, 1) := by decide +kernel
theorem dX3_walk_12 : decode cX3_walk 12 = .ok (.getfield 9, 3) := by decide +kernel
theorem dX3_walk_15 : decode cX3_walk 15 = .ok (.iload_n 1, 1) := by decide +kernel
theorem dX3_walk_16 : decode cX3_walk 16 = .ok (.invokevirtual 64, 3) := by decide +kernel
theorem dX3_walk_19 : decode cX3_walk 19 = .ok (.putfield 37, 3) := by decide +kernel
theorem dX3_walk_22 : decode cX3_walk 22 = .ok (.aload_n 0, 1) := by decide +kernel
theorem dX3_walk_23 : decode cX3_walk 23 = .ok (.aload_n 0, 1) := by decide +kernel
theorem dX3_walk_24 : decode cX3_walk 24 = .ok (.getfield 9, 3) := by decide +kernel
theorem dX3_walk_27 : decode cX3_walk 27 = .ok (.iload_n 1, 1) := by decide +kernel
theorem dX3_walk_28 : decode cX3_walk 28 = .ok (.invokevirtual 68, 3) := by decide +kernel
theorem dX3_walk_31 : decode cX3_walk 31 = .ok (.iconst 1, 1) := by decide +kernel
theorem dX3_walk_32 : decode cX3_walk 32 = .ok (.isub, 1) := by decide +kernel
theorem dX3_walk_33 : decode cX3_walk 33 = .ok (.putfield 71, 3) := by decide +kernel
theorem dX3_walk_36 : decode cX3_walk 36 = .ok (.aload_n 0, 1) := by decide +kernel
theorem dX3_walk_37 : decode cX3_walk 37 = .ok (.lconst 0, 1) := by decide +kernel
theorem dX3_walk_38 : decode cX3_walk 38 = .ok (.putfield 41, 3) := by decide +kernel
theorem dX3_walk_41 : decode cX3_walk 41 = .ok (.aload_n 0, 1) := by decide +kernel
theorem dX3_walk_42 : decode cX3_walk 42 = .ok (.lconst 0, 1) := by decide +kernel
theorem dX3_walk_43 : decode cX3_walk 43 = .ok (.putfield 55, 3) := by decide +kernel
theorem dX3_walk_46 : decode cX3_walk 46 = .ok (.aload_n 0, 1) := by decide +kernel
theorem dX3_walk_47 : decode cX3_walk 47 = .ok (.lconst 0, 1) := by decide +kernel
theorem dX3_walk_48 : decode cX3_walk 48 = .ok (.putfield 27, 3) := by decide +kernel
theorem dX3_walk_51 : decode cX3_walk 51 = .ok (.iconst 0, 1) := by decide +kernel
theorem dX3_walk_52 : decode cX3_walk 52 = .ok (.istore_n 3, 1) := by decide +kernel
theorem dX3_walk_53 : decode cX3_walk 53 = .ok (.iload_n 3, 1) := by decide +kernel
theorem dX3_walk_54 : decode cX3_walk 54 = .ok (.aload_n 0, 1) := by decide +kernel
theorem dX3_walk_55 : decode cX3_walk 55 = .ok (.getfield 9, 3) := by decide +kernel
theorem dX3_walk_58 : decode cX3_walk 58 = .ok (.getfield 74, 3) := by decide +kernel
theorem dX3_walk_61 : decode cX3_walk 61 = .ok (.if_icmp .ge 27, 3) := by decide +kernel
theorem dX3_walk_64 : decode cX3_walk 64 = .ok (.aload_n 0, 1) := by decide +kernel
theorem dX3_walk_65 : decode cX3_walk 65 = .ok (.getfield 17, 3) := by decide +kernel
theorem dX3_walk_68 : decode cX3_walk 68 = .ok (.iconst 0, 1) := by decide +kernel
theorem dX3_walk_69 : decode cX3_walk 69 = .ok (.aaload, 1) := by decide +kernel
theorem dX3_walk_70 : decode cX3_walk 70 = .ok (.iload_n 3, 1) := by decide +kernel
theorem dX3_walk_71 : decode cX3_walk 71 = .ok (.iload_n 3, 1) := by decide +kernel
theorem dX3_walk_72 : decode cX3_walk 72 = .ok (.iastore, 1) := by decide +kernel
theorem dX3_walk_73 : decode cX3_walk 73 = .ok (.aload_n 0, 1) := by decide +kernel
theorem dX3_walk_74 : decode cX3_walk 74 = .ok (.getfield 20, 3) := by decide +kernel
theorem dX3_walk_77 : decode cX3_walk 77 = .ok (.iconst 0, 1) := by decide +kernel
theorem dX3_walk_78 : decode cX3_walk 78 = .ok (.aaload, 1) := by decide +kernel
theorem dX3_walk_79 : decode cX3_walk 79 = .ok (.iload_n 3, 1) := by decide +kernel
theorem dX3_walk_80 : decode cX3_walk 80 = .ok (.iconst 0, 1) := by decide +kernel
theorem dX3_walk_81 : decode cX3_walk 81 = .ok (.iastore, 1) := by decide +kernel
theorem dX3_walk_82 : decode cX3_walk 82 = .ok (.iinc 3 1, 3) := by decide +kernel
theorem dX3_walk_85 : decode cX3_walk 85 = .ok (.goto (-32), 3) := by decide +kernel
theorem dX3_walk_88 : decode cX3_walk 88 = .ok (.aload_n 0, 1) := by decide +kernel
theorem dX3_walk_89 : decode cX3_walk 89 = .ok (.iconst 0, 1) := by decide +kernel
theorem dX3_walk_90 : decode cX3_walk 90 = .ok (.iconst 0, 1) := by decide +kernel
theorem dX3_walk_91 : decode cX3_walk 91 = .ok (.lconst 1, 1) := by decide +kernel
theorem dX3_walk_92 : decode cX3_walk 92 = .ok (.iconst 0, 1) := by decide +kernel
theorem dX3_walk_93 : decode cX3_walk 93 = .ok (.invokestatic 77, 3) := by decide +kernel
theorem dX3_walk_96 : decode cX3_walk 96 = .ok (.return_, 1) := by decide +kernel
set_option maxRecDepth 20000 in
theorem ggX3_grow_X3_countTree : GoodIn wsX3_grow wsX3_countTree := goodIn_r _ [10, 11, 12, 13, 14, 15, 16, 44, 45, 46, 47, 48, 49, 50, 51, 52, 53] (by decide +kernel) (by decide +kernel)
set_option maxRecDepth 20000 in
theorem gX3_grow_X3_countTree : GoodIn wsX3_grow (wsV RX3 81 RX3 yX3_countTree wsX3_countTree) := goodIn_app (goodIn_of _ (by decide +kernel)) ggX3_grow_X3_countTree
set_option maxRecDepth 20000 in
theorem ggX3_grow_X3_joinsPieces : GoodIn wsX3_grow wsX3_joinsPieces := goodIn_r _ [20, 2, 15, 21, 22, 23, 24, 25, 26, 27, 28, 29, 30, 31, 32, 33, 34, 35, 44, 45, 46, 47, 48, 49, 50, 51, 52, 53, 54, 55, 56, 57, 58, 59, 60, 61, 62, 63] (by decide +kernel) (by decide +kernel)
set_option maxRecDepth 20000 in
theorem gX3_grow_X3_joinsPieces : GoodIn wsX3_grow (wsV RX3 88 RX3 yX3_joinsPieces wsX3_joinsPieces) := goodIn_app (goodIn_of _ (by decide +kernel)) ggX3_grow_X3_joinsPieces
set_option maxRecDepth 20000 in
theorem ggX3_grow_X3_joinPieces : GoodIn wsX3_grow wsX3_joinPieces := goodIn_r _ [39, 2, 22, 23, 13, 40, 41, 21, 44, 45, 46, 47, 48, 49, 50, 51, 52, 53, 54, 55, 56, 57, 58, 59, 60, 61, 62, 63] (by decide +kernel) (by decide +kernel)
set_option maxRecDepth 20000 in
theorem gX3_grow_X3_joinPieces : GoodIn wsX3_grow (wsV RX3 92 RX3 yX3_joinPieces wsX3_joinPieces) := goodIn_app (goodIn_of _ (by decide +kernel)) ggX3_grow_X3_joinPieces
set_option maxRecDepth 20000 in
theorem ggX3_grow_X3_grow : GoodIn wsX3_grow wsX3_grow := goodIn_r _ [0, 1, 2, 3, 4, 5, 6, 7, 8, 9, 10, 11, 12, 13, 14, 15, 16, 17, 18, 19, 20, 21, 22, 23, 24, 25, 26, 27, 28, 29, 30, 31, 32, 33, 34, 35, 36, 37, 38, 39, 40, 41, 42, 43, 44, 45, 46, 47, 48, 49, 50, 51, 52, 53, 54, 55, 56, 57, 58, 59, 60, 61, 62, 63] (by decide +kernel) (by decide +kernel)
set_option maxRecDepth 20000 in
theorem gX3_grow_X3_grow : GoodIn wsX3_grow (va_wsS RX3 77 yX3_grow wsX3_grow) := goodIn_app (goodIn_of _ (by decide +kernel)) ggX3_grow_X3_grow
theorem dX3_grow_0 : decode cX3_grow 0 = .ok (.iload_n 1, 1) := by decide +kernel
theorem dX3_grow_1 : decode cX3_grow 1 = .ok (.aload_n 0, 1) := by decide +kernel
theorem dX3_grow_2 : decode cX3_grow 2 = .ok (.getfield 71, 3) := by decide +kernel
theorem dX3_grow_5 : decode cX3_grow 5 = .ok (.if_icmp .ge 8, 3) := by decide +kernel
theorem dX3_grow_8 : decode cX3_grow 8 = .ok (.iload_n 1, 1) := by decide +kernel
theorem dX3_grow_9 : decode cX3_grow 9 = .ok (.iconst 5, 1) := by decide +kernel
theorem dX3_grow_10 : decode cX3_grow 10 = .ok (.if_icmp .lt 12, 3) := by decide +kernel
theorem dX3_grow_13 : decode cX3_grow 13 = .ok (.aload_n 0, 1) := by decide +kernel
theorem dX3_grow_14 : decode cX3_grow 14 = .ok (.iload_n 1, 1) := by decide +kernel
theorem dX3_grow_15 : decode cX3_grow 15 = .ok (.lload_n 3, 1) := by decide +kernel
theorem dX3_grow_16 : decode cX3_grow 16 = .ok (.iload 5, 2) := by decide +kernel
theorem dX3_grow_18 : decode cX3_grow 18 = .ok (.invokevirtual 81, 3) := by decide +kernel
theorem dX3_grow_21 : decode cX3_grow 21 = .ok (.return_, 1) := by decide +kernel
theorem dX3_grow_22 : decode cX3_grow 22 = .ok (.iload_n 2, 1) := by decide +kernel
theorem dX3_grow_23 : decode cX3_grow 23 = .ok (.istore 6, 2) := by decide +kernel
theorem dX3_grow_25 : decode cX3_grow 25 = .ok (.iload 6, 2) := by decide +kernel
theorem dX3_grow_27 : decode cX3_grow 27 = .ok (.aload_n 0, 1) := by decide +kernel
theorem dX3_grow_28 : decode cX3_grow 28 = .ok (.getfield 9, 3) := by decide +kernel
theorem dX3_grow_31 : decode cX3_grow 31 = .ok (.getfield 85, 3) := by decide +kernel
theorem dX3_grow_34 : decode cX3_grow 34 = .ok (.if_icmp .ge 73, 3) := by decide +kernel
theorem dX3_grow_37 : decode cX3_grow 37 = .ok (.aload_n 0, 1) := by decide +kernel
theorem dX3_grow_38 : decode cX3_grow 38 = .ok (.iload_n 1, 1) := by decide +kernel
theorem dX3_grow_39 : decode cX3_grow 39 = .ok (.iload 6, 2) := by decide +kernel
theorem dX3_grow_41 : decode cX3_grow 41 = .ok (.invokevirtual 88, 3) := by decide +kernel
theorem dX3_grow_44 : decode cX3_grow 44 = .ok (.ifCond .eq 57, 3) := by decide +kernel
theorem dX3_grow_47 : decode cX3_grow 47 = .ok (.aload_n 0, 1) := by decide +kernel
theorem dX3_grow_48 : decode cX3_grow 48 = .ok (.iload_n 1, 1) := by decide +kernel
theorem dX3_grow_49 : decode cX3_grow 49 = .ok (.iload 6, 2) := by decide +kernel
theorem dX3_grow_51 : decode cX3_grow 51 = .ok (.invokevirtual 92, 3) := by decide +kernel
theorem dX3_grow_54 : decode cX3_grow 54 = .ok (.iload 5, 2) := by decide +kernel
theorem dX3_grow_56 : decode cX3_grow 56 = .ok (.ifCond .ne 12, 3) := by decide +kernel
theorem dX3_grow_59 : decode cX3_grow 59 = .ok (.iload 6, 2) := by decide +kernel
theorem dX3_grow_61 : decode cX3_grow 61 = .ok (.aload_n 0, 1) := by decide +kernel
theorem dX3_grow_62 : decode cX3_grow 62 = .ok (.getfield 61, 3) := by decide +kernel
theorem dX3_grow_65 : decode cX3_grow 65 = .ok (.if_icmp .ne 7, 3) := by decide +kernel
theorem dX3_grow_68 : decode cX3_grow 68 = .ok (.iconst 1, 1) := by decide +kernel
theorem dX3_grow_69 : decode cX3_grow 69 = .ok (.goto 4, 3) := by decide +kernel
theorem dX3_grow_72 : decode cX3_grow 72 = .ok (.iconst 0, 1) := by decide +kernel
theorem dX3_grow_73 : decode cX3_grow 73 = .ok (.istore 7, 2) := by decide +kernel
theorem dX3_grow_75 : decode cX3_grow 75 = .ok (.aload_n 0, 1) := by decide +kernel
theorem dX3_grow_76 : decode cX3_grow 76 = .ok (.iload_n 1, 1) := by decide +kernel
theorem dX3_grow_77 : decode cX3_grow 77 = .ok (.iconst 1, 1) := by decide +kernel
theorem dX3_grow_78 : decode cX3_grow 78 = .ok (.iadd, 1) := by decide +kernel
theorem dX3_grow_79 : decode cX3_grow 79 = .ok (.iload 6, 2) := by decide +kernel
theorem dX3_grow_81 : decode cX3_grow 81 = .ok (.iconst 1, 1) := by decide +kernel
theorem dX3_grow_82 : decode cX3_grow 82 = .ok (.iadd, 1) := by decide +kernel
theorem dX3_grow_83 : decode cX3_grow 83 = .ok (.lload_n 3, 1) := by decide +kernel
theorem dX3_grow_84 : decode cX3_grow 84 = .ok (.aload_n 0, 1) := by decide +kernel
theorem dX3_grow_85 : decode cX3_grow 85 = .ok (.getfield 9, 3) := by decide +kernel
theorem dX3_grow_88 : decode cX3_grow 88 = .ok (.getfield 95, 3) := by decide +kernel
theorem dX3_grow_91 : decode cX3_grow 91 = .ok (.iload 6, 2) := by decide +kernel
theorem dX3_grow_93 : decode cX3_grow 93 = .ok (.iaload, 1) := by decide +kernel
theorem dX3_grow_94 : decode cX3_grow 94 = .ok (.i2l, 1) := by decide +kernel
theorem dX3_grow_95 : decode cX3_grow 95 = .ok (.lmul, 1) := by decide +kernel
theorem dX3_grow_96 : decode cX3_grow 96 = .ok (.iload 7, 2) := by decide +kernel
theorem dX3_grow_98 : decode cX3_grow 98 = .ok (.invokestatic 77, 3) := by decide +kernel
theorem dX3_grow_101 : decode cX3_grow 101 = .ok (.iinc 6 1, 3) := by decide +kernel
theorem dX3_grow_104 : decode cX3_grow 104 = .ok (.goto (-79), 3) := by decide +kernel
theorem dX3_grow_107 : decode cX3_grow 107 = .ok (.return_, 1) := by decide +kernel
set_option maxRecDepth 20000 in
theorem ggX3_joinsPieces_X1_isInPartOf : GoodIn wsX3_joinsPieces wsX1_isInPartOf := goodIn_r _ [10, 11, 12, 13, 14, 15, 9, 16, 17, 28, 29, 30, 31, 32, 33, 34, 35, 36, 37] (by decide +kernel) (by decide +kernel)
set_option maxRecDepth 20000 in
theorem gX3_joinsPieces_X1_isInPartOf : GoodIn wsX3_joinsPieces (wsV RX3 98 RX1 yX1_isInPartOf wsX1_isInPartOf) := goodIn_app (goodIn_of _ (by decide +kernel)) ggX3_joinsPieces_X1_isInPartOf
theorem dX3_joinsPieces_0 : decode cX3_joinsPieces 0 = .ok (.aload_n 0, 1) := by decide +kernel
theorem dX3_joinsPieces_1 : decode cX3_joinsPieces 1 = .ok (.getfield 9, 3) := by decide +kernel
theorem dX3_joinsPieces_4 : decode cX3_joinsPieces 4 = .ok (.iload_n 2, 1) := by decide +kernel
theorem dX3_joinsPieces_5 : decode cX3_joinsPieces 5 = .ok (.aload_n 0, 1) := by decide +kernel
theorem dX3_joinsPieces_6 : decode cX3_joinsPieces 6 = .ok (.getfield 37, 3) := by decide +kernel
theorem dX3_joinsPieces_9 : decode cX3_joinsPieces 9 = .ok (.invokevirtual 98, 3) := by decide +kernel
theorem dX3_joinsPieces_12 : decode cX3_joinsPieces 12 = .ok (.ifCond .eq 42, 3) := by decide +kernel
theorem dX3_joinsPieces_15 : decode cX3_joinsPieces 15 = .ok (.aload_n 0, 1) := by decide +kernel
theorem dX3_joinsPieces_16 : decode cX3_joinsPieces 16 = .ok (.getfield 17, 3) := by decide +kernel
theorem dX3_joinsPieces_19 : decode cX3_joinsPieces 19 = .ok (.iload_n 1, 1) := by decide +kernel
theorem dX3_joinsPieces_20 : decode cX3_joinsPieces 20 = .ok (.aaload, 1) := by decide +kernel
theorem dX3_joinsPieces_21 : decode cX3_joinsPieces 21 = .ok (.aload_n 0, 1) := by decide +kernel
theorem dX3_joinsPieces_22 : decode cX3_joinsPieces 22 = .ok (.getfield 9, 3) := by decide +kernel
theorem dX3_joinsPieces_25 : decode cX3_joinsPieces 25 = .ok (.getfield 50, 3) := by decide +kernel
theorem dX3_joinsPieces_28 : decode cX3_joinsPieces 28 = .ok (.iload_n 2, 1) := by decide +kernel
theorem dX3_joinsPieces_29 : decode cX3_joinsPieces 29 = .ok (.iaload, 1) := by decide +kernel
theorem dX3_joinsPieces_30 : decode cX3_joinsPieces 30 = .ok (.iaload, 1) := by decide +kernel
theorem dX3_joinsPieces_31 : decode cX3_joinsPieces 31 = .ok (.aload_n 0, 1) := by decide +kernel
theorem dX3_joinsPieces_32 : decode cX3_joinsPieces 32 = .ok (.getfield 17, 3) := by decide +kernel
theorem dX3_joinsPieces_35 : decode cX3_joinsPieces 35 = .ok (.iload_n 1, 1) := by decide +kernel
theorem dX3_joinsPieces_36 : decode cX3_joinsPieces 36 = .ok (.aaload, 1) := by decide +kernel
theorem dX3_joinsPieces_37 : decode cX3_joinsPieces 37 = .ok (.aload_n 0, 1) := by decide +kernel
theorem dX3_joinsPieces_38 : decode cX3_joinsPieces 38 = .ok (.getfield 9, 3) := by decide +kernel
theorem dX3_joinsPieces_41 : decode cX3_joinsPieces 41 = .ok (.getfield 101, 3) := by decide +kernel
theorem dX3_joinsPieces_44 : decode cX3_joinsPieces 44 = .ok (.iload_n 2, 1) := by decide +kernel
theorem dX3_joinsPieces_45 : decode cX3_joinsPieces 45 = .ok (.iaload, 1) := by decide +kernel
theorem dX3_joinsPieces_46 : decode cX3_joinsPieces 46 = .ok (.iaload, 1) := by decide +kernel
theorem dX3_joinsPieces_47 : decode cX3_joinsPieces 47 = .ok (.if_icmp .eq 7, 3) := by decide +kernel
theorem dX3_joinsPieces_50 : decode cX3_joinsPieces 50 = .ok (.iconst 1, 1) := by decide +kernel
theorem dX3_joinsPieces_51 : decode cX3_joinsPieces 51 = .ok (.goto 4, 3) := by decide +kernel
theorem dX3_joinsPieces_54 : decode cX3_joinsPieces 54 = .ok (.iconst 0, 1) := by decide +kernel
theorem dX3_joinsPieces_55 : decode cX3_joinsPieces 55 = .ok (.ireturn, 1) := by decide +kernel
theorem dX3_joinPieces_0 : decode cX3_joinPieces 0 = .ok (.aload_n 0, 1) := by decide +kernel
theorem dX3_joinPieces_1 : decode cX3_joinPieces 1 = .ok (.getfield 9, 3) := by decide +kernel
theorem dX3_joinPieces_4 : decode cX3_joinPieces 4 = .ok (.getfield 50, 3) := by decide +kernel
theorem dX3_joinPieces_7 : decode cX3_joinPieces 7 = .ok (.iload_n 2, 1) := by decide +kernel
theorem dX3_joinPieces_8 : decode cX3_joinPieces 8 = .ok (.iaload, 1) := by decide +kernel
theorem dX3_joinPieces_9 : decode cX3_joinPieces 9 = .ok (.istore_n 3, 1) := by decide +kernel
theorem dX3_joinPieces_10 : decode cX3_joinPieces 10 = .ok (.aload_n 0, 1) := by decide +kernel
theorem dX3_joinPieces_11 : decode cX3_joinPieces 11 = .ok (.getfield 9, 3) := by decide +kernel
theorem dX3_joinPieces_14 : decode cX3_joinPieces 14 = .ok (.getfield 101, 3) := by decide +kernel
theorem dX3_joinPieces_17 : decode cX3_joinPieces 17 = .ok (.iload_n 2, 1) := by decide +kernel
theorem dX3_joinPieces_18 : decode cX3_joinPieces 18 = .ok (.iaload, 1) := by decide +kernel
theorem dX3_joinPieces_19 : decode cX3_joinPieces 19 = .ok (.istore 4, 2) := by decide +kernel
theorem dX3_joinPieces_21 : decode cX3_joinPieces 21 = .ok (.aload_n 0, 1) := by decide +kernel
theorem dX3_joinPieces_22 : decode cX3_joinPieces 22 = .ok (.getfield 20, 3) := by decide +kernel
theorem dX3_joinPieces_25 : decode cX3_joinPieces 25 = .ok (.iload_n 1, 1) := by decide +kernel
theorem dX3_joinPieces_26 : decode cX3_joinPieces 26 = .ok (.aaload, 1) := by decide +kernel
theorem dX3_joinPieces_27 : decode cX3_joinPieces 27 = .ok (.iload_n 3, 1) := by decide +kernel
theorem dX3_joinPieces_28 : decode cX3_joinPieces 28 = .ok (.iaload, 1) := by decide +kernel
theorem dX3_joinPieces_29 : decode cX3_joinPieces 29 = .ok (.aload_n 0, 1) := by decide +kernel
theorem dX3_joinPieces_30 : decode cX3_joinPieces 30 = .ok (.getfield 9, 3) := by decide +kernel
theorem dX3_joinPieces_33 : decode cX3_joinPieces 33 = .ok (.getfield 104, 3) := by decide +kernel
theorem dX3_joinPieces_36 : decode cX3_joinPieces 36 = .ok (.iload_n 2, 1) := by decide +kernel
theorem dX3_joinPieces_37 : decode cX3_joinPieces 37 = .ok (.iaload, 1) := by decide +kernel
theorem dX3_joinPieces_38 : decode cX3_joinPieces 38 = .ok (.iadd, 1) := by decide +kernel
theorem dX3_joinPieces_39 : decode cX3_joinPieces 39 = .ok (.aload_n 0, 1) := by decide +kernel
theorem dX3_joinPieces_40 : decode cX3_joinPieces 40 = .ok (.getfield 20, 3) := by decide +kernel
theorem dX3_joinPieces_43 : decode cX3_joinPieces 43 = .ok (.iload_n 1, 1) := by decide +kernel
theorem dX3_joinPieces_44 : decode cX3_joinPieces 44 = .ok (.aaload, 1) := by decide +kernel
theorem dX3_joinPieces_45 : decode cX3_joinPieces 45 = .ok (.iload 4, 2) := by decide +kernel
theorem dX3_joinPieces_47 : decode cX3_joinPieces 47 = .ok (.iaload, 1) := by decide +kernel
theorem dX3_joinPieces_48 : decode cX3_joinPieces 48 = .ok (.isub, 1) := by decide +kernel
theorem dX3_joinPieces_49 : decode cX3_joinPieces 49 = .ok (.istore 5, 2) := by decide +kernel
theorem dX3_joinPieces_51 : decode cX3_joinPieces 51 = .ok (.iconst 0, 1) := by decide +kernel
theorem dX3_joinPieces_52 : decode cX3_joinPieces 52 = .ok (.istore 6, 2) := by decide +kernel
theorem dX3_joinPieces_54 : decode cX3_joinPieces 54 = .ok (.iload 6, 2) := by decide +kernel
theorem dX3_joinPieces_56 : decode cX3_joinPieces 56 = .ok (.aload_n 0, 1) := by decide +kernel
theorem dX3_joinPieces_57 : decode cX3_joinPieces 57 = .ok (.getfield 9, 3) := by decide +kernel
theorem dX3_joinPieces_60 : decode cX3_joinPieces 60 = .ok (.getfield 74, 3) := by decide +kernel
theorem dX3_joinPieces_63 : decode cX3_joinPieces 63 = .ok (.if_icmp .ge 113, 3) := by decide +kernel
theorem dX3_joinPieces_66 : decode cX3_joinPieces 66 = .ok (.aload_n 0, 1) := by decide +kernel
theorem dX3_joinPieces_67 : decode cX3_joinPieces 67 = .ok (.getfield 17, 3) := by decide +kernel
theorem dX3_joinPieces_70 : decode cX3_joinPieces 70 = .ok (.iload_n 1, 1) := by decide +kernel
theorem dX3_joinPieces_71 : decode cX3_joinPieces 71 = .ok (.aaload, 1) := by decide +kernel
theorem dX3_joinPieces_72 : decode cX3_joinPieces 72 = .ok (.iload 6, 2) := by decide +kernel
theorem dX3_joinPieces_74 : decode cX3_joinPieces 74 = .ok (.iaload, 1) := by decide +kernel
theorem dX3_joinPieces_75 : decode cX3_joinPieces 75 = .ok (.aload_n 0, 1) := by decide +kernel
theorem dX3_joinPieces_76 : decode cX3_joinPieces 76 = .ok (.getfield 17, 3) := by decide +kernel
theorem dX3_joinPieces_79 : decode cX3_joinPieces 79 = .ok (.iload_n 1, 1) := by decide +kernel
theorem dX3_joinPieces_80 : decode cX3_joinPieces 80 = .ok (.aaload, 1) := by decide +kernel
theorem dX3_joinPieces_81 : decode cX3_joinPieces 81 = .ok (.iload 4, 2) := by decide +kernel
theorem dX3_joinPieces_83 : decode cX3_joinPieces 83 = .ok (.iaload, 1) := by decide +kernel
theorem dX3_joinPieces_84 : decode cX3_joinPieces 84 = .ok (.if_icmp .ne 7, 3) := by decide +kernel
theorem dX3_joinPieces_87 : decode cX3_joinPieces 87 = .ok (.iconst 1, 1) := by decide +kernel
theorem dX3_joinPieces_88 : decode cX3_joinPieces 88 = .ok (.goto 4, 3) := by decide +kernel
theorem dX3_joinPieces_91 : decode cX3_joinPieces 91 = .ok (.iconst 0, 1) := by decide +kernel
theorem dX3_joinPieces_92 : decode cX3_joinPieces 92 = .ok (.istore 7, 2) := by decide +kernel
theorem dX3_joinPieces_94 : decode cX3_joinPieces 94 = .ok (.aload_n 0, 1) := by decide +kernel
theorem dX3_joinPieces_95 : decode cX3_joinPieces 95 = .ok (.getfield 17, 3) := by decide +kernel
theorem dX3_joinPieces_98 : decode cX3_joinPieces 98 = .ok (.iload_n 1, 1) := by decide +kernel
theorem dX3_joinPieces_99 : decode cX3_joinPieces 99 = .ok (.iconst 1, 1) := by decide +kernel
theorem dX3_joinPieces_100 : decode cX3_joinPieces 100 = .ok (.iadd, 1) := by decide +kernel
theorem dX3_joinPieces_101 : decode cX3_joinPieces 101 = .ok (.aaload, 1) := by decide +kernel
theorem dX3_joinPieces_102 : decode cX3_joinPieces 102 = .ok (.iload 6, 2) := by decide +kernel
theorem dX3_joinPieces_104 : decode cX3_joinPieces 104 = .ok (.iload 7, 2) := by decide +kernel
theorem dX3_joinPieces_106 : decode cX3_joinPieces 106 = .ok (.ifCond .eq 14, 3) := by decide +kernel
theorem dX3_joinPieces_109 : decode cX3_joinPieces 109 = .ok (.aload_n 0, 1) := by decide +kernel
theorem dX3_joinPieces_110 : decode cX3_joinPieces 110 = .ok (.getfield 17, 3) := by decide +kernel
theorem dX3_joinPieces_113 : decode cX3_joinPieces 113 = .ok (.iload_n 1, 1) := by decide +kernel
theorem dX3_joinPieces_114 : decode cX3_joinPieces 114 = .ok (.aaload, 1) := by decide +kernel
theorem dX3_joinPieces_115 : decode cX3_joinPieces 115 = .ok (.iload_n 3, 1) := by decide +kernel
theorem dX3_joinPieces_116 : decode cX3_joinPieces 116 = .ok (.iaload, 1) := by decide +kernel
theorem dX3_joinPieces_117 : decode cX3_joinPieces 117 = .ok (.goto 12, 3) := by decide +kernel
theorem dX3_joinPieces_120 : decode cX3_joinPieces 120 = .ok (.aload_n 0, 1) := by decide +kernel
theorem dX3_joinPieces_121 : decode cX3_joinPieces 121 = .ok (.getfield 17, 3) := by decide +kernel
theorem dX3_joinPieces_124 : decode cX3_joinPieces 124 = .ok (.iload_n 1, 1) := by decide +kernel
theorem dX3_joinPieces_125 : decode cX3_joinPieces 125 = .ok (.aaload, 1) := by decide +kernel
theorem dX3_joinPieces_126 : decode cX3_joinPieces 126 = .ok (.iload 6, 2) := by decide +kernel
theorem dX3_joinPieces_128 : decode cX3_joinPieces 128 = .ok (.iaload, 1) := by decide +kernel
theorem dX3_joinPieces_129 : decode cX3_joinPieces 129 = .ok (.iastore, 1) := by decide +kernel
theorem dX3_joinPieces_130 : decode cX3_joinPieces 130 = .ok (.aload_n 0, 1) := by decide +kernel
theorem dX3_joinPieces_131 : decode cX3_joinPieces 131 = .ok (.getfield 20, 3) := by decide +kernel
theorem dX3_joinPieces_134 : decode cX3_joinPieces 134 = .ok (.iload_n 1, 1) := by decide +kernel
theorem dX3_joinPieces_135 : decode cX3_joinPieces 135 = .ok (.iconst 1, 1) := by decide +kernel
theorem dX3_joinPieces_136 : decode cX3_joinPieces 136 = .ok (.iadd, 1) := by decide +kernel
theorem dX3_joinPieces_137 : decode cX3_joinPieces 137 = .ok (.aaload, 1) := by decide +kernel
theorem dX3_joinPieces_138 : decode cX3_joinPieces 138 = .ok (.iload 6, 2) := by decide +kernel
theorem dX3_joinPieces_140 : decode cX3_joinPieces 140 = .ok (.iload 7, 2) := by decide +kernel
theorem dX3_joinPieces_142 : decode cX3_joinPieces 142 = .ok (.ifCond .eq 18, 3) := by decide +kernel
theorem dX3_joinPieces_145 : decode cX3_joinPieces 145 = .ok (.aload_n 0, 1) := by decide +kernel
theorem dX3_joinPieces_146 : decode cX3_joinPieces 146 = .ok (.getfield 20, 3) := by decide +kernel
theorem dX3_joinPieces_149 : decode cX3_joinPieces 149 = .ok (.iload_n 1, 1) := by decide +kernel
theorem dX3_joinPieces_150 : decode cX3_joinPieces 150 = .ok (.aaload, 1) := by decide +kernel
theorem dX3_joinPieces_151 : decode cX3_joinPieces 151 = .ok (.iload 6, 2) := by decide +kernel
theorem dX3_joinPieces_153 : decode cX3_joinPieces 153 = .ok (.iaload, 1) := by decide +kernel
theorem dX3_joinPieces_154 : decode cX3_joinPieces 154 = .ok (.iload 5, 2) := by decide +kernel
theorem dX3_joinPieces_156 : decode cX3_joinPieces 156 = .ok (.iadd, 1) := by decide +kernel
theorem dX3_joinPieces_157 : decode cX3_joinPieces 157 = .ok (.goto 12, 3) := by decide +kernel
theorem dX3_joinPieces_160 : decode cX3_joinPieces 160 = .ok (.aload_n 0, 1) := by decide +kernel
theorem dX3_joinPieces_161 : decode cX3_joinPieces 161 = .ok (.getfield 20, 3) := by decide +kernel
theorem dX3_joinPieces_164 : decode cX3_joinPieces 164 = .ok (.iload_n 1, 1) := by decide +kernel
theorem dX3_joinPieces_165 : decode cX3_joinPieces 165 = .ok (.aaload, 1) := by decide +kernel
theorem dX3_joinPieces_166 : decode cX3_joinPieces 166 = .ok (.iload 6, 2) := by decide +kernel
theorem dX3_joinPieces_168 : decode cX3_joinPieces 168 = .ok (.iaload, 1) := by decide +kernel
theorem dX3_joinPieces_169 : decode cX3_joinPieces 169 = .ok (.iastore, 1) := by decide +kernel
theorem dX3_joinPieces_170 : decode cX3_joinPieces 170 = .ok (.iinc 6 1, 3) := by decide +kernel
theorem dX3_joinPieces_173 : decode cX3_joinPieces 173 = .ok (.goto (-119), 3) := by decide +kernel
theorem dX3_joinPieces_176 : decode cX3_joinPieces 176 = .ok (.return_, 1) := by decide +kernel
theorem dX3_countTree_0 : decode cX3_countTree 0 = .ok (.aload_n 0, 1) := by decide +kernel
theorem dX3_countTree_1 : decode cX3_countTree 1 = .ok (.dup, 1) := by decide +kernel
theorem dX3_countTree_2 : decode cX3_countTree 2 = .ok (.getfield 41, 3) := by decide +kernel
theorem dX3_countTree_5 : decode cX3_countTree 5 = .ok (.lload_n 2, 1) := by decide +kernel
theorem dX3_countTree_6 : decode cX3_countTree 6 = .ok (.ladd, 1) := by decide +kernel
theorem dX3_countTree_7 : decode cX3_countTree 7 = .ok (.putfield 41, 3) := by decide +kernel
theorem dX3_countTree_10 : decode cX3_countTree 10 = .ok (.aload_n 0, 1) := by decide +kernel
theorem dX3_countTree_11 : decode cX3_countTree 11 = .ok (.dup, 1) := by decide +kernel
theorem dX3_countTree_12 : decode cX3_countTree 12 = .ok (.getfield 27, 3) := by decide +kernel
theorem dX3_countTree_15 : decode cX3_countTree 15 = .ok (.lload_n 2, 1) := by decide +kernel
theorem dX3_countTree_16 : decode cX3_countTree 16 = .ok (.aload_n 0, 1) := by decide +kernel
theorem dX3_countTree_17 : decode cX3_countTree 17 = .ok (.getfield 20, 3) := by decide +kernel
theorem dX3_countTree_20 : decode cX3_countTree 20 = .ok (.iload_n 1, 1) := by decide +kernel
theorem dX3_countTree_21 : decode cX3_countTree 21 = .ok (.aaload, 1) := by decide +kernel
theorem dX3_countTree_22 : decode cX3_countTree 22 = .ok (.aload_n 0, 1) := by decide +kernel
theorem dX3_countTree_23 : decode cX3_countTree 23 = .ok (.getfield 58, 3) := by decide +kernel
theorem dX3_countTree_26 : decode cX3_countTree 26 = .ok (.iaload, 1) := by decide +kernel
theorem dX3_countTree_27 : decode cX3_countTree 27 = .ok (.aload_n 0, 1) := by decide +kernel
theorem dX3_countTree_28 : decode cX3_countTree 28 = .ok (.getfield 20, 3) := by decide +kernel
theorem dX3_countTree_31 : decode cX3_countTree 31 = .ok (.iload_n 1, 1) := by decide +kernel
theorem dX3_countTree_32 : decode cX3_countTree 32 = .ok (.aaload, 1) := by decide +kernel
theorem dX3_countTree_33 : decode cX3_countTree 33 = .ok (.aload_n 0, 1) := by decide +kernel
theorem dX3_countTree_34 : decode cX3_countTree 34 = .ok (.getfield 37, 3) := by decide +kernel
theorem dX3_countTree_37 : decode cX3_countTree 37 = .ok (.iaload, 1) := by decide +kernel
theorem dX3_countTree_38 : decode cX3_countTree 38 = .ok (.isub, 1) := by decide +kernel
theorem dX3_countTree_39 : decode cX3_countTree 39 = .ok (.i2l, 1) := by decide +kernel
theorem dX3_countTree_40 : decode cX3_countTree 40 = .ok (.lmul, 1) := by decide +kernel
theorem dX3_countTree_41 : decode cX3_countTree 41 = .ok (.ladd, 1) := by decide +kernel
theorem dX3_countTree_42 : decode cX3_countTree 42 = .ok (.putfield 27, 3) := by decide +kernel
theorem dX3_countTree_45 : decode cX3_countTree 45 = .ok (.iload 4, 2) := by decide +kernel
theorem dX3_countTree_47 : decode cX3_countTree 47 = .ok (.ifCond .eq 13, 3) := by decide +kernel
theorem dX3_countTree_50 : decode cX3_countTree 50 = .ok (.aload_n 0, 1) := by decide +kernel
theorem dX3_countTree_51 : decode cX3_countTree 51 = .ok (.dup, 1) := by decide +kernel
theorem dX3_countTree_52 : decode cX3_countTree 52 = .ok (.getfield 55, 3) := by decide +kernel
theorem dX3_countTree_55 : decode cX3_countTree 55 = .ok (.lload_n 2, 1) := by decide +kernel
theorem dX3_countTree_56 : decode cX3_countTree 56 = .ok (.ladd, 1) := by decide +kernel
theorem dX3_countTree_57 : decode cX3_countTree 57 = .ok (.putfield 55, 3) := by decide +kernel
theorem dX3_countTree_60 : decode cX3_countTree 60 = .ok (.return_, 1) := by decide +kernel
set_option maxRecDepth 20000 in
theorem ggX4_init_X1_init : GoodIn wsX4_init wsX1_init := goodIn_r _ [22, 23, 2, 3, 24, 25, 26, 27, 28, 29, 30, 31, 32, 33, 56, 57, 58, 59, 60, 61, 62, 63, 64, 65] (by decide +kernel) (by decide +kernel)
set_option maxRecDepth 20000 in
theorem gX4_init_X1_init : GoodIn wsX4_init (wsX1_init) := ggX4_init_X1_init
set_option maxRecDepth 20000 in
theorem ggX4_init_X0_init : GoodIn wsX4_init wsX0_init := goodIn_r _ [36, 37, 2, 3, 38, 26, 39, 40, 41, 42, 70, 71, 72, 73, 74, 75] (by decide +kernel) (by decide +kernel)
set_option maxRecDepth 20000 in
theorem gX4_init_X0_init : GoodIn wsX4_init (wsX0_init) := ggX4_init_X0_init
set_option maxRecDepth 20000 in
theorem ggX4_init_X3_init : GoodIn wsX4_init wsX3_init := goodIn_r _ [45, 46, 2, 3, 47, 48, 26, 49, 50, 76, 77, 78, 79, 80, 81, 82, 83, 84, 85] (by decide +kernel) (by decide +kernel)
set_option maxRecDepth 20000 in
theorem gX4_init_X3_init : GoodIn wsX4_init (wsX3_init) := ggX4_init_X3_init
set_option maxRecDepth 20000 in
theorem ggX4_init_X2_init : GoodIn wsX4_init wsX2_init := goodIn_r _ [53, 54, 2, 3, 55, 86, 87, 88, 89] (by decide +kernel) (by decide +kernel)
set_option maxRecDepth 20000 in
theorem gX4_init_X2_init : GoodIn wsX4_init (wsX2_init) := ggX4_init_X2_init
theorem dX4_init_0 : decode cX4_init 0 = .ok (.aload_n 0, 1) := by decide +kernel
theorem dX4_init_1 : decode cX4_init 1 = .ok (.invokespecial 1, 3) := by decide +kernel
theorem dX4_init_4 : decode cX4_init 4 = .ok (.aload_n 0, 1) := by decide +kernel
theorem dX4_init_5 : decode cX4_init 5 = .ok (.new 7, 3) := by decide +kernel
theorem dX4_init_8 : decode cX4_init 8 = .ok (.dup, 1) := by decide +kernel
theorem dX4_init_9 : decode cX4_init 9 = .ok (.invokespecial 9, 3) := by decide +kernel
theorem dX4_init_12 : decode cX4_init 12 = .ok (.putfield 10, 3) := by decide +kernel
theorem dX4_init_15 : decode cX4_init 15 = .ok (.aload_n 0, 1) := by decide +kernel
theorem dX4_init_16 : decode cX4_init 16 = .ok (.new 16, 3) := by decide +kernel
theorem dX4_init_19 : decode cX4_init 19 = .ok (.dup, 1) := by decide +kernel
theorem dX4_init_20 : decode cX4_init 20 = .ok (.aload_n 0, 1) := by decide +kernel
theorem dX4_init_21 : decode cX4_init 21 = .ok (.getfield 10, 3) := by decide +kernel
theorem dX4_init_24 : decode cX4_init 24 = .ok (.invokespecial 18, 3) := by decide +kernel
theorem dX4_init_27 : decode cX4_init 27 = .ok (.putfield 21, 3) := by decide +kernel
theorem dX4_init_30 : decode cX4_init 30 = .ok (.aload_n 0, 1) := by decide +kernel
theorem dX4_init_31 : decode cX4_init 31 = .ok (.new 25, 3) := by decide +kernel
theorem dX4_init_34 : decode cX4_init 34 = .ok (.dup, 1) := by decide +kernel
theorem dX4_init_35 : decode cX4_init 35 = .ok (.aload_n 0, 1) := by decide +kernel
theorem dX4_init_36 : decode cX4_init 36 = .ok (.getfield 10, 3) := by decide +kernel
theorem dX4_init_39 : decode cX4_init 39 = .ok (.invokespecial 27, 3) := by decide +kernel
theorem dX4_init_42 : decode cX4_init 42 = .ok (.putfield 28, 3) := by decide +kernel
theorem dX4_init_45 : decode cX4_init 45 = .ok (.aload_n 0, 1) := by decide +kernel
theorem dX4_init_46 : decode cX4_init 46 = .ok (.new 32, 3) := by decide +kernel
theorem dX4_init_49 : decode cX4_init 49 = .ok (.dup, 1) := by decide +kernel
theorem dX4_init_50 : decode cX4_init 50 = .ok (.invokespecial 34, 3) := by decide +kernel
theorem dX4_init_53 : decode cX4_init 53 = .ok (.putfield 35, 3) := by decide +kernel
theorem dX4_init_56 : decode cX4_init 56 = .ok (.return_, 1) := by decide +kernel
set_option maxRecDepth 20000 in
theorem ggX4_station_X1_addStation : GoodIn wsX4_station wsX1_addStation := goodIn_r _ [9, 10, 11, 12, 13, 8, 14, 15, 16, 17, 18, 19, 20, 21, 22, 23, 24, 25, 26, 27, 28, 29, 30, 35, 36, 37, 38, 39, 40, 41, 42, 43, 44] (by decide +kernel) (by decide +kernel)
set_option maxRecDepth 20000 in
theorem gX4_station_X1_addStation : GoodIn wsX4_station (wsV RX4 50 RX1 yX1_addStation wsX1_addStation) := goodIn_app (goodIn_of _ (by decide +kernel)) ggX4_station_X1_addStation
theorem dX4_station_0 : decode cX4_station 0 = .ok (.aload_n 0, 1) := by decide +kernel
theorem dX4_station_1 : decode cX4_station 1 = .ok (.getfield 10, 3) := by decide +kernel
theorem dX4_station_4 : decode cX4_station 4 = .ok (.getfield 39, 3) := by decide +kernel
theorem dX4_station_7 : decode cX4_station 7 = .ok (.bipush 6, 2) := by decide +kernel
theorem dX4_station_9 : decode cX4_station 9 = .ok (.if_icmp .lt 13, 3) := by decide +kernel
theorem dX4_station_12 : decode cX4_station 12 = .ok (.new 43, 3) := by decide +kernel
theorem dX4_station_15 : decode cX4_station 15 = .ok (.dup, 1) := by decide +kernel
theorem dX4_station_16 : decode cX4_station 16 = .ok (.ldc 45, 2) := by decide +kernel
theorem dX4_station_18 : decode cX4_station 18 = .ok (.invokespecial 47, 3) := by decide +kernel
theorem dX4_station_21 : decode cX4_station 21 = .ok (.athrow, 1) := by decide +kernel
theorem dX4_station_22 : decode cX4_station 22 = .ok (.aload_n 0, 1) := by decide +kernel
theorem dX4_station_23 : decode cX4_station 23 = .ok (.getfield 10, 3) := by decide +kernel
theorem dX4_station_26 : decode cX4_station 26 = .ok (.invokevirtual 50, 3) := by decide +kernel
theorem dX4_station_29 : decode cX4_station 29 = .ok (.ireturn, 1) := by decide +kernel
set_option maxRecDepth 20000 in
theorem ggX4_datum_X4_needStation : GoodIn wsX4_datum wsX4_needStation := goodIn_ca (goodIn_r _ [8, 9, 10, 3, 11, 12, 13, 14, 15, 16, 26, 27, 28, 29, 30, 31, 32, 33, 34, 35, 36, 37, 38, 39] (by decide +kernel) (by decide +kernel)) (goodIn_sub (fun _ h => List.mem_cons_of_mem _ (List.mem_append_right _ h)) (by decide +kernel))
set_option maxRecDepth 20000 in
theorem gX4_datum_X4_needStation : GoodIn wsX4_datum (wsV RX4 54 RX4 yX4_needStation wsX4_needStation) := goodIn_app (goodIn_of _ (by decide +kernel)) ggX4_datum_X4_needStation
set_option maxRecDepth 20000 in
theorem ggX4_datum_X4_isBeyond : GoodIn wsX4_datum wsX4_isBeyond := goodIn_r _ [19] (by decide +kernel) (by decide +kernel)
set_option maxRecDepth 20000 in
theorem gX4_datum_X4_isBeyond : GoodIn wsX4_datum (va_wsS RX4 58 yX4_isBeyond wsX4_isBeyond) := goodIn_app (goodIn_of _ (by decide +kernel)) ggX4_datum_X4_isBeyond
set_option maxRecDepth 20000 in
theorem ggX4_datum_X1_tellHeight : GoodIn wsX4_datum wsX1_tellHeight := goodIn_r _ [23, 24, 25, 30, 31, 32, 33, 34, 35, 36, 37, 38, 39] (by decide +kernel) (by decide +kernel)
set_option maxRecDepth 20000 in
theorem gX4_datum_X1_tellHeight : GoodIn wsX4_datum (wsV RX4 67 RX1 yX1_tellHeight wsX1_tellHeight) := goodIn_app (goodIn_of _ (by decide +kernel)) ggX4_datum_X1_tellHeight
theorem dX4_datum_0 : decode cX4_datum 0 = .ok (.aload_n 0, 1) := by decide +kernel
theorem dX4_datum_1 : decode cX4_datum 1 = .ok (.iload_n 1, 1) := by decide +kernel
theorem dX4_datum_2 : decode cX4_datum 2 = .ok (.invokevirtual 54, 3) := by decide +kernel
theorem dX4_datum_5 : decode cX4_datum 5 = .ok (.iload_n 3, 1) := by decide +kernel
theorem dX4_datum_6 : decode cX4_datum 6 = .ok (.ifCond .eq 26, 3) := by decide +kernel
theorem dX4_datum_9 : decode cX4_datum 9 = .ok (.iload_n 2, 1) := by decide +kernel
theorem dX4_datum_10 : decode cX4_datum 10 = .ok (.sipush (-9999), 3) := by decide +kernel
theorem dX4_datum_13 : decode cX4_datum 13 = .ok (.sipush 9999, 3) := by decide +kernel
theorem dX4_datum_16 : decode cX4_datum 16 = .ok (.invokestatic 58, 3) := by decide +kernel
theorem dX4_datum_19 : decode cX4_datum 19 = .ok (.ifCond .eq 13, 3) := by decide +kernel
theorem dX4_datum_22 : decode cX4_datum 22 = .ok (.new 62, 3) := by decide +kernel
theorem dX4_datum_25 : decode cX4_datum 25 = .ok (.dup, 1) := by decide +kernel
theorem dX4_datum_26 : decode cX4_datum 26 = .ok (.ldc 64, 2) := by decide +kernel
theorem dX4_datum_28 : decode cX4_datum 28 = .ok (.invokespecial 66, 3) := by decide +kernel
theorem dX4_datum_31 : decode cX4_datum 31 = .ok (.athrow, 1) := by decide +kernel
theorem dX4_datum_32 : decode cX4_datum 32 = .ok (.aload_n 0, 1) := by decide +kernel
theorem dX4_datum_33 : decode cX4_datum 33 = .ok (.getfield 10, 3) := by decide +kernel
theorem dX4_datum_36 : decode cX4_datum 36 = .ok (.iload_n 1, 1) := by decide +kernel
theorem dX4_datum_37 : decode cX4_datum 37 = .ok (.iload_n 2, 1) := by decide +kernel
theorem dX4_datum_38 : decode cX4_datum 38 = .ok (.iload_n 3, 1) := by decide +kernel
theorem dX4_datum_39 : decode cX4_datum 39 = .ok (.invokevirtual 67, 3) := by decide +kernel
theorem dX4_datum_42 : decode cX4_datum 42 = .ok (.ireturn, 1) := by decide +kernel
set_option maxRecDepth 20000 in
theorem ggX4_observe_X4_needStation : GoodIn wsX4_observe wsX4_needStation := goodIn_ca (goodIn_r _ [11, 12, 13, 5, 14, 15, 16, 17, 18, 19, 49, 50, 51, 52, 53, 54, 55, 56, 57, 58, 59, 60, 61, 62] (by decide +kernel) (by decide +kernel)) (goodIn_sub (fun _ h => List.mem_cons_of_mem _ (List.mem_append_right _ h)) (by decide +kernel))
set_option maxRecDepth 20000 in
theorem gX4_observe_X4_needStation : GoodIn wsX4_observe (wsV RX4 54 RX4 yX4_needStation wsX4_needStation) := goodIn_app (goodIn_of _ (by decide +kernel)) ggX4_observe_X4_needStation
set_option maxRecDepth 20000 in
theorem ggX4_observe_X4_isBeyond : GoodIn wsX4_observe wsX4_isBeyond := goodIn_r _ [22] (by decide +kernel) (by decide +kernel)
set_option maxRecDepth 20000 in
theorem gX4_observe_X4_isBeyond : GoodIn wsX4_observe (va_wsS RX4 58 yX4_isBeyond wsX4_isBeyond) := goodIn_app (goodIn_of _ (by decide +kernel)) ggX4_observe_X4_isBeyond
set_option maxRecDepth 20000 in
theorem ggX4_observe_X1_addObservation : GoodIn wsX4_observe wsX1_addObservation := goodIn_r _ [26, 27, 28, 29, 30, 31, 32, 33, 34, 17, 35, 19, 36, 37, 38, 39, 40, 41, 42, 43, 44, 45, 46, 47, 48, 53, 54, 55, 56, 57, 58, 59, 60, 61, 62] (by decide +kernel) (by decide +kernel)
set_option maxRecDepth 20000 in
theorem gX4_observe_X1_addObservation : GoodIn wsX4_observe (wsV RX4 82 RX1 yX1_addObservation wsX1_addObservation) := goodIn_app (goodIn_of _ (by decide +kernel)) ggX4_observe_X1_addObservation
theorem dX4_observe_0 : decode cX4_observe 0 = .ok (.aload_n 0, 1) := by decide +kernel
theorem dX4_observe_1 : decode cX4_observe 1 = .ok (.iload_n 1, 1) := by decide +kernel
theorem dX4_observe_2 : decode cX4_observe 2 = .ok (.invokevirtual 54, 3) := by decide +kernel
theorem dX4_observe_5 : decode cX4_observe 5 = .ok (.aload_n 0, 1) := by decide +kernel
theorem dX4_observe_6 : decode cX4_observe 6 = .ok (.iload_n 2, 1) := by decide +kernel
theorem dX4_observe_7 : decode cX4_observe 7 = .ok (.invokevirtual 54, 3) := by decide +kernel
theorem dX4_observe_10 : decode cX4_observe 10 = .ok (.iload_n 1, 1) := by decide +kernel
theorem dX4_observe_11 : decode cX4_observe 11 = .ok (.iload_n 2, 1) := by decide +kernel
theorem dX4_observe_12 : decode cX4_observe 12 = .ok (.if_icmp .ne 13, 3) := by decide +kernel
theorem dX4_observe_15 : decode cX4_observe 15 = .ok (.new 62, 3) := by decide +kernel
theorem dX4_observe_18 : decode cX4_observe 18 = .ok (.dup, 1) := by decide +kernel
theorem dX4_observe_19 : decode cX4_observe 19 = .ok (.ldc 71, 2) := by decide +kernel
theorem dX4_observe_21 : decode cX4_observe 21 = .ok (.invokespecial 66, 3) := by decide +kernel
theorem dX4_observe_24 : decode cX4_observe 24 = .ok (.athrow, 1) := by decide +kernel
theorem dX4_observe_25 : decode cX4_observe 25 = .ok (.iload_n 3, 1) := by decide +kernel
theorem dX4_observe_26 : decode cX4_observe 26 = .ok (.sipush (-9999), 3) := by decide +kernel
theorem dX4_observe_29 : decode cX4_observe 29 = .ok (.sipush 9999, 3) := by decide +kernel
theorem dX4_observe_32 : decode cX4_observe 32 = .ok (.invokestatic 58, 3) := by decide +kernel
theorem dX4_observe_35 : decode cX4_observe 35 = .ok (.ifCond .eq 13, 3) := by decide +kernel
theorem dX4_observe_38 : decode cX4_observe 38 = .ok (.new 62, 3) := by decide +kernel
theorem dX4_observe_41 : decode cX4_observe 41 = .ok (.dup, 1) := by decide +kernel
theorem dX4_observe_42 : decode cX4_observe 42 = .ok (.ldc 73, 2) := by decide +kernel
theorem dX4_observe_44 : decode cX4_observe 44 = .ok (.invokespecial 66, 3) := by decide +kernel
theorem dX4_observe_47 : decode cX4_observe 47 = .ok (.athrow, 1) := by decide +kernel
theorem dX4_observe_48 : decode cX4_observe 48 = .ok (.iload 4, 2) := by decide +kernel
theorem dX4_observe_50 : decode cX4_observe 50 = .ok (.iconst 1, 1) := by decide +kernel
theorem dX4_observe_51 : decode cX4_observe 51 = .ok (.iconst 5, 1) := by decide +kernel
theorem dX4_observe_52 : decode cX4_observe 52 = .ok (.invokestatic 58, 3) := by decide +kernel
theorem dX4_observe_55 : decode cX4_observe 55 = .ok (.ifCond .eq 13, 3) := by decide +kernel
theorem dX4_observe_58 : decode cX4_observe 58 = .ok (.new 62, 3) := by decide +kernel
theorem dX4_observe_61 : decode cX4_observe 61 = .ok (.dup, 1) := by decide +kernel
theorem dX4_observe_62 : decode cX4_observe 62 = .ok (.ldc 75, 2) := by decide +kernel
theorem dX4_observe_64 : decode cX4_observe 64 = .ok (.invokespecial 66, 3) := by decide +kernel
theorem dX4_observe_67 : decode cX4_observe 67 = .ok (.athrow, 1) := by decide +kernel
theorem dX4_observe_68 : decode cX4_observe 68 = .ok (.aload_n 0, 1) := by decide +kernel
theorem dX4_observe_69 : decode cX4_observe 69 = .ok (.getfield 10, 3) := by decide +kernel
theorem dX4_observe_72 : decode cX4_observe 72 = .ok (.getfield 77, 3) := by decide +kernel
theorem dX4_observe_75 : decode cX4_observe 75 = .ok (.bipush 14, 2) := by decide +kernel
theorem dX4_observe_77 : decode cX4_observe 77 = .ok (.if_icmp .lt 13, 3) := by decide +kernel
theorem dX4_observe_80 : decode cX4_observe 80 = .ok (.new 43, 3) := by decide +kernel
theorem dX4_observe_83 : decode cX4_observe 83 = .ok (.dup, 1) := by decide +kernel
theorem dX4_observe_84 : decode cX4_observe 84 = .ok (.ldc 80, 2) := by decide +kernel
theorem dX4_observe_86 : decode cX4_observe 86 = .ok (.invokespecial 47, 3) := by decide +kernel
theorem dX4_observe_89 : decode cX4_observe 89 = .ok (.athrow, 1) := by decide +kernel
theorem dX4_observe_90 : decode cX4_observe 90 = .ok (.aload_n 0, 1) := by decide +kernel
theorem dX4_observe_91 : decode cX4_observe 91 = .ok (.getfield 10, 3) := by decide +kernel
theorem dX4_observe_94 : decode cX4_observe 94 = .ok (.iload_n 1, 1) := by decide +kernel
theorem dX4_observe_95 : decode cX4_observe 95 = .ok (.iload_n 2, 1) := by decide +kernel
theorem dX4_observe_96 : decode cX4_observe 96 = .ok (.iload_n 3, 1) := by decide +kernel
theorem dX4_observe_97 : decode cX4_observe 97 = .ok (.iload 4, 2) := by decide +kernel
theorem dX4_observe_99 : decode cX4_observe 99 = .ok (.invokevirtual 82, 3) := by decide +kernel
theorem dX4_observe_102 : decode cX4_observe 102 = .ok (.ireturn, 1) := by decide +kernel
set_option maxRecDepth 20000 in
theorem ggX4_withdraw_X4_needObservation : GoodIn wsX4_withdraw wsX4_needObservation := goodIn_ca (goodIn_r _ [6, 7, 8, 1, 9, 10, 11, 12, 13, 14, 39, 40, 41, 42, 43, 44, 45, 46, 47, 48, 49, 50, 51, 52] (by decide +kernel) (by decide +kernel)) (goodIn_sub (fun _ h => List.mem_cons_of_mem _ (List.mem_append_right _ h)) (by decide +kernel))
set_option maxRecDepth 20000 in
theorem gX4_withdraw_X4_needObservation : GoodIn wsX4_withdraw (wsV RX4 86 RX4 yX4_needObservation wsX4_needObservation) := goodIn_app (goodIn_of _ (by decide +kernel)) ggX4_withdraw_X4_needObservation
set_option maxRecDepth 20000 in
theorem ggX4_withdraw_X1_setWithdrawn : GoodIn wsX4_withdraw wsX1_setWithdrawn := goodIn_r _ [18, 19, 20, 21, 22, 12, 23, 24, 25, 14, 26, 27, 28, 29, 30, 31, 32, 33, 34, 35, 36, 37, 38, 43, 44, 45, 46, 47, 48, 49, 50, 51, 52] (by decide +kernel) (by decide +kernel)
set_option maxRecDepth 20000 in
theorem gX4_withdraw_X1_setWithdrawn : GoodIn wsX4_withdraw (wsV RX4 89 RX1 yX1_setWithdrawn wsX1_setWithdrawn) := goodIn_app (goodIn_of _ (by decide +kernel)) ggX4_withdraw_X1_setWithdrawn
theorem dX4_withdraw_0 : decode cX4_withdraw 0 = .ok (.aload_n 0, 1) := by decide +kernel
theorem dX4_withdraw_1 : decode cX4_withdraw 1 = .ok (.iload_n 1, 1) := by decide +kernel
theorem dX4_withdraw_2 : decode cX4_withdraw 2 = .ok (.invokevirtual 86, 3) := by decide +kernel
theorem dX4_withdraw_5 : decode cX4_withdraw 5 = .ok (.aload_n 0, 1) := by decide +kernel
theorem dX4_withdraw_6 : decode cX4_withdraw 6 = .ok (.getfield 10, 3) := by decide +kernel
theorem dX4_withdraw_9 : decode cX4_withdraw 9 = .ok (.iload_n 1, 1) := by decide +kernel
theorem dX4_withdraw_10 : decode cX4_withdraw 10 = .ok (.iload_n 2, 1) := by decide +kernel
theorem dX4_withdraw_11 : decode cX4_withdraw 11 = .ok (.invokevirtual 89, 3) := by decide +kernel
theorem dX4_withdraw_14 : decode cX4_withdraw 14 = .ok (.ireturn, 1) := by decide +kernel
set_option maxRecDepth 20000 in
theorem ggX4_clean_X4_isBeyond : GoodIn wsX4_clean wsX4_isBeyond := goodIn_r _ [9] (by decide +kernel) (by decide +kernel)
set_option maxRecDepth 20000 in
theorem gX4_clean_X4_isBeyond : GoodIn wsX4_clean (va_wsS RX4 58 yX4_isBeyond wsX4_isBeyond) := goodIn_app (goodIn_of _ (by decide +kernel)) ggX4_clean_X4_isBeyond
set_option maxRecDepth 20000 in
theorem ggX4_clean_X0_worstObservation : GoodIn wsX4_clean wsX0_worstObservation := goodIn_r _ [14, 15, 16, 17, 18, 19, 20, 13, 21, 22, 23, 24, 25, 26, 27, 28, 29, 30, 31, 32, 33, 34, 35, 36, 37, 38, 39, 40, 41, 42, 43, 44, 45, 46, 47, 48, 49, 50, 51, 52, 53, 54, 55, 56, 57, 58, 59, 60, 61, 62, 63, 64, 65, 66, 67, 68, 69, 70, 71, 72, 73, 74, 75, 76, 77, 78, 79, 80, 81, 82, 83, 84, 85, 86, 87, 88, 89, 90, 91, 92, 8, 93, 94, 95, 96, 97, 98, 99, 100, 101, 102, 128, 129, 130, 131, 132, 133, 134, 135, 136, 137, 138, 139, 140, 141, 142, 143] (by decide +kernel) (by decide +kernel)
set_option maxRecDepth 20000 in
theorem gX4_clean_X0_worstObservation : GoodIn wsX4_clean (wsV RX4 96 RX0 yX0_worstObservation wsX0_worstObservation) := goodIn_app (goodIn_of _ (by decide +kernel)) ggX4_clean_X0_worstObservation
set_option maxRecDepth 20000 in
theorem ggX4_clean_X0_scoreOf : GoodIn wsX4_clean wsX0_scoreOf := goodIn_r _ [21, 22, 23, 24, 25, 26, 27, 15, 28, 29, 30, 31, 13, 32, 33, 34, 35, 36, 37, 38, 39, 40, 16, 41, 42, 43, 44, 45, 46, 47, 48, 49, 50, 51, 52, 53, 54, 55, 56, 57, 58, 59, 60, 61, 62, 63, 64, 65, 66, 67, 68, 69, 70, 71, 72, 73, 74, 75, 76, 77, 78, 79, 80, 81, 82, 83, 84, 85, 86, 87, 88, 89, 90, 91, 92, 8, 93, 94, 95, 96, 97, 98, 99, 100, 101, 102, 128, 129, 130, 131, 132, 133, 134, 135, 136, 137, 138, 139, 140, 141, 142, 143] (by decide +kernel) (by decide +kernel)
set_option maxRecDepth 20000 in
theorem gX4_clean_X0_scoreOf : GoodIn wsX4_clean (wsV RX4 99 RX0 yX0_scoreOf wsX0_scoreOf) := goodIn_app (goodIn_of _ (by decide +kernel)) ggX4_clean_X0_scoreOf
set_option maxRecDepth 20000 in
theorem ggX4_clean_X1_setWithdrawn : GoodIn wsX4_clean wsX1_setWithdrawn := goodIn_r _ [107, 70, 108, 109, 110, 44, 111, 46, 48, 112, 71, 113, 114, 115, 116, 117, 118, 119, 25, 120, 121, 122, 123, 134, 135, 136, 137, 138, 139, 140, 141, 142, 143] (by decide +kernel) (by decide +kernel)
set_option maxRecDepth 20000 in
theorem gX4_clean_X1_setWithdrawn : GoodIn wsX4_clean (wsV RX4 89 RX1 yX1_setWithdrawn wsX1_setWithdrawn) := goodIn_app (goodIn_of _ (by decide +kernel)) ggX4_clean_X1_setWithdrawn
theorem dX4_clean_0 : decode cX4_clean 0 = .ok (.iload_n 1, 1) := by decide +kernel
theorem dX4_clean_1 : decode cX4_clean 1 = .ok (.iconst 0, 1) := by decide +kernel
theorem dX4_clean_2 : decode cX4_clean 2 = .ok (.ldc 93, 2) := by decide +kernel
theorem dX4_clean_4 : decode cX4_clean 4 = .ok (.invokestatic 58, 3) := by decide +kernel
theorem dX4_clean_7 : decode cX4_clean 7 = .ok (.ifCond .eq 13, 3) := by decide +kernel
theorem dX4_clean_10 : decode cX4_clean 10 = .ok (.new 62, 3) := by decide +kernel
theorem dX4_clean_13 : decode cX4_clean 13 = .ok (.dup, 1) := by decide +kernel
theorem dX4_clean_14 : decode cX4_clean 14 = .ok (.ldc 94, 2) := by decide +kernel
theorem dX4_clean_16 : decode cX4_clean 16 = .ok (.invokespecial 66, 3) := by decide +kernel
theorem dX4_clean_19 : decode cX4_clean 19 = .ok (.athrow, 1) := by decide +kernel
theorem dX4_clean_20 : decode cX4_clean 20 = .ok (.iconst 0, 1) := by decide +kernel
theorem dX4_clean_21 : decode cX4_clean 21 = .ok (.istore_n 2, 1) := by decide +kernel
theorem dX4_clean_22 : decode cX4_clean 22 = .ok (.iload_n 2, 1) := by decide +kernel
theorem dX4_clean_23 : decode cX4_clean 23 = .ok (.bipush 14, 2) := by decide +kernel
theorem dX4_clean_25 : decode cX4_clean 25 = .ok (.if_icmp .ge 48, 3) := by decide +kernel
theorem dX4_clean_28 : decode cX4_clean 28 = .ok (.aload_n 0, 1) := by decide +kernel
theorem dX4_clean_29 : decode cX4_clean 29 = .ok (.getfield 21, 3) := by decide +kernel
theorem dX4_clean_32 : decode cX4_clean 32 = .ok (.invokevirtual 96, 3) := by decide +kernel
theorem dX4_clean_35 : decode cX4_clean 35 = .ok (.istore_n 3, 1) := by decide +kernel
theorem dX4_clean_36 : decode cX4_clean 36 = .ok (.iload_n 3, 1) := by decide +kernel
theorem dX4_clean_37 : decode cX4_clean 37 = .ok (.iconst (-1), 1) := by decide +kernel
theorem dX4_clean_38 : decode cX4_clean 38 = .ok (.if_icmp .eq 17, 3) := by decide +kernel
theorem dX4_clean_41 : decode cX4_clean 41 = .ok (.aload_n 0, 1) := by decide +kernel
theorem dX4_clean_42 : decode cX4_clean 42 = .ok (.getfield 21, 3) := by decide +kernel
theorem dX4_clean_45 : decode cX4_clean 45 = .ok (.iload_n 3, 1) := by decide +kernel
theorem dX4_clean_46 : decode cX4_clean 46 = .ok (.invokevirtual 99, 3) := by decide +kernel
theorem dX4_clean_49 : decode cX4_clean 49 = .ok (.iload_n 1, 1) := by decide +kernel
theorem dX4_clean_50 : decode cX4_clean 50 = .ok (.i2l, 1) := by decide +kernel
theorem dX4_clean_51 : decode cX4_clean 51 = .ok (.lcmp, 1) := by decide +kernel
theorem dX4_clean_52 : decode cX4_clean 52 = .ok (.ifCond .gt 5, 3) := by decide +kernel
theorem dX4_clean_55 : decode cX4_clean 55 = .ok (.iload_n 2, 1) := by decide +kernel
theorem dX4_clean_56 : decode cX4_clean 56 = .ok (.ireturn, 1) := by decide +kernel
theorem dX4_clean_57 : decode cX4_clean 57 = .ok (.aload_n 0, 1) := by decide +kernel
theorem dX4_clean_58 : decode cX4_clean 58 = .ok (.getfield 10, 3) := by decide +kernel
theorem dX4_clean_61 : decode cX4_clean 61 = .ok (.iload_n 3, 1) := by decide +kernel
theorem dX4_clean_62 : decode cX4_clean 62 = .ok (.iconst 1, 1) := by decide +kernel
theorem dX4_clean_63 : decode cX4_clean 63 = .ok (.invokevirtual 89, 3) := by decide +kernel
theorem dX4_clean_66 : decode cX4_clean 66 = .ok (.pop, 1) := by decide +kernel
theorem dX4_clean_67 : decode cX4_clean 67 = .ok (.iinc 2 1, 3) := by decide +kernel
theorem dX4_clean_70 : decode cX4_clean 70 = .ok (.goto (-48), 3) := by decide +kernel
theorem dX4_clean_73 : decode cX4_clean 73 = .ok (.bipush 14, 2) := by decide +kernel
theorem dX4_clean_75 : decode cX4_clean 75 = .ok (.ireturn, 1) := by decide +kernel
set_option maxRecDepth 20000 in
theorem ggX4_go_X4_needStation : GoodIn wsX4_go wsX4_needStation := goodIn_ca (goodIn_r _ [11, 12, 13, 5, 14, 15, 16, 17, 18, 19, 46, 47, 48, 49, 54, 55, 56, 57, 58, 59, 60, 61, 62, 63] (by decide +kernel) (by decide +kernel)) (goodIn_sub (fun _ h => List.mem_cons_of_mem _ (List.mem_append_right _ h)) (by decide +kernel))
set_option maxRecDepth 20000 in
theorem gX4_go_X4_needStation : GoodIn wsX4_go (wsV RX4 54 RX4 yX4_needStation wsX4_needStation) := goodIn_app (goodIn_of _ (by decide +kernel)) ggX4_go_X4_needStation
set_option maxRecDepth 20000 in
theorem ggX4_go_X2_begin : GoodIn wsX4_go wsX2_begin := goodIn_r _ [24, 25, 26, 27, 50, 51, 52, 53] (by decide +kernel) (by decide +kernel)
set_option maxRecDepth 20000 in
theorem gX4_go_X2_begin : GoodIn wsX4_go (wsV RX4 108 RX2 yX2_begin wsX2_begin) := goodIn_app (goodIn_of _ (by decide +kernel)) ggX4_go_X2_begin
set_option maxRecDepth 20000 in
theorem ggX4_go_X1_lowestBetween : GoodIn wsX4_go wsX1_lowestBetween := goodIn_r _ [31, 32, 33, 34, 35, 54, 55, 56, 57, 58, 59, 60, 61, 62, 63] (by decide +kernel) (by decide +kernel)
set_option maxRecDepth 20000 in
theorem gX4_go_X1_lowestBetween : GoodIn wsX4_go (wsV RX4 115 RX1 yX1_lowestBetween wsX1_lowestBetween) := goodIn_app (goodIn_of _ (by decide +kernel)) ggX4_go_X1_lowestBetween
set_option maxRecDepth 20000 in
theorem ggX4_go_X1_differenceFrom : GoodIn wsX4_go wsX1_differenceFrom := goodIn_r _ [39, 33, 40, 54, 55, 56, 57, 58, 59, 60, 61, 62, 63] (by decide +kernel) (by decide +kernel)
set_option maxRecDepth 20000 in
theorem gX4_go_X1_differenceFrom : GoodIn wsX4_go (wsV RX4 121 RX1 yX1_differenceFrom wsX1_differenceFrom) := goodIn_app (goodIn_of _ (by decide +kernel)) ggX4_go_X1_differenceFrom
set_option maxRecDepth 20000 in
theorem ggX4_go_X2_goOn : GoodIn wsX4_go wsX2_goOn := goodIn_r _ [44, 26, 45, 27, 50, 51, 52, 53] (by decide +kernel) (by decide +kernel)
set_option maxRecDepth 20000 in
theorem gX4_go_X2_goOn : GoodIn wsX4_go (wsV RX4 124 RX2 yX2_goOn wsX2_goOn) := goodIn_app (goodIn_of _ (by decide +kernel)) ggX4_go_X2_goOn
theorem dX4_go_0 : decode cX4_go 0 = .ok (.aload_n 0, 1) := by decide +kernel
theorem dX4_go_1 : decode cX4_go 1 = .ok (.iload_n 1, 1) := by decide +kernel
theorem dX4_go_2 : decode cX4_go 2 = .ok (.invokevirtual 54, 3) := by decide +kernel
theorem dX4_go_5 : decode cX4_go 5 = .ok (.aload_n 0, 1) := by decide +kernel
theorem dX4_go_6 : decode cX4_go 6 = .ok (.getfield 35, 3) := by decide +kernel
theorem dX4_go_9 : decode cX4_go 9 = .ok (.getfield 103, 3) := by decide +kernel
theorem dX4_go_12 : decode cX4_go 12 = .ok (.bipush 10, 2) := by decide +kernel
theorem dX4_go_14 : decode cX4_go 14 = .ok (.if_icmp .lt 13, 3) := by decide +kernel
theorem dX4_go_17 : decode cX4_go 17 = .ok (.new 43, 3) := by decide +kernel
theorem dX4_go_20 : decode cX4_go 20 = .ok (.dup, 1) := by decide +kernel
theorem dX4_go_21 : decode cX4_go 21 = .ok (.ldc 106, 2) := by decide +kernel
theorem dX4_go_23 : decode cX4_go 23 = .ok (.invokespecial 47, 3) := by decide +kernel
theorem dX4_go_26 : decode cX4_go 26 = .ok (.athrow, 1) := by decide +kernel
theorem dX4_go_27 : decode cX4_go 27 = .ok (.aload_n 0, 1) := by decide +kernel
theorem dX4_go_28 : decode cX4_go 28 = .ok (.getfield 35, 3) := by decide +kernel
theorem dX4_go_31 : decode cX4_go 31 = .ok (.getfield 103, 3) := by decide +kernel
theorem dX4_go_34 : decode cX4_go 34 = .ok (.ifCond .ne 12, 3) := by decide +kernel
theorem dX4_go_37 : decode cX4_go 37 = .ok (.aload_n 0, 1) := by decide +kernel
theorem dX4_go_38 : decode cX4_go 38 = .ok (.getfield 35, 3) := by decide +kernel
theorem dX4_go_41 : decode cX4_go 41 = .ok (.iload_n 1, 1) := by decide +kernel
theorem dX4_go_42 : decode cX4_go 42 = .ok (.invokevirtual 108, 3) := by decide +kernel
theorem dX4_go_45 : decode cX4_go 45 = .ok (.ireturn, 1) := by decide +kernel
theorem dX4_go_46 : decode cX4_go 46 = .ok (.aload_n 0, 1) := by decide +kernel
theorem dX4_go_47 : decode cX4_go 47 = .ok (.getfield 10, 3) := by decide +kernel
theorem dX4_go_50 : decode cX4_go 50 = .ok (.aload_n 0, 1) := by decide +kernel
theorem dX4_go_51 : decode cX4_go 51 = .ok (.getfield 35, 3) := by decide +kernel
theorem dX4_go_54 : decode cX4_go 54 = .ok (.getfield 112, 3) := by decide +kernel
theorem dX4_go_57 : decode cX4_go 57 = .ok (.iload_n 1, 1) := by decide +kernel
theorem dX4_go_58 : decode cX4_go 58 = .ok (.invokevirtual 115, 3) := by decide +kernel
theorem dX4_go_61 : decode cX4_go 61 = .ok (.istore_n 2, 1) := by decide +kernel
theorem dX4_go_62 : decode cX4_go 62 = .ok (.iload_n 2, 1) := by decide +kernel
theorem dX4_go_63 : decode cX4_go 63 = .ok (.iconst (-1), 1) := by decide +kernel
theorem dX4_go_64 : decode cX4_go 64 = .ok (.if_icmp .ne 13, 3) := by decide +kernel
theorem dX4_go_67 : decode cX4_go 67 = .ok (.new 43, 3) := by decide +kernel
theorem dX4_go_70 : decode cX4_go 70 = .ok (.dup, 1) := by decide +kernel
theorem dX4_go_71 : decode cX4_go 71 = .ok (.ldc 119, 2) := by decide +kernel
theorem dX4_go_73 : decode cX4_go 73 = .ok (.invokespecial 47, 3) := by decide +kernel
theorem dX4_go_76 : decode cX4_go 76 = .ok (.athrow, 1) := by decide +kernel
theorem dX4_go_77 : decode cX4_go 77 = .ok (.aload_n 0, 1) := by decide +kernel
theorem dX4_go_78 : decode cX4_go 78 = .ok (.getfield 35, 3) := by decide +kernel
theorem dX4_go_81 : decode cX4_go 81 = .ok (.iload_n 1, 1) := by decide +kernel
theorem dX4_go_82 : decode cX4_go 82 = .ok (.aload_n 0, 1) := by decide +kernel
theorem dX4_go_83 : decode cX4_go 83 = .ok (.getfield 10, 3) := by decide +kernel
theorem dX4_go_86 : decode cX4_go 86 = .ok (.aload_n 0, 1) := by decide +kernel
theorem dX4_go_87 : decode cX4_go 87 = .ok (.getfield 35, 3) := by decide +kernel
theorem dX4_go_90 : decode cX4_go 90 = .ok (.getfield 112, 3) := by decide +kernel
theorem dX4_go_93 : decode cX4_go 93 = .ok (.iload_n 2, 1) := by decide +kernel
theorem dX4_go_94 : decode cX4_go 94 = .ok (.invokevirtual 121, 3) := by decide +kernel
theorem dX4_go_97 : decode cX4_go 97 = .ok (.invokevirtual 124, 3) := by decide +kernel
theorem dX4_go_100 : decode cX4_go 100 = .ok (.ireturn, 1) := by decide +kernel
set_option maxRecDepth 20000 in
theorem ggX4_end_X2_clear : GoodIn wsX4_end wsX2_clear := goodIn_r _ [6, 7, 8, 13, 14, 15, 16] (by decide +kernel) (by decide +kernel)
set_option maxRecDepth 20000 in
theorem gX4_end_X2_clear : GoodIn wsX4_end (wsV RX4 127 RX2 yX2_clear wsX2_clear) := goodIn_app (goodIn_of _ (by decide +kernel)) ggX4_end_X2_clear
theorem dX4_end_0 : decode cX4_end 0 = .ok (.aload_n 0, 1) := by decide +kernel
theorem dX4_end_1 : decode cX4_end 1 = .ok (.getfield 35, 3) := by decide +kernel
theorem dX4_end_4 : decode cX4_end 4 = .ok (.invokevirtual 127, 3) := by decide +kernel
theorem dX4_end_7 : decode cX4_end 7 = .ok (.ireturn, 1) := by decide +kernel
theorem dX4_sum_0 : decode cX4_sum 0 = .ok (.aload_n 0, 1) := by decide +kernel
theorem dX4_sum_1 : decode cX4_sum 1 = .ok (.getfield 35, 3) := by decide +kernel
theorem dX4_sum_4 : decode cX4_sum 4 = .ok (.getfield 130, 3) := by decide +kernel
theorem dX4_sum_7 : decode cX4_sum 7 = .ok (.ireturn, 1) := by decide +kernel
theorem dX4_isClosed_0 : decode cX4_isClosed 0 = .ok (.aload_n 0, 1) := by decide +kernel
theorem dX4_isClosed_1 : decode cX4_isClosed 1 = .ok (.getfield 35, 3) := by decide +kernel
theorem dX4_isClosed_4 : decode cX4_isClosed 4 = .ok (.getfield 103, 3) := by decide +kernel
theorem dX4_isClosed_7 : decode cX4_isClosed 7 = .ok (.ifCond .le 34, 3) := by decide +kernel
theorem dX4_isClosed_10 : decode cX4_isClosed 10 = .ok (.aload_n 0, 1) := by decide +kernel
theorem dX4_isClosed_11 : decode cX4_isClosed 11 = .ok (.getfield 35, 3) := by decide +kernel
theorem dX4_isClosed_14 : decode cX4_isClosed 14 = .ok (.getfield 133, 3) := by decide +kernel
theorem dX4_isClosed_17 : decode cX4_isClosed 17 = .ok (.aload_n 0, 1) := by decide +kernel
theorem dX4_isClosed_18 : decode cX4_isClosed 18 = .ok (.getfield 35, 3) := by decide +kernel
theorem dX4_isClosed_21 : decode cX4_isClosed 21 = .ok (.getfield 112, 3) := by decide +kernel
theorem dX4_isClosed_24 : decode cX4_isClosed 24 = .ok (.if_icmp .ne 17, 3) := by decide +kernel
theorem dX4_isClosed_27 : decode cX4_isClosed 27 = .ok (.aload_n 0, 1) := by decide +kernel
theorem dX4_isClosed_28 : decode cX4_isClosed 28 = .ok (.getfield 35, 3) := by decide +kernel
theorem dX4_isClosed_31 : decode cX4_isClosed 31 = .ok (.getfield 130, 3) := by decide +kernel
theorem dX4_isClosed_34 : decode cX4_isClosed 34 = .ok (.ifCond .ne 7, 3) := by decide +kernel
theorem dX4_isClosed_37 : decode cX4_isClosed 37 = .ok (.iconst 1, 1) := by decide +kernel
theorem dX4_isClosed_38 : decode cX4_isClosed 38 = .ok (.goto 4, 3) := by decide +kernel
theorem dX4_isClosed_41 : decode cX4_isClosed 41 = .ok (.iconst 0, 1) := by decide +kernel
theorem dX4_isClosed_42 : decode cX4_isClosed 42 = .ok (.ireturn, 1) := by decide +kernel
set_option maxRecDepth 20000 in
theorem ggX4_height_X4_needStation : GoodIn wsX4_height wsX4_needStation := goodIn_ca (goodIn_r _ [6, 7, 8, 9, 10, 11, 12, 13, 14, 15, 90, 91, 92, 93, 94, 95, 96, 97, 98, 99, 100, 101, 102, 103] (by decide +kernel) (by decide +kernel)) (goodIn_sub (fun _ h => List.mem_cons_of_mem _ (List.mem_append_right _ h)) (by decide +kernel))
set_option maxRecDepth 20000 in
theorem gX4_height_X4_needStation : GoodIn wsX4_height (wsV RX4 54 RX4 yX4_needStation wsX4_needStation) := goodIn_app (goodIn_of _ (by decide +kernel)) ggX4_height_X4_needStation
set_option maxRecDepth 20000 in
theorem ggX4_height_X0_heightOf : GoodIn wsX4_height wsX0_heightOf := goodIn_r _ [20, 21, 22, 23, 24, 25, 26, 27, 28, 19, 29, 30, 31, 32, 33, 13, 34, 15, 35, 36, 37, 38, 39, 40, 41, 42, 43, 44, 45, 46, 47, 48, 49, 50, 51, 52, 53, 54, 55, 56, 57, 58, 59, 60, 61, 62, 63, 64, 65, 66, 67, 68, 69, 70, 71, 72, 73, 74, 75, 76, 77, 78, 79, 80, 81, 82, 83, 84, 5, 85, 86, 87, 88, 89, 104, 105, 106, 107, 108, 109, 94, 95, 96, 97, 98, 99, 100, 101, 102, 103] (by decide +kernel) (by decide +kernel)
set_option maxRecDepth 20000 in
theorem gX4_height_X0_heightOf : GoodIn wsX4_height (wsV RX4 136 RX0 yX0_heightOf wsX0_heightOf) := goodIn_app (goodIn_of _ (by decide +kernel)) ggX4_height_X0_heightOf
theorem dX4_height_0 : decode cX4_height 0 = .ok (.aload_n 0, 1) := by decide +kernel
theorem dX4_height_1 : decode cX4_height 1 = .ok (.iload_n 1, 1) := by decide +kernel
theorem dX4_height_2 : decode cX4_height 2 = .ok (.invokevirtual 54, 3) := by decide +kernel
theorem dX4_height_5 : decode cX4_height 5 = .ok (.aload_n 0, 1) := by decide +kernel
theorem dX4_height_6 : decode cX4_height 6 = .ok (.getfield 21, 3) := by decide +kernel
theorem dX4_height_9 : decode cX4_height 9 = .ok (.iload_n 1, 1) := by decide +kernel
theorem dX4_height_10 : decode cX4_height 10 = .ok (.invokevirtual 136, 3) := by decide +kernel
theorem dX4_height_13 : decode cX4_height 13 = .ok (.lreturn, 1) := by decide +kernel
set_option maxRecDepth 20000 in
theorem ggX4_heightAnew_X4_needStation : GoodIn wsX4_heightAnew wsX4_needStation := goodIn_ca (goodIn_r _ [6, 7, 8, 9, 10, 11, 12, 13, 14, 15, 84, 85, 86, 87, 88, 89, 90, 91, 92, 93, 94, 95, 96, 97] (by decide +kernel) (by decide +kernel)) (goodIn_sub (fun _ h => List.mem_cons_of_mem _ (List.mem_append_right _ h)) (by decide +kernel))
set_option maxRecDepth 20000 in
theorem gX4_heightAnew_X4_needStation : GoodIn wsX4_heightAnew (wsV RX4 54 RX4 yX4_needStation wsX4_needStation) := goodIn_app (goodIn_of _ (by decide +kernel)) ggX4_heightAnew_X4_needStation
set_option maxRecDepth 20000 in
theorem ggX4_heightAnew_X3_heightOf : GoodIn wsX4_heightAnew wsX3_heightOf := goodIn_r _ [20, 21, 22, 23, 24, 25, 26, 27, 28, 29, 19, 30, 31, 32, 33, 34, 35, 36, 37, 38, 39, 40, 13, 41, 15, 42, 43, 44, 45, 46, 47, 48, 49, 50, 51, 52, 53, 54, 55, 56, 57, 58, 59, 60, 61, 62, 63, 64, 65, 66, 67, 68, 69, 70, 71, 72, 73, 74, 75, 76, 77, 78, 5, 79, 80, 81, 82, 83, 98, 99, 100, 101, 102, 103, 104, 105, 106, 107, 88, 89, 90, 91, 92, 93, 94, 95, 96, 97] (by decide +kernel) (by decide +kernel)
set_option maxRecDepth 20000 in
theorem gX4_heightAnew_X3_heightOf : GoodIn wsX4_heightAnew (wsV RX4 139 RX3 yX3_heightOf wsX3_heightOf) := goodIn_app (goodIn_of _ (by decide +kernel)) ggX4_heightAnew_X3_heightOf
theorem dX4_heightAnew_0 : decode cX4_heightAnew 0 = .ok (.aload_n 0, 1) := by decide +kernel
theorem dX4_heightAnew_1 : decode cX4_heightAnew 1 = .ok (.iload_n 1, 1) := by decide +kernel
theorem dX4_heightAnew_2 : decode cX4_heightAnew 2 = .ok (.invokevirtual 54, 3) := by decide +kernel
theorem dX4_heightAnew_5 : decode cX4_heightAnew 5 = .ok (.aload_n 0, 1) := by decide +kernel
theorem dX4_heightAnew_6 : decode cX4_heightAnew 6 = .ok (.getfield 28, 3) := by decide +kernel
theorem dX4_heightAnew_9 : decode cX4_heightAnew 9 = .ok (.iload_n 1, 1) := by decide +kernel
theorem dX4_heightAnew_10 : decode cX4_heightAnew 10 = .ok (.invokevirtual 139, 3) := by decide +kernel
theorem dX4_heightAnew_13 : decode cX4_heightAnew 13 = .ok (.lreturn, 1) := by decide +kernel
set_option maxRecDepth 20000 in
theorem ggX4_free_X4_needStation : GoodIn wsX4_free wsX4_needStation := goodIn_ca (goodIn_r _ [6, 7, 8, 9, 10, 11, 12, 13, 14, 15, 89, 90, 91, 92, 93, 94, 95, 96, 97, 98, 99, 100, 101, 102] (by decide +kernel) (by decide +kernel)) (goodIn_sub (fun _ h => List.mem_cons_of_mem _ (List.mem_append_right _ h)) (by decide +kernel))
set_option maxRecDepth 20000 in
theorem gX4_free_X4_needStation : GoodIn wsX4_free (wsV RX4 54 RX4 yX4_needStation wsX4_needStation) := goodIn_app (goodIn_of _ (by decide +kernel)) ggX4_free_X4_needStation
set_option maxRecDepth 20000 in
theorem ggX4_free_X0_freeHeightOf : GoodIn wsX4_free wsX0_freeHeightOf := goodIn_r _ [20, 21, 22, 23, 24, 25, 26, 27, 28, 19, 29, 30, 31, 32, 33, 34, 13, 35, 15, 36, 37, 38, 39, 40, 41, 42, 43, 44, 45, 46, 47, 48, 49, 50, 51, 52, 53, 54, 55, 56, 57, 58, 59, 60, 61, 62, 63, 64, 65, 66, 67, 68, 69, 70, 71, 72, 73, 74, 75, 76, 77, 78, 79, 80, 81, 82, 83, 5, 84, 85, 86, 87, 88, 103, 104, 105, 106, 107, 108, 93, 94, 95, 96, 97, 98, 99, 100, 101, 102] (by decide +kernel) (by decide +kernel)
set_option maxRecDepth 20000 in
theorem gX4_free_X0_freeHeightOf : GoodIn wsX4_free (wsV RX4 140 RX0 yX0_freeHeightOf wsX0_freeHeightOf) := goodIn_app (goodIn_of _ (by decide +kernel)) ggX4_free_X0_freeHeightOf
theorem dX4_free_0 : decode cX4_free 0 = .ok (.aload_n 0, 1) := by decide +kernel
theorem dX4_free_1 : decode cX4_free 1 = .ok (.iload_n 1, 1) := by decide +kernel
theorem dX4_free_2 : decode cX4_free 2 = .ok (.invokevirtual 54, 3) := by decide +kernel
theorem dX4_free_5 : decode cX4_free 5 = .ok (.aload_n 0, 1) := by decide +kernel
theorem dX4_free_6 : decode cX4_free 6 = .ok (.getfield 21, 3) := by decide +kernel
theorem dX4_free_9 : decode cX4_free 9 = .ok (.iload_n 1, 1) := by decide +kernel
theorem dX4_free_10 : decode cX4_free 10 = .ok (.invokevirtual 140, 3) := by decide +kernel
theorem dX4_free_13 : decode cX4_free 13 = .ok (.lreturn, 1) := by decide +kernel
set_option maxRecDepth 20000 in
theorem ggX4_residual_X4_needObservationInNet : GoodIn wsX4_residual wsX4_needObservationInNet := goodIn_ca (goodIn_ca (goodIn_r _ [6, 7, 8, 9, 10, 11, 12, 13, 5, 14, 15, 16, 17, 18, 19, 20, 21, 22, 101, 102, 103, 104, 105, 106, 107, 108, 109, 110, 111, 112, 113, 114] (by decide +kernel) (by decide +kernel)) (goodIn_sub (fun _ h => List.mem_cons_of_mem _ (List.mem_append_left _ (List.mem_append_right _ h))) (by decide +kernel))) (goodIn_sub (fun _ h => List.mem_cons_of_mem _ (List.mem_append_right _ h)) (by decide +kernel))
set_option maxRecDepth 20000 in
theorem gX4_residual_X4_needObservationInNet : GoodIn wsX4_residual (wsV RX4 143 RX4 yX4_needObservationInNet wsX4_needObservationInNet) := goodIn_app (goodIn_of _ (by decide +kernel)) ggX4_residual_X4_needObservationInNet
set_option maxRecDepth 20000 in
theorem ggX4_residual_X0_residualOf : GoodIn wsX4_residual wsX0_residualOf := goodIn_r _ [27, 28, 29, 30, 31, 32, 26, 33, 34, 35, 36, 37, 38, 39, 40, 41, 42, 43, 44, 45, 46, 20, 47, 48, 49, 50, 51, 52, 53, 54, 55, 56, 57, 58, 59, 60, 61, 62, 63, 64, 65, 66, 67, 68, 69, 70, 71, 72, 73, 74, 75, 76, 77, 78, 79, 80, 81, 82, 83, 84, 85, 86, 87, 88, 89, 90, 91, 92, 93, 94, 95, 5, 96, 97, 98, 99, 100, 115, 116, 117, 118, 119, 120, 105, 106, 107, 108, 109, 110, 111, 112, 113, 114] (by decide +kernel) (by decide +kernel)
set_option maxRecDepth 20000 in
theorem gX4_residual_X0_residualOf : GoodIn wsX4_residual (wsV RX4 146 RX0 yX0_residualOf wsX0_residualOf) := goodIn_app (goodIn_of _ (by decide +kernel)) ggX4_residual_X0_residualOf
theorem dX4_residual_0 : decode cX4_residual 0 = .ok (.aload_n 0, 1) := by decide +kernel
theorem dX4_residual_1 : decode cX4_residual 1 = .ok (.iload_n 1, 1) := by decide +kernel
theorem dX4_residual_2 : decode cX4_residual 2 = .ok (.invokevirtual 143, 3) := by decide +kernel
theorem dX4_residual_5 : decode cX4_residual 5 = .ok (.aload_n 0, 1) := by decide +kernel
theorem dX4_residual_6 : decode cX4_residual 6 = .ok (.getfield 21, 3) := by decide +kernel
theorem dX4_residual_9 : decode cX4_residual 9 = .ok (.iload_n 1, 1) := by decide +kernel
theorem dX4_residual_10 : decode cX4_residual 10 = .ok (.invokevirtual 146, 3) := by decide +kernel
theorem dX4_residual_13 : decode cX4_residual 13 = .ok (.lreturn, 1) := by decide +kernel
set_option maxRecDepth 20000 in
theorem ggX4_check_X4_needObservationInNet : GoodIn wsX4_check wsX4_needObservationInNet := goodIn_ca (goodIn_ca (goodIn_r _ [6, 7, 8, 9, 10, 11, 12, 13, 5, 14, 15, 16, 17, 18, 19, 20, 21, 22, 101, 102, 103, 104, 105, 106, 107, 108, 109, 110, 111, 112, 113, 114] (by decide +kernel) (by decide +kernel)) (goodIn_sub (fun _ h => List.mem_cons_of_mem _ (List.mem_append_left _ (List.mem_append_right _ h))) (by decide +kernel))) (goodIn_sub (fun _ h => List.mem_cons_of_mem _ (List.mem_append_right _ h)) (by decide +kernel))
set_option maxRecDepth 20000 in
theorem gX4_check_X4_needObservationInNet : GoodIn wsX4_check (wsV RX4 143 RX4 yX4_needObservationInNet wsX4_needObservationInNet) := goodIn_app (goodIn_of _ (by decide +kernel)) ggX4_check_X4_needObservationInNet
set_option maxRecDepth 20000 in
theorem ggX4_check_X0_checkOf : GoodIn wsX4_check wsX0_checkOf := goodIn_r _ [27, 28, 29, 30, 31, 32, 26, 33, 34, 35, 36, 37, 38, 39, 40, 41, 42, 43, 20, 44, 45, 46, 47, 48, 49, 50, 51, 52, 53, 54, 55, 56, 57, 58, 59, 60, 61, 62, 63, 64, 65, 66, 67, 68, 69, 70, 71, 72, 73, 74, 75, 76, 77, 78, 79, 80, 81, 82, 83, 84, 85, 86, 87, 88, 89, 90, 91, 92, 93, 94, 95, 5, 96, 97, 98, 99, 100, 115, 116, 117, 118, 119, 120, 105, 106, 107, 108, 109, 110, 111, 112, 113, 114] (by decide +kernel) (by decide +kernel)
set_option maxRecDepth 20000 in
theorem gX4_check_X0_checkOf : GoodIn wsX4_check (wsV RX4 149 RX0 yX0_checkOf wsX0_checkOf) := goodIn_app (goodIn_of _ (by decide +kernel)) ggX4_check_X0_checkOf
theorem dX4_check_0 : decode cX4_check 0 = .ok (.aload_n 0, 1) := by decide +kernel
theorem dX4_check_1 : decode cX4_check 1 = .ok (.iload_n 1, 1) := by decide +kernel
theorem dX4_check_2 : decode cX4_check 2 = .ok (.invokevirtual 143, 3) := by decide +kernel
theorem dX4_check_5 : decode cX4_check 5 = .ok (.aload_n 0, 1) := by decide +kernel
theorem dX4_check_6 : decode cX4_check 6 = .ok (.getfield 21, 3) := by decide +kernel
theorem dX4_check_9 : decode cX4_check 9 = .ok (.iload_n 1, 1) := by decide +kernel
theorem dX4_check_10 : decode cX4_check 10 = .ok (.invokevirtual 149, 3) := by decide +kernel
theorem dX4_check_13 : decode cX4_check 13 = .ok (.ireturn, 1) := by decide +kernel
set_option maxRecDepth 20000 in
theorem ggX4_checkAnew_X4_needObservationInNet : GoodIn wsX4_checkAnew wsX4_needObservationInNet := goodIn_ca (goodIn_ca (goodIn_r _ [6, 7, 8, 9, 10, 11, 12, 13, 5, 14, 15, 16, 17, 18, 19, 20, 21, 22, 91, 92, 93, 94, 95, 96, 97, 98, 99, 100, 101, 102, 103, 104] (by decide +kernel) (by decide +kernel)) (goodIn_sub (fun _ h => List.mem_cons_of_mem _ (List.mem_append_left _ (List.mem_append_right _ h))) (by decide +kernel))) (goodIn_sub (fun _ h => List.mem_cons_of_mem _ (List.mem_append_right _ h)) (by decide +kernel))
set_option maxRecDepth 20000 in
theorem gX4_checkAnew_X4_needObservationInNet : GoodIn wsX4_checkAnew (wsV RX4 143 RX4 yX4_needObservationInNet wsX4_needObservationInNet) := goodIn_app (goodIn_of _ (by decide +kernel)) ggX4_checkAnew_X4_needObservationInNet
set_option maxRecDepth 20000 in
theorem ggX4_checkAnew_X3_checkOf : GoodIn wsX4_checkAnew wsX3_checkOf := goodIn_r _ [27, 28, 29, 30, 31, 32, 33, 34, 35, 26, 36, 37, 38, 39, 40, 41, 42, 43, 44, 45, 46, 47, 20, 48, 49, 50, 51, 52, 53, 54, 55, 56, 57, 58, 59, 60, 61, 62, 63, 64, 65, 66, 67, 68, 69, 70, 71, 72, 73, 74, 75, 76, 77, 78, 79, 80, 81, 82, 83, 84, 85, 5, 86, 87, 88, 89, 90, 105, 106, 107, 108, 109, 110, 111, 112, 113, 114, 95, 96, 97, 98, 99, 100, 101, 102, 103, 104] (by decide +kernel) (by decide +kernel)
set_option maxRecDepth 20000 in
theorem gX4_checkAnew_X3_checkOf : GoodIn wsX4_checkAnew (wsV RX4 152 RX3 yX3_checkOf wsX3_checkOf) := goodIn_app (goodIn_of _ (by decide +kernel)) ggX4_checkAnew_X3_checkOf
theorem dX4_checkAnew_0 : decode cX4_checkAnew 0 = .ok (.aload_n 0, 1) := by decide +kernel
theorem dX4_checkAnew_1 : decode cX4_checkAnew 1 = .ok (.iload_n 1, 1) := by decide +kernel
theorem dX4_checkAnew_2 : decode cX4_checkAnew 2 = .ok (.invokevirtual 143, 3) := by decide +kernel
theorem dX4_checkAnew_5 : decode cX4_checkAnew 5 = .ok (.aload_n 0, 1) := by decide +kernel
theorem dX4_checkAnew_6 : decode cX4_checkAnew 6 = .ok (.getfield 28, 3) := by decide +kernel
theorem dX4_checkAnew_9 : decode cX4_checkAnew 9 = .ok (.iload_n 1, 1) := by decide +kernel
theorem dX4_checkAnew_10 : decode cX4_checkAnew 10 = .ok (.invokevirtual 152, 3) := by decide +kernel
theorem dX4_checkAnew_13 : decode cX4_checkAnew 13 = .ok (.ireturn, 1) := by decide +kernel
set_option maxRecDepth 20000 in
theorem ggX4_score_X4_needObservationInNet : GoodIn wsX4_score wsX4_needObservationInNet := goodIn_ca (goodIn_ca (goodIn_r _ [6, 7, 8, 9, 10, 11, 12, 13, 5, 14, 15, 16, 17, 18, 19, 20, 21, 22, 110, 111, 112, 113, 114, 115, 116, 117, 118, 119, 120, 121, 122, 123] (by decide +kernel) (by decide +kernel)) (goodIn_sub (fun _ h => List.mem_cons_of_mem _ (List.mem_append_left _ (List.mem_append_right _ h))) (by decide +kernel))) (goodIn_sub (fun _ h => List.mem_cons_of_mem _ (List.mem_append_right _ h)) (by decide +kernel))
set_option maxRecDepth 20000 in
theorem gX4_score_X4_needObservationInNet : GoodIn wsX4_score (wsV RX4 143 RX4 yX4_needObservationInNet wsX4_needObservationInNet) := goodIn_app (goodIn_of _ (by decide +kernel)) ggX4_score_X4_needObservationInNet
set_option maxRecDepth 20000 in
theorem ggX4_score_X0_scoreOf : GoodIn wsX4_score wsX0_scoreOf := goodIn_r _ [27, 28, 29, 30, 31, 32, 33, 34, 35, 36, 37, 38, 26, 39, 40, 41, 42, 43, 44, 45, 46, 47, 48, 49, 50, 51, 20, 52, 53, 54, 55, 56, 57, 58, 59, 60, 61, 62, 63, 64, 65, 66, 67, 68, 69, 70, 71, 72, 73, 74, 75, 76, 77, 78, 79, 80, 81, 82, 83, 84, 85, 86, 87, 88, 89, 90, 91, 92, 93, 94, 95, 96, 97, 98, 99, 5, 100, 101, 102, 103, 104, 105, 106, 107, 108, 109, 124, 125, 126, 127, 128, 129, 114, 115, 116, 117, 118, 119, 120, 121, 122, 123] (by decide +kernel) (by decide +kernel)
set_option maxRecDepth 20000 in
theorem gX4_score_X0_scoreOf : GoodIn wsX4_score (wsV RX4 99 RX0 yX0_scoreOf wsX0_scoreOf) := goodIn_app (goodIn_of _ (by decide +kernel)) ggX4_score_X0_scoreOf
theorem dX4_score_0 : decode cX4_score 0 = .ok (.aload_n 0, 1) := by decide +kernel
theorem dX4_score_1 : decode cX4_score 1 = .ok (.iload_n 1, 1) := by decide +kernel
theorem dX4_score_2 : decode cX4_score 2 = .ok (.invokevirtual 143, 3) := by decide +kernel
theorem dX4_score_5 : decode cX4_score 5 = .ok (.aload_n 0, 1) := by decide +kernel
theorem dX4_score_6 : decode cX4_score 6 = .ok (.getfield 21, 3) := by decide +kernel
theorem dX4_score_9 : decode cX4_score 9 = .ok (.iload_n 1, 1) := by decide +kernel
theorem dX4_score_10 : decode cX4_score 10 = .ok (.invokevirtual 99, 3) := by decide +kernel
theorem dX4_score_13 : decode cX4_score 13 = .ok (.lreturn, 1) := by decide +kernel
set_option maxRecDepth 20000 in
theorem ggX4_worst_X0_worstObservation : GoodIn wsX4_worst wsX0_worstObservation := goodIn_r _ [6, 7, 8, 9, 10, 11, 12, 5, 13, 14, 15, 16, 17, 18, 19, 20, 21, 22, 23, 24, 25, 26, 27, 28, 29, 30, 31, 32, 33, 34, 35, 36, 37, 38, 39, 40, 41, 42, 43, 44, 45, 46, 47, 48, 49, 50, 51, 52, 53, 54, 55, 56, 57, 58, 59, 60, 61, 62, 63, 64, 65, 66, 67, 68, 69, 70, 71, 72, 73, 74, 75, 76, 77, 78, 79, 80, 81, 82, 83, 84, 85, 86, 87, 88, 89, 90, 91, 92, 93, 94, 95, 100, 101, 102, 103, 104, 105, 106, 107, 108, 109, 110, 111, 112, 113, 114, 115] (by decide +kernel) (by decide +kernel)
set_option maxRecDepth 20000 in
theorem gX4_worst_X0_worstObservation : GoodIn wsX4_worst (wsV RX4 96 RX0 yX0_worstObservation wsX0_worstObservation) := goodIn_app (goodIn_of _ (by decide +kernel)) ggX4_worst_X0_worstObservation
theorem dX4_worst_0 : decode cX4_worst 0 = .ok (.aload_n 0, 1) := by decide +kernel
theorem dX4_worst_1 : decode cX4_worst 1 = .ok (.getfield 21, 3) := by decide +kernel
theorem dX4_worst_4 : decode cX4_worst 4 = .ok (.invokevirtual 96, 3) := by decide +kernel
theorem dX4_worst_7 : decode cX4_worst 7 = .ok (.ireturn, 1) := by decide +kernel
set_option maxRecDepth 20000 in
theorem ggX4_trees_X4_needStation : GoodIn wsX4_trees wsX4_needStation := goodIn_ca (goodIn_r _ [6, 7, 8, 9, 10, 11, 12, 13, 14, 15, 78, 79, 80, 81, 82, 83, 84, 85, 86, 87, 88, 89, 90, 91] (by decide +kernel) (by decide +kernel)) (goodIn_sub (fun _ h => List.mem_cons_of_mem _ (List.mem_append_right _ h)) (by decide +kernel))
set_option maxRecDepth 20000 in
theorem gX4_trees_X4_needStation : GoodIn wsX4_trees (wsV RX4 54 RX4 yX4_needStation wsX4_needStation) := goodIn_app (goodIn_of _ (by decide +kernel)) ggX4_trees_X4_needStation
set_option maxRecDepth 20000 in
theorem ggX4_trees_X0_treeWeightOf : GoodIn wsX4_trees wsX0_treeWeightOf := goodIn_r _ [20, 21, 22, 23, 24, 19, 25, 26, 27, 28, 29, 30, 31, 13, 32, 15, 33, 34, 35, 36, 37, 38, 39, 40, 41, 42, 43, 44, 45, 46, 47, 48, 49, 50, 51, 52, 53, 54, 55, 56, 57, 58, 59, 60, 61, 62, 63, 64, 65, 66, 67, 68, 69, 70, 71, 72, 73, 74, 75, 76, 77, 92, 93, 94, 95, 96, 97, 82, 83, 84, 85, 86, 87, 88, 89, 90, 91] (by decide +kernel) (by decide +kernel)
set_option maxRecDepth 20000 in
theorem gX4_trees_X0_treeWeightOf : GoodIn wsX4_trees (wsV RX4 153 RX0 yX0_treeWeightOf wsX0_treeWeightOf) := goodIn_app (goodIn_of _ (by decide +kernel)) ggX4_trees_X0_treeWeightOf
theorem dX4_trees_0 : decode cX4_trees 0 = .ok (.aload_n 0, 1) := by decide +kernel
theorem dX4_trees_1 : decode cX4_trees 1 = .ok (.iload_n 1, 1) := by decide +kernel
theorem dX4_trees_2 : decode cX4_trees 2 = .ok (.invokevirtual 54, 3) := by decide +kernel
theorem dX4_trees_5 : decode cX4_trees 5 = .ok (.aload_n 0, 1) := by decide +kernel
theorem dX4_trees_6 : decode cX4_trees 6 = .ok (.getfield 21, 3) := by decide +kernel
theorem dX4_trees_9 : decode cX4_trees 9 = .ok (.iload_n 1, 1) := by decide +kernel
theorem dX4_trees_10 : decode cX4_trees 10 = .ok (.invokevirtual 153, 3) := by decide +kernel
theorem dX4_trees_13 : decode cX4_trees 13 = .ok (.lreturn, 1) := by decide +kernel
set_option maxRecDepth 20000 in
theorem ggX4_parts_X1_countParts : GoodIn wsX4_parts wsX1_countParts := goodIn_r _ [6, 7, 8, 13, 14, 15, 16, 17, 18, 19, 20, 21, 22] (by decide +kernel) (by decide +kernel)
set_option maxRecDepth 20000 in
theorem gX4_parts_X1_countParts : GoodIn wsX4_parts (wsV RX4 156 RX1 yX1_countParts wsX1_countParts) := goodIn_app (goodIn_of _ (by decide +kernel)) ggX4_parts_X1_countParts
theorem dX4_parts_0 : decode cX4_parts 0 = .ok (.aload_n 0, 1) := by decide +kernel
theorem dX4_parts_1 : decode cX4_parts 1 = .ok (.getfield 10, 3) := by decide +kernel
theorem dX4_parts_4 : decode cX4_parts 4 = .ok (.invokevirtual 156, 3) := by decide +kernel
theorem dX4_parts_7 : decode cX4_parts 7 = .ok (.ireturn, 1) := by decide +kernel
set_option maxRecDepth 20000 in
theorem ggX4_needStation_X1_hasStation : GoodIn wsX4_needStation wsX1_hasStation := goodIn_r _ [8, 9, 14, 15, 16, 17, 18, 19, 20, 21, 22, 23] (by decide +kernel) (by decide +kernel)
set_option maxRecDepth 20000 in
theorem gX4_needStation_X1_hasStation : GoodIn wsX4_needStation (wsV RX4 159 RX1 yX1_hasStation wsX1_hasStation) := goodIn_app (goodIn_of _ (by decide +kernel)) ggX4_needStation_X1_hasStation
theorem dX4_needStation_0 : decode cX4_needStation 0 = .ok (.aload_n 0, 1) := by decide +kernel
theorem dX4_needStation_1 : decode cX4_needStation 1 = .ok (.getfield 10, 3) := by decide +kernel
theorem dX4_needStation_4 : decode cX4_needStation 4 = .ok (.iload_n 1, 1) := by decide +kernel
theorem dX4_needStation_5 : decode cX4_needStation 5 = .ok (.invokevirtual 159, 3) := by decide +kernel
theorem dX4_needStation_8 : decode cX4_needStation 8 = .ok (.ifCond .ne 13, 3) := by decide +kernel
theorem dX4_needStation_11 : decode cX4_needStation 11 = .ok (.new 163, 3) := by decide +kernel
theorem dX4_needStation_14 : decode cX4_needStation 14 = .ok (.dup, 1) := by decide +kernel
theorem dX4_needStation_15 : decode cX4_needStation 15 = .ok (.ldc 165, 2) := by decide +kernel
theorem dX4_needStation_17 : decode cX4_needStation 17 = .ok (.invokespecial 167, 3) := by decide +kernel
theorem dX4_needStation_20 : decode cX4_needStation 20 = .ok (.athrow, 1) := by decide +kernel
theorem dX4_needStation_21 : decode cX4_needStation 21 = .ok (.return_, 1) := by decide +kernel
set_option maxRecDepth 20000 in
theorem ggX4_needObservation_X1_hasObservation : GoodIn wsX4_needObservation wsX1_hasObservation := goodIn_r _ [8, 9, 14, 15, 16, 17, 18, 19, 20, 21, 22, 23] (by decide +kernel) (by decide +kernel)
set_option maxRecDepth 20000 in
theorem gX4_needObservation_X1_hasObservation : GoodIn wsX4_needObservation (wsV RX4 168 RX1 yX1_hasObservation wsX1_hasObservation) := goodIn_app (goodIn_of _ (by decide +kernel)) ggX4_needObservation_X1_hasObservation
theorem dX4_needObservation_0 : decode cX4_needObservation 0 = .ok (.aload_n 0, 1) := by decide +kernel
theorem dX4_needObservation_1 : decode cX4_needObservation 1 = .ok (.getfield 10, 3) := by decide +kernel
theorem dX4_needObservation_4 : decode cX4_needObservation 4 = .ok (.iload_n 1, 1) := by decide +kernel
theorem dX4_needObservation_5 : decode cX4_needObservation 5 = .ok (.invokevirtual 168, 3) := by decide +kernel
theorem dX4_needObservation_8 : decode cX4_needObservation 8 = .ok (.ifCond .ne 13, 3) := by decide +kernel
theorem dX4_needObservation_11 : decode cX4_needObservation 11 = .ok (.new 163, 3) := by decide +kernel
theorem dX4_needObservation_14 : decode cX4_needObservation 14 = .ok (.dup, 1) := by decide +kernel
theorem dX4_needObservation_15 : decode cX4_needObservation 15 = .ok (.ldc 171, 2) := by decide +kernel
theorem dX4_needObservation_17 : decode cX4_needObservation 17 = .ok (.invokespecial 167, 3) := by decide +kernel
theorem dX4_needObservation_20 : decode cX4_needObservation 20 = .ok (.athrow, 1) := by decide +kernel
theorem dX4_needObservation_21 : decode cX4_needObservation 21 = .ok (.return_, 1) := by decide +kernel
set_option maxRecDepth 20000 in
theorem ggX4_needObservationInNet_X4_needObservation : GoodIn wsX4_needObservationInNet wsX4_needObservation := goodIn_ca (goodIn_r _ [9, 10, 11, 3, 12, 13, 14, 15, 16, 17, 18, 19, 20, 21, 22, 23, 24, 25, 26, 27, 28, 29, 30, 31] (by decide +kernel) (by decide +kernel)) (goodIn_sub (fun _ h => List.mem_cons_of_mem _ (List.mem_append_right _ h)) (by decide +kernel))
set_option maxRecDepth 20000 in
theorem gX4_needObservationInNet_X4_needObservation : GoodIn wsX4_needObservationInNet (wsV RX4 86 RX4 yX4_needObservation wsX4_needObservation) := goodIn_app (goodIn_of _ (by decide +kernel)) ggX4_needObservationInNet_X4_needObservation
theorem dX4_needObservationInNet_0 : decode cX4_needObservationInNet 0 = .ok (.aload_n 0, 1) := by decide +kernel
theorem dX4_needObservationInNet_1 : decode cX4_needObservationInNet 1 = .ok (.iload_n 1, 1) := by decide +kernel
theorem dX4_needObservationInNet_2 : decode cX4_needObservationInNet 2 = .ok (.invokevirtual 86, 3) := by decide +kernel
theorem dX4_needObservationInNet_5 : decode cX4_needObservationInNet 5 = .ok (.aload_n 0, 1) := by decide +kernel
theorem dX4_needObservationInNet_6 : decode cX4_needObservationInNet 6 = .ok (.getfield 10, 3) := by decide +kernel
theorem dX4_needObservationInNet_9 : decode cX4_needObservationInNet 9 = .ok (.getfield 173, 3) := by decide +kernel
theorem dX4_needObservationInNet_12 : decode cX4_needObservationInNet 12 = .ok (.iload_n 1, 1) := by decide +kernel
theorem dX4_needObservationInNet_13 : decode cX4_needObservationInNet 13 = .ok (.baload, 1) := by decide +kernel
theorem dX4_needObservationInNet_14 : decode cX4_needObservationInNet 14 = .ok (.ifCond .eq 13, 3) := by decide +kernel
theorem dX4_needObservationInNet_17 : decode cX4_needObservationInNet 17 = .ok (.new 43, 3) := by decide +kernel
theorem dX4_needObservationInNet_20 : decode cX4_needObservationInNet 20 = .ok (.dup, 1) := by decide +kernel
theorem dX4_needObservationInNet_21 : decode cX4_needObservationInNet 21 = .ok (.ldc 177, 2) := by decide +kernel
theorem dX4_needObservationInNet_23 : decode cX4_needObservationInNet 23 = .ok (.invokespecial 47, 3) := by decide +kernel
theorem dX4_needObservationInNet_26 : decode cX4_needObservationInNet 26 = .ok (.athrow, 1) := by decide +kernel
theorem dX4_needObservationInNet_27 : decode cX4_needObservationInNet 27 = .ok (.return_, 1) := by decide +kernel
theorem dX4_isBeyond_0 : decode cX4_isBeyond 0 = .ok (.iload_n 0, 1) := by decide +kernel
theorem dX4_isBeyond_1 : decode cX4_isBeyond 1 = .ok (.iload_n 1, 1) := by decide +kernel
theorem dX4_isBeyond_2 : decode cX4_isBeyond 2 = .ok (.if_icmp .lt 8, 3) := by decide +kernel
theorem dX4_isBeyond_5 : decode cX4_isBeyond 5 = .ok (.iload_n 0, 1) := by decide +kernel
theorem dX4_isBeyond_6 : decode cX4_isBeyond 6 = .ok (.iload_n 2, 1) := by decide +kernel
theorem dX4_isBeyond_7 : decode cX4_isBeyond 7 = .ok (.if_icmp .le 7, 3) := by decide +kernel
theorem dX4_isBeyond_10 : decode cX4_isBeyond 10 = .ok (.iconst 1, 1) := by decide +kernel
theorem dX4_isBeyond_11 : decode cX4_isBeyond 11 = .ok (.goto 4, 3) := by decide +kernel
theorem dX4_isBeyond_14 : decode cX4_isBeyond 14 = .ok (.iconst 0, 1) := by decide +kernel
theorem dX4_isBeyond_15 : decode cX4_isBeyond 15 = .ok (.ireturn, 1) := by decide +kernel
set_option maxRecDepth 20000 in
theorem ggX4_roundedDown_J9_floorDiv_f86c9 : GoodIn wsX4_roundedDown wsJ9_floorDiv_f86c9 := goodIn_r _ [4] (by decide +kernel) (by decide +kernel)
set_option maxRecDepth 20000 in
theorem gX4_roundedDown_J9_floorDiv_f86c9 : GoodIn wsX4_roundedDown (va_wsS RX4 179 yJ9_floorDiv_f86c9 wsJ9_floorDiv_f86c9) := goodIn_app (goodIn_of _ (by decide +kernel)) ggX4_roundedDown_J9_floorDiv_f86c9
theorem dX4_roundedDown_0 : decode cX4_roundedDown 0 = .ok (.lload_n 2, 1) := by decide +kernel
theorem dX4_roundedDown_1 : decode cX4_roundedDown 1 = .ok (.lconst 0, 1) := by decide +kernel
theorem dX4_roundedDown_2 : decode cX4_roundedDown 2 = .ok (.lcmp, 1) := by decide +kernel
theorem dX4_roundedDown_3 : decode cX4_roundedDown 3 = .ok (.ifCond .ne 7, 3) := by decide +kernel
theorem dX4_roundedDown_6 : decode cX4_roundedDown 6 = .ok (.lconst 0, 1) := by decide +kernel
theorem dX4_roundedDown_7 : decode cX4_roundedDown 7 = .ok (.goto 8, 3) := by decide +kernel
theorem dX4_roundedDown_10 : decode cX4_roundedDown 10 = .ok (.lload_n 0, 1) := by decide +kernel
theorem dX4_roundedDown_11 : decode cX4_roundedDown 11 = .ok (.lload_n 2, 1) := by decide +kernel
theorem dX4_roundedDown_12 : decode cX4_roundedDown 12 = .ok (.invokestatic 179, 3) := by decide +kernel
theorem dX4_roundedDown_15 : decode cX4_roundedDown 15 = .ok (.lreturn, 1) := by decide +kernel
theorem dX5_init_0 : decode cX5_init 0 = .ok (.aload_n 0, 1) := by decide +kernel
theorem dX5_init_1 : decode cX5_init 1 = .ok (.invokespecial 1, 3) := by decide +kernel
theorem dX5_init_4 : decode cX5_init 4 = .ok (.aload_n 0, 1) := by decide +kernel
theorem dX5_init_5 : decode cX5_init 5 = .ok (.bipush 6, 2) := by decide +kernel
theorem dX5_init_7 : decode cX5_init 7 = .ok (.newarray .boolean, 2) := by decide +kernel
theorem dX5_init_9 : decode cX5_init 9 = .ok (.putfield 7, 3) := by decide +kernel
theorem dX5_init_12 : decode cX5_init 12 = .ok (.aload_n 0, 1) := by decide +kernel
theorem dX5_init_13 : decode cX5_init 13 = .ok (.bipush 6, 2) := by decide +kernel
theorem dX5_init_15 : decode cX5_init 15 = .ok (.newarray .int, 2) := by decide +kernel
theorem dX5_init_17 : decode cX5_init 17 = .ok (.putfield 13, 3) := by decide +kernel
theorem dX5_init_20 : decode cX5_init 20 = .ok (.aload_n 0, 1) := by decide +kernel
theorem dX5_init_21 : decode cX5_init 21 = .ok (.bipush 14, 2) := by decide +kernel
theorem dX5_init_23 : decode cX5_init 23 = .ok (.newarray .int, 2) := by decide +kernel
theorem dX5_init_25 : decode cX5_init 25 = .ok (.putfield 17, 3) := by decide +kernel
theorem dX5_init_28 : decode cX5_init 28 = .ok (.aload_n 0, 1) := by decide +kernel
theorem dX5_init_29 : decode cX5_init 29 = .ok (.bipush 14, 2) := by decide +kernel
theorem dX5_init_31 : decode cX5_init 31 = .ok (.newarray .int, 2) := by decide +kernel
theorem dX5_init_33 : decode cX5_init 33 = .ok (.putfield 20, 3) := by decide +kernel
theorem dX5_init_36 : decode cX5_init 36 = .ok (.aload_n 0, 1) := by decide +kernel
theorem dX5_init_37 : decode cX5_init 37 = .ok (.bipush 14, 2) := by decide +kernel
theorem dX5_init_39 : decode cX5_init 39 = .ok (.newarray .int, 2) := by decide +kernel
theorem dX5_init_41 : decode cX5_init 41 = .ok (.putfield 23, 3) := by decide +kernel
theorem dX5_init_44 : decode cX5_init 44 = .ok (.aload_n 0, 1) := by decide +kernel
theorem dX5_init_45 : decode cX5_init 45 = .ok (.bipush 14, 2) := by decide +kernel
theorem dX5_init_47 : decode cX5_init 47 = .ok (.newarray .int, 2) := by decide +kernel
theorem dX5_init_49 : decode cX5_init 49 = .ok (.putfield 26, 3) := by decide +kernel
theorem dX5_init_52 : decode cX5_init 52 = .ok (.aload_n 0, 1) := by decide +kernel
theorem dX5_init_53 : decode cX5_init 53 = .ok (.bipush 14, 2) := by decide +kernel
theorem dX5_init_55 : decode cX5_init 55 = .ok (.newarray .boolean, 2) := by decide +kernel
theorem dX5_init_57 : decode cX5_init 57 = .ok (.putfield 29, 3) := by decide +kernel
theorem dX5_init_60 : decode cX5_init 60 = .ok (.aload_n 0, 1) := by decide +kernel
theorem dX5_init_61 : decode cX5_init 61 = .ok (.bipush 10, 2) := by decide +kernel
theorem dX5_init_63 : decode cX5_init 63 = .ok (.newarray .int, 2) := by decide +kernel
theorem dX5_init_65 : decode cX5_init 65 = .ok (.putfield 32, 3) := by decide +kernel
theorem dX5_init_68 : decode cX5_init 68 = .ok (.aload_n 0, 1) := by decide +kernel
theorem dX5_init_69 : decode cX5_init 69 = .ok (.bipush 6, 2) := by decide +kernel
theorem dX5_init_71 : decode cX5_init 71 = .ok (.newarray .boolean, 2) := by decide +kernel
theorem dX5_init_73 : decode cX5_init 73 = .ok (.putfield 35, 3) := by decide +kernel
theorem dX5_init_76 : decode cX5_init 76 = .ok (.aload_n 0, 1) := by decide +kernel
theorem dX5_init_77 : decode cX5_init 77 = .ok (.bipush 42, 2) := by decide +kernel
theorem dX5_init_79 : decode cX5_init 79 = .ok (.newarray .long, 2) := by decide +kernel
theorem dX5_init_81 : decode cX5_init 81 = .ok (.putfield 38, 3) := by decide +kernel
theorem dX5_init_84 : decode cX5_init 84 = .ok (.aload_n 0, 1) := by decide +kernel
theorem dX5_init_85 : decode cX5_init 85 = .ok (.bipush 6, 2) := by decide +kernel
theorem dX5_init_87 : decode cX5_init 87 = .ok (.newarray .long, 2) := by decide +kernel
theorem dX5_init_89 : decode cX5_init 89 = .ok (.putfield 42, 3) := by decide +kernel
theorem dX5_init_92 : decode cX5_init 92 = .ok (.aload_n 0, 1) := by decide +kernel
theorem dX5_init_93 : decode cX5_init 93 = .ok (.iconst 0, 1) := by decide +kernel
theorem dX5_init_94 : decode cX5_init 94 = .ok (.putfield 45, 3) := by decide +kernel
theorem dX5_init_97 : decode cX5_init 97 = .ok (.return_, 1) := by decide +kernel
theorem dX5_thrown_0 : decode cX5_thrown 0 = .ok (.aload_n 0, 1) := by decide +kernel
theorem dX5_thrown_1 : decode cX5_thrown 1 = .ok (.getfield 49, 3) := by decide +kernel
theorem dX5_thrown_4 : decode cX5_thrown 4 = .ok (.ireturn, 1) := by decide +kernel
theorem dX5_goes_0 : decode cX5_goes 0 = .ok (.aload_n 0, 1) := by decide +kernel
theorem dX5_goes_1 : decode cX5_goes 1 = .ok (.iload_n 1, 1) := by decide +kernel
theorem dX5_goes_2 : decode cX5_goes 2 = .ok (.putfield 49, 3) := by decide +kernel
theorem dX5_goes_5 : decode cX5_goes 5 = .ok (.iload_n 1, 1) := by decide +kernel
theorem dX5_goes_6 : decode cX5_goes 6 = .ok (.ifCond .ne 7, 3) := by decide +kernel
theorem dX5_goes_9 : decode cX5_goes 9 = .ok (.iconst 1, 1) := by decide +kernel
theorem dX5_goes_10 : decode cX5_goes 10 = .ok (.goto 4, 3) := by decide +kernel
theorem dX5_goes_13 : decode cX5_goes 13 = .ok (.iconst 0, 1) := by decide +kernel
theorem dX5_goes_14 : decode cX5_goes 14 = .ok (.ireturn, 1) := by decide +kernel
theorem dX5_isBetween_0 : decode cX5_isBetween 0 = .ok (.iload_n 0, 1) := by decide +kernel
theorem dX5_isBetween_1 : decode cX5_isBetween 1 = .ok (.iload_n 1, 1) := by decide +kernel
theorem dX5_isBetween_2 : decode cX5_isBetween 2 = .ok (.if_icmp .lt 12, 3) := by decide +kernel
theorem dX5_isBetween_5 : decode cX5_isBetween 5 = .ok (.iload_n 0, 1) := by decide +kernel
theorem dX5_isBetween_6 : decode cX5_isBetween 6 = .ok (.iload_n 2, 1) := by decide +kernel
theorem dX5_isBetween_7 : decode cX5_isBetween 7 = .ok (.if_icmp .gt 7, 3) := by decide +kernel
theorem dX5_isBetween_10 : decode cX5_isBetween 10 = .ok (.iconst 1, 1) := by decide +kernel
theorem dX5_isBetween_11 : decode cX5_isBetween 11 = .ok (.goto 4, 3) := by decide +kernel
theorem dX5_isBetween_14 : decode cX5_isBetween 14 = .ok (.iconst 0, 1) := by decide +kernel
theorem dX5_isBetween_15 : decode cX5_isBetween 15 = .ok (.ireturn, 1) := by decide +kernel
set_option maxRecDepth 20000 in
theorem ggX5_isStation_X5_isBetween : GoodIn wsX5_isStation wsX5_isBetween := goodIn_r _ [5] (by decide +kernel) (by decide +kernel)
set_option maxRecDepth 20000 in
theorem gX5_isStation_X5_isBetween : GoodIn wsX5_isStation (va_wsS RX5 55 yX5_isBetween wsX5_isBetween) := goodIn_app (goodIn_of _ (by decide +kernel)) ggX5_isStation_X5_isBetween
theorem dX5_isStation_0 : decode cX5_isStation 0 = .ok (.iload_n 1, 1) := by decide +kernel
theorem dX5_isStation_1 : decode cX5_isStation 1 = .ok (.iconst 0, 1) := by decide +kernel
theorem dX5_isStation_2 : decode cX5_isStation 2 = .ok (.aload_n 0, 1) := by decide +kernel
theorem dX5_isStation_3 : decode cX5_isStation 3 = .ok (.getfield 52, 3) := by decide +kernel
theorem dX5_isStation_6 : decode cX5_isStation 6 = .ok (.iconst 1, 1) := by decide +kernel
theorem dX5_isStation_7 : decode cX5_isStation 7 = .ok (.isub, 1) := by decide +kernel
theorem dX5_isStation_8 : decode cX5_isStation 8 = .ok (.invokestatic 55, 3) := by decide +kernel
theorem dX5_isStation_11 : decode cX5_isStation 11 = .ok (.ireturn, 1) := by decide +kernel
set_option maxRecDepth 20000 in
theorem ggX5_isObservation_X5_isBetween : GoodIn wsX5_isObservation wsX5_isBetween := goodIn_r _ [5] (by decide +kernel) (by decide +kernel)
set_option maxRecDepth 20000 in
theorem gX5_isObservation_X5_isBetween : GoodIn wsX5_isObservation (va_wsS RX5 55 yX5_isBetween wsX5_isBetween) := goodIn_app (goodIn_of _ (by decide +kernel)) ggX5_isObservation_X5_isBetween
theorem dX5_isObservation_0 : decode cX5_isObservation 0 = .ok (.iload_n 1, 1) := by decide +kernel
theorem dX5_isObservation_1 : decode cX5_isObservation 1 = .ok (.iconst 0, 1) := by decide +kernel
theorem dX5_isObservation_2 : decode cX5_isObservation 2 = .ok (.aload_n 0, 1) := by decide +kernel
theorem dX5_isObservation_3 : decode cX5_isObservation 3 = .ok (.getfield 59, 3) := by decide +kernel
theorem dX5_isObservation_6 : decode cX5_isObservation 6 = .ok (.iconst 1, 1) := by decide +kernel
theorem dX5_isObservation_7 : decode cX5_isObservation 7 = .ok (.isub, 1) := by decide +kernel
theorem dX5_isObservation_8 : decode cX5_isObservation 8 = .ok (.invokestatic 55, 3) := by decide +kernel
theorem dX5_isObservation_11 : decode cX5_isObservation 11 = .ok (.ireturn, 1) := by decide +kernel
set_option maxRecDepth 20000 in
theorem ggX5_station_X5_goes : GoodIn wsX5_station wsX5_goes := goodIn_r _ [6, 7, 8, 9, 10, 11, 12, 13, 14, 15, 16, 17, 18, 19, 20, 21, 22, 23, 24, 25] (by decide +kernel) (by decide +kernel)
set_option maxRecDepth 20000 in
theorem gX5_station_X5_goes : GoodIn wsX5_station (wsV RX5 62 RX5 yX5_goes wsX5_goes) := goodIn_app (goodIn_of _ (by decide +kernel)) ggX5_station_X5_goes
theorem dX5_station_0 : decode cX5_station 0 = .ok (.aload_n 0, 1) := by decide +kernel
theorem dX5_station_1 : decode cX5_station 1 = .ok (.aload_n 0, 1) := by decide +kernel
theorem dX5_station_2 : decode cX5_station 2 = .ok (.getfield 52, 3) := by decide +kernel
theorem dX5_station_5 : decode cX5_station 5 = .ok (.bipush 6, 2) := by decide +kernel
theorem dX5_station_7 : decode cX5_station 7 = .ok (.if_icmp .ne 7, 3) := by decide +kernel
theorem dX5_station_10 : decode cX5_station 10 = .ok (.iconst 1, 1) := by decide +kernel
theorem dX5_station_11 : decode cX5_station 11 = .ok (.goto 4, 3) := by decide +kernel
theorem dX5_station_14 : decode cX5_station 14 = .ok (.iconst 0, 1) := by decide +kernel
theorem dX5_station_15 : decode cX5_station 15 = .ok (.invokevirtual 62, 3) := by decide +kernel
theorem dX5_station_18 : decode cX5_station 18 = .ok (.ifCond .ne 5, 3) := by decide +kernel
theorem dX5_station_21 : decode cX5_station 21 = .ok (.iconst 0, 1) := by decide +kernel
theorem dX5_station_22 : decode cX5_station 22 = .ok (.ireturn, 1) := by decide +kernel
theorem dX5_station_23 : decode cX5_station 23 = .ok (.aload_n 0, 1) := by decide +kernel
theorem dX5_station_24 : decode cX5_station 24 = .ok (.dup, 1) := by decide +kernel
theorem dX5_station_25 : decode cX5_station 25 = .ok (.getfield 52, 3) := by decide +kernel
theorem dX5_station_28 : decode cX5_station 28 = .ok (.iconst 1, 1) := by decide +kernel
theorem dX5_station_29 : decode cX5_station 29 = .ok (.iadd, 1) := by decide +kernel
theorem dX5_station_30 : decode cX5_station 30 = .ok (.putfield 52, 3) := by decide +kernel
theorem dX5_station_33 : decode cX5_station 33 = .ok (.aload_n 0, 1) := by decide +kernel
theorem dX5_station_34 : decode cX5_station 34 = .ok (.getfield 52, 3) := by decide +kernel
theorem dX5_station_37 : decode cX5_station 37 = .ok (.iconst 1, 1) := by decide +kernel
theorem dX5_station_38 : decode cX5_station 38 = .ok (.isub, 1) := by decide +kernel
theorem dX5_station_39 : decode cX5_station 39 = .ok (.ireturn, 1) := by decide +kernel
set_option maxRecDepth 20000 in
theorem ggX5_datum_X5_isStation : GoodIn wsX5_datum wsX5_isStation := goodIn_r _ [7, 8, 9, 10, 6, 11, 17, 18, 19, 20, 21, 22, 23, 24, 25, 26, 27, 28, 29, 30, 31, 32, 33, 34] (by decide +kernel) (by decide +kernel)
set_option maxRecDepth 20000 in
theorem gX5_datum_X5_isStation : GoodIn wsX5_datum (wsV RX5 66 RX5 yX5_isStation wsX5_isStation) := goodIn_app (goodIn_of _ (by decide +kernel)) ggX5_datum_X5_isStation
set_option maxRecDepth 20000 in
theorem ggX5_datum_X5_isBetween : GoodIn wsX5_datum wsX5_isBetween := goodIn_r _ [11] (by decide +kernel) (by decide +kernel)
set_option maxRecDepth 20000 in
theorem gX5_datum_X5_isBetween : GoodIn wsX5_datum (va_wsS RX5 55 yX5_isBetween wsX5_isBetween) := goodIn_app (goodIn_of _ (by decide +kernel)) ggX5_datum_X5_isBetween
set_option maxRecDepth 20000 in
theorem ggX5_datum_X5_goes : GoodIn wsX5_datum wsX5_goes := goodIn_r _ [15, 16, 17, 18, 19, 20, 21, 22, 23, 24, 25, 26, 27, 28, 29, 30, 31, 32, 33, 34] (by decide +kernel) (by decide +kernel)
set_option maxRecDepth 20000 in
theorem gX5_datum_X5_goes : GoodIn wsX5_datum (wsV RX5 62 RX5 yX5_goes wsX5_goes) := goodIn_app (goodIn_of _ (by decide +kernel)) ggX5_datum_X5_goes
theorem dX5_datum_0 : decode cX5_datum 0 = .ok (.aload_n 0, 1) := by decide +kernel
theorem dX5_datum_1 : decode cX5_datum 1 = .ok (.aload_n 0, 1) := by decide +kernel
theorem dX5_datum_2 : decode cX5_datum 2 = .ok (.iload_n 1, 1) := by decide +kernel
theorem dX5_datum_3 : decode cX5_datum 3 = .ok (.invokevirtual 66, 3) := by decide +kernel
theorem dX5_datum_6 : decode cX5_datum 6 = .ok (.ifCond .ne 7, 3) := by decide +kernel
theorem dX5_datum_9 : decode cX5_datum 9 = .ok (.iconst 1, 1) := by decide +kernel
theorem dX5_datum_10 : decode cX5_datum 10 = .ok (.goto 25, 3) := by decide +kernel
theorem dX5_datum_13 : decode cX5_datum 13 = .ok (.iload_n 3, 1) := by decide +kernel
theorem dX5_datum_14 : decode cX5_datum 14 = .ok (.ifCond .eq 20, 3) := by decide +kernel
theorem dX5_datum_17 : decode cX5_datum 17 = .ok (.iload_n 2, 1) := by decide +kernel
theorem dX5_datum_18 : decode cX5_datum 18 = .ok (.sipush (-9999), 3) := by decide +kernel
theorem dX5_datum_21 : decode cX5_datum 21 = .ok (.sipush 9999, 3) := by decide +kernel
theorem dX5_datum_24 : decode cX5_datum 24 = .ok (.invokestatic 55, 3) := by decide +kernel
theorem dX5_datum_27 : decode cX5_datum 27 = .ok (.ifCond .ne 7, 3) := by decide +kernel
theorem dX5_datum_30 : decode cX5_datum 30 = .ok (.iconst 2, 1) := by decide +kernel
theorem dX5_datum_31 : decode cX5_datum 31 = .ok (.goto 4, 3) := by decide +kernel
theorem dX5_datum_34 : decode cX5_datum 34 = .ok (.iconst 0, 1) := by decide +kernel
theorem dX5_datum_35 : decode cX5_datum 35 = .ok (.invokevirtual 62, 3) := by decide +kernel
theorem dX5_datum_38 : decode cX5_datum 38 = .ok (.ifCond .ne 5, 3) := by decide +kernel
theorem dX5_datum_41 : decode cX5_datum 41 = .ok (.iconst 0, 1) := by decide +kernel
theorem dX5_datum_42 : decode cX5_datum 42 = .ok (.ireturn, 1) := by decide +kernel
theorem dX5_datum_43 : decode cX5_datum 43 = .ok (.aload_n 0, 1) := by decide +kernel
theorem dX5_datum_44 : decode cX5_datum 44 = .ok (.getfield 7, 3) := by decide +kernel
theorem dX5_datum_47 : decode cX5_datum 47 = .ok (.iload_n 1, 1) := by decide +kernel
theorem dX5_datum_48 : decode cX5_datum 48 = .ok (.baload, 1) := by decide +kernel
theorem dX5_datum_49 : decode cX5_datum 49 = .ok (.istore 4, 2) := by decide +kernel
theorem dX5_datum_51 : decode cX5_datum 51 = .ok (.aload_n 0, 1) := by decide +kernel
theorem dX5_datum_52 : decode cX5_datum 52 = .ok (.getfield 7, 3) := by decide +kernel
theorem dX5_datum_55 : decode cX5_datum 55 = .ok (.iload_n 1, 1) := by decide +kernel
theorem dX5_datum_56 : decode cX5_datum 56 = .ok (.iload_n 3, 1) := by decide +kernel
theorem dX5_datum_57 : decode cX5_datum 57 = .ok (.bastore, 1) := by decide +kernel
theorem dX5_datum_58 : decode cX5_datum 58 = .ok (.aload_n 0, 1) := by decide +kernel
theorem dX5_datum_59 : decode cX5_datum 59 = .ok (.getfield 13, 3) := by decide +kernel
theorem dX5_datum_62 : decode cX5_datum 62 = .ok (.iload_n 1, 1) := by decide +kernel
theorem dX5_datum_63 : decode cX5_datum 63 = .ok (.iload_n 3, 1) := by decide +kernel
theorem dX5_datum_64 : decode cX5_datum 64 = .ok (.ifCond .eq 7, 3) := by decide +kernel
theorem dX5_datum_67 : decode cX5_datum 67 = .ok (.iload_n 2, 1) := by decide +kernel
theorem dX5_datum_68 : decode cX5_datum 68 = .ok (.goto 4, 3) := by decide +kernel
theorem dX5_datum_71 : decode cX5_datum 71 = .ok (.iconst 0, 1) := by decide +kernel
theorem dX5_datum_72 : decode cX5_datum 72 = .ok (.iastore, 1) := by decide +kernel
theorem dX5_datum_73 : decode cX5_datum 73 = .ok (.iload 4, 2) := by decide +kernel
theorem dX5_datum_75 : decode cX5_datum 75 = .ok (.ireturn, 1) := by decide +kernel
set_option maxRecDepth 20000 in
theorem ggX5_observe_X5_isStation : GoodIn wsX5_observe wsX5_isStation := goodIn_r _ [10, 11, 12, 13, 9, 14, 20, 21, 22, 23, 24, 25, 26, 27, 28, 29, 30, 31, 32, 33, 34, 35, 36, 37] (by decide +kernel) (by decide +kernel)
set_option maxRecDepth 20000 in
theorem gX5_observe_X5_isStation : GoodIn wsX5_observe (wsV RX5 66 RX5 yX5_isStation wsX5_isStation) := goodIn_app (goodIn_of _ (by decide +kernel)) ggX5_observe_X5_isStation
set_option maxRecDepth 20000 in
theorem ggX5_observe_X5_isBetween : GoodIn wsX5_observe wsX5_isBetween := goodIn_r _ [14] (by decide +kernel) (by decide +kernel)
set_option maxRecDepth 20000 in
theorem gX5_observe_X5_isBetween : GoodIn wsX5_observe (va_wsS RX5 55 yX5_isBetween wsX5_isBetween) := goodIn_app (goodIn_of _ (by decide +kernel)) ggX5_observe_X5_isBetween
set_option maxRecDepth 20000 in
theorem ggX5_observe_X5_goes : GoodIn wsX5_observe wsX5_goes := goodIn_r _ [18, 19, 20, 21, 22, 23, 24, 25, 26, 27, 28, 29, 30, 31, 32, 33, 34, 35, 36, 37] (by decide +kernel) (by decide +kernel)
set_option maxRecDepth 20000 in
theorem gX5_observe_X5_goes : GoodIn wsX5_observe (wsV RX5 62 RX5 yX5_goes wsX5_goes) := goodIn_app (goodIn_of _ (by decide +kernel)) ggX5_observe_X5_goes
theorem dX5_observe_0 : decode cX5_observe 0 = .ok (.aload_n 0, 1) := by decide +kernel
theorem dX5_observe_1 : decode cX5_observe 1 = .ok (.iload_n 1, 1) := by decide +kernel
theorem dX5_observe_2 : decode cX5_observe 2 = .ok (.invokevirtual 66, 3) := by decide +kernel
theorem dX5_observe_5 : decode cX5_observe 5 = .ok (.ifCond .eq 15, 3) := by decide +kernel
theorem dX5_observe_8 : decode cX5_observe 8 = .ok (.aload_n 0, 1) := by decide +kernel
theorem dX5_observe_9 : decode cX5_observe 9 = .ok (.iload_n 2, 1) := by decide +kernel
theorem dX5_observe_10 : decode cX5_observe 10 = .ok (.invokevirtual 66, 3) := by decide +kernel
theorem dX5_observe_13 : decode cX5_observe 13 = .ok (.ifCond .eq 7, 3) := by decide +kernel
theorem dX5_observe_16 : decode cX5_observe 16 = .ok (.iconst 1, 1) := by decide +kernel
theorem dX5_observe_17 : decode cX5_observe 17 = .ok (.goto 4, 3) := by decide +kernel
theorem dX5_observe_20 : decode cX5_observe 20 = .ok (.iconst 0, 1) := by decide +kernel
theorem dX5_observe_21 : decode cX5_observe 21 = .ok (.istore 5, 2) := by decide +kernel
theorem dX5_observe_23 : decode cX5_observe 23 = .ok (.iload_n 1, 1) := by decide +kernel
theorem dX5_observe_24 : decode cX5_observe 24 = .ok (.iload_n 2, 1) := by decide +kernel
theorem dX5_observe_25 : decode cX5_observe 25 = .ok (.if_icmp .eq 30, 3) := by decide +kernel
theorem dX5_observe_28 : decode cX5_observe 28 = .ok (.iload_n 3, 1) := by decide +kernel
theorem dX5_observe_29 : decode cX5_observe 29 = .ok (.sipush (-9999), 3) := by decide +kernel
theorem dX5_observe_32 : decode cX5_observe 32 = .ok (.sipush 9999, 3) := by decide +kernel
theorem dX5_observe_35 : decode cX5_observe 35 = .ok (.invokestatic 55, 3) := by decide +kernel
theorem dX5_observe_38 : decode cX5_observe 38 = .ok (.ifCond .eq 17, 3) := by decide +kernel
theorem dX5_observe_41 : decode cX5_observe 41 = .ok (.iload 4, 2) := by decide +kernel
theorem dX5_observe_43 : decode cX5_observe 43 = .ok (.iconst 1, 1) := by decide +kernel
theorem dX5_observe_44 : decode cX5_observe 44 = .ok (.iconst 5, 1) := by decide +kernel
theorem dX5_observe_45 : decode cX5_observe 45 = .ok (.invokestatic 55, 3) := by decide +kernel
theorem dX5_observe_48 : decode cX5_observe 48 = .ok (.ifCond .eq 7, 3) := by decide +kernel
theorem dX5_observe_51 : decode cX5_observe 51 = .ok (.iconst 1, 1) := by decide +kernel
theorem dX5_observe_52 : decode cX5_observe 52 = .ok (.goto 4, 3) := by decide +kernel
theorem dX5_observe_55 : decode cX5_observe 55 = .ok (.iconst 0, 1) := by decide +kernel
theorem dX5_observe_56 : decode cX5_observe 56 = .ok (.istore 6, 2) := by decide +kernel
theorem dX5_observe_58 : decode cX5_observe 58 = .ok (.aload_n 0, 1) := by decide +kernel
theorem dX5_observe_59 : decode cX5_observe 59 = .ok (.iload 5, 2) := by decide +kernel
theorem dX5_observe_61 : decode cX5_observe 61 = .ok (.ifCond .ne 7, 3) := by decide +kernel
theorem dX5_observe_64 : decode cX5_observe 64 = .ok (.iconst 1, 1) := by decide +kernel
theorem dX5_observe_65 : decode cX5_observe 65 = .ok (.goto 26, 3) := by decide +kernel
theorem dX5_observe_68 : decode cX5_observe 68 = .ok (.iload 6, 2) := by decide +kernel
theorem dX5_observe_70 : decode cX5_observe 70 = .ok (.ifCond .ne 7, 3) := by decide +kernel
theorem dX5_observe_73 : decode cX5_observe 73 = .ok (.iconst 2, 1) := by decide +kernel
theorem dX5_observe_74 : decode cX5_observe 74 = .ok (.goto 17, 3) := by decide +kernel
theorem dX5_observe_77 : decode cX5_observe 77 = .ok (.aload_n 0, 1) := by decide +kernel
theorem dX5_observe_78 : decode cX5_observe 78 = .ok (.getfield 59, 3) := by decide +kernel
theorem dX5_observe_81 : decode cX5_observe 81 = .ok (.bipush 14, 2) := by decide +kernel
theorem dX5_observe_83 : decode cX5_observe 83 = .ok (.if_icmp .ne 7, 3) := by decide +kernel
theorem dX5_observe_86 : decode cX5_observe 86 = .ok (.iconst 3, 1) := by decide +kernel
theorem dX5_observe_87 : decode cX5_observe 87 = .ok (.goto 4, 3) := by decide +kernel
theorem dX5_observe_90 : decode cX5_observe 90 = .ok (.iconst 0, 1) := by decide +kernel
theorem dX5_observe_91 : decode cX5_observe 91 = .ok (.invokevirtual 62, 3) := by decide +kernel
theorem dX5_observe_94 : decode cX5_observe 94 = .ok (.ifCond .ne 5, 3) := by decide +kernel
theorem dX5_observe_97 : decode cX5_observe 97 = .ok (.iconst 0, 1) := by decide +kernel
theorem dX5_observe_98 : decode cX5_observe 98 = .ok (.ireturn, 1) := by decide +kernel
theorem dX5_observe_99 : decode cX5_observe 99 = .ok (.aload_n 0, 1) := by decide +kernel
theorem dX5_observe_100 : decode cX5_observe 100 = .ok (.getfield 17, 3) := by decide +kernel
theorem dX5_observe_103 : decode cX5_observe 103 = .ok (.aload_n 0, 1) := by decide +kernel
theorem dX5_observe_104 : decode cX5_observe 104 = .ok (.getfield 59, 3) := by decide +kernel
theorem dX5_observe_107 : decode cX5_observe 107 = .ok (.iload_n 1, 1) := by decide +kernel
theorem dX5_observe_108 : decode cX5_observe 108 = .ok (.iastore, 1) := by decide +kernel
theorem dX5_observe_109 : decode cX5_observe 109 = .ok (.aload_n 0, 1) := by decide +kernel
theorem dX5_observe_110 : decode cX5_observe 110 = .ok (.getfield 20, 3) := by decide +kernel
theorem dX5_observe_113 : decode cX5_observe 113 = .ok (.aload_n 0, 1) := by decide +kernel
theorem dX5_observe_114 : decode cX5_observe 114 = .ok (.getfield 59, 3) := by decide +kernel
theorem dX5_observe_117 : decode cX5_observe 117 = .ok (.iload_n 2, 1) := by decide +kernel
theorem dX5_observe_118 : decode cX5_observe 118 = .ok (.iastore, 1) := by decide +kernel
theorem dX5_observe_119 : decode cX5_observe 119 = .ok (.aload_n 0, 1) := by decide +kernel
theorem dX5_observe_120 : decode cX5_observe 120 = .ok (.getfield 23, 3) := by decide +kernel
theorem dX5_observe_123 : decode cX5_observe 123 = .ok (.aload_n 0, 1) := by decide +kernel
theorem dX5_observe_124 : decode cX5_observe 124 = .ok (.getfield 59, 3) := by decide +kernel
theorem dX5_observe_127 : decode cX5_observe 127 = .ok (.iload_n 3, 1) := by decide +kernel
theorem dX5_observe_128 : decode cX5_observe 128 = .ok (.iastore, 1) := by decide +kernel
theorem dX5_observe_129 : decode cX5_observe 129 = .ok (.aload_n 0, 1) := by decide +kernel
theorem dX5_observe_130 : decode cX5_observe 130 = .ok (.getfield 26, 3) := by decide +kernel
theorem dX5_observe_133 : decode cX5_observe 133 = .ok (.aload_n 0, 1) := by decide +kernel
theorem dX5_observe_134 : decode cX5_observe 134 = .ok (.getfield 59, 3) := by decide +kernel
theorem dX5_observe_137 : decode cX5_observe 137 = .ok (.iload 4, 2) := by decide +kernel
theorem dX5_observe_139 : decode cX5_observe 139 = .ok (.iastore, 1) := by decide +kernel
theorem dX5_observe_140 : decode cX5_observe 140 = .ok (.aload_n 0, 1) := by decide +kernel
theorem dX5_observe_141 : decode cX5_observe 141 = .ok (.dup, 1) := by decide +kernel
theorem dX5_observe_142 : decode cX5_observe 142 = .ok (.getfield 59, 3) := by decide +kernel
theorem dX5_observe_145 : decode cX5_observe 145 = .ok (.iconst 1, 1) := by decide +kernel
theorem dX5_observe_146 : decode cX5_observe 146 = .ok (.iadd, 1) := by decide +kernel
theorem dX5_observe_147 : decode cX5_observe 147 = .ok (.putfield 59, 3) := by decide +kernel
theorem dX5_observe_150 : decode cX5_observe 150 = .ok (.aload_n 0, 1) := by decide +kernel
theorem dX5_observe_151 : decode cX5_observe 151 = .ok (.getfield 59, 3) := by decide +kernel
theorem dX5_observe_154 : decode cX5_observe 154 = .ok (.iconst 1, 1) := by decide +kernel
theorem dX5_observe_155 : decode cX5_observe 155 = .ok (.isub, 1) := by decide +kernel
theorem dX5_observe_156 : decode cX5_observe 156 = .ok (.ireturn, 1) := by decide +kernel
set_option maxRecDepth 20000 in
theorem ggX5_withdraw_X5_isObservation : GoodIn wsX5_withdraw wsX5_isObservation := goodIn_r _ [6, 7, 8, 9, 5, 10, 16, 17, 18, 19, 20, 21, 22, 23, 24, 25, 26, 27, 28, 29, 30, 31, 32, 33] (by decide +kernel) (by decide +kernel)
set_option maxRecDepth 20000 in
theorem gX5_withdraw_X5_isObservation : GoodIn wsX5_withdraw (wsV RX5 69 RX5 yX5_isObservation wsX5_isObservation) := goodIn_app (goodIn_of _ (by decide +kernel)) ggX5_withdraw_X5_isObservation
set_option maxRecDepth 20000 in
theorem ggX5_withdraw_X5_goes : GoodIn wsX5_withdraw wsX5_goes := goodIn_r _ [14, 15, 16, 17, 18, 19, 20, 21, 22, 23, 24, 25, 26, 27, 28, 29, 30, 31, 32, 33] (by decide +kernel) (by decide +kernel)
set_option maxRecDepth 20000 in
theorem gX5_withdraw_X5_goes : GoodIn wsX5_withdraw (wsV RX5 62 RX5 yX5_goes wsX5_goes) := goodIn_app (goodIn_of _ (by decide +kernel)) ggX5_withdraw_X5_goes
theorem dX5_withdraw_0 : decode cX5_withdraw 0 = .ok (.aload_n 0, 1) := by decide +kernel
theorem dX5_withdraw_1 : decode cX5_withdraw 1 = .ok (.aload_n 0, 1) := by decide +kernel
theorem dX5_withdraw_2 : decode cX5_withdraw 2 = .ok (.iload_n 1, 1) := by decide +kernel
theorem dX5_withdraw_3 : decode cX5_withdraw 3 = .ok (.invokevirtual 69, 3) := by decide +kernel
theorem dX5_withdraw_6 : decode cX5_withdraw 6 = .ok (.ifCond .eq 7, 3) := by decide +kernel
theorem dX5_withdraw_9 : decode cX5_withdraw 9 = .ok (.iconst 0, 1) := by decide +kernel
theorem dX5_withdraw_10 : decode cX5_withdraw 10 = .ok (.goto 4, 3) := by decide +kernel
theorem dX5_withdraw_13 : decode cX5_withdraw 13 = .ok (.iconst 1, 1) := by decide +kernel
theorem dX5_withdraw_14 : decode cX5_withdraw 14 = .ok (.invokevirtual 62, 3) := by decide +kernel
theorem dX5_withdraw_17 : decode cX5_withdraw 17 = .ok (.ifCond .ne 5, 3) := by decide +kernel
theorem dX5_withdraw_20 : decode cX5_withdraw 20 = .ok (.iconst 0, 1) := by decide +kernel
theorem dX5_withdraw_21 : decode cX5_withdraw 21 = .ok (.ireturn, 1) := by decide +kernel
theorem dX5_withdraw_22 : decode cX5_withdraw 22 = .ok (.aload_n 0, 1) := by decide +kernel
theorem dX5_withdraw_23 : decode cX5_withdraw 23 = .ok (.getfield 29, 3) := by decide +kernel
theorem dX5_withdraw_26 : decode cX5_withdraw 26 = .ok (.iload_n 1, 1) := by decide +kernel
theorem dX5_withdraw_27 : decode cX5_withdraw 27 = .ok (.baload, 1) := by decide +kernel
theorem dX5_withdraw_28 : decode cX5_withdraw 28 = .ok (.istore_n 3, 1) := by decide +kernel
theorem dX5_withdraw_29 : decode cX5_withdraw 29 = .ok (.aload_n 0, 1) := by decide +kernel
theorem dX5_withdraw_30 : decode cX5_withdraw 30 = .ok (.getfield 29, 3) := by decide +kernel
theorem dX5_withdraw_33 : decode cX5_withdraw 33 = .ok (.iload_n 1, 1) := by decide +kernel
theorem dX5_withdraw_34 : decode cX5_withdraw 34 = .ok (.iload_n 2, 1) := by decide +kernel
theorem dX5_withdraw_35 : decode cX5_withdraw 35 = .ok (.bastore, 1) := by decide +kernel
theorem dX5_withdraw_36 : decode cX5_withdraw 36 = .ok (.iload_n 3, 1) := by decide +kernel
theorem dX5_withdraw_37 : decode cX5_withdraw 37 = .ok (.ireturn, 1) := by decide +kernel
theorem dX5_reaches_0 : decode cX5_reaches 0 = .ok (.iconst 0, 1) := by decide +kernel
theorem dX5_reaches_1 : decode cX5_reaches 1 = .ok (.istore_n 2, 1) := by decide +kernel
theorem dX5_reaches_2 : decode cX5_reaches 2 = .ok (.iload_n 2, 1) := by decide +kernel
theorem dX5_reaches_3 : decode cX5_reaches 3 = .ok (.bipush 6, 2) := by decide +kernel
theorem dX5_reaches_5 : decode cX5_reaches 5 = .ok (.if_icmp .ge 25, 3) := by decide +kernel
theorem dX5_reaches_8 : decode cX5_reaches 8 = .ok (.aload_n 0, 1) := by decide +kernel
theorem dX5_reaches_9 : decode cX5_reaches 9 = .ok (.getfield 35, 3) := by decide +kernel
theorem dX5_reaches_12 : decode cX5_reaches 12 = .ok (.iload_n 2, 1) := by decide +kernel
theorem dX5_reaches_13 : decode cX5_reaches 13 = .ok (.iload_n 2, 1) := by decide +kernel
theorem dX5_reaches_14 : decode cX5_reaches 14 = .ok (.iload_n 1, 1) := by decide +kernel
theorem dX5_reaches_15 : decode cX5_reaches 15 = .ok (.if_icmp .ne 7, 3) := by decide +kernel
theorem dX5_reaches_18 : decode cX5_reaches 18 = .ok (.iconst 1, 1) := by decide +kernel
theorem dX5_reaches_19 : decode cX5_reaches 19 = .ok (.goto 4, 3) := by decide +kernel
theorem dX5_reaches_22 : decode cX5_reaches 22 = .ok (.iconst 0, 1) := by decide +kernel
theorem dX5_reaches_23 : decode cX5_reaches 23 = .ok (.bastore, 1) := by decide +kernel
theorem dX5_reaches_24 : decode cX5_reaches 24 = .ok (.iinc 2 1, 3) := by decide +kernel
theorem dX5_reaches_27 : decode cX5_reaches 27 = .ok (.goto (-25), 3) := by decide +kernel
theorem dX5_reaches_30 : decode cX5_reaches 30 = .ok (.iconst 0, 1) := by decide +kernel
theorem dX5_reaches_31 : decode cX5_reaches 31 = .ok (.istore_n 2, 1) := by decide +kernel
theorem dX5_reaches_32 : decode cX5_reaches 32 = .ok (.iload_n 2, 1) := by decide +kernel
theorem dX5_reaches_33 : decode cX5_reaches 33 = .ok (.bipush 6, 2) := by decide +kernel
theorem dX5_reaches_35 : decode cX5_reaches 35 = .ok (.if_icmp .ge 83, 3) := by decide +kernel
theorem dX5_reaches_38 : decode cX5_reaches 38 = .ok (.iconst 0, 1) := by decide +kernel
theorem dX5_reaches_39 : decode cX5_reaches 39 = .ok (.istore_n 3, 1) := by decide +kernel
theorem dX5_reaches_40 : decode cX5_reaches 40 = .ok (.iload_n 3, 1) := by decide +kernel
theorem dX5_reaches_41 : decode cX5_reaches 41 = .ok (.aload_n 0, 1) := by decide +kernel
theorem dX5_reaches_42 : decode cX5_reaches 42 = .ok (.getfield 59, 3) := by decide +kernel
theorem dX5_reaches_45 : decode cX5_reaches 45 = .ok (.if_icmp .ge 67, 3) := by decide +kernel
theorem dX5_reaches_48 : decode cX5_reaches 48 = .ok (.aload_n 0, 1) := by decide +kernel
theorem dX5_reaches_49 : decode cX5_reaches 49 = .ok (.getfield 29, 3) := by decide +kernel
theorem dX5_reaches_52 : decode cX5_reaches 52 = .ok (.iload_n 3, 1) := by decide +kernel
theorem dX5_reaches_53 : decode cX5_reaches 53 = .ok (.baload, 1) := by decide +kernel
theorem dX5_reaches_54 : decode cX5_reaches 54 = .ok (.ifCond .ne 52, 3) := by decide +kernel
theorem dX5_reaches_57 : decode cX5_reaches 57 = .ok (.aload_n 0, 1) := by decide +kernel
theorem dX5_reaches_58 : decode cX5_reaches 58 = .ok (.getfield 35, 3) := by decide +kernel
theorem dX5_reaches_61 : decode cX5_reaches 61 = .ok (.aload_n 0, 1) := by decide +kernel
theorem dX5_reaches_62 : decode cX5_reaches 62 = .ok (.getfield 17, 3) := by decide +kernel
theorem dX5_reaches_65 : decode cX5_reaches 65 = .ok (.iload_n 3, 1) := by decide +kernel
theorem dX5_reaches_66 : decode cX5_reaches 66 = .ok (.iaload, 1) := by decide +kernel
theorem dX5_reaches_67 : decode cX5_reaches 67 = .ok (.baload, 1) := by decide +kernel
theorem dX5_reaches_68 : decode cX5_reaches 68 = .ok (.aload_n 0, 1) := by decide +kernel
theorem dX5_reaches_69 : decode cX5_reaches 69 = .ok (.getfield 35, 3) := by decide +kernel
theorem dX5_reaches_72 : decode cX5_reaches 72 = .ok (.aload_n 0, 1) := by decide +kernel
theorem dX5_reaches_73 : decode cX5_reaches 73 = .ok (.getfield 20, 3) := by decide +kernel
theorem dX5_reaches_76 : decode cX5_reaches 76 = .ok (.iload_n 3, 1) := by decide +kernel
theorem dX5_reaches_77 : decode cX5_reaches 77 = .ok (.iaload, 1) := by decide +kernel
theorem dX5_reaches_78 : decode cX5_reaches 78 = .ok (.baload, 1) := by decide +kernel
theorem dX5_reaches_79 : decode cX5_reaches 79 = .ok (.if_icmp .eq 27, 3) := by decide +kernel
theorem dX5_reaches_82 : decode cX5_reaches 82 = .ok (.aload_n 0, 1) := by decide +kernel
theorem dX5_reaches_83 : decode cX5_reaches 83 = .ok (.getfield 35, 3) := by decide +kernel
theorem dX5_reaches_86 : decode cX5_reaches 86 = .ok (.aload_n 0, 1) := by decide +kernel
theorem dX5_reaches_87 : decode cX5_reaches 87 = .ok (.getfield 17, 3) := by decide +kernel
theorem dX5_reaches_90 : decode cX5_reaches 90 = .ok (.iload_n 3, 1) := by decide +kernel
theorem dX5_reaches_91 : decode cX5_reaches 91 = .ok (.iaload, 1) := by decide +kernel
theorem dX5_reaches_92 : decode cX5_reaches 92 = .ok (.iconst 1, 1) := by decide +kernel
theorem dX5_reaches_93 : decode cX5_reaches 93 = .ok (.bastore, 1) := by decide +kernel
theorem dX5_reaches_94 : decode cX5_reaches 94 = .ok (.aload_n 0, 1) := by decide +kernel
theorem dX5_reaches_95 : decode cX5_reaches 95 = .ok (.getfield 35, 3) := by decide +kernel
theorem dX5_reaches_98 : decode cX5_reaches 98 = .ok (.aload_n 0, 1) := by decide +kernel
theorem dX5_reaches_99 : decode cX5_reaches 99 = .ok (.getfield 20, 3) := by decide +kernel
theorem dX5_reaches_102 : decode cX5_reaches 102 = .ok (.iload_n 3, 1) := by decide +kernel
theorem dX5_reaches_103 : decode cX5_reaches 103 = .ok (.iaload, 1) := by decide +kernel
theorem dX5_reaches_104 : decode cX5_reaches 104 = .ok (.iconst 1, 1) := by decide +kernel
theorem dX5_reaches_105 : decode cX5_reaches 105 = .ok (.bastore, 1) := by decide +kernel
theorem dX5_reaches_106 : decode cX5_reaches 106 = .ok (.iinc 3 1, 3) := by decide +kernel
theorem dX5_reaches_109 : decode cX5_reaches 109 = .ok (.goto (-69), 3) := by decide +kernel
theorem dX5_reaches_112 : decode cX5_reaches 112 = .ok (.iinc 2 1, 3) := by decide +kernel
theorem dX5_reaches_115 : decode cX5_reaches 115 = .ok (.goto (-83), 3) := by decide +kernel
theorem dX5_reaches_118 : decode cX5_reaches 118 = .ok (.aload_n 0, 1) := by decide +kernel
theorem dX5_reaches_119 : decode cX5_reaches 119 = .ok (.iconst (-1), 1) := by decide +kernel
theorem dX5_reaches_120 : decode cX5_reaches 120 = .ok (.putfield 72, 3) := by decide +kernel
theorem dX5_reaches_123 : decode cX5_reaches 123 = .ok (.aload_n 0, 1) := by decide +kernel
theorem dX5_reaches_124 : decode cX5_reaches 124 = .ok (.getfield 52, 3) := by decide +kernel
theorem dX5_reaches_127 : decode cX5_reaches 127 = .ok (.iconst 1, 1) := by decide +kernel
theorem dX5_reaches_128 : decode cX5_reaches 128 = .ok (.isub, 1) := by decide +kernel
theorem dX5_reaches_129 : decode cX5_reaches 129 = .ok (.istore_n 2, 1) := by decide +kernel
theorem dX5_reaches_130 : decode cX5_reaches 130 = .ok (.iload_n 2, 1) := by decide +kernel
theorem dX5_reaches_131 : decode cX5_reaches 131 = .ok (.ifCond .lt 59, 3) := by decide +kernel
theorem dX5_reaches_134 : decode cX5_reaches 134 = .ok (.aload_n 0, 1) := by decide +kernel
theorem dX5_reaches_135 : decode cX5_reaches 135 = .ok (.aload_n 0, 1) := by decide +kernel
theorem dX5_reaches_136 : decode cX5_reaches 136 = .ok (.getfield 35, 3) := by decide +kernel
theorem dX5_reaches_139 : decode cX5_reaches 139 = .ok (.iload_n 2, 1) := by decide +kernel
theorem dX5_reaches_140 : decode cX5_reaches 140 = .ok (.baload, 1) := by decide +kernel
theorem dX5_reaches_141 : decode cX5_reaches 141 = .ok (.ifCond .eq 36, 3) := by decide +kernel
theorem dX5_reaches_144 : decode cX5_reaches 144 = .ok (.aload_n 0, 1) := by decide +kernel
theorem dX5_reaches_145 : decode cX5_reaches 145 = .ok (.getfield 7, 3) := by decide +kernel
theorem dX5_reaches_148 : decode cX5_reaches 148 = .ok (.iload_n 2, 1) := by decide +kernel
theorem dX5_reaches_149 : decode cX5_reaches 149 = .ok (.baload, 1) := by decide +kernel
theorem dX5_reaches_150 : decode cX5_reaches 150 = .ok (.ifCond .ne 23, 3) := by decide +kernel
theorem dX5_reaches_153 : decode cX5_reaches 153 = .ok (.aload_n 0, 1) := by decide +kernel
theorem dX5_reaches_154 : decode cX5_reaches 154 = .ok (.getfield 72, 3) := by decide +kernel
theorem dX5_reaches_157 : decode cX5_reaches 157 = .ok (.iconst (-1), 1) := by decide +kernel
theorem dX5_reaches_158 : decode cX5_reaches 158 = .ok (.if_icmp .eq 15, 3) := by decide +kernel
theorem dX5_reaches_161 : decode cX5_reaches 161 = .ok (.aload_n 0, 1) := by decide +kernel
theorem dX5_reaches_162 : decode cX5_reaches 162 = .ok (.getfield 7, 3) := by decide +kernel
theorem dX5_reaches_165 : decode cX5_reaches 165 = .ok (.aload_n 0, 1) := by decide +kernel
theorem dX5_reaches_166 : decode cX5_reaches 166 = .ok (.getfield 72, 3) := by decide +kernel
theorem dX5_reaches_169 : decode cX5_reaches 169 = .ok (.baload, 1) := by decide +kernel
theorem dX5_reaches_170 : decode cX5_reaches 170 = .ok (.ifCond .ne 7, 3) := by decide +kernel
theorem dX5_reaches_173 : decode cX5_reaches 173 = .ok (.iload_n 2, 1) := by decide +kernel
theorem dX5_reaches_174 : decode cX5_reaches 174 = .ok (.goto 7, 3) := by decide +kernel
theorem dX5_reaches_177 : decode cX5_reaches 177 = .ok (.aload_n 0, 1) := by decide +kernel
theorem dX5_reaches_178 : decode cX5_reaches 178 = .ok (.getfield 72, 3) := by decide +kernel
theorem dX5_reaches_181 : decode cX5_reaches 181 = .ok (.putfield 72, 3) := by decide +kernel
theorem dX5_reaches_184 : decode cX5_reaches 184 = .ok (.iinc 2 (-1), 3) := by decide +kernel
theorem dX5_reaches_187 : decode cX5_reaches 187 = .ok (.goto (-57), 3) := by decide +kernel
theorem dX5_reaches_190 : decode cX5_reaches 190 = .ok (.return_, 1) := by decide +kernel
theorem dX5_adds_0 : decode cX5_adds 0 = .ok (.iload_n 1, 1) := by decide +kernel
theorem dX5_adds_1 : decode cX5_adds 1 = .ok (.aload_n 0, 1) := by decide +kernel
theorem dX5_adds_2 : decode cX5_adds 2 = .ok (.getfield 72, 3) := by decide +kernel
theorem dX5_adds_5 : decode cX5_adds 5 = .ok (.if_icmp .eq 26, 3) := by decide +kernel
theorem dX5_adds_8 : decode cX5_adds 8 = .ok (.iload_n 2, 1) := by decide +kernel
theorem dX5_adds_9 : decode cX5_adds 9 = .ok (.aload_n 0, 1) := by decide +kernel
theorem dX5_adds_10 : decode cX5_adds 10 = .ok (.getfield 72, 3) := by decide +kernel
theorem dX5_adds_13 : decode cX5_adds 13 = .ok (.if_icmp .eq 18, 3) := by decide +kernel
theorem dX5_adds_16 : decode cX5_adds 16 = .ok (.aload_n 0, 1) := by decide +kernel
theorem dX5_adds_17 : decode cX5_adds 17 = .ok (.getfield 38, 3) := by decide +kernel
theorem dX5_adds_20 : decode cX5_adds 20 = .ok (.bipush 7, 2) := by decide +kernel
theorem dX5_adds_22 : decode cX5_adds 22 = .ok (.iload_n 1, 1) := by decide +kernel
theorem dX5_adds_23 : decode cX5_adds 23 = .ok (.imul, 1) := by decide +kernel
theorem dX5_adds_24 : decode cX5_adds 24 = .ok (.iload_n 2, 1) := by decide +kernel
theorem dX5_adds_25 : decode cX5_adds 25 = .ok (.iadd, 1) := by decide +kernel
theorem dX5_adds_26 : decode cX5_adds 26 = .ok (.dup2, 1) := by decide +kernel
theorem dX5_adds_27 : decode cX5_adds 27 = .ok (.laload, 1) := by decide +kernel
theorem dX5_adds_28 : decode cX5_adds 28 = .ok (.lload_n 3, 1) := by decide +kernel
theorem dX5_adds_29 : decode cX5_adds 29 = .ok (.ladd, 1) := by decide +kernel
theorem dX5_adds_30 : decode cX5_adds 30 = .ok (.lastore, 1) := by decide +kernel
theorem dX5_adds_31 : decode cX5_adds 31 = .ok (.return_, 1) := by decide +kernel
set_option maxRecDepth 20000 in
theorem ggX5_lays_X5_adds : GoodIn wsX5_lays wsX5_adds := goodIn_r _ [13, 3, 1, 14, 15, 16, 17, 18, 19, 20, 21, 22, 23, 24, 25, 26, 27, 28, 29, 30, 31] (by decide +kernel) (by decide +kernel)
set_option maxRecDepth 20000 in
theorem gX5_lays_X5_adds : GoodIn wsX5_lays (wsV RX5 75 RX5 yX5_adds wsX5_adds) := goodIn_app (goodIn_of _ (by decide +kernel)) ggX5_lays_X5_adds
theorem dX5_lays_0 : decode cX5_lays 0 = .ok (.iconst 0, 1) := by decide +kernel
theorem dX5_lays_1 : decode cX5_lays 1 = .ok (.istore_n 1, 1) := by decide +kernel
theorem dX5_lays_2 : decode cX5_lays 2 = .ok (.iload_n 1, 1) := by decide +kernel
theorem dX5_lays_3 : decode cX5_lays 3 = .ok (.bipush 42, 2) := by decide +kernel
theorem dX5_lays_5 : decode cX5_lays 5 = .ok (.if_icmp .ge 16, 3) := by decide +kernel
theorem dX5_lays_8 : decode cX5_lays 8 = .ok (.aload_n 0, 1) := by decide +kernel
theorem dX5_lays_9 : decode cX5_lays 9 = .ok (.getfield 38, 3) := by decide +kernel
theorem dX5_lays_12 : decode cX5_lays 12 = .ok (.iload_n 1, 1) := by decide +kernel
theorem dX5_lays_13 : decode cX5_lays 13 = .ok (.lconst 0, 1) := by decide +kernel
theorem dX5_lays_14 : decode cX5_lays 14 = .ok (.lastore, 1) := by decide +kernel
theorem dX5_lays_15 : decode cX5_lays 15 = .ok (.iinc 1 1, 3) := by decide +kernel
theorem dX5_lays_18 : decode cX5_lays 18 = .ok (.goto (-16), 3) := by decide +kernel
theorem dX5_lays_21 : decode cX5_lays 21 = .ok (.iconst 0, 1) := by decide +kernel
theorem dX5_lays_22 : decode cX5_lays 22 = .ok (.istore_n 1, 1) := by decide +kernel
theorem dX5_lays_23 : decode cX5_lays 23 = .ok (.iload_n 1, 1) := by decide +kernel
theorem dX5_lays_24 : decode cX5_lays 24 = .ok (.bipush 6, 2) := by decide +kernel
theorem dX5_lays_26 : decode cX5_lays 26 = .ok (.if_icmp .ge 42, 3) := by decide +kernel
theorem dX5_lays_29 : decode cX5_lays 29 = .ok (.aload_n 0, 1) := by decide +kernel
theorem dX5_lays_30 : decode cX5_lays 30 = .ok (.getfield 38, 3) := by decide +kernel
theorem dX5_lays_33 : decode cX5_lays 33 = .ok (.bipush 7, 2) := by decide +kernel
theorem dX5_lays_35 : decode cX5_lays 35 = .ok (.iload_n 1, 1) := by decide +kernel
theorem dX5_lays_36 : decode cX5_lays 36 = .ok (.imul, 1) := by decide +kernel
theorem dX5_lays_37 : decode cX5_lays 37 = .ok (.iload_n 1, 1) := by decide +kernel
theorem dX5_lays_38 : decode cX5_lays 38 = .ok (.iadd, 1) := by decide +kernel
theorem dX5_lays_39 : decode cX5_lays 39 = .ok (.aload_n 0, 1) := by decide +kernel
theorem dX5_lays_40 : decode cX5_lays 40 = .ok (.getfield 35, 3) := by decide +kernel
theorem dX5_lays_43 : decode cX5_lays 43 = .ok (.iload_n 1, 1) := by decide +kernel
theorem dX5_lays_44 : decode cX5_lays 44 = .ok (.baload, 1) := by decide +kernel
theorem dX5_lays_45 : decode cX5_lays 45 = .ok (.ifCond .eq 15, 3) := by decide +kernel
theorem dX5_lays_48 : decode cX5_lays 48 = .ok (.iload_n 1, 1) := by decide +kernel
theorem dX5_lays_49 : decode cX5_lays 49 = .ok (.aload_n 0, 1) := by decide +kernel
theorem dX5_lays_50 : decode cX5_lays 50 = .ok (.getfield 72, 3) := by decide +kernel
theorem dX5_lays_53 : decode cX5_lays 53 = .ok (.if_icmp .eq 7, 3) := by decide +kernel
theorem dX5_lays_56 : decode cX5_lays 56 = .ok (.lconst 0, 1) := by decide +kernel
theorem dX5_lays_57 : decode cX5_lays 57 = .ok (.goto 4, 3) := by decide +kernel
theorem dX5_lays_60 : decode cX5_lays 60 = .ok (.lconst 1, 1) := by decide +kernel
theorem dX5_lays_61 : decode cX5_lays 61 = .ok (.lastore, 1) := by decide +kernel
theorem dX5_lays_62 : decode cX5_lays 62 = .ok (.iinc 1 1, 3) := by decide +kernel
theorem dX5_lays_65 : decode cX5_lays 65 = .ok (.goto (-42), 3) := by decide +kernel
theorem dX5_lays_68 : decode cX5_lays 68 = .ok (.iconst 0, 1) := by decide +kernel
theorem dX5_lays_69 : decode cX5_lays 69 = .ok (.istore_n 1, 1) := by decide +kernel
theorem dX5_lays_70 : decode cX5_lays 70 = .ok (.iload_n 1, 1) := by decide +kernel
theorem dX5_lays_71 : decode cX5_lays 71 = .ok (.aload_n 0, 1) := by decide +kernel
theorem dX5_lays_72 : decode cX5_lays 72 = .ok (.getfield 59, 3) := by decide +kernel
theorem dX5_lays_75 : decode cX5_lays 75 = .ok (.if_icmp .ge 126, 3) := by decide +kernel
theorem dX5_lays_78 : decode cX5_lays 78 = .ok (.aload_n 0, 1) := by decide +kernel
theorem dX5_lays_79 : decode cX5_lays 79 = .ok (.getfield 29, 3) := by decide +kernel
theorem dX5_lays_82 : decode cX5_lays 82 = .ok (.iload_n 1, 1) := by decide +kernel
theorem dX5_lays_83 : decode cX5_lays 83 = .ok (.baload, 1) := by decide +kernel
theorem dX5_lays_84 : decode cX5_lays 84 = .ok (.ifCond .ne 111, 3) := by decide +kernel
theorem dX5_lays_87 : decode cX5_lays 87 = .ok (.aload_n 0, 1) := by decide +kernel
theorem dX5_lays_88 : decode cX5_lays 88 = .ok (.getfield 35, 3) := by decide +kernel
theorem dX5_lays_91 : decode cX5_lays 91 = .ok (.aload_n 0, 1) := by decide +kernel
theorem dX5_lays_92 : decode cX5_lays 92 = .ok (.getfield 17, 3) := by decide +kernel
theorem dX5_lays_95 : decode cX5_lays 95 = .ok (.iload_n 1, 1) := by decide +kernel
theorem dX5_lays_96 : decode cX5_lays 96 = .ok (.iaload, 1) := by decide +kernel
theorem dX5_lays_97 : decode cX5_lays 97 = .ok (.baload, 1) := by decide +kernel
theorem dX5_lays_98 : decode cX5_lays 98 = .ok (.ifCond .eq 97, 3) := by decide +kernel
theorem dX5_lays_101 : decode cX5_lays 101 = .ok (.aload_n 0, 1) := by decide +kernel
theorem dX5_lays_102 : decode cX5_lays 102 = .ok (.aload_n 0, 1) := by decide +kernel
theorem dX5_lays_103 : decode cX5_lays 103 = .ok (.getfield 17, 3) := by decide +kernel
theorem dX5_lays_106 : decode cX5_lays 106 = .ok (.iload_n 1, 1) := by decide +kernel
theorem dX5_lays_107 : decode cX5_lays 107 = .ok (.iaload, 1) := by decide +kernel
theorem dX5_lays_108 : decode cX5_lays 108 = .ok (.aload_n 0, 1) := by decide +kernel
theorem dX5_lays_109 : decode cX5_lays 109 = .ok (.getfield 17, 3) := by decide +kernel
theorem dX5_lays_112 : decode cX5_lays 112 = .ok (.iload_n 1, 1) := by decide +kernel
theorem dX5_lays_113 : decode cX5_lays 113 = .ok (.iaload, 1) := by decide +kernel
theorem dX5_lays_114 : decode cX5_lays 114 = .ok (.aload_n 0, 1) := by decide +kernel
theorem dX5_lays_115 : decode cX5_lays 115 = .ok (.getfield 26, 3) := by decide +kernel
theorem dX5_lays_118 : decode cX5_lays 118 = .ok (.iload_n 1, 1) := by decide +kernel
theorem dX5_lays_119 : decode cX5_lays 119 = .ok (.iaload, 1) := by decide +kernel
theorem dX5_lays_120 : decode cX5_lays 120 = .ok (.i2l, 1) := by decide +kernel
theorem dX5_lays_121 : decode cX5_lays 121 = .ok (.invokevirtual 75, 3) := by decide +kernel
theorem dX5_lays_124 : decode cX5_lays 124 = .ok (.aload_n 0, 1) := by decide +kernel
theorem dX5_lays_125 : decode cX5_lays 125 = .ok (.aload_n 0, 1) := by decide +kernel
theorem dX5_lays_126 : decode cX5_lays 126 = .ok (.getfield 20, 3) := by decide +kernel
theorem dX5_lays_129 : decode cX5_lays 129 = .ok (.iload_n 1, 1) := by decide +kernel
theorem dX5_lays_130 : decode cX5_lays 130 = .ok (.iaload, 1) := by decide +kernel
theorem dX5_lays_131 : decode cX5_lays 131 = .ok (.aload_n 0, 1) := by decide +kernel
theorem dX5_lays_132 : decode cX5_lays 132 = .ok (.getfield 20, 3) := by decide +kernel
theorem dX5_lays_135 : decode cX5_lays 135 = .ok (.iload_n 1, 1) := by decide +kernel
theorem dX5_lays_136 : decode cX5_lays 136 = .ok (.iaload, 1) := by decide +kernel
theorem dX5_lays_137 : decode cX5_lays 137 = .ok (.aload_n 0, 1) := by decide +kernel
theorem dX5_lays_138 : decode cX5_lays 138 = .ok (.getfield 26, 3) := by decide +kernel
theorem dX5_lays_141 : decode cX5_lays 141 = .ok (.iload_n 1, 1) := by decide +kernel
theorem dX5_lays_142 : decode cX5_lays 142 = .ok (.iaload, 1) := by decide +kernel
theorem dX5_lays_143 : decode cX5_lays 143 = .ok (.i2l, 1) := by decide +kernel
theorem dX5_lays_144 : decode cX5_lays 144 = .ok (.invokevirtual 75, 3) := by decide +kernel
theorem dX5_lays_147 : decode cX5_lays 147 = .ok (.aload_n 0, 1) := by decide +kernel
theorem dX5_lays_148 : decode cX5_lays 148 = .ok (.aload_n 0, 1) := by decide +kernel
theorem dX5_lays_149 : decode cX5_lays 149 = .ok (.getfield 17, 3) := by decide +kernel
theorem dX5_lays_152 : decode cX5_lays 152 = .ok (.iload_n 1, 1) := by decide +kernel
theorem dX5_lays_153 : decode cX5_lays 153 = .ok (.iaload, 1) := by decide +kernel
theorem dX5_lays_154 : decode cX5_lays 154 = .ok (.aload_n 0, 1) := by decide +kernel
theorem dX5_lays_155 : decode cX5_lays 155 = .ok (.getfield 20, 3) := by decide +kernel
theorem dX5_lays_158 : decode cX5_lays 158 = .ok (.iload_n 1, 1) := by decide +kernel
theorem dX5_lays_159 : decode cX5_lays 159 = .ok (.iaload, 1) := by decide +kernel
theorem dX5_lays_160 : decode cX5_lays 160 = .ok (.aload_n 0, 1) := by decide +kernel
theorem dX5_lays_161 : decode cX5_lays 161 = .ok (.getfield 26, 3) := by decide +kernel
theorem dX5_lays_164 : decode cX5_lays 164 = .ok (.iload_n 1, 1) := by decide +kernel
theorem dX5_lays_165 : decode cX5_lays 165 = .ok (.iaload, 1) := by decide +kernel
theorem dX5_lays_166 : decode cX5_lays 166 = .ok (.ineg, 1) := by decide +kernel
theorem dX5_lays_167 : decode cX5_lays 167 = .ok (.i2l, 1) := by decide +kernel
theorem dX5_lays_168 : decode cX5_lays 168 = .ok (.invokevirtual 75, 3) := by decide +kernel
theorem dX5_lays_171 : decode cX5_lays 171 = .ok (.aload_n 0, 1) := by decide +kernel
theorem dX5_lays_172 : decode cX5_lays 172 = .ok (.aload_n 0, 1) := by decide +kernel
theorem dX5_lays_173 : decode cX5_lays 173 = .ok (.getfield 20, 3) := by decide +kernel
theorem dX5_lays_176 : decode cX5_lays 176 = .ok (.iload_n 1, 1) := by decide +kernel
theorem dX5_lays_177 : decode cX5_lays 177 = .ok (.iaload, 1) := by decide +kernel
theorem dX5_lays_178 : decode cX5_lays 178 = .ok (.aload_n 0, 1) := by decide +kernel
theorem dX5_lays_179 : decode cX5_lays 179 = .ok (.getfield 17, 3) := by decide +kernel
theorem dX5_lays_182 : decode cX5_lays 182 = .ok (.iload_n 1, 1) := by decide +kernel
theorem dX5_lays_183 : decode cX5_lays 183 = .ok (.iaload, 1) := by decide +kernel
theorem dX5_lays_184 : decode cX5_lays 184 = .ok (.aload_n 0, 1) := by decide +kernel
theorem dX5_lays_185 : decode cX5_lays 185 = .ok (.getfield 26, 3) := by decide +kernel
theorem dX5_lays_188 : decode cX5_lays 188 = .ok (.iload_n 1, 1) := by decide +kernel
theorem dX5_lays_189 : decode cX5_lays 189 = .ok (.iaload, 1) := by decide +kernel
theorem dX5_lays_190 : decode cX5_lays 190 = .ok (.ineg, 1) := by decide +kernel
theorem dX5_lays_191 : decode cX5_lays 191 = .ok (.i2l, 1) := by decide +kernel
theorem dX5_lays_192 : decode cX5_lays 192 = .ok (.invokevirtual 75, 3) := by decide +kernel
theorem dX5_lays_195 : decode cX5_lays 195 = .ok (.iinc 1 1, 3) := by decide +kernel
theorem dX5_lays_198 : decode cX5_lays 198 = .ok (.goto (-128), 3) := by decide +kernel
theorem dX5_lays_201 : decode cX5_lays 201 = .ok (.return_, 1) := by decide +kernel
set_option maxRecDepth 20000 in
theorem ggX5_laysDifferences_X5_adds : GoodIn wsX5_laysDifferences wsX5_adds := goodIn_r _ [12, 13, 14, 15, 16, 17, 18, 19, 20, 21, 22, 23, 24, 25, 26, 27, 28, 29, 30, 31, 32] (by decide +kernel) (by decide +kernel)
set_option maxRecDepth 20000 in
theorem gX5_laysDifferences_X5_adds : GoodIn wsX5_laysDifferences (wsV RX5 75 RX5 yX5_adds wsX5_adds) := goodIn_app (goodIn_of _ (by decide +kernel)) ggX5_laysDifferences_X5_adds
theorem dX5_laysDifferences_0 : decode cX5_laysDifferences 0 = .ok (.iconst 0, 1) := by decide +kernel
theorem dX5_laysDifferences_1 : decode cX5_laysDifferences 1 = .ok (.istore_n 1, 1) := by decide +kernel
theorem dX5_laysDifferences_2 : decode cX5_laysDifferences 2 = .ok (.iload_n 1, 1) := by decide +kernel
theorem dX5_laysDifferences_3 : decode cX5_laysDifferences 3 = .ok (.aload_n 0, 1) := by decide +kernel
theorem dX5_laysDifferences_4 : decode cX5_laysDifferences 4 = .ok (.getfield 59, 3) := by decide +kernel
theorem dX5_laysDifferences_7 : decode cX5_laysDifferences 7 = .ok (.if_icmp .ge 87, 3) := by decide +kernel
theorem dX5_laysDifferences_10 : decode cX5_laysDifferences 10 = .ok (.aload_n 0, 1) := by decide +kernel
theorem dX5_laysDifferences_11 : decode cX5_laysDifferences 11 = .ok (.getfield 29, 3) := by decide +kernel
theorem dX5_laysDifferences_14 : decode cX5_laysDifferences 14 = .ok (.iload_n 1, 1) := by decide +kernel
theorem dX5_laysDifferences_15 : decode cX5_laysDifferences 15 = .ok (.baload, 1) := by decide +kernel
theorem dX5_laysDifferences_16 : decode cX5_laysDifferences 16 = .ok (.ifCond .ne 72, 3) := by decide +kernel
theorem dX5_laysDifferences_19 : decode cX5_laysDifferences 19 = .ok (.aload_n 0, 1) := by decide +kernel
theorem dX5_laysDifferences_20 : decode cX5_laysDifferences 20 = .ok (.getfield 35, 3) := by decide +kernel
theorem dX5_laysDifferences_23 : decode cX5_laysDifferences 23 = .ok (.aload_n 0, 1) := by decide +kernel
theorem dX5_laysDifferences_24 : decode cX5_laysDifferences 24 = .ok (.getfield 17, 3) := by decide +kernel
theorem dX5_laysDifferences_27 : decode cX5_laysDifferences 27 = .ok (.iload_n 1, 1) := by decide +kernel
theorem dX5_laysDifferences_28 : decode cX5_laysDifferences 28 = .ok (.iaload, 1) := by decide +kernel
theorem dX5_laysDifferences_29 : decode cX5_laysDifferences 29 = .ok (.baload, 1) := by decide +kernel
theorem dX5_laysDifferences_30 : decode cX5_laysDifferences 30 = .ok (.ifCond .eq 58, 3) := by decide +kernel
theorem dX5_laysDifferences_33 : decode cX5_laysDifferences 33 = .ok (.aload_n 0, 1) := by decide +kernel
theorem dX5_laysDifferences_34 : decode cX5_laysDifferences 34 = .ok (.aload_n 0, 1) := by decide +kernel
theorem dX5_laysDifferences_35 : decode cX5_laysDifferences 35 = .ok (.getfield 20, 3) := by decide +kernel
theorem dX5_laysDifferences_38 : decode cX5_laysDifferences 38 = .ok (.iload_n 1, 1) := by decide +kernel
theorem dX5_laysDifferences_39 : decode cX5_laysDifferences 39 = .ok (.iaload, 1) := by decide +kernel
theorem dX5_laysDifferences_40 : decode cX5_laysDifferences 40 = .ok (.bipush 6, 2) := by decide +kernel
theorem dX5_laysDifferences_42 : decode cX5_laysDifferences 42 = .ok (.aload_n 0, 1) := by decide +kernel
theorem dX5_laysDifferences_43 : decode cX5_laysDifferences 43 = .ok (.getfield 26, 3) := by decide +kernel
theorem dX5_laysDifferences_46 : decode cX5_laysDifferences 46 = .ok (.iload_n 1, 1) := by decide +kernel
theorem dX5_laysDifferences_47 : decode cX5_laysDifferences 47 = .ok (.iaload, 1) := by decide +kernel
theorem dX5_laysDifferences_48 : decode cX5_laysDifferences 48 = .ok (.i2l, 1) := by decide +kernel
theorem dX5_laysDifferences_49 : decode cX5_laysDifferences 49 = .ok (.aload_n 0, 1) := by decide +kernel
theorem dX5_laysDifferences_50 : decode cX5_laysDifferences 50 = .ok (.getfield 23, 3) := by decide +kernel
theorem dX5_laysDifferences_53 : decode cX5_laysDifferences 53 = .ok (.iload_n 1, 1) := by decide +kernel
theorem dX5_laysDifferences_54 : decode cX5_laysDifferences 54 = .ok (.iaload, 1) := by decide +kernel
theorem dX5_laysDifferences_55 : decode cX5_laysDifferences 55 = .ok (.i2l, 1) := by decide +kernel
theorem dX5_laysDifferences_56 : decode cX5_laysDifferences 56 = .ok (.lmul, 1) := by decide +kernel
theorem dX5_laysDifferences_57 : decode cX5_laysDifferences 57 = .ok (.invokevirtual 75, 3) := by decide +kernel
theorem dX5_laysDifferences_60 : decode cX5_laysDifferences 60 = .ok (.aload_n 0, 1) := by decide +kernel
theorem dX5_laysDifferences_61 : decode cX5_laysDifferences 61 = .ok (.aload_n 0, 1) := by decide +kernel
theorem dX5_laysDifferences_62 : decode cX5_laysDifferences 62 = .ok (.getfield 17, 3) := by decide +kernel
theorem dX5_laysDifferences_65 : decode cX5_laysDifferences 65 = .ok (.iload_n 1, 1) := by decide +kernel
theorem dX5_laysDifferences_66 : decode cX5_laysDifferences 66 = .ok (.iaload, 1) := by decide +kernel
theorem dX5_laysDifferences_67 : decode cX5_laysDifferences 67 = .ok (.bipush 6, 2) := by decide +kernel
theorem dX5_laysDifferences_69 : decode cX5_laysDifferences 69 = .ok (.aload_n 0, 1) := by decide +kernel
theorem dX5_laysDifferences_70 : decode cX5_laysDifferences 70 = .ok (.getfield 26, 3) := by decide +kernel
theorem dX5_laysDifferences_73 : decode cX5_laysDifferences 73 = .ok (.iload_n 1, 1) := by decide +kernel
theorem dX5_laysDifferences_74 : decode cX5_laysDifferences 74 = .ok (.iaload, 1) := by decide +kernel
theorem dX5_laysDifferences_75 : decode cX5_laysDifferences 75 = .ok (.ineg, 1) := by decide +kernel
theorem dX5_laysDifferences_76 : decode cX5_laysDifferences 76 = .ok (.i2l, 1) := by decide +kernel
theorem dX5_laysDifferences_77 : decode cX5_laysDifferences 77 = .ok (.aload_n 0, 1) := by decide +kernel
theorem dX5_laysDifferences_78 : decode cX5_laysDifferences 78 = .ok (.getfield 23, 3) := by decide +kernel
theorem dX5_laysDifferences_81 : decode cX5_laysDifferences 81 = .ok (.iload_n 1, 1) := by decide +kernel
theorem dX5_laysDifferences_82 : decode cX5_laysDifferences 82 = .ok (.iaload, 1) := by decide +kernel
theorem dX5_laysDifferences_83 : decode cX5_laysDifferences 83 = .ok (.i2l, 1) := by decide +kernel
theorem dX5_laysDifferences_84 : decode cX5_laysDifferences 84 = .ok (.lmul, 1) := by decide +kernel
theorem dX5_laysDifferences_85 : decode cX5_laysDifferences 85 = .ok (.invokevirtual 75, 3) := by decide +kernel
theorem dX5_laysDifferences_88 : decode cX5_laysDifferences 88 = .ok (.iinc 1 1, 3) := by decide +kernel
theorem dX5_laysDifferences_91 : decode cX5_laysDifferences 91 = .ok (.goto (-89), 3) := by decide +kernel
theorem dX5_laysDifferences_94 : decode cX5_laysDifferences 94 = .ok (.return_, 1) := by decide +kernel
theorem dX5_solves_0 : decode cX5_solves 0 = .ok (.lconst 1, 1) := by decide +kernel
theorem dX5_solves_1 : decode cX5_solves 1 = .ok (.lstore_n 1, 1) := by decide +kernel
theorem dX5_solves_2 : decode cX5_solves 2 = .ok (.iconst 0, 1) := by decide +kernel
theorem dX5_solves_3 : decode cX5_solves 3 = .ok (.istore_n 3, 1) := by decide +kernel
theorem dX5_solves_4 : decode cX5_solves 4 = .ok (.iload_n 3, 1) := by decide +kernel
theorem dX5_solves_5 : decode cX5_solves 5 = .ok (.bipush 6, 2) := by decide +kernel
theorem dX5_solves_7 : decode cX5_solves 7 = .ok (.if_icmp .ge 122, 3) := by decide +kernel
theorem dX5_solves_10 : decode cX5_solves 10 = .ok (.aload_n 0, 1) := by decide +kernel
theorem dX5_solves_11 : decode cX5_solves 11 = .ok (.getfield 38, 3) := by decide +kernel
theorem dX5_solves_14 : decode cX5_solves 14 = .ok (.bipush 7, 2) := by decide +kernel
theorem dX5_solves_16 : decode cX5_solves 16 = .ok (.iload_n 3, 1) := by decide +kernel
theorem dX5_solves_17 : decode cX5_solves 17 = .ok (.imul, 1) := by decide +kernel
theorem dX5_solves_18 : decode cX5_solves 18 = .ok (.iload_n 3, 1) := by decide +kernel
theorem dX5_solves_19 : decode cX5_solves 19 = .ok (.iadd, 1) := by decide +kernel
theorem dX5_solves_20 : decode cX5_solves 20 = .ok (.laload, 1) := by decide +kernel
theorem dX5_solves_21 : decode cX5_solves 21 = .ok (.lstore 4, 2) := by decide +kernel
theorem dX5_solves_23 : decode cX5_solves 23 = .ok (.iconst 0, 1) := by decide +kernel
theorem dX5_solves_24 : decode cX5_solves 24 = .ok (.istore 6, 2) := by decide +kernel
theorem dX5_solves_26 : decode cX5_solves 26 = .ok (.iload 6, 2) := by decide +kernel
theorem dX5_solves_28 : decode cX5_solves 28 = .ok (.bipush 6, 2) := by decide +kernel
theorem dX5_solves_30 : decode cX5_solves 30 = .ok (.if_icmp .ge 90, 3) := by decide +kernel
theorem dX5_solves_33 : decode cX5_solves 33 = .ok (.aload_n 0, 1) := by decide +kernel
theorem dX5_solves_34 : decode cX5_solves 34 = .ok (.getfield 38, 3) := by decide +kernel
theorem dX5_solves_37 : decode cX5_solves 37 = .ok (.bipush 7, 2) := by decide +kernel
theorem dX5_solves_39 : decode cX5_solves 39 = .ok (.iload 6, 2) := by decide +kernel
theorem dX5_solves_41 : decode cX5_solves 41 = .ok (.imul, 1) := by decide +kernel
theorem dX5_solves_42 : decode cX5_solves 42 = .ok (.iload_n 3, 1) := by decide +kernel
theorem dX5_solves_43 : decode cX5_solves 43 = .ok (.iadd, 1) := by decide +kernel
theorem dX5_solves_44 : decode cX5_solves 44 = .ok (.laload, 1) := by decide +kernel
theorem dX5_solves_45 : decode cX5_solves 45 = .ok (.lstore 7, 2) := by decide +kernel
theorem dX5_solves_47 : decode cX5_solves 47 = .ok (.iconst 0, 1) := by decide +kernel
theorem dX5_solves_48 : decode cX5_solves 48 = .ok (.istore 9, 2) := by decide +kernel
theorem dX5_solves_50 : decode cX5_solves 50 = .ok (.iload 9, 2) := by decide +kernel
theorem dX5_solves_52 : decode cX5_solves 52 = .ok (.bipush 7, 2) := by decide +kernel
theorem dX5_solves_54 : decode cX5_solves 54 = .ok (.if_icmp .ge 60, 3) := by decide +kernel
theorem dX5_solves_57 : decode cX5_solves 57 = .ok (.iload 6, 2) := by decide +kernel
theorem dX5_solves_59 : decode cX5_solves 59 = .ok (.iload_n 3, 1) := by decide +kernel
theorem dX5_solves_60 : decode cX5_solves 60 = .ok (.if_icmp .eq 54, 3) := by decide +kernel
theorem dX5_solves_63 : decode cX5_solves 63 = .ok (.bipush 7, 2) := by decide +kernel
theorem dX5_solves_65 : decode cX5_solves 65 = .ok (.iload 6, 2) := by decide +kernel
theorem dX5_solves_67 : decode cX5_solves 67 = .ok (.imul, 1) := by decide +kernel
theorem dX5_solves_68 : decode cX5_solves 68 = .ok (.iload 9, 2) := by decide +kernel
theorem dX5_solves_70 : decode cX5_solves 70 = .ok (.iadd, 1) := by decide +kernel
theorem dX5_solves_71 : decode cX5_solves 71 = .ok (.istore 10, 2) := by decide +kernel
theorem dX5_solves_73 : decode cX5_solves 73 = .ok (.aload_n 0, 1) := by decide +kernel
theorem dX5_solves_74 : decode cX5_solves 74 = .ok (.getfield 38, 3) := by decide +kernel
theorem dX5_solves_77 : decode cX5_solves 77 = .ok (.iload 10, 2) := by decide +kernel
theorem dX5_solves_79 : decode cX5_solves 79 = .ok (.lload 4, 2) := by decide +kernel
theorem dX5_solves_81 : decode cX5_solves 81 = .ok (.aload_n 0, 1) := by decide +kernel
theorem dX5_solves_82 : decode cX5_solves 82 = .ok (.getfield 38, 3) := by decide +kernel
theorem dX5_solves_85 : decode cX5_solves 85 = .ok (.iload 10, 2) := by decide +kernel
theorem dX5_solves_87 : decode cX5_solves 87 = .ok (.laload, 1) := by decide +kernel
theorem dX5_solves_88 : decode cX5_solves 88 = .ok (.lmul, 1) := by decide +kernel
theorem dX5_solves_89 : decode cX5_solves 89 = .ok (.lload 7, 2) := by decide +kernel
theorem dX5_solves_91 : decode cX5_solves 91 = .ok (.aload_n 0, 1) := by decide +kernel
theorem dX5_solves_92 : decode cX5_solves 92 = .ok (.getfield 38, 3) := by decide +kernel
theorem dX5_solves_95 : decode cX5_solves 95 = .ok (.bipush 7, 2) := by decide +kernel
theorem dX5_solves_97 : decode cX5_solves 97 = .ok (.iload_n 3, 1) := by decide +kernel
theorem dX5_solves_98 : decode cX5_solves 98 = .ok (.imul, 1) := by decide +kernel
theorem dX5_solves_99 : decode cX5_solves 99 = .ok (.iload 9, 2) := by decide +kernel
theorem dX5_solves_101 : decode cX5_solves 101 = .ok (.iadd, 1) := by decide +kernel
theorem dX5_solves_102 : decode cX5_solves 102 = .ok (.laload, 1) := by decide +kernel
theorem dX5_solves_103 : decode cX5_solves 103 = .ok (.lmul, 1) := by decide +kernel
theorem dX5_solves_104 : decode cX5_solves 104 = .ok (.lsub, 1) := by decide +kernel
theorem dX5_solves_105 : decode cX5_solves 105 = .ok (.lload_n 1, 1) := by decide +kernel
theorem dX5_solves_106 : decode cX5_solves 106 = .ok (.ldiv, 1) := by decide +kernel
theorem dX5_solves_107 : decode cX5_solves 107 = .ok (.lastore, 1) := by decide +kernel
theorem dX5_solves_108 : decode cX5_solves 108 = .ok (.iinc 9 1, 3) := by decide +kernel
theorem dX5_solves_111 : decode cX5_solves 111 = .ok (.goto (-61), 3) := by decide +kernel
theorem dX5_solves_114 : decode cX5_solves 114 = .ok (.iinc 6 1, 3) := by decide +kernel
theorem dX5_solves_117 : decode cX5_solves 117 = .ok (.goto (-91), 3) := by decide +kernel
theorem dX5_solves_120 : decode cX5_solves 120 = .ok (.lload 4, 2) := by decide +kernel
theorem dX5_solves_122 : decode cX5_solves 122 = .ok (.lstore_n 1, 1) := by decide +kernel
theorem dX5_solves_123 : decode cX5_solves 123 = .ok (.iinc 3 1, 3) := by decide +kernel
theorem dX5_solves_126 : decode cX5_solves 126 = .ok (.goto (-122), 3) := by decide +kernel
theorem dX5_solves_129 : decode cX5_solves 129 = .ok (.aload_n 0, 1) := by decide +kernel
theorem dX5_solves_130 : decode cX5_solves 130 = .ok (.lload_n 1, 1) := by decide +kernel
theorem dX5_solves_131 : decode cX5_solves 131 = .ok (.putfield 79, 3) := by decide +kernel
theorem dX5_solves_134 : decode cX5_solves 134 = .ok (.iconst 0, 1) := by decide +kernel
theorem dX5_solves_135 : decode cX5_solves 135 = .ok (.istore_n 3, 1) := by decide +kernel
theorem dX5_solves_136 : decode cX5_solves 136 = .ok (.iload_n 3, 1) := by decide +kernel
theorem dX5_solves_137 : decode cX5_solves 137 = .ok (.bipush 6, 2) := by decide +kernel
theorem dX5_solves_139 : decode cX5_solves 139 = .ok (.if_icmp .ge 40, 3) := by decide +kernel
theorem dX5_solves_142 : decode cX5_solves 142 = .ok (.aload_n 0, 1) := by decide +kernel
theorem dX5_solves_143 : decode cX5_solves 143 = .ok (.getfield 42, 3) := by decide +kernel
theorem dX5_solves_146 : decode cX5_solves 146 = .ok (.iload_n 3, 1) := by decide +kernel
theorem dX5_solves_147 : decode cX5_solves 147 = .ok (.aload_n 0, 1) := by decide +kernel
theorem dX5_solves_148 : decode cX5_solves 148 = .ok (.getfield 35, 3) := by decide +kernel
theorem dX5_solves_151 : decode cX5_solves 151 = .ok (.iload_n 3, 1) := by decide +kernel
theorem dX5_solves_152 : decode cX5_solves 152 = .ok (.baload, 1) := by decide +kernel
theorem dX5_solves_153 : decode cX5_solves 153 = .ok (.ifCond .eq 18, 3) := by decide +kernel
theorem dX5_solves_156 : decode cX5_solves 156 = .ok (.aload_n 0, 1) := by decide +kernel
theorem dX5_solves_157 : decode cX5_solves 157 = .ok (.getfield 38, 3) := by decide +kernel
theorem dX5_solves_160 : decode cX5_solves 160 = .ok (.bipush 7, 2) := by decide +kernel
theorem dX5_solves_162 : decode cX5_solves 162 = .ok (.iload_n 3, 1) := by decide +kernel
theorem dX5_solves_163 : decode cX5_solves 163 = .ok (.imul, 1) := by decide +kernel
theorem dX5_solves_164 : decode cX5_solves 164 = .ok (.bipush 6, 2) := by decide +kernel
theorem dX5_solves_166 : decode cX5_solves 166 = .ok (.iadd, 1) := by decide +kernel
theorem dX5_solves_167 : decode cX5_solves 167 = .ok (.laload, 1) := by decide +kernel
theorem dX5_solves_168 : decode cX5_solves 168 = .ok (.goto 4, 3) := by decide +kernel
theorem dX5_solves_171 : decode cX5_solves 171 = .ok (.lconst 0, 1) := by decide +kernel
theorem dX5_solves_172 : decode cX5_solves 172 = .ok (.lastore, 1) := by decide +kernel
theorem dX5_solves_173 : decode cX5_solves 173 = .ok (.iinc 3 1, 3) := by decide +kernel
theorem dX5_solves_176 : decode cX5_solves 176 = .ok (.goto (-40), 3) := by decide +kernel
theorem dX5_solves_179 : decode cX5_solves 179 = .ok (.return_, 1) := by decide +kernel
set_option maxRecDepth 20000 in
theorem ggX5_finds_X5_reaches : GoodIn wsX5_finds wsX5_reaches := goodIn_r _ [5, 6, 7, 8, 9, 10, 11, 12, 13, 35, 36, 37, 38, 39, 40, 41, 42, 43, 44, 45, 46, 47, 48, 49, 50, 51, 52] (by decide +kernel) (by decide +kernel)
set_option maxRecDepth 20000 in
theorem gX5_finds_X5_reaches : GoodIn wsX5_finds (wsV RX5 83 RX5 yX5_reaches wsX5_reaches) := goodIn_app (goodIn_of _ (by decide +kernel)) ggX5_finds_X5_reaches
set_option maxRecDepth 20000 in
theorem ggX5_finds_X5_lays : GoodIn wsX5_finds wsX5_lays := goodIn_r _ [17, 18, 6, 11, 7, 8, 9, 19, 10, 20, 21, 22, 4, 23, 35, 36, 37, 38, 39, 40, 41, 42, 43, 44, 45, 46, 47, 48, 49, 50, 51, 52] (by decide +kernel) (by decide +kernel)
set_option maxRecDepth 20000 in
theorem gX5_finds_X5_lays : GoodIn wsX5_finds (wsV RX5 87 RX5 yX5_lays wsX5_lays) := goodIn_app (goodIn_of _ (by decide +kernel)) ggX5_finds_X5_lays
set_option maxRecDepth 20000 in
theorem ggX5_finds_X5_laysDifferences : GoodIn wsX5_finds wsX5_laysDifferences := goodIn_r _ [27, 7, 8, 6, 9, 10, 19, 28, 20, 21, 22, 4, 23, 11, 18, 35, 36, 37, 38, 39, 40, 41, 42, 43, 44, 45, 46, 47, 48, 49, 50, 51, 52] (by decide +kernel) (by decide +kernel)
set_option maxRecDepth 20000 in
theorem gX5_finds_X5_laysDifferences : GoodIn wsX5_finds (wsV RX5 90 RX5 yX5_laysDifferences wsX5_laysDifferences) := goodIn_app (goodIn_of _ (by decide +kernel)) ggX5_finds_X5_laysDifferences
set_option maxRecDepth 20000 in
theorem ggX5_finds_X5_solves : GoodIn wsX5_finds wsX5_solves := goodIn_r _ [32, 18, 33, 34, 6, 35, 36, 37, 38, 39, 40, 41, 42, 43, 44, 45, 46, 47, 48, 49, 50, 51, 52] (by decide +kernel) (by decide +kernel)
set_option maxRecDepth 20000 in
theorem gX5_finds_X5_solves : GoodIn wsX5_finds (wsV RX5 93 RX5 yX5_solves wsX5_solves) := goodIn_app (goodIn_of _ (by decide +kernel)) ggX5_finds_X5_solves
theorem dX5_finds_0 : decode cX5_finds 0 = .ok (.aload_n 0, 1) := by decide +kernel
theorem dX5_finds_1 : decode cX5_finds 1 = .ok (.iload_n 1, 1) := by decide +kernel
theorem dX5_finds_2 : decode cX5_finds 2 = .ok (.invokevirtual 83, 3) := by decide +kernel
theorem dX5_finds_5 : decode cX5_finds 5 = .ok (.aload_n 0, 1) := by decide +kernel
theorem dX5_finds_6 : decode cX5_finds 6 = .ok (.invokevirtual 87, 3) := by decide +kernel
theorem dX5_finds_9 : decode cX5_finds 9 = .ok (.aload_n 0, 1) := by decide +kernel
theorem dX5_finds_10 : decode cX5_finds 10 = .ok (.invokevirtual 90, 3) := by decide +kernel
theorem dX5_finds_13 : decode cX5_finds 13 = .ok (.aload_n 0, 1) := by decide +kernel
theorem dX5_finds_14 : decode cX5_finds 14 = .ok (.invokevirtual 93, 3) := by decide +kernel
theorem dX5_finds_17 : decode cX5_finds 17 = .ok (.return_, 1) := by decide +kernel
theorem dX5_floor_0 : decode cX5_floor 0 = .ok (.lload_n 0, 1) := by decide +kernel
theorem dX5_floor_1 : decode cX5_floor 1 = .ok (.lload_n 2, 1) := by decide +kernel
theorem dX5_floor_2 : decode cX5_floor 2 = .ok (.ldiv, 1) := by decide +kernel
theorem dX5_floor_3 : decode cX5_floor 3 = .ok (.lstore 4, 2) := by decide +kernel
theorem dX5_floor_5 : decode cX5_floor 5 = .ok (.lload 4, 2) := by decide +kernel
theorem dX5_floor_7 : decode cX5_floor 7 = .ok (.lload_n 2, 1) := by decide +kernel
theorem dX5_floor_8 : decode cX5_floor 8 = .ok (.lmul, 1) := by decide +kernel
theorem dX5_floor_9 : decode cX5_floor 9 = .ok (.lload_n 0, 1) := by decide +kernel
theorem dX5_floor_10 : decode cX5_floor 10 = .ok (.lcmp, 1) := by decide +kernel
theorem dX5_floor_11 : decode cX5_floor 11 = .ok (.ifCond .le 10, 3) := by decide +kernel
theorem dX5_floor_14 : decode cX5_floor 14 = .ok (.lload 4, 2) := by decide +kernel
theorem dX5_floor_16 : decode cX5_floor 16 = .ok (.lconst 1, 1) := by decide +kernel
theorem dX5_floor_17 : decode cX5_floor 17 = .ok (.lsub, 1) := by decide +kernel
theorem dX5_floor_18 : decode cX5_floor 18 = .ok (.goto 5, 3) := by decide +kernel
theorem dX5_floor_21 : decode cX5_floor 21 = .ok (.lload 4, 2) := by decide +kernel
theorem dX5_floor_23 : decode cX5_floor 23 = .ok (.lreturn, 1) := by decide +kernel
theorem dX5_size_0 : decode cX5_size 0 = .ok (.lload_n 0, 1) := by decide +kernel
theorem dX5_size_1 : decode cX5_size 1 = .ok (.lconst 0, 1) := by decide +kernel
theorem dX5_size_2 : decode cX5_size 2 = .ok (.lcmp, 1) := by decide +kernel
theorem dX5_size_3 : decode cX5_size 3 = .ok (.ifCond .ge 8, 3) := by decide +kernel
theorem dX5_size_6 : decode cX5_size 6 = .ok (.lload_n 0, 1) := by decide +kernel
theorem dX5_size_7 : decode cX5_size 7 = .ok (.lneg, 1) := by decide +kernel
theorem dX5_size_8 : decode cX5_size 8 = .ok (.goto 4, 3) := by decide +kernel
theorem dX5_size_11 : decode cX5_size 11 = .ok (.lload_n 0, 1) := by decide +kernel
theorem dX5_size_12 : decode cX5_size 12 = .ok (.lreturn, 1) := by decide +kernel
set_option maxRecDepth 20000 in
theorem ggX5_heightOf_X5_finds : GoodIn wsX5_heightOf wsX5_finds := goodIn_r _ [10, 11, 12, 13, 9, 14, 15, 16, 17, 18, 19, 3, 20, 21, 22, 23, 24, 25, 26, 27, 28, 29, 30, 31, 32, 33, 34, 35, 36, 37, 38, 39, 40, 5, 4, 44, 45, 46, 47, 48, 49, 50, 51, 52, 53, 54, 55, 56, 57, 58, 59, 60, 61] (by decide +kernel) (by decide +kernel)
set_option maxRecDepth 20000 in
theorem gX5_heightOf_X5_finds : GoodIn wsX5_heightOf (wsV RX5 96 RX5 yX5_finds wsX5_finds) := goodIn_app (goodIn_of _ (by decide +kernel)) ggX5_heightOf_X5_finds
set_option maxRecDepth 20000 in
theorem ggX5_heightOf_X5_floor : GoodIn wsX5_heightOf wsX5_floor := goodIn_r _ [43] (by decide +kernel) (by decide +kernel)
set_option maxRecDepth 20000 in
theorem gX5_heightOf_X5_floor : GoodIn wsX5_heightOf (va_wsS RX5 101 yX5_floor wsX5_floor) := goodIn_app (goodIn_of _ (by decide +kernel)) ggX5_heightOf_X5_floor
theorem dX5_heightOf_0 : decode cX5_heightOf 0 = .ok (.aload_n 0, 1) := by decide +kernel
theorem dX5_heightOf_1 : decode cX5_heightOf 1 = .ok (.iload_n 1, 1) := by decide +kernel
theorem dX5_heightOf_2 : decode cX5_heightOf 2 = .ok (.invokevirtual 96, 3) := by decide +kernel
theorem dX5_heightOf_5 : decode cX5_heightOf 5 = .ok (.ldc2_w 99, 3) := by decide +kernel
theorem dX5_heightOf_8 : decode cX5_heightOf 8 = .ok (.aload_n 0, 1) := by decide +kernel
theorem dX5_heightOf_9 : decode cX5_heightOf 9 = .ok (.getfield 13, 3) := by decide +kernel
theorem dX5_heightOf_12 : decode cX5_heightOf 12 = .ok (.aload_n 0, 1) := by decide +kernel
theorem dX5_heightOf_13 : decode cX5_heightOf 13 = .ok (.getfield 72, 3) := by decide +kernel
theorem dX5_heightOf_16 : decode cX5_heightOf 16 = .ok (.iaload, 1) := by decide +kernel
theorem dX5_heightOf_17 : decode cX5_heightOf 17 = .ok (.i2l, 1) := by decide +kernel
theorem dX5_heightOf_18 : decode cX5_heightOf 18 = .ok (.lmul, 1) := by decide +kernel
theorem dX5_heightOf_19 : decode cX5_heightOf 19 = .ok (.ldc2_w 99, 3) := by decide +kernel
theorem dX5_heightOf_22 : decode cX5_heightOf 22 = .ok (.aload_n 0, 1) := by decide +kernel
theorem dX5_heightOf_23 : decode cX5_heightOf 23 = .ok (.getfield 42, 3) := by decide +kernel
theorem dX5_heightOf_26 : decode cX5_heightOf 26 = .ok (.iload_n 1, 1) := by decide +kernel
theorem dX5_heightOf_27 : decode cX5_heightOf 27 = .ok (.laload, 1) := by decide +kernel
theorem dX5_heightOf_28 : decode cX5_heightOf 28 = .ok (.lmul, 1) := by decide +kernel
theorem dX5_heightOf_29 : decode cX5_heightOf 29 = .ok (.aload_n 0, 1) := by decide +kernel
theorem dX5_heightOf_30 : decode cX5_heightOf 30 = .ok (.getfield 79, 3) := by decide +kernel
theorem dX5_heightOf_33 : decode cX5_heightOf 33 = .ok (.invokestatic 101, 3) := by decide +kernel
theorem dX5_heightOf_36 : decode cX5_heightOf 36 = .ok (.ladd, 1) := by decide +kernel
theorem dX5_heightOf_37 : decode cX5_heightOf 37 = .ok (.lreturn, 1) := by decide +kernel
set_option maxRecDepth 20000 in
theorem ggX5_height_X5_isStation : GoodIn wsX5_height wsX5_isStation := goodIn_r _ [5, 6, 7, 8, 4, 9, 60, 61, 62, 63, 64, 65, 66, 67, 68, 69, 70, 71, 72, 73, 74, 75, 76, 77] (by decide +kernel) (by decide +kernel)
set_option maxRecDepth 20000 in
theorem gX5_height_X5_isStation : GoodIn wsX5_height (wsV RX5 66 RX5 yX5_isStation wsX5_isStation) := goodIn_app (goodIn_of _ (by decide +kernel)) ggX5_height_X5_isStation
set_option maxRecDepth 20000 in
theorem ggX5_height_X5_goes : GoodIn wsX5_height wsX5_goes := goodIn_r _ [13, 14, 60, 61, 62, 63, 64, 65, 66, 67, 68, 69, 70, 71, 72, 73, 74, 75, 76, 77] (by decide +kernel) (by decide +kernel)
set_option maxRecDepth 20000 in
theorem gX5_height_X5_goes : GoodIn wsX5_height (wsV RX5 62 RX5 yX5_goes wsX5_goes) := goodIn_app (goodIn_of _ (by decide +kernel)) ggX5_height_X5_goes
set_option maxRecDepth 20000 in
theorem ggX5_height_X5_heightOf : GoodIn wsX5_height wsX5_heightOf := goodIn_r _ [18, 19, 20, 21, 22, 23, 24, 25, 26, 4, 27, 28, 29, 30, 31, 32, 33, 34, 35, 36, 6, 37, 38, 39, 40, 41, 42, 43, 44, 45, 46, 47, 48, 49, 50, 51, 52, 53, 54, 55, 56, 57, 58, 59, 60, 61, 62, 63, 64, 65, 66, 67, 68, 69, 70, 71, 72, 73, 74, 75, 76, 77] (by decide +kernel) (by decide +kernel)
set_option maxRecDepth 20000 in
theorem gX5_height_X5_heightOf : GoodIn wsX5_height (wsV RX5 105 RX5 yX5_heightOf wsX5_heightOf) := goodIn_app (goodIn_of _ (by decide +kernel)) ggX5_height_X5_heightOf
theorem dX5_height_0 : decode cX5_height 0 = .ok (.aload_n 0, 1) := by decide +kernel
theorem dX5_height_1 : decode cX5_height 1 = .ok (.aload_n 0, 1) := by decide +kernel
theorem dX5_height_2 : decode cX5_height 2 = .ok (.iload_n 1, 1) := by decide +kernel
theorem dX5_height_3 : decode cX5_height 3 = .ok (.invokevirtual 66, 3) := by decide +kernel
theorem dX5_height_6 : decode cX5_height 6 = .ok (.ifCond .eq 7, 3) := by decide +kernel
theorem dX5_height_9 : decode cX5_height 9 = .ok (.iconst 0, 1) := by decide +kernel
theorem dX5_height_10 : decode cX5_height 10 = .ok (.goto 4, 3) := by decide +kernel
theorem dX5_height_13 : decode cX5_height 13 = .ok (.iconst 1, 1) := by decide +kernel
theorem dX5_height_14 : decode cX5_height 14 = .ok (.invokevirtual 62, 3) := by decide +kernel
theorem dX5_height_17 : decode cX5_height 17 = .ok (.ifCond .eq 11, 3) := by decide +kernel
theorem dX5_height_20 : decode cX5_height 20 = .ok (.aload_n 0, 1) := by decide +kernel
theorem dX5_height_21 : decode cX5_height 21 = .ok (.iload_n 1, 1) := by decide +kernel
theorem dX5_height_22 : decode cX5_height 22 = .ok (.invokevirtual 105, 3) := by decide +kernel
theorem dX5_height_25 : decode cX5_height 25 = .ok (.goto 4, 3) := by decide +kernel
theorem dX5_height_28 : decode cX5_height 28 = .ok (.lconst 0, 1) := by decide +kernel
theorem dX5_height_29 : decode cX5_height 29 = .ok (.lreturn, 1) := by decide +kernel
set_option maxRecDepth 20000 in
theorem ggX5_heightAnew_X5_isStation : GoodIn wsX5_heightAnew wsX5_isStation := goodIn_r _ [5, 6, 7, 8, 4, 9, 60, 61, 62, 63, 64, 65, 66, 67, 68, 69, 70, 71, 72, 73, 74, 75, 76, 77] (by decide +kernel) (by decide +kernel)
set_option maxRecDepth 20000 in
theorem gX5_heightAnew_X5_isStation : GoodIn wsX5_heightAnew (wsV RX5 66 RX5 yX5_isStation wsX5_isStation) := goodIn_app (goodIn_of _ (by decide +kernel)) ggX5_heightAnew_X5_isStation
set_option maxRecDepth 20000 in
theorem ggX5_heightAnew_X5_goes : GoodIn wsX5_heightAnew wsX5_goes := goodIn_r _ [13, 14, 60, 61, 62, 63, 64, 65, 66, 67, 68, 69, 70, 71, 72, 73, 74, 75, 76, 77] (by decide +kernel) (by decide +kernel)
set_option maxRecDepth 20000 in
theorem gX5_heightAnew_X5_goes : GoodIn wsX5_heightAnew (wsV RX5 62 RX5 yX5_goes wsX5_goes) := goodIn_app (goodIn_of _ (by decide +kernel)) ggX5_heightAnew_X5_goes
set_option maxRecDepth 20000 in
theorem ggX5_heightAnew_X5_heightOf : GoodIn wsX5_heightAnew wsX5_heightOf := goodIn_r _ [18, 19, 20, 21, 22, 23, 24, 25, 26, 4, 27, 28, 29, 30, 31, 32, 33, 34, 35, 36, 6, 37, 38, 39, 40, 41, 42, 43, 44, 45, 46, 47, 48, 49, 50, 51, 52, 53, 54, 55, 56, 57, 58, 59, 60, 61, 62, 63, 64, 65, 66, 67, 68, 69, 70, 71, 72, 73, 74, 75, 76, 77] (by decide +kernel) (by decide +kernel)
set_option maxRecDepth 20000 in
theorem gX5_heightAnew_X5_heightOf : GoodIn wsX5_heightAnew (wsV RX5 105 RX5 yX5_heightOf wsX5_heightOf) := goodIn_app (goodIn_of _ (by decide +kernel)) ggX5_heightAnew_X5_heightOf
theorem dX5_heightAnew_0 : decode cX5_heightAnew 0 = .ok (.aload_n 0, 1) := by decide +kernel
theorem dX5_heightAnew_1 : decode cX5_heightAnew 1 = .ok (.aload_n 0, 1) := by decide +kernel
theorem dX5_heightAnew_2 : decode cX5_heightAnew 2 = .ok (.iload_n 1, 1) := by decide +kernel
theorem dX5_heightAnew_3 : decode cX5_heightAnew 3 = .ok (.invokevirtual 66, 3) := by decide +kernel
theorem dX5_heightAnew_6 : decode cX5_heightAnew 6 = .ok (.ifCond .eq 7, 3) := by decide +kernel
theorem dX5_heightAnew_9 : decode cX5_heightAnew 9 = .ok (.iconst 0, 1) := by decide +kernel
theorem dX5_heightAnew_10 : decode cX5_heightAnew 10 = .ok (.goto 4, 3) := by decide +kernel
theorem dX5_heightAnew_13 : decode cX5_heightAnew 13 = .ok (.iconst 1, 1) := by decide +kernel
theorem dX5_heightAnew_14 : decode cX5_heightAnew 14 = .ok (.invokevirtual 62, 3) := by decide +kernel
theorem dX5_heightAnew_17 : decode cX5_heightAnew 17 = .ok (.ifCond .eq 11, 3) := by decide +kernel
theorem dX5_heightAnew_20 : decode cX5_heightAnew 20 = .ok (.aload_n 0, 1) := by decide +kernel
theorem dX5_heightAnew_21 : decode cX5_heightAnew 21 = .ok (.iload_n 1, 1) := by decide +kernel
theorem dX5_heightAnew_22 : decode cX5_heightAnew 22 = .ok (.invokevirtual 105, 3) := by decide +kernel
theorem dX5_heightAnew_25 : decode cX5_heightAnew 25 = .ok (.goto 4, 3) := by decide +kernel
theorem dX5_heightAnew_28 : decode cX5_heightAnew 28 = .ok (.lconst 0, 1) := by decide +kernel
theorem dX5_heightAnew_29 : decode cX5_heightAnew 29 = .ok (.lreturn, 1) := by decide +kernel
set_option maxRecDepth 20000 in
theorem ggX5_free_X5_isStation : GoodIn wsX5_free wsX5_isStation := goodIn_r _ [10, 1, 11, 12, 9, 13, 55, 56, 57, 58, 59, 60, 61, 62, 63, 64, 65, 66, 67, 68, 69, 70, 71, 72] (by decide +kernel) (by decide +kernel)
set_option maxRecDepth 20000 in
theorem gX5_free_X5_isStation : GoodIn wsX5_free (wsV RX5 66 RX5 yX5_isStation wsX5_isStation) := goodIn_app (goodIn_of _ (by decide +kernel)) ggX5_free_X5_isStation
set_option maxRecDepth 20000 in
theorem ggX5_free_X5_goes : GoodIn wsX5_free wsX5_goes := goodIn_r _ [17, 18, 55, 56, 57, 58, 59, 60, 61, 62, 63, 64, 65, 66, 67, 68, 69, 70, 71, 72] (by decide +kernel) (by decide +kernel)
set_option maxRecDepth 20000 in
theorem gX5_free_X5_goes : GoodIn wsX5_free (wsV RX5 62 RX5 yX5_goes wsX5_goes) := goodIn_app (goodIn_of _ (by decide +kernel)) ggX5_free_X5_goes
set_option maxRecDepth 20000 in
theorem ggX5_free_X5_finds : GoodIn wsX5_free wsX5_finds := goodIn_r _ [22, 23, 24, 25, 9, 26, 3, 27, 28, 29, 30, 31, 1, 32, 33, 34, 35, 36, 37, 38, 39, 40, 41, 42, 43, 44, 45, 46, 47, 48, 49, 50, 51, 5, 2, 55, 56, 57, 58, 59, 60, 61, 62, 63, 64, 65, 66, 67, 68, 69, 70, 71, 72] (by decide +kernel) (by decide +kernel)
set_option maxRecDepth 20000 in
theorem gX5_free_X5_finds : GoodIn wsX5_free (wsV RX5 96 RX5 yX5_finds wsX5_finds) := goodIn_app (goodIn_of _ (by decide +kernel)) ggX5_free_X5_finds
set_option maxRecDepth 20000 in
theorem ggX5_free_X5_floor : GoodIn wsX5_free wsX5_floor := goodIn_r _ [54] (by decide +kernel) (by decide +kernel)
set_option maxRecDepth 20000 in
theorem gX5_free_X5_floor : GoodIn wsX5_free (va_wsS RX5 101 yX5_floor wsX5_floor) := goodIn_app (goodIn_of _ (by decide +kernel)) ggX5_free_X5_floor
theorem dX5_free_0 : decode cX5_free 0 = .ok (.aload_n 0, 1) := by decide +kernel
theorem dX5_free_1 : decode cX5_free 1 = .ok (.aload_n 0, 1) := by decide +kernel
theorem dX5_free_2 : decode cX5_free 2 = .ok (.iload_n 1, 1) := by decide +kernel
theorem dX5_free_3 : decode cX5_free 3 = .ok (.invokevirtual 66, 3) := by decide +kernel
theorem dX5_free_6 : decode cX5_free 6 = .ok (.ifCond .eq 7, 3) := by decide +kernel
theorem dX5_free_9 : decode cX5_free 9 = .ok (.iconst 0, 1) := by decide +kernel
theorem dX5_free_10 : decode cX5_free 10 = .ok (.goto 4, 3) := by decide +kernel
theorem dX5_free_13 : decode cX5_free 13 = .ok (.iconst 1, 1) := by decide +kernel
theorem dX5_free_14 : decode cX5_free 14 = .ok (.invokevirtual 62, 3) := by decide +kernel
theorem dX5_free_17 : decode cX5_free 17 = .ok (.ifCond .ne 5, 3) := by decide +kernel
theorem dX5_free_20 : decode cX5_free 20 = .ok (.lconst 0, 1) := by decide +kernel
theorem dX5_free_21 : decode cX5_free 21 = .ok (.lreturn, 1) := by decide +kernel
theorem dX5_free_22 : decode cX5_free 22 = .ok (.aload_n 0, 1) := by decide +kernel
theorem dX5_free_23 : decode cX5_free 23 = .ok (.iload_n 1, 1) := by decide +kernel
theorem dX5_free_24 : decode cX5_free 24 = .ok (.invokevirtual 96, 3) := by decide +kernel
theorem dX5_free_27 : decode cX5_free 27 = .ok (.lconst 0, 1) := by decide +kernel
theorem dX5_free_28 : decode cX5_free 28 = .ok (.lstore_n 2, 1) := by decide +kernel
theorem dX5_free_29 : decode cX5_free 29 = .ok (.lconst 0, 1) := by decide +kernel
theorem dX5_free_30 : decode cX5_free 30 = .ok (.lstore 4, 2) := by decide +kernel
theorem dX5_free_32 : decode cX5_free 32 = .ok (.iconst 0, 1) := by decide +kernel
theorem dX5_free_33 : decode cX5_free 33 = .ok (.istore 6, 2) := by decide +kernel
theorem dX5_free_35 : decode cX5_free 35 = .ok (.iload 6, 2) := by decide +kernel
theorem dX5_free_37 : decode cX5_free 37 = .ok (.aload_n 0, 1) := by decide +kernel
theorem dX5_free_38 : decode cX5_free 38 = .ok (.getfield 52, 3) := by decide +kernel
theorem dX5_free_41 : decode cX5_free 41 = .ok (.if_icmp .ge 39, 3) := by decide +kernel
theorem dX5_free_44 : decode cX5_free 44 = .ok (.lload_n 2, 1) := by decide +kernel
theorem dX5_free_45 : decode cX5_free 45 = .ok (.aload_n 0, 1) := by decide +kernel
theorem dX5_free_46 : decode cX5_free 46 = .ok (.getfield 42, 3) := by decide +kernel
theorem dX5_free_49 : decode cX5_free 49 = .ok (.iload 6, 2) := by decide +kernel
theorem dX5_free_51 : decode cX5_free 51 = .ok (.laload, 1) := by decide +kernel
theorem dX5_free_52 : decode cX5_free 52 = .ok (.ladd, 1) := by decide +kernel
theorem dX5_free_53 : decode cX5_free 53 = .ok (.lstore_n 2, 1) := by decide +kernel
theorem dX5_free_54 : decode cX5_free 54 = .ok (.lload 4, 2) := by decide +kernel
theorem dX5_free_56 : decode cX5_free 56 = .ok (.aload_n 0, 1) := by decide +kernel
theorem dX5_free_57 : decode cX5_free 57 = .ok (.getfield 35, 3) := by decide +kernel
theorem dX5_free_60 : decode cX5_free 60 = .ok (.iload 6, 2) := by decide +kernel
theorem dX5_free_62 : decode cX5_free 62 = .ok (.baload, 1) := by decide +kernel
theorem dX5_free_63 : decode cX5_free 63 = .ok (.ifCond .eq 7, 3) := by decide +kernel
theorem dX5_free_66 : decode cX5_free 66 = .ok (.lconst 1, 1) := by decide +kernel
theorem dX5_free_67 : decode cX5_free 67 = .ok (.goto 4, 3) := by decide +kernel
theorem dX5_free_70 : decode cX5_free 70 = .ok (.lconst 0, 1) := by decide +kernel
theorem dX5_free_71 : decode cX5_free 71 = .ok (.ladd, 1) := by decide +kernel
theorem dX5_free_72 : decode cX5_free 72 = .ok (.lstore 4, 2) := by decide +kernel
theorem dX5_free_74 : decode cX5_free 74 = .ok (.iinc 6 1, 3) := by decide +kernel
theorem dX5_free_77 : decode cX5_free 77 = .ok (.goto (-42), 3) := by decide +kernel
theorem dX5_free_80 : decode cX5_free 80 = .ok (.ldc2_w 99, 3) := by decide +kernel
theorem dX5_free_83 : decode cX5_free 83 = .ok (.lload 4, 2) := by decide +kernel
theorem dX5_free_85 : decode cX5_free 85 = .ok (.aload_n 0, 1) := by decide +kernel
theorem dX5_free_86 : decode cX5_free 86 = .ok (.getfield 42, 3) := by decide +kernel
theorem dX5_free_89 : decode cX5_free 89 = .ok (.iload_n 1, 1) := by decide +kernel
theorem dX5_free_90 : decode cX5_free 90 = .ok (.laload, 1) := by decide +kernel
theorem dX5_free_91 : decode cX5_free 91 = .ok (.lmul, 1) := by decide +kernel
theorem dX5_free_92 : decode cX5_free 92 = .ok (.lload_n 2, 1) := by decide +kernel
theorem dX5_free_93 : decode cX5_free 93 = .ok (.lsub, 1) := by decide +kernel
theorem dX5_free_94 : decode cX5_free 94 = .ok (.lmul, 1) := by decide +kernel
theorem dX5_free_95 : decode cX5_free 95 = .ok (.lload 4, 2) := by decide +kernel
theorem dX5_free_97 : decode cX5_free 97 = .ok (.aload_n 0, 1) := by decide +kernel
theorem dX5_free_98 : decode cX5_free 98 = .ok (.getfield 79, 3) := by decide +kernel
theorem dX5_free_101 : decode cX5_free 101 = .ok (.lmul, 1) := by decide +kernel
theorem dX5_free_102 : decode cX5_free 102 = .ok (.invokestatic 101, 3) := by decide +kernel
theorem dX5_free_105 : decode cX5_free 105 = .ok (.lreturn, 1) := by decide +kernel
set_option maxRecDepth 20000 in
theorem ggX5_apart_X5_finds : GoodIn wsX5_apart wsX5_finds := goodIn_r _ [10, 11, 12, 13, 9, 14, 15, 16, 17, 1, 3, 18, 19, 20, 21, 22, 23, 24, 25, 26, 27, 28, 29, 30, 31, 32, 33, 34, 4, 35, 36, 37, 38, 5, 2, 39, 40, 41, 42, 43, 44, 45, 46, 47, 48, 49, 50, 51, 52, 53, 54, 55, 56] (by decide +kernel) (by decide +kernel)
set_option maxRecDepth 20000 in
theorem gX5_apart_X5_finds : GoodIn wsX5_apart (wsV RX5 96 RX5 yX5_finds wsX5_finds) := goodIn_app (goodIn_of _ (by decide +kernel)) ggX5_apart_X5_finds
theorem dX5_apart_0 : decode cX5_apart 0 = .ok (.aload_n 0, 1) := by decide +kernel
theorem dX5_apart_1 : decode cX5_apart 1 = .ok (.aload_n 0, 1) := by decide +kernel
theorem dX5_apart_2 : decode cX5_apart 2 = .ok (.getfield 17, 3) := by decide +kernel
theorem dX5_apart_5 : decode cX5_apart 5 = .ok (.iload_n 1, 1) := by decide +kernel
theorem dX5_apart_6 : decode cX5_apart 6 = .ok (.iaload, 1) := by decide +kernel
theorem dX5_apart_7 : decode cX5_apart 7 = .ok (.invokevirtual 96, 3) := by decide +kernel
theorem dX5_apart_10 : decode cX5_apart 10 = .ok (.aload_n 0, 1) := by decide +kernel
theorem dX5_apart_11 : decode cX5_apart 11 = .ok (.getfield 42, 3) := by decide +kernel
theorem dX5_apart_14 : decode cX5_apart 14 = .ok (.aload_n 0, 1) := by decide +kernel
theorem dX5_apart_15 : decode cX5_apart 15 = .ok (.getfield 20, 3) := by decide +kernel
theorem dX5_apart_18 : decode cX5_apart 18 = .ok (.iload_n 1, 1) := by decide +kernel
theorem dX5_apart_19 : decode cX5_apart 19 = .ok (.iaload, 1) := by decide +kernel
theorem dX5_apart_20 : decode cX5_apart 20 = .ok (.laload, 1) := by decide +kernel
theorem dX5_apart_21 : decode cX5_apart 21 = .ok (.aload_n 0, 1) := by decide +kernel
theorem dX5_apart_22 : decode cX5_apart 22 = .ok (.getfield 42, 3) := by decide +kernel
theorem dX5_apart_25 : decode cX5_apart 25 = .ok (.aload_n 0, 1) := by decide +kernel
theorem dX5_apart_26 : decode cX5_apart 26 = .ok (.getfield 17, 3) := by decide +kernel
theorem dX5_apart_29 : decode cX5_apart 29 = .ok (.iload_n 1, 1) := by decide +kernel
theorem dX5_apart_30 : decode cX5_apart 30 = .ok (.iaload, 1) := by decide +kernel
theorem dX5_apart_31 : decode cX5_apart 31 = .ok (.laload, 1) := by decide +kernel
theorem dX5_apart_32 : decode cX5_apart 32 = .ok (.lsub, 1) := by decide +kernel
theorem dX5_apart_33 : decode cX5_apart 33 = .ok (.aload_n 0, 1) := by decide +kernel
theorem dX5_apart_34 : decode cX5_apart 34 = .ok (.getfield 23, 3) := by decide +kernel
theorem dX5_apart_37 : decode cX5_apart 37 = .ok (.iload_n 1, 1) := by decide +kernel
theorem dX5_apart_38 : decode cX5_apart 38 = .ok (.iaload, 1) := by decide +kernel
theorem dX5_apart_39 : decode cX5_apart 39 = .ok (.i2l, 1) := by decide +kernel
theorem dX5_apart_40 : decode cX5_apart 40 = .ok (.aload_n 0, 1) := by decide +kernel
theorem dX5_apart_41 : decode cX5_apart 41 = .ok (.getfield 79, 3) := by decide +kernel
theorem dX5_apart_44 : decode cX5_apart 44 = .ok (.lmul, 1) := by decide +kernel
theorem dX5_apart_45 : decode cX5_apart 45 = .ok (.lsub, 1) := by decide +kernel
theorem dX5_apart_46 : decode cX5_apart 46 = .ok (.lreturn, 1) := by decide +kernel
set_option maxRecDepth 20000 in
theorem ggX5_isInNet_X5_isObservation : GoodIn wsX5_isInNet wsX5_isObservation := goodIn_r _ [6, 7, 8, 9, 5, 10, 16, 17, 18, 19, 20, 21, 22, 23, 24, 25, 26, 27, 28, 29, 30, 31, 32, 33] (by decide +kernel) (by decide +kernel)
set_option maxRecDepth 20000 in
theorem gX5_isInNet_X5_isObservation : GoodIn wsX5_isInNet (wsV RX5 69 RX5 yX5_isObservation wsX5_isObservation) := goodIn_app (goodIn_of _ (by decide +kernel)) ggX5_isInNet_X5_isObservation
set_option maxRecDepth 20000 in
theorem ggX5_isInNet_X5_goes : GoodIn wsX5_isInNet wsX5_goes := goodIn_r _ [14, 15, 16, 17, 18, 19, 20, 21, 22, 23, 24, 25, 26, 27, 28, 29, 30, 31, 32, 33] (by decide +kernel) (by decide +kernel)
set_option maxRecDepth 20000 in
theorem gX5_isInNet_X5_goes : GoodIn wsX5_isInNet (wsV RX5 62 RX5 yX5_goes wsX5_goes) := goodIn_app (goodIn_of _ (by decide +kernel)) ggX5_isInNet_X5_goes
theorem dX5_isInNet_0 : decode cX5_isInNet 0 = .ok (.aload_n 0, 1) := by decide +kernel
theorem dX5_isInNet_1 : decode cX5_isInNet 1 = .ok (.iload_n 1, 1) := by decide +kernel
theorem dX5_isInNet_2 : decode cX5_isInNet 2 = .ok (.invokevirtual 69, 3) := by decide +kernel
theorem dX5_isInNet_5 : decode cX5_isInNet 5 = .ok (.istore_n 2, 1) := by decide +kernel
theorem dX5_isInNet_6 : decode cX5_isInNet 6 = .ok (.aload_n 0, 1) := by decide +kernel
theorem dX5_isInNet_7 : decode cX5_isInNet 7 = .ok (.iload_n 2, 1) := by decide +kernel
theorem dX5_isInNet_8 : decode cX5_isInNet 8 = .ok (.ifCond .ne 7, 3) := by decide +kernel
theorem dX5_isInNet_11 : decode cX5_isInNet 11 = .ok (.iconst 1, 1) := by decide +kernel
theorem dX5_isInNet_12 : decode cX5_isInNet 12 = .ok (.goto 17, 3) := by decide +kernel
theorem dX5_isInNet_15 : decode cX5_isInNet 15 = .ok (.aload_n 0, 1) := by decide +kernel
theorem dX5_isInNet_16 : decode cX5_isInNet 16 = .ok (.getfield 29, 3) := by decide +kernel
theorem dX5_isInNet_19 : decode cX5_isInNet 19 = .ok (.iload_n 1, 1) := by decide +kernel
theorem dX5_isInNet_20 : decode cX5_isInNet 20 = .ok (.baload, 1) := by decide +kernel
theorem dX5_isInNet_21 : decode cX5_isInNet 21 = .ok (.ifCond .eq 7, 3) := by decide +kernel
theorem dX5_isInNet_24 : decode cX5_isInNet 24 = .ok (.iconst 2, 1) := by decide +kernel
theorem dX5_isInNet_25 : decode cX5_isInNet 25 = .ok (.goto 4, 3) := by decide +kernel
theorem dX5_isInNet_28 : decode cX5_isInNet 28 = .ok (.iconst 0, 1) := by decide +kernel
theorem dX5_isInNet_29 : decode cX5_isInNet 29 = .ok (.invokevirtual 62, 3) := by decide +kernel
theorem dX5_isInNet_32 : decode cX5_isInNet 32 = .ok (.ireturn, 1) := by decide +kernel
set_option maxRecDepth 20000 in
theorem ggX5_residual_X5_isInNet : GoodIn wsX5_residual wsX5_isInNet := goodIn_r _ [7, 8, 9, 10, 11, 6, 12, 13, 14, 15, 16, 17, 18, 19, 20, 21, 63, 64, 65, 66, 67, 68, 69, 70, 71, 72, 73, 74, 75, 76, 77, 78, 79, 80] (by decide +kernel) (by decide +kernel)
set_option maxRecDepth 20000 in
theorem gX5_residual_X5_isInNet : GoodIn wsX5_residual (wsV RX5 109 RX5 yX5_isInNet wsX5_isInNet) := goodIn_app (goodIn_of _ (by decide +kernel)) ggX5_residual_X5_isInNet
set_option maxRecDepth 20000 in
theorem ggX5_residual_X5_apart : GoodIn wsX5_residual wsX5_apart := goodIn_r _ [25, 26, 27, 28, 29, 2, 30, 31, 32, 6, 33, 34, 35, 36, 37, 38, 13, 8, 39, 40, 41, 42, 43, 44, 45, 46, 47, 48, 49, 50, 51, 52, 53, 54, 55, 56, 57, 58, 59, 63, 64, 65, 66, 67, 68, 69, 70, 71, 72, 73, 74, 75, 76, 77, 78, 79, 80] (by decide +kernel) (by decide +kernel)
set_option maxRecDepth 20000 in
theorem gX5_residual_X5_apart : GoodIn wsX5_residual (wsV RX5 112 RX5 yX5_apart wsX5_apart) := goodIn_app (goodIn_of _ (by decide +kernel)) ggX5_residual_X5_apart
set_option maxRecDepth 20000 in
theorem ggX5_residual_X5_floor : GoodIn wsX5_residual wsX5_floor := goodIn_r _ [62] (by decide +kernel) (by decide +kernel)
set_option maxRecDepth 20000 in
theorem gX5_residual_X5_floor : GoodIn wsX5_residual (va_wsS RX5 101 yX5_floor wsX5_floor) := goodIn_app (goodIn_of _ (by decide +kernel)) ggX5_residual_X5_floor
theorem dX5_residual_0 : decode cX5_residual 0 = .ok (.aload_n 0, 1) := by decide +kernel
theorem dX5_residual_1 : decode cX5_residual 1 = .ok (.iload_n 1, 1) := by decide +kernel
theorem dX5_residual_2 : decode cX5_residual 2 = .ok (.invokevirtual 109, 3) := by decide +kernel
theorem dX5_residual_5 : decode cX5_residual 5 = .ok (.ifCond .ne 5, 3) := by decide +kernel
theorem dX5_residual_8 : decode cX5_residual 8 = .ok (.lconst 0, 1) := by decide +kernel
theorem dX5_residual_9 : decode cX5_residual 9 = .ok (.lreturn, 1) := by decide +kernel
theorem dX5_residual_10 : decode cX5_residual 10 = .ok (.aload_n 0, 1) := by decide +kernel
theorem dX5_residual_11 : decode cX5_residual 11 = .ok (.iload_n 1, 1) := by decide +kernel
theorem dX5_residual_12 : decode cX5_residual 12 = .ok (.invokevirtual 112, 3) := by decide +kernel
theorem dX5_residual_15 : decode cX5_residual 15 = .ok (.lstore_n 2, 1) := by decide +kernel
theorem dX5_residual_16 : decode cX5_residual 16 = .ok (.ldc2_w 99, 3) := by decide +kernel
theorem dX5_residual_19 : decode cX5_residual 19 = .ok (.lload_n 2, 1) := by decide +kernel
theorem dX5_residual_20 : decode cX5_residual 20 = .ok (.lmul, 1) := by decide +kernel
theorem dX5_residual_21 : decode cX5_residual 21 = .ok (.aload_n 0, 1) := by decide +kernel
theorem dX5_residual_22 : decode cX5_residual 22 = .ok (.getfield 79, 3) := by decide +kernel
theorem dX5_residual_25 : decode cX5_residual 25 = .ok (.invokestatic 101, 3) := by decide +kernel
theorem dX5_residual_28 : decode cX5_residual 28 = .ok (.lreturn, 1) := by decide +kernel
set_option maxRecDepth 20000 in
theorem ggX5_checkOf_X5_reaches : GoodIn wsX5_checkOf wsX5_reaches := goodIn_r _ [12, 13, 14, 15, 1, 2, 16, 17, 18, 35, 36, 37, 38, 39, 40, 41, 42, 43, 44, 45, 46, 47, 48, 49, 50, 51, 52] (by decide +kernel) (by decide +kernel)
set_option maxRecDepth 20000 in
theorem gX5_checkOf_X5_reaches : GoodIn wsX5_checkOf (wsV RX5 83 RX5 yX5_reaches wsX5_reaches) := goodIn_app (goodIn_of _ (by decide +kernel)) ggX5_checkOf_X5_reaches
set_option maxRecDepth 20000 in
theorem ggX5_checkOf_X5_lays : GoodIn wsX5_checkOf wsX5_lays := goodIn_r _ [22, 23, 13, 16, 14, 15, 1, 4, 2, 24, 25, 26, 11, 27, 35, 36, 37, 38, 39, 40, 41, 42, 43, 44, 45, 46, 47, 48, 49, 50, 51, 52] (by decide +kernel) (by decide +kernel)
set_option maxRecDepth 20000 in
theorem gX5_checkOf_X5_lays : GoodIn wsX5_checkOf (wsV RX5 87 RX5 yX5_lays wsX5_lays) := goodIn_app (goodIn_of _ (by decide +kernel)) ggX5_checkOf_X5_lays
set_option maxRecDepth 20000 in
theorem ggX5_checkOf_X5_adds : GoodIn wsX5_checkOf wsX5_adds := goodIn_r _ [27, 16, 23, 35, 36, 37, 38, 39, 40, 41, 42, 43, 44, 45, 46, 47, 48, 49, 50, 51, 52] (by decide +kernel) (by decide +kernel)
set_option maxRecDepth 20000 in
theorem gX5_checkOf_X5_adds : GoodIn wsX5_checkOf (wsV RX5 75 RX5 yX5_adds wsX5_adds) := goodIn_app (goodIn_of _ (by decide +kernel)) ggX5_checkOf_X5_adds
set_option maxRecDepth 20000 in
theorem ggX5_checkOf_X5_solves : GoodIn wsX5_checkOf wsX5_solves := goodIn_r _ [31, 23, 7, 5, 13, 35, 36, 37, 38, 39, 40, 41, 42, 43, 44, 45, 46, 47, 48, 49, 50, 51, 52] (by decide +kernel) (by decide +kernel)
set_option maxRecDepth 20000 in
theorem gX5_checkOf_X5_solves : GoodIn wsX5_checkOf (wsV RX5 93 RX5 yX5_solves wsX5_solves) := goodIn_app (goodIn_of _ (by decide +kernel)) ggX5_checkOf_X5_solves
set_option maxRecDepth 20000 in
theorem ggX5_checkOf_X5_floor : GoodIn wsX5_checkOf wsX5_floor := goodIn_r _ [34] (by decide +kernel) (by decide +kernel)
set_option maxRecDepth 20000 in
theorem gX5_checkOf_X5_floor : GoodIn wsX5_checkOf (va_wsS RX5 101 yX5_floor wsX5_floor) := goodIn_app (goodIn_of _ (by decide +kernel)) ggX5_checkOf_X5_floor
theorem dX5_checkOf_0 : decode cX5_checkOf 0 = .ok (.aload_n 0, 1) := by decide +kernel
theorem dX5_checkOf_1 : decode cX5_checkOf 1 = .ok (.aload_n 0, 1) := by decide +kernel
theorem dX5_checkOf_2 : decode cX5_checkOf 2 = .ok (.getfield 17, 3) := by decide +kernel
theorem dX5_checkOf_5 : decode cX5_checkOf 5 = .ok (.iload_n 1, 1) := by decide +kernel
theorem dX5_checkOf_6 : decode cX5_checkOf 6 = .ok (.iaload, 1) := by decide +kernel
theorem dX5_checkOf_7 : decode cX5_checkOf 7 = .ok (.invokevirtual 83, 3) := by decide +kernel
theorem dX5_checkOf_10 : decode cX5_checkOf 10 = .ok (.aload_n 0, 1) := by decide +kernel
theorem dX5_checkOf_11 : decode cX5_checkOf 11 = .ok (.invokevirtual 87, 3) := by decide +kernel
theorem dX5_checkOf_14 : decode cX5_checkOf 14 = .ok (.aload_n 0, 1) := by decide +kernel
theorem dX5_checkOf_15 : decode cX5_checkOf 15 = .ok (.aload_n 0, 1) := by decide +kernel
theorem dX5_checkOf_16 : decode cX5_checkOf 16 = .ok (.getfield 20, 3) := by decide +kernel
theorem dX5_checkOf_19 : decode cX5_checkOf 19 = .ok (.iload_n 1, 1) := by decide +kernel
theorem dX5_checkOf_20 : decode cX5_checkOf 20 = .ok (.iaload, 1) := by decide +kernel
theorem dX5_checkOf_21 : decode cX5_checkOf 21 = .ok (.bipush 6, 2) := by decide +kernel
theorem dX5_checkOf_23 : decode cX5_checkOf 23 = .ok (.lconst 1, 1) := by decide +kernel
theorem dX5_checkOf_24 : decode cX5_checkOf 24 = .ok (.invokevirtual 75, 3) := by decide +kernel
theorem dX5_checkOf_27 : decode cX5_checkOf 27 = .ok (.aload_n 0, 1) := by decide +kernel
theorem dX5_checkOf_28 : decode cX5_checkOf 28 = .ok (.aload_n 0, 1) := by decide +kernel
theorem dX5_checkOf_29 : decode cX5_checkOf 29 = .ok (.getfield 17, 3) := by decide +kernel
theorem dX5_checkOf_32 : decode cX5_checkOf 32 = .ok (.iload_n 1, 1) := by decide +kernel
theorem dX5_checkOf_33 : decode cX5_checkOf 33 = .ok (.iaload, 1) := by decide +kernel
theorem dX5_checkOf_34 : decode cX5_checkOf 34 = .ok (.bipush 6, 2) := by decide +kernel
theorem dX5_checkOf_36 : decode cX5_checkOf 36 = .ok (.ldc2_w 115, 3) := by decide +kernel
theorem dX5_checkOf_39 : decode cX5_checkOf 39 = .ok (.invokevirtual 75, 3) := by decide +kernel
theorem dX5_checkOf_42 : decode cX5_checkOf 42 = .ok (.aload_n 0, 1) := by decide +kernel
theorem dX5_checkOf_43 : decode cX5_checkOf 43 = .ok (.invokevirtual 93, 3) := by decide +kernel
theorem dX5_checkOf_46 : decode cX5_checkOf 46 = .ok (.aload_n 0, 1) := by decide +kernel
theorem dX5_checkOf_47 : decode cX5_checkOf 47 = .ok (.getfield 26, 3) := by decide +kernel
theorem dX5_checkOf_50 : decode cX5_checkOf 50 = .ok (.iload_n 1, 1) := by decide +kernel
theorem dX5_checkOf_51 : decode cX5_checkOf 51 = .ok (.iaload, 1) := by decide +kernel
theorem dX5_checkOf_52 : decode cX5_checkOf 52 = .ok (.i2l, 1) := by decide +kernel
theorem dX5_checkOf_53 : decode cX5_checkOf 53 = .ok (.aload_n 0, 1) := by decide +kernel
theorem dX5_checkOf_54 : decode cX5_checkOf 54 = .ok (.getfield 42, 3) := by decide +kernel
theorem dX5_checkOf_57 : decode cX5_checkOf 57 = .ok (.aload_n 0, 1) := by decide +kernel
theorem dX5_checkOf_58 : decode cX5_checkOf 58 = .ok (.getfield 20, 3) := by decide +kernel
theorem dX5_checkOf_61 : decode cX5_checkOf 61 = .ok (.iload_n 1, 1) := by decide +kernel
theorem dX5_checkOf_62 : decode cX5_checkOf 62 = .ok (.iaload, 1) := by decide +kernel
theorem dX5_checkOf_63 : decode cX5_checkOf 63 = .ok (.laload, 1) := by decide +kernel
theorem dX5_checkOf_64 : decode cX5_checkOf 64 = .ok (.aload_n 0, 1) := by decide +kernel
theorem dX5_checkOf_65 : decode cX5_checkOf 65 = .ok (.getfield 42, 3) := by decide +kernel
theorem dX5_checkOf_68 : decode cX5_checkOf 68 = .ok (.aload_n 0, 1) := by decide +kernel
theorem dX5_checkOf_69 : decode cX5_checkOf 69 = .ok (.getfield 17, 3) := by decide +kernel
theorem dX5_checkOf_72 : decode cX5_checkOf 72 = .ok (.iload_n 1, 1) := by decide +kernel
theorem dX5_checkOf_73 : decode cX5_checkOf 73 = .ok (.iaload, 1) := by decide +kernel
theorem dX5_checkOf_74 : decode cX5_checkOf 74 = .ok (.laload, 1) := by decide +kernel
theorem dX5_checkOf_75 : decode cX5_checkOf 75 = .ok (.lsub, 1) := by decide +kernel
theorem dX5_checkOf_76 : decode cX5_checkOf 76 = .ok (.lmul, 1) := by decide +kernel
theorem dX5_checkOf_77 : decode cX5_checkOf 77 = .ok (.lstore_n 2, 1) := by decide +kernel
theorem dX5_checkOf_78 : decode cX5_checkOf 78 = .ok (.ldc2_w 117, 3) := by decide +kernel
theorem dX5_checkOf_81 : decode cX5_checkOf 81 = .ok (.aload_n 0, 1) := by decide +kernel
theorem dX5_checkOf_82 : decode cX5_checkOf 82 = .ok (.getfield 79, 3) := by decide +kernel
theorem dX5_checkOf_85 : decode cX5_checkOf 85 = .ok (.lload_n 2, 1) := by decide +kernel
theorem dX5_checkOf_86 : decode cX5_checkOf 86 = .ok (.lsub, 1) := by decide +kernel
theorem dX5_checkOf_87 : decode cX5_checkOf 87 = .ok (.lmul, 1) := by decide +kernel
theorem dX5_checkOf_88 : decode cX5_checkOf 88 = .ok (.aload_n 0, 1) := by decide +kernel
theorem dX5_checkOf_89 : decode cX5_checkOf 89 = .ok (.getfield 79, 3) := by decide +kernel
theorem dX5_checkOf_92 : decode cX5_checkOf 92 = .ok (.invokestatic 101, 3) := by decide +kernel
theorem dX5_checkOf_95 : decode cX5_checkOf 95 = .ok (.l2i, 1) := by decide +kernel
theorem dX5_checkOf_96 : decode cX5_checkOf 96 = .ok (.ireturn, 1) := by decide +kernel
set_option maxRecDepth 20000 in
theorem ggX5_check_X5_isInNet : GoodIn wsX5_check wsX5_isInNet := goodIn_r _ [5, 6, 7, 8, 9, 4, 10, 11, 12, 13, 14, 15, 16, 17, 18, 19, 55, 56, 57, 58, 59, 60, 61, 62, 63, 64, 65, 66, 67, 68, 69, 70, 71, 72] (by decide +kernel) (by decide +kernel)
set_option maxRecDepth 20000 in
theorem gX5_check_X5_isInNet : GoodIn wsX5_check (wsV RX5 109 RX5 yX5_isInNet wsX5_isInNet) := goodIn_app (goodIn_of _ (by decide +kernel)) ggX5_check_X5_isInNet
set_option maxRecDepth 20000 in
theorem ggX5_check_X5_checkOf : GoodIn wsX5_check wsX5_checkOf := goodIn_r _ [23, 24, 25, 26, 27, 28, 29, 30, 31, 32, 33, 4, 34, 35, 11, 6, 36, 37, 38, 39, 40, 41, 42, 43, 44, 45, 46, 47, 48, 49, 50, 51, 52, 53, 54, 55, 56, 57, 58, 59, 60, 61, 62, 63, 64, 65, 66, 67, 68, 69, 70, 71, 72] (by decide +kernel) (by decide +kernel)
set_option maxRecDepth 20000 in
theorem gX5_check_X5_checkOf : GoodIn wsX5_check (wsV RX5 119 RX5 yX5_checkOf wsX5_checkOf) := goodIn_app (goodIn_of _ (by decide +kernel)) ggX5_check_X5_checkOf
theorem dX5_check_0 : decode cX5_check 0 = .ok (.aload_n 0, 1) := by decide +kernel
theorem dX5_check_1 : decode cX5_check 1 = .ok (.iload_n 1, 1) := by decide +kernel
theorem dX5_check_2 : decode cX5_check 2 = .ok (.invokevirtual 109, 3) := by decide +kernel
theorem dX5_check_5 : decode cX5_check 5 = .ok (.ifCond .eq 11, 3) := by decide +kernel
theorem dX5_check_8 : decode cX5_check 8 = .ok (.aload_n 0, 1) := by decide +kernel
theorem dX5_check_9 : decode cX5_check 9 = .ok (.iload_n 1, 1) := by decide +kernel
theorem dX5_check_10 : decode cX5_check 10 = .ok (.invokevirtual 119, 3) := by decide +kernel
theorem dX5_check_13 : decode cX5_check 13 = .ok (.goto 4, 3) := by decide +kernel
theorem dX5_check_16 : decode cX5_check 16 = .ok (.iconst 0, 1) := by decide +kernel
theorem dX5_check_17 : decode cX5_check 17 = .ok (.ireturn, 1) := by decide +kernel
set_option maxRecDepth 20000 in
theorem ggX5_checkAnew_X5_isInNet : GoodIn wsX5_checkAnew wsX5_isInNet := goodIn_r _ [5, 6, 7, 8, 9, 4, 10, 11, 12, 13, 14, 15, 16, 17, 18, 19, 55, 56, 57, 58, 59, 60, 61, 62, 63, 64, 65, 66, 67, 68, 69, 70, 71, 72] (by decide +kernel) (by decide +kernel)
set_option maxRecDepth 20000 in
theorem gX5_checkAnew_X5_isInNet : GoodIn wsX5_checkAnew (wsV RX5 109 RX5 yX5_isInNet wsX5_isInNet) := goodIn_app (goodIn_of _ (by decide +kernel)) ggX5_checkAnew_X5_isInNet
set_option maxRecDepth 20000 in
theorem ggX5_checkAnew_X5_checkOf : GoodIn wsX5_checkAnew wsX5_checkOf := goodIn_r _ [23, 24, 25, 26, 27, 28, 29, 30, 31, 32, 33, 4, 34, 35, 11, 6, 36, 37, 38, 39, 40, 41, 42, 43, 44, 45, 46, 47, 48, 49, 50, 51, 52, 53, 54, 55, 56, 57, 58, 59, 60, 61, 62, 63, 64, 65, 66, 67, 68, 69, 70, 71, 72] (by decide +kernel) (by decide +kernel)
set_option maxRecDepth 20000 in
theorem gX5_checkAnew_X5_checkOf : GoodIn wsX5_checkAnew (wsV RX5 119 RX5 yX5_checkOf wsX5_checkOf) := goodIn_app (goodIn_of _ (by decide +kernel)) ggX5_checkAnew_X5_checkOf
theorem dX5_checkAnew_0 : decode cX5_checkAnew 0 = .ok (.aload_n 0, 1) := by decide +kernel
theorem dX5_checkAnew_1 : decode cX5_checkAnew 1 = .ok (.iload_n 1, 1) := by decide +kernel
theorem dX5_checkAnew_2 : decode cX5_checkAnew 2 = .ok (.invokevirtual 109, 3) := by decide +kernel
theorem dX5_checkAnew_5 : decode cX5_checkAnew 5 = .ok (.ifCond .eq 11, 3) := by decide +kernel
theorem dX5_checkAnew_8 : decode cX5_checkAnew 8 = .ok (.aload_n 0, 1) := by decide +kernel
theorem dX5_checkAnew_9 : decode cX5_checkAnew 9 = .ok (.iload_n 1, 1) := by decide +kernel
theorem dX5_checkAnew_10 : decode cX5_checkAnew 10 = .ok (.invokevirtual 119, 3) := by decide +kernel
theorem dX5_checkAnew_13 : decode cX5_checkAnew 13 = .ok (.goto 4, 3) := by decide +kernel
theorem dX5_checkAnew_16 : decode cX5_checkAnew 16 = .ok (.iconst 0, 1) := by decide +kernel
theorem dX5_checkAnew_17 : decode cX5_checkAnew 17 = .ok (.ireturn, 1) := by decide +kernel
set_option maxRecDepth 20000 in
theorem ggX5_scoreOf_X5_checkOf : GoodIn wsX5_scoreOf wsX5_checkOf := goodIn_r _ [8, 9, 10, 11, 3, 12, 13, 2, 14, 15, 16, 7, 17, 18, 19, 20, 21, 22, 23, 24, 25, 26, 27, 28, 29, 30, 31, 32, 33, 34, 35, 36, 37, 38, 39, 56, 57, 58, 59, 60, 61, 62, 63, 64, 65, 66, 67, 68, 69, 70, 71, 72, 73] (by decide +kernel) (by decide +kernel)
set_option maxRecDepth 20000 in
theorem gX5_scoreOf_X5_checkOf : GoodIn wsX5_scoreOf (wsV RX5 119 RX5 yX5_checkOf wsX5_checkOf) := goodIn_app (goodIn_of _ (by decide +kernel)) ggX5_scoreOf_X5_checkOf
set_option maxRecDepth 20000 in
theorem ggX5_scoreOf_X5_apart : GoodIn wsX5_scoreOf wsX5_apart := goodIn_r _ [43, 9, 12, 10, 44, 2, 45, 46, 47, 7, 48, 14, 15, 16, 17, 18, 19, 20, 21, 22, 23, 24, 25, 26, 27, 28, 3, 29, 30, 31, 32, 49, 50, 51, 52, 33, 34, 35, 36, 56, 57, 58, 59, 60, 61, 62, 63, 64, 65, 66, 67, 68, 69, 70, 71, 72, 73] (by decide +kernel) (by decide +kernel)
set_option maxRecDepth 20000 in
theorem gX5_scoreOf_X5_apart : GoodIn wsX5_scoreOf (wsV RX5 112 RX5 yX5_apart wsX5_apart) := goodIn_app (goodIn_of _ (by decide +kernel)) ggX5_scoreOf_X5_apart
set_option maxRecDepth 20000 in
theorem ggX5_scoreOf_X5_size : GoodIn wsX5_scoreOf wsX5_size := goodIn_r _ [55] (by decide +kernel) (by decide +kernel)
set_option maxRecDepth 20000 in
theorem gX5_scoreOf_X5_size : GoodIn wsX5_scoreOf (va_wsS RX5 123 yX5_size wsX5_size) := goodIn_app (goodIn_of _ (by decide +kernel)) ggX5_scoreOf_X5_size
theorem dX5_scoreOf_0 : decode cX5_scoreOf 0 = .ok (.aload_n 0, 1) := by decide +kernel
theorem dX5_scoreOf_1 : decode cX5_scoreOf 1 = .ok (.iload_n 1, 1) := by decide +kernel
theorem dX5_scoreOf_2 : decode cX5_scoreOf 2 = .ok (.invokevirtual 119, 3) := by decide +kernel
theorem dX5_scoreOf_5 : decode cX5_scoreOf 5 = .ok (.istore_n 2, 1) := by decide +kernel
theorem dX5_scoreOf_6 : decode cX5_scoreOf 6 = .ok (.iload_n 2, 1) := by decide +kernel
theorem dX5_scoreOf_7 : decode cX5_scoreOf 7 = .ok (.ifCond .ne 5, 3) := by decide +kernel
theorem dX5_scoreOf_10 : decode cX5_scoreOf 10 = .ok (.lconst 0, 1) := by decide +kernel
theorem dX5_scoreOf_11 : decode cX5_scoreOf 11 = .ok (.lreturn, 1) := by decide +kernel
theorem dX5_scoreOf_12 : decode cX5_scoreOf 12 = .ok (.aload_n 0, 1) := by decide +kernel
theorem dX5_scoreOf_13 : decode cX5_scoreOf 13 = .ok (.iload_n 1, 1) := by decide +kernel
theorem dX5_scoreOf_14 : decode cX5_scoreOf 14 = .ok (.invokevirtual 112, 3) := by decide +kernel
theorem dX5_scoreOf_17 : decode cX5_scoreOf 17 = .ok (.invokestatic 123, 3) := by decide +kernel
theorem dX5_scoreOf_20 : decode cX5_scoreOf 20 = .ok (.lstore_n 3, 1) := by decide +kernel
theorem dX5_scoreOf_21 : decode cX5_scoreOf 21 = .ok (.ldc2_w 99, 3) := by decide +kernel
theorem dX5_scoreOf_24 : decode cX5_scoreOf 24 = .ok (.lload_n 3, 1) := by decide +kernel
theorem dX5_scoreOf_25 : decode cX5_scoreOf 25 = .ok (.lmul, 1) := by decide +kernel
theorem dX5_scoreOf_26 : decode cX5_scoreOf 26 = .ok (.aload_n 0, 1) := by decide +kernel
theorem dX5_scoreOf_27 : decode cX5_scoreOf 27 = .ok (.getfield 79, 3) := by decide +kernel
theorem dX5_scoreOf_30 : decode cX5_scoreOf 30 = .ok (.ldiv, 1) := by decide +kernel
theorem dX5_scoreOf_31 : decode cX5_scoreOf 31 = .ok (.lstore 5, 2) := by decide +kernel
theorem dX5_scoreOf_33 : decode cX5_scoreOf 33 = .ok (.lload 5, 2) := by decide +kernel
theorem dX5_scoreOf_35 : decode cX5_scoreOf 35 = .ok (.lload 5, 2) := by decide +kernel
theorem dX5_scoreOf_37 : decode cX5_scoreOf 37 = .ok (.lmul, 1) := by decide +kernel
theorem dX5_scoreOf_38 : decode cX5_scoreOf 38 = .ok (.aload_n 0, 1) := by decide +kernel
theorem dX5_scoreOf_39 : decode cX5_scoreOf 39 = .ok (.getfield 26, 3) := by decide +kernel
theorem dX5_scoreOf_42 : decode cX5_scoreOf 42 = .ok (.iload_n 1, 1) := by decide +kernel
theorem dX5_scoreOf_43 : decode cX5_scoreOf 43 = .ok (.iaload, 1) := by decide +kernel
theorem dX5_scoreOf_44 : decode cX5_scoreOf 44 = .ok (.i2l, 1) := by decide +kernel
theorem dX5_scoreOf_45 : decode cX5_scoreOf 45 = .ok (.lmul, 1) := by decide +kernel
theorem dX5_scoreOf_46 : decode cX5_scoreOf 46 = .ok (.iload_n 2, 1) := by decide +kernel
theorem dX5_scoreOf_47 : decode cX5_scoreOf 47 = .ok (.i2l, 1) := by decide +kernel
theorem dX5_scoreOf_48 : decode cX5_scoreOf 48 = .ok (.ldiv, 1) := by decide +kernel
theorem dX5_scoreOf_49 : decode cX5_scoreOf 49 = .ok (.lreturn, 1) := by decide +kernel
set_option maxRecDepth 20000 in
theorem ggX5_score_X5_isInNet : GoodIn wsX5_score wsX5_isInNet := goodIn_r _ [5, 6, 7, 8, 9, 4, 10, 11, 12, 13, 14, 15, 16, 17, 18, 19, 76, 77, 78, 79, 80, 81, 82, 83, 84, 85, 86, 87, 88, 89, 90, 91, 92, 93] (by decide +kernel) (by decide +kernel)
set_option maxRecDepth 20000 in
theorem gX5_score_X5_isInNet : GoodIn wsX5_score (wsV RX5 109 RX5 yX5_isInNet wsX5_isInNet) := goodIn_app (goodIn_of _ (by decide +kernel)) ggX5_score_X5_isInNet
set_option maxRecDepth 20000 in
theorem ggX5_score_X5_scoreOf : GoodIn wsX5_score wsX5_scoreOf := goodIn_r _ [23, 24, 25, 26, 27, 28, 29, 4, 30, 31, 32, 33, 34, 35, 36, 37, 38, 39, 40, 11, 6, 41, 42, 43, 44, 45, 46, 47, 48, 49, 50, 51, 52, 53, 54, 55, 56, 57, 58, 59, 60, 61, 62, 63, 64, 65, 66, 67, 68, 69, 70, 71, 72, 73, 74, 75, 76, 77, 78, 79, 80, 81, 82, 83, 84, 85, 86, 87, 88, 89, 90, 91, 92, 93] (by decide +kernel) (by decide +kernel)
set_option maxRecDepth 20000 in
theorem gX5_score_X5_scoreOf : GoodIn wsX5_score (wsV RX5 127 RX5 yX5_scoreOf wsX5_scoreOf) := goodIn_app (goodIn_of _ (by decide +kernel)) ggX5_score_X5_scoreOf
theorem dX5_score_0 : decode cX5_score 0 = .ok (.aload_n 0, 1) := by decide +kernel
theorem dX5_score_1 : decode cX5_score 1 = .ok (.iload_n 1, 1) := by decide +kernel
theorem dX5_score_2 : decode cX5_score 2 = .ok (.invokevirtual 109, 3) := by decide +kernel
theorem dX5_score_5 : decode cX5_score 5 = .ok (.ifCond .eq 11, 3) := by decide +kernel
theorem dX5_score_8 : decode cX5_score 8 = .ok (.aload_n 0, 1) := by decide +kernel
theorem dX5_score_9 : decode cX5_score 9 = .ok (.iload_n 1, 1) := by decide +kernel
theorem dX5_score_10 : decode cX5_score 10 = .ok (.invokevirtual 127, 3) := by decide +kernel
theorem dX5_score_13 : decode cX5_score 13 = .ok (.goto 4, 3) := by decide +kernel
theorem dX5_score_16 : decode cX5_score 16 = .ok (.lconst 0, 1) := by decide +kernel
theorem dX5_score_17 : decode cX5_score 17 = .ok (.lreturn, 1) := by decide +kernel
set_option maxRecDepth 20000 in
theorem ggX5_worstOf_X5_scoreOf : GoodIn wsX5_worstOf wsX5_scoreOf := goodIn_r _ [7, 8, 9, 10, 11, 12, 13, 6, 14, 15, 16, 17, 18, 19, 20, 21, 22, 23, 24, 1, 2, 25, 26, 27, 28, 29, 30, 31, 32, 33, 34, 35, 36, 37, 38, 39, 40, 41, 42, 43, 44, 45, 46, 47, 48, 49, 50, 51, 52, 53, 54, 55, 56, 57, 58, 59, 60, 61, 62, 63, 64, 65, 66, 67, 68, 69, 70, 71, 72, 73, 74, 75, 76, 77] (by decide +kernel) (by decide +kernel)
set_option maxRecDepth 20000 in
theorem gX5_worstOf_X5_scoreOf : GoodIn wsX5_worstOf (wsV RX5 127 RX5 yX5_scoreOf wsX5_scoreOf) := goodIn_app (goodIn_of _ (by decide +kernel)) ggX5_worstOf_X5_scoreOf
theorem dX5_worstOf_0 : decode cX5_worstOf 0 = .ok (.iconst (-1), 1) := by decide +kernel
theorem dX5_worstOf_1 : decode cX5_worstOf 1 = .ok (.istore_n 1, 1) := by decide +kernel
theorem dX5_worstOf_2 : decode cX5_worstOf 2 = .ok (.lconst 0, 1) := by decide +kernel
theorem dX5_worstOf_3 : decode cX5_worstOf 3 = .ok (.lstore_n 2, 1) := by decide +kernel
theorem dX5_worstOf_4 : decode cX5_worstOf 4 = .ok (.iconst 0, 1) := by decide +kernel
theorem dX5_worstOf_5 : decode cX5_worstOf 5 = .ok (.istore 4, 2) := by decide +kernel
theorem dX5_worstOf_7 : decode cX5_worstOf 7 = .ok (.iload 4, 2) := by decide +kernel
theorem dX5_worstOf_9 : decode cX5_worstOf 9 = .ok (.aload_n 0, 1) := by decide +kernel
theorem dX5_worstOf_10 : decode cX5_worstOf 10 = .ok (.getfield 59, 3) := by decide +kernel
theorem dX5_worstOf_13 : decode cX5_worstOf 13 = .ok (.if_icmp .ge 59, 3) := by decide +kernel
theorem dX5_worstOf_16 : decode cX5_worstOf 16 = .ok (.aload_n 0, 1) := by decide +kernel
theorem dX5_worstOf_17 : decode cX5_worstOf 17 = .ok (.getfield 29, 3) := by decide +kernel
theorem dX5_worstOf_20 : decode cX5_worstOf 20 = .ok (.iload 4, 2) := by decide +kernel
theorem dX5_worstOf_22 : decode cX5_worstOf 22 = .ok (.baload, 1) := by decide +kernel
theorem dX5_worstOf_23 : decode cX5_worstOf 23 = .ok (.ifCond .eq 7, 3) := by decide +kernel
theorem dX5_worstOf_26 : decode cX5_worstOf 26 = .ok (.lconst 0, 1) := by decide +kernel
theorem dX5_worstOf_27 : decode cX5_worstOf 27 = .ok (.goto 9, 3) := by decide +kernel
theorem dX5_worstOf_30 : decode cX5_worstOf 30 = .ok (.aload_n 0, 1) := by decide +kernel
theorem dX5_worstOf_31 : decode cX5_worstOf 31 = .ok (.iload 4, 2) := by decide +kernel
theorem dX5_worstOf_33 : decode cX5_worstOf 33 = .ok (.invokevirtual 127, 3) := by decide +kernel
theorem dX5_worstOf_36 : decode cX5_worstOf 36 = .ok (.lstore 5, 2) := by decide +kernel
theorem dX5_worstOf_38 : decode cX5_worstOf 38 = .ok (.lload 5, 2) := by decide +kernel
theorem dX5_worstOf_40 : decode cX5_worstOf 40 = .ok (.lload_n 2, 1) := by decide +kernel
theorem dX5_worstOf_41 : decode cX5_worstOf 41 = .ok (.lcmp, 1) := by decide +kernel
theorem dX5_worstOf_42 : decode cX5_worstOf 42 = .ok (.ifCond .le 8, 3) := by decide +kernel
theorem dX5_worstOf_45 : decode cX5_worstOf 45 = .ok (.iload 4, 2) := by decide +kernel
theorem dX5_worstOf_47 : decode cX5_worstOf 47 = .ok (.goto 4, 3) := by decide +kernel
theorem dX5_worstOf_50 : decode cX5_worstOf 50 = .ok (.iload_n 1, 1) := by decide +kernel
theorem dX5_worstOf_51 : decode cX5_worstOf 51 = .ok (.istore_n 1, 1) := by decide +kernel
theorem dX5_worstOf_52 : decode cX5_worstOf 52 = .ok (.lload 5, 2) := by decide +kernel
theorem dX5_worstOf_54 : decode cX5_worstOf 54 = .ok (.lload_n 2, 1) := by decide +kernel
theorem dX5_worstOf_55 : decode cX5_worstOf 55 = .ok (.lcmp, 1) := by decide +kernel
theorem dX5_worstOf_56 : decode cX5_worstOf 56 = .ok (.ifCond .le 8, 3) := by decide +kernel
theorem dX5_worstOf_59 : decode cX5_worstOf 59 = .ok (.lload 5, 2) := by decide +kernel
theorem dX5_worstOf_61 : decode cX5_worstOf 61 = .ok (.goto 4, 3) := by decide +kernel
theorem dX5_worstOf_64 : decode cX5_worstOf 64 = .ok (.lload_n 2, 1) := by decide +kernel
theorem dX5_worstOf_65 : decode cX5_worstOf 65 = .ok (.lstore_n 2, 1) := by decide +kernel
theorem dX5_worstOf_66 : decode cX5_worstOf 66 = .ok (.iinc 4 1, 3) := by decide +kernel
theorem dX5_worstOf_69 : decode cX5_worstOf 69 = .ok (.goto (-62), 3) := by decide +kernel
theorem dX5_worstOf_72 : decode cX5_worstOf 72 = .ok (.iload_n 1, 1) := by decide +kernel
theorem dX5_worstOf_73 : decode cX5_worstOf 73 = .ok (.ireturn, 1) := by decide +kernel
set_option maxRecDepth 20000 in
theorem ggX5_worst_X5_worstOf : GoodIn wsX5_worst wsX5_worstOf := goodIn_r _ [6, 7, 8, 9, 10, 11, 5, 12, 13, 14, 15, 16, 17, 18, 19, 20, 21, 22, 23, 24, 25, 26, 27, 28, 29, 30, 31, 32, 33, 34, 35, 36, 37, 38, 39, 40, 41, 42, 43, 44, 45, 46, 47, 48, 49, 50, 51, 52, 53, 54, 55, 56, 57, 58, 59, 60, 61, 62, 63, 64, 65, 66, 67, 68, 69, 70, 71, 72, 73, 74, 75, 76, 77, 78, 79, 80, 81, 82] (by decide +kernel) (by decide +kernel)
set_option maxRecDepth 20000 in
theorem gX5_worst_X5_worstOf : GoodIn wsX5_worst (wsV RX5 130 RX5 yX5_worstOf wsX5_worstOf) := goodIn_app (goodIn_of _ (by decide +kernel)) ggX5_worst_X5_worstOf
theorem dX5_worst_0 : decode cX5_worst 0 = .ok (.aload_n 0, 1) := by decide +kernel
theorem dX5_worst_1 : decode cX5_worst 1 = .ok (.iconst 0, 1) := by decide +kernel
theorem dX5_worst_2 : decode cX5_worst 2 = .ok (.putfield 49, 3) := by decide +kernel
theorem dX5_worst_5 : decode cX5_worst 5 = .ok (.aload_n 0, 1) := by decide +kernel
theorem dX5_worst_6 : decode cX5_worst 6 = .ok (.invokevirtual 130, 3) := by decide +kernel
theorem dX5_worst_9 : decode cX5_worst 9 = .ok (.ireturn, 1) := by decide +kernel
set_option maxRecDepth 20000 in
theorem ggX5_clean_X5_isBetween : GoodIn wsX5_clean wsX5_isBetween := goodIn_r _ [6] (by decide +kernel) (by decide +kernel)
set_option maxRecDepth 20000 in
theorem gX5_clean_X5_isBetween : GoodIn wsX5_clean (va_wsS RX5 55 yX5_isBetween wsX5_isBetween) := goodIn_app (goodIn_of _ (by decide +kernel)) ggX5_clean_X5_isBetween
set_option maxRecDepth 20000 in
theorem ggX5_clean_X5_goes : GoodIn wsX5_clean wsX5_goes := goodIn_r _ [10, 11, 73, 74, 75, 76, 77, 78, 79, 80, 81, 82, 83, 84, 85, 86, 87, 88, 89, 90] (by decide +kernel) (by decide +kernel)
set_option maxRecDepth 20000 in
theorem gX5_clean_X5_goes : GoodIn wsX5_clean (wsV RX5 62 RX5 yX5_goes wsX5_goes) := goodIn_app (goodIn_of _ (by decide +kernel)) ggX5_clean_X5_goes
set_option maxRecDepth 20000 in
theorem ggX5_clean_X5_worstOf : GoodIn wsX5_clean wsX5_worstOf := goodIn_r _ [15, 16, 2, 17, 18, 19, 5, 20, 21, 22, 23, 24, 25, 26, 27, 28, 29, 30, 31, 32, 33, 34, 35, 36, 37, 38, 39, 40, 41, 42, 43, 44, 45, 46, 47, 48, 49, 50, 51, 52, 53, 54, 55, 56, 57, 58, 59, 60, 61, 62, 63, 64, 65, 66, 67, 68, 69, 70, 71, 72, 73, 74, 75, 76, 77, 78, 79, 80, 81, 82, 83, 84, 85, 86, 87, 88, 89, 90] (by decide +kernel) (by decide +kernel)
set_option maxRecDepth 20000 in
theorem gX5_clean_X5_worstOf : GoodIn wsX5_clean (wsV RX5 130 RX5 yX5_worstOf wsX5_worstOf) := goodIn_app (goodIn_of _ (by decide +kernel)) ggX5_clean_X5_worstOf
set_option maxRecDepth 20000 in
theorem ggX5_clean_X5_scoreOf : GoodIn wsX5_clean wsX5_scoreOf := goodIn_r _ [20, 21, 22, 23, 24, 25, 26, 5, 27, 28, 29, 30, 31, 32, 33, 34, 35, 36, 37, 16, 2, 38, 39, 40, 41, 42, 43, 44, 45, 46, 47, 48, 49, 50, 51, 52, 53, 54, 55, 56, 57, 58, 59, 60, 61, 62, 63, 64, 65, 66, 67, 68, 69, 70, 71, 72, 73, 74, 75, 76, 77, 78, 79, 80, 81, 82, 83, 84, 85, 86, 87, 88, 89, 90] (by decide +kernel) (by decide +kernel)
set_option maxRecDepth 20000 in
theorem gX5_clean_X5_scoreOf : GoodIn wsX5_clean (wsV RX5 127 RX5 yX5_scoreOf wsX5_scoreOf) := goodIn_app (goodIn_of _ (by decide +kernel)) ggX5_clean_X5_scoreOf
theorem dX5_clean_0 : decode cX5_clean 0 = .ok (.aload_n 0, 1) := by decide +kernel
theorem dX5_clean_1 : decode cX5_clean 1 = .ok (.iload_n 1, 1) := by decide +kernel
theorem dX5_clean_2 : decode cX5_clean 2 = .ok (.iconst 0, 1) := by decide +kernel
theorem dX5_clean_3 : decode cX5_clean 3 = .ok (.ldc 134, 2) := by decide +kernel
theorem dX5_clean_5 : decode cX5_clean 5 = .ok (.invokestatic 55, 3) := by decide +kernel
theorem dX5_clean_8 : decode cX5_clean 8 = .ok (.ifCond .eq 7, 3) := by decide +kernel
theorem dX5_clean_11 : decode cX5_clean 11 = .ok (.iconst 0, 1) := by decide +kernel
theorem dX5_clean_12 : decode cX5_clean 12 = .ok (.goto 4, 3) := by decide +kernel
theorem dX5_clean_15 : decode cX5_clean 15 = .ok (.iconst 1, 1) := by decide +kernel
theorem dX5_clean_16 : decode cX5_clean 16 = .ok (.invokevirtual 62, 3) := by decide +kernel
theorem dX5_clean_19 : decode cX5_clean 19 = .ok (.ifCond .ne 5, 3) := by decide +kernel
theorem dX5_clean_22 : decode cX5_clean 22 = .ok (.iconst 0, 1) := by decide +kernel
theorem dX5_clean_23 : decode cX5_clean 23 = .ok (.ireturn, 1) := by decide +kernel
theorem dX5_clean_24 : decode cX5_clean 24 = .ok (.iconst 0, 1) := by decide +kernel
theorem dX5_clean_25 : decode cX5_clean 25 = .ok (.istore_n 2, 1) := by decide +kernel
theorem dX5_clean_26 : decode cX5_clean 26 = .ok (.aload_n 0, 1) := by decide +kernel
theorem dX5_clean_27 : decode cX5_clean 27 = .ok (.invokevirtual 130, 3) := by decide +kernel
theorem dX5_clean_30 : decode cX5_clean 30 = .ok (.istore_n 3, 1) := by decide +kernel
theorem dX5_clean_31 : decode cX5_clean 31 = .ok (.iload_n 3, 1) := by decide +kernel
theorem dX5_clean_32 : decode cX5_clean 32 = .ok (.iconst (-1), 1) := by decide +kernel
theorem dX5_clean_33 : decode cX5_clean 33 = .ok (.if_icmp .eq 32, 3) := by decide +kernel
theorem dX5_clean_36 : decode cX5_clean 36 = .ok (.aload_n 0, 1) := by decide +kernel
theorem dX5_clean_37 : decode cX5_clean 37 = .ok (.iload_n 3, 1) := by decide +kernel
theorem dX5_clean_38 : decode cX5_clean 38 = .ok (.invokevirtual 127, 3) := by decide +kernel
theorem dX5_clean_41 : decode cX5_clean 41 = .ok (.iload_n 1, 1) := by decide +kernel
theorem dX5_clean_42 : decode cX5_clean 42 = .ok (.i2l, 1) := by decide +kernel
theorem dX5_clean_43 : decode cX5_clean 43 = .ok (.lcmp, 1) := by decide +kernel
theorem dX5_clean_44 : decode cX5_clean 44 = .ok (.ifCond .le 21, 3) := by decide +kernel
theorem dX5_clean_47 : decode cX5_clean 47 = .ok (.aload_n 0, 1) := by decide +kernel
theorem dX5_clean_48 : decode cX5_clean 48 = .ok (.getfield 29, 3) := by decide +kernel
theorem dX5_clean_51 : decode cX5_clean 51 = .ok (.iload_n 3, 1) := by decide +kernel
theorem dX5_clean_52 : decode cX5_clean 52 = .ok (.iconst 1, 1) := by decide +kernel
theorem dX5_clean_53 : decode cX5_clean 53 = .ok (.bastore, 1) := by decide +kernel
theorem dX5_clean_54 : decode cX5_clean 54 = .ok (.iinc 2 1, 3) := by decide +kernel
theorem dX5_clean_57 : decode cX5_clean 57 = .ok (.aload_n 0, 1) := by decide +kernel
theorem dX5_clean_58 : decode cX5_clean 58 = .ok (.invokevirtual 130, 3) := by decide +kernel
theorem dX5_clean_61 : decode cX5_clean 61 = .ok (.istore_n 3, 1) := by decide +kernel
theorem dX5_clean_62 : decode cX5_clean 62 = .ok (.goto (-31), 3) := by decide +kernel
theorem dX5_clean_65 : decode cX5_clean 65 = .ok (.iload_n 2, 1) := by decide +kernel
theorem dX5_clean_66 : decode cX5_clean 66 = .ok (.ireturn, 1) := by decide +kernel
theorem dX5_joins_0 : decode cX5_joins 0 = .ok (.iconst (-1), 1) := by decide +kernel
theorem dX5_joins_1 : decode cX5_joins 1 = .ok (.istore_n 3, 1) := by decide +kernel
theorem dX5_joins_2 : decode cX5_joins 2 = .ok (.aload_n 0, 1) := by decide +kernel
theorem dX5_joins_3 : decode cX5_joins 3 = .ok (.getfield 59, 3) := by decide +kernel
theorem dX5_joins_6 : decode cX5_joins 6 = .ok (.iconst 1, 1) := by decide +kernel
theorem dX5_joins_7 : decode cX5_joins 7 = .ok (.isub, 1) := by decide +kernel
theorem dX5_joins_8 : decode cX5_joins 8 = .ok (.istore 4, 2) := by decide +kernel
theorem dX5_joins_10 : decode cX5_joins 10 = .ok (.iload 4, 2) := by decide +kernel
theorem dX5_joins_12 : decode cX5_joins 12 = .ok (.ifCond .lt 82, 3) := by decide +kernel
theorem dX5_joins_15 : decode cX5_joins 15 = .ok (.aload_n 0, 1) := by decide +kernel
theorem dX5_joins_16 : decode cX5_joins 16 = .ok (.getfield 17, 3) := by decide +kernel
theorem dX5_joins_19 : decode cX5_joins 19 = .ok (.iload 4, 2) := by decide +kernel
theorem dX5_joins_21 : decode cX5_joins 21 = .ok (.iaload, 1) := by decide +kernel
theorem dX5_joins_22 : decode cX5_joins 22 = .ok (.iload_n 1, 1) := by decide +kernel
theorem dX5_joins_23 : decode cX5_joins 23 = .ok (.if_icmp .ne 14, 3) := by decide +kernel
theorem dX5_joins_26 : decode cX5_joins 26 = .ok (.aload_n 0, 1) := by decide +kernel
theorem dX5_joins_27 : decode cX5_joins 27 = .ok (.getfield 20, 3) := by decide +kernel
theorem dX5_joins_30 : decode cX5_joins 30 = .ok (.iload 4, 2) := by decide +kernel
theorem dX5_joins_32 : decode cX5_joins 32 = .ok (.iaload, 1) := by decide +kernel
theorem dX5_joins_33 : decode cX5_joins 33 = .ok (.iload_n 2, 1) := by decide +kernel
theorem dX5_joins_34 : decode cX5_joins 34 = .ok (.if_icmp .eq 25, 3) := by decide +kernel
theorem dX5_joins_37 : decode cX5_joins 37 = .ok (.aload_n 0, 1) := by decide +kernel
theorem dX5_joins_38 : decode cX5_joins 38 = .ok (.getfield 17, 3) := by decide +kernel
theorem dX5_joins_41 : decode cX5_joins 41 = .ok (.iload 4, 2) := by decide +kernel
theorem dX5_joins_43 : decode cX5_joins 43 = .ok (.iaload, 1) := by decide +kernel
theorem dX5_joins_44 : decode cX5_joins 44 = .ok (.iload_n 2, 1) := by decide +kernel
theorem dX5_joins_45 : decode cX5_joins 45 = .ok (.if_icmp .ne 18, 3) := by decide +kernel
theorem dX5_joins_48 : decode cX5_joins 48 = .ok (.aload_n 0, 1) := by decide +kernel
theorem dX5_joins_49 : decode cX5_joins 49 = .ok (.getfield 20, 3) := by decide +kernel
theorem dX5_joins_52 : decode cX5_joins 52 = .ok (.iload 4, 2) := by decide +kernel
theorem dX5_joins_54 : decode cX5_joins 54 = .ok (.iaload, 1) := by decide +kernel
theorem dX5_joins_55 : decode cX5_joins 55 = .ok (.iload_n 1, 1) := by decide +kernel
theorem dX5_joins_56 : decode cX5_joins 56 = .ok (.if_icmp .ne 7, 3) := by decide +kernel
theorem dX5_joins_59 : decode cX5_joins 59 = .ok (.iconst 1, 1) := by decide +kernel
theorem dX5_joins_60 : decode cX5_joins 60 = .ok (.goto 4, 3) := by decide +kernel
theorem dX5_joins_63 : decode cX5_joins 63 = .ok (.iconst 0, 1) := by decide +kernel
theorem dX5_joins_64 : decode cX5_joins 64 = .ok (.istore 5, 2) := by decide +kernel
theorem dX5_joins_66 : decode cX5_joins 66 = .ok (.iload 5, 2) := by decide +kernel
theorem dX5_joins_68 : decode cX5_joins 68 = .ok (.ifCond .eq 18, 3) := by decide +kernel
theorem dX5_joins_71 : decode cX5_joins 71 = .ok (.aload_n 0, 1) := by decide +kernel
theorem dX5_joins_72 : decode cX5_joins 72 = .ok (.getfield 29, 3) := by decide +kernel
theorem dX5_joins_75 : decode cX5_joins 75 = .ok (.iload 4, 2) := by decide +kernel
theorem dX5_joins_77 : decode cX5_joins 77 = .ok (.baload, 1) := by decide +kernel
theorem dX5_joins_78 : decode cX5_joins 78 = .ok (.ifCond .ne 8, 3) := by decide +kernel
theorem dX5_joins_81 : decode cX5_joins 81 = .ok (.iload 4, 2) := by decide +kernel
theorem dX5_joins_83 : decode cX5_joins 83 = .ok (.goto 4, 3) := by decide +kernel
theorem dX5_joins_86 : decode cX5_joins 86 = .ok (.iload_n 3, 1) := by decide +kernel
theorem dX5_joins_87 : decode cX5_joins 87 = .ok (.istore_n 3, 1) := by decide +kernel
theorem dX5_joins_88 : decode cX5_joins 88 = .ok (.iinc 4 (-1), 3) := by decide +kernel
theorem dX5_joins_91 : decode cX5_joins 91 = .ok (.goto (-81), 3) := by decide +kernel
theorem dX5_joins_94 : decode cX5_joins 94 = .ok (.iload_n 3, 1) := by decide +kernel
theorem dX5_joins_95 : decode cX5_joins 95 = .ok (.ireturn, 1) := by decide +kernel
set_option maxRecDepth 20000 in
theorem ggX5_go_X5_isStation : GoodIn wsX5_go wsX5_isStation := goodIn_r _ [10, 11, 12, 13, 9, 14, 27, 28, 29, 30, 31, 32, 33, 34, 35, 36, 37, 38, 39, 40, 41, 42, 43, 44] (by decide +kernel) (by decide +kernel)
set_option maxRecDepth 20000 in
theorem gX5_go_X5_isStation : GoodIn wsX5_go (wsV RX5 66 RX5 yX5_isStation wsX5_isStation) := goodIn_app (goodIn_of _ (by decide +kernel)) ggX5_go_X5_isStation
set_option maxRecDepth 20000 in
theorem ggX5_go_X5_joins : GoodIn wsX5_go wsX5_joins := goodIn_r _ [18, 19, 20, 4, 21, 27, 28, 29, 30, 31, 32, 33, 34, 35, 36, 37, 38, 39, 40, 41, 42, 43, 44] (by decide +kernel) (by decide +kernel)
set_option maxRecDepth 20000 in
theorem gX5_go_X5_joins : GoodIn wsX5_go (wsV RX5 138 RX5 yX5_joins wsX5_joins) := goodIn_app (goodIn_of _ (by decide +kernel)) ggX5_go_X5_joins
set_option maxRecDepth 20000 in
theorem ggX5_go_X5_goes : GoodIn wsX5_go wsX5_goes := goodIn_r _ [25, 26, 27, 28, 29, 30, 31, 32, 33, 34, 35, 36, 37, 38, 39, 40, 41, 42, 43, 44] (by decide +kernel) (by decide +kernel)
set_option maxRecDepth 20000 in
theorem gX5_go_X5_goes : GoodIn wsX5_go (wsV RX5 62 RX5 yX5_goes wsX5_goes) := goodIn_app (goodIn_of _ (by decide +kernel)) ggX5_go_X5_goes
theorem dX5_go_0 : decode cX5_go 0 = .ok (.aload_n 0, 1) := by decide +kernel
theorem dX5_go_1 : decode cX5_go 1 = .ok (.iload_n 1, 1) := by decide +kernel
theorem dX5_go_2 : decode cX5_go 2 = .ok (.invokevirtual 66, 3) := by decide +kernel
theorem dX5_go_5 : decode cX5_go 5 = .ok (.istore_n 2, 1) := by decide +kernel
theorem dX5_go_6 : decode cX5_go 6 = .ok (.iload_n 2, 1) := by decide +kernel
theorem dX5_go_7 : decode cX5_go 7 = .ok (.ifCond .eq 29, 3) := by decide +kernel
theorem dX5_go_10 : decode cX5_go 10 = .ok (.aload_n 0, 1) := by decide +kernel
theorem dX5_go_11 : decode cX5_go 11 = .ok (.getfield 135, 3) := by decide +kernel
theorem dX5_go_14 : decode cX5_go 14 = .ok (.ifCond .le 22, 3) := by decide +kernel
theorem dX5_go_17 : decode cX5_go 17 = .ok (.aload_n 0, 1) := by decide +kernel
theorem dX5_go_18 : decode cX5_go 18 = .ok (.aload_n 0, 1) := by decide +kernel
theorem dX5_go_19 : decode cX5_go 19 = .ok (.getfield 32, 3) := by decide +kernel
theorem dX5_go_22 : decode cX5_go 22 = .ok (.aload_n 0, 1) := by decide +kernel
theorem dX5_go_23 : decode cX5_go 23 = .ok (.getfield 135, 3) := by decide +kernel
theorem dX5_go_26 : decode cX5_go 26 = .ok (.iconst 1, 1) := by decide +kernel
theorem dX5_go_27 : decode cX5_go 27 = .ok (.isub, 1) := by decide +kernel
theorem dX5_go_28 : decode cX5_go 28 = .ok (.iaload, 1) := by decide +kernel
theorem dX5_go_29 : decode cX5_go 29 = .ok (.iload_n 1, 1) := by decide +kernel
theorem dX5_go_30 : decode cX5_go 30 = .ok (.invokevirtual 138, 3) := by decide +kernel
theorem dX5_go_33 : decode cX5_go 33 = .ok (.goto 4, 3) := by decide +kernel
theorem dX5_go_36 : decode cX5_go 36 = .ok (.iconst (-1), 1) := by decide +kernel
theorem dX5_go_37 : decode cX5_go 37 = .ok (.istore_n 3, 1) := by decide +kernel
theorem dX5_go_38 : decode cX5_go 38 = .ok (.aload_n 0, 1) := by decide +kernel
theorem dX5_go_39 : decode cX5_go 39 = .ok (.iload_n 2, 1) := by decide +kernel
theorem dX5_go_40 : decode cX5_go 40 = .ok (.ifCond .ne 7, 3) := by decide +kernel
theorem dX5_go_43 : decode cX5_go 43 = .ok (.iconst 1, 1) := by decide +kernel
theorem dX5_go_44 : decode cX5_go 44 = .ok (.goto 29, 3) := by decide +kernel
theorem dX5_go_47 : decode cX5_go 47 = .ok (.aload_n 0, 1) := by decide +kernel
theorem dX5_go_48 : decode cX5_go 48 = .ok (.getfield 135, 3) := by decide +kernel
theorem dX5_go_51 : decode cX5_go 51 = .ok (.bipush 10, 2) := by decide +kernel
theorem dX5_go_53 : decode cX5_go 53 = .ok (.if_icmp .eq 15, 3) := by decide +kernel
theorem dX5_go_56 : decode cX5_go 56 = .ok (.aload_n 0, 1) := by decide +kernel
theorem dX5_go_57 : decode cX5_go 57 = .ok (.getfield 135, 3) := by decide +kernel
theorem dX5_go_60 : decode cX5_go 60 = .ok (.ifCond .le 12, 3) := by decide +kernel
theorem dX5_go_63 : decode cX5_go 63 = .ok (.iload_n 3, 1) := by decide +kernel
theorem dX5_go_64 : decode cX5_go 64 = .ok (.iconst (-1), 1) := by decide +kernel
theorem dX5_go_65 : decode cX5_go 65 = .ok (.if_icmp .ne 7, 3) := by decide +kernel
theorem dX5_go_68 : decode cX5_go 68 = .ok (.iconst 2, 1) := by decide +kernel
theorem dX5_go_69 : decode cX5_go 69 = .ok (.goto 4, 3) := by decide +kernel
theorem dX5_go_72 : decode cX5_go 72 = .ok (.iconst 0, 1) := by decide +kernel
theorem dX5_go_73 : decode cX5_go 73 = .ok (.invokevirtual 62, 3) := by decide +kernel
theorem dX5_go_76 : decode cX5_go 76 = .ok (.ifCond .ne 5, 3) := by decide +kernel
theorem dX5_go_79 : decode cX5_go 79 = .ok (.iconst 0, 1) := by decide +kernel
theorem dX5_go_80 : decode cX5_go 80 = .ok (.ireturn, 1) := by decide +kernel
theorem dX5_go_81 : decode cX5_go 81 = .ok (.aload_n 0, 1) := by decide +kernel
theorem dX5_go_82 : decode cX5_go 82 = .ok (.dup, 1) := by decide +kernel
theorem dX5_go_83 : decode cX5_go 83 = .ok (.getfield 45, 3) := by decide +kernel
theorem dX5_go_86 : decode cX5_go 86 = .ok (.iload_n 3, 1) := by decide +kernel
theorem dX5_go_87 : decode cX5_go 87 = .ok (.iconst (-1), 1) := by decide +kernel
theorem dX5_go_88 : decode cX5_go 88 = .ok (.if_icmp .ne 7, 3) := by decide +kernel
theorem dX5_go_91 : decode cX5_go 91 = .ok (.iconst 0, 1) := by decide +kernel
theorem dX5_go_92 : decode cX5_go 92 = .ok (.goto 29, 3) := by decide +kernel
theorem dX5_go_95 : decode cX5_go 95 = .ok (.aload_n 0, 1) := by decide +kernel
theorem dX5_go_96 : decode cX5_go 96 = .ok (.getfield 20, 3) := by decide +kernel
theorem dX5_go_99 : decode cX5_go 99 = .ok (.iload_n 3, 1) := by decide +kernel
theorem dX5_go_100 : decode cX5_go 100 = .ok (.iaload, 1) := by decide +kernel
theorem dX5_go_101 : decode cX5_go 101 = .ok (.iload_n 1, 1) := by decide +kernel
theorem dX5_go_102 : decode cX5_go 102 = .ok (.if_icmp .ne 12, 3) := by decide +kernel
theorem dX5_go_105 : decode cX5_go 105 = .ok (.aload_n 0, 1) := by decide +kernel
theorem dX5_go_106 : decode cX5_go 106 = .ok (.getfield 23, 3) := by decide +kernel
theorem dX5_go_109 : decode cX5_go 109 = .ok (.iload_n 3, 1) := by decide +kernel
theorem dX5_go_110 : decode cX5_go 110 = .ok (.iaload, 1) := by decide +kernel
theorem dX5_go_111 : decode cX5_go 111 = .ok (.goto 10, 3) := by decide +kernel
theorem dX5_go_114 : decode cX5_go 114 = .ok (.aload_n 0, 1) := by decide +kernel
theorem dX5_go_115 : decode cX5_go 115 = .ok (.getfield 23, 3) := by decide +kernel
theorem dX5_go_118 : decode cX5_go 118 = .ok (.iload_n 3, 1) := by decide +kernel
theorem dX5_go_119 : decode cX5_go 119 = .ok (.iaload, 1) := by decide +kernel
theorem dX5_go_120 : decode cX5_go 120 = .ok (.ineg, 1) := by decide +kernel
theorem dX5_go_121 : decode cX5_go 121 = .ok (.iadd, 1) := by decide +kernel
theorem dX5_go_122 : decode cX5_go 122 = .ok (.putfield 45, 3) := by decide +kernel
theorem dX5_go_125 : decode cX5_go 125 = .ok (.aload_n 0, 1) := by decide +kernel
theorem dX5_go_126 : decode cX5_go 126 = .ok (.getfield 32, 3) := by decide +kernel
theorem dX5_go_129 : decode cX5_go 129 = .ok (.aload_n 0, 1) := by decide +kernel
theorem dX5_go_130 : decode cX5_go 130 = .ok (.getfield 135, 3) := by decide +kernel
theorem dX5_go_133 : decode cX5_go 133 = .ok (.iload_n 1, 1) := by decide +kernel
theorem dX5_go_134 : decode cX5_go 134 = .ok (.iastore, 1) := by decide +kernel
theorem dX5_go_135 : decode cX5_go 135 = .ok (.aload_n 0, 1) := by decide +kernel
theorem dX5_go_136 : decode cX5_go 136 = .ok (.dup, 1) := by decide +kernel
theorem dX5_go_137 : decode cX5_go 137 = .ok (.getfield 135, 3) := by decide +kernel
theorem dX5_go_140 : decode cX5_go 140 = .ok (.iconst 1, 1) := by decide +kernel
theorem dX5_go_141 : decode cX5_go 141 = .ok (.iadd, 1) := by decide +kernel
theorem dX5_go_142 : decode cX5_go 142 = .ok (.putfield 135, 3) := by decide +kernel
theorem dX5_go_145 : decode cX5_go 145 = .ok (.aload_n 0, 1) := by decide +kernel
theorem dX5_go_146 : decode cX5_go 146 = .ok (.getfield 135, 3) := by decide +kernel
theorem dX5_go_149 : decode cX5_go 149 = .ok (.ireturn, 1) := by decide +kernel
theorem dX5_end_0 : decode cX5_end 0 = .ok (.aload_n 0, 1) := by decide +kernel
theorem dX5_end_1 : decode cX5_end 1 = .ok (.iconst 0, 1) := by decide +kernel
theorem dX5_end_2 : decode cX5_end 2 = .ok (.putfield 49, 3) := by decide +kernel
theorem dX5_end_5 : decode cX5_end 5 = .ok (.aload_n 0, 1) := by decide +kernel
theorem dX5_end_6 : decode cX5_end 6 = .ok (.getfield 135, 3) := by decide +kernel
theorem dX5_end_9 : decode cX5_end 9 = .ok (.istore_n 1, 1) := by decide +kernel
theorem dX5_end_10 : decode cX5_end 10 = .ok (.aload_n 0, 1) := by decide +kernel
theorem dX5_end_11 : decode cX5_end 11 = .ok (.iconst 0, 1) := by decide +kernel
theorem dX5_end_12 : decode cX5_end 12 = .ok (.putfield 135, 3) := by decide +kernel
theorem dX5_end_15 : decode cX5_end 15 = .ok (.aload_n 0, 1) := by decide +kernel
theorem dX5_end_16 : decode cX5_end 16 = .ok (.iconst 0, 1) := by decide +kernel
theorem dX5_end_17 : decode cX5_end 17 = .ok (.putfield 45, 3) := by decide +kernel
theorem dX5_end_20 : decode cX5_end 20 = .ok (.iload_n 1, 1) := by decide +kernel
theorem dX5_end_21 : decode cX5_end 21 = .ok (.ireturn, 1) := by decide +kernel
theorem dX5_sum_0 : decode cX5_sum 0 = .ok (.aload_n 0, 1) := by decide +kernel
theorem dX5_sum_1 : decode cX5_sum 1 = .ok (.iconst 0, 1) := by decide +kernel
theorem dX5_sum_2 : decode cX5_sum 2 = .ok (.putfield 49, 3) := by decide +kernel
theorem dX5_sum_5 : decode cX5_sum 5 = .ok (.aload_n 0, 1) := by decide +kernel
theorem dX5_sum_6 : decode cX5_sum 6 = .ok (.getfield 45, 3) := by decide +kernel
theorem dX5_sum_9 : decode cX5_sum 9 = .ok (.ireturn, 1) := by decide +kernel
theorem dX5_isClosed_0 : decode cX5_isClosed 0 = .ok (.aload_n 0, 1) := by decide +kernel
theorem dX5_isClosed_1 : decode cX5_isClosed 1 = .ok (.iconst 0, 1) := by decide +kernel
theorem dX5_isClosed_2 : decode cX5_isClosed 2 = .ok (.putfield 49, 3) := by decide +kernel
theorem dX5_isClosed_5 : decode cX5_isClosed 5 = .ok (.aload_n 0, 1) := by decide +kernel
theorem dX5_isClosed_6 : decode cX5_isClosed 6 = .ok (.getfield 135, 3) := by decide +kernel
theorem dX5_isClosed_9 : decode cX5_isClosed 9 = .ok (.ifCond .le 34, 3) := by decide +kernel
theorem dX5_isClosed_12 : decode cX5_isClosed 12 = .ok (.aload_n 0, 1) := by decide +kernel
theorem dX5_isClosed_13 : decode cX5_isClosed 13 = .ok (.getfield 32, 3) := by decide +kernel
theorem dX5_isClosed_16 : decode cX5_isClosed 16 = .ok (.aload_n 0, 1) := by decide +kernel
theorem dX5_isClosed_17 : decode cX5_isClosed 17 = .ok (.getfield 135, 3) := by decide +kernel
theorem dX5_isClosed_20 : decode cX5_isClosed 20 = .ok (.iconst 1, 1) := by decide +kernel
theorem dX5_isClosed_21 : decode cX5_isClosed 21 = .ok (.isub, 1) := by decide +kernel
theorem dX5_isClosed_22 : decode cX5_isClosed 22 = .ok (.iaload, 1) := by decide +kernel
theorem dX5_isClosed_23 : decode cX5_isClosed 23 = .ok (.aload_n 0, 1) := by decide +kernel
theorem dX5_isClosed_24 : decode cX5_isClosed 24 = .ok (.getfield 32, 3) := by decide +kernel
theorem dX5_isClosed_27 : decode cX5_isClosed 27 = .ok (.iconst 0, 1) := by decide +kernel
theorem dX5_isClosed_28 : decode cX5_isClosed 28 = .ok (.iaload, 1) := by decide +kernel
theorem dX5_isClosed_29 : decode cX5_isClosed 29 = .ok (.if_icmp .ne 14, 3) := by decide +kernel
theorem dX5_isClosed_32 : decode cX5_isClosed 32 = .ok (.aload_n 0, 1) := by decide +kernel
theorem dX5_isClosed_33 : decode cX5_isClosed 33 = .ok (.getfield 45, 3) := by decide +kernel
theorem dX5_isClosed_36 : decode cX5_isClosed 36 = .ok (.ifCond .ne 7, 3) := by decide +kernel
theorem dX5_isClosed_39 : decode cX5_isClosed 39 = .ok (.iconst 1, 1) := by decide +kernel
theorem dX5_isClosed_40 : decode cX5_isClosed 40 = .ok (.goto 4, 3) := by decide +kernel
theorem dX5_isClosed_43 : decode cX5_isClosed 43 = .ok (.iconst 0, 1) := by decide +kernel
theorem dX5_isClosed_44 : decode cX5_isClosed 44 = .ok (.ireturn, 1) := by decide +kernel
set_option maxRecDepth 20000 in
theorem ggX5_trees_X5_isStation : GoodIn wsX5_trees wsX5_isStation := goodIn_r _ [6, 7, 8, 9, 5, 10, 51, 52, 53, 54, 55, 56, 57, 58, 59, 60, 61, 62, 63, 64, 65, 66, 67, 68] (by decide +kernel) (by decide +kernel)
set_option maxRecDepth 20000 in
theorem gX5_trees_X5_isStation : GoodIn wsX5_trees (wsV RX5 66 RX5 yX5_isStation wsX5_isStation) := goodIn_app (goodIn_of _ (by decide +kernel)) ggX5_trees_X5_isStation
set_option maxRecDepth 20000 in
theorem ggX5_trees_X5_goes : GoodIn wsX5_trees wsX5_goes := goodIn_r _ [14, 15, 51, 52, 53, 54, 55, 56, 57, 58, 59, 60, 61, 62, 63, 64, 65, 66, 67, 68] (by decide +kernel) (by decide +kernel)
set_option maxRecDepth 20000 in
theorem gX5_trees_X5_goes : GoodIn wsX5_trees (wsV RX5 62 RX5 yX5_goes wsX5_goes) := goodIn_app (goodIn_of _ (by decide +kernel)) ggX5_trees_X5_goes
set_option maxRecDepth 20000 in
theorem ggX5_trees_X5_finds : GoodIn wsX5_trees wsX5_finds := goodIn_r _ [19, 20, 21, 22, 5, 23, 24, 25, 26, 27, 28, 29, 7, 30, 31, 32, 33, 34, 35, 36, 37, 38, 39, 40, 41, 42, 43, 44, 45, 46, 47, 48, 49, 1, 50, 51, 52, 53, 54, 55, 56, 57, 58, 59, 60, 61, 62, 63, 64, 65, 66, 67, 68] (by decide +kernel) (by decide +kernel)
set_option maxRecDepth 20000 in
theorem gX5_trees_X5_finds : GoodIn wsX5_trees (wsV RX5 96 RX5 yX5_finds wsX5_finds) := goodIn_app (goodIn_of _ (by decide +kernel)) ggX5_trees_X5_finds
theorem dX5_trees_0 : decode cX5_trees 0 = .ok (.aload_n 0, 1) := by decide +kernel
theorem dX5_trees_1 : decode cX5_trees 1 = .ok (.aload_n 0, 1) := by decide +kernel
theorem dX5_trees_2 : decode cX5_trees 2 = .ok (.iload_n 1, 1) := by decide +kernel
theorem dX5_trees_3 : decode cX5_trees 3 = .ok (.invokevirtual 66, 3) := by decide +kernel
theorem dX5_trees_6 : decode cX5_trees 6 = .ok (.ifCond .eq 7, 3) := by decide +kernel
theorem dX5_trees_9 : decode cX5_trees 9 = .ok (.iconst 0, 1) := by decide +kernel
theorem dX5_trees_10 : decode cX5_trees 10 = .ok (.goto 4, 3) := by decide +kernel
theorem dX5_trees_13 : decode cX5_trees 13 = .ok (.iconst 1, 1) := by decide +kernel
theorem dX5_trees_14 : decode cX5_trees 14 = .ok (.invokevirtual 62, 3) := by decide +kernel
theorem dX5_trees_17 : decode cX5_trees 17 = .ok (.ifCond .ne 5, 3) := by decide +kernel
theorem dX5_trees_20 : decode cX5_trees 20 = .ok (.lconst 0, 1) := by decide +kernel
theorem dX5_trees_21 : decode cX5_trees 21 = .ok (.lreturn, 1) := by decide +kernel
theorem dX5_trees_22 : decode cX5_trees 22 = .ok (.aload_n 0, 1) := by decide +kernel
theorem dX5_trees_23 : decode cX5_trees 23 = .ok (.iload_n 1, 1) := by decide +kernel
theorem dX5_trees_24 : decode cX5_trees 24 = .ok (.invokevirtual 96, 3) := by decide +kernel
theorem dX5_trees_27 : decode cX5_trees 27 = .ok (.aload_n 0, 1) := by decide +kernel
theorem dX5_trees_28 : decode cX5_trees 28 = .ok (.getfield 79, 3) := by decide +kernel
theorem dX5_trees_31 : decode cX5_trees 31 = .ok (.lreturn, 1) := by decide +kernel
set_option maxRecDepth 20000 in
theorem ggX5_parts_X5_reaches : GoodIn wsX5_parts wsX5_reaches := goodIn_r _ [8, 3, 9, 10, 11, 12, 13, 2, 14, 15, 16, 17, 18, 19, 20, 21, 22, 23, 24, 25, 26, 27, 28, 29, 30, 31, 32] (by decide +kernel) (by decide +kernel)
set_option maxRecDepth 20000 in
theorem gX5_parts_X5_reaches : GoodIn wsX5_parts (wsV RX5 83 RX5 yX5_reaches wsX5_reaches) := goodIn_app (goodIn_of _ (by decide +kernel)) ggX5_parts_X5_reaches
theorem dX5_parts_0 : decode cX5_parts 0 = .ok (.aload_n 0, 1) := by decide +kernel
theorem dX5_parts_1 : decode cX5_parts 1 = .ok (.iconst 0, 1) := by decide +kernel
theorem dX5_parts_2 : decode cX5_parts 2 = .ok (.putfield 49, 3) := by decide +kernel
theorem dX5_parts_5 : decode cX5_parts 5 = .ok (.iconst 0, 1) := by decide +kernel
theorem dX5_parts_6 : decode cX5_parts 6 = .ok (.istore_n 1, 1) := by decide +kernel
theorem dX5_parts_7 : decode cX5_parts 7 = .ok (.iconst 0, 1) := by decide +kernel
theorem dX5_parts_8 : decode cX5_parts 8 = .ok (.istore_n 2, 1) := by decide +kernel
theorem dX5_parts_9 : decode cX5_parts 9 = .ok (.iload_n 2, 1) := by decide +kernel
theorem dX5_parts_10 : decode cX5_parts 10 = .ok (.aload_n 0, 1) := by decide +kernel
theorem dX5_parts_11 : decode cX5_parts 11 = .ok (.getfield 52, 3) := by decide +kernel
theorem dX5_parts_14 : decode cX5_parts 14 = .ok (.if_icmp .ge 63, 3) := by decide +kernel
theorem dX5_parts_17 : decode cX5_parts 17 = .ok (.aload_n 0, 1) := by decide +kernel
theorem dX5_parts_18 : decode cX5_parts 18 = .ok (.iload_n 2, 1) := by decide +kernel
theorem dX5_parts_19 : decode cX5_parts 19 = .ok (.invokevirtual 83, 3) := by decide +kernel
theorem dX5_parts_22 : decode cX5_parts 22 = .ok (.iconst 1, 1) := by decide +kernel
theorem dX5_parts_23 : decode cX5_parts 23 = .ok (.istore_n 3, 1) := by decide +kernel
theorem dX5_parts_24 : decode cX5_parts 24 = .ok (.iconst 0, 1) := by decide +kernel
theorem dX5_parts_25 : decode cX5_parts 25 = .ok (.istore 4, 2) := by decide +kernel
theorem dX5_parts_27 : decode cX5_parts 27 = .ok (.iload 4, 2) := by decide +kernel
theorem dX5_parts_29 : decode cX5_parts 29 = .ok (.iload_n 2, 1) := by decide +kernel
theorem dX5_parts_30 : decode cX5_parts 30 = .ok (.if_icmp .ge 29, 3) := by decide +kernel
theorem dX5_parts_33 : decode cX5_parts 33 = .ok (.iload_n 3, 1) := by decide +kernel
theorem dX5_parts_34 : decode cX5_parts 34 = .ok (.ifCond .eq 17, 3) := by decide +kernel
theorem dX5_parts_37 : decode cX5_parts 37 = .ok (.aload_n 0, 1) := by decide +kernel
theorem dX5_parts_38 : decode cX5_parts 38 = .ok (.getfield 35, 3) := by decide +kernel
theorem dX5_parts_41 : decode cX5_parts 41 = .ok (.iload 4, 2) := by decide +kernel
theorem dX5_parts_43 : decode cX5_parts 43 = .ok (.baload, 1) := by decide +kernel
theorem dX5_parts_44 : decode cX5_parts 44 = .ok (.ifCond .ne 7, 3) := by decide +kernel
theorem dX5_parts_47 : decode cX5_parts 47 = .ok (.iconst 1, 1) := by decide +kernel
theorem dX5_parts_48 : decode cX5_parts 48 = .ok (.goto 4, 3) := by decide +kernel
theorem dX5_parts_51 : decode cX5_parts 51 = .ok (.iconst 0, 1) := by decide +kernel
theorem dX5_parts_52 : decode cX5_parts 52 = .ok (.istore_n 3, 1) := by decide +kernel
theorem dX5_parts_53 : decode cX5_parts 53 = .ok (.iinc 4 1, 3) := by decide +kernel
theorem dX5_parts_56 : decode cX5_parts 56 = .ok (.goto (-29), 3) := by decide +kernel
theorem dX5_parts_59 : decode cX5_parts 59 = .ok (.iload_n 1, 1) := by decide +kernel
theorem dX5_parts_60 : decode cX5_parts 60 = .ok (.iload_n 3, 1) := by decide +kernel
theorem dX5_parts_61 : decode cX5_parts 61 = .ok (.ifCond .eq 7, 3) := by decide +kernel
theorem dX5_parts_64 : decode cX5_parts 64 = .ok (.iconst 1, 1) := by decide +kernel
theorem dX5_parts_65 : decode cX5_parts 65 = .ok (.goto 4, 3) := by decide +kernel
theorem dX5_parts_68 : decode cX5_parts 68 = .ok (.iconst 0, 1) := by decide +kernel
theorem dX5_parts_69 : decode cX5_parts 69 = .ok (.iadd, 1) := by decide +kernel
theorem dX5_parts_70 : decode cX5_parts 70 = .ok (.istore_n 1, 1) := by decide +kernel
theorem dX5_parts_71 : decode cX5_parts 71 = .ok (.iinc 2 1, 3) := by decide +kernel
theorem dX5_parts_74 : decode cX5_parts 74 = .ok (.goto (-65), 3) := by decide +kernel
theorem dX5_parts_77 : decode cX5_parts 77 = .ok (.iload_n 1, 1) := by decide +kernel
theorem dX5_parts_78 : decode cX5_parts 78 = .ok (.ireturn, 1) := by decide +kernel
theorem dJ9_floorDiv_f86c9_0 : decode cJ9_floorDiv_f86c9 0 = .ok (.lload_n 0, 1) := by decide +kernel
theorem dJ9_floorDiv_f86c9_1 : decode cJ9_floorDiv_f86c9 1 = .ok (.lload_n 2, 1) := by decide +kernel
theorem dJ9_floorDiv_f86c9_2 : decode cJ9_floorDiv_f86c9 2 = .ok (.ldiv, 1) := by decide +kernel
theorem dJ9_floorDiv_f86c9_3 : decode cJ9_floorDiv_f86c9 3 = .ok (.lstore 4, 2) := by decide +kernel
theorem dJ9_floorDiv_f86c9_5 : decode cJ9_floorDiv_f86c9 5 = .ok (.lload_n 0, 1) := by decide +kernel
theorem dJ9_floorDiv_f86c9_6 : decode cJ9_floorDiv_f86c9 6 = .ok (.lload_n 2, 1) := by decide +kernel
theorem dJ9_floorDiv_f86c9_7 : decode cJ9_floorDiv_f86c9 7 = .ok (.lxor, 1) := by decide +kernel
theorem dJ9_floorDiv_f86c9_8 : decode cJ9_floorDiv_f86c9 8 = .ok (.lconst 0, 1) := by decide +kernel
theorem dJ9_floorDiv_f86c9_9 : decode cJ9_floorDiv_f86c9 9 = .ok (.lcmp, 1) := by decide +kernel
theorem dJ9_floorDiv_f86c9_10 : decode cJ9_floorDiv_f86c9 10 = .ok (.ifCond .ge 17, 3) := by decide +kernel
theorem dJ9_floorDiv_f86c9_13 : decode cJ9_floorDiv_f86c9 13 = .ok (.lload 4, 2) := by decide +kernel
theorem dJ9_floorDiv_f86c9_15 : decode cJ9_floorDiv_f86c9 15 = .ok (.lload_n 2, 1) := by decide +kernel
theorem dJ9_floorDiv_f86c9_16 : decode cJ9_floorDiv_f86c9 16 = .ok (.lmul, 1) := by decide +kernel
theorem dJ9_floorDiv_f86c9_17 : decode cJ9_floorDiv_f86c9 17 = .ok (.lload_n 0, 1) := by decide +kernel
theorem dJ9_floorDiv_f86c9_18 : decode cJ9_floorDiv_f86c9 18 = .ok (.lcmp, 1) := by decide +kernel
theorem dJ9_floorDiv_f86c9_19 : decode cJ9_floorDiv_f86c9 19 = .ok (.ifCond .eq 8, 3) := by decide +kernel
theorem dJ9_floorDiv_f86c9_22 : decode cJ9_floorDiv_f86c9 22 = .ok (.lload 4, 2) := by decide +kernel
theorem dJ9_floorDiv_f86c9_24 : decode cJ9_floorDiv_f86c9 24 = .ok (.lconst 1, 1) := by decide +kernel
theorem dJ9_floorDiv_f86c9_25 : decode cJ9_floorDiv_f86c9 25 = .ok (.lsub, 1) := by decide +kernel
theorem dJ9_floorDiv_f86c9_26 : decode cJ9_floorDiv_f86c9 26 = .ok (.lreturn, 1) := by decide +kernel
theorem dJ9_floorDiv_f86c9_27 : decode cJ9_floorDiv_f86c9 27 = .ok (.lload 4, 2) := by decide +kernel
theorem dJ9_floorDiv_f86c9_29 : decode cJ9_floorDiv_f86c9 29 = .ok (.lreturn, 1) := by decide +kernel
theorem dJ9_abs_067f4_0 : decode cJ9_abs_067f4 0 = .ok (.lload_n 0, 1) := by decide +kernel
theorem dJ9_abs_067f4_1 : decode cJ9_abs_067f4 1 = .ok (.lconst 0, 1) := by decide +kernel
theorem dJ9_abs_067f4_2 : decode cJ9_abs_067f4 2 = .ok (.lcmp, 1) := by decide +kernel
theorem dJ9_abs_067f4_3 : decode cJ9_abs_067f4 3 = .ok (.ifCond .ge 8, 3) := by decide +kernel
theorem dJ9_abs_067f4_6 : decode cJ9_abs_067f4 6 = .ok (.lload_n 0, 1) := by decide +kernel
theorem dJ9_abs_067f4_7 : decode cJ9_abs_067f4 7 = .ok (.lneg, 1) := by decide +kernel
theorem dJ9_abs_067f4_8 : decode cJ9_abs_067f4 8 = .ok (.goto 4, 3) := by decide +kernel
theorem dJ9_abs_067f4_11 : decode cJ9_abs_067f4 11 = .ok (.lload_n 0, 1) := by decide +kernel
theorem dJ9_abs_067f4_12 : decode cJ9_abs_067f4 12 = .ok (.lreturn, 1) := by decide +kernel
theorem dJ9_max_7cf53_0 : decode cJ9_max_7cf53 0 = .ok (.iload_n 0, 1) := by decide +kernel
theorem dJ9_max_7cf53_1 : decode cJ9_max_7cf53 1 = .ok (.iload_n 1, 1) := by decide +kernel
theorem dJ9_max_7cf53_2 : decode cJ9_max_7cf53 2 = .ok (.if_icmp .lt 7, 3) := by decide +kernel
theorem dJ9_max_7cf53_5 : decode cJ9_max_7cf53 5 = .ok (.iload_n 0, 1) := by decide +kernel
theorem dJ9_max_7cf53_6 : decode cJ9_max_7cf53 6 = .ok (.goto 4, 3) := by decide +kernel
theorem dJ9_max_7cf53_9 : decode cJ9_max_7cf53 9 = .ok (.iload_n 1, 1) := by decide +kernel
theorem dJ9_max_7cf53_10 : decode cJ9_max_7cf53 10 = .ok (.ireturn, 1) := by decide +kernel
theorem dJ9_min_7cf53_0 : decode cJ9_min_7cf53 0 = .ok (.iload_n 0, 1) := by decide +kernel
theorem dJ9_min_7cf53_1 : decode cJ9_min_7cf53 1 = .ok (.iload_n 1, 1) := by decide +kernel
theorem dJ9_min_7cf53_2 : decode cJ9_min_7cf53 2 = .ok (.if_icmp .gt 7, 3) := by decide +kernel
theorem dJ9_min_7cf53_5 : decode cJ9_min_7cf53 5 = .ok (.iload_n 0, 1) := by decide +kernel
theorem dJ9_min_7cf53_6 : decode cJ9_min_7cf53 6 = .ok (.goto 4, 3) := by decide +kernel
theorem dJ9_min_7cf53_9 : decode cJ9_min_7cf53 9 = .ok (.iload_n 1, 1) := by decide +kernel
theorem dJ9_min_7cf53_10 : decode cJ9_min_7cf53 10 = .ok (.ireturn, 1) := by decide +kernel
set_option maxRecDepth 20000 in
theorem ggL_station_X4_station : GoodIn wsL_station wsX4_station := goodIn_ca (goodIn_r _ [6, 7, 8, 9, 10, 11, 12, 13, 14, 15, 16, 17, 18, 19, 20, 21, 22, 23, 24, 25, 26, 27, 28, 29, 30, 31, 32, 33, 34, 35, 36, 37, 38, 39, 40, 41, 42, 43, 44, 45, 46, 47, 48, 49, 50] (by decide +kernel) (by decide +kernel)) (goodIn_sub (fun _ h => List.mem_cons_of_mem _ (List.mem_append_right _ h)) (by decide +kernel))
set_option maxRecDepth 20000 in
theorem gL_station_X4_station : GoodIn wsL_station (wsV RL 7 RX4 yX4_station wsX4_station) := goodIn_app (goodIn_of _ (by decide +kernel)) ggL_station_X4_station
theorem dL_station_0 : decode cL_station 0 = .ok (.aload_n 1, 1) := by decide +kernel
theorem dL_station_1 : decode cL_station 1 = .ok (.iconst 0, 1) := by decide +kernel
theorem dL_station_2 : decode cL_station 2 = .ok (.aload_n 0, 1) := by decide +kernel
theorem dL_station_3 : decode cL_station 3 = .ok (.invokevirtual 7, 3) := by decide +kernel
theorem dL_station_6 : decode cL_station 6 = .ok (.i2l, 1) := by decide +kernel
theorem dL_station_7 : decode cL_station 7 = .ok (.lastore, 1) := by decide +kernel
theorem dL_station_8 : decode cL_station 8 = .ok (.goto 6, 3) := by decide +kernel
theorem dL_station_11 : decode cL_station 11 = .ok (.astore_n 2, 1) := by decide +kernel
theorem dL_station_12 : decode cL_station 12 = .ok (.iconst 1, 1) := by decide +kernel
theorem dL_station_13 : decode cL_station 13 = .ok (.ireturn, 1) := by decide +kernel
theorem dL_station_14 : decode cL_station 14 = .ok (.iconst 0, 1) := by decide +kernel
theorem dL_station_15 : decode cL_station 15 = .ok (.ireturn, 1) := by decide +kernel
set_option maxRecDepth 20000 in
theorem ggL_datum_X4_datum : GoodIn wsL_datum wsX4_datum := goodIn_ca (goodIn_ca (goodIn_r _ [7, 8, 9, 10, 11, 12, 13, 6, 14, 15, 16, 17, 18, 19, 20, 21, 22, 23, 24, 25, 26, 27, 28, 29, 30, 31, 32, 33, 34, 35, 36, 37, 38, 39, 40, 41, 42, 43, 44, 45] (by decide +kernel) (by decide +kernel)) (goodIn_sub (fun _ h => List.mem_cons_of_mem _ (List.mem_append_left _ (List.mem_append_right _ h))) (by decide +kernel))) (goodIn_sub (fun _ h => List.mem_cons_of_mem _ (List.mem_append_right _ h)) (by decide +kernel))
set_option maxRecDepth 20000 in
theorem gL_datum_X4_datum : GoodIn wsL_datum (wsV RL 15 RX4 yX4_datum wsX4_datum) := goodIn_app (goodIn_of _ (by decide +kernel)) ggL_datum_X4_datum
theorem dL_datum_0 : decode cL_datum 0 = .ok (.aload 4, 2) := by decide +kernel
theorem dL_datum_2 : decode cL_datum 2 = .ok (.iconst 0, 1) := by decide +kernel
theorem dL_datum_3 : decode cL_datum 3 = .ok (.aload_n 0, 1) := by decide +kernel
theorem dL_datum_4 : decode cL_datum 4 = .ok (.iload_n 1, 1) := by decide +kernel
theorem dL_datum_5 : decode cL_datum 5 = .ok (.iload_n 2, 1) := by decide +kernel
theorem dL_datum_6 : decode cL_datum 6 = .ok (.iload_n 3, 1) := by decide +kernel
theorem dL_datum_7 : decode cL_datum 7 = .ok (.invokevirtual 15, 3) := by decide +kernel
theorem dL_datum_10 : decode cL_datum 10 = .ok (.ifCond .eq 7, 3) := by decide +kernel
theorem dL_datum_13 : decode cL_datum 13 = .ok (.lconst 1, 1) := by decide +kernel
theorem dL_datum_14 : decode cL_datum 14 = .ok (.goto 4, 3) := by decide +kernel
theorem dL_datum_17 : decode cL_datum 17 = .ok (.lconst 0, 1) := by decide +kernel
theorem dL_datum_18 : decode cL_datum 18 = .ok (.lastore, 1) := by decide +kernel
theorem dL_datum_19 : decode cL_datum 19 = .ok (.goto 11, 3) := by decide +kernel
theorem dL_datum_22 : decode cL_datum 22 = .ok (.astore 5, 2) := by decide +kernel
theorem dL_datum_24 : decode cL_datum 24 = .ok (.iconst 1, 1) := by decide +kernel
theorem dL_datum_25 : decode cL_datum 25 = .ok (.ireturn, 1) := by decide +kernel
theorem dL_datum_26 : decode cL_datum 26 = .ok (.astore 5, 2) := by decide +kernel
theorem dL_datum_28 : decode cL_datum 28 = .ok (.iconst 2, 1) := by decide +kernel
theorem dL_datum_29 : decode cL_datum 29 = .ok (.ireturn, 1) := by decide +kernel
theorem dL_datum_30 : decode cL_datum 30 = .ok (.iconst 0, 1) := by decide +kernel
theorem dL_datum_31 : decode cL_datum 31 = .ok (.ireturn, 1) := by decide +kernel
set_option maxRecDepth 20000 in
theorem ggL_observe_X4_observe : GoodIn wsL_observe wsX4_observe := goodIn_ca (goodIn_ca (goodIn_ca (goodIn_r _ [8, 9, 10, 11, 12, 13, 14, 15, 16, 17, 7, 18, 19, 20, 21, 22, 23, 24, 25, 26, 27, 28, 29, 30, 31, 32, 33, 34, 35, 36, 37, 38, 39, 40, 41, 42, 43, 44, 45, 46, 47, 48, 49, 50, 51, 52, 53, 54, 55, 56, 57, 58, 59, 60, 61, 62, 63, 64, 65, 66, 67, 68, 69] (by decide +kernel) (by decide +kernel)) (goodIn_sub (fun _ h => List.mem_cons_of_mem _ (List.mem_append_left _ (List.mem_append_left _ (List.mem_append_right _ h)))) (by decide +kernel))) (goodIn_sub (fun _ h => List.mem_cons_of_mem _ (List.mem_append_left _ (List.mem_append_right _ h))) (by decide +kernel))) (goodIn_sub (fun _ h => List.mem_cons_of_mem _ (List.mem_append_right _ h)) (by decide +kernel))
set_option maxRecDepth 20000 in
theorem gL_observe_X4_observe : GoodIn wsL_observe (wsV RL 23 RX4 yX4_observe wsX4_observe) := goodIn_app (goodIn_of _ (by decide +kernel)) ggL_observe_X4_observe
theorem dL_observe_0 : decode cL_observe 0 = .ok (.aload 5, 2) := by decide +kernel
theorem dL_observe_2 : decode cL_observe 2 = .ok (.iconst 0, 1) := by decide +kernel
theorem dL_observe_3 : decode cL_observe 3 = .ok (.aload_n 0, 1) := by decide +kernel
theorem dL_observe_4 : decode cL_observe 4 = .ok (.iload_n 1, 1) := by decide +kernel
theorem dL_observe_5 : decode cL_observe 5 = .ok (.iload_n 2, 1) := by decide +kernel
theorem dL_observe_6 : decode cL_observe 6 = .ok (.iload_n 3, 1) := by decide +kernel
theorem dL_observe_7 : decode cL_observe 7 = .ok (.iload 4, 2) := by decide +kernel
theorem dL_observe_9 : decode cL_observe 9 = .ok (.invokevirtual 23, 3) := by decide +kernel
theorem dL_observe_12 : decode cL_observe 12 = .ok (.i2l, 1) := by decide +kernel
theorem dL_observe_13 : decode cL_observe 13 = .ok (.lastore, 1) := by decide +kernel
theorem dL_observe_14 : decode cL_observe 14 = .ok (.goto 15, 3) := by decide +kernel
theorem dL_observe_17 : decode cL_observe 17 = .ok (.astore 6, 2) := by decide +kernel
theorem dL_observe_19 : decode cL_observe 19 = .ok (.iconst 1, 1) := by decide +kernel
theorem dL_observe_20 : decode cL_observe 20 = .ok (.ireturn, 1) := by decide +kernel
theorem dL_observe_21 : decode cL_observe 21 = .ok (.astore 6, 2) := by decide +kernel
theorem dL_observe_23 : decode cL_observe 23 = .ok (.iconst 2, 1) := by decide +kernel
theorem dL_observe_24 : decode cL_observe 24 = .ok (.ireturn, 1) := by decide +kernel
theorem dL_observe_25 : decode cL_observe 25 = .ok (.astore 6, 2) := by decide +kernel
theorem dL_observe_27 : decode cL_observe 27 = .ok (.iconst 3, 1) := by decide +kernel
theorem dL_observe_28 : decode cL_observe 28 = .ok (.ireturn, 1) := by decide +kernel
theorem dL_observe_29 : decode cL_observe 29 = .ok (.iconst 0, 1) := by decide +kernel
theorem dL_observe_30 : decode cL_observe 30 = .ok (.ireturn, 1) := by decide +kernel
set_option maxRecDepth 20000 in
theorem ggL_withdraw_X4_withdraw : GoodIn wsL_withdraw wsX4_withdraw := goodIn_ca (goodIn_r _ [6, 7, 8, 9, 10, 5, 11, 12, 13, 14, 15, 16, 17, 18, 19, 20, 21, 22, 23, 24, 25, 26, 27, 28, 29, 30, 31, 32, 33, 34, 35, 36, 37, 38, 39, 40, 41, 42, 43, 44, 45, 46, 47, 48, 49, 50, 51, 52, 53, 54, 55, 56, 57] (by decide +kernel) (by decide +kernel)) (goodIn_sub (fun _ h => List.mem_cons_of_mem _ (List.mem_append_right _ h)) (by decide +kernel))
set_option maxRecDepth 20000 in
theorem gL_withdraw_X4_withdraw : GoodIn wsL_withdraw (wsV RL 27 RX4 yX4_withdraw wsX4_withdraw) := goodIn_app (goodIn_of _ (by decide +kernel)) ggL_withdraw_X4_withdraw
theorem dL_withdraw_0 : decode cL_withdraw 0 = .ok (.aload_n 3, 1) := by decide +kernel
theorem dL_withdraw_1 : decode cL_withdraw 1 = .ok (.iconst 0, 1) := by decide +kernel
theorem dL_withdraw_2 : decode cL_withdraw 2 = .ok (.aload_n 0, 1) := by decide +kernel
theorem dL_withdraw_3 : decode cL_withdraw 3 = .ok (.iload_n 1, 1) := by decide +kernel
theorem dL_withdraw_4 : decode cL_withdraw 4 = .ok (.iload_n 2, 1) := by decide +kernel
theorem dL_withdraw_5 : decode cL_withdraw 5 = .ok (.invokevirtual 27, 3) := by decide +kernel
theorem dL_withdraw_8 : decode cL_withdraw 8 = .ok (.ifCond .eq 7, 3) := by decide +kernel
theorem dL_withdraw_11 : decode cL_withdraw 11 = .ok (.lconst 1, 1) := by decide +kernel
theorem dL_withdraw_12 : decode cL_withdraw 12 = .ok (.goto 4, 3) := by decide +kernel
theorem dL_withdraw_15 : decode cL_withdraw 15 = .ok (.lconst 0, 1) := by decide +kernel
theorem dL_withdraw_16 : decode cL_withdraw 16 = .ok (.lastore, 1) := by decide +kernel
theorem dL_withdraw_17 : decode cL_withdraw 17 = .ok (.goto 7, 3) := by decide +kernel
theorem dL_withdraw_20 : decode cL_withdraw 20 = .ok (.astore 4, 2) := by decide +kernel
theorem dL_withdraw_22 : decode cL_withdraw 22 = .ok (.iconst 1, 1) := by decide +kernel
theorem dL_withdraw_23 : decode cL_withdraw 23 = .ok (.ireturn, 1) := by decide +kernel
theorem dL_withdraw_24 : decode cL_withdraw 24 = .ok (.iconst 0, 1) := by decide +kernel
theorem dL_withdraw_25 : decode cL_withdraw 25 = .ok (.ireturn, 1) := by decide +kernel
set_option maxRecDepth 20000 in
theorem ggL_clean_X4_clean : GoodIn wsL_clean wsX4_clean := goodIn_ca (goodIn_r _ [6, 7, 8, 9, 10, 11, 12, 13, 5, 14, 15, 16, 17, 18, 19, 20, 21, 22, 23, 24, 25, 26, 27, 28, 29, 30, 31, 32, 33, 34, 35, 36, 37, 38, 39, 40, 41, 42, 43, 44, 45, 46, 47, 48, 49, 50, 51, 52, 53, 54, 55, 56, 57, 58, 59, 60, 61, 62, 63, 64, 65, 66, 67, 68, 69, 70, 71, 72, 73, 74, 75, 76, 77, 78, 79, 80, 81, 82, 83, 84, 85, 86, 87, 88, 89, 90, 91, 92, 93, 94, 95, 96, 97, 98, 99, 100, 101, 102, 103, 104, 105, 106, 107, 108, 109, 110, 111, 112, 113, 114, 115, 116, 117, 118, 119, 120, 121, 122, 123, 124, 125, 126, 127, 128, 129, 130, 131, 132, 133, 134, 135, 136, 137, 138, 139, 140, 141, 142, 143, 144, 145, 146, 147, 148] (by decide +kernel) (by decide +kernel)) (goodIn_sub (fun _ h => List.mem_cons_of_mem _ (List.mem_append_right _ h)) (by decide +kernel))
set_option maxRecDepth 20000 in
theorem gL_clean_X4_clean : GoodIn wsL_clean (wsV RL 31 RX4 yX4_clean wsX4_clean) := goodIn_app (goodIn_of _ (by decide +kernel)) ggL_clean_X4_clean
theorem dL_clean_0 : decode cL_clean 0 = .ok (.aload_n 2, 1) := by decide +kernel
theorem dL_clean_1 : decode cL_clean 1 = .ok (.iconst 0, 1) := by decide +kernel
theorem dL_clean_2 : decode cL_clean 2 = .ok (.aload_n 0, 1) := by decide +kernel
theorem dL_clean_3 : decode cL_clean 3 = .ok (.iload_n 1, 1) := by decide +kernel
theorem dL_clean_4 : decode cL_clean 4 = .ok (.invokevirtual 31, 3) := by decide +kernel
theorem dL_clean_7 : decode cL_clean 7 = .ok (.i2l, 1) := by decide +kernel
theorem dL_clean_8 : decode cL_clean 8 = .ok (.lastore, 1) := by decide +kernel
theorem dL_clean_9 : decode cL_clean 9 = .ok (.goto 6, 3) := by decide +kernel
theorem dL_clean_12 : decode cL_clean 12 = .ok (.astore_n 3, 1) := by decide +kernel
theorem dL_clean_13 : decode cL_clean 13 = .ok (.iconst 1, 1) := by decide +kernel
theorem dL_clean_14 : decode cL_clean 14 = .ok (.ireturn, 1) := by decide +kernel
theorem dL_clean_15 : decode cL_clean 15 = .ok (.iconst 0, 1) := by decide +kernel
theorem dL_clean_16 : decode cL_clean 16 = .ok (.ireturn, 1) := by decide +kernel
set_option maxRecDepth 20000 in
theorem ggL_go_X4_go : GoodIn wsL_go wsX4_go := goodIn_ca (goodIn_ca (goodIn_r _ [7, 8, 9, 10, 11, 12, 13, 14, 15, 16, 6, 17, 18, 19, 20, 21, 22, 23, 24, 25, 26, 27, 28, 29, 30, 31, 32, 33, 34, 35, 36, 37, 38, 39, 40, 41, 42, 43, 44, 45, 46, 47, 48, 49, 50, 51, 52, 53, 54, 55, 56, 57, 58, 59, 60, 61, 62, 63, 64, 65, 66, 67, 68, 69] (by decide +kernel) (by decide +kernel)) (goodIn_sub (fun _ h => List.mem_cons_of_mem _ (List.mem_append_left _ (List.mem_append_right _ h))) (by decide +kernel))) (goodIn_sub (fun _ h => List.mem_cons_of_mem _ (List.mem_append_right _ h)) (by decide +kernel))
set_option maxRecDepth 20000 in
theorem gL_go_X4_go : GoodIn wsL_go (wsV RL 35 RX4 yX4_go wsX4_go) := goodIn_app (goodIn_of _ (by decide +kernel)) ggL_go_X4_go
theorem dL_go_0 : decode cL_go 0 = .ok (.aload_n 2, 1) := by decide +kernel
theorem dL_go_1 : decode cL_go 1 = .ok (.iconst 0, 1) := by decide +kernel
theorem dL_go_2 : decode cL_go 2 = .ok (.aload_n 0, 1) := by decide +kernel
theorem dL_go_3 : decode cL_go 3 = .ok (.iload_n 1, 1) := by decide +kernel
theorem dL_go_4 : decode cL_go 4 = .ok (.invokevirtual 35, 3) := by decide +kernel
theorem dL_go_7 : decode cL_go 7 = .ok (.i2l, 1) := by decide +kernel
theorem dL_go_8 : decode cL_go 8 = .ok (.lastore, 1) := by decide +kernel
theorem dL_go_9 : decode cL_go 9 = .ok (.goto 9, 3) := by decide +kernel
theorem dL_go_12 : decode cL_go 12 = .ok (.astore_n 3, 1) := by decide +kernel
theorem dL_go_13 : decode cL_go 13 = .ok (.iconst 1, 1) := by decide +kernel
theorem dL_go_14 : decode cL_go 14 = .ok (.ireturn, 1) := by decide +kernel
theorem dL_go_15 : decode cL_go 15 = .ok (.astore_n 3, 1) := by decide +kernel
theorem dL_go_16 : decode cL_go 16 = .ok (.iconst 2, 1) := by decide +kernel
theorem dL_go_17 : decode cL_go 17 = .ok (.ireturn, 1) := by decide +kernel
theorem dL_go_18 : decode cL_go 18 = .ok (.iconst 0, 1) := by decide +kernel
theorem dL_go_19 : decode cL_go 19 = .ok (.ireturn, 1) := by decide +kernel
set_option maxRecDepth 20000 in
theorem ggL_height_X4_height : GoodIn wsL_height wsX4_height := goodIn_ca (goodIn_r _ [6, 7, 8, 9, 10, 5, 11, 12, 13, 14, 15, 16, 17, 18, 19, 20, 21, 22, 23, 24, 25, 26, 27, 28, 29, 30, 31, 32, 33, 34, 35, 36, 37, 38, 39, 40, 41, 42, 43, 44, 45, 46, 47, 48, 49, 50, 51, 52, 53, 54, 55, 56, 57, 58, 59, 60, 61, 62, 63, 64, 65, 66, 67, 68, 69, 70, 71, 72, 73, 74, 75, 76, 77, 78, 79, 80, 81, 82, 83, 84, 85, 86, 87, 88, 89, 90, 91, 92, 93, 94, 95, 96, 97, 98, 99, 100, 101, 102, 103, 104, 105, 106, 107, 108, 109, 110, 111, 112, 113, 114] (by decide +kernel) (by decide +kernel)) (goodIn_sub (fun _ h => List.mem_cons_of_mem _ (List.mem_append_right _ h)) (by decide +kernel))
set_option maxRecDepth 20000 in
theorem gL_height_X4_height : GoodIn wsL_height (wsV RL 38 RX4 yX4_height wsX4_height) := goodIn_app (goodIn_of _ (by decide +kernel)) ggL_height_X4_height
theorem dL_height_0 : decode cL_height 0 = .ok (.aload_n 2, 1) := by decide +kernel
theorem dL_height_1 : decode cL_height 1 = .ok (.iconst 0, 1) := by decide +kernel
theorem dL_height_2 : decode cL_height 2 = .ok (.aload_n 0, 1) := by decide +kernel
theorem dL_height_3 : decode cL_height 3 = .ok (.iload_n 1, 1) := by decide +kernel
theorem dL_height_4 : decode cL_height 4 = .ok (.invokevirtual 38, 3) := by decide +kernel
theorem dL_height_7 : decode cL_height 7 = .ok (.lastore, 1) := by decide +kernel
theorem dL_height_8 : decode cL_height 8 = .ok (.goto 6, 3) := by decide +kernel
theorem dL_height_11 : decode cL_height 11 = .ok (.astore_n 3, 1) := by decide +kernel
theorem dL_height_12 : decode cL_height 12 = .ok (.iconst 1, 1) := by decide +kernel
theorem dL_height_13 : decode cL_height 13 = .ok (.ireturn, 1) := by decide +kernel
theorem dL_height_14 : decode cL_height 14 = .ok (.iconst 0, 1) := by decide +kernel
theorem dL_height_15 : decode cL_height 15 = .ok (.ireturn, 1) := by decide +kernel
set_option maxRecDepth 20000 in
theorem ggL_heightAnew_X4_heightAnew : GoodIn wsL_heightAnew wsX4_heightAnew := goodIn_ca (goodIn_r _ [6, 7, 8, 9, 10, 5, 11, 12, 13, 14, 15, 16, 17, 18, 19, 20, 21, 22, 23, 24, 25, 26, 27, 28, 29, 30, 31, 32, 33, 34, 35, 36, 37, 38, 39, 40, 41, 42, 43, 44, 45, 46, 47, 48, 49, 50, 51, 52, 53, 54, 55, 56, 57, 58, 59, 60, 61, 62, 63, 64, 65, 66, 67, 68, 69, 70, 71, 72, 73, 74, 75, 76, 77, 78, 79, 80, 81, 82, 83, 84, 85, 86, 87, 88, 89, 90, 91, 92, 93, 94, 95, 96, 97, 98, 99, 100, 101, 102, 103, 104, 105, 106, 107, 108, 109, 110, 111, 112] (by decide +kernel) (by decide +kernel)) (goodIn_sub (fun _ h => List.mem_cons_of_mem _ (List.mem_append_right _ h)) (by decide +kernel))
set_option maxRecDepth 20000 in
theorem gL_heightAnew_X4_heightAnew : GoodIn wsL_heightAnew (wsV RL 42 RX4 yX4_heightAnew wsX4_heightAnew) := goodIn_app (goodIn_of _ (by decide +kernel)) ggL_heightAnew_X4_heightAnew
theorem dL_heightAnew_0 : decode cL_heightAnew 0 = .ok (.aload_n 2, 1) := by decide +kernel
theorem dL_heightAnew_1 : decode cL_heightAnew 1 = .ok (.iconst 0, 1) := by decide +kernel
theorem dL_heightAnew_2 : decode cL_heightAnew 2 = .ok (.aload_n 0, 1) := by decide +kernel
theorem dL_heightAnew_3 : decode cL_heightAnew 3 = .ok (.iload_n 1, 1) := by decide +kernel
theorem dL_heightAnew_4 : decode cL_heightAnew 4 = .ok (.invokevirtual 42, 3) := by decide +kernel
theorem dL_heightAnew_7 : decode cL_heightAnew 7 = .ok (.lastore, 1) := by decide +kernel
theorem dL_heightAnew_8 : decode cL_heightAnew 8 = .ok (.goto 6, 3) := by decide +kernel
theorem dL_heightAnew_11 : decode cL_heightAnew 11 = .ok (.astore_n 3, 1) := by decide +kernel
theorem dL_heightAnew_12 : decode cL_heightAnew 12 = .ok (.iconst 1, 1) := by decide +kernel
theorem dL_heightAnew_13 : decode cL_heightAnew 13 = .ok (.ireturn, 1) := by decide +kernel
theorem dL_heightAnew_14 : decode cL_heightAnew 14 = .ok (.iconst 0, 1) := by decide +kernel
theorem dL_heightAnew_15 : decode cL_heightAnew 15 = .ok (.ireturn, 1) := by decide +kernel
set_option maxRecDepth 20000 in
theorem ggL_free_X4_free : GoodIn wsL_free wsX4_free := goodIn_ca (goodIn_r _ [6, 7, 8, 9, 10, 5, 11, 12, 13, 14, 15, 16, 17, 18, 19, 20, 21, 22, 23, 24, 25, 26, 27, 28, 29, 30, 31, 32, 33, 34, 35, 36, 37, 38, 39, 40, 41, 42, 43, 44, 45, 46, 47, 48, 49, 50, 51, 52, 53, 54, 55, 56, 57, 58, 59, 60, 61, 62, 63, 64, 65, 66, 67, 68, 69, 70, 71, 72, 73, 74, 75, 76, 77, 78, 79, 80, 81, 82, 83, 84, 85, 86, 87, 88, 89, 90, 91, 92, 93, 94, 95, 96, 97, 98, 99, 100, 101, 102, 103, 104, 105, 106, 107, 108, 109, 110, 111, 112, 113] (by decide +kernel) (by decide +kernel)) (goodIn_sub (fun _ h => List.mem_cons_of_mem _ (List.mem_append_right _ h)) (by decide +kernel))
set_option maxRecDepth 20000 in
theorem gL_free_X4_free : GoodIn wsL_free (wsV RL 45 RX4 yX4_free wsX4_free) := goodIn_app (goodIn_of _ (by decide +kernel)) ggL_free_X4_free
theorem dL_free_0 : decode cL_free 0 = .ok (.aload_n 2, 1) := by decide +kernel
theorem dL_free_1 : decode cL_free 1 = .ok (.iconst 0, 1) := by decide +kernel
theorem dL_free_2 : decode cL_free 2 = .ok (.aload_n 0, 1) := by decide +kernel
theorem dL_free_3 : decode cL_free 3 = .ok (.iload_n 1, 1) := by decide +kernel
theorem dL_free_4 : decode cL_free 4 = .ok (.invokevirtual 45, 3) := by decide +kernel
theorem dL_free_7 : decode cL_free 7 = .ok (.lastore, 1) := by decide +kernel
theorem dL_free_8 : decode cL_free 8 = .ok (.goto 6, 3) := by decide +kernel
theorem dL_free_11 : decode cL_free 11 = .ok (.astore_n 3, 1) := by decide +kernel
theorem dL_free_12 : decode cL_free 12 = .ok (.iconst 1, 1) := by decide +kernel
theorem dL_free_13 : decode cL_free 13 = .ok (.ireturn, 1) := by decide +kernel
theorem dL_free_14 : decode cL_free 14 = .ok (.iconst 0, 1) := by decide +kernel
theorem dL_free_15 : decode cL_free 15 = .ok (.ireturn, 1) := by decide +kernel
set_option maxRecDepth 20000 in
theorem ggL_residual_X4_residual : GoodIn wsL_residual wsX4_residual := goodIn_ca (goodIn_ca (goodIn_r _ [7, 8, 9, 10, 11, 6, 12, 13, 14, 15, 16, 17, 18, 19, 20, 21, 22, 23, 24, 25, 26, 27, 28, 29, 30, 31, 32, 33, 34, 35, 36, 37, 38, 39, 40, 41, 42, 43, 44, 45, 46, 47, 48, 49, 50, 51, 52, 53, 54, 55, 56, 57, 58, 59, 60, 61, 62, 63, 64, 65, 66, 67, 68, 69, 70, 71, 72, 73, 74, 75, 76, 77, 78, 79, 80, 81, 82, 83, 84, 85, 86, 87, 88, 89, 90, 91, 92, 93, 94, 95, 96, 97, 98, 99, 100, 101, 102, 103, 104, 105, 106, 107, 108, 109, 110, 111, 112, 113, 114, 115, 116, 117, 118, 119, 120, 121, 122, 123, 124, 125, 126] (by decide +kernel) (by decide +kernel)) (goodIn_sub (fun _ h => List.mem_cons_of_mem _ (List.mem_append_left _ (List.mem_append_right _ h))) (by decide +kernel))) (goodIn_sub (fun _ h => List.mem_cons_of_mem _ (List.mem_append_right _ h)) (by decide +kernel))
set_option maxRecDepth 20000 in
theorem gL_residual_X4_residual : GoodIn wsL_residual (wsV RL 48 RX4 yX4_residual wsX4_residual) := goodIn_app (goodIn_of _ (by decide +kernel)) ggL_residual_X4_residual
theorem dL_residual_0 : decode cL_residual 0 = .ok (.aload_n 2, 1) := by decide +kernel
theorem dL_residual_1 : decode cL_residual 1 = .ok (.iconst 0, 1) := by decide +kernel
theorem dL_residual_2 : decode cL_residual 2 = .ok (.aload_n 0, 1) := by decide +kernel
theorem dL_residual_3 : decode cL_residual 3 = .ok (.iload_n 1, 1) := by decide +kernel
theorem dL_residual_4 : decode cL_residual 4 = .ok (.invokevirtual 48, 3) := by decide +kernel
theorem dL_residual_7 : decode cL_residual 7 = .ok (.lastore, 1) := by decide +kernel
theorem dL_residual_8 : decode cL_residual 8 = .ok (.goto 9, 3) := by decide +kernel
theorem dL_residual_11 : decode cL_residual 11 = .ok (.astore_n 3, 1) := by decide +kernel
theorem dL_residual_12 : decode cL_residual 12 = .ok (.iconst 1, 1) := by decide +kernel
theorem dL_residual_13 : decode cL_residual 13 = .ok (.ireturn, 1) := by decide +kernel
theorem dL_residual_14 : decode cL_residual 14 = .ok (.astore_n 3, 1) := by decide +kernel
theorem dL_residual_15 : decode cL_residual 15 = .ok (.iconst 2, 1) := by decide +kernel
theorem dL_residual_16 : decode cL_residual 16 = .ok (.ireturn, 1) := by decide +kernel
theorem dL_residual_17 : decode cL_residual 17 = .ok (.iconst 0, 1) := by decide +kernel
theorem dL_residual_18 : decode cL_residual 18 = .ok (.ireturn, 1) := by decide +kernel
set_option maxRecDepth 20000 in
theorem ggL_check_X4_check : GoodIn wsL_check wsX4_check := goodIn_ca (goodIn_ca (goodIn_r _ [7, 8, 9, 10, 11, 6, 12, 13, 14, 15, 16, 17, 18, 19, 20, 21, 22, 23, 24, 25, 26, 27, 28, 29, 30, 31, 32, 33, 34, 35, 36, 37, 38, 39, 40, 41, 42, 43, 44, 45, 46, 47, 48, 49, 50, 51, 52, 53, 54, 55, 56, 57, 58, 59, 60, 61, 62, 63, 64, 65, 66, 67, 68, 69, 70, 71, 72, 73, 74, 75, 76, 77, 78, 79, 80, 81, 82, 83, 84, 85, 86, 87, 88, 89, 90, 91, 92, 93, 94, 95, 96, 97, 98, 99, 100, 101, 102, 103, 104, 105, 106, 107, 108, 109, 110, 111, 112, 113, 114, 115, 116, 117, 118, 119, 120, 121, 122, 123, 124, 125, 126] (by decide +kernel) (by decide +kernel)) (goodIn_sub (fun _ h => List.mem_cons_of_mem _ (List.mem_append_left _ (List.mem_append_right _ h))) (by decide +kernel))) (goodIn_sub (fun _ h => List.mem_cons_of_mem _ (List.mem_append_right _ h)) (by decide +kernel))
set_option maxRecDepth 20000 in
theorem gL_check_X4_check : GoodIn wsL_check (wsV RL 51 RX4 yX4_check wsX4_check) := goodIn_app (goodIn_of _ (by decide +kernel)) ggL_check_X4_check
theorem dL_check_0 : decode cL_check 0 = .ok (.aload_n 2, 1) := by decide +kernel
theorem dL_check_1 : decode cL_check 1 = .ok (.iconst 0, 1) := by decide +kernel
theorem dL_check_2 : decode cL_check 2 = .ok (.aload_n 0, 1) := by decide +kernel
theorem dL_check_3 : decode cL_check 3 = .ok (.iload_n 1, 1) := by decide +kernel
theorem dL_check_4 : decode cL_check 4 = .ok (.invokevirtual 51, 3) := by decide +kernel
theorem dL_check_7 : decode cL_check 7 = .ok (.i2l, 1) := by decide +kernel
theorem dL_check_8 : decode cL_check 8 = .ok (.lastore, 1) := by decide +kernel
theorem dL_check_9 : decode cL_check 9 = .ok (.goto 9, 3) := by decide +kernel
theorem dL_check_12 : decode cL_check 12 = .ok (.astore_n 3, 1) := by decide +kernel
theorem dL_check_13 : decode cL_check 13 = .ok (.iconst 1, 1) := by decide +kernel
theorem dL_check_14 : decode cL_check 14 = .ok (.ireturn, 1) := by decide +kernel
theorem dL_check_15 : decode cL_check 15 = .ok (.astore_n 3, 1) := by decide +kernel
theorem dL_check_16 : decode cL_check 16 = .ok (.iconst 2, 1) := by decide +kernel
theorem dL_check_17 : decode cL_check 17 = .ok (.ireturn, 1) := by decide +kernel
theorem dL_check_18 : decode cL_check 18 = .ok (.iconst 0, 1) := by decide +kernel
theorem dL_check_19 : decode cL_check 19 = .ok (.ireturn, 1) := by decide +kernel
set_option maxRecDepth 20000 in
theorem ggL_checkAnew_X4_checkAnew : GoodIn wsL_checkAnew wsX4_checkAnew := goodIn_ca (goodIn_ca (goodIn_r _ [7, 8, 9, 10, 11, 6, 12, 13, 14, 15, 16, 17, 18, 19, 20, 21, 22, 23, 24, 25, 26, 27, 28, 29, 30, 31, 32, 33, 34, 35, 36, 37, 38, 39, 40, 41, 42, 43, 44, 45, 46, 47, 48, 49, 50, 51, 52, 53, 54, 55, 56, 57, 58, 59, 60, 61, 62, 63, 64, 65, 66, 67, 68, 69, 70, 71, 72, 73, 74, 75, 76, 77, 78, 79, 80, 81, 82, 83, 84, 85, 86, 87, 88, 89, 90, 91, 92, 93, 94, 95, 96, 97, 98, 99, 100, 101, 102, 103, 104, 105, 106, 107, 108, 109, 110, 111, 112, 113, 114, 115, 116, 117, 118, 119, 120] (by decide +kernel) (by decide +kernel)) (goodIn_sub (fun _ h => List.mem_cons_of_mem _ (List.mem_append_left _ (List.mem_append_right _ h))) (by decide +kernel))) (goodIn_sub (fun _ h => List.mem_cons_of_mem _ (List.mem_append_right _ h)) (by decide +kernel))
set_option maxRecDepth 20000 in
theorem gL_checkAnew_X4_checkAnew : GoodIn wsL_checkAnew (wsV RL 54 RX4 yX4_checkAnew wsX4_checkAnew) := goodIn_app (goodIn_of _ (by decide +kernel)) ggL_checkAnew_X4_checkAnew
theorem dL_checkAnew_0 : decode cL_checkAnew 0 = .ok (.aload_n 2, 1) := by decide +kernel
theorem dL_checkAnew_1 : decode cL_checkAnew 1 = .ok (.iconst 0, 1) := by decide +kernel
theorem dL_checkAnew_2 : decode cL_checkAnew 2 = .ok (.aload_n 0, 1) := by decide +kernel
theorem dL_checkAnew_3 : decode cL_checkAnew 3 = .ok (.iload_n 1, 1) := by decide +kernel
theorem dL_checkAnew_4 : decode cL_checkAnew 4 = .ok (.invokevirtual 54, 3) := by decide +kernel
theorem dL_checkAnew_7 : decode cL_checkAnew 7 = .ok (.i2l, 1) := by decide +kernel
theorem dL_checkAnew_8 : decode cL_checkAnew 8 = .ok (.lastore, 1) := by decide +kernel
theorem dL_checkAnew_9 : decode cL_checkAnew 9 = .ok (.goto 9, 3) := by decide +kernel
theorem dL_checkAnew_12 : decode cL_checkAnew 12 = .ok (.astore_n 3, 1) := by decide +kernel
theorem dL_checkAnew_13 : decode cL_checkAnew 13 = .ok (.iconst 1, 1) := by decide +kernel
theorem dL_checkAnew_14 : decode cL_checkAnew 14 = .ok (.ireturn, 1) := by decide +kernel
theorem dL_checkAnew_15 : decode cL_checkAnew 15 = .ok (.astore_n 3, 1) := by decide +kernel
theorem dL_checkAnew_16 : decode cL_checkAnew 16 = .ok (.iconst 2, 1) := by decide +kernel
theorem dL_checkAnew_17 : decode cL_checkAnew 17 = .ok (.ireturn, 1) := by decide +kernel
theorem dL_checkAnew_18 : decode cL_checkAnew 18 = .ok (.iconst 0, 1) := by decide +kernel
theorem dL_checkAnew_19 : decode cL_checkAnew 19 = .ok (.ireturn, 1) := by decide +kernel
set_option maxRecDepth 20000 in
theorem ggL_score_X4_score : GoodIn wsL_score wsX4_score := goodIn_ca (goodIn_ca (goodIn_r _ [7, 8, 9, 10, 11, 6, 12, 13, 14, 15, 16, 17, 18, 19, 20, 21, 22, 23, 24, 25, 26, 27, 28, 29, 30, 31, 32, 33, 34, 35, 36, 37, 38, 39, 40, 41, 42, 43, 44, 45, 46, 47, 48, 49, 50, 51, 52, 53, 54, 55, 56, 57, 58, 59, 60, 61, 62, 63, 64, 65, 66, 67, 68, 69, 70, 71, 72, 73, 74, 75, 76, 77, 78, 79, 80, 81, 82, 83, 84, 85, 86, 87, 88, 89, 90, 91, 92, 93, 94, 95, 96, 97, 98, 99, 100, 101, 102, 103, 104, 105, 106, 107, 108, 109, 110, 111, 112, 113, 114, 115, 116, 117, 118, 119, 120, 121, 122, 123, 124, 125, 126, 127, 128, 129, 130, 131, 132, 133, 134, 135] (by decide +kernel) (by decide +kernel)) (goodIn_sub (fun _ h => List.mem_cons_of_mem _ (List.mem_append_left _ (List.mem_append_right _ h))) (by decide +kernel))) (goodIn_sub (fun _ h => List.mem_cons_of_mem _ (List.mem_append_right _ h)) (by decide +kernel))
set_option maxRecDepth 20000 in
theorem gL_score_X4_score : GoodIn wsL_score (wsV RL 57 RX4 yX4_score wsX4_score) := goodIn_app (goodIn_of _ (by decide +kernel)) ggL_score_X4_score
theorem dL_score_0 : decode cL_score 0 = .ok (.aload_n 2, 1) := by decide +kernel
theorem dL_score_1 : decode cL_score 1 = .ok (.iconst 0, 1) := by decide +kernel
theorem dL_score_2 : decode cL_score 2 = .ok (.aload_n 0, 1) := by decide +kernel
theorem dL_score_3 : decode cL_score 3 = .ok (.iload_n 1, 1) := by decide +kernel
theorem dL_score_4 : decode cL_score 4 = .ok (.invokevirtual 57, 3) := by decide +kernel
theorem dL_score_7 : decode cL_score 7 = .ok (.lastore, 1) := by decide +kernel
theorem dL_score_8 : decode cL_score 8 = .ok (.goto 9, 3) := by decide +kernel
theorem dL_score_11 : decode cL_score 11 = .ok (.astore_n 3, 1) := by decide +kernel
theorem dL_score_12 : decode cL_score 12 = .ok (.iconst 1, 1) := by decide +kernel
theorem dL_score_13 : decode cL_score 13 = .ok (.ireturn, 1) := by decide +kernel
theorem dL_score_14 : decode cL_score 14 = .ok (.astore_n 3, 1) := by decide +kernel
theorem dL_score_15 : decode cL_score 15 = .ok (.iconst 2, 1) := by decide +kernel
theorem dL_score_16 : decode cL_score 16 = .ok (.ireturn, 1) := by decide +kernel
theorem dL_score_17 : decode cL_score 17 = .ok (.iconst 0, 1) := by decide +kernel
theorem dL_score_18 : decode cL_score 18 = .ok (.ireturn, 1) := by decide +kernel
set_option maxRecDepth 20000 in
theorem ggL_trees_X4_trees : GoodIn wsL_trees wsX4_trees := goodIn_ca (goodIn_r _ [6, 7, 8, 9, 10, 5, 11, 12, 13, 14, 15, 16, 17, 18, 19, 20, 21, 22, 23, 24, 25, 26, 27, 28, 29, 30, 31, 32, 33, 34, 35, 36, 37, 38, 39, 40, 41, 42, 43, 44, 45, 46, 47, 48, 49, 50, 51, 52, 53, 54, 55, 56, 57, 58, 59, 60, 61, 62, 63, 64, 65, 66, 67, 68, 69, 70, 71, 72, 73, 74, 75, 76, 77, 78, 79, 80, 81, 82, 83, 84, 85, 86, 87, 88, 89, 90, 91, 92, 93, 94, 95, 96, 97, 98, 99, 100, 101, 102] (by decide +kernel) (by decide +kernel)) (goodIn_sub (fun _ h => List.mem_cons_of_mem _ (List.mem_append_right _ h)) (by decide +kernel))
set_option maxRecDepth 20000 in
theorem gL_trees_X4_trees : GoodIn wsL_trees (wsV RL 60 RX4 yX4_trees wsX4_trees) := goodIn_app (goodIn_of _ (by decide +kernel)) ggL_trees_X4_trees
theorem dL_trees_0 : decode cL_trees 0 = .ok (.aload_n 2, 1) := by decide +kernel
theorem dL_trees_1 : decode cL_trees 1 = .ok (.iconst 0, 1) := by decide +kernel
theorem dL_trees_2 : decode cL_trees 2 = .ok (.aload_n 0, 1) := by decide +kernel
theorem dL_trees_3 : decode cL_trees 3 = .ok (.iload_n 1, 1) := by decide +kernel
theorem dL_trees_4 : decode cL_trees 4 = .ok (.invokevirtual 60, 3) := by decide +kernel
theorem dL_trees_7 : decode cL_trees 7 = .ok (.lastore, 1) := by decide +kernel
theorem dL_trees_8 : decode cL_trees 8 = .ok (.goto 6, 3) := by decide +kernel
theorem dL_trees_11 : decode cL_trees 11 = .ok (.astore_n 3, 1) := by decide +kernel
theorem dL_trees_12 : decode cL_trees 12 = .ok (.iconst 1, 1) := by decide +kernel
theorem dL_trees_13 : decode cL_trees 13 = .ok (.ireturn, 1) := by decide +kernel
theorem dL_trees_14 : decode cL_trees 14 = .ok (.iconst 0, 1) := by decide +kernel
theorem dL_trees_15 : decode cL_trees 15 = .ok (.ireturn, 1) := by decide +kernel
set_option maxRecDepth 20000 in
theorem ggL_law_X4_init : GoodIn wsL_law wsX4_init := goodIn_r _ [9, 10, 11, 12, 13, 14, 15, 16, 17, 18, 19, 20, 21, 22, 23, 24, 25, 26, 27, 28, 29, 30, 31, 32, 33, 34, 35, 36, 37, 38, 39, 40, 41, 42, 43, 44, 45, 46, 47, 48, 49, 6, 50, 51, 52, 53, 54, 55, 56, 57, 58, 59, 60, 61, 62, 63, 638, 639, 640, 641, 642, 643, 644, 645, 646, 647, 616, 617, 618, 619, 648, 649, 650, 651, 652, 653, 654, 655, 656, 657, 658, 659, 660, 661, 662, 663, 664, 665, 666, 667] (by decide +kernel) (by decide +kernel)
set_option maxRecDepth 20000 in
theorem gL_law_X4_init : GoodIn wsL_law (wsX4_init) := ggL_law_X4_init
set_option maxRecDepth 20000 in
theorem ggL_law_X5_init : GoodIn wsL_law wsX5_init := goodIn_r _ [66, 67, 11, 12, 33, 68, 35, 69, 70, 71, 72, 73, 74, 75, 76, 6, 77, 78, 79, 620, 621, 622, 623, 624, 625, 626, 627, 628, 629, 630, 631, 632, 633, 634, 635, 636, 637] (by decide +kernel) (by decide +kernel)
set_option maxRecDepth 20000 in
theorem gL_law_X5_init : GoodIn wsL_law (wsX5_init) := ggL_law_X5_init
set_option maxRecDepth 20000 in
theorem ggL_law_L_station : GoodIn wsL_law wsL_station := goodIn_ca (goodIn_r _ [83, 84, 85, 86, 87, 2, 88, 89, 90, 16, 91, 92, 93, 94, 15, 95, 96, 97, 98, 99, 100, 37, 101, 42, 38, 39, 102, 103, 104, 105, 106, 107, 108, 109, 110, 111, 112, 616, 617, 618, 619, 638, 639, 640, 641, 642, 643, 644, 645, 646, 647] (by decide +kernel) (by decide +kernel)) (goodIn_sub (fun _ h => List.mem_append_left _ (List.mem_append_left _ (List.mem_append_right _ h))) (by decide +kernel))
set_option maxRecDepth 20000 in
theorem gL_law_L_station : GoodIn wsL_law (va_wsS RL 67 yL_station wsL_station) := goodIn_app (goodIn_of _ (by decide +kernel)) ggL_law_L_station
set_option maxRecDepth 20000 in
theorem ggL_law_X5_station : GoodIn wsL_law wsX5_station := goodIn_r _ [116, 117, 118, 119, 120, 5, 121, 122, 620, 621, 622, 623, 624, 625, 626, 627, 628, 629, 630, 631, 632, 633, 634, 635, 636, 637] (by decide +kernel) (by decide +kernel)
set_option maxRecDepth 20000 in
theorem gL_law_X5_station : GoodIn wsL_law (wsV RL 72 RX5 yX5_station wsX5_station) := goodIn_app (goodIn_of _ (by decide +kernel)) ggL_law_X5_station
set_option maxRecDepth 20000 in
theorem ggL_law_X5_thrown : GoodIn wsL_law wsX5_thrown := goodIn_r _ [126, 122, 620, 621, 622, 623, 624, 625, 626, 627, 628, 629, 630, 631, 632, 633, 634, 635, 636, 637] (by decide +kernel) (by decide +kernel)
set_option maxRecDepth 20000 in
theorem gL_law_X5_thrown : GoodIn wsL_law (wsV RL 73 RX5 yX5_thrown wsX5_thrown) := goodIn_app (goodIn_of _ (by decide +kernel)) ggL_law_X5_thrown
set_option maxRecDepth 20000 in
theorem ggL_law_L_datum : GoodIn wsL_law wsL_datum := goodIn_ca (goodIn_ca (goodIn_r _ [129, 130, 131, 132, 133, 134, 2, 135, 136, 137, 16, 138, 139, 140, 141, 142, 143, 144, 145, 146, 15, 147, 96, 148, 149, 150, 151, 152, 153, 154, 34, 36, 616, 617, 618, 619, 638, 639, 640, 641, 642, 643, 644, 645, 646, 647] (by decide +kernel) (by decide +kernel)) (goodIn_sub (fun _ h => List.mem_append_left _ (List.mem_append_right _ h)) (by decide +kernel))) (goodIn_sub (fun _ h => List.mem_append_right _ h) (by decide +kernel))
set_option maxRecDepth 20000 in
theorem gL_law_L_datum : GoodIn wsL_law (va_wsS RL 76 yL_datum wsL_datum) := goodIn_app (goodIn_of _ (by decide +kernel)) ggL_law_L_datum
set_option maxRecDepth 20000 in
theorem ggL_law_X5_datum : GoodIn wsL_law wsX5_datum := goodIn_r _ [158, 68, 69, 159, 160, 161, 5, 162, 117, 163, 164, 165, 118, 119, 120, 121, 122, 620, 621, 622, 623, 624, 625, 626, 627, 628, 629, 630, 631, 632, 633, 634, 635, 636, 637] (by decide +kernel) (by decide +kernel)
set_option maxRecDepth 20000 in
theorem gL_law_X5_datum : GoodIn wsL_law (wsV RL 79 RX5 yX5_datum wsX5_datum) := goodIn_app (goodIn_of _ (by decide +kernel)) ggL_law_X5_datum
set_option maxRecDepth 20000 in
theorem ggL_law_L_observe : GoodIn wsL_law wsL_observe := goodIn_ca (goodIn_ca (goodIn_ca (goodIn_r _ [168, 130, 131, 84, 169, 170, 171, 2, 172, 136, 137, 89, 90, 16, 173, 138, 139, 140, 141, 142, 143, 144, 145, 146, 15, 147, 96, 148, 149, 150, 174, 175, 176, 177, 101, 38, 39, 40, 41, 97, 98, 99, 100, 37, 42, 102, 103, 104, 105, 106, 107, 108, 109, 110, 111, 112, 616, 617, 618, 619, 638, 639, 640, 641, 642, 643, 644, 645, 646, 647] (by decide +kernel) (by decide +kernel)) (goodIn_sub (fun _ h => List.mem_append_left _ (List.mem_append_right _ h)) (by decide +kernel))) (goodIn_sub (fun _ h => List.mem_append_left _ (List.mem_append_left _ (List.mem_append_right _ h))) (by decide +kernel))) (goodIn_sub (fun _ h => List.mem_append_right _ h) (by decide +kernel))
set_option maxRecDepth 20000 in
theorem gL_law_L_observe : GoodIn wsL_law (va_wsS RL 80 yL_observe wsL_observe) := goodIn_app (goodIn_of _ (by decide +kernel)) ggL_law_L_observe
set_option maxRecDepth 20000 in
theorem ggL_law_X5_observe : GoodIn wsL_law wsX5_observe := goodIn_r _ [181, 182, 70, 71, 72, 73, 159, 160, 161, 5, 162, 117, 163, 164, 165, 118, 119, 120, 121, 122, 620, 621, 622, 623, 624, 625, 626, 627, 628, 629, 630, 631, 632, 633, 634, 635, 636, 637] (by decide +kernel) (by decide +kernel)
set_option maxRecDepth 20000 in
theorem gL_law_X5_observe : GoodIn wsL_law (wsV RL 83 RX5 yX5_observe wsX5_observe) := goodIn_app (goodIn_of _ (by decide +kernel)) ggL_law_X5_observe
set_option maxRecDepth 20000 in
theorem ggL_law_L_withdraw : GoodIn wsL_law wsL_withdraw := goodIn_ca (goodIn_r _ [185, 130, 186, 187, 188, 2, 189, 16, 190, 191, 192, 193, 142, 143, 194, 195, 196, 15, 197, 101, 198, 199, 200, 201, 42, 97, 98, 99, 100, 96, 37, 38, 39, 102, 103, 104, 105, 106, 107, 108, 109, 110, 111, 112, 616, 617, 618, 619, 638, 639, 640, 641, 642, 643, 644, 645, 646, 647] (by decide +kernel) (by decide +kernel)) (goodIn_sub (fun _ h => List.mem_append_right _ h) (by decide +kernel))
set_option maxRecDepth 20000 in
theorem gL_law_L_withdraw : GoodIn wsL_law (va_wsS RL 84 yL_withdraw wsL_withdraw) := goodIn_app (goodIn_of _ (by decide +kernel)) ggL_law_L_withdraw
set_option maxRecDepth 20000 in
theorem ggL_law_X5_withdraw : GoodIn wsL_law wsX5_withdraw := goodIn_r _ [205, 74, 206, 207, 208, 5, 209, 182, 163, 164, 165, 118, 119, 120, 121, 122, 620, 621, 622, 623, 624, 625, 626, 627, 628, 629, 630, 631, 632, 633, 634, 635, 636, 637] (by decide +kernel) (by decide +kernel)
set_option maxRecDepth 20000 in
theorem gL_law_X5_withdraw : GoodIn wsL_law (wsV RL 87 RX5 yX5_withdraw wsX5_withdraw) := goodIn_app (goodIn_of _ (by decide +kernel)) ggL_law_X5_withdraw
set_option maxRecDepth 20000 in
theorem ggL_law_L_clean : GoodIn wsL_law wsL_clean := goodIn_ca (goodIn_r _ [212, 131, 213, 214, 215, 2, 216, 136, 137, 217, 20, 16, 148, 149, 150, 218, 219, 220, 19, 221, 47, 222, 223, 224, 225, 226, 227, 228, 229, 230, 108, 231, 232, 233, 234, 235, 236, 237, 238, 239, 240, 241, 242, 243, 244, 245, 246, 247, 248, 15, 249, 96, 34, 37, 250, 251, 252, 253, 254, 255, 256, 257, 258, 259, 48, 260, 261, 262, 263, 264, 50, 265, 266, 267, 268, 42, 38, 269, 270, 271, 272, 273, 274, 275, 276, 277, 278, 279, 280, 281, 282, 283, 284, 285, 286, 287, 288, 289, 290, 291, 292, 293, 294, 295, 296, 297, 298, 299, 300, 198, 199, 200, 201, 97, 98, 99, 100, 101, 39, 102, 103, 104, 105, 106, 107, 109, 110, 111, 112, 616, 617, 618, 619, 648, 649, 650, 651, 652, 653, 638, 639, 640, 641, 642, 643, 644, 645, 646, 647] (by decide +kernel) (by decide +kernel)) (goodIn_sub (fun _ h => List.mem_append_left _ (List.mem_append_right _ h)) (by decide +kernel))
set_option maxRecDepth 20000 in
theorem gL_law_L_clean : GoodIn wsL_law (va_wsS RL 88 yL_clean wsL_clean) := goodIn_app (goodIn_of _ (by decide +kernel)) ggL_law_L_clean
set_option maxRecDepth 20000 in
theorem ggL_law_X5_clean : GoodIn wsL_law wsX5_clean := goodIn_r _ [304, 305, 74, 163, 164, 5, 165, 118, 119, 120, 121, 122, 306, 307, 308, 309, 182, 310, 311, 312, 313, 314, 315, 73, 316, 317, 318, 319, 70, 71, 320, 78, 321, 322, 323, 324, 325, 76, 326, 117, 68, 327, 328, 329, 330, 77, 331, 332, 333, 334, 335, 336, 337, 338, 339, 340, 341, 342, 343, 344, 345, 72, 346, 347, 348, 349, 350, 351, 352, 353, 354, 355, 356, 620, 621, 622, 623, 624, 625, 626, 627, 628, 629, 630, 631, 632, 633, 634, 635, 636, 637] (by decide +kernel) (by decide +kernel)
set_option maxRecDepth 20000 in
theorem gL_law_X5_clean : GoodIn wsL_law (wsV RL 91 RX5 yX5_clean wsX5_clean) := goodIn_app (goodIn_of _ (by decide +kernel)) ggL_law_X5_clean
set_option maxRecDepth 20000 in
theorem ggL_law_L_go : GoodIn wsL_law wsL_go := goodIn_ca (goodIn_ca (goodIn_r _ [359, 130, 84, 360, 361, 362, 2, 363, 89, 90, 28, 364, 16, 365, 138, 139, 140, 141, 142, 143, 144, 145, 146, 15, 147, 96, 366, 367, 368, 27, 369, 370, 371, 63, 372, 373, 374, 375, 101, 38, 39, 42, 376, 377, 378, 379, 40, 380, 381, 382, 383, 384, 616, 617, 618, 619, 664, 665, 666, 667, 638, 639, 640, 641, 642, 643, 644, 645, 646, 647] (by decide +kernel) (by decide +kernel)) (goodIn_sub (fun _ h => List.mem_append_left _ (List.mem_append_left _ (List.mem_append_right _ h))) (by decide +kernel))) (goodIn_sub (fun _ h => List.mem_append_right _ h) (by decide +kernel))
set_option maxRecDepth 20000 in
theorem gL_law_L_go : GoodIn wsL_law (va_wsS RL 92 yL_go wsL_go) := goodIn_app (goodIn_of _ (by decide +kernel)) ggL_law_L_go
set_option maxRecDepth 20000 in
theorem ggL_law_X5_go : GoodIn wsL_law wsX5_go := goodIn_r _ [388, 389, 75, 79, 71, 72, 159, 160, 161, 5, 162, 117, 163, 164, 165, 390, 391, 392, 393, 182, 70, 74, 118, 119, 120, 121, 122, 620, 621, 622, 623, 624, 625, 626, 627, 628, 629, 630, 631, 632, 633, 634, 635, 636, 637] (by decide +kernel) (by decide +kernel)
set_option maxRecDepth 20000 in
theorem gL_law_X5_go : GoodIn wsL_law (wsV RL 94 RX5 yX5_go wsX5_go) := goodIn_app (goodIn_of _ (by decide +kernel)) ggL_law_X5_go
set_option maxRecDepth 20000 in
theorem ggL_law_X4_end : GoodIn wsL_law wsX4_end := goodIn_r _ [397, 28, 398, 399, 400, 27, 401, 63, 384, 616, 617, 618, 619, 664, 665, 666, 667] (by decide +kernel) (by decide +kernel)
set_option maxRecDepth 20000 in
theorem gL_law_X4_end : GoodIn wsL_law (wsV RL 95 RX4 yX4_end wsX4_end) := goodIn_app (goodIn_of _ (by decide +kernel)) ggL_law_X4_end
set_option maxRecDepth 20000 in
theorem ggL_law_X5_end : GoodIn wsL_law wsX5_end := goodIn_r _ [405, 122, 389, 79, 620, 621, 622, 623, 624, 625, 626, 627, 628, 629, 630, 631, 632, 633, 634, 635, 636, 637] (by decide +kernel) (by decide +kernel)
set_option maxRecDepth 20000 in
theorem gL_law_X5_end : GoodIn wsL_law (wsV RL 98 RX5 yX5_end wsX5_end) := goodIn_app (goodIn_of _ (by decide +kernel)) ggL_law_X5_end
set_option maxRecDepth 20000 in
theorem ggL_law_X4_sum : GoodIn wsL_law wsX4_sum := goodIn_r _ [409, 28, 410, 616, 617, 618, 619, 664, 665, 666, 667] (by decide +kernel) (by decide +kernel)
set_option maxRecDepth 20000 in
theorem gL_law_X4_sum : GoodIn wsL_law (wsV RL 99 RX4 yX4_sum wsX4_sum) := goodIn_app (goodIn_of _ (by decide +kernel)) ggL_law_X4_sum
set_option maxRecDepth 20000 in
theorem ggL_law_X5_sum : GoodIn wsL_law wsX5_sum := goodIn_r _ [414, 122, 79, 620, 621, 622, 623, 624, 625, 626, 627, 628, 629, 630, 631, 632, 633, 634, 635, 636, 637] (by decide +kernel) (by decide +kernel)
set_option maxRecDepth 20000 in
theorem gL_law_X5_sum : GoodIn wsL_law (wsV RL 102 RX5 yX5_sum wsX5_sum) := goodIn_app (goodIn_of _ (by decide +kernel)) ggL_law_X5_sum
set_option maxRecDepth 20000 in
theorem ggL_law_X4_isClosed : GoodIn wsL_law wsX4_isClosed := goodIn_r _ [418, 28, 364, 419, 365, 410, 616, 617, 618, 619, 664, 665, 666, 667] (by decide +kernel) (by decide +kernel)
set_option maxRecDepth 20000 in
theorem gL_law_X4_isClosed : GoodIn wsL_law (wsV RL 103 RX4 yX4_isClosed wsX4_isClosed) := goodIn_app (goodIn_of _ (by decide +kernel)) ggL_law_X4_isClosed
set_option maxRecDepth 20000 in
theorem ggL_law_X5_isClosed : GoodIn wsL_law wsX5_isClosed := goodIn_r _ [423, 122, 389, 75, 79, 620, 621, 622, 623, 624, 625, 626, 627, 628, 629, 630, 631, 632, 633, 634, 635, 636, 637] (by decide +kernel) (by decide +kernel)
set_option maxRecDepth 20000 in
theorem gL_law_X5_isClosed : GoodIn wsL_law (wsV RL 107 RX5 yX5_isClosed wsX5_isClosed) := goodIn_app (goodIn_of _ (by decide +kernel)) ggL_law_X5_isClosed
set_option maxRecDepth 20000 in
theorem ggL_law_L_height : GoodIn wsL_law wsL_height := goodIn_ca (goodIn_r _ [426, 130, 427, 428, 429, 2, 430, 20, 138, 139, 140, 141, 142, 143, 16, 144, 145, 146, 15, 147, 96, 431, 432, 433, 19, 434, 47, 435, 245, 232, 228, 241, 242, 243, 244, 222, 246, 247, 248, 249, 34, 37, 250, 251, 252, 253, 254, 255, 256, 257, 258, 259, 48, 260, 261, 262, 263, 264, 50, 265, 266, 267, 268, 42, 38, 269, 270, 271, 272, 238, 239, 233, 240, 273, 274, 275, 276, 277, 278, 279, 280, 281, 282, 283, 284, 285, 286, 287, 288, 289, 290, 291, 292, 293, 294, 616, 617, 618, 619, 638, 639, 640, 641, 642, 643, 644, 645, 646, 647, 648, 649, 650, 651, 652, 653] (by decide +kernel) (by decide +kernel)) (goodIn_sub (fun _ h => List.mem_append_right _ h) (by decide +kernel))
set_option maxRecDepth 20000 in
theorem gL_law_L_height : GoodIn wsL_law (va_wsS RL 108 yL_height wsL_height) := goodIn_app (goodIn_of _ (by decide +kernel)) ggL_law_L_height
set_option maxRecDepth 20000 in
theorem ggL_law_X5_height : GoodIn wsL_law wsX5_height := goodIn_r _ [439, 159, 160, 161, 5, 162, 117, 163, 164, 165, 118, 119, 120, 121, 122, 440, 441, 442, 443, 314, 69, 326, 78, 315, 346, 347, 348, 349, 322, 323, 324, 325, 76, 182, 74, 70, 71, 68, 327, 328, 329, 330, 77, 73, 331, 332, 333, 334, 350, 351, 352, 353, 72, 335, 336, 337, 338, 339, 340, 341, 620, 621, 622, 623, 624, 625, 626, 627, 628, 629, 630, 631, 632, 633, 634, 635, 636, 637] (by decide +kernel) (by decide +kernel)
set_option maxRecDepth 20000 in
theorem gL_law_X5_height : GoodIn wsL_law (wsV RL 110 RX5 yX5_height wsX5_height) := goodIn_app (goodIn_of _ (by decide +kernel)) ggL_law_X5_height
set_option maxRecDepth 20000 in
theorem ggL_law_L_heightAnew : GoodIn wsL_law wsL_heightAnew := goodIn_ca (goodIn_r _ [446, 130, 447, 448, 449, 2, 450, 24, 138, 139, 140, 141, 142, 143, 16, 144, 145, 146, 15, 147, 96, 451, 452, 453, 23, 454, 455, 55, 456, 457, 458, 459, 460, 461, 462, 463, 464, 465, 466, 467, 468, 57, 58, 469, 247, 248, 249, 34, 37, 250, 251, 252, 253, 470, 471, 472, 473, 474, 475, 476, 477, 478, 479, 480, 481, 482, 483, 484, 485, 486, 487, 488, 489, 266, 267, 268, 42, 38, 490, 491, 492, 493, 494, 289, 290, 291, 292, 293, 294, 616, 617, 618, 619, 638, 639, 640, 641, 642, 643, 644, 645, 646, 647, 654, 655, 656, 657, 658, 659, 660, 661, 662, 663] (by decide +kernel) (by decide +kernel)) (goodIn_sub (fun _ h => List.mem_append_right _ h) (by decide +kernel))
set_option maxRecDepth 20000 in
theorem gL_law_L_heightAnew : GoodIn wsL_law (va_wsS RL 111 yL_heightAnew wsL_heightAnew) := goodIn_app (goodIn_of _ (by decide +kernel)) ggL_law_L_heightAnew
set_option maxRecDepth 20000 in
theorem ggL_law_X5_heightAnew : GoodIn wsL_law wsX5_heightAnew := goodIn_r _ [498, 159, 160, 161, 5, 162, 117, 163, 164, 165, 118, 119, 120, 121, 122, 440, 441, 442, 443, 314, 69, 326, 78, 315, 346, 347, 348, 349, 322, 323, 324, 325, 76, 182, 74, 70, 71, 68, 327, 328, 329, 330, 77, 73, 331, 332, 333, 334, 350, 351, 352, 353, 72, 335, 336, 337, 338, 339, 340, 341, 620, 621, 622, 623, 624, 625, 626, 627, 628, 629, 630, 631, 632, 633, 634, 635, 636, 637] (by decide +kernel) (by decide +kernel)
set_option maxRecDepth 20000 in
theorem gL_law_X5_heightAnew : GoodIn wsL_law (wsV RL 113 RX5 yX5_heightAnew wsX5_heightAnew) := goodIn_app (goodIn_of _ (by decide +kernel)) ggL_law_X5_heightAnew
set_option maxRecDepth 20000 in
theorem ggL_law_L_free : GoodIn wsL_law wsL_free := goodIn_ca (goodIn_r _ [501, 130, 502, 503, 504, 2, 505, 20, 138, 139, 140, 141, 142, 143, 16, 144, 145, 146, 15, 147, 96, 506, 507, 508, 19, 509, 47, 259, 258, 228, 232, 241, 242, 243, 244, 245, 222, 246, 247, 248, 249, 34, 37, 250, 251, 252, 253, 254, 255, 256, 257, 48, 260, 261, 262, 263, 264, 50, 265, 266, 267, 268, 42, 38, 269, 270, 271, 272, 238, 239, 233, 240, 273, 274, 275, 276, 277, 278, 279, 280, 281, 282, 283, 284, 285, 286, 287, 288, 289, 290, 291, 292, 293, 294, 616, 617, 618, 619, 638, 639, 640, 641, 642, 643, 644, 645, 646, 647, 648, 649, 650, 651, 652, 653] (by decide +kernel) (by decide +kernel)) (goodIn_sub (fun _ h => List.mem_append_right _ h) (by decide +kernel))
set_option maxRecDepth 20000 in
theorem gL_law_L_free : GoodIn wsL_law (va_wsS RL 114 yL_free wsL_free) := goodIn_app (goodIn_of _ (by decide +kernel)) ggL_law_L_free
set_option maxRecDepth 20000 in
theorem ggL_law_X5_free : GoodIn wsL_law wsX5_free := goodIn_r _ [513, 117, 78, 76, 314, 315, 159, 160, 161, 5, 162, 163, 164, 165, 118, 119, 120, 121, 122, 346, 347, 348, 349, 322, 323, 324, 325, 182, 74, 70, 71, 326, 68, 327, 328, 329, 330, 77, 73, 331, 332, 333, 334, 350, 351, 352, 353, 72, 335, 336, 337, 338, 339, 340, 341, 620, 621, 622, 623, 624, 625, 626, 627, 628, 629, 630, 631, 632, 633, 634, 635, 636, 637] (by decide +kernel) (by decide +kernel)
set_option maxRecDepth 20000 in
theorem gL_law_X5_free : GoodIn wsL_law (wsV RL 116 RX5 yX5_free wsX5_free) := goodIn_app (goodIn_of _ (by decide +kernel)) ggL_law_X5_free
set_option maxRecDepth 20000 in
theorem ggL_law_L_residual : GoodIn wsL_law wsL_residual := goodIn_ca (goodIn_ca (goodIn_r _ [516, 130, 84, 517, 518, 519, 2, 520, 20, 521, 522, 523, 524, 89, 90, 16, 525, 190, 191, 192, 193, 142, 143, 194, 195, 196, 15, 197, 101, 526, 527, 528, 19, 529, 228, 232, 234, 235, 236, 237, 47, 238, 239, 240, 241, 242, 243, 244, 245, 222, 246, 247, 248, 249, 96, 34, 37, 250, 251, 252, 253, 254, 255, 256, 257, 258, 259, 48, 260, 261, 262, 263, 264, 50, 265, 266, 267, 268, 42, 38, 269, 270, 271, 272, 233, 273, 274, 275, 276, 277, 278, 279, 280, 281, 282, 283, 284, 285, 286, 287, 288, 289, 290, 291, 292, 293, 294, 616, 617, 618, 619, 638, 639, 640, 641, 642, 643, 644, 645, 646, 647, 648, 649, 650, 651, 652, 653] (by decide +kernel) (by decide +kernel)) (goodIn_sub (fun _ h => List.mem_append_left _ (List.mem_append_left _ (List.mem_append_right _ h))) (by decide +kernel))) (goodIn_sub (fun _ h => List.mem_append_right _ h) (by decide +kernel))
set_option maxRecDepth 20000 in
theorem gL_law_L_residual : GoodIn wsL_law (va_wsS RL 117 yL_residual wsL_residual) := goodIn_app (goodIn_of _ (by decide +kernel)) ggL_law_L_residual
set_option maxRecDepth 20000 in
theorem ggL_law_X5_residual : GoodIn wsL_law wsX5_residual := goodIn_r _ [533, 314, 315, 534, 535, 536, 5, 537, 74, 206, 207, 208, 209, 182, 163, 164, 165, 118, 119, 120, 121, 122, 342, 343, 344, 345, 70, 78, 71, 72, 346, 347, 348, 349, 322, 323, 324, 325, 76, 326, 117, 68, 327, 328, 329, 330, 77, 73, 331, 332, 333, 334, 350, 351, 352, 353, 335, 336, 337, 338, 339, 340, 341, 620, 621, 622, 623, 624, 625, 626, 627, 628, 629, 630, 631, 632, 633, 634, 635, 636, 637] (by decide +kernel) (by decide +kernel)
set_option maxRecDepth 20000 in
theorem gL_law_X5_residual : GoodIn wsL_law (wsV RL 119 RX5 yX5_residual wsX5_residual) := goodIn_app (goodIn_of _ (by decide +kernel)) ggL_law_X5_residual
set_option maxRecDepth 20000 in
theorem ggL_law_L_check : GoodIn wsL_law wsL_check := goodIn_ca (goodIn_ca (goodIn_r _ [540, 130, 84, 541, 542, 543, 2, 544, 20, 521, 522, 523, 524, 89, 90, 16, 525, 190, 191, 192, 193, 142, 143, 194, 195, 196, 15, 197, 101, 545, 546, 547, 19, 548, 47, 238, 549, 550, 551, 552, 232, 241, 242, 243, 244, 245, 222, 246, 247, 248, 249, 96, 34, 37, 250, 251, 252, 253, 254, 255, 256, 257, 258, 259, 48, 260, 261, 262, 263, 264, 50, 265, 266, 267, 268, 42, 38, 269, 270, 271, 272, 239, 233, 240, 273, 274, 275, 276, 277, 278, 279, 280, 281, 282, 283, 284, 295, 296, 297, 298, 299, 289, 290, 291, 292, 293, 294, 616, 617, 618, 619, 638, 639, 640, 641, 642, 643, 644, 645, 646, 647, 648, 649, 650, 651, 652, 653] (by decide +kernel) (by decide +kernel)) (goodIn_sub (fun _ h => List.mem_append_left _ (List.mem_append_left _ (List.mem_append_right _ h))) (by decide +kernel))) (goodIn_sub (fun _ h => List.mem_append_right _ h) (by decide +kernel))
set_option maxRecDepth 20000 in
theorem gL_law_L_check : GoodIn wsL_law (va_wsS RL 120 yL_check wsL_check) := goodIn_app (goodIn_of _ (by decide +kernel)) ggL_law_L_check
set_option maxRecDepth 20000 in
theorem ggL_law_X5_check : GoodIn wsL_law wsX5_check := goodIn_r _ [556, 534, 535, 536, 5, 537, 74, 206, 207, 208, 209, 182, 163, 164, 165, 118, 119, 120, 121, 122, 316, 317, 318, 319, 70, 71, 320, 73, 78, 321, 315, 322, 323, 324, 325, 76, 326, 117, 68, 327, 328, 329, 330, 77, 331, 332, 333, 334, 335, 336, 337, 338, 339, 340, 341, 620, 621, 622, 623, 624, 625, 626, 627, 628, 629, 630, 631, 632, 633, 634, 635, 636, 637] (by decide +kernel) (by decide +kernel)
set_option maxRecDepth 20000 in
theorem gL_law_X5_check : GoodIn wsL_law (wsV RL 122 RX5 yX5_check wsX5_check) := goodIn_app (goodIn_of _ (by decide +kernel)) ggL_law_X5_check
set_option maxRecDepth 20000 in
theorem ggL_law_L_checkAnew : GoodIn wsL_law wsL_checkAnew := goodIn_ca (goodIn_ca (goodIn_r _ [559, 130, 84, 560, 561, 562, 2, 563, 24, 521, 522, 523, 524, 89, 90, 16, 525, 190, 191, 192, 193, 142, 143, 194, 195, 196, 15, 197, 101, 564, 565, 566, 23, 567, 55, 487, 568, 458, 467, 460, 461, 462, 463, 464, 465, 457, 466, 455, 468, 57, 58, 469, 247, 248, 249, 96, 34, 37, 250, 251, 252, 253, 470, 471, 472, 473, 474, 475, 476, 477, 478, 479, 480, 481, 482, 483, 484, 485, 486, 488, 489, 266, 267, 268, 42, 38, 490, 491, 492, 493, 494, 289, 290, 291, 292, 293, 294, 616, 617, 618, 619, 638, 639, 640, 641, 642, 643, 644, 645, 646, 647, 654, 655, 656, 657, 658, 659, 660, 661, 662, 663] (by decide +kernel) (by decide +kernel)) (goodIn_sub (fun _ h => List.mem_append_left _ (List.mem_append_left _ (List.mem_append_right _ h))) (by decide +kernel))) (goodIn_sub (fun _ h => List.mem_append_right _ h) (by decide +kernel))
set_option maxRecDepth 20000 in
theorem gL_law_L_checkAnew : GoodIn wsL_law (va_wsS RL 123 yL_checkAnew wsL_checkAnew) := goodIn_app (goodIn_of _ (by decide +kernel)) ggL_law_L_checkAnew
set_option maxRecDepth 20000 in
theorem ggL_law_X5_checkAnew : GoodIn wsL_law wsX5_checkAnew := goodIn_r _ [572, 534, 535, 536, 5, 537, 74, 206, 207, 208, 209, 182, 163, 164, 165, 118, 119, 120, 121, 122, 316, 317, 318, 319, 70, 71, 320, 73, 78, 321, 315, 322, 323, 324, 325, 76, 326, 117, 68, 327, 328, 329, 330, 77, 331, 332, 333, 334, 335, 336, 337, 338, 339, 340, 341, 620, 621, 622, 623, 624, 625, 626, 627, 628, 629, 630, 631, 632, 633, 634, 635, 636, 637] (by decide +kernel) (by decide +kernel)
set_option maxRecDepth 20000 in
theorem gL_law_X5_checkAnew : GoodIn wsL_law (wsV RL 125 RX5 yX5_checkAnew wsX5_checkAnew) := goodIn_app (goodIn_of _ (by decide +kernel)) ggL_law_X5_checkAnew
set_option maxRecDepth 20000 in
theorem ggL_law_L_score : GoodIn wsL_law wsL_score := goodIn_ca (goodIn_ca (goodIn_r _ [575, 130, 84, 576, 577, 578, 2, 579, 20, 521, 522, 523, 524, 89, 90, 16, 525, 190, 191, 192, 193, 142, 143, 194, 195, 196, 15, 197, 101, 300, 225, 226, 19, 227, 228, 229, 230, 108, 231, 232, 47, 233, 234, 235, 236, 237, 238, 239, 240, 241, 242, 243, 244, 245, 222, 246, 247, 248, 249, 96, 34, 37, 250, 251, 252, 253, 254, 255, 256, 257, 258, 259, 48, 260, 261, 262, 263, 264, 50, 265, 266, 267, 268, 42, 38, 269, 270, 271, 272, 273, 274, 275, 276, 277, 278, 279, 280, 281, 282, 283, 284, 285, 286, 287, 288, 289, 290, 291, 292, 293, 294, 295, 296, 297, 298, 299, 616, 617, 618, 619, 638, 639, 640, 641, 642, 643, 644, 645, 646, 647, 648, 649, 650, 651, 652, 653] (by decide +kernel) (by decide +kernel)) (goodIn_sub (fun _ h => List.mem_append_left _ (List.mem_append_left _ (List.mem_append_right _ h))) (by decide +kernel))) (goodIn_sub (fun _ h => List.mem_append_right _ h) (by decide +kernel))
set_option maxRecDepth 20000 in
theorem gL_law_L_score : GoodIn wsL_law (va_wsS RL 126 yL_score wsL_score) := goodIn_app (goodIn_of _ (by decide +kernel)) ggL_law_L_score
set_option maxRecDepth 20000 in
theorem ggL_law_X5_score : GoodIn wsL_law wsX5_score := goodIn_r _ [583, 534, 535, 536, 5, 537, 74, 206, 207, 208, 209, 182, 163, 164, 165, 118, 119, 120, 121, 122, 310, 311, 312, 313, 314, 315, 73, 316, 317, 318, 319, 70, 71, 320, 78, 321, 322, 323, 324, 325, 76, 326, 117, 68, 327, 328, 329, 330, 77, 331, 332, 333, 334, 335, 336, 337, 338, 339, 340, 341, 342, 343, 344, 345, 72, 346, 347, 348, 349, 350, 351, 352, 353, 354, 355, 356, 620, 621, 622, 623, 624, 625, 626, 627, 628, 629, 630, 631, 632, 633, 634, 635, 636, 637] (by decide +kernel) (by decide +kernel)
set_option maxRecDepth 20000 in
theorem gL_law_X5_score : GoodIn wsL_law (wsV RL 128 RX5 yX5_score wsX5_score) := goodIn_app (goodIn_of _ (by decide +kernel)) ggL_law_X5_score
set_option maxRecDepth 20000 in
theorem ggL_law_X4_worst : GoodIn wsL_law wsX4_worst := goodIn_r _ [587, 20, 218, 219, 220, 19, 221, 47, 222, 223, 224, 225, 226, 227, 228, 229, 230, 108, 231, 232, 233, 234, 235, 236, 237, 238, 239, 240, 241, 242, 243, 244, 245, 246, 247, 248, 15, 249, 96, 34, 37, 250, 251, 252, 253, 254, 255, 256, 257, 258, 259, 48, 260, 261, 262, 263, 264, 50, 265, 266, 267, 268, 42, 38, 269, 270, 271, 272, 273, 274, 275, 276, 277, 278, 279, 280, 281, 282, 283, 284, 285, 286, 287, 288, 289, 2, 290, 291, 292, 293, 294, 295, 296, 297, 298, 299, 616, 617, 618, 619, 648, 649, 650, 651, 652, 653, 638, 639, 640, 641, 642, 643, 644, 645, 646, 647] (by decide +kernel) (by decide +kernel)
set_option maxRecDepth 20000 in
theorem gL_law_X4_worst : GoodIn wsL_law (wsV RL 129 RX4 yX4_worst wsX4_worst) := goodIn_app (goodIn_of _ (by decide +kernel)) ggL_law_X4_worst
set_option maxRecDepth 20000 in
theorem ggL_law_X5_worst : GoodIn wsL_law wsX5_worst := goodIn_r _ [591, 122, 306, 307, 308, 5, 309, 182, 74, 310, 311, 312, 313, 314, 315, 73, 316, 317, 318, 319, 70, 71, 320, 78, 321, 322, 323, 324, 325, 76, 326, 117, 68, 327, 328, 329, 330, 77, 331, 332, 333, 334, 335, 336, 337, 338, 339, 340, 341, 342, 343, 344, 345, 72, 346, 347, 348, 349, 350, 351, 352, 353, 354, 355, 356, 620, 621, 622, 623, 624, 625, 626, 627, 628, 629, 630, 631, 632, 633, 634, 635, 636, 637] (by decide +kernel) (by decide +kernel)
set_option maxRecDepth 20000 in
theorem gL_law_X5_worst : GoodIn wsL_law (wsV RL 132 RX5 yX5_worst wsX5_worst) := goodIn_app (goodIn_of _ (by decide +kernel)) ggL_law_X5_worst
set_option maxRecDepth 20000 in
theorem ggL_law_L_trees : GoodIn wsL_law wsL_trees := goodIn_ca (goodIn_r _ [594, 130, 595, 596, 597, 2, 598, 20, 138, 139, 140, 141, 142, 143, 16, 144, 145, 146, 15, 147, 96, 599, 550, 551, 19, 552, 232, 241, 242, 243, 244, 47, 245, 222, 246, 247, 248, 249, 34, 37, 250, 251, 252, 253, 254, 255, 256, 257, 258, 259, 48, 260, 261, 262, 263, 264, 50, 265, 266, 267, 268, 42, 38, 269, 270, 271, 272, 238, 239, 233, 240, 273, 274, 275, 276, 277, 278, 279, 280, 281, 282, 283, 284, 616, 617, 618, 619, 638, 639, 640, 641, 642, 643, 644, 645, 646, 647, 648, 649, 650, 651, 652, 653] (by decide +kernel) (by decide +kernel)) (goodIn_sub (fun _ h => List.mem_append_right _ h) (by decide +kernel))
set_option maxRecDepth 20000 in
theorem gL_law_L_trees : GoodIn wsL_law (va_wsS RL 133 yL_trees wsL_trees) := goodIn_app (goodIn_of _ (by decide +kernel)) ggL_law_L_trees
set_option maxRecDepth 20000 in
theorem ggL_law_X5_trees : GoodIn wsL_law wsX5_trees := goodIn_r _ [603, 315, 159, 160, 161, 5, 162, 117, 163, 164, 165, 118, 119, 120, 121, 122, 346, 347, 348, 349, 322, 323, 324, 325, 76, 182, 74, 70, 71, 326, 68, 327, 328, 329, 330, 77, 73, 331, 332, 333, 334, 350, 351, 352, 353, 72, 335, 336, 337, 338, 78, 620, 621, 622, 623, 624, 625, 626, 627, 628, 629, 630, 631, 632, 633, 634, 635, 636, 637] (by decide +kernel) (by decide +kernel)
set_option maxRecDepth 20000 in
theorem gL_law_X5_trees : GoodIn wsL_law (wsV RL 135 RX5 yX5_trees wsX5_trees) := goodIn_app (goodIn_of _ (by decide +kernel)) ggL_law_X5_trees
set_option maxRecDepth 20000 in
theorem ggL_law_X4_parts : GoodIn wsL_law wsX4_parts := goodIn_r _ [607, 16, 608, 609, 610, 15, 611, 96, 37, 616, 617, 618, 619, 638, 639, 640, 641, 642, 643, 644, 645, 646, 647] (by decide +kernel) (by decide +kernel)
set_option maxRecDepth 20000 in
theorem gL_law_X4_parts : GoodIn wsL_law (wsV RL 136 RX4 yX4_parts wsX4_parts) := goodIn_app (goodIn_of _ (by decide +kernel)) ggL_law_X4_parts
set_option maxRecDepth 20000 in
theorem ggL_law_X5_parts : GoodIn wsL_law wsX5_parts := goodIn_r _ [615, 122, 117, 76, 322, 323, 324, 5, 325, 182, 74, 70, 71, 326, 68, 620, 621, 622, 623, 624, 625, 626, 627, 628, 629, 630, 631, 632, 633, 634, 635, 636, 637] (by decide +kernel) (by decide +kernel)
set_option maxRecDepth 20000 in
theorem gL_law_X5_parts : GoodIn wsL_law (wsV RL 139 RX5 yX5_parts wsX5_parts) := goodIn_app (goodIn_of _ (by decide +kernel)) ggL_law_X5_parts
theorem dL_law_0 : decode cL_law 0 = .ok (.new 8, 3) := by decide +kernel
theorem dL_law_3 : decode cL_law 3 = .ok (.dup, 1) := by decide +kernel
theorem dL_law_4 : decode cL_law 4 = .ok (.invokespecial 63, 3) := by decide +kernel
theorem dL_law_7 : decode cL_law 7 = .ok (.astore_n 1, 1) := by decide +kernel
theorem dL_law_8 : decode cL_law 8 = .ok (.new 64, 3) := by decide +kernel
theorem dL_law_11 : decode cL_law 11 = .ok (.dup, 1) := by decide +kernel
theorem dL_law_12 : decode cL_law 12 = .ok (.invokespecial 66, 3) := by decide +kernel
theorem dL_law_15 : decode cL_law 15 = .ok (.astore_n 2, 1) := by decide +kernel
theorem dL_law_16 : decode cL_law 16 = .ok (.iconst 1, 1) := by decide +kernel
theorem dL_law_17 : decode cL_law 17 = .ok (.newarray .long, 2) := by decide +kernel
theorem dL_law_19 : decode cL_law 19 = .ok (.astore_n 3, 1) := by decide +kernel
theorem dL_law_20 : decode cL_law 20 = .ok (.iconst 0, 1) := by decide +kernel
theorem dL_law_21 : decode cL_law 21 = .ok (.istore 4, 2) := by decide +kernel
theorem dL_law_23 : decode cL_law 23 = .ok (.iload 4, 2) := by decide +kernel
theorem dL_law_25 : decode cL_law 25 = .ok (.aload_n 0, 1) := by decide +kernel
theorem dL_law_26 : decode cL_law 26 = .ok (.arraylength, 1) := by decide +kernel
theorem dL_law_27 : decode cL_law 27 = .ok (.iconst 5, 1) := by decide +kernel
theorem dL_law_28 : decode cL_law 28 = .ok (.isub, 1) := by decide +kernel
theorem dL_law_29 : decode cL_law 29 = .ok (.if_icmp .gt 1054, 3) := by decide +kernel
theorem dL_law_32 : decode cL_law 32 = .ok (.aload_n 0, 1) := by decide +kernel
theorem dL_law_33 : decode cL_law 33 = .ok (.iload 4, 2) := by decide +kernel
theorem dL_law_35 : decode cL_law 35 = .ok (.iaload, 1) := by decide +kernel
theorem dL_law_36 : decode cL_law 36 = .ok (.bipush 31, 2) := by decide +kernel
theorem dL_law_38 : decode cL_law 38 = .ok (.iand, 1) := by decide +kernel
theorem dL_law_39 : decode cL_law 39 = .ok (.tableswitch 1038 0 18 #[89, 133, 236, 328, 419, 475, 531, 544, 557, 570, 625, 680, 735, 790, 846, 902, 957, 970, 1025], 89) := by decide +kernel
theorem dL_law_128 : decode cL_law 128 = .ok (.aload_n 1, 1) := by decide +kernel
theorem dL_law_129 : decode cL_law 129 = .ok (.aload_n 3, 1) := by decide +kernel
theorem dL_law_130 : decode cL_law 130 = .ok (.invokestatic 67, 3) := by decide +kernel
theorem dL_law_133 : decode cL_law 133 = .ok (.istore 5, 2) := by decide +kernel
theorem dL_law_135 : decode cL_law 135 = .ok (.aload_n 2, 1) := by decide +kernel
theorem dL_law_136 : decode cL_law 136 = .ok (.invokevirtual 72, 3) := by decide +kernel
theorem dL_law_139 : decode cL_law 139 = .ok (.istore 6, 2) := by decide +kernel
theorem dL_law_141 : decode cL_law 141 = .ok (.aload_n 2, 1) := by decide +kernel
theorem dL_law_142 : decode cL_law 142 = .ok (.invokevirtual 73, 3) := by decide +kernel
theorem dL_law_145 : decode cL_law 145 = .ok (.iload 5, 2) := by decide +kernel
theorem dL_law_147 : decode cL_law 147 = .ok (.if_icmp .eq 5, 3) := by decide +kernel
theorem dL_law_150 : decode cL_law 150 = .ok (.iconst 0, 1) := by decide +kernel
theorem dL_law_151 : decode cL_law 151 = .ok (.ireturn, 1) := by decide +kernel
theorem dL_law_152 : decode cL_law 152 = .ok (.iload 5, 2) := by decide +kernel
theorem dL_law_154 : decode cL_law 154 = .ok (.ifCond .ne 15, 3) := by decide +kernel
theorem dL_law_157 : decode cL_law 157 = .ok (.aload_n 3, 1) := by decide +kernel
theorem dL_law_158 : decode cL_law 158 = .ok (.iconst 0, 1) := by decide +kernel
theorem dL_law_159 : decode cL_law 159 = .ok (.laload, 1) := by decide +kernel
theorem dL_law_160 : decode cL_law 160 = .ok (.iload 6, 2) := by decide +kernel
theorem dL_law_162 : decode cL_law 162 = .ok (.i2l, 1) := by decide +kernel
theorem dL_law_163 : decode cL_law 163 = .ok (.lcmp, 1) := by decide +kernel
theorem dL_law_164 : decode cL_law 164 = .ok (.ifCond .eq 5, 3) := by decide +kernel
theorem dL_law_167 : decode cL_law 167 = .ok (.iconst 0, 1) := by decide +kernel
theorem dL_law_168 : decode cL_law 168 = .ok (.ireturn, 1) := by decide +kernel
theorem dL_law_169 : decode cL_law 169 = .ok (.goto 908, 3) := by decide +kernel
theorem dL_law_172 : decode cL_law 172 = .ok (.aload_n 1, 1) := by decide +kernel
theorem dL_law_173 : decode cL_law 173 = .ok (.aload_n 0, 1) := by decide +kernel
theorem dL_law_174 : decode cL_law 174 = .ok (.iload 4, 2) := by decide +kernel
theorem dL_law_176 : decode cL_law 176 = .ok (.iconst 1, 1) := by decide +kernel
theorem dL_law_177 : decode cL_law 177 = .ok (.iadd, 1) := by decide +kernel
theorem dL_law_178 : decode cL_law 178 = .ok (.iaload, 1) := by decide +kernel
theorem dL_law_179 : decode cL_law 179 = .ok (.aload_n 0, 1) := by decide +kernel
theorem dL_law_180 : decode cL_law 180 = .ok (.iload 4, 2) := by decide +kernel
theorem dL_law_182 : decode cL_law 182 = .ok (.iconst 2, 1) := by decide +kernel
theorem dL_law_183 : decode cL_law 183 = .ok (.iadd, 1) := by decide +kernel
theorem dL_law_184 : decode cL_law 184 = .ok (.iaload, 1) := by decide +kernel
theorem dL_law_185 : decode cL_law 185 = .ok (.aload_n 0, 1) := by decide +kernel
theorem dL_law_186 : decode cL_law 186 = .ok (.iload 4, 2) := by decide +kernel
theorem dL_law_188 : decode cL_law 188 = .ok (.iconst 3, 1) := by decide +kernel
theorem dL_law_189 : decode cL_law 189 = .ok (.iadd, 1) := by decide +kernel
theorem dL_law_190 : decode cL_law 190 = .ok (.iaload, 1) := by decide +kernel
theorem dL_law_191 : decode cL_law 191 = .ok (.ifCond .eq 7, 3) := by decide +kernel
theorem dL_law_194 : decode cL_law 194 = .ok (.iconst 1, 1) := by decide +kernel
theorem dL_law_195 : decode cL_law 195 = .ok (.goto 4, 3) := by decide +kernel
theorem dL_law_198 : decode cL_law 198 = .ok (.iconst 0, 1) := by decide +kernel
theorem dL_law_199 : decode cL_law 199 = .ok (.aload_n 3, 1) := by decide +kernel
theorem dL_law_200 : decode cL_law 200 = .ok (.invokestatic 76, 3) := by decide +kernel
theorem dL_law_203 : decode cL_law 203 = .ok (.istore 5, 2) := by decide +kernel
theorem dL_law_205 : decode cL_law 205 = .ok (.aload_n 2, 1) := by decide +kernel
theorem dL_law_206 : decode cL_law 206 = .ok (.aload_n 0, 1) := by decide +kernel
theorem dL_law_207 : decode cL_law 207 = .ok (.iload 4, 2) := by decide +kernel
theorem dL_law_209 : decode cL_law 209 = .ok (.iconst 1, 1) := by decide +kernel
theorem dL_law_210 : decode cL_law 210 = .ok (.iadd, 1) := by decide +kernel
theorem dL_law_211 : decode cL_law 211 = .ok (.iaload, 1) := by decide +kernel
theorem dL_law_212 : decode cL_law 212 = .ok (.aload_n 0, 1) := by decide +kernel
theorem dL_law_213 : decode cL_law 213 = .ok (.iload 4, 2) := by decide +kernel
theorem dL_law_215 : decode cL_law 215 = .ok (.iconst 2, 1) := by decide +kernel
theorem dL_law_216 : decode cL_law 216 = .ok (.iadd, 1) := by decide +kernel
theorem dL_law_217 : decode cL_law 217 = .ok (.iaload, 1) := by decide +kernel
theorem dL_law_218 : decode cL_law 218 = .ok (.aload_n 0, 1) := by decide +kernel
theorem dL_law_219 : decode cL_law 219 = .ok (.iload 4, 2) := by decide +kernel
theorem dL_law_221 : decode cL_law 221 = .ok (.iconst 3, 1) := by decide +kernel
theorem dL_law_222 : decode cL_law 222 = .ok (.iadd, 1) := by decide +kernel
theorem dL_law_223 : decode cL_law 223 = .ok (.iaload, 1) := by decide +kernel
theorem dL_law_224 : decode cL_law 224 = .ok (.ifCond .eq 7, 3) := by decide +kernel
theorem dL_law_227 : decode cL_law 227 = .ok (.iconst 1, 1) := by decide +kernel
theorem dL_law_228 : decode cL_law 228 = .ok (.goto 4, 3) := by decide +kernel
theorem dL_law_231 : decode cL_law 231 = .ok (.iconst 0, 1) := by decide +kernel
theorem dL_law_232 : decode cL_law 232 = .ok (.invokevirtual 79, 3) := by decide +kernel
theorem dL_law_235 : decode cL_law 235 = .ok (.istore 6, 2) := by decide +kernel
theorem dL_law_237 : decode cL_law 237 = .ok (.aload_n 2, 1) := by decide +kernel
theorem dL_law_238 : decode cL_law 238 = .ok (.invokevirtual 73, 3) := by decide +kernel
theorem dL_law_241 : decode cL_law 241 = .ok (.iload 5, 2) := by decide +kernel
theorem dL_law_243 : decode cL_law 243 = .ok (.if_icmp .eq 5, 3) := by decide +kernel
theorem dL_law_246 : decode cL_law 246 = .ok (.iconst 0, 1) := by decide +kernel
theorem dL_law_247 : decode cL_law 247 = .ok (.ireturn, 1) := by decide +kernel
theorem dL_law_248 : decode cL_law 248 = .ok (.iload 5, 2) := by decide +kernel
theorem dL_law_250 : decode cL_law 250 = .ok (.ifCond .ne 22, 3) := by decide +kernel
theorem dL_law_253 : decode cL_law 253 = .ok (.aload_n 3, 1) := by decide +kernel
theorem dL_law_254 : decode cL_law 254 = .ok (.iconst 0, 1) := by decide +kernel
theorem dL_law_255 : decode cL_law 255 = .ok (.laload, 1) := by decide +kernel
theorem dL_law_256 : decode cL_law 256 = .ok (.iload 6, 2) := by decide +kernel
theorem dL_law_258 : decode cL_law 258 = .ok (.ifCond .eq 7, 3) := by decide +kernel
theorem dL_law_261 : decode cL_law 261 = .ok (.lconst 1, 1) := by decide +kernel
theorem dL_law_262 : decode cL_law 262 = .ok (.goto 4, 3) := by decide +kernel
theorem dL_law_265 : decode cL_law 265 = .ok (.lconst 0, 1) := by decide +kernel
theorem dL_law_266 : decode cL_law 266 = .ok (.lcmp, 1) := by decide +kernel
theorem dL_law_267 : decode cL_law 267 = .ok (.ifCond .eq 5, 3) := by decide +kernel
theorem dL_law_270 : decode cL_law 270 = .ok (.iconst 0, 1) := by decide +kernel
theorem dL_law_271 : decode cL_law 271 = .ok (.ireturn, 1) := by decide +kernel
theorem dL_law_272 : decode cL_law 272 = .ok (.goto 805, 3) := by decide +kernel
theorem dL_law_275 : decode cL_law 275 = .ok (.aload_n 1, 1) := by decide +kernel
theorem dL_law_276 : decode cL_law 276 = .ok (.aload_n 0, 1) := by decide +kernel
theorem dL_law_277 : decode cL_law 277 = .ok (.iload 4, 2) := by decide +kernel
theorem dL_law_279 : decode cL_law 279 = .ok (.iconst 1, 1) := by decide +kernel
theorem dL_law_280 : decode cL_law 280 = .ok (.iadd, 1) := by decide +kernel
theorem dL_law_281 : decode cL_law 281 = .ok (.iaload, 1) := by decide +kernel
theorem dL_law_282 : decode cL_law 282 = .ok (.aload_n 0, 1) := by decide +kernel
theorem dL_law_283 : decode cL_law 283 = .ok (.iload 4, 2) := by decide +kernel
theorem dL_law_285 : decode cL_law 285 = .ok (.iconst 2, 1) := by decide +kernel
theorem dL_law_286 : decode cL_law 286 = .ok (.iadd, 1) := by decide +kernel
theorem dL_law_287 : decode cL_law 287 = .ok (.iaload, 1) := by decide +kernel
theorem dL_law_288 : decode cL_law 288 = .ok (.aload_n 0, 1) := by decide +kernel
theorem dL_law_289 : decode cL_law 289 = .ok (.iload 4, 2) := by decide +kernel
theorem dL_law_291 : decode cL_law 291 = .ok (.iconst 3, 1) := by decide +kernel
theorem dL_law_292 : decode cL_law 292 = .ok (.iadd, 1) := by decide +kernel
theorem dL_law_293 : decode cL_law 293 = .ok (.iaload, 1) := by decide +kernel
theorem dL_law_294 : decode cL_law 294 = .ok (.aload_n 0, 1) := by decide +kernel
theorem dL_law_295 : decode cL_law 295 = .ok (.iload 4, 2) := by decide +kernel
theorem dL_law_297 : decode cL_law 297 = .ok (.iconst 4, 1) := by decide +kernel
theorem dL_law_298 : decode cL_law 298 = .ok (.iadd, 1) := by decide +kernel
theorem dL_law_299 : decode cL_law 299 = .ok (.iaload, 1) := by decide +kernel
theorem dL_law_300 : decode cL_law 300 = .ok (.aload_n 3, 1) := by decide +kernel
theorem dL_law_301 : decode cL_law 301 = .ok (.invokestatic 80, 3) := by decide +kernel
theorem dL_law_304 : decode cL_law 304 = .ok (.istore 5, 2) := by decide +kernel
theorem dL_law_306 : decode cL_law 306 = .ok (.aload_n 2, 1) := by decide +kernel
theorem dL_law_307 : decode cL_law 307 = .ok (.aload_n 0, 1) := by decide +kernel
theorem dL_law_308 : decode cL_law 308 = .ok (.iload 4, 2) := by decide +kernel
theorem dL_law_310 : decode cL_law 310 = .ok (.iconst 1, 1) := by decide +kernel
theorem dL_law_311 : decode cL_law 311 = .ok (.iadd, 1) := by decide +kernel
theorem dL_law_312 : decode cL_law 312 = .ok (.iaload, 1) := by decide +kernel
theorem dL_law_313 : decode cL_law 313 = .ok (.aload_n 0, 1) := by decide +kernel
theorem dL_law_314 : decode cL_law 314 = .ok (.iload 4, 2) := by decide +kernel
theorem dL_law_316 : decode cL_law 316 = .ok (.iconst 2, 1) := by decide +kernel
theorem dL_law_317 : decode cL_law 317 = .ok (.iadd, 1) := by decide +kernel
theorem dL_law_318 : decode cL_law 318 = .ok (.iaload, 1) := by decide +kernel
theorem dL_law_319 : decode cL_law 319 = .ok (.aload_n 0, 1) := by decide +kernel
theorem dL_law_320 : decode cL_law 320 = .ok (.iload 4, 2) := by decide +kernel
theorem dL_law_322 : decode cL_law 322 = .ok (.iconst 3, 1) := by decide +kernel
theorem dL_law_323 : decode cL_law 323 = .ok (.iadd, 1) := by decide +kernel
theorem dL_law_324 : decode cL_law 324 = .ok (.iaload, 1) := by decide +kernel
theorem dL_law_325 : decode cL_law 325 = .ok (.aload_n 0, 1) := by decide +kernel
theorem dL_law_326 : decode cL_law 326 = .ok (.iload 4, 2) := by decide +kernel
theorem dL_law_328 : decode cL_law 328 = .ok (.iconst 4, 1) := by decide +kernel
theorem dL_law_329 : decode cL_law 329 = .ok (.iadd, 1) := by decide +kernel
theorem dL_law_330 : decode cL_law 330 = .ok (.iaload, 1) := by decide +kernel
theorem dL_law_331 : decode cL_law 331 = .ok (.invokevirtual 83, 3) := by decide +kernel
theorem dL_law_334 : decode cL_law 334 = .ok (.istore 6, 2) := by decide +kernel
theorem dL_law_336 : decode cL_law 336 = .ok (.aload_n 2, 1) := by decide +kernel
theorem dL_law_337 : decode cL_law 337 = .ok (.invokevirtual 73, 3) := by decide +kernel
theorem dL_law_340 : decode cL_law 340 = .ok (.iload 5, 2) := by decide +kernel
theorem dL_law_342 : decode cL_law 342 = .ok (.if_icmp .eq 5, 3) := by decide +kernel
theorem dL_law_345 : decode cL_law 345 = .ok (.iconst 0, 1) := by decide +kernel
theorem dL_law_346 : decode cL_law 346 = .ok (.ireturn, 1) := by decide +kernel
theorem dL_law_347 : decode cL_law 347 = .ok (.iload 5, 2) := by decide +kernel
theorem dL_law_349 : decode cL_law 349 = .ok (.ifCond .ne 15, 3) := by decide +kernel
theorem dL_law_352 : decode cL_law 352 = .ok (.aload_n 3, 1) := by decide +kernel
theorem dL_law_353 : decode cL_law 353 = .ok (.iconst 0, 1) := by decide +kernel
theorem dL_law_354 : decode cL_law 354 = .ok (.laload, 1) := by decide +kernel
theorem dL_law_355 : decode cL_law 355 = .ok (.iload 6, 2) := by decide +kernel
theorem dL_law_357 : decode cL_law 357 = .ok (.i2l, 1) := by decide +kernel
theorem dL_law_358 : decode cL_law 358 = .ok (.lcmp, 1) := by decide +kernel
theorem dL_law_359 : decode cL_law 359 = .ok (.ifCond .eq 5, 3) := by decide +kernel
theorem dL_law_362 : decode cL_law 362 = .ok (.iconst 0, 1) := by decide +kernel
theorem dL_law_363 : decode cL_law 363 = .ok (.ireturn, 1) := by decide +kernel
theorem dL_law_364 : decode cL_law 364 = .ok (.goto 713, 3) := by decide +kernel
theorem dL_law_367 : decode cL_law 367 = .ok (.aload_n 1, 1) := by decide +kernel
theorem dL_law_368 : decode cL_law 368 = .ok (.aload_n 0, 1) := by decide +kernel
theorem dL_law_369 : decode cL_law 369 = .ok (.iload 4, 2) := by decide +kernel
theorem dL_law_371 : decode cL_law 371 = .ok (.iconst 1, 1) := by decide +kernel
theorem dL_law_372 : decode cL_law 372 = .ok (.iadd, 1) := by decide +kernel
theorem dL_law_373 : decode cL_law 373 = .ok (.iaload, 1) := by decide +kernel
theorem dL_law_374 : decode cL_law 374 = .ok (.aload_n 0, 1) := by decide +kernel
theorem dL_law_375 : decode cL_law 375 = .ok (.iload 4, 2) := by decide +kernel
theorem dL_law_377 : decode cL_law 377 = .ok (.iconst 2, 1) := by decide +kernel
theorem dL_law_378 : decode cL_law 378 = .ok (.iadd, 1) := by decide +kernel
theorem dL_law_379 : decode cL_law 379 = .ok (.iaload, 1) := by decide +kernel
theorem dL_law_380 : decode cL_law 380 = .ok (.ifCond .eq 7, 3) := by decide +kernel
theorem dL_law_383 : decode cL_law 383 = .ok (.iconst 1, 1) := by decide +kernel
theorem dL_law_384 : decode cL_law 384 = .ok (.goto 4, 3) := by decide +kernel
theorem dL_law_387 : decode cL_law 387 = .ok (.iconst 0, 1) := by decide +kernel
theorem dL_law_388 : decode cL_law 388 = .ok (.aload_n 3, 1) := by decide +kernel
theorem dL_law_389 : decode cL_law 389 = .ok (.invokestatic 84, 3) := by decide +kernel
theorem dL_law_392 : decode cL_law 392 = .ok (.istore 5, 2) := by decide +kernel
theorem dL_law_394 : decode cL_law 394 = .ok (.aload_n 2, 1) := by decide +kernel
theorem dL_law_395 : decode cL_law 395 = .ok (.aload_n 0, 1) := by decide +kernel
theorem dL_law_396 : decode cL_law 396 = .ok (.iload 4, 2) := by decide +kernel
theorem dL_law_398 : decode cL_law 398 = .ok (.iconst 1, 1) := by decide +kernel
theorem dL_law_399 : decode cL_law 399 = .ok (.iadd, 1) := by decide +kernel
theorem dL_law_400 : decode cL_law 400 = .ok (.iaload, 1) := by decide +kernel
theorem dL_law_401 : decode cL_law 401 = .ok (.aload_n 0, 1) := by decide +kernel
theorem dL_law_402 : decode cL_law 402 = .ok (.iload 4, 2) := by decide +kernel
theorem dL_law_404 : decode cL_law 404 = .ok (.iconst 2, 1) := by decide +kernel
theorem dL_law_405 : decode cL_law 405 = .ok (.iadd, 1) := by decide +kernel
theorem dL_law_406 : decode cL_law 406 = .ok (.iaload, 1) := by decide +kernel
theorem dL_law_407 : decode cL_law 407 = .ok (.ifCond .eq 7, 3) := by decide +kernel
theorem dL_law_410 : decode cL_law 410 = .ok (.iconst 1, 1) := by decide +kernel
theorem dL_law_411 : decode cL_law 411 = .ok (.goto 4, 3) := by decide +kernel
theorem dL_law_414 : decode cL_law 414 = .ok (.iconst 0, 1) := by decide +kernel
theorem dL_law_415 : decode cL_law 415 = .ok (.invokevirtual 87, 3) := by decide +kernel
theorem dL_law_418 : decode cL_law 418 = .ok (.istore 6, 2) := by decide +kernel
theorem dL_law_420 : decode cL_law 420 = .ok (.aload_n 2, 1) := by decide +kernel
theorem dL_law_421 : decode cL_law 421 = .ok (.invokevirtual 73, 3) := by decide +kernel
theorem dL_law_424 : decode cL_law 424 = .ok (.iload 5, 2) := by decide +kernel
theorem dL_law_426 : decode cL_law 426 = .ok (.if_icmp .eq 5, 3) := by decide +kernel
theorem dL_law_429 : decode cL_law 429 = .ok (.iconst 0, 1) := by decide +kernel
theorem dL_law_430 : decode cL_law 430 = .ok (.ireturn, 1) := by decide +kernel
theorem dL_law_431 : decode cL_law 431 = .ok (.iload 5, 2) := by decide +kernel
theorem dL_law_433 : decode cL_law 433 = .ok (.ifCond .ne 22, 3) := by decide +kernel
theorem dL_law_436 : decode cL_law 436 = .ok (.aload_n 3, 1) := by decide +kernel
theorem dL_law_437 : decode cL_law 437 = .ok (.iconst 0, 1) := by decide +kernel
theorem dL_law_438 : decode cL_law 438 = .ok (.laload, 1) := by decide +kernel
theorem dL_law_439 : decode cL_law 439 = .ok (.iload 6, 2) := by decide +kernel
theorem dL_law_441 : decode cL_law 441 = .ok (.ifCond .eq 7, 3) := by decide +kernel
theorem dL_law_444 : decode cL_law 444 = .ok (.lconst 1, 1) := by decide +kernel
theorem dL_law_445 : decode cL_law 445 = .ok (.goto 4, 3) := by decide +kernel
theorem dL_law_448 : decode cL_law 448 = .ok (.lconst 0, 1) := by decide +kernel
theorem dL_law_449 : decode cL_law 449 = .ok (.lcmp, 1) := by decide +kernel
theorem dL_law_450 : decode cL_law 450 = .ok (.ifCond .eq 5, 3) := by decide +kernel
theorem dL_law_453 : decode cL_law 453 = .ok (.iconst 0, 1) := by decide +kernel
theorem dL_law_454 : decode cL_law 454 = .ok (.ireturn, 1) := by decide +kernel
theorem dL_law_455 : decode cL_law 455 = .ok (.goto 622, 3) := by decide +kernel
theorem dL_law_458 : decode cL_law 458 = .ok (.aload_n 1, 1) := by decide +kernel
theorem dL_law_459 : decode cL_law 459 = .ok (.aload_n 0, 1) := by decide +kernel
theorem dL_law_460 : decode cL_law 460 = .ok (.iload 4, 2) := by decide +kernel
theorem dL_law_462 : decode cL_law 462 = .ok (.iconst 1, 1) := by decide +kernel
theorem dL_law_463 : decode cL_law 463 = .ok (.iadd, 1) := by decide +kernel
theorem dL_law_464 : decode cL_law 464 = .ok (.iaload, 1) := by decide +kernel
theorem dL_law_465 : decode cL_law 465 = .ok (.aload_n 3, 1) := by decide +kernel
theorem dL_law_466 : decode cL_law 466 = .ok (.invokestatic 88, 3) := by decide +kernel
theorem dL_law_469 : decode cL_law 469 = .ok (.istore 5, 2) := by decide +kernel
theorem dL_law_471 : decode cL_law 471 = .ok (.aload_n 2, 1) := by decide +kernel
theorem dL_law_472 : decode cL_law 472 = .ok (.aload_n 0, 1) := by decide +kernel
theorem dL_law_473 : decode cL_law 473 = .ok (.iload 4, 2) := by decide +kernel
theorem dL_law_475 : decode cL_law 475 = .ok (.iconst 1, 1) := by decide +kernel
theorem dL_law_476 : decode cL_law 476 = .ok (.iadd, 1) := by decide +kernel
theorem dL_law_477 : decode cL_law 477 = .ok (.iaload, 1) := by decide +kernel
theorem dL_law_478 : decode cL_law 478 = .ok (.invokevirtual 91, 3) := by decide +kernel
theorem dL_law_481 : decode cL_law 481 = .ok (.istore 6, 2) := by decide +kernel
theorem dL_law_483 : decode cL_law 483 = .ok (.aload_n 2, 1) := by decide +kernel
theorem dL_law_484 : decode cL_law 484 = .ok (.invokevirtual 73, 3) := by decide +kernel
theorem dL_law_487 : decode cL_law 487 = .ok (.iload 5, 2) := by decide +kernel
theorem dL_law_489 : decode cL_law 489 = .ok (.if_icmp .eq 5, 3) := by decide +kernel
theorem dL_law_492 : decode cL_law 492 = .ok (.iconst 0, 1) := by decide +kernel
theorem dL_law_493 : decode cL_law 493 = .ok (.ireturn, 1) := by decide +kernel
theorem dL_law_494 : decode cL_law 494 = .ok (.iload 5, 2) := by decide +kernel
theorem dL_law_496 : decode cL_law 496 = .ok (.ifCond .ne 15, 3) := by decide +kernel
theorem dL_law_499 : decode cL_law 499 = .ok (.aload_n 3, 1) := by decide +kernel
theorem dL_law_500 : decode cL_law 500 = .ok (.iconst 0, 1) := by decide +kernel
theorem dL_law_501 : decode cL_law 501 = .ok (.laload, 1) := by decide +kernel
theorem dL_law_502 : decode cL_law 502 = .ok (.iload 6, 2) := by decide +kernel
theorem dL_law_504 : decode cL_law 504 = .ok (.i2l, 1) := by decide +kernel
theorem dL_law_505 : decode cL_law 505 = .ok (.lcmp, 1) := by decide +kernel
theorem dL_law_506 : decode cL_law 506 = .ok (.ifCond .eq 5, 3) := by decide +kernel
theorem dL_law_509 : decode cL_law 509 = .ok (.iconst 0, 1) := by decide +kernel
theorem dL_law_510 : decode cL_law 510 = .ok (.ireturn, 1) := by decide +kernel
theorem dL_law_511 : decode cL_law 511 = .ok (.goto 566, 3) := by decide +kernel
theorem dL_law_514 : decode cL_law 514 = .ok (.aload_n 1, 1) := by decide +kernel
theorem dL_law_515 : decode cL_law 515 = .ok (.aload_n 0, 1) := by decide +kernel
theorem dL_law_516 : decode cL_law 516 = .ok (.iload 4, 2) := by decide +kernel
theorem dL_law_518 : decode cL_law 518 = .ok (.iconst 1, 1) := by decide +kernel
theorem dL_law_519 : decode cL_law 519 = .ok (.iadd, 1) := by decide +kernel
theorem dL_law_520 : decode cL_law 520 = .ok (.iaload, 1) := by decide +kernel
theorem dL_law_521 : decode cL_law 521 = .ok (.aload_n 3, 1) := by decide +kernel
theorem dL_law_522 : decode cL_law 522 = .ok (.invokestatic 92, 3) := by decide +kernel
theorem dL_law_525 : decode cL_law 525 = .ok (.istore 5, 2) := by decide +kernel
theorem dL_law_527 : decode cL_law 527 = .ok (.aload_n 2, 1) := by decide +kernel
theorem dL_law_528 : decode cL_law 528 = .ok (.aload_n 0, 1) := by decide +kernel
theorem dL_law_529 : decode cL_law 529 = .ok (.iload 4, 2) := by decide +kernel
theorem dL_law_531 : decode cL_law 531 = .ok (.iconst 1, 1) := by decide +kernel
theorem dL_law_532 : decode cL_law 532 = .ok (.iadd, 1) := by decide +kernel
theorem dL_law_533 : decode cL_law 533 = .ok (.iaload, 1) := by decide +kernel
theorem dL_law_534 : decode cL_law 534 = .ok (.invokevirtual 94, 3) := by decide +kernel
theorem dL_law_537 : decode cL_law 537 = .ok (.istore 6, 2) := by decide +kernel
theorem dL_law_539 : decode cL_law 539 = .ok (.aload_n 2, 1) := by decide +kernel
theorem dL_law_540 : decode cL_law 540 = .ok (.invokevirtual 73, 3) := by decide +kernel
theorem dL_law_543 : decode cL_law 543 = .ok (.iload 5, 2) := by decide +kernel
theorem dL_law_545 : decode cL_law 545 = .ok (.if_icmp .eq 5, 3) := by decide +kernel
theorem dL_law_548 : decode cL_law 548 = .ok (.iconst 0, 1) := by decide +kernel
theorem dL_law_549 : decode cL_law 549 = .ok (.ireturn, 1) := by decide +kernel
theorem dL_law_550 : decode cL_law 550 = .ok (.iload 5, 2) := by decide +kernel
theorem dL_law_552 : decode cL_law 552 = .ok (.ifCond .ne 15, 3) := by decide +kernel
theorem dL_law_555 : decode cL_law 555 = .ok (.aload_n 3, 1) := by decide +kernel
theorem dL_law_556 : decode cL_law 556 = .ok (.iconst 0, 1) := by decide +kernel
theorem dL_law_557 : decode cL_law 557 = .ok (.laload, 1) := by decide +kernel
theorem dL_law_558 : decode cL_law 558 = .ok (.iload 6, 2) := by decide +kernel
theorem dL_law_560 : decode cL_law 560 = .ok (.i2l, 1) := by decide +kernel
theorem dL_law_561 : decode cL_law 561 = .ok (.lcmp, 1) := by decide +kernel
theorem dL_law_562 : decode cL_law 562 = .ok (.ifCond .eq 5, 3) := by decide +kernel
theorem dL_law_565 : decode cL_law 565 = .ok (.iconst 0, 1) := by decide +kernel
theorem dL_law_566 : decode cL_law 566 = .ok (.ireturn, 1) := by decide +kernel
theorem dL_law_567 : decode cL_law 567 = .ok (.goto 510, 3) := by decide +kernel
theorem dL_law_570 : decode cL_law 570 = .ok (.aload_n 1, 1) := by decide +kernel
theorem dL_law_571 : decode cL_law 571 = .ok (.invokevirtual 95, 3) := by decide +kernel
theorem dL_law_574 : decode cL_law 574 = .ok (.aload_n 2, 1) := by decide +kernel
theorem dL_law_575 : decode cL_law 575 = .ok (.invokevirtual 98, 3) := by decide +kernel
theorem dL_law_578 : decode cL_law 578 = .ok (.if_icmp .eq 499, 3) := by decide +kernel
theorem dL_law_581 : decode cL_law 581 = .ok (.iconst 0, 1) := by decide +kernel
theorem dL_law_582 : decode cL_law 582 = .ok (.ireturn, 1) := by decide +kernel
theorem dL_law_583 : decode cL_law 583 = .ok (.aload_n 1, 1) := by decide +kernel
theorem dL_law_584 : decode cL_law 584 = .ok (.invokevirtual 99, 3) := by decide +kernel
theorem dL_law_587 : decode cL_law 587 = .ok (.aload_n 2, 1) := by decide +kernel
theorem dL_law_588 : decode cL_law 588 = .ok (.invokevirtual 102, 3) := by decide +kernel
theorem dL_law_591 : decode cL_law 591 = .ok (.if_icmp .eq 486, 3) := by decide +kernel
theorem dL_law_594 : decode cL_law 594 = .ok (.iconst 0, 1) := by decide +kernel
theorem dL_law_595 : decode cL_law 595 = .ok (.ireturn, 1) := by decide +kernel
theorem dL_law_596 : decode cL_law 596 = .ok (.aload_n 1, 1) := by decide +kernel
theorem dL_law_597 : decode cL_law 597 = .ok (.invokevirtual 103, 3) := by decide +kernel
theorem dL_law_600 : decode cL_law 600 = .ok (.aload_n 2, 1) := by decide +kernel
theorem dL_law_601 : decode cL_law 601 = .ok (.invokevirtual 107, 3) := by decide +kernel
theorem dL_law_604 : decode cL_law 604 = .ok (.if_icmp .eq 473, 3) := by decide +kernel
theorem dL_law_607 : decode cL_law 607 = .ok (.iconst 0, 1) := by decide +kernel
theorem dL_law_608 : decode cL_law 608 = .ok (.ireturn, 1) := by decide +kernel
theorem dL_law_609 : decode cL_law 609 = .ok (.aload_n 1, 1) := by decide +kernel
theorem dL_law_610 : decode cL_law 610 = .ok (.aload_n 0, 1) := by decide +kernel
theorem dL_law_611 : decode cL_law 611 = .ok (.iload 4, 2) := by decide +kernel
theorem dL_law_613 : decode cL_law 613 = .ok (.iconst 1, 1) := by decide +kernel
theorem dL_law_614 : decode cL_law 614 = .ok (.iadd, 1) := by decide +kernel
theorem dL_law_615 : decode cL_law 615 = .ok (.iaload, 1) := by decide +kernel
theorem dL_law_616 : decode cL_law 616 = .ok (.aload_n 3, 1) := by decide +kernel
theorem dL_law_617 : decode cL_law 617 = .ok (.invokestatic 108, 3) := by decide +kernel
theorem dL_law_620 : decode cL_law 620 = .ok (.istore 5, 2) := by decide +kernel
theorem dL_law_622 : decode cL_law 622 = .ok (.aload_n 2, 1) := by decide +kernel
theorem dL_law_623 : decode cL_law 623 = .ok (.aload_n 0, 1) := by decide +kernel
theorem dL_law_624 : decode cL_law 624 = .ok (.iload 4, 2) := by decide +kernel
theorem dL_law_626 : decode cL_law 626 = .ok (.iconst 1, 1) := by decide +kernel
theorem dL_law_627 : decode cL_law 627 = .ok (.iadd, 1) := by decide +kernel
theorem dL_law_628 : decode cL_law 628 = .ok (.iaload, 1) := by decide +kernel
theorem dL_law_629 : decode cL_law 629 = .ok (.invokevirtual 110, 3) := by decide +kernel
theorem dL_law_632 : decode cL_law 632 = .ok (.lstore 6, 2) := by decide +kernel
theorem dL_law_634 : decode cL_law 634 = .ok (.aload_n 2, 1) := by decide +kernel
theorem dL_law_635 : decode cL_law 635 = .ok (.invokevirtual 73, 3) := by decide +kernel
theorem dL_law_638 : decode cL_law 638 = .ok (.iload 5, 2) := by decide +kernel
theorem dL_law_640 : decode cL_law 640 = .ok (.if_icmp .eq 5, 3) := by decide +kernel
theorem dL_law_643 : decode cL_law 643 = .ok (.iconst 0, 1) := by decide +kernel
theorem dL_law_644 : decode cL_law 644 = .ok (.ireturn, 1) := by decide +kernel
theorem dL_law_645 : decode cL_law 645 = .ok (.iload 5, 2) := by decide +kernel
theorem dL_law_647 : decode cL_law 647 = .ok (.ifCond .ne 14, 3) := by decide +kernel
theorem dL_law_650 : decode cL_law 650 = .ok (.aload_n 3, 1) := by decide +kernel
theorem dL_law_651 : decode cL_law 651 = .ok (.iconst 0, 1) := by decide +kernel
theorem dL_law_652 : decode cL_law 652 = .ok (.laload, 1) := by decide +kernel
theorem dL_law_653 : decode cL_law 653 = .ok (.lload 6, 2) := by decide +kernel
theorem dL_law_655 : decode cL_law 655 = .ok (.lcmp, 1) := by decide +kernel
theorem dL_law_656 : decode cL_law 656 = .ok (.ifCond .eq 5, 3) := by decide +kernel
theorem dL_law_659 : decode cL_law 659 = .ok (.iconst 0, 1) := by decide +kernel
theorem dL_law_660 : decode cL_law 660 = .ok (.ireturn, 1) := by decide +kernel
theorem dL_law_661 : decode cL_law 661 = .ok (.goto 416, 3) := by decide +kernel
theorem dL_law_664 : decode cL_law 664 = .ok (.aload_n 1, 1) := by decide +kernel
theorem dL_law_665 : decode cL_law 665 = .ok (.aload_n 0, 1) := by decide +kernel
theorem dL_law_666 : decode cL_law 666 = .ok (.iload 4, 2) := by decide +kernel
theorem dL_law_668 : decode cL_law 668 = .ok (.iconst 1, 1) := by decide +kernel
theorem dL_law_669 : decode cL_law 669 = .ok (.iadd, 1) := by decide +kernel
theorem dL_law_670 : decode cL_law 670 = .ok (.iaload, 1) := by decide +kernel
theorem dL_law_671 : decode cL_law 671 = .ok (.aload_n 3, 1) := by decide +kernel
theorem dL_law_672 : decode cL_law 672 = .ok (.invokestatic 111, 3) := by decide +kernel
theorem dL_law_675 : decode cL_law 675 = .ok (.istore 5, 2) := by decide +kernel
theorem dL_law_677 : decode cL_law 677 = .ok (.aload_n 2, 1) := by decide +kernel
theorem dL_law_678 : decode cL_law 678 = .ok (.aload_n 0, 1) := by decide +kernel
theorem dL_law_679 : decode cL_law 679 = .ok (.iload 4, 2) := by decide +kernel
theorem dL_law_681 : decode cL_law 681 = .ok (.iconst 1, 1) := by decide +kernel
theorem dL_law_682 : decode cL_law 682 = .ok (.iadd, 1) := by decide +kernel
theorem dL_law_683 : decode cL_law 683 = .ok (.iaload, 1) := by decide +kernel
theorem dL_law_684 : decode cL_law 684 = .ok (.invokevirtual 113, 3) := by decide +kernel
theorem dL_law_687 : decode cL_law 687 = .ok (.lstore 6, 2) := by decide +kernel
theorem dL_law_689 : decode cL_law 689 = .ok (.aload_n 2, 1) := by decide +kernel
theorem dL_law_690 : decode cL_law 690 = .ok (.invokevirtual 73, 3) := by decide +kernel
theorem dL_law_693 : decode cL_law 693 = .ok (.iload 5, 2) := by decide +kernel
theorem dL_law_695 : decode cL_law 695 = .ok (.if_icmp .eq 5, 3) := by decide +kernel
theorem dL_law_698 : decode cL_law 698 = .ok (.iconst 0, 1) := by decide +kernel
theorem dL_law_699 : decode cL_law 699 = .ok (.ireturn, 1) := by decide +kernel
theorem dL_law_700 : decode cL_law 700 = .ok (.iload 5, 2) := by decide +kernel
theorem dL_law_702 : decode cL_law 702 = .ok (.ifCond .ne 14, 3) := by decide +kernel
theorem dL_law_705 : decode cL_law 705 = .ok (.aload_n 3, 1) := by decide +kernel
theorem dL_law_706 : decode cL_law 706 = .ok (.iconst 0, 1) := by decide +kernel
theorem dL_law_707 : decode cL_law 707 = .ok (.laload, 1) := by decide +kernel
theorem dL_law_708 : decode cL_law 708 = .ok (.lload 6, 2) := by decide +kernel
theorem dL_law_710 : decode cL_law 710 = .ok (.lcmp, 1) := by decide +kernel
theorem dL_law_711 : decode cL_law 711 = .ok (.ifCond .eq 5, 3) := by decide +kernel
theorem dL_law_714 : decode cL_law 714 = .ok (.iconst 0, 1) := by decide +kernel
theorem dL_law_715 : decode cL_law 715 = .ok (.ireturn, 1) := by decide +kernel
theorem dL_law_716 : decode cL_law 716 = .ok (.goto 361, 3) := by decide +kernel
theorem dL_law_719 : decode cL_law 719 = .ok (.aload_n 1, 1) := by decide +kernel
theorem dL_law_720 : decode cL_law 720 = .ok (.aload_n 0, 1) := by decide +kernel
theorem dL_law_721 : decode cL_law 721 = .ok (.iload 4, 2) := by decide +kernel
theorem dL_law_723 : decode cL_law 723 = .ok (.iconst 1, 1) := by decide +kernel
theorem dL_law_724 : decode cL_law 724 = .ok (.iadd, 1) := by decide +kernel
theorem dL_law_725 : decode cL_law 725 = .ok (.iaload, 1) := by decide +kernel
theorem dL_law_726 : decode cL_law 726 = .ok (.aload_n 3, 1) := by decide +kernel
theorem dL_law_727 : decode cL_law 727 = .ok (.invokestatic 114, 3) := by decide +kernel
theorem dL_law_730 : decode cL_law 730 = .ok (.istore 5, 2) := by decide +kernel
theorem dL_law_732 : decode cL_law 732 = .ok (.aload_n 2, 1) := by decide +kernel
theorem dL_law_733 : decode cL_law 733 = .ok (.aload_n 0, 1) := by decide +kernel
theorem dL_law_734 : decode cL_law 734 = .ok (.iload 4, 2) := by decide +kernel
theorem dL_law_736 : decode cL_law 736 = .ok (.iconst 1, 1) := by decide +kernel
theorem dL_law_737 : decode cL_law 737 = .ok (.iadd, 1) := by decide +kernel
theorem dL_law_738 : decode cL_law 738 = .ok (.iaload, 1) := by decide +kernel
theorem dL_law_739 : decode cL_law 739 = .ok (.invokevirtual 116, 3) := by decide +kernel
theorem dL_law_742 : decode cL_law 742 = .ok (.lstore 6, 2) := by decide +kernel
theorem dL_law_744 : decode cL_law 744 = .ok (.aload_n 2, 1) := by decide +kernel
theorem dL_law_745 : decode cL_law 745 = .ok (.invokevirtual 73, 3) := by decide +kernel
theorem dL_law_748 : decode cL_law 748 = .ok (.iload 5, 2) := by decide +kernel
theorem dL_law_750 : decode cL_law 750 = .ok (.if_icmp .eq 5, 3) := by decide +kernel
theorem dL_law_753 : decode cL_law 753 = .ok (.iconst 0, 1) := by decide +kernel
theorem dL_law_754 : decode cL_law 754 = .ok (.ireturn, 1) := by decide +kernel
theorem dL_law_755 : decode cL_law 755 = .ok (.iload 5, 2) := by decide +kernel
theorem dL_law_757 : decode cL_law 757 = .ok (.ifCond .ne 14, 3) := by decide +kernel
theorem dL_law_760 : decode cL_law 760 = .ok (.aload_n 3, 1) := by decide +kernel
theorem dL_law_761 : decode cL_law 761 = .ok (.iconst 0, 1) := by decide +kernel
theorem dL_law_762 : decode cL_law 762 = .ok (.laload, 1) := by decide +kernel
theorem dL_law_763 : decode cL_law 763 = .ok (.lload 6, 2) := by decide +kernel
theorem dL_law_765 : decode cL_law 765 = .ok (.lcmp, 1) := by decide +kernel
theorem dL_law_766 : decode cL_law 766 = .ok (.ifCond .eq 5, 3) := by decide +kernel
theorem dL_law_769 : decode cL_law 769 = .ok (.iconst 0, 1) := by decide +kernel
theorem dL_law_770 : decode cL_law 770 = .ok (.ireturn, 1) := by decide +kernel
theorem dL_law_771 : decode cL_law 771 = .ok (.goto 306, 3) := by decide +kernel
theorem dL_law_774 : decode cL_law 774 = .ok (.aload_n 1, 1) := by decide +kernel
theorem dL_law_775 : decode cL_law 775 = .ok (.aload_n 0, 1) := by decide +kernel
theorem dL_law_776 : decode cL_law 776 = .ok (.iload 4, 2) := by decide +kernel
theorem dL_law_778 : decode cL_law 778 = .ok (.iconst 1, 1) := by decide +kernel
theorem dL_law_779 : decode cL_law 779 = .ok (.iadd, 1) := by decide +kernel
theorem dL_law_780 : decode cL_law 780 = .ok (.iaload, 1) := by decide +kernel
theorem dL_law_781 : decode cL_law 781 = .ok (.aload_n 3, 1) := by decide +kernel
theorem dL_law_782 : decode cL_law 782 = .ok (.invokestatic 117, 3) := by decide +kernel
theorem dL_law_785 : decode cL_law 785 = .ok (.istore 5, 2) := by decide +kernel
theorem dL_law_787 : decode cL_law 787 = .ok (.aload_n 2, 1) := by decide +kernel
theorem dL_law_788 : decode cL_law 788 = .ok (.aload_n 0, 1) := by decide +kernel
theorem dL_law_789 : decode cL_law 789 = .ok (.iload 4, 2) := by decide +kernel
theorem dL_law_791 : decode cL_law 791 = .ok (.iconst 1, 1) := by decide +kernel
theorem dL_law_792 : decode cL_law 792 = .ok (.iadd, 1) := by decide +kernel
theorem dL_law_793 : decode cL_law 793 = .ok (.iaload, 1) := by decide +kernel
theorem dL_law_794 : decode cL_law 794 = .ok (.invokevirtual 119, 3) := by decide +kernel
theorem dL_law_797 : decode cL_law 797 = .ok (.lstore 6, 2) := by decide +kernel
theorem dL_law_799 : decode cL_law 799 = .ok (.aload_n 2, 1) := by decide +kernel
theorem dL_law_800 : decode cL_law 800 = .ok (.invokevirtual 73, 3) := by decide +kernel
theorem dL_law_803 : decode cL_law 803 = .ok (.iload 5, 2) := by decide +kernel
theorem dL_law_805 : decode cL_law 805 = .ok (.if_icmp .eq 5, 3) := by decide +kernel
theorem dL_law_808 : decode cL_law 808 = .ok (.iconst 0, 1) := by decide +kernel
theorem dL_law_809 : decode cL_law 809 = .ok (.ireturn, 1) := by decide +kernel
theorem dL_law_810 : decode cL_law 810 = .ok (.iload 5, 2) := by decide +kernel
theorem dL_law_812 : decode cL_law 812 = .ok (.ifCond .ne 14, 3) := by decide +kernel
theorem dL_law_815 : decode cL_law 815 = .ok (.aload_n 3, 1) := by decide +kernel
theorem dL_law_816 : decode cL_law 816 = .ok (.iconst 0, 1) := by decide +kernel
theorem dL_law_817 : decode cL_law 817 = .ok (.laload, 1) := by decide +kernel
theorem dL_law_818 : decode cL_law 818 = .ok (.lload 6, 2) := by decide +kernel
theorem dL_law_820 : decode cL_law 820 = .ok (.lcmp, 1) := by decide +kernel
theorem dL_law_821 : decode cL_law 821 = .ok (.ifCond .eq 5, 3) := by decide +kernel
theorem dL_law_824 : decode cL_law 824 = .ok (.iconst 0, 1) := by decide +kernel
theorem dL_law_825 : decode cL_law 825 = .ok (.ireturn, 1) := by decide +kernel
theorem dL_law_826 : decode cL_law 826 = .ok (.goto 251, 3) := by decide +kernel
theorem dL_law_829 : decode cL_law 829 = .ok (.aload_n 1, 1) := by decide +kernel
theorem dL_law_830 : decode cL_law 830 = .ok (.aload_n 0, 1) := by decide +kernel
theorem dL_law_831 : decode cL_law 831 = .ok (.iload 4, 2) := by decide +kernel
theorem dL_law_833 : decode cL_law 833 = .ok (.iconst 1, 1) := by decide +kernel
theorem dL_law_834 : decode cL_law 834 = .ok (.iadd, 1) := by decide +kernel
theorem dL_law_835 : decode cL_law 835 = .ok (.iaload, 1) := by decide +kernel
theorem dL_law_836 : decode cL_law 836 = .ok (.aload_n 3, 1) := by decide +kernel
theorem dL_law_837 : decode cL_law 837 = .ok (.invokestatic 120, 3) := by decide +kernel
theorem dL_law_840 : decode cL_law 840 = .ok (.istore 5, 2) := by decide +kernel
theorem dL_law_842 : decode cL_law 842 = .ok (.aload_n 2, 1) := by decide +kernel
theorem dL_law_843 : decode cL_law 843 = .ok (.aload_n 0, 1) := by decide +kernel
theorem dL_law_844 : decode cL_law 844 = .ok (.iload 4, 2) := by decide +kernel
theorem dL_law_846 : decode cL_law 846 = .ok (.iconst 1, 1) := by decide +kernel
theorem dL_law_847 : decode cL_law 847 = .ok (.iadd, 1) := by decide +kernel
theorem dL_law_848 : decode cL_law 848 = .ok (.iaload, 1) := by decide +kernel
theorem dL_law_849 : decode cL_law 849 = .ok (.invokevirtual 122, 3) := by decide +kernel
theorem dL_law_852 : decode cL_law 852 = .ok (.istore 6, 2) := by decide +kernel
theorem dL_law_854 : decode cL_law 854 = .ok (.aload_n 2, 1) := by decide +kernel
theorem dL_law_855 : decode cL_law 855 = .ok (.invokevirtual 73, 3) := by decide +kernel
theorem dL_law_858 : decode cL_law 858 = .ok (.iload 5, 2) := by decide +kernel
theorem dL_law_860 : decode cL_law 860 = .ok (.if_icmp .eq 5, 3) := by decide +kernel
theorem dL_law_863 : decode cL_law 863 = .ok (.iconst 0, 1) := by decide +kernel
theorem dL_law_864 : decode cL_law 864 = .ok (.ireturn, 1) := by decide +kernel
theorem dL_law_865 : decode cL_law 865 = .ok (.iload 5, 2) := by decide +kernel
theorem dL_law_867 : decode cL_law 867 = .ok (.ifCond .ne 15, 3) := by decide +kernel
theorem dL_law_870 : decode cL_law 870 = .ok (.aload_n 3, 1) := by decide +kernel
theorem dL_law_871 : decode cL_law 871 = .ok (.iconst 0, 1) := by decide +kernel
theorem dL_law_872 : decode cL_law 872 = .ok (.laload, 1) := by decide +kernel
theorem dL_law_873 : decode cL_law 873 = .ok (.iload 6, 2) := by decide +kernel
theorem dL_law_875 : decode cL_law 875 = .ok (.i2l, 1) := by decide +kernel
theorem dL_law_876 : decode cL_law 876 = .ok (.lcmp, 1) := by decide +kernel
theorem dL_law_877 : decode cL_law 877 = .ok (.ifCond .eq 5, 3) := by decide +kernel
theorem dL_law_880 : decode cL_law 880 = .ok (.iconst 0, 1) := by decide +kernel
theorem dL_law_881 : decode cL_law 881 = .ok (.ireturn, 1) := by decide +kernel
theorem dL_law_882 : decode cL_law 882 = .ok (.goto 195, 3) := by decide +kernel
theorem dL_law_885 : decode cL_law 885 = .ok (.aload_n 1, 1) := by decide +kernel
theorem dL_law_886 : decode cL_law 886 = .ok (.aload_n 0, 1) := by decide +kernel
theorem dL_law_887 : decode cL_law 887 = .ok (.iload 4, 2) := by decide +kernel
theorem dL_law_889 : decode cL_law 889 = .ok (.iconst 1, 1) := by decide +kernel
theorem dL_law_890 : decode cL_law 890 = .ok (.iadd, 1) := by decide +kernel
theorem dL_law_891 : decode cL_law 891 = .ok (.iaload, 1) := by decide +kernel
theorem dL_law_892 : decode cL_law 892 = .ok (.aload_n 3, 1) := by decide +kernel
theorem dL_law_893 : decode cL_law 893 = .ok (.invokestatic 123, 3) := by decide +kernel
theorem dL_law_896 : decode cL_law 896 = .ok (.istore 5, 2) := by decide +kernel
theorem dL_law_898 : decode cL_law 898 = .ok (.aload_n 2, 1) := by decide +kernel
theorem dL_law_899 : decode cL_law 899 = .ok (.aload_n 0, 1) := by decide +kernel
theorem dL_law_900 : decode cL_law 900 = .ok (.iload 4, 2) := by decide +kernel
theorem dL_law_902 : decode cL_law 902 = .ok (.iconst 1, 1) := by decide +kernel
theorem dL_law_903 : decode cL_law 903 = .ok (.iadd, 1) := by decide +kernel
theorem dL_law_904 : decode cL_law 904 = .ok (.iaload, 1) := by decide +kernel
theorem dL_law_905 : decode cL_law 905 = .ok (.invokevirtual 125, 3) := by decide +kernel
theorem dL_law_908 : decode cL_law 908 = .ok (.istore 6, 2) := by decide +kernel
theorem dL_law_910 : decode cL_law 910 = .ok (.aload_n 2, 1) := by decide +kernel
theorem dL_law_911 : decode cL_law 911 = .ok (.invokevirtual 73, 3) := by decide +kernel
theorem dL_law_914 : decode cL_law 914 = .ok (.iload 5, 2) := by decide +kernel
theorem dL_law_916 : decode cL_law 916 = .ok (.if_icmp .eq 5, 3) := by decide +kernel
theorem dL_law_919 : decode cL_law 919 = .ok (.iconst 0, 1) := by decide +kernel
theorem dL_law_920 : decode cL_law 920 = .ok (.ireturn, 1) := by decide +kernel
theorem dL_law_921 : decode cL_law 921 = .ok (.iload 5, 2) := by decide +kernel
theorem dL_law_923 : decode cL_law 923 = .ok (.ifCond .ne 15, 3) := by decide +kernel
theorem dL_law_926 : decode cL_law 926 = .ok (.aload_n 3, 1) := by decide +kernel
theorem dL_law_927 : decode cL_law 927 = .ok (.iconst 0, 1) := by decide +kernel
theorem dL_law_928 : decode cL_law 928 = .ok (.laload, 1) := by decide +kernel
theorem dL_law_929 : decode cL_law 929 = .ok (.iload 6, 2) := by decide +kernel
theorem dL_law_931 : decode cL_law 931 = .ok (.i2l, 1) := by decide +kernel
theorem dL_law_932 : decode cL_law 932 = .ok (.lcmp, 1) := by decide +kernel
theorem dL_law_933 : decode cL_law 933 = .ok (.ifCond .eq 5, 3) := by decide +kernel
theorem dL_law_936 : decode cL_law 936 = .ok (.iconst 0, 1) := by decide +kernel
theorem dL_law_937 : decode cL_law 937 = .ok (.ireturn, 1) := by decide +kernel
theorem dL_law_938 : decode cL_law 938 = .ok (.goto 139, 3) := by decide +kernel
theorem dL_law_941 : decode cL_law 941 = .ok (.aload_n 1, 1) := by decide +kernel
theorem dL_law_942 : decode cL_law 942 = .ok (.aload_n 0, 1) := by decide +kernel
theorem dL_law_943 : decode cL_law 943 = .ok (.iload 4, 2) := by decide +kernel
theorem dL_law_945 : decode cL_law 945 = .ok (.iconst 1, 1) := by decide +kernel
theorem dL_law_946 : decode cL_law 946 = .ok (.iadd, 1) := by decide +kernel
theorem dL_law_947 : decode cL_law 947 = .ok (.iaload, 1) := by decide +kernel
theorem dL_law_948 : decode cL_law 948 = .ok (.aload_n 3, 1) := by decide +kernel
theorem dL_law_949 : decode cL_law 949 = .ok (.invokestatic 126, 3) := by decide +kernel
theorem dL_law_952 : decode cL_law 952 = .ok (.istore 5, 2) := by decide +kernel
theorem dL_law_954 : decode cL_law 954 = .ok (.aload_n 2, 1) := by decide +kernel
theorem dL_law_955 : decode cL_law 955 = .ok (.aload_n 0, 1) := by decide +kernel
theorem dL_law_956 : decode cL_law 956 = .ok (.iload 4, 2) := by decide +kernel
theorem dL_law_958 : decode cL_law 958 = .ok (.iconst 1, 1) := by decide +kernel
theorem dL_law_959 : decode cL_law 959 = .ok (.iadd, 1) := by decide +kernel
theorem dL_law_960 : decode cL_law 960 = .ok (.iaload, 1) := by decide +kernel
theorem dL_law_961 : decode cL_law 961 = .ok (.invokevirtual 128, 3) := by decide +kernel
theorem dL_law_964 : decode cL_law 964 = .ok (.lstore 6, 2) := by decide +kernel
theorem dL_law_966 : decode cL_law 966 = .ok (.aload_n 2, 1) := by decide +kernel
theorem dL_law_967 : decode cL_law 967 = .ok (.invokevirtual 73, 3) := by decide +kernel
theorem dL_law_970 : decode cL_law 970 = .ok (.iload 5, 2) := by decide +kernel
theorem dL_law_972 : decode cL_law 972 = .ok (.if_icmp .eq 5, 3) := by decide +kernel
theorem dL_law_975 : decode cL_law 975 = .ok (.iconst 0, 1) := by decide +kernel
theorem dL_law_976 : decode cL_law 976 = .ok (.ireturn, 1) := by decide +kernel
theorem dL_law_977 : decode cL_law 977 = .ok (.iload 5, 2) := by decide +kernel
theorem dL_law_979 : decode cL_law 979 = .ok (.ifCond .ne 14, 3) := by decide +kernel
theorem dL_law_982 : decode cL_law 982 = .ok (.aload_n 3, 1) := by decide +kernel
theorem dL_law_983 : decode cL_law 983 = .ok (.iconst 0, 1) := by decide +kernel
theorem dL_law_984 : decode cL_law 984 = .ok (.laload, 1) := by decide +kernel
theorem dL_law_985 : decode cL_law 985 = .ok (.lload 6, 2) := by decide +kernel
theorem dL_law_987 : decode cL_law 987 = .ok (.lcmp, 1) := by decide +kernel
theorem dL_law_988 : decode cL_law 988 = .ok (.ifCond .eq 5, 3) := by decide +kernel
theorem dL_law_991 : decode cL_law 991 = .ok (.iconst 0, 1) := by decide +kernel
theorem dL_law_992 : decode cL_law 992 = .ok (.ireturn, 1) := by decide +kernel
theorem dL_law_993 : decode cL_law 993 = .ok (.goto 84, 3) := by decide +kernel
theorem dL_law_996 : decode cL_law 996 = .ok (.aload_n 1, 1) := by decide +kernel
theorem dL_law_997 : decode cL_law 997 = .ok (.invokevirtual 129, 3) := by decide +kernel
theorem dL_law_1000 : decode cL_law 1000 = .ok (.aload_n 2, 1) := by decide +kernel
theorem dL_law_1001 : decode cL_law 1001 = .ok (.invokevirtual 132, 3) := by decide +kernel
theorem dL_law_1004 : decode cL_law 1004 = .ok (.if_icmp .eq 73, 3) := by decide +kernel
theorem dL_law_1007 : decode cL_law 1007 = .ok (.iconst 0, 1) := by decide +kernel
theorem dL_law_1008 : decode cL_law 1008 = .ok (.ireturn, 1) := by decide +kernel
theorem dL_law_1009 : decode cL_law 1009 = .ok (.aload_n 1, 1) := by decide +kernel
theorem dL_law_1010 : decode cL_law 1010 = .ok (.aload_n 0, 1) := by decide +kernel
theorem dL_law_1011 : decode cL_law 1011 = .ok (.iload 4, 2) := by decide +kernel
theorem dL_law_1013 : decode cL_law 1013 = .ok (.iconst 1, 1) := by decide +kernel
theorem dL_law_1014 : decode cL_law 1014 = .ok (.iadd, 1) := by decide +kernel
theorem dL_law_1015 : decode cL_law 1015 = .ok (.iaload, 1) := by decide +kernel
theorem dL_law_1016 : decode cL_law 1016 = .ok (.aload_n 3, 1) := by decide +kernel
theorem dL_law_1017 : decode cL_law 1017 = .ok (.invokestatic 133, 3) := by decide +kernel
theorem dL_law_1020 : decode cL_law 1020 = .ok (.istore 5, 2) := by decide +kernel
theorem dL_law_1022 : decode cL_law 1022 = .ok (.aload_n 2, 1) := by decide +kernel
theorem dL_law_1023 : decode cL_law 1023 = .ok (.aload_n 0, 1) := by decide +kernel
theorem dL_law_1024 : decode cL_law 1024 = .ok (.iload 4, 2) := by decide +kernel
theorem dL_law_1026 : decode cL_law 1026 = .ok (.iconst 1, 1) := by decide +kernel
theorem dL_law_1027 : decode cL_law 1027 = .ok (.iadd, 1) := by decide +kernel
theorem dL_law_1028 : decode cL_law 1028 = .ok (.iaload, 1) := by decide +kernel
theorem dL_law_1029 : decode cL_law 1029 = .ok (.invokevirtual 135, 3) := by decide +kernel
theorem dL_law_1032 : decode cL_law 1032 = .ok (.lstore 6, 2) := by decide +kernel
theorem dL_law_1034 : decode cL_law 1034 = .ok (.aload_n 2, 1) := by decide +kernel
theorem dL_law_1035 : decode cL_law 1035 = .ok (.invokevirtual 73, 3) := by decide +kernel
theorem dL_law_1038 : decode cL_law 1038 = .ok (.iload 5, 2) := by decide +kernel
theorem dL_law_1040 : decode cL_law 1040 = .ok (.if_icmp .eq 5, 3) := by decide +kernel
theorem dL_law_1043 : decode cL_law 1043 = .ok (.iconst 0, 1) := by decide +kernel
theorem dL_law_1044 : decode cL_law 1044 = .ok (.ireturn, 1) := by decide +kernel
theorem dL_law_1045 : decode cL_law 1045 = .ok (.iload 5, 2) := by decide +kernel
theorem dL_law_1047 : decode cL_law 1047 = .ok (.ifCond .ne 14, 3) := by decide +kernel
theorem dL_law_1050 : decode cL_law 1050 = .ok (.aload_n 3, 1) := by decide +kernel
theorem dL_law_1051 : decode cL_law 1051 = .ok (.iconst 0, 1) := by decide +kernel
theorem dL_law_1052 : decode cL_law 1052 = .ok (.laload, 1) := by decide +kernel
theorem dL_law_1053 : decode cL_law 1053 = .ok (.lload 6, 2) := by decide +kernel
theorem dL_law_1055 : decode cL_law 1055 = .ok (.lcmp, 1) := by decide +kernel
theorem dL_law_1056 : decode cL_law 1056 = .ok (.ifCond .eq 5, 3) := by decide +kernel
theorem dL_law_1059 : decode cL_law 1059 = .ok (.iconst 0, 1) := by decide +kernel
theorem dL_law_1060 : decode cL_law 1060 = .ok (.ireturn, 1) := by decide +kernel
theorem dL_law_1061 : decode cL_law 1061 = .ok (.goto 16, 3) := by decide +kernel
theorem dL_law_1064 : decode cL_law 1064 = .ok (.aload_n 1, 1) := by decide +kernel
theorem dL_law_1065 : decode cL_law 1065 = .ok (.invokevirtual 136, 3) := by decide +kernel
theorem dL_law_1068 : decode cL_law 1068 = .ok (.aload_n 2, 1) := by decide +kernel
theorem dL_law_1069 : decode cL_law 1069 = .ok (.invokevirtual 139, 3) := by decide +kernel
theorem dL_law_1072 : decode cL_law 1072 = .ok (.if_icmp .eq 5, 3) := by decide +kernel
theorem dL_law_1075 : decode cL_law 1075 = .ok (.iconst 0, 1) := by decide +kernel
theorem dL_law_1076 : decode cL_law 1076 = .ok (.ireturn, 1) := by decide +kernel
theorem dL_law_1077 : decode cL_law 1077 = .ok (.iinc 4 5, 3) := by decide +kernel
theorem dL_law_1080 : decode cL_law 1080 = .ok (.goto (-1057), 3) := by decide +kernel
theorem dL_law_1083 : decode cL_law 1083 = .ok (.iconst 1, 1) := by decide +kernel
theorem dL_law_1084 : decode cL_law 1084 = .ok (.ireturn, 1) := by decide +kernel
abbrev vwCl : List vw_C := [(RX0, TX0, 6), (RX1, TX1, 10), (RX2, TX2, 4), (RX3, TX3, 10), (RX4, TX4, 4), (RX5, TX5, 18)]
