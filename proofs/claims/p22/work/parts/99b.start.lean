/-! THE LAW'S START: the classes, arrays, names and texts as the tables have them; rows of the script, the switch and the end -/
section ZST
theorem zs_str {s : State} {args : Array Value} {own tx : String} {k : Nat} (h : (Cond.stringRef own k tx).before args s = true) : ∃ a : Nat, vk_R own k tx a s := by
  have h0 : (Cond.stringRef own k tx).before #[] s = true := h
  cases hc : s.vm.findClass own with
  | none => simp [Cond.before, Cond.holds, Cond.value, hc] at h0
  | some cur =>
    obtain ⟨k', cf, i, a, -, -, -, -, -, hev⟩ := Cond.stringRef_spec (args := #[]) (first := s) (o := none) (idx := []) hc h0
    exact ⟨a, h0, hev⟩
theorem zs_arr {s : State} {args : Array Value} {ty : FieldType} (h : (Cond.arrayClass ty).before args s = true) : ∃ c : ClassId, ArrOfT s c ty ∧ s.vm.findClass ("[" ++ ty.toString) = some c := by
  obtain ⟨c, k, comp, h1, h2, h3⟩ := Cond.arrayClass_spec h
  exact ⟨c, fun n z => ⟨(fun k h => by cases h), k, h2, comp, h3⟩, h1⟩
theorem zs_aar {s : State} {args : Array Value} {ty : FieldType} (h : (Cond.arrayOver (.array ty)).before args s = true) : ∃ c : ClassId, ArrOfT s c (.array ty) ∧ s.vm.findClass ("[" ++ (FieldType.array ty).toString) = some c := by
  obtain ⟨comp, c, k, h1, h2, h3, h4⟩ := Cond.arrayOver_specA h
  exact ⟨c, fun n z => ⟨(fun k h => by cases h), k, h2, comp, h3⟩, h4⟩
def lawX (p : Program) (l : Launch) (e : Env) (s : State) (m : MethodId) (b : Nat) (below : List Frame) (meth : Method) (c : Code) : zX := (p, l, e, room_1, s, m, #[Value.ref b], below, meth, c, lw_Z below #[Value.ref b] s, fun q => s.heap.size ≤ q)
theorem zs_cls {s : State} {args : Array Value} (hts : ∀ w ∈ lw_tbl, w.before args s = true) : ∃ D : va_G, ∀ (c : Nat) (q : vw_C), vwCl[c]? = some q → u_Kn s q.1 q.2.1 q.2.2 (D.1 c) (D.2 c) := by
  obtain ⟨c0, i0, k0⟩ := u_known hts inX0 (hts _ (show Cond.instantiable RX0 6 ∈ lw_tbl from by decide +kernel))
  obtain ⟨c1, i1, k1⟩ := u_known hts inX1 (hts _ (show Cond.instantiable RX1 10 ∈ lw_tbl from by decide +kernel))
  obtain ⟨c2, i2, k2⟩ := u_known hts inX2 (hts _ (show Cond.instantiable RX2 4 ∈ lw_tbl from by decide +kernel))
  obtain ⟨c3, i3, k3⟩ := u_known hts inX3 (hts _ (show Cond.instantiable RX3 10 ∈ lw_tbl from by decide +kernel))
  obtain ⟨c4, i4, k4⟩ := u_known hts inX4 (hts _ (show Cond.instantiable RX4 4 ∈ lw_tbl from by decide +kernel))
  refine ⟨(fun c => match c with | 0 => c0 | 1 => c1 | 2 => c2 | 3 => c3 | 4 => c4 | _ => c0, fun c => match c with | 0 => i0 | 1 => i1 | 2 => i2 | 3 => i3 | 4 => i4 | _ => i0), fun c q hq => ?_⟩
  match c, hq with
  | 0, hq => cases hq; exact k0
  | 1, hq => cases hq; exact k1
  | 2, hq => cases hq; exact k2
  | 3, hq => cases hq; exact k3
  | 4, hq => cases hq; exact k4
  | n + 5, hq => cases hq
theorem zs_tys {s : State} {args : Array Value} (hts : ∀ w ∈ lw_tbl, w.before args s = true) : ∃ g : Nat → ClassId, ∀ (k : Nat) (q : ClassId × FieldType), (zT g)[k]? = some q → ArrOfT s q.1 q.2 ∧ va_RA s q.1 q.2 := by
  obtain ⟨c0, a0, f0⟩ := zs_arr (hts _ (show Cond.arrayClass .int ∈ lw_tbl from by decide +kernel))
  obtain ⟨c1, a1, f1⟩ := zs_arr (hts _ (show Cond.arrayClass .boolean ∈ lw_tbl from by decide +kernel))
  obtain ⟨c2, a2, f2⟩ := zs_arr (hts _ (show Cond.arrayClass .long ∈ lw_tbl from by decide +kernel))
  obtain ⟨c3, a3, f3⟩ := zs_aar (hts _ (show Cond.arrayOver (.array .int) ∈ lw_tbl from by decide +kernel))
  obtain ⟨c4, a4, f4⟩ := zs_aar (hts _ (show Cond.arrayOver (.array .long) ∈ lw_tbl from by decide +kernel))
  refine ⟨fun c => match c with | 0 => c0 | 1 => c1 | 2 => c2 | 3 => c3 | _ => c4, fun k q hq => ?_⟩
  match k, hq with
  | 0, hq => cases hq; exact ⟨a0, f0⟩
  | 1, hq => cases hq; exact ⟨a1, f1⟩
  | 2, hq => cases hq; exact ⟨a2, f2⟩
  | 3, hq => cases hq; exact ⟨a3, f3⟩
  | 4, hq => cases hq; exact ⟨a4, f4⟩
  | n + 5, hq => cases hq
theorem zs_ex {s : State} {args : Array Value} (hts : ∀ w ∈ lw_tbl, w.before args s = true) : ∃ ea : Nat → Nat, zEx ea s := by
  obtain ⟨a45, h45⟩ := zs_str (hts _ (show Cond.stringRef RX4 45 "there are 6 stations" ∈ lw_tbl from by decide +kernel))
  obtain ⟨a64, h64⟩ := zs_str (hts _ (show Cond.stringRef RX4 64 "a height is from -9999 to 9999" ∈ lw_tbl from by decide +kernel))
  obtain ⟨a71, h71⟩ := zs_str (hts _ (show Cond.stringRef RX4 71 "an observation is between two stations" ∈ lw_tbl from by decide +kernel))
  obtain ⟨a73, h73⟩ := zs_str (hts _ (show Cond.stringRef RX4 73 "a difference is from -9999 to 9999" ∈ lw_tbl from by decide +kernel))
  obtain ⟨a75, h75⟩ := zs_str (hts _ (show Cond.stringRef RX4 75 "a weight is from 1 to 5" ∈ lw_tbl from by decide +kernel))
  obtain ⟨a80, h80⟩ := zs_str (hts _ (show Cond.stringRef RX4 80 "there are 14 observations" ∈ lw_tbl from by decide +kernel))
  obtain ⟨a94, h94⟩ := zs_str (hts _ (show Cond.stringRef RX4 94 "a bound is from 0 to 1000000000" ∈ lw_tbl from by decide +kernel))
  obtain ⟨a106, h106⟩ := zs_str (hts _ (show Cond.stringRef RX4 106 "the path has 10 stations" ∈ lw_tbl from by decide +kernel))
  obtain ⟨a119, h119⟩ := zs_str (hts _ (show Cond.stringRef RX4 119 "no observation in the net joins the stations" ∈ lw_tbl from by decide +kernel))
  obtain ⟨a165, h165⟩ := zs_str (hts _ (show Cond.stringRef RX4 165 "there is no such station" ∈ lw_tbl from by decide +kernel))
  obtain ⟨a171, h171⟩ := zs_str (hts _ (show Cond.stringRef RX4 171 "there is no such observation" ∈ lw_tbl from by decide +kernel))
  obtain ⟨a177, h177⟩ := zs_str (hts _ (show Cond.stringRef RX4 177 "the observation is withdrawn" ∈ lw_tbl from by decide +kernel))
  refine ⟨fun k => if k = 45 then a45 else if k = 64 then a64 else if k = 71 then a71 else if k = 73 then a73 else if k = 75 then a75 else if k = 80 then a80 else if k = 94 then a94 else if k = 106 then a106 else if k = 119 then a119 else if k = 165 then a165 else if k = 171 then a171 else if k = 177 then a177 else 0, va_Nw.of rfl (hts _ (show Cond.castable nISE nISE ∈ lw_tbl from by decide +kernel)), va_Nw.of rfl (hts _ (show Cond.castable nIAE nIAE ∈ lw_tbl from by decide +kernel)), va_Nw.of rfl (hts _ (show Cond.castable nIOB nIOB ∈ lw_tbl from by decide +kernel)), va_Nw.of rfl (hts _ (show Cond.declares (Bundle.initS "java/lang/RuntimeException") ∈ lw_tbl from by decide +kernel)), va_Nw.of rfl (hts _ (show Cond.declares (Bundle.initS "java/lang/Exception") ∈ lw_tbl from by decide +kernel)), va_Nw.of rfl (hts _ (show Cond.declares (Bundle.initS Bundle.tN) ∈ lw_tbl from by decide +kernel)), h45, h64, h71, h73, h75, h80, h94, h106, h119, h165, h171, h177⟩
theorem law_start {p : Program} {l : Launch} {e : Env} {s : State} {m : MethodId} {below : List Frame} {meth : Method} {c : Code} (hflags : l.flags = flags0) {b L : Nat} {xs : Nat → Int32} (C0 : lw_At p s m meth c b L xs) : ∃ (D : va_G) (g : Nat → ClassId) (ea : Nat → Nat), zC (lawX p l e s m b below meth c) D 18 code RL wsL_law (zT g) ∧ zCL (lawX p l e s m b below meth c) ea ∧ zAO s := by
  obtain ⟨hx, hb, hr, hml, hown, hts, hX, hbl, hlk, hgv⟩ := C0
  have hgs := flat_of_before _ hgv
  obtain ⟨D, hD⟩ := zs_cls hts
  obtain ⟨g, hg⟩ := zs_tys hts
  obtain ⟨ea, hea⟩ := zs_ex hts
  have hA : ∀ a : Nat, a < s.heap.size → ¬ s.heap.size ≤ a := fun a h1 h2 => Nat.not_lt.mpr h2 h1
  have hini := hts _ (show Cond.initialized Bundle.tN ∈ lw_tbl from by decide +kernel)
  refine ⟨D, g, ea, ⟨hx, hb, hml, hown, fun w hw => hts w (wsL_law_in w hw), ⟨hD, hg⟩, fun q h => h, hlk, ?_⟩, ⟨hea, ?_, ?_, ?_⟩, ?_⟩
  · exact ⟨va_Nw.of rfl (hts _ (show Cond.methodLinkNest RX0 47 yX4_roundedDown "TheodoliteRow" ∈ lw_tbl from by decide +kernel)), va_Nw.of rfl (hts _ (show Cond.methodLinkNest RX3 46 yX4_roundedDown "TheodoliteRow" ∈ lw_tbl from by decide +kernel))⟩
  · exact ⟨va_Nc.of (hgs _ (by decide +kernel)), va_Nc.of (hgs _ (by decide +kernel)), va_Nc.of (hgs _ (by decide +kernel))⟩
  · exact ⟨vx_Zqof (hts _ (show Cond.laysStatic Bundle.tN "UNASSIGNED_STACK" Bundle.steD ∈ lw_tbl from by decide +kernel)) hini (hgs _ (by decide +kernel)) hA, vx_Zqof (hts _ (show Cond.laysStatic Bundle.tN "SUPPRESSED_SENTINEL" Bundle.listD ∈ lw_tbl from by decide +kernel)) hini (hgs _ (by decide +kernel)) hA⟩
  · show (!l.flags.contains noTraceFlag) = false
    rw [hflags]
    decide +kernel
  · exact ⟨hts _ (show Cond.arrayOver (.array .int) ∈ lw_tbl from by decide +kernel), hts _ (show Cond.arrayOver (.array .long) ∈ lw_tbl from by decide +kernel)⟩
variable {X : zX} {D : va_G} {nL : Nat} {cc : ByteArray} {own : String} {Ts : List Cond} {tys : List (ClassId × FieldType)} {cells slots : Nat} {ws : va_W} {pc : Nat} {lv : List (Nat × Value)} {st : List Value} {b L : Nat} {xs : Nat → Int32}
theorem law_end {p : Program} {l : Launch} {e : Env} {s : State} {m : MethodId} {below : List Frame} {meth : Method} {c : Code} {b : Nat} (hx : p.tables.exec = Jvm.exec) (hb : c.code = code) (hr : meth.sig.returnType = ret) (hlk : meth.locks = false) (hdg : decode code pc = .ok (.ireturn, 1)) (hc : cells ≤ 933497) (hs : slots ≤ 6301132) : zV (lawX p l e s m b below meth c) D 18 cells slots ws pc lv [.int 1] := by
  intro H locs ls hP hD hS hv
  exact va_forget hS.2.2 (W.widen hc hs (lw_ret hx hb hr hlk hdg))
end ZST
