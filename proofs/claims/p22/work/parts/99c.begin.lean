/-! THE LAW FROM ITS ENTRY -/
section ZLW
variable {X : zX} {D : va_G} {nL : Nat} {cells slots : Nat} {wa wb wc : va_W} {pc : Nat} {lv : List (Nat × Value)} {st : List Value}
theorem z_asl (kk : zV X D nL cells slots ((wa ++ wb) ++ wc) pc lv st) : zV X D nL cells slots (wa ++ (wb ++ wc)) pc lv st := by rw [List.append_assoc] at kk; exact kk
theorem z_asr (kk : zV X D nL cells slots (wa ++ (wb ++ wc)) pc lv st) : zV X D nL cells slots ((wa ++ wb) ++ wc) pc lv st := by rw [List.append_assoc]; exact kk
def zA0 : zNt := (0, 0, fun _ => 0, fun _ => 0, fun _ => 0, fun _ => 0, fun _ => false, fun _ => false, fun _ => 0)
def zP0 : zPa := (0, 0, 0, 0)
theorem zok_0 : zok zA0 := ⟨Nat.zero_le _, Nat.zero_le _, fun o h => absurd h (Nat.not_lt_zero o), fun t _ => ⟨by show (-9999 : Int) ≤ 0; decide, by show (0 : Int) ≤ 9999; decide⟩, fun _ _ => ⟨rfl, rfl⟩, fun _ _ => rfl⟩
theorem pok_0 : pok zA0 zP0 := ⟨Nat.zero_le _, fun h => absurd h (Nat.lt_irrefl 0), fun _ => rfl⟩
theorem ST_0 : ST zA0 zP0 zs0 := ⟨zok_0, pok_0, ⟨⟨rfl, rfl, fun t _ => ⟨rfl, rfl⟩, fun o h => absurd h (Nat.not_lt_zero o), fun o _ => rfl⟩, fun t h => absurd h (Nat.not_lt_zero t)⟩, ⟨rfl, fun h => absurd h (Nat.lt_irrefl 0), rfl⟩⟩
theorem LI_0 : LI zA0 zP0 (fun _ => 0) (fun _ => 0) (fun _ => 0) := ⟨zok_0, pok_0, Nat.zero_le _, rfl, rfl, rfl, rfl, fun _ _ => ⟨rfl, rfl⟩, fun o h => absurd h (Nat.not_lt_zero o), fun _ _ => rfl⟩
theorem law_ok : W_L_law zA0 zP0 (fun _ => 0) (fun _ => 0) (fun _ => 0) :=
  isRefused_ok LI_0 (by decide) ⟨fun v A' P' m' t' e' => v = 1 ∧ LI A' P' m' t' e', fun v A1 P1 m1 t1 e1 hq => nm_e (nm_e ⟨fun v _ _ _ _ _ => v = 1, 61, by omega, fun v _ _ _ _ _ hv => hv, by
    rw [hq.1]
    exact law67 (K := fun v _ _ _ _ _ => v = 1) (fun _ _ _ _ _ => rfl) 60 0 rfl A1 P1 m1 t1 e1 hq.2⟩), br_f (by decide) (isRefused_ok LI_0 (by decide) (br_f (by decide) (areSound_ok LI_0 (by decide) (br_f (by decide) ⟨rfl, LI_0⟩))))⟩
set_option maxHeartbeats 4000000 in
set_option maxRecDepth 100000 in
theorem law_begin {l : Launch} {g : Nat → ClassId} {ea : Nat → Nat} {b L : Nat} {xs : Nat → Int32} (hst : l.stackTraces = false) (C : zC X D 18 code RL wsL_law (zT g)) (hR : zR X room_1) (hL : zL X l) (CL : zCL X ea) (SC : zSc X b L xs) (hLL : L ≤ 260) (CK : zAO (match X with | (_, _, _, _, s, _) => s))
    (hE : ∀ (cells slots : Nat) (ws : va_W) (lv : List (Nat × Value)), cells ≤ 933497 → slots ≤ 6301132 → zV X D 18 cells slots ws 1047 lv [.int 1]) : zV X D 18 0 0 [] 0 [(0, .ref b)] [] := by
  refine z_new C hR (ci := 4) inlX4 tyX4 tyX4_ok (List.mem_of_getElem? (i := 0) rfl) (List.mem_of_getElem? (i := 1) rfl) (List.mem_of_getElem? (i := 2) rfl) rfl [.null, .null, .null, .null] (fun j hj => by rcases (show j = 0 ∨ j = 1 ∨ j = 2 ∨ j = 3 by omega) with rfl | rfl | rfl | rfl <;> rfl) (Nat.le_of_ble_eq_true rfl) (Nat.le_of_ble_eq_true rfl) dL_law_0 (fun q1 => ?_)
  refine z_dup C dL_law_3 rfl ?_
  refine z_callK C CK hR hL (As := []) (wr := []) (wc := [(q1, .inr (4, [.null, .null, .null, .null]))]) (c_X4_init l D g q1) gL_law_X4_init rfl (List.mem_of_getElem? (i := 2) rfl) (List.mem_of_getElem? (i := 5) rfl) (List.mem_of_getElem? (i := 6) rfl) rfl ⟨by decide +kernel, by decide +kernel, (show (parseMethodDescriptor yX4_init.desc).map (fun d => d.parameters.length) = some 0 from by decide +kernel)⟩ ⟨Nat.le_of_ble_eq_true rfl, Nat.le_of_ble_eq_true rfl⟩ ⟨Nat.le_of_ble_eq_true rfl, Nat.le_of_ble_eq_true rfl⟩ rfl (Nat.le_of_ble_eq_true rfl) dL_law_4 (fun u hu => ?_)
  obtain ⟨a, rfl, rfl⟩ := hu
  refine z_astore_n (lv' := [(1, .ref (a 0)), (0, .ref b)]) C 1 dL_law_7 rfl (by decide) rfl ?_
  refine z_iconst C 4 dL_law_8 (by decide) ?_
  refine z_newa C hR (atype := .int) rfl z_raI 0 rfl (List.mem_of_getElem? (i := 3) rfl) (n := 4) (N' := 4) (a0 := (4, .inl (fun _ => 0))) (fun _ => rfl) (by decide) rfl (Nat.le_of_ble_eq_true rfl) (Nat.le_of_ble_eq_true rfl) (Nat.le_of_ble_eq_true rfl) dL_law_9 (fun mo => ?_)
  refine z_astore_n (lv' := [(2, .ref mo), (1, .ref (a 0)), (0, .ref b)]) C 2 dL_law_11 rfl (by decide) rfl ?_
  refine z_bipush C 12 dL_law_12 (by decide) ?_
  refine z_newa C hR (atype := .int) rfl z_raI 0 rfl (List.mem_of_getElem? (i := 3) rfl) (n := 12) (N' := 12) (a0 := (12, .inl (fun _ => 0))) (fun _ => rfl) (by decide) rfl (Nat.le_of_ble_eq_true rfl) (Nat.le_of_ble_eq_true rfl) (Nat.le_of_ble_eq_true rfl) dL_law_14 (fun to => ?_)
  refine z_astore_n (lv' := [(3, .ref to), (2, .ref mo), (1, .ref (a 0)), (0, .ref b)]) C 3 dL_law_16 rfl (by decide) rfl ?_
  refine z_bipush C 64 dL_law_17 (by decide) ?_
  refine z_newa C hR (atype := .int) rfl z_raI 0 rfl (List.mem_of_getElem? (i := 3) rfl) (n := 64) (N' := 64) (a0 := (64, .inl (fun _ => 0))) (fun _ => rfl) (by decide) rfl (Nat.le_of_ble_eq_true rfl) (Nat.le_of_ble_eq_true rfl) (Nat.le_of_ble_eq_true rfl) dL_law_19 (fun eo => ?_)
  refine z_astore (lv' := [(4, .ref eo), (3, .ref to), (2, .ref mo), (1, .ref (a 0)), (0, .ref b)]) C dL_law_21 (by decide) rfl ?_
  refine z_sub (lv' := [(0, .ref b), (1, .ref (a 0)), (2, .ref mo), (3, .ref to), (4, .ref eo)]) [4, 3, 2, 1, 0] rfl ?_
  refine z_asr (wa := WX a g zs0 ++ [(mo, .inl (g 0, 4, .inl (fun _ => 0)))]) (wb := [(to, .inl (g 0, 12, .inl (fun _ => 0)))]) (wc := [(eo, .inl (g 0, 64, .inl (fun _ => 0)))]) ?_
  refine z_asr (wa := WX a g zs0) (wb := [(mo, .inl (g 0, 4, .inl (fun _ => 0)))]) (wc := [(to, .inl (g 0, 12, .inl (fun _ => 0)))] ++ [(eo, .inl (g 0, 64, .inl (fun _ => 0)))]) ?_
  refine z_swap (wa := WX a g zs0) (wb := [(mo, .inl (g 0, 4, .inl (fun _ => 0)))] ++ ([(to, .inl (g 0, 12, .inl (fun _ => 0)))] ++ [(eo, .inl (g 0, 64, .inl (fun _ => 0)))])) ?_
  refine z_widen (k := 100 + 0) (n := 1000 + 0) (Nat.le_of_ble_eq_true rfl) (Nat.le_of_ble_eq_true rfl) ?_
  exact law_walk (a := a) (mo := mo) (to := to) (eo := eo) hst C hR hL CL SC hLL hE zA0 zP0 (fun _ => 0) (fun _ => 0) (fun _ => 0) zs0 ST_0 law_ok
end ZLW
/-- from the entry, for every script of at most 260 ints, the law comes to its end with true -/
theorem whole_start {p : Program} {e : Env} {s : State} {m : MethodId} {below : List Frame} {meth : Method} {c : Code} (l : Launch) (hflags : l.flags = flags0) {b L : Nat} {xs : Nat → Int32} (hL : L ≤ 260) (C0 : lw_At p s m meth c b L xs) : W p l e room_1 s m #[Value.ref b] below meth c s.heap [] 0 0 (lw_Z below #[Value.ref b] s) (entryFrame m ([Value.ref b] : List Value).toArray 18) := by
  obtain ⟨D, g, ea, C, CL, hAO⟩ := law_start (l := l) (e := e) (below := below) hflags C0
  obtain ⟨hx, hb, hr, hml, hown, hts, hX, hbl, hlk, hgv⟩ := C0
  have SC : zSc (lawX p l e s m b below meth c) b L xs := ⟨hX, hbl, fun h => Nat.not_lt.mpr h hbl⟩
  have key : zV (lawX p l e s m b below meth c) D 18 0 0 [] 0 [(0, .ref b)] [] := law_begin CL.2.2.2 C rfl rfl CL SC hL hAO (fun cells slots ws lv hc hs => law_end hx hb hr hlk dL_law_1047 hc hs)
  rw [lg_entry_eq]
  exact key s.heap [] _ (fun k q hk => by cases hk) ⟨fun i j p q hi => (by cases hi), fun k q hk => (by cases hk)⟩ va_S.rf (lv_entry [Value.ref b] (n := 18) (Nat.le_of_ble_eq_true rfl))
