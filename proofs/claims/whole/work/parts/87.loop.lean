/-! THE LAW'S LOOP AND START -/
section ZLL
theorem and31 (v : Int32) : 0 ≤ (v &&& 31).toInt ∧ (v &&& 31).toInt ≤ 31 := by
  have h : (v &&& 31).toBitVec.toNat ≤ 31 := by
    rw [Int32.toBitVec_and, BitVec.toNat_and]
    exact Nat.and_le_right
  have e : (v &&& 31).toInt = ((v &&& 31).toBitVec.toNat : Int) := by
    show (v &&& 31).toBitVec.toInt = _
    exact BitVec.toInt_eq_toNat_of_lt (by omega)
  omega
theorem vin_iI {a : Int} {L : Nat} (h0 : 0 ≤ a) (h1 : a < L) (hL : L ≤ 2560) : vp_in (iI a) L := by
  have hB : zB3 a := ⟨by omega, by omega⟩
  intro h
  rcases h with h | h
  · have h2 := (iI_lt hB ⟨by omega, by omega⟩).mp (show iI a < iI 0 from h)
    omega
  · rw [show (iI a).toNatClampNeg = (iI a).toInt.toNat from rfl, iI_toInt hB] at h
    omega
def zA0 : zNt := (0, 0, fun _ => 0, fun _ => 0, fun _ => 0, fun _ => 0, fun _ => false, fun _ => false, fun _ => 0)
def zP0 : zPa := (0, 0, 0, 0)
theorem zok_0 : zok zA0 := ⟨Nat.zero_le _, Nat.zero_le _, fun o h => absurd h (Nat.not_lt_zero o), fun t _ => ⟨by show (-9999 : Int) ≤ 0; decide, by show (0 : Int) ≤ 9999; decide⟩, fun _ _ => ⟨rfl, rfl⟩, fun _ _ => rfl⟩
theorem pok_0 : pok zA0 zP0 := ⟨Nat.zero_le _, fun h => absurd h (Nat.lt_irrefl 0), fun _ => rfl⟩
theorem ST_0 : ST zA0 zP0 zs0 := ⟨zok_0, pok_0, ⟨⟨rfl, rfl, fun t _ => ⟨rfl, rfl⟩, fun o h => absurd h (Nat.not_lt_zero o), fun o _ => rfl⟩, fun t h => absurd h (Nat.not_lt_zero t)⟩, ⟨rfl, fun h => absurd h (Nat.lt_irrefl 0), rfl⟩⟩
theorem SM_0 : SM zA0 zP0 zs0 := ⟨zok_0, pok_0, ⟨rfl, rfl, fun t _ => ⟨rfl, rfl⟩, fun o h => absurd h (Nat.not_lt_zero o), fun o _ => rfl⟩, ⟨rfl, fun h => absurd h (Nat.lt_irrefl 0), rfl⟩⟩
variable {X : zX} {l : Launch} {D : va_G} {g : Nat → ClassId} {ea : Nat → Nat} {a bm : Nat → Nat} {o : Nat} {b L : Nat} {xs : Nat → Int32}
set_option maxHeartbeats 4000000 in
set_option maxRecDepth 100000 in
theorem law_loop (hst : l.stackTraces = false) (C : zC X D 8 code RL wsL_law (zT g)) (hR : zR X room_1) (hL : zL X l) (CL : zCL X ea) (SC : zSc X b L xs) (hLL : L ≤ 2560)
    (hE : ∀ (cells slots : Nat) (ws : va_W) (lv : List (Nat × Value)), cells ≤ 658665 → slots ≤ 7120110 → zV X D 8 cells slots ws 1084 lv [.int 1]) :
    ∀ n k : Nat, k + n = 513 → 5 * k ≤ L → ∀ (A : zNt) (P : zPa) (x m : zS) (f : Nat → Int64), ST A P x → SM A P m → zV X D 8 (47 + 3 * k) (412 + 18 * k) (zLW a bm g o (x, m, f)) 23 (lvH b a bm o (nI (5 * k))) [] := by
  intro n
  induction n with
  | zero =>
    intro k hkn hk
    omega
  | succ n ih =>
    intro k hkn hk A P x m f hx hm
    have hk5 : k ≤ 512 := by omega
    have ei : nI (5 * k) = iI ((5 * k : Nat) : Int) := nI_iI _
    refine z_iload C 4 dL_law_23 rfl ?_
    refine z_aload_n C 0 dL_law_25 rfl ?_
    refine z_slen C SC dL_law_26 ?_
    refine z_iconst C 5 dL_law_27 (by decide) ?_
    refine z_isub C dL_law_28 ?_
    have eL : Int32.ofNat L - 5 = iI ((L : Int) - 5) := by
      rw [show Int32.ofNat L = iI (L : Int) from nI_iI L, show (5 : Int32) = iI 5 from rfl, iI_sub]
    refine z_icmp_gt C 1083 dL_law_29 (by decide) (fun hc => ?_) (fun hc => ?_)
    · refine z_iconst C 1 dL_law_1083 (by decide) ?_
      exact hE _ _ _ _ (by omega) (by omega)
    rw [eL, ei, iI_lt ⟨by omega, by omega⟩ ⟨by omega, by omega⟩] at hc
    have hk1 : 5 * (k + 1) ≤ L := by omega
    have hin : ∀ v : Int32, 0 ≤ v.toInt → v.toInt ≤ 4 → vp_in (nI (5 * k) + v) L := by
      intro v h0 h4
      rw [iI_of v, ei, iI_add]
      exact vin_iI (by omega) (by omega) hLL
    have hin0 : vp_in (nI (5 * k)) L := by
      rw [ei]
      exact vin_iI (by omega) (by omega) hLL
    have K : ∀ (A' : zNt) (P' : zPa) (x' m' : zS) (f' : Nat → Int64), ST A' P' x' → SM A' P' m' → zV X D 8 (47 + 3 * k + 3) (412 + 18 * k + 18) (zLW a bm g o (x', m', f')) 1077 (lvH b a bm o (nI (5 * k))) [] := by
      intro A' P' x' m' f' hx' hm'
      refine z_iinc (lv' := [(4, .int (nI (5 * (k + 1)))), (0, .ref b), (1, .ref (a 0)), (2, .ref (bm 0)), (3, .ref o)]) C 4 dL_law_1077 rfl (v := nI (5 * (k + 1))) ?_ (by decide) rfl ?_
      · rw [nI_iI, nI_iI, show Int32.ofInt 5 = iI 5 from rfl, iI_add]
        exact congrArg iI (by omega)
      refine z_goto C 23 dL_law_1080 (by decide) ?_
      refine z_sub (lv' := lvH b a bm o (nI (5 * (k + 1)))) [1, 2, 3, 4, 0] rfl ?_
      have h := ih (k + 1) (by omega) hk1 A' P' x' m' f' hx' hm'
      rw [show 47 + 3 * (k + 1) = 47 + 3 * k + 3 by omega, show 412 + 18 * (k + 1) = 412 + 18 * k + 18 by omega] at h
      exact h
    have hcb : 47 + 3 * k + 3 ≤ 658665 := by omega
    have hsb : 412 + 18 * k + 18 ≤ 7120110 := by omega
    refine z_aload_n C 0 dL_law_32 rfl ?_
    refine z_iload C 4 dL_law_33 rfl ?_
    refine z_sld C SC hin0 dL_law_35 ?_
    refine z_bipush C 31 dL_law_36 (by decide) ?_
    refine z_iand C dL_law_38 ?_
    have hw := and31 (xs (nI (5 * k)).toNatClampNeg)
    refine z_topi (fun w ew => ?_)
    rw [← ew] at hw
    by_cases h18 : 18 < w.toInt
    · refine z_tabOut C 1077 dL_law_39 (Or.inr h18) (by decide) ?_
      exact z_widen (Nat.le_add_right _ 3) (Nat.le_add_right _ 18) (K A P x m f hx hm)
    have h19 : w.toInt = 0 ∨ w.toInt = 1 ∨ w.toInt = 2 ∨ w.toInt = 3 ∨ w.toInt = 4 ∨ w.toInt = 5 ∨ w.toInt = 6 ∨ w.toInt = 7 ∨ w.toInt = 8 ∨ w.toInt = 9 ∨ w.toInt = 10 ∨ w.toInt = 11 ∨ w.toInt = 12 ∨ w.toInt = 13 ∨ w.toInt = 14 ∨ w.toInt = 15 ∨ w.toInt = 16 ∨ w.toInt = 17 ∨ w.toInt = 18 := by omega
    rcases h19 with e | e | e | e | e | e | e | e | e | e | e | e | e | e | e | e | e | e | e
    · exact z_tabIn C 128 dL_law_39 (by rw [e]; decide) (by rw [e]; decide) (by rw [e]; rfl) (by decide) (law_c0 hst C hR hL CL SC hx hm hin hcb hsb K)
    · exact z_tabIn C 172 dL_law_39 (by rw [e]; decide) (by rw [e]; decide) (by rw [e]; rfl) (by decide) (law_c1 hst C hR hL CL SC hx hm hin hcb hsb K)
    · exact z_tabIn C 275 dL_law_39 (by rw [e]; decide) (by rw [e]; decide) (by rw [e]; rfl) (by decide) (law_c2 hst C hR hL CL SC hx hm hin hcb hsb K)
    · exact z_tabIn C 367 dL_law_39 (by rw [e]; decide) (by rw [e]; decide) (by rw [e]; rfl) (by decide) (law_c3 hst C hR hL CL SC hx hm hin hcb hsb K)
    · exact z_tabIn C 458 dL_law_39 (by rw [e]; decide) (by rw [e]; decide) (by rw [e]; rfl) (by decide) (law_c4 hst C hR hL CL SC hx hm hin hcb hsb K)
    · exact z_tabIn C 514 dL_law_39 (by rw [e]; decide) (by rw [e]; decide) (by rw [e]; rfl) (by decide) (law_c5 hst C hR hL CL SC hx hm hin hcb hsb K)
    · exact z_tabIn C 570 dL_law_39 (by rw [e]; decide) (by rw [e]; decide) (by rw [e]; rfl) (by decide) (law_c6 hst C hR hL CL SC hx hm hin hcb hsb K)
    · exact z_tabIn C 583 dL_law_39 (by rw [e]; decide) (by rw [e]; decide) (by rw [e]; rfl) (by decide) (law_c7 hst C hR hL CL SC hx hm hin hcb hsb K)
    · exact z_tabIn C 596 dL_law_39 (by rw [e]; decide) (by rw [e]; decide) (by rw [e]; rfl) (by decide) (law_c8 hst C hR hL CL SC hx hm hin hcb hsb K)
    · exact z_tabIn C 609 dL_law_39 (by rw [e]; decide) (by rw [e]; decide) (by rw [e]; rfl) (by decide) (law_c9 hst C hR hL CL SC hx hm hin hcb hsb K)
    · exact z_tabIn C 664 dL_law_39 (by rw [e]; decide) (by rw [e]; decide) (by rw [e]; rfl) (by decide) (law_c10 hst C hR hL CL SC hx hm hin hcb hsb K)
    · exact z_tabIn C 719 dL_law_39 (by rw [e]; decide) (by rw [e]; decide) (by rw [e]; rfl) (by decide) (law_c11 hst C hR hL CL SC hx hm hin hcb hsb K)
    · exact z_tabIn C 774 dL_law_39 (by rw [e]; decide) (by rw [e]; decide) (by rw [e]; rfl) (by decide) (law_c12 hst C hR hL CL SC hx hm hin hcb hsb K)
    · exact z_tabIn C 829 dL_law_39 (by rw [e]; decide) (by rw [e]; decide) (by rw [e]; rfl) (by decide) (law_c13 hst C hR hL CL SC hx hm hin hcb hsb K)
    · exact z_tabIn C 885 dL_law_39 (by rw [e]; decide) (by rw [e]; decide) (by rw [e]; rfl) (by decide) (law_c14 hst C hR hL CL SC hx hm hin hcb hsb K)
    · exact z_tabIn C 941 dL_law_39 (by rw [e]; decide) (by rw [e]; decide) (by rw [e]; rfl) (by decide) (law_c15 hst C hR hL CL SC hx hm hin hcb hsb K)
    · exact z_tabIn C 996 dL_law_39 (by rw [e]; decide) (by rw [e]; decide) (by rw [e]; rfl) (by decide) (law_c16 hst C hR hL CL SC hx hm hin hcb hsb K)
    · exact z_tabIn C 1009 dL_law_39 (by rw [e]; decide) (by rw [e]; decide) (by rw [e]; rfl) (by decide) (law_c17 hst C hR hL CL SC hx hm hin hcb hsb K)
    · exact z_tabIn C 1064 dL_law_39 (by rw [e]; decide) (by rw [e]; decide) (by rw [e]; rfl) (by decide) (law_c18 hst C hR hL CL SC hx hm hin hcb hsb K)
set_option maxHeartbeats 4000000 in
set_option maxRecDepth 100000 in
theorem law_begin (hst : l.stackTraces = false) (C : zC X D 8 code RL wsL_law (zT g)) (hR : zR X room_1) (hL : zL X l) (CL : zCL X ea) (SC : zSc X b L xs) (hLL : L ≤ 2560) (CK : zAO (match X with | (_, _, _, _, s, _) => s))
    (hE : ∀ (cells slots : Nat) (ws : va_W) (lv : List (Nat × Value)), cells ≤ 658665 → slots ≤ 7120110 → zV X D 8 cells slots ws 1084 lv [.int 1]) : zV X D 8 0 0 [] 0 [(0, .ref b)] [] := by
  refine z_new C hR (ci := 4) inlX4 tyX4 tyX4_ok (List.mem_of_getElem? (i := 0) rfl) (List.mem_of_getElem? (i := 1) rfl) (List.mem_of_getElem? (i := 2) rfl) rfl [.null, .null, .null, .null] (fun j hj => by rcases (show j = 0 ∨ j = 1 ∨ j = 2 ∨ j = 3 by omega) with rfl | rfl | rfl | rfl <;> rfl) (Nat.le_of_ble_eq_true rfl) (Nat.le_of_ble_eq_true rfl) dL_law_0 (fun q1 => ?_)
  refine z_dup C dL_law_3 rfl ?_
  refine z_callK C CK hR hL (As := []) (wr := []) (wc := [(q1, .inr (4, [.null, .null, .null, .null]))]) (c_X4_init l D g q1) gL_law_X4_init rfl (List.mem_of_getElem? (i := 2) rfl) (List.mem_of_getElem? (i := 7) rfl) (List.mem_of_getElem? (i := 8) rfl) rfl ⟨by decide +kernel, by decide +kernel, (show (parseMethodDescriptor yX4_init.desc).map (fun d => d.parameters.length) = some 0 from by decide +kernel)⟩ ⟨Nat.le_of_ble_eq_true rfl, Nat.le_of_ble_eq_true rfl⟩ ⟨Nat.le_of_ble_eq_true rfl, Nat.le_of_ble_eq_true rfl⟩ rfl (Nat.le_of_ble_eq_true rfl) dL_law_4 (fun u hu => ?_)
  obtain ⟨a, rfl, rfl⟩ := hu
  refine z_astore_n (lv' := [(1, .ref (a 0)), (0, .ref b)]) C 1 dL_law_7 rfl (by decide) rfl ?_
  refine z_new C hR (ci := 5) inlX5 tyX5 tyX5_ok (List.mem_of_getElem? (i := 3) rfl) (List.mem_of_getElem? (i := 4) rfl) (List.mem_of_getElem? (i := 5) rfl) rfl [.int 0, .null, .null, .int 0, .null, .null, .null, .null, .null, .int 0, .null, .int 0, .null, .int 0, .null, .null, .long 0, .int 0] (fun j hj => by rcases (show j = 0 ∨ j = 1 ∨ j = 2 ∨ j = 3 ∨ j = 4 ∨ j = 5 ∨ j = 6 ∨ j = 7 ∨ j = 8 ∨ j = 9 ∨ j = 10 ∨ j = 11 ∨ j = 12 ∨ j = 13 ∨ j = 14 ∨ j = 15 ∨ j = 16 ∨ j = 17 by omega) with rfl | rfl | rfl | rfl | rfl | rfl | rfl | rfl | rfl | rfl | rfl | rfl | rfl | rfl | rfl | rfl | rfl | rfl <;> rfl) (Nat.le_of_ble_eq_true rfl) (Nat.le_of_ble_eq_true rfl) dL_law_8 (fun q2 => ?_)
  refine z_dup C dL_law_11 rfl ?_
  refine z_callK C CK hR hL (As := []) (wr := [] ++ WX a g zs0) (wc := [(q2, .inr (5, [.int 0, .null, .null, .int 0, .null, .null, .null, .null, .null, .int 0, .null, .int 0, .null, .int 0, .null, .null, .long 0, .int 0]))]) (c_X5_init l D g q2) gL_law_X5_init rfl (List.mem_of_getElem? (i := 5) rfl) (List.mem_of_getElem? (i := 64) rfl) (List.mem_of_getElem? (i := 65) rfl) rfl ⟨by decide +kernel, by decide +kernel, (show (parseMethodDescriptor yX5_init.desc).map (fun d => d.parameters.length) = some 0 from by decide +kernel)⟩ ⟨Nat.le_of_ble_eq_true rfl, Nat.le_of_ble_eq_true rfl⟩ ⟨Nat.le_of_ble_eq_true rfl, Nat.le_of_ble_eq_true rfl⟩ rfl (Nat.le_of_ble_eq_true rfl) dL_law_12 (fun u hu => ?_)
  obtain ⟨bm, rfl, rfl⟩ := hu
  refine z_astore_n (lv' := [(2, .ref (bm 0)), (1, .ref (a 0)), (0, .ref b)]) C 2 dL_law_15 rfl (by decide) rfl ?_
  refine z_iconst C 1 dL_law_16 (by decide) ?_
  refine z_newa C hR (atype := .long) rfl z_raJ 2 rfl (List.mem_of_getElem? (i := 6) rfl) (n := 1) (N' := 1) (a0 := (1, .inr (.inl (fun _ => 0)))) (fun _ => rfl) (by decide) rfl (Nat.le_of_ble_eq_true rfl) (Nat.le_of_ble_eq_true rfl) (Nat.le_of_ble_eq_true rfl) dL_law_17 (fun o => ?_)
  refine z_astore_n (lv' := [(3, .ref o), (2, .ref (bm 0)), (1, .ref (a 0)), (0, .ref b)]) C 3 dL_law_19 rfl (by decide) rfl ?_
  refine z_iconst C 0 dL_law_20 (by decide) ?_
  refine z_istore (lv' := [(4, .int 0), (3, .ref o), (2, .ref (bm 0)), (1, .ref (a 0)), (0, .ref b)]) C dL_law_21 (by decide) rfl ?_
  refine z_sub (lv' := lvH b a bm o (nI (5 * 0))) [4, 3, 2, 1, 0] rfl ?_
  refine z_swap (wa := WX a g zs0 ++ WM bm g zs0) (wb := [(o, .inl (g 2, 1, .inr (.inl (fun _ => 0))))]) ?_
  refine z_asl (wa := [(o, .inl (g 2, 1, .inr (.inl (fun _ => 0))))]) (wb := WX a g zs0) (wc := WM bm g zs0) ?_
  refine z_swap (wa := [(o, .inl (g 2, 1, .inr (.inl (fun _ => 0))))] ++ WX a g zs0) (wb := WM bm g zs0) ?_
  refine z_widen (k := 47 + 3 * 0) (n := 412 + 18 * 0) (Nat.le_of_ble_eq_true rfl) (Nat.le_of_ble_eq_true rfl) ?_
  exact law_loop hst C hR hL CL SC hLL hE 513 0 rfl (Nat.zero_le _) zA0 zP0 zs0 zs0 (fun _ => 0) ST_0 SM_0
end ZLL
/-- from the entry, for every script of at most 2560 ints, the law comes to its end with true -/
theorem whole_start {p : Program} {e : Env} {s : State} {m : MethodId} {below : List Frame} {meth : Method} {c : Code} (l : Launch) (hflags : l.flags = flags0) {b L : Nat} {xs : Nat → Int32} (hL : L ≤ 2560) (C0 : lw_At p s m meth c b L xs) : W p l e room_1 s m #[Value.ref b] below meth c s.heap [] 0 0 (lw_Z below #[Value.ref b] s) (entryFrame m ([Value.ref b] : List Value).toArray 8) := by
  obtain ⟨D, g, ea, C, CL, hAO⟩ := law_start (l := l) (e := e) (below := below) hflags C0
  obtain ⟨hx, hb, hr, hml, hown, hts, hX, hbl, hlk, hgv⟩ := C0
  have SC : zSc (lawX p l e s m b below meth c) b L xs := ⟨hX, hbl, fun h => Nat.not_lt.mpr h hbl⟩
  have key : zV (lawX p l e s m b below meth c) D 8 0 0 [] 0 [(0, .ref b)] [] := law_begin CL.2.2.2 C rfl rfl CL SC hL hAO (fun cells slots ws lv hc hs => law_end hx hb hr hlk dL_law_1084 hc hs)
  rw [lg_entry_eq]
  exact key s.heap [] _ (fun k q hk => by cases hk) ⟨fun i j p q hi => (by cases hi), fun k q hk => (by cases hk)⟩ va_S.rf (lv_entry [Value.ref b] (n := 8) (Nat.le_of_ble_eq_true rfl))
