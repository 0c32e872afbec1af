def W_L_all_L70 (A : zNt) (P : zPa) (m t e : Nat → Int32) (Q : Int64 → Prop) (K : Int64 → Prop) : Nat → Int64 → Int32 → Prop
  | 0, _, _ => False
  | n + 1, v31, v32 =>
    vp_in 1 4 ∧
    ((m (ix 1)) ≤ v32 →
    K v31) ∧ (¬ (m (ix 1)) ≤ v32 →
    (aAct A P (9) v32 (0) (0) (0)).2 = (A, P) ∧ ∀ r36 : Int64, aAct A P (9) v32 (0) (0) (0) = (r36, A, P) →
    (aAct A P (10) v32 (0) (0) (0)).2 = (A, P) ∧ ∀ r39 : Int64, aAct A P (10) v32 (0) (0) (0) = (r39, A, P) →
    ∀ x42 : Int64, x42 = (((31 * v31) + r36) + (3 * r39)) →
    ∀ x43 : Int32, x43 = v32 + 1 →
    W_L_all_L70 A P m t e Q K n x42 x43)
def W_L_all_L29 (A : zNt) (P : zPa) (m t e : Nat → Int32) (Q : Int64 → Prop) (K : Int64 → Prop) : Nat → Int64 → Int32 → Prop
  | 0, _, _ => False
  | n + 1, v44, v45 =>
    vp_in 0 4 ∧
    ((m (ix 0)) ≤ v45 →
    K v44) ∧ (¬ (m (ix 0)) ≤ v45 →
    ∃ j52 : Nat, j52 < nnn A ∧ v45 = nI j52 ∧
    ∀ r49 : Int64, r49 = lI (aHgt A j52) →
    ∃ j58 : Nat, j58 < nnn A ∧ v45 = nI j58 ∧
    ∀ r55 : Int64, r55 = lI (pT A j58 14) →
    ∀ x61 : Int64, x61 = (((31 * v44) + r49) + (7 * r55)) →
    ∀ x62 : Int32, x62 = v45 + 1 →
    W_L_all_L29 A P m t e Q K n x61 x62)
def W_L_all (A : zNt) (P : zPa) (m t e : Nat → Int32) (Q : Int64 → Prop) : Prop :=
    ∀ r1 : Int32, r1 = P.2.2.2 →
    ∀ r4 : Int32, r4 = nI (nprt A) →
    ∀ r7 : Int32, r7 = iI (aWst A (nko A)).1 →
    ∀ x10 : Int64, x10 = (((r1).toInt64 + (31 * (r4).toInt64)) + (7 * (r7).toInt64)) →
    ∀ x11 : Int32, x11 = 0 →
    ∃ (K12 : Int64 → Prop) (n13 : Nat), n13 ≤ 16 ∧ (∀ (v18 : Int64), K12 v18 →
    ∀ x21 : Int32, x21 = 0 →
    ∃ (K22 : Int64 → Prop) (n23 : Nat), n23 ≤ 16 ∧ (∀ (v28 : Int64), K22 v28 →
    Q v28) ∧ W_L_all_L70 A P m t e Q K22 n23 v18 x21) ∧ W_L_all_L29 A P m t e Q K12 n13 x10 x11
set_option maxHeartbeats 8000000 in
set_option maxRecDepth 100000 in
theorem c_L_all (l : Launch) (hst : l.stackTraces = false) (D : va_G) (a : Nat → Nat) (g : Nat → ClassId) (ea : Nat → Nat) (mo to eo : Nat) (A : zNt) (P : zPa) (m t e : Nat → Int32) (s : zS) (hS : ST A P s) (Q : Int64 → Prop) (hw : W_L_all A P m t e Q) : zWl l D (zT g) ea yL_all wsL_all ({ frames := 14, cells := 128, slots := 768, locals := 348 } : Room) [.ref (a 0), .ref mo] (fun q => zFr g mo to eo m t e ++ WX a g q) s (fun r u => Q r ∧ ST A P u) := by
  refine zUl_start (cc := cL_all) (maxL := 5) (lv0 := [(0, .ref (a 0)), (1, .ref mo)]) (own := RL) hst rfl (by decide +kernel) rfl (Nat.le_of_ble_eq_true rfl) rfl (fun X C hR hL CL hE => ?_)
  show zV X D 5 (0 + 0) (0 + 0) ((zFr g mo to eo m t e) ++ WX a g s) 0 [(0, .ref (a 0)), (1, .ref mo)] []
  refine z_aload_n C 0 dL_all_0 rfl ?_
  refine z_fi C hR hL (wr := (zFr g mo to eo m t e)) (wf := WX a g) (u0 := s) (As := []) (c_X4_sum l D a g s _ (X_sum hS)) gL_all_X4_sum rfl ⟨by decide +kernel, by decide +kernel, (show (parseMethodDescriptor yX4_sum.desc).map (fun d => d.parameters.length) = some 0 from by decide +kernel)⟩ ⟨Nat.le_of_ble_eq_true rfl, Nat.le_of_ble_eq_true rfl⟩ ⟨by dsimp only; omega, by dsimp only; omega⟩ 0 4 rfl rfl rfl rfl (Nat.le_of_ble_eq_true rfl) dL_all_1 (fun r1 s2 hk => ?_)
  refine z_widen (k := (0 + 0)) (n := (0 + 0)) (by dsimp only; omega) (by dsimp only; omega) ?_
  obtain ⟨es2, er1⟩ := hk
  have hS3 : ST A P s2 := es2 ▸ hS
  have hw := hw r1 er1
  refine z_i2l C dL_all_4 ?_
  refine z_ldc2 C 31 (List.mem_of_getElem? (i := 1) rfl) dL_all_5 ?_
  refine z_aload_n C 0 dL_all_8 rfl ?_
  refine z_fi C hR hL (wr := (zFr g mo to eo m t e)) (wf := WX a g) (u0 := s2) (As := []) (c_X4_parts l D a g s2 _ (X_parts hS3)) gL_all_X4_parts rfl ⟨by decide +kernel, by decide +kernel, (show (parseMethodDescriptor yX4_parts.desc).map (fun d => d.parameters.length) = some 0 from by decide +kernel)⟩ ⟨Nat.le_of_ble_eq_true rfl, Nat.le_of_ble_eq_true rfl⟩ ⟨by dsimp only; omega, by dsimp only; omega⟩ 0 4 rfl rfl rfl rfl (Nat.le_of_ble_eq_true rfl) dL_all_9 (fun r4 s5 hk => ?_)
  refine z_widen (k := (0 + 0)) (n := (0 + 0)) (by dsimp only; omega) (by dsimp only; omega) ?_
  obtain ⟨es5, er4⟩ := hk
  have hS6 : ST A P s5 := es5 ▸ hS3
  have hw := hw r4 er4
  refine z_i2l C dL_all_12 ?_
  refine z_lmul C dL_all_13 ?_
  refine z_ladd C dL_all_14 ?_
  refine z_ldc2 C 7 (List.mem_of_getElem? (i := 2) rfl) dL_all_15 ?_
  refine z_aload_n C 0 dL_all_18 rfl ?_
  refine z_fi C hR hL (wr := (zFr g mo to eo m t e)) (wf := WX a g) (u0 := s5) (As := []) (c_X4_worst l D a g s5 _ (X_worst hS6)) gL_all_X4_worst rfl ⟨by decide +kernel, by decide +kernel, (show (parseMethodDescriptor yX4_worst.desc).map (fun d => d.parameters.length) = some 0 from by decide +kernel)⟩ ⟨Nat.le_of_ble_eq_true rfl, Nat.le_of_ble_eq_true rfl⟩ ⟨by dsimp only; omega, by dsimp only; omega⟩ 0 4 rfl rfl rfl rfl (Nat.le_of_ble_eq_true rfl) dL_all_19 (fun r7 s8 hk => ?_)
  refine z_widen (k := (0 + 0)) (n := (0 + 0)) (by dsimp only; omega) (by dsimp only; omega) ?_
  obtain ⟨er7, hS9⟩ := hk
  have hw := hw r7 er7
  refine z_i2l C dL_all_22 ?_
  refine z_lmul C dL_all_23 ?_
  refine z_ladd C dL_all_24 ?_
  refine z_topl (fun x10 ex10 => ?_)
  have hw := hw x10 ex10
  refine z_lstore_n (lv' := [(2, .long x10), (0, .ref (a 0)), (1, .ref mo)]) C 2 dL_all_25 rfl (by decide) rfl ?_
  refine z_iconst C 0 dL_all_26 (by decide) ?_
  refine z_topi (fun x11 ex11 => ?_)
  have hw := hw x11 ex11
  refine z_istore (lv' := [(4, .int x11), (2, .long x10), (0, .ref (a 0)), (1, .ref mo)]) C dL_all_27 (by decide) rfl ?_
  refine z_sub (lv' := [(0, .ref (a 0)), (1, .ref mo), (2, .long x10), (4, .int x11)]) [2, 3, 1, 0] rfl ?_
  obtain ⟨K12, n13, hn14, hK15, hw⟩ := hw
  have hx16 : ∀ (v18 : Int64) (s19 : zS) (hS20 : ST A P s19), K12 v18 → zV X D 5 (0 + 32) (0 + 192) ((zFr g mo to eo m t e) ++ WX a g s19) 67 [(0, .ref (a 0)), (1, .ref mo), (2, .long v18)] [] := by
    intro v18 s19 hS20 hw0
    have hw := hK15 v18 hw0
    refine z_iconst C 0 dL_all_67 (by decide) ?_
    refine z_topi (fun x21 ex21 => ?_)
    have hw := hw x21 ex21
    refine z_istore (lv' := [(4, .int x21), (0, .ref (a 0)), (1, .ref mo), (2, .long v18)]) C dL_all_68 (by decide) rfl ?_
    refine z_sub (lv' := [(0, .ref (a 0)), (1, .ref mo), (2, .long v18), (4, .int x21)]) [1, 2, 3, 0] rfl ?_
    obtain ⟨K22, n23, hn24, hK25, hw⟩ := hw
    have hx26 : ∀ (v28 : Int64) (s29 : zS) (hS30 : ST A P s29), K22 v28 → zV X D 5 (0 + 128) (0 + 768) ((zFr g mo to eo m t e) ++ WX a g s29) 118 [(2, .long v28)] [] := by
      intro v28 s29 hS30 hw0
      have hw := hK25 v28 hw0
      refine z_lload_n C 0 dL_all_118 rfl ?_
      exact hE _ _ _ s29 _ _ dL_all_119 (by dsimp only; omega) (by dsimp only; omega) ⟨hw, hS30⟩
    have lp27 : ∀ n : Nat, n ≤ 16 → ∀ (v31 : Int64) (v32 : Int32) (s33 : zS) (hS34 : ST A P s33), W_L_all_L70 A P m t e Q K22 n v31 v32 → zV X D 5 ((0 + 32 + 6 * (16 - n)) + 0) ((0 + 192 + 36 * (16 - n)) + 0) ((zFr g mo to eo m t e) ++ WX a g s33) 70 [(0, .ref (a 0)), (1, .ref mo), (2, .long v31), (4, .int v32)] [] := by
      intro n
      induction n with
      | zero => intro _ v31 v32 s33 hS34 hw; exact False.elim hw
      | succ n ih =>
        intro hn v31 v32 s33 hS34 hw
        have hw : _ := hw
        refine z_iload C 3 dL_all_70 rfl ?_
        refine z_aload_n C 1 dL_all_72 rfl ?_
        refine z_iconst C 1 dL_all_73 (by decide) ?_
        obtain ⟨b35, hw⟩ := hw
        refine z_iald C 0 0 rfl rfl b35 dL_all_74 ?_
        refine z_icmp_ge C 118 dL_all_75 (by decide) (fun hc => ?_) (fun hc => ?_)
        · have hw := hw.1 hc
          refine z_sub (lv' := [(2, .long v31)]) [2] rfl ?_
          refine z_widen (k := (0 + 128)) (n := (0 + 768)) (by omega) (by omega) ?_
          exact hx26 _ s33 hS34 hw
        · have hw := hw.2 hc
          refine z_ldc2 C 31 (List.mem_of_getElem? (i := 1) rfl) dL_all_78 ?_
          refine z_lload_n C 2 dL_all_81 rfl ?_
          refine z_lmul C dL_all_82 ?_
          refine z_aload_n C 0 dL_all_83 rfl ?_
          refine z_bipush C 9 dL_all_84 (by decide) ?_
          refine z_iload C 3 dL_all_86 rfl ?_
          refine z_iconst C 0 dL_all_88 (by decide) ?_
          refine z_iconst C 0 dL_all_89 (by decide) ?_
          refine z_iconst C 0 dL_all_90 (by decide) ?_
          refine z_fwl C hR hL CL (wr := (zFr g mo to eo m t e)) (wf := WX a g) (u0 := s33) (As := [.ref (a 0), .int 9, .int v32, .int 0, .int 0, .int 0]) (c_L_act l hst D a g ea A P s33 hS34 (9) v32 (0) (0) (0)) gL_all_L_act rfl ⟨by decide +kernel, by decide +kernel, (show (parseMethodDescriptor yL_act.desc).map (fun d => d.parameters.length) = some 6 from by decide +kernel)⟩ ⟨Nat.le_of_ble_eq_true rfl, Nat.le_of_ble_eq_true rfl⟩ ⟨by dsimp only; omega, by dsimp only; omega⟩ rfl (Nat.le_of_ble_eq_true rfl) dL_all_91 (fun r36 s37 hk => ?_)
          refine z_widen (k := ((0 + 32 + 6 * (16 - (n + 1))) + 3)) (n := ((0 + 192 + 36 * (16 - (n + 1))) + 18)) (by dsimp only; omega) (by dsimp only; omega) ?_
          obtain ⟨A1, P1, eq, hq⟩ := hk
          obtain ⟨h9, hw⟩ := hw
          obtain ⟨er36, hS38⟩ := act_same eq hq h9
          have hw := hw r36 er36
          refine z_ladd C dL_all_94 ?_
          refine z_ldc2 C 3 (List.mem_of_getElem? (i := 3) rfl) dL_all_95 ?_
          refine z_aload_n C 0 dL_all_98 rfl ?_
          refine z_bipush C 10 dL_all_99 (by decide) ?_
          refine z_iload C 3 dL_all_101 rfl ?_
          refine z_iconst C 0 dL_all_103 (by decide) ?_
          refine z_iconst C 0 dL_all_104 (by decide) ?_
          refine z_iconst C 0 dL_all_105 (by decide) ?_
          refine z_fwl C hR hL CL (wr := (zFr g mo to eo m t e)) (wf := WX a g) (u0 := s37) (As := [.ref (a 0), .int 10, .int v32, .int 0, .int 0, .int 0]) (c_L_act l hst D a g ea A P s37 hS38 (10) v32 (0) (0) (0)) gL_all_L_act rfl ⟨by decide +kernel, by decide +kernel, (show (parseMethodDescriptor yL_act.desc).map (fun d => d.parameters.length) = some 6 from by decide +kernel)⟩ ⟨Nat.le_of_ble_eq_true rfl, Nat.le_of_ble_eq_true rfl⟩ ⟨by dsimp only; omega, by dsimp only; omega⟩ rfl (Nat.le_of_ble_eq_true rfl) dL_all_106 (fun r39 s40 hk => ?_)
          refine z_widen (k := ((0 + 32 + 6 * (16 - (n + 1))) + 6)) (n := ((0 + 192 + 36 * (16 - (n + 1))) + 36)) (by dsimp only; omega) (by dsimp only; omega) ?_
          obtain ⟨A1, P1, eq, hq⟩ := hk
          obtain ⟨h9, hw⟩ := hw
          obtain ⟨er39, hS41⟩ := act_same eq hq h9
          have hw := hw r39 er39
          refine z_lmul C dL_all_109 ?_
          refine z_ladd C dL_all_110 ?_
          refine z_topl (fun x42 ex42 => ?_)
          have hw := hw x42 ex42
          refine z_lstore_n (lv' := [(2, .long x42), (0, .ref (a 0)), (1, .ref mo), (4, .int v32)]) C 2 dL_all_111 rfl (by decide) rfl ?_
          obtain ⟨x43, ex43⟩ : ∃ z : Int32, z = v32 + 1 := ⟨_, rfl⟩
          have hw := hw x43 ex43
          refine z_iinc (lv' := [(4, .int x43), (2, .long x42), (0, .ref (a 0)), (1, .ref mo)]) C 3 dL_all_112 rfl (by rw [ex43]; rfl) (by decide) rfl ?_
          refine z_goto C 70 dL_all_115 (by decide) ?_
          refine z_sub (lv' := [(0, .ref (a 0)), (1, .ref mo), (2, .long x42), (4, .int x43)]) [2, 3, 1, 0] rfl ?_
          refine z_widen (k := ((0 + 32 + 6 * (16 - n)) + 0)) (n := ((0 + 192 + 36 * (16 - n)) + 0)) (by omega) (by omega) ?_
          exact ih (by omega) _ _ s40 hS41 hw
    refine z_widen (k := (0 + 32 + 6 * (16 - n23)) + 0) (n := (0 + 192 + 36 * (16 - n23)) + 0) (by omega) (by omega) ?_
    exact lp27 n23 hn24 _ _ s19 hS20 hw
  have lp17 : ∀ n : Nat, n ≤ 16 → ∀ (v44 : Int64) (v45 : Int32) (s46 : zS) (hS47 : ST A P s46), W_L_all_L29 A P m t e Q K12 n v44 v45 → zV X D 5 ((0 + 0 + 2 * (16 - n)) + 0) ((0 + 0 + 12 * (16 - n)) + 0) ((zFr g mo to eo m t e) ++ WX a g s46) 29 [(0, .ref (a 0)), (1, .ref mo), (2, .long v44), (4, .int v45)] [] := by
    intro n
    induction n with
    | zero => intro _ v44 v45 s46 hS47 hw; exact False.elim hw
    | succ n ih =>
      intro hn v44 v45 s46 hS47 hw
      have hw : _ := hw
      refine z_iload C 3 dL_all_29 rfl ?_
      refine z_aload_n C 1 dL_all_31 rfl ?_
      refine z_iconst C 0 dL_all_32 (by decide) ?_
      obtain ⟨b48, hw⟩ := hw
      refine z_iald C 0 0 rfl rfl b48 dL_all_33 ?_
      refine z_icmp_ge C 67 dL_all_34 (by decide) (fun hc => ?_) (fun hc => ?_)
      · have hw := hw.1 hc
        refine z_sub (lv' := [(0, .ref (a 0)), (1, .ref mo), (2, .long v44)]) [0, 1, 2] rfl ?_
        refine z_widen (k := (0 + 32)) (n := (0 + 192)) (by omega) (by omega) ?_
        exact hx16 _ s46 hS47 hw
      · have hw := hw.2 hc
        refine z_ldc2 C 31 (List.mem_of_getElem? (i := 1) rfl) dL_all_37 ?_
        refine z_lload_n C 2 dL_all_40 rfl ?_
        refine z_lmul C dL_all_41 ?_
        refine z_aload_n C 0 dL_all_42 rfl ?_
        refine z_iload C 3 dL_all_43 rfl ?_
        obtain ⟨j52, hj53, ej54, hw⟩ := hw
        refine z_xfl0 C hR hL CL (wr := (zFr g mo to eo m t e)) (wf := WX a g) (u0 := s46) (As := [.int v45]) (c_X4_height l hst D a g ea s46 v45 _ _ (X_height hS47 v45)) gL_all_X4_height rfl ⟨by decide +kernel, by decide +kernel, (show (parseMethodDescriptor yX4_height.desc).map (fun d => d.parameters.length) = some 1 from by decide +kernel)⟩ ⟨Nat.le_of_ble_eq_true rfl, Nat.le_of_ble_eq_true rfl⟩ ⟨by dsimp only; omega, by dsimp only; omega⟩ 0 4 rfl rfl rfl rfl (Nat.le_of_ble_eq_true rfl) dL_all_45 (fun E u hx => oX_no (oSt_of (f := aHgt A) (P := P) hS47.1 hj53 ej54) hx) (fun r49 s50 hk => ?_)
        refine z_widen (k := ((0 + 0 + 2 * (16 - (n + 1))) + 1)) (n := ((0 + 0 + 12 * (16 - (n + 1))) + 6)) (by dsimp only; omega) (by dsimp only; omega) ?_
        obtain ⟨er49, hS51⟩ := oX_l (oSt_of (f := aHgt A) (P := P) hS47.1 hj53 ej54) hk
        have hw := hw r49 er49
        refine z_ladd C dL_all_48 ?_
        refine z_ldc2 C 7 (List.mem_of_getElem? (i := 2) rfl) dL_all_49 ?_
        refine z_aload_n C 0 dL_all_52 rfl ?_
        refine z_iload C 3 dL_all_53 rfl ?_
        obtain ⟨j58, hj59, ej60, hw⟩ := hw
        refine z_xfl0 C hR hL CL (wr := (zFr g mo to eo m t e)) (wf := WX a g) (u0 := s50) (As := [.int v45]) (c_X4_trees l hst D a g ea s50 v45 _ _ (X_trees hS51 v45)) gL_all_X4_trees rfl ⟨by decide +kernel, by decide +kernel, (show (parseMethodDescriptor yX4_trees.desc).map (fun d => d.parameters.length) = some 1 from by decide +kernel)⟩ ⟨Nat.le_of_ble_eq_true rfl, Nat.le_of_ble_eq_true rfl⟩ ⟨by dsimp only; omega, by dsimp only; omega⟩ 0 4 rfl rfl rfl rfl (Nat.le_of_ble_eq_true rfl) dL_all_55 (fun E u hx => oX_no (oSt_of (f := fun t => pT A t 14) (P := P) hS51.1 hj59 ej60) hx) (fun r55 s56 hk => ?_)
        refine z_widen (k := ((0 + 0 + 2 * (16 - (n + 1))) + 2)) (n := ((0 + 0 + 12 * (16 - (n + 1))) + 12)) (by dsimp only; omega) (by dsimp only; omega) ?_
        obtain ⟨er55, hS57⟩ := oX_l (oSt_of (f := fun t => pT A t 14) (P := P) hS51.1 hj59 ej60) hk
        have hw := hw r55 er55
        refine z_lmul C dL_all_58 ?_
        refine z_ladd C dL_all_59 ?_
        refine z_topl (fun x61 ex61 => ?_)
        have hw := hw x61 ex61
        refine z_lstore_n (lv' := [(2, .long x61), (0, .ref (a 0)), (1, .ref mo), (4, .int v45)]) C 2 dL_all_60 rfl (by decide) rfl ?_
        obtain ⟨x62, ex62⟩ : ∃ z : Int32, z = v45 + 1 := ⟨_, rfl⟩
        have hw := hw x62 ex62
        refine z_iinc (lv' := [(4, .int x62), (2, .long x61), (0, .ref (a 0)), (1, .ref mo)]) C 3 dL_all_61 rfl (by rw [ex62]; rfl) (by decide) rfl ?_
        refine z_goto C 29 dL_all_64 (by decide) ?_
        refine z_sub (lv' := [(0, .ref (a 0)), (1, .ref mo), (2, .long x61), (4, .int x62)]) [2, 3, 1, 0] rfl ?_
        refine z_widen (k := ((0 + 0 + 2 * (16 - n)) + 0)) (n := ((0 + 0 + 12 * (16 - n)) + 0)) (by omega) (by omega) ?_
        exact ih (by omega) _ _ s56 hS57 hw
  refine z_widen (k := (0 + 0 + 2 * (16 - n13)) + 0) (n := (0 + 0 + 12 * (16 - n13)) + 0) (by omega) (by omega) ?_
  exact lp17 n13 hn14 _ _ s8 hS9 hw
