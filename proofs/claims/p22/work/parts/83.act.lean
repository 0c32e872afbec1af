/-! WHAT THE LAW'S act ANSWERS; its contract, and dice's -/
section ZACT
abbrev zcB : Int64 := -161100000000000000
abbrev zcA : Int64 := -161200000000000000
abbrev zcS : Int64 := -161300000000000000
def zfin (O : zOp) (c1 c2 c3 : Int64) : Int64 × zNt × zPa := (if O.1 = 0 then O.2.1 else if O.1 = 1 then c1 else if O.1 = 2 then c2 else c3, O.2.2)
theorem zfin_ok {O : zOp} {c1 c2 c3 v : Int64} {u : zS} (h : okX O v u) : ∃ (A : zNt) (P : zPa), zfin O c1 c2 c3 = (v, A, P) ∧ ST A P u := ⟨O.2.2.1, O.2.2.2, by unfold zfin; rw [if_pos h.1, h.2.1], h.2.2⟩
theorem zfin_1 {O : zOp} {c1 c2 c3 : Int64} {u : zS} (h : O.1 = 0 + 1) (h3 : ST O.2.2.1 O.2.2.2 u) : ∃ (A : zNt) (P : zPa), zfin O c1 c2 c3 = (c1, A, P) ∧ ST A P u := ⟨O.2.2.1, O.2.2.2, by unfold zfin; rw [if_neg (by omega), if_pos (by omega)], h3⟩
theorem zfin_2 {O : zOp} {c1 c2 c3 : Int64} {u : zS} (h : O.1 = 1 + 1) (h3 : ST O.2.2.1 O.2.2.2 u) : ∃ (A : zNt) (P : zPa), zfin O c1 c2 c3 = (c2, A, P) ∧ ST A P u := ⟨O.2.2.1, O.2.2.2, by unfold zfin; rw [if_neg (by omega), if_neg (by omega), if_pos (by omega)], h3⟩
theorem zfin_3 {O : zOp} {c1 c2 c3 : Int64} {u : zS} (h : O.1 = 2 + 1) (h3 : ST O.2.2.1 O.2.2.2 u) : ∃ (A : zNt) (P : zPa), zfin O c1 c2 c3 = (c3, A, P) ∧ ST A P u := ⟨O.2.2.1, O.2.2.2, by unfold zfin; rw [if_neg (by omega), if_neg (by omega), if_neg (by omega)], h3⟩
noncomputable def aAct (A : zNt) (P : zPa) (w x y c d : Int32) : Int64 × zNt × zPa :=
  if w = 0 then zfin (oStation A P) zcS 0 0 else
  if w = 1 then zfin (oDatum A P x y (decide (c = 1))) zcB zcA 0 else
  if w = 2 then zfin (oObserve A P x y c d) zcB zcA zcS else
  if w = 3 then zfin (oWithdraw A P x (decide (y = 1))) zcB 0 0 else
  if w = 4 then zfin (oClean A P x) zcA 0 0 else
  if w = 5 then zfin (oGo A P x) zcB zcS 0 else
  if w = 6 then zfin (oSt A P (aHgt A) x) zcB 0 0 else
  if w = 7 then zfin (oSt A P (aHgt A) x) zcB 0 0 else
  if w = 8 then zfin (oSt A P (aFre A) x) zcB 0 0 else
  if w = 9 then zfin (oOb A P (aRes A) x) zcB zcS 0 else
  if w = 10 then zfin (oOb A P (aChk A) x) zcB zcS 0 else
  if w = 11 then zfin (oOb A P (aChk A) x) zcB zcS 0 else
  if w = 12 then zfin (oOb A P (aScr A) x) zcB zcS 0 else
  zfin (oSt A P (fun t => pT A t 14) x) zcB 0 0
set_option maxHeartbeats 8000000 in
set_option maxRecDepth 100000 in
theorem c_L_act (l : Launch) (hst : l.stackTraces = false) (D : va_G) (a : Nat → Nat) (g : Nat → ClassId) (ea : Nat → Nat) (A : zNt) (P : zPa) (s : zS) (hS : ST A P s) (w x y c d : Int32) : zWl l D (zT g) ea yL_act wsL_act ({ frames := 13, cells := 3, slots := 18, locals := 322 } : Room) [.ref (a 0), .int w, .int x, .int y, .int c, .int d] (WX a g) s (fun r u => ∃ (A' : zNt) (P' : zPa), aAct A P w x y c d = (r, A', P') ∧ ST A' P' u) := by
  refine zWl_start (cc := cL_act) (maxL := 7) (lv0 := [(0, .ref (a 0)), (1, .int w), (2, .int x), (3, .int y), (4, .int c), (5, .int d)]) (own := RL) (hh := [(0, 228, 229, 59), (0, 228, 235, 63), (0, 228, 241, 67)]) hst rfl (by decide +kernel) rfl (Nat.le_of_ble_eq_true rfl) rfl (fun X C hR hL CL HT hE => ?_)
  have KN : ∀ (v : Int64) (u : zS) (ce sl : Nat), (∃ (A' : zNt) (P' : zPa), aAct A P w x y c d = (v, A', P') ∧ ST A' P' u) → ce ≤ 3 → sl ≤ 18 → zV X D 7 ce sl (WX a g u) 228 [(0, .ref (a 0)), (1, .int w), (2, .int x), (3, .int y), (4, .int c), (5, .int d)] [.long v] := by
    intro v u ce sl h1 h2 h3
    exact hE _ _ _ u _ _ dL_act_228 h2 h3 h1
  have KB : ∀ (pc : Nat) (u : zS) (ce sl : Nat), covers (⟨0, 228, 229, 59⟩ : ExceptionTableEntry) pc = true → (∃ (A' : zNt) (P' : zPa), aAct A P w x y c d = (zcB, A', P') ∧ ST A' P' u) → ce ≤ 3 → sl ≤ 18 → ∃ tgt, zCat RL wsL_act ea [(0, 228, 229, 59), (0, 228, 235, 63), (0, 228, 241, 67)] pc nIOB tgt ∧ ∀ q9 : Nat, zV X D 7 ce sl ([] ++ WX a g u) tgt [(0, .ref (a 0)), (1, .int w), (2, .int x), (3, .int y), (4, .int c), (5, .int d)] [.ref q9] := by
    intro pc u ce sl h0 h1 h2 h3
    refine ⟨229, ⟨[], ⟨0, 228, 229, 59⟩, [⟨0, 228, 235, 63⟩, ⟨0, 228, 241, 67⟩], rfl, fun z hz => absurd hz List.not_mem_nil, h0, by decide, (List.mem_of_getElem? (i := 1) rfl), fun _ h => h.2.2.1, rfl⟩, fun q9 => ?_⟩
    refine z_astore C dL_act_229 (by decide) rfl ?_
    refine z_ldc2 C zcB (List.mem_of_getElem? (i := 4) rfl) dL_act_231 ?_
    exact hE _ _ _ u _ _ dL_act_234 h2 h3 h1
  have KA : ∀ (pc : Nat) (u : zS) (ce sl : Nat), covers (⟨0, 228, 235, 63⟩ : ExceptionTableEntry) pc = true → (∃ (A' : zNt) (P' : zPa), aAct A P w x y c d = (zcA, A', P') ∧ ST A' P' u) → ce ≤ 3 → sl ≤ 18 → ∃ tgt, zCat RL wsL_act ea [(0, 228, 229, 59), (0, 228, 235, 63), (0, 228, 241, 67)] pc nIAE tgt ∧ ∀ q9 : Nat, zV X D 7 ce sl ([] ++ WX a g u) tgt [(0, .ref (a 0)), (1, .int w), (2, .int x), (3, .int y), (4, .int c), (5, .int d)] [.ref q9] := by
    intro pc u ce sl h0 h1 h2 h3
    refine ⟨235, ⟨[⟨0, 228, 229, 59⟩], ⟨0, 228, 235, 63⟩, [⟨0, 228, 241, 67⟩], rfl, fun z hz => (List.mem_cons.mp hz).elim (fun e => by subst e; exact ⟨by decide, nIOB, (List.mem_of_getElem? (i := 1) rfl), fun _ h => h.1⟩) (fun hz => absurd hz List.not_mem_nil), h0, by decide, (List.mem_of_getElem? (i := 2) rfl), fun _ h => h.2.1, rfl⟩, fun q9 => ?_⟩
    refine z_astore C dL_act_235 (by decide) rfl ?_
    refine z_ldc2 C zcA (List.mem_of_getElem? (i := 5) rfl) dL_act_237 ?_
    exact hE _ _ _ u _ _ dL_act_240 h2 h3 h1
  have KS : ∀ (pc : Nat) (u : zS) (ce sl : Nat), covers (⟨0, 228, 241, 67⟩ : ExceptionTableEntry) pc = true → (∃ (A' : zNt) (P' : zPa), aAct A P w x y c d = (zcS, A', P') ∧ ST A' P' u) → ce ≤ 3 → sl ≤ 18 → ∃ tgt, zCat RL wsL_act ea [(0, 228, 229, 59), (0, 228, 235, 63), (0, 228, 241, 67)] pc nISE tgt ∧ ∀ q9 : Nat, zV X D 7 ce sl ([] ++ WX a g u) tgt [(0, .ref (a 0)), (1, .int w), (2, .int x), (3, .int y), (4, .int c), (5, .int d)] [.ref q9] := by
    intro pc u ce sl h0 h1 h2 h3
    refine ⟨241, ⟨[⟨0, 228, 229, 59⟩, ⟨0, 228, 235, 63⟩], ⟨0, 228, 241, 67⟩, [], rfl, fun z hz => (List.mem_cons.mp hz).elim (fun e => by subst e; exact ⟨by decide, nIOB, (List.mem_of_getElem? (i := 1) rfl), fun _ h => h.2.1⟩) (fun hz => (List.mem_cons.mp hz).elim (fun e => by subst e; exact ⟨by decide, nIAE, (List.mem_of_getElem? (i := 2) rfl), fun _ h => h.2.2⟩) (fun hz => absurd hz List.not_mem_nil)), h0, by decide, (List.mem_of_getElem? (i := 3) rfl), fun _ h => h.1, rfl⟩, fun q9 => ?_⟩
    refine z_astore C dL_act_241 (by decide) rfl ?_
    refine z_ldc2 C zcS (List.mem_of_getElem? (i := 6) rfl) dL_act_243 ?_
    exact hE _ _ _ u _ _ dL_act_246 h2 h3 h1
  refine z_iload_n C 1 dL_act_0 rfl ?_
  refine z_if_ne C 12 dL_act_1 (by decide) ?_ ?_
  rotate_left
  · intro e0
    have ha : aAct A P w x y c d = zfin (oStation A P) zcS 0 0 := by unfold aAct; rw [if_pos e0]
    refine z_aload_n C 0 dL_act_4 rfl ?_
    refine z_xfi C hR hL CL HT (wr := []) (wf := WX a g) (u0 := s) (As := []) (c_X4_station l hst D a g ea s  _ _ (X_station hS)) gL_act_X4_station rfl ⟨by decide +kernel, by decide +kernel, (show (parseMethodDescriptor yX4_station.desc).map (fun d => d.parameters.length) = some 0 from by decide +kernel)⟩ ⟨Nat.le_of_ble_eq_true rfl, Nat.le_of_ble_eq_true rfl⟩ ⟨Nat.le_of_ble_eq_true rfl, Nat.le_of_ble_eq_true rfl⟩ 0 4 rfl rfl rfl rfl (Nat.le_of_ble_eq_true rfl) dL_act_5 (fun E u hx => ?_) (fun r u hk => ?_)
    · obtain ⟨k, h1, h2, h3⟩ := hx
      match k, h1, h2, h3 with
      | 0, h1, h2, h3 =>
        cases h2
        exact KS _ u _ _ (by decide) (by rw [ha]; exact zfin_1 h1 h3) (Nat.le_of_ble_eq_true rfl) (Nat.le_of_ble_eq_true rfl)
      | k + 1, _, h2, _ => cases h2
    · refine z_i2l C dL_act_8 ?_
      refine z_goto C 228 dL_act_9 (by decide) ?_
      exact KN r.toInt64 u _ _ (by rw [ha]; exact zfin_ok hk) (Nat.le_of_ble_eq_true rfl) (Nat.le_of_ble_eq_true rfl)
  intro h0
  refine z_iload_n C 1 dL_act_12 rfl ?_
  refine z_iconst C 1 dL_act_13 (by decide) ?_
  refine z_icmp_ne C 45 dL_act_14 (by decide) ?_ ?_
  rotate_left
  · intro e1
    have ha : aAct A P w x y c d = zfin (oDatum A P x y (decide (c = 1))) zcB zcA 0 := by unfold aAct; rw [if_neg h0, if_pos e1]
    refine z_aload_n C 0 dL_act_17 rfl ?_
    refine z_iload_n C 2 dL_act_18 rfl ?_
    refine z_iload_n C 3 dL_act_19 rfl ?_
    have K9 : zV X D 7 0 0 ([] ++ WX a g s) 31 [(0, .ref (a 0)), (1, .int w), (2, .int x), (3, .int y), (4, .int c), (5, .int d)] [.int (bI (decide (c = 1))), .int y, .int x, .ref (a 0)] := by
      refine z_xfi C hR hL CL HT (wr := []) (wf := WX a g) (u0 := s) (As := [.int x, .int y, .int (bI (decide (c = 1)))]) (c_X4_datum l hst D a g ea s x y (bI (decide (c = 1))) _ _ (X_datum hS x y (decide (c = 1)))) gL_act_X4_datum rfl ⟨by decide +kernel, by decide +kernel, (show (parseMethodDescriptor yX4_datum.desc).map (fun d => d.parameters.length) = some 3 from by decide +kernel)⟩ ⟨Nat.le_of_ble_eq_true rfl, Nat.le_of_ble_eq_true rfl⟩ ⟨Nat.le_of_ble_eq_true rfl, Nat.le_of_ble_eq_true rfl⟩ 0 4 rfl rfl rfl rfl (Nat.le_of_ble_eq_true rfl) dL_act_31 (fun E u hx => ?_) (fun r u hk => ?_)
      · obtain ⟨k, h1, h2, h3⟩ := hx
        match k, h1, h2, h3 with
        | 0, h1, h2, h3 =>
          cases h2
          exact KB _ u _ _ (by decide) (by rw [ha]; exact zfin_1 h1 h3) (Nat.le_of_ble_eq_true rfl) (Nat.le_of_ble_eq_true rfl)
        | 1, h1, h2, h3 =>
          cases h2
          exact KA _ u _ _ (by decide) (by rw [ha]; exact zfin_2 h1 h3) (Nat.le_of_ble_eq_true rfl) (Nat.le_of_ble_eq_true rfl)
        | k + 2, _, h2, _ => cases h2
      · refine z_if_eq C 41 dL_act_34 (by decide) (fun hc => ?_) (fun hc => ?_)
        · refine z_lconst C 0 dL_act_41 (by decide) ?_
          refine z_goto C 228 dL_act_42 (by decide) ?_
          exact KN 0 u _ _ (by rw [ha]; exact zfin_ok (by rw [if_pos hc] at hk; exact hk)) (Nat.le_of_ble_eq_true rfl) (Nat.le_of_ble_eq_true rfl)
        · refine z_lconst C 1 dL_act_37 (by decide) ?_
          refine z_goto C 228 dL_act_38 (by decide) ?_
          exact KN 1 u _ _ (by rw [ha]; exact zfin_ok (by rw [if_neg hc] at hk; exact hk)) (Nat.le_of_ble_eq_true rfl) (Nat.le_of_ble_eq_true rfl)
    refine z_iload C 4 dL_act_20 rfl ?_
    refine z_iconst C 1 dL_act_22 (by decide) ?_
    refine z_icmp_ne C 30 dL_act_23 (by decide) (fun hc => ?_) (fun hc => ?_)
    · rw [decide_eq_false hc] at K9
      exact z_iconst C 0 dL_act_30 (by decide) K9
    · rw [decide_eq_true hc] at K9
      refine z_iconst C 1 dL_act_26 (by decide) ?_
      exact z_goto C 31 dL_act_27 (by decide) K9
  intro h1
  refine z_iload_n C 1 dL_act_45 rfl ?_
  refine z_iconst C 2 dL_act_46 (by decide) ?_
  refine z_icmp_ne C 64 dL_act_47 (by decide) ?_ ?_
  rotate_left
  · intro e2
    have ha : aAct A P w x y c d = zfin (oObserve A P x y c d) zcB zcA zcS := by unfold aAct; rw [if_neg h0, if_neg h1, if_pos e2]
    refine z_aload_n C 0 dL_act_50 rfl ?_
    refine z_iload_n C 2 dL_act_51 rfl ?_
    refine z_iload_n C 3 dL_act_52 rfl ?_
    refine z_iload C 4 dL_act_53 rfl ?_
    refine z_iload C 5 dL_act_55 rfl ?_
    refine z_xfi C hR hL CL HT (wr := []) (wf := WX a g) (u0 := s) (As := [.int x, .int y, .int c, .int d]) (c_X4_observe l hst D a g ea s x y c d _ _ (X_observe hS x y c d)) gL_act_X4_observe rfl ⟨by decide +kernel, by decide +kernel, (show (parseMethodDescriptor yX4_observe.desc).map (fun d => d.parameters.length) = some 4 from by decide +kernel)⟩ ⟨Nat.le_of_ble_eq_true rfl, Nat.le_of_ble_eq_true rfl⟩ ⟨Nat.le_of_ble_eq_true rfl, Nat.le_of_ble_eq_true rfl⟩ 0 4 rfl rfl rfl rfl (Nat.le_of_ble_eq_true rfl) dL_act_57 (fun E u hx => ?_) (fun r u hk => ?_)
    · obtain ⟨k, h1, h2, h3⟩ := hx
      match k, h1, h2, h3 with
      | 0, h1, h2, h3 =>
        cases h2
        exact KB _ u _ _ (by decide) (by rw [ha]; exact zfin_1 h1 h3) (Nat.le_of_ble_eq_true rfl) (Nat.le_of_ble_eq_true rfl)
      | 1, h1, h2, h3 =>
        cases h2
        exact KA _ u _ _ (by decide) (by rw [ha]; exact zfin_2 h1 h3) (Nat.le_of_ble_eq_true rfl) (Nat.le_of_ble_eq_true rfl)
      | 2, h1, h2, h3 =>
        cases h2
        exact KS _ u _ _ (by decide) (by rw [ha]; exact zfin_3 h1 h3) (Nat.le_of_ble_eq_true rfl) (Nat.le_of_ble_eq_true rfl)
      | k + 3, _, h2, _ => cases h2
    · refine z_i2l C dL_act_60 ?_
      refine z_goto C 228 dL_act_61 (by decide) ?_
      exact KN r.toInt64 u _ _ (by rw [ha]; exact zfin_ok hk) (Nat.le_of_ble_eq_true rfl) (Nat.le_of_ble_eq_true rfl)
  intro h2
  refine z_iload_n C 1 dL_act_64 rfl ?_
  refine z_iconst C 3 dL_act_65 (by decide) ?_
  refine z_icmp_ne C 95 dL_act_66 (by decide) ?_ ?_
  rotate_left
  · intro e3
    have ha : aAct A P w x y c d = zfin (oWithdraw A P x (decide (y = 1))) zcB 0 0 := by unfold aAct; rw [if_neg h0, if_neg h1, if_neg h2, if_pos e3]
    refine z_aload_n C 0 dL_act_69 rfl ?_
    refine z_iload_n C 2 dL_act_70 rfl ?_
    have K9 : zV X D 7 0 0 ([] ++ WX a g s) 81 [(0, .ref (a 0)), (1, .int w), (2, .int x), (3, .int y), (4, .int c), (5, .int d)] [.int (bI (decide (y = 1))), .int x, .ref (a 0)] := by
      refine z_xfi C hR hL CL HT (wr := []) (wf := WX a g) (u0 := s) (As := [.int x, .int (bI (decide (y = 1)))]) (c_X4_withdraw l hst D a g ea s x (bI (decide (y = 1))) _ _ (X_withdraw hS x (decide (y = 1)))) gL_act_X4_withdraw rfl ⟨by decide +kernel, by decide +kernel, (show (parseMethodDescriptor yX4_withdraw.desc).map (fun d => d.parameters.length) = some 2 from by decide +kernel)⟩ ⟨Nat.le_of_ble_eq_true rfl, Nat.le_of_ble_eq_true rfl⟩ ⟨Nat.le_of_ble_eq_true rfl, Nat.le_of_ble_eq_true rfl⟩ 0 4 rfl rfl rfl rfl (Nat.le_of_ble_eq_true rfl) dL_act_81 (fun E u hx => ?_) (fun r u hk => ?_)
      · obtain ⟨k, h1, h2, h3⟩ := hx
        match k, h1, h2, h3 with
        | 0, h1, h2, h3 =>
          cases h2
          exact KB _ u _ _ (by decide) (by rw [ha]; exact zfin_1 h1 h3) (Nat.le_of_ble_eq_true rfl) (Nat.le_of_ble_eq_true rfl)
        | k + 1, _, h2, _ => cases h2
      · refine z_if_eq C 91 dL_act_84 (by decide) (fun hc => ?_) (fun hc => ?_)
        · refine z_lconst C 0 dL_act_91 (by decide) ?_
          refine z_goto C 228 dL_act_92 (by decide) ?_
          exact KN 0 u _ _ (by rw [ha]; exact zfin_ok (by rw [if_pos hc] at hk; exact hk)) (Nat.le_of_ble_eq_true rfl) (Nat.le_of_ble_eq_true rfl)
        · refine z_lconst C 1 dL_act_87 (by decide) ?_
          refine z_goto C 228 dL_act_88 (by decide) ?_
          exact KN 1 u _ _ (by rw [ha]; exact zfin_ok (by rw [if_neg hc] at hk; exact hk)) (Nat.le_of_ble_eq_true rfl) (Nat.le_of_ble_eq_true rfl)
    refine z_iload_n C 3 dL_act_71 rfl ?_
    refine z_iconst C 1 dL_act_72 (by decide) ?_
    refine z_icmp_ne C 80 dL_act_73 (by decide) (fun hc => ?_) (fun hc => ?_)
    · rw [decide_eq_false hc] at K9
      exact z_iconst C 0 dL_act_80 (by decide) K9
    · rw [decide_eq_true hc] at K9
      refine z_iconst C 1 dL_act_76 (by decide) ?_
      exact z_goto C 81 dL_act_77 (by decide) K9
  intro h3
  refine z_iload_n C 1 dL_act_95 rfl ?_
  refine z_iconst C 4 dL_act_96 (by decide) ?_
  refine z_icmp_ne C 109 dL_act_97 (by decide) ?_ ?_
  rotate_left
  · intro e4
    have ha : aAct A P w x y c d = zfin (oClean A P x) zcA 0 0 := by unfold aAct; rw [if_neg h0, if_neg h1, if_neg h2, if_neg h3, if_pos e4]
    refine z_aload_n C 0 dL_act_100 rfl ?_
    refine z_iload_n C 2 dL_act_101 rfl ?_
    refine z_xfi C hR hL CL HT (wr := []) (wf := WX a g) (u0 := s) (As := [.int x]) (c_X4_clean l hst D a g ea s x _ _ (X_clean hS x)) gL_act_X4_clean rfl ⟨by decide +kernel, by decide +kernel, (show (parseMethodDescriptor yX4_clean.desc).map (fun d => d.parameters.length) = some 1 from by decide +kernel)⟩ ⟨Nat.le_of_ble_eq_true rfl, Nat.le_of_ble_eq_true rfl⟩ ⟨Nat.le_of_ble_eq_true rfl, Nat.le_of_ble_eq_true rfl⟩ 0 4 rfl rfl rfl rfl (Nat.le_of_ble_eq_true rfl) dL_act_102 (fun E u hx => ?_) (fun r u hk => ?_)
    · obtain ⟨k, h1, h2, h3⟩ := hx
      match k, h1, h2, h3 with
      | 0, h1, h2, h3 =>
        cases h2
        exact KA _ u _ _ (by decide) (by rw [ha]; exact zfin_1 h1 h3) (Nat.le_of_ble_eq_true rfl) (Nat.le_of_ble_eq_true rfl)
      | k + 1, _, h2, _ => cases h2
    · refine z_i2l C dL_act_105 ?_
      refine z_goto C 228 dL_act_106 (by decide) ?_
      exact KN r.toInt64 u _ _ (by rw [ha]; exact zfin_ok hk) (Nat.le_of_ble_eq_true rfl) (Nat.le_of_ble_eq_true rfl)
  intro h4
  refine z_iload_n C 1 dL_act_109 rfl ?_
  refine z_iconst C 5 dL_act_110 (by decide) ?_
  refine z_icmp_ne C 123 dL_act_111 (by decide) ?_ ?_
  rotate_left
  · intro e5
    have ha : aAct A P w x y c d = zfin (oGo A P x) zcB zcS 0 := by unfold aAct; rw [if_neg h0, if_neg h1, if_neg h2, if_neg h3, if_neg h4, if_pos e5]
    refine z_aload_n C 0 dL_act_114 rfl ?_
    refine z_iload_n C 2 dL_act_115 rfl ?_
    refine z_xfi C hR hL CL HT (wr := []) (wf := WX a g) (u0 := s) (As := [.int x]) (c_X4_go l hst D a g ea s x _ _ (X_go hS x)) gL_act_X4_go rfl ⟨by decide +kernel, by decide +kernel, (show (parseMethodDescriptor yX4_go.desc).map (fun d => d.parameters.length) = some 1 from by decide +kernel)⟩ ⟨Nat.le_of_ble_eq_true rfl, Nat.le_of_ble_eq_true rfl⟩ ⟨Nat.le_of_ble_eq_true rfl, Nat.le_of_ble_eq_true rfl⟩ 0 4 rfl rfl rfl rfl (Nat.le_of_ble_eq_true rfl) dL_act_116 (fun E u hx => ?_) (fun r u hk => ?_)
    · obtain ⟨k, h1, h2, h3⟩ := hx
      match k, h1, h2, h3 with
      | 0, h1, h2, h3 =>
        cases h2
        exact KB _ u _ _ (by decide) (by rw [ha]; exact zfin_1 h1 h3) (Nat.le_of_ble_eq_true rfl) (Nat.le_of_ble_eq_true rfl)
      | 1, h1, h2, h3 =>
        cases h2
        exact KS _ u _ _ (by decide) (by rw [ha]; exact zfin_2 h1 h3) (Nat.le_of_ble_eq_true rfl) (Nat.le_of_ble_eq_true rfl)
      | k + 2, _, h2, _ => cases h2
    · refine z_i2l C dL_act_119 ?_
      refine z_goto C 228 dL_act_120 (by decide) ?_
      exact KN r.toInt64 u _ _ (by rw [ha]; exact zfin_ok hk) (Nat.le_of_ble_eq_true rfl) (Nat.le_of_ble_eq_true rfl)
  intro h5
  refine z_iload_n C 1 dL_act_123 rfl ?_
  refine z_bipush C 6 dL_act_124 (by decide) ?_
  refine z_icmp_ne C 137 dL_act_126 (by decide) ?_ ?_
  rotate_left
  · intro e6
    have ha : aAct A P w x y c d = zfin (oSt A P (aHgt A) x) zcB 0 0 := by unfold aAct; rw [if_neg h0, if_neg h1, if_neg h2, if_neg h3, if_neg h4, if_neg h5, if_pos e6]
    refine z_aload_n C 0 dL_act_129 rfl ?_
    refine z_iload_n C 2 dL_act_130 rfl ?_
    refine z_xfl C hR hL CL HT (wr := []) (wf := WX a g) (u0 := s) (As := [.int x]) (c_X4_height l hst D a g ea s x _ _ (X_height hS x)) gL_act_X4_height rfl ⟨by decide +kernel, by decide +kernel, (show (parseMethodDescriptor yX4_height.desc).map (fun d => d.parameters.length) = some 1 from by decide +kernel)⟩ ⟨Nat.le_of_ble_eq_true rfl, Nat.le_of_ble_eq_true rfl⟩ ⟨Nat.le_of_ble_eq_true rfl, Nat.le_of_ble_eq_true rfl⟩ 0 4 rfl rfl rfl rfl (Nat.le_of_ble_eq_true rfl) dL_act_131 (fun E u hx => ?_) (fun r u hk => ?_)
    · obtain ⟨k, h1, h2, h3⟩ := hx
      match k, h1, h2, h3 with
      | 0, h1, h2, h3 =>
        cases h2
        exact KB _ u _ _ (by decide) (by rw [ha]; exact zfin_1 h1 h3) (Nat.le_of_ble_eq_true rfl) (Nat.le_of_ble_eq_true rfl)
      | k + 1, _, h2, _ => cases h2
    · refine z_goto C 228 dL_act_134 (by decide) ?_
      exact KN r u _ _ (by rw [ha]; exact zfin_ok hk) (Nat.le_of_ble_eq_true rfl) (Nat.le_of_ble_eq_true rfl)
  intro h6
  refine z_iload_n C 1 dL_act_137 rfl ?_
  refine z_bipush C 7 dL_act_138 (by decide) ?_
  refine z_icmp_ne C 151 dL_act_140 (by decide) ?_ ?_
  rotate_left
  · intro e7
    have ha : aAct A P w x y c d = zfin (oSt A P (aHgt A) x) zcB 0 0 := by unfold aAct; rw [if_neg h0, if_neg h1, if_neg h2, if_neg h3, if_neg h4, if_neg h5, if_neg h6, if_pos e7]
    refine z_aload_n C 0 dL_act_143 rfl ?_
    refine z_iload_n C 2 dL_act_144 rfl ?_
    refine z_xfl C hR hL CL HT (wr := []) (wf := WX a g) (u0 := s) (As := [.int x]) (c_X4_heightAnew l hst D a g ea s x _ _ (X_heightAnew hS x)) gL_act_X4_heightAnew rfl ⟨by decide +kernel, by decide +kernel, (show (parseMethodDescriptor yX4_heightAnew.desc).map (fun d => d.parameters.length) = some 1 from by decide +kernel)⟩ ⟨Nat.le_of_ble_eq_true rfl, Nat.le_of_ble_eq_true rfl⟩ ⟨Nat.le_of_ble_eq_true rfl, Nat.le_of_ble_eq_true rfl⟩ 0 4 rfl rfl rfl rfl (Nat.le_of_ble_eq_true rfl) dL_act_145 (fun E u hx => ?_) (fun r u hk => ?_)
    · obtain ⟨k, h1, h2, h3⟩ := hx
      match k, h1, h2, h3 with
      | 0, h1, h2, h3 =>
        cases h2
        exact KB _ u _ _ (by decide) (by rw [ha]; exact zfin_1 h1 h3) (Nat.le_of_ble_eq_true rfl) (Nat.le_of_ble_eq_true rfl)
      | k + 1, _, h2, _ => cases h2
    · refine z_goto C 228 dL_act_148 (by decide) ?_
      exact KN r u _ _ (by rw [ha]; exact zfin_ok hk) (Nat.le_of_ble_eq_true rfl) (Nat.le_of_ble_eq_true rfl)
  intro h7
  refine z_iload_n C 1 dL_act_151 rfl ?_
  refine z_bipush C 8 dL_act_152 (by decide) ?_
  refine z_icmp_ne C 165 dL_act_154 (by decide) ?_ ?_
  rotate_left
  · intro e8
    have ha : aAct A P w x y c d = zfin (oSt A P (aFre A) x) zcB 0 0 := by unfold aAct; rw [if_neg h0, if_neg h1, if_neg h2, if_neg h3, if_neg h4, if_neg h5, if_neg h6, if_neg h7, if_pos e8]
    refine z_aload_n C 0 dL_act_157 rfl ?_
    refine z_iload_n C 2 dL_act_158 rfl ?_
    refine z_xfl C hR hL CL HT (wr := []) (wf := WX a g) (u0 := s) (As := [.int x]) (c_X4_free l hst D a g ea s x _ _ (X_free hS x)) gL_act_X4_free rfl ⟨by decide +kernel, by decide +kernel, (show (parseMethodDescriptor yX4_free.desc).map (fun d => d.parameters.length) = some 1 from by decide +kernel)⟩ ⟨Nat.le_of_ble_eq_true rfl, Nat.le_of_ble_eq_true rfl⟩ ⟨Nat.le_of_ble_eq_true rfl, Nat.le_of_ble_eq_true rfl⟩ 0 4 rfl rfl rfl rfl (Nat.le_of_ble_eq_true rfl) dL_act_159 (fun E u hx => ?_) (fun r u hk => ?_)
    · obtain ⟨k, h1, h2, h3⟩ := hx
      match k, h1, h2, h3 with
      | 0, h1, h2, h3 =>
        cases h2
        exact KB _ u _ _ (by decide) (by rw [ha]; exact zfin_1 h1 h3) (Nat.le_of_ble_eq_true rfl) (Nat.le_of_ble_eq_true rfl)
      | k + 1, _, h2, _ => cases h2
    · refine z_goto C 228 dL_act_162 (by decide) ?_
      exact KN r u _ _ (by rw [ha]; exact zfin_ok hk) (Nat.le_of_ble_eq_true rfl) (Nat.le_of_ble_eq_true rfl)
  intro h8
  refine z_iload_n C 1 dL_act_165 rfl ?_
  refine z_bipush C 9 dL_act_166 (by decide) ?_
  refine z_icmp_ne C 179 dL_act_168 (by decide) ?_ ?_
  rotate_left
  · intro e9
    have ha : aAct A P w x y c d = zfin (oOb A P (aRes A) x) zcB zcS 0 := by unfold aAct; rw [if_neg h0, if_neg h1, if_neg h2, if_neg h3, if_neg h4, if_neg h5, if_neg h6, if_neg h7, if_neg h8, if_pos e9]
    refine z_aload_n C 0 dL_act_171 rfl ?_
    refine z_iload_n C 2 dL_act_172 rfl ?_
    refine z_xfl C hR hL CL HT (wr := []) (wf := WX a g) (u0 := s) (As := [.int x]) (c_X4_residual l hst D a g ea s x _ _ (X_residual hS x)) gL_act_X4_residual rfl ⟨by decide +kernel, by decide +kernel, (show (parseMethodDescriptor yX4_residual.desc).map (fun d => d.parameters.length) = some 1 from by decide +kernel)⟩ ⟨Nat.le_of_ble_eq_true rfl, Nat.le_of_ble_eq_true rfl⟩ ⟨Nat.le_of_ble_eq_true rfl, Nat.le_of_ble_eq_true rfl⟩ 0 4 rfl rfl rfl rfl (Nat.le_of_ble_eq_true rfl) dL_act_173 (fun E u hx => ?_) (fun r u hk => ?_)
    · obtain ⟨k, h1, h2, h3⟩ := hx
      match k, h1, h2, h3 with
      | 0, h1, h2, h3 =>
        cases h2
        exact KB _ u _ _ (by decide) (by rw [ha]; exact zfin_1 h1 h3) (Nat.le_of_ble_eq_true rfl) (Nat.le_of_ble_eq_true rfl)
      | 1, h1, h2, h3 =>
        cases h2
        exact KS _ u _ _ (by decide) (by rw [ha]; exact zfin_2 h1 h3) (Nat.le_of_ble_eq_true rfl) (Nat.le_of_ble_eq_true rfl)
      | k + 2, _, h2, _ => cases h2
    · refine z_goto C 228 dL_act_176 (by decide) ?_
      exact KN r u _ _ (by rw [ha]; exact zfin_ok hk) (Nat.le_of_ble_eq_true rfl) (Nat.le_of_ble_eq_true rfl)
  intro h9
  refine z_iload_n C 1 dL_act_179 rfl ?_
  refine z_bipush C 10 dL_act_180 (by decide) ?_
  refine z_icmp_ne C 194 dL_act_182 (by decide) ?_ ?_
  rotate_left
  · intro e10
    have ha : aAct A P w x y c d = zfin (oOb A P (aChk A) x) zcB zcS 0 := by unfold aAct; rw [if_neg h0, if_neg h1, if_neg h2, if_neg h3, if_neg h4, if_neg h5, if_neg h6, if_neg h7, if_neg h8, if_neg h9, if_pos e10]
    refine z_aload_n C 0 dL_act_185 rfl ?_
    refine z_iload_n C 2 dL_act_186 rfl ?_
    refine z_xfi C hR hL CL HT (wr := []) (wf := WX a g) (u0 := s) (As := [.int x]) (c_X4_check l hst D a g ea s x _ _ (X_check hS x)) gL_act_X4_check rfl ⟨by decide +kernel, by decide +kernel, (show (parseMethodDescriptor yX4_check.desc).map (fun d => d.parameters.length) = some 1 from by decide +kernel)⟩ ⟨Nat.le_of_ble_eq_true rfl, Nat.le_of_ble_eq_true rfl⟩ ⟨Nat.le_of_ble_eq_true rfl, Nat.le_of_ble_eq_true rfl⟩ 0 4 rfl rfl rfl rfl (Nat.le_of_ble_eq_true rfl) dL_act_187 (fun E u hx => ?_) (fun r u hk => ?_)
    · obtain ⟨k, h1, h2, h3⟩ := hx
      match k, h1, h2, h3 with
      | 0, h1, h2, h3 =>
        cases h2
        exact KB _ u _ _ (by decide) (by rw [ha]; exact zfin_1 h1 h3) (Nat.le_of_ble_eq_true rfl) (Nat.le_of_ble_eq_true rfl)
      | 1, h1, h2, h3 =>
        cases h2
        exact KS _ u _ _ (by decide) (by rw [ha]; exact zfin_2 h1 h3) (Nat.le_of_ble_eq_true rfl) (Nat.le_of_ble_eq_true rfl)
      | k + 2, _, h2, _ => cases h2
    · refine z_i2l C dL_act_190 ?_
      refine z_goto C 228 dL_act_191 (by decide) ?_
      exact KN r.toInt64 u _ _ (by rw [ha]; exact zfin_ok hk) (Nat.le_of_ble_eq_true rfl) (Nat.le_of_ble_eq_true rfl)
  intro h10
  refine z_iload_n C 1 dL_act_194 rfl ?_
  refine z_bipush C 11 dL_act_195 (by decide) ?_
  refine z_icmp_ne C 209 dL_act_197 (by decide) ?_ ?_
  rotate_left
  · intro e11
    have ha : aAct A P w x y c d = zfin (oOb A P (aChk A) x) zcB zcS 0 := by unfold aAct; rw [if_neg h0, if_neg h1, if_neg h2, if_neg h3, if_neg h4, if_neg h5, if_neg h6, if_neg h7, if_neg h8, if_neg h9, if_neg h10, if_pos e11]
    refine z_aload_n C 0 dL_act_200 rfl ?_
    refine z_iload_n C 2 dL_act_201 rfl ?_
    refine z_xfi C hR hL CL HT (wr := []) (wf := WX a g) (u0 := s) (As := [.int x]) (c_X4_checkAnew l hst D a g ea s x _ _ (X_checkAnew hS x)) gL_act_X4_checkAnew rfl ⟨by decide +kernel, by decide +kernel, (show (parseMethodDescriptor yX4_checkAnew.desc).map (fun d => d.parameters.length) = some 1 from by decide +kernel)⟩ ⟨Nat.le_of_ble_eq_true rfl, Nat.le_of_ble_eq_true rfl⟩ ⟨Nat.le_of_ble_eq_true rfl, Nat.le_of_ble_eq_true rfl⟩ 0 4 rfl rfl rfl rfl (Nat.le_of_ble_eq_true rfl) dL_act_202 (fun E u hx => ?_) (fun r u hk => ?_)
    · obtain ⟨k, h1, h2, h3⟩ := hx
      match k, h1, h2, h3 with
      | 0, h1, h2, h3 =>
        cases h2
        exact KB _ u _ _ (by decide) (by rw [ha]; exact zfin_1 h1 h3) (Nat.le_of_ble_eq_true rfl) (Nat.le_of_ble_eq_true rfl)
      | 1, h1, h2, h3 =>
        cases h2
        exact KS _ u _ _ (by decide) (by rw [ha]; exact zfin_2 h1 h3) (Nat.le_of_ble_eq_true rfl) (Nat.le_of_ble_eq_true rfl)
      | k + 2, _, h2, _ => cases h2
    · refine z_i2l C dL_act_205 ?_
      refine z_goto C 228 dL_act_206 (by decide) ?_
      exact KN r.toInt64 u _ _ (by rw [ha]; exact zfin_ok hk) (Nat.le_of_ble_eq_true rfl) (Nat.le_of_ble_eq_true rfl)
  intro h11
  refine z_iload_n C 1 dL_act_209 rfl ?_
  refine z_bipush C 12 dL_act_210 (by decide) ?_
  refine z_icmp_ne C 223 dL_act_212 (by decide) ?_ ?_
  rotate_left
  · intro e12
    have ha : aAct A P w x y c d = zfin (oOb A P (aScr A) x) zcB zcS 0 := by unfold aAct; rw [if_neg h0, if_neg h1, if_neg h2, if_neg h3, if_neg h4, if_neg h5, if_neg h6, if_neg h7, if_neg h8, if_neg h9, if_neg h10, if_neg h11, if_pos e12]
    refine z_aload_n C 0 dL_act_215 rfl ?_
    refine z_iload_n C 2 dL_act_216 rfl ?_
    refine z_xfl C hR hL CL HT (wr := []) (wf := WX a g) (u0 := s) (As := [.int x]) (c_X4_score l hst D a g ea s x _ _ (X_score hS x)) gL_act_X4_score rfl ⟨by decide +kernel, by decide +kernel, (show (parseMethodDescriptor yX4_score.desc).map (fun d => d.parameters.length) = some 1 from by decide +kernel)⟩ ⟨Nat.le_of_ble_eq_true rfl, Nat.le_of_ble_eq_true rfl⟩ ⟨Nat.le_of_ble_eq_true rfl, Nat.le_of_ble_eq_true rfl⟩ 0 4 rfl rfl rfl rfl (Nat.le_of_ble_eq_true rfl) dL_act_217 (fun E u hx => ?_) (fun r u hk => ?_)
    · obtain ⟨k, h1, h2, h3⟩ := hx
      match k, h1, h2, h3 with
      | 0, h1, h2, h3 =>
        cases h2
        exact KB _ u _ _ (by decide) (by rw [ha]; exact zfin_1 h1 h3) (Nat.le_of_ble_eq_true rfl) (Nat.le_of_ble_eq_true rfl)
      | 1, h1, h2, h3 =>
        cases h2
        exact KS _ u _ _ (by decide) (by rw [ha]; exact zfin_2 h1 h3) (Nat.le_of_ble_eq_true rfl) (Nat.le_of_ble_eq_true rfl)
      | k + 2, _, h2, _ => cases h2
    · refine z_goto C 228 dL_act_220 (by decide) ?_
      exact KN r u _ _ (by rw [ha]; exact zfin_ok hk) (Nat.le_of_ble_eq_true rfl) (Nat.le_of_ble_eq_true rfl)
  intro h12
  have ha : aAct A P w x y c d = zfin (oSt A P (fun t => pT A t 14) x) zcB 0 0 := by unfold aAct; rw [if_neg h0, if_neg h1, if_neg h2, if_neg h3, if_neg h4, if_neg h5, if_neg h6, if_neg h7, if_neg h8, if_neg h9, if_neg h10, if_neg h11, if_neg h12]
  refine z_aload_n C 0 dL_act_223 rfl ?_
  refine z_iload_n C 2 dL_act_224 rfl ?_
  refine z_xfl C hR hL CL HT (wr := []) (wf := WX a g) (u0 := s) (As := [.int x]) (c_X4_trees l hst D a g ea s x _ _ (X_trees hS x)) gL_act_X4_trees rfl ⟨by decide +kernel, by decide +kernel, (show (parseMethodDescriptor yX4_trees.desc).map (fun d => d.parameters.length) = some 1 from by decide +kernel)⟩ ⟨Nat.le_of_ble_eq_true rfl, Nat.le_of_ble_eq_true rfl⟩ ⟨Nat.le_of_ble_eq_true rfl, Nat.le_of_ble_eq_true rfl⟩ 0 4 rfl rfl rfl rfl (Nat.le_of_ble_eq_true rfl) dL_act_225 (fun E u hx => ?_) (fun r u hk => ?_)
  · obtain ⟨k, h1, h2, h3⟩ := hx
    match k, h1, h2, h3 with
    | 0, h1, h2, h3 =>
      cases h2
      exact KB _ u _ _ (by decide) (by rw [ha]; exact zfin_1 h1 h3) (Nat.le_of_ble_eq_true rfl) (Nat.le_of_ble_eq_true rfl)
    | k + 1, _, h2, _ => cases h2
  · exact KN r u _ _ (by rw [ha]; exact zfin_ok hk) (Nat.le_of_ble_eq_true rfl) (Nat.le_of_ble_eq_true rfl)
theorem and7 (v : Int32) : 0 ≤ (v &&& 2147483647).toInt := by
  have h : (v &&& 2147483647).toBitVec.toNat ≤ 2147483647 := by
    rw [Int32.toBitVec_and, BitVec.toNat_and]
    exact Nat.and_le_right
  have e : (v &&& 2147483647).toInt = ((v &&& 2147483647).toBitVec.toNat : Int) := by
    show (v &&& 2147483647).toBitVec.toInt = _
    exact BitVec.toInt_eq_toNat_of_lt (by omega)
  omega
set_option maxHeartbeats 4000000 in
set_option maxRecDepth 100000 in
theorem c_L_dice (l : Launch) (D : va_G) (a : Nat → Nat) (g : Nat → ClassId) (mo to eo : Nat) (m t e : Nat → Int32) (s : zS) (b L : Nat) (xs : Nat → Int32) (hLL : L ≤ 260) (k : Int32) (hk : 0 ≤ k.toInt) : zDc l D (zT g) yL_dice wsL_dice ({ frames := 0, cells := 0, slots := 0, locals := 0 } : Room) [.ref b, .int k] b L xs (fun q => zFr g mo to eo m t e ++ WX a g q) s (fun r u => 0 ≤ r.toInt ∧ s = u) := by
  refine zDc_start (cc := cL_dice) (maxL := 2) (lv0 := [(0, .ref b), (1, .int k)]) (own := RL) rfl (by decide +kernel) rfl (Nat.le_of_ble_eq_true rfl) rfl (fun X C hR hL SC hE => ?_)
  have K : ∀ v : Int32, zV X D 2 0 0 (zFr g mo to eo m t e ++ WX a g s) 32 [(0, .ref b), (1, .int k)] [.int v] := by
    intro v
    refine z_ldc C 2147483647 (List.mem_of_getElem? (i := 2) rfl) dL_dice_32 ?_
    refine z_iand C dL_dice_34 ?_
    exact hE _ _ _ s _ _ dL_dice_35 rfl (Nat.le_refl _) (Nat.le_refl _) ⟨and7 v, rfl⟩
  refine z_iload_n C 1 dL_dice_0 rfl ?_
  refine z_aload_n C 0 dL_dice_1 rfl ?_
  refine z_slen C SC dL_dice_2 ?_
  refine z_icmp_ge C 12 dL_dice_3 (by decide) (fun hc => ?_) (fun hc => ?_)
  · refine z_ldc C 1744701421 (List.mem_of_getElem? (i := 1) rfl) dL_dice_12 ?_
    refine z_iload_n C 1 dL_dice_14 rfl ?_
    refine z_sipush C 587 dL_dice_15 (by decide) ?_
    refine z_iadd C dL_dice_18 ?_
    refine z_imul C dL_dice_19 ?_
    refine z_sipush C 933 dL_dice_20 (by decide) ?_
    refine z_iload_n C 1 dL_dice_23 rfl ?_
    refine z_imul C dL_dice_24 ?_
    refine z_iload_n C 1 dL_dice_25 rfl ?_
    refine z_imul C dL_dice_26 ?_
    refine z_iadd C dL_dice_27 ?_
    refine z_sipush C 443 dL_dice_28 (by decide) ?_
    refine z_iadd C dL_dice_31 ?_
    exact K _
  · have hin : vp_in k L := by
      rw [Int32.le_iff_toInt_le, show (Int32.ofNat L).toInt = (L : Int) from nI_toInt (by omega)] at hc
      intro h
      rcases h with h | h
      · rw [Int32.lt_iff_toInt_lt] at h
        have h0 : (0 : Int32).toInt = 0 := rfl
        omega
      · rw [show k.toNatClampNeg = k.toInt.toNat from rfl] at h
        omega
    refine z_aload_n C 0 dL_dice_6 rfl ?_
    refine z_iload_n C 1 dL_dice_7 rfl ?_
    refine z_sld C SC hin dL_dice_8 ?_
    refine z_goto C 32 dL_dice_9 (by decide) ?_
    exact K _
/-! pieces for the law's walk -/
theorem oSt_of {A : zNt} {P : zPa} {f : Nat → Int} {x : Int32} {j : Nat} (hA : zok A) (hj : j < nnn A) (ej : x = nI j) : oSt A P f x = (0, lI (f j), A, P) := by
  have hn := hA.1
  unfold oSt
  rw [ej, zopt_s hj (by omega)]
theorem oOb_of {A : zNt} {P : zPa} {f : Nat → Int} {x : Int32} {j : Nat} (hA : zok A) (hj : j < nko A) (hw : nwd A j = false) (ej : x = nI j) : oOb A P f x = (0, lI (f j), A, P) := by
  have hn := hA.2.1
  unfold oOb
  rw [ej, zopt_s hj (by omega)]
  dsimp only
  rw [hw, if_neg (by decide)]
theorem oX_no {O : zOp} {v : Int64} {A : zNt} {P : zPa} {ns : List String} {E : String} {u : zS} (h : O = (0, v, A, P)) (hx : exX O ns E u) : False := by
  obtain ⟨k, h1, -⟩ := hx
  rw [h] at h1
  cases h1
theorem oX_l {O : zOp} {v r : Int64} {A : zNt} {P : zPa} {u : zS} (h : O = (0, v, A, P)) (hk : okX O r u) : r = v ∧ ST A P u := by
  rw [h] at hk
  exact ⟨hk.2.1, hk.2.2⟩
theorem oX_i {O : zOp} {v : Int} {r : Int32} {A : zNt} {P : zPa} {u : zS} (h : O = (0, lI v, A, P)) (hk : okX O r.toInt64 u) : r = iI v ∧ ST A P u := by
  rw [h] at hk
  refine ⟨?_, hk.2.2⟩
  have h1 : r.toInt64.toInt32 = (lI v).toInt32 := congrArg _ hk.2.1
  rw [lI_i, Int32.toInt32_toInt64] at h1
  exact h1
theorem act_same {A A1 : zNt} {P P1 : zPa} {w x y c d : Int32} {r : Int64} {u : zS} (e : aAct A P w x y c d = (r, A1, P1)) (hS : ST A1 P1 u) (h : (aAct A P w x y c d).2 = (A, P)) : aAct A P w x y c d = (r, A, P) ∧ ST A P u := by
  rw [e] at h
  have h1 : A1 = A := congrArg Prod.fst h
  have h2 : P1 = P := congrArg Prod.snd h
  rw [h1, h2] at e hS
  exact ⟨e, hS⟩
end ZACT
