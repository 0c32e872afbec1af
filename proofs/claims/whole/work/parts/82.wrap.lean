/-! THE WRAPPERS: each calls the class, catches what it throws, and answers which -/
section ZWR
def zWO (a : Nat → Nat) (g : Nat → ClassId) (o : Nat) : zS × (Nat → Int64) → va_W := fun q => [(o, .inl (g 2, 1, .inr (.inl q.2)))] ++ WX a g q.1
def wpO (O : zOp) (r : Int32) (u : zS × (Nat → Int64)) : Prop := r = nI O.1 ∧ O.1 ≤ 3 ∧ (O.1 = 0 → u.2 0 = O.2.1) ∧ ST O.2.2.1 O.2.2.2 u.1
theorem wp_ok {O : zOp} {v : Int64} {s : zS} {f : Nat → Int64} (h : okX O v s) : wpO O 0 (s, vp_updL f 0 v) := ⟨by rw [h.1]; rfl, by rw [h.1]; exact Nat.zero_le 3, fun _ => (if_pos rfl : vp_updL f 0 v 0 = v).trans h.2.1, h.2.2⟩
theorem wp_ex {O : zOp} {k : Nat} {r : Int32} {s : zS} {f : Nat → Int64} (hr : r = nI (k + 1)) (h9 : k + 1 ≤ 3) (h1 : O.1 = k + 1) (h3 : ST O.2.2.1 O.2.2.2 s) : wpO O r (s, f) := ⟨by rw [h1]; exact hr, by rw [h1]; exact h9, (fun h => absurd (h1.symm.trans h) (Nat.succ_ne_zero k)), h3⟩
set_option maxHeartbeats 4000000 in
set_option maxRecDepth 100000 in
theorem c_L_station (l : Launch) (hst : l.stackTraces = false) (D : va_G) (a : Nat → Nat) (g : Nat → ClassId) (ea : Nat → Nat) (o : Nat) (s : zS) (f : Nat → Int64)  (O : zOp) (hw : W_X4_station s  (fun r => okX O r.toInt64) (exX O [nISE])) : zWi l D (zT g) ea yL_station wsL_station ({ frames := 7, cells := 1, slots := 6, locals := 108 } : Room) [.ref (a 0), .ref o] (zWO a g o) (s, f) (wpO O) := by
  refine zWi_start (cc := cL_station) (maxL := 3) (lv0 := [(0, .ref (a 0)), (1, .ref o)]) (own := RL) hst rfl (by decide +kernel) rfl (Nat.le_of_ble_eq_true rfl) rfl (fun X C hR hL CL HT hE => ?_)
  refine z_aload_n C 1 dL_station_0 rfl ?_
  refine z_iconst C 0 dL_station_1 (by decide) ?_
  refine z_aload_n C 0 dL_station_2 rfl ?_
  refine z_xfi C hR hL CL HT (wr := [(o, .inl (g 2, 1, .inr (.inl f)))]) (wf := WX a g) (u0 := s) (As := []) (c_X4_station l hst D a g ea s  _ _ hw) gL_station_X4_station rfl ⟨by decide +kernel, by decide +kernel, (show (parseMethodDescriptor yX4_station.desc).map (fun d => d.parameters.length) = some 0 from by decide +kernel)⟩ ⟨Nat.le_of_ble_eq_true rfl, Nat.le_of_ble_eq_true rfl⟩ ⟨Nat.le_of_ble_eq_true rfl, Nat.le_of_ble_eq_true rfl⟩ 0 4 rfl rfl rfl rfl (Nat.le_of_ble_eq_true rfl) dL_station_3 (fun E u hx => ?_) (fun r u hk => ?_)
  · obtain ⟨k, h1, h2, h3⟩ := hx
    match k, h1, h2, h3 with
    | 0, h1, h2, h3 =>
      cases h2
      refine ⟨11, ⟨[], ⟨0, 8, 11, 13⟩, [], rfl, fun z hz => absurd hz List.not_mem_nil, by decide, by decide, List.mem_of_getElem? (i := 1) rfl, fun _ h => h.1, rfl⟩, fun q9 => ?_⟩
      refine z_astore_n C 2 dL_station_11 rfl (by decide) rfl ?_
      refine z_iconst C 1 dL_station_12 (by decide) ?_
      exact hE _ _ _ (u, f) _ _ dL_station_13 rfl (Nat.le_of_ble_eq_true rfl) (Nat.le_of_ble_eq_true rfl) (wp_ex (k := 0) rfl (Nat.le_of_ble_eq_true rfl) h1 h3)
    | k + 1, _, h2, _ => cases h2
  · refine z_i2l C dL_station_6 ?_
    refine z_last C 0 2 rfl rfl (show ¬ (_ ∨ _) from by decide) dL_station_7 (show _ = zWO a g o (u, vp_updL f 0 r.toInt64) from rfl) ?_
    refine z_goto C 14 dL_station_8 (by decide) ?_
    refine z_iconst C 0 dL_station_14 (by decide) ?_
    exact hE _ _ _ (u, vp_updL f 0 r.toInt64) _ _ dL_station_15 rfl (Nat.le_of_ble_eq_true rfl) (Nat.le_of_ble_eq_true rfl) (wp_ok hk)
set_option maxHeartbeats 4000000 in
set_option maxRecDepth 100000 in
theorem c_L_datum (l : Launch) (hst : l.stackTraces = false) (D : va_G) (a : Nat → Nat) (g : Nat → ClassId) (ea : Nat → Nat) (o : Nat) (s : zS) (f : Nat → Int64) (p0 : Int32) (p1 : Int32) (p2 : Int32) (O : zOp) (hw : W_X4_datum s p0 p1 p2 (fun r => okX O (if r = 0 then 0 else 1)) (exX O [nIOB, nIAE])) : zWi l D (zT g) ea yL_datum wsL_datum ({ frames := 8, cells := 2, slots := 12, locals := 130 } : Room) [.ref (a 0), .int p0, .int p1, .int p2, .ref o] (zWO a g o) (s, f) (wpO O) := by
  refine zWi_start (cc := cL_datum) (maxL := 6) (lv0 := [(0, .ref (a 0)), (1, .int p0), (2, .int p1), (3, .int p2), (4, .ref o)]) (own := RL) hst rfl (by decide +kernel) rfl (Nat.le_of_ble_eq_true rfl) rfl (fun X C hR hL CL HT hE => ?_)
  refine z_aload C 4 dL_datum_0 rfl ?_
  refine z_iconst C 0 dL_datum_2 (by decide) ?_
  refine z_aload_n C 0 dL_datum_3 rfl ?_
  refine z_iload_n C 1 dL_datum_4 rfl ?_
  refine z_iload_n C 2 dL_datum_5 rfl ?_
  refine z_iload_n C 3 dL_datum_6 rfl ?_
  refine z_xfi C hR hL CL HT (wr := [(o, .inl (g 2, 1, .inr (.inl f)))]) (wf := WX a g) (u0 := s) (As := [.int p0, .int p1, .int p2]) (c_X4_datum l hst D a g ea s p0 p1 p2 _ _ hw) gL_datum_X4_datum rfl ⟨by decide +kernel, by decide +kernel, (show (parseMethodDescriptor yX4_datum.desc).map (fun d => d.parameters.length) = some 3 from by decide +kernel)⟩ ⟨Nat.le_of_ble_eq_true rfl, Nat.le_of_ble_eq_true rfl⟩ ⟨Nat.le_of_ble_eq_true rfl, Nat.le_of_ble_eq_true rfl⟩ 0 4 rfl rfl rfl rfl (Nat.le_of_ble_eq_true rfl) dL_datum_7 (fun E u hx => ?_) (fun r u hk => ?_)
  · obtain ⟨k, h1, h2, h3⟩ := hx
    match k, h1, h2, h3 with
    | 0, h1, h2, h3 =>
      cases h2
      refine ⟨22, ⟨[], ⟨0, 19, 22, 19⟩, [⟨0, 19, 26, 21⟩], rfl, fun z hz => absurd hz List.not_mem_nil, by decide, by decide, List.mem_of_getElem? (i := 1) rfl, fun _ h => h.2.2.1, rfl⟩, fun q9 => ?_⟩
      refine z_astore C dL_datum_22 (by decide) rfl ?_
      refine z_iconst C 1 dL_datum_24 (by decide) ?_
      exact hE _ _ _ (u, f) _ _ dL_datum_25 rfl (Nat.le_of_ble_eq_true rfl) (Nat.le_of_ble_eq_true rfl) (wp_ex (k := 0) rfl (Nat.le_of_ble_eq_true rfl) h1 h3)
    | 1, h1, h2, h3 =>
      cases h2
      refine ⟨26, ⟨[⟨0, 19, 22, 19⟩], ⟨0, 19, 26, 21⟩, [], rfl, fun z hz => (List.mem_cons.mp hz).elim (fun e => by subst e; exact ⟨by decide, nIOB, List.mem_of_getElem? (i := 1) rfl, fun _ h => h.1⟩) (fun hz => absurd hz List.not_mem_nil), by decide, by decide, List.mem_of_getElem? (i := 2) rfl, fun _ h => h.2.1, rfl⟩, fun q9 => ?_⟩
      refine z_astore C dL_datum_26 (by decide) rfl ?_
      refine z_iconst C 2 dL_datum_28 (by decide) ?_
      exact hE _ _ _ (u, f) _ _ dL_datum_29 rfl (Nat.le_of_ble_eq_true rfl) (Nat.le_of_ble_eq_true rfl) (wp_ex (k := 1) rfl (Nat.le_of_ble_eq_true rfl) h1 h3)
    | k + 2, _, h2, _ => cases h2
  · refine z_if_eq C 17 dL_datum_10 (by decide) (fun hc => ?_) (fun hc => ?_)
    · refine z_lconst C 0 dL_datum_17 (by decide) ?_
      refine z_last C 0 2 rfl rfl (show ¬ (_ ∨ _) from by decide) dL_datum_18 (show _ = zWO a g o (u, vp_updL f 0 0) from rfl) ?_
      refine z_goto C 30 dL_datum_19 (by decide) ?_
      refine z_iconst C 0 dL_datum_30 (by decide) ?_
      exact hE _ _ _ (u, vp_updL f 0 0) _ _ dL_datum_31 rfl (Nat.le_of_ble_eq_true rfl) (Nat.le_of_ble_eq_true rfl) (wp_ok (by rw [if_pos hc] at hk; exact hk))
    · refine z_lconst C 1 dL_datum_13 (by decide) ?_
      refine z_goto C 18 dL_datum_14 (by decide) ?_
      refine z_last C 0 2 rfl rfl (show ¬ (_ ∨ _) from by decide) dL_datum_18 (show _ = zWO a g o (u, vp_updL f 0 1) from rfl) ?_
      refine z_goto C 30 dL_datum_19 (by decide) ?_
      refine z_iconst C 0 dL_datum_30 (by decide) ?_
      exact hE _ _ _ (u, vp_updL f 0 1) _ _ dL_datum_31 rfl (Nat.le_of_ble_eq_true rfl) (Nat.le_of_ble_eq_true rfl) (wp_ok (by rw [if_neg hc] at hk; exact hk))
set_option maxHeartbeats 4000000 in
set_option maxRecDepth 100000 in
theorem c_L_observe (l : Launch) (hst : l.stackTraces = false) (D : va_G) (a : Nat → Nat) (g : Nat → ClassId) (ea : Nat → Nat) (o : Nat) (s : zS) (f : Nat → Int64) (p0 : Int32) (p1 : Int32) (p2 : Int32) (p3 : Int32) (O : zOp) (hw : W_X4_observe s p0 p1 p2 p3 (fun r => okX O r.toInt64) (exX O [nIOB, nIAE, nISE])) : zWi l D (zT g) ea yL_observe wsL_observe ({ frames := 8, cells := 3, slots := 18, locals := 131 } : Room) [.ref (a 0), .int p0, .int p1, .int p2, .int p3, .ref o] (zWO a g o) (s, f) (wpO O) := by
  refine zWi_start (cc := cL_observe) (maxL := 7) (lv0 := [(0, .ref (a 0)), (1, .int p0), (2, .int p1), (3, .int p2), (4, .int p3), (5, .ref o)]) (own := RL) hst rfl (by decide +kernel) rfl (Nat.le_of_ble_eq_true rfl) rfl (fun X C hR hL CL HT hE => ?_)
  refine z_aload C 5 dL_observe_0 rfl ?_
  refine z_iconst C 0 dL_observe_2 (by decide) ?_
  refine z_aload_n C 0 dL_observe_3 rfl ?_
  refine z_iload_n C 1 dL_observe_4 rfl ?_
  refine z_iload_n C 2 dL_observe_5 rfl ?_
  refine z_iload_n C 3 dL_observe_6 rfl ?_
  refine z_iload C 4 dL_observe_7 rfl ?_
  refine z_xfi C hR hL CL HT (wr := [(o, .inl (g 2, 1, .inr (.inl f)))]) (wf := WX a g) (u0 := s) (As := [.int p0, .int p1, .int p2, .int p3]) (c_X4_observe l hst D a g ea s p0 p1 p2 p3 _ _ hw) gL_observe_X4_observe rfl ⟨by decide +kernel, by decide +kernel, (show (parseMethodDescriptor yX4_observe.desc).map (fun d => d.parameters.length) = some 4 from by decide +kernel)⟩ ⟨Nat.le_of_ble_eq_true rfl, Nat.le_of_ble_eq_true rfl⟩ ⟨Nat.le_of_ble_eq_true rfl, Nat.le_of_ble_eq_true rfl⟩ 0 4 rfl rfl rfl rfl (Nat.le_of_ble_eq_true rfl) dL_observe_9 (fun E u hx => ?_) (fun r u hk => ?_)
  · obtain ⟨k, h1, h2, h3⟩ := hx
    match k, h1, h2, h3 with
    | 0, h1, h2, h3 =>
      cases h2
      refine ⟨17, ⟨[], ⟨0, 14, 17, 19⟩, [⟨0, 14, 21, 21⟩, ⟨0, 14, 25, 13⟩], rfl, fun z hz => absurd hz List.not_mem_nil, by decide, by decide, List.mem_of_getElem? (i := 1) rfl, fun _ h => h.2.2.1, rfl⟩, fun q9 => ?_⟩
      refine z_astore C dL_observe_17 (by decide) rfl ?_
      refine z_iconst C 1 dL_observe_19 (by decide) ?_
      exact hE _ _ _ (u, f) _ _ dL_observe_20 rfl (Nat.le_of_ble_eq_true rfl) (Nat.le_of_ble_eq_true rfl) (wp_ex (k := 0) rfl (Nat.le_of_ble_eq_true rfl) h1 h3)
    | 1, h1, h2, h3 =>
      cases h2
      refine ⟨21, ⟨[⟨0, 14, 17, 19⟩], ⟨0, 14, 21, 21⟩, [⟨0, 14, 25, 13⟩], rfl, fun z hz => (List.mem_cons.mp hz).elim (fun e => by subst e; exact ⟨by decide, nIOB, List.mem_of_getElem? (i := 1) rfl, fun _ h => h.1⟩) (fun hz => absurd hz List.not_mem_nil), by decide, by decide, List.mem_of_getElem? (i := 2) rfl, fun _ h => h.2.1, rfl⟩, fun q9 => ?_⟩
      refine z_astore C dL_observe_21 (by decide) rfl ?_
      refine z_iconst C 2 dL_observe_23 (by decide) ?_
      exact hE _ _ _ (u, f) _ _ dL_observe_24 rfl (Nat.le_of_ble_eq_true rfl) (Nat.le_of_ble_eq_true rfl) (wp_ex (k := 1) rfl (Nat.le_of_ble_eq_true rfl) h1 h3)
    | 2, h1, h2, h3 =>
      cases h2
      refine ⟨25, ⟨[⟨0, 14, 17, 19⟩, ⟨0, 14, 21, 21⟩], ⟨0, 14, 25, 13⟩, [], rfl, fun z hz => (List.mem_cons.mp hz).elim (fun e => by subst e; exact ⟨by decide, nIOB, List.mem_of_getElem? (i := 1) rfl, fun _ h => h.2.1⟩) (fun hz => (List.mem_cons.mp hz).elim (fun e => by subst e; exact ⟨by decide, nIAE, List.mem_of_getElem? (i := 2) rfl, fun _ h => h.2.2⟩) (fun hz => absurd hz List.not_mem_nil)), by decide, by decide, List.mem_of_getElem? (i := 3) rfl, fun _ h => h.1, rfl⟩, fun q9 => ?_⟩
      refine z_astore C dL_observe_25 (by decide) rfl ?_
      refine z_iconst C 3 dL_observe_27 (by decide) ?_
      exact hE _ _ _ (u, f) _ _ dL_observe_28 rfl (Nat.le_of_ble_eq_true rfl) (Nat.le_of_ble_eq_true rfl) (wp_ex (k := 2) rfl (Nat.le_of_ble_eq_true rfl) h1 h3)
    | k + 3, _, h2, _ => cases h2
  · refine z_i2l C dL_observe_12 ?_
    refine z_last C 0 2 rfl rfl (show ¬ (_ ∨ _) from by decide) dL_observe_13 (show _ = zWO a g o (u, vp_updL f 0 r.toInt64) from rfl) ?_
    refine z_goto C 29 dL_observe_14 (by decide) ?_
    refine z_iconst C 0 dL_observe_29 (by decide) ?_
    exact hE _ _ _ (u, vp_updL f 0 r.toInt64) _ _ dL_observe_30 rfl (Nat.le_of_ble_eq_true rfl) (Nat.le_of_ble_eq_true rfl) (wp_ok hk)
set_option maxHeartbeats 4000000 in
set_option maxRecDepth 100000 in
theorem c_L_withdraw (l : Launch) (hst : l.stackTraces = false) (D : va_G) (a : Nat → Nat) (g : Nat → ClassId) (ea : Nat → Nat) (o : Nat) (s : zS) (f : Nat → Int64) (p0 : Int32) (p1 : Int32) (O : zOp) (hw : W_X4_withdraw s p0 p1 (fun r => okX O (if r = 0 then 0 else 1)) (exX O [nIOB])) : zWi l D (zT g) ea yL_withdraw wsL_withdraw ({ frames := 8, cells := 1, slots := 6, locals := 129 } : Room) [.ref (a 0), .int p0, .int p1, .ref o] (zWO a g o) (s, f) (wpO O) := by
  refine zWi_start (cc := cL_withdraw) (maxL := 5) (lv0 := [(0, .ref (a 0)), (1, .int p0), (2, .int p1), (3, .ref o)]) (own := RL) hst rfl (by decide +kernel) rfl (Nat.le_of_ble_eq_true rfl) rfl (fun X C hR hL CL HT hE => ?_)
  refine z_aload_n C 3 dL_withdraw_0 rfl ?_
  refine z_iconst C 0 dL_withdraw_1 (by decide) ?_
  refine z_aload_n C 0 dL_withdraw_2 rfl ?_
  refine z_iload_n C 1 dL_withdraw_3 rfl ?_
  refine z_iload_n C 2 dL_withdraw_4 rfl ?_
  refine z_xfi C hR hL CL HT (wr := [(o, .inl (g 2, 1, .inr (.inl f)))]) (wf := WX a g) (u0 := s) (As := [.int p0, .int p1]) (c_X4_withdraw l hst D a g ea s p0 p1 _ _ hw) gL_withdraw_X4_withdraw rfl ⟨by decide +kernel, by decide +kernel, (show (parseMethodDescriptor yX4_withdraw.desc).map (fun d => d.parameters.length) = some 2 from by decide +kernel)⟩ ⟨Nat.le_of_ble_eq_true rfl, Nat.le_of_ble_eq_true rfl⟩ ⟨Nat.le_of_ble_eq_true rfl, Nat.le_of_ble_eq_true rfl⟩ 0 4 rfl rfl rfl rfl (Nat.le_of_ble_eq_true rfl) dL_withdraw_5 (fun E u hx => ?_) (fun r u hk => ?_)
  · obtain ⟨k, h1, h2, h3⟩ := hx
    match k, h1, h2, h3 with
    | 0, h1, h2, h3 =>
      cases h2
      refine ⟨20, ⟨[], ⟨0, 17, 20, 19⟩, [], rfl, fun z hz => absurd hz List.not_mem_nil, by decide, by decide, List.mem_of_getElem? (i := 1) rfl, fun _ h => h.2.2.1, rfl⟩, fun q9 => ?_⟩
      refine z_astore C dL_withdraw_20 (by decide) rfl ?_
      refine z_iconst C 1 dL_withdraw_22 (by decide) ?_
      exact hE _ _ _ (u, f) _ _ dL_withdraw_23 rfl (Nat.le_of_ble_eq_true rfl) (Nat.le_of_ble_eq_true rfl) (wp_ex (k := 0) rfl (Nat.le_of_ble_eq_true rfl) h1 h3)
    | k + 1, _, h2, _ => cases h2
  · refine z_if_eq C 15 dL_withdraw_8 (by decide) (fun hc => ?_) (fun hc => ?_)
    · refine z_lconst C 0 dL_withdraw_15 (by decide) ?_
      refine z_last C 0 2 rfl rfl (show ¬ (_ ∨ _) from by decide) dL_withdraw_16 (show _ = zWO a g o (u, vp_updL f 0 0) from rfl) ?_
      refine z_goto C 24 dL_withdraw_17 (by decide) ?_
      refine z_iconst C 0 dL_withdraw_24 (by decide) ?_
      exact hE _ _ _ (u, vp_updL f 0 0) _ _ dL_withdraw_25 rfl (Nat.le_of_ble_eq_true rfl) (Nat.le_of_ble_eq_true rfl) (wp_ok (by rw [if_pos hc] at hk; exact hk))
    · refine z_lconst C 1 dL_withdraw_11 (by decide) ?_
      refine z_goto C 16 dL_withdraw_12 (by decide) ?_
      refine z_last C 0 2 rfl rfl (show ¬ (_ ∨ _) from by decide) dL_withdraw_16 (show _ = zWO a g o (u, vp_updL f 0 1) from rfl) ?_
      refine z_goto C 24 dL_withdraw_17 (by decide) ?_
      refine z_iconst C 0 dL_withdraw_24 (by decide) ?_
      exact hE _ _ _ (u, vp_updL f 0 1) _ _ dL_withdraw_25 rfl (Nat.le_of_ble_eq_true rfl) (Nat.le_of_ble_eq_true rfl) (wp_ok (by rw [if_neg hc] at hk; exact hk))
set_option maxHeartbeats 4000000 in
set_option maxRecDepth 100000 in
theorem c_L_clean (l : Launch) (hst : l.stackTraces = false) (D : va_G) (a : Nat → Nat) (g : Nat → ClassId) (ea : Nat → Nat) (o : Nat) (s : zS) (f : Nat → Int64) (p0 : Int32) (O : zOp) (hw : W_X4_clean s p0 (fun r => okX O r.toInt64) (exX O [nIAE])) : zWi l D (zT g) ea yL_clean wsL_clean ({ frames := 7, cells := 1, slots := 6, locals := 178 } : Room) [.ref (a 0), .int p0, .ref o] (zWO a g o) (s, f) (wpO O) := by
  refine zWi_start (cc := cL_clean) (maxL := 4) (lv0 := [(0, .ref (a 0)), (1, .int p0), (2, .ref o)]) (own := RL) hst rfl (by decide +kernel) rfl (Nat.le_of_ble_eq_true rfl) rfl (fun X C hR hL CL HT hE => ?_)
  refine z_aload_n C 2 dL_clean_0 rfl ?_
  refine z_iconst C 0 dL_clean_1 (by decide) ?_
  refine z_aload_n C 0 dL_clean_2 rfl ?_
  refine z_iload_n C 1 dL_clean_3 rfl ?_
  refine z_xfi C hR hL CL HT (wr := [(o, .inl (g 2, 1, .inr (.inl f)))]) (wf := WX a g) (u0 := s) (As := [.int p0]) (c_X4_clean l hst D a g ea s p0 _ _ hw) gL_clean_X4_clean rfl ⟨by decide +kernel, by decide +kernel, (show (parseMethodDescriptor yX4_clean.desc).map (fun d => d.parameters.length) = some 1 from by decide +kernel)⟩ ⟨Nat.le_of_ble_eq_true rfl, Nat.le_of_ble_eq_true rfl⟩ ⟨Nat.le_of_ble_eq_true rfl, Nat.le_of_ble_eq_true rfl⟩ 0 4 rfl rfl rfl rfl (Nat.le_of_ble_eq_true rfl) dL_clean_4 (fun E u hx => ?_) (fun r u hk => ?_)
  · obtain ⟨k, h1, h2, h3⟩ := hx
    match k, h1, h2, h3 with
    | 0, h1, h2, h3 =>
      cases h2
      refine ⟨12, ⟨[], ⟨0, 9, 12, 21⟩, [], rfl, fun z hz => absurd hz List.not_mem_nil, by decide, by decide, List.mem_of_getElem? (i := 1) rfl, fun _ h => h.2.1, rfl⟩, fun q9 => ?_⟩
      refine z_astore_n C 3 dL_clean_12 rfl (by decide) rfl ?_
      refine z_iconst C 1 dL_clean_13 (by decide) ?_
      exact hE _ _ _ (u, f) _ _ dL_clean_14 rfl (Nat.le_of_ble_eq_true rfl) (Nat.le_of_ble_eq_true rfl) (wp_ex (k := 0) rfl (Nat.le_of_ble_eq_true rfl) h1 h3)
    | k + 1, _, h2, _ => cases h2
  · refine z_i2l C dL_clean_7 ?_
    refine z_last C 0 2 rfl rfl (show ¬ (_ ∨ _) from by decide) dL_clean_8 (show _ = zWO a g o (u, vp_updL f 0 r.toInt64) from rfl) ?_
    refine z_goto C 15 dL_clean_9 (by decide) ?_
    refine z_iconst C 0 dL_clean_15 (by decide) ?_
    exact hE _ _ _ (u, vp_updL f 0 r.toInt64) _ _ dL_clean_16 rfl (Nat.le_of_ble_eq_true rfl) (Nat.le_of_ble_eq_true rfl) (wp_ok hk)
set_option maxHeartbeats 4000000 in
set_option maxRecDepth 100000 in
theorem c_L_go (l : Launch) (hst : l.stackTraces = false) (D : va_G) (a : Nat → Nat) (g : Nat → ClassId) (ea : Nat → Nat) (o : Nat) (s : zS) (f : Nat → Int64) (p0 : Int32) (O : zOp) (hw : W_X4_go s p0 (fun r => okX O r.toInt64) (exX O [nIOB, nISE])) : zWi l D (zT g) ea yL_go wsL_go ({ frames := 8, cells := 2, slots := 12, locals := 129 } : Room) [.ref (a 0), .int p0, .ref o] (zWO a g o) (s, f) (wpO O) := by
  refine zWi_start (cc := cL_go) (maxL := 4) (lv0 := [(0, .ref (a 0)), (1, .int p0), (2, .ref o)]) (own := RL) hst rfl (by decide +kernel) rfl (Nat.le_of_ble_eq_true rfl) rfl (fun X C hR hL CL HT hE => ?_)
  refine z_aload_n C 2 dL_go_0 rfl ?_
  refine z_iconst C 0 dL_go_1 (by decide) ?_
  refine z_aload_n C 0 dL_go_2 rfl ?_
  refine z_iload_n C 1 dL_go_3 rfl ?_
  refine z_xfi C hR hL CL HT (wr := [(o, .inl (g 2, 1, .inr (.inl f)))]) (wf := WX a g) (u0 := s) (As := [.int p0]) (c_X4_go l hst D a g ea s p0 _ _ hw) gL_go_X4_go rfl ⟨by decide +kernel, by decide +kernel, (show (parseMethodDescriptor yX4_go.desc).map (fun d => d.parameters.length) = some 1 from by decide +kernel)⟩ ⟨Nat.le_of_ble_eq_true rfl, Nat.le_of_ble_eq_true rfl⟩ ⟨Nat.le_of_ble_eq_true rfl, Nat.le_of_ble_eq_true rfl⟩ 0 4 rfl rfl rfl rfl (Nat.le_of_ble_eq_true rfl) dL_go_4 (fun E u hx => ?_) (fun r u hk => ?_)
  · obtain ⟨k, h1, h2, h3⟩ := hx
    match k, h1, h2, h3 with
    | 0, h1, h2, h3 =>
      cases h2
      refine ⟨12, ⟨[], ⟨0, 9, 12, 19⟩, [⟨0, 9, 15, 13⟩], rfl, fun z hz => absurd hz List.not_mem_nil, by decide, by decide, List.mem_of_getElem? (i := 1) rfl, fun _ h => h.2.2.1, rfl⟩, fun q9 => ?_⟩
      refine z_astore_n C 3 dL_go_12 rfl (by decide) rfl ?_
      refine z_iconst C 1 dL_go_13 (by decide) ?_
      exact hE _ _ _ (u, f) _ _ dL_go_14 rfl (Nat.le_of_ble_eq_true rfl) (Nat.le_of_ble_eq_true rfl) (wp_ex (k := 0) rfl (Nat.le_of_ble_eq_true rfl) h1 h3)
    | 1, h1, h2, h3 =>
      cases h2
      refine ⟨15, ⟨[⟨0, 9, 12, 19⟩], ⟨0, 9, 15, 13⟩, [], rfl, fun z hz => (List.mem_cons.mp hz).elim (fun e => by subst e; exact ⟨by decide, nIOB, List.mem_of_getElem? (i := 1) rfl, fun _ h => h.2.1⟩) (fun hz => absurd hz List.not_mem_nil), by decide, by decide, List.mem_of_getElem? (i := 2) rfl, fun _ h => h.1, rfl⟩, fun q9 => ?_⟩
      refine z_astore_n C 3 dL_go_15 rfl (by decide) rfl ?_
      refine z_iconst C 2 dL_go_16 (by decide) ?_
      exact hE _ _ _ (u, f) _ _ dL_go_17 rfl (Nat.le_of_ble_eq_true rfl) (Nat.le_of_ble_eq_true rfl) (wp_ex (k := 1) rfl (Nat.le_of_ble_eq_true rfl) h1 h3)
    | k + 2, _, h2, _ => cases h2
  · refine z_i2l C dL_go_7 ?_
    refine z_last C 0 2 rfl rfl (show ¬ (_ ∨ _) from by decide) dL_go_8 (show _ = zWO a g o (u, vp_updL f 0 r.toInt64) from rfl) ?_
    refine z_goto C 18 dL_go_9 (by decide) ?_
    refine z_iconst C 0 dL_go_18 (by decide) ?_
    exact hE _ _ _ (u, vp_updL f 0 r.toInt64) _ _ dL_go_19 rfl (Nat.le_of_ble_eq_true rfl) (Nat.le_of_ble_eq_true rfl) (wp_ok hk)
set_option maxHeartbeats 4000000 in
set_option maxRecDepth 100000 in
theorem c_L_height (l : Launch) (hst : l.stackTraces = false) (D : va_G) (a : Nat → Nat) (g : Nat → ClassId) (ea : Nat → Nat) (o : Nat) (s : zS) (f : Nat → Int64) (p0 : Int32) (O : zOp) (hw : W_X4_height s p0 (fun r => okX O r) (exX O [nIOB])) : zWi l D (zT g) ea yL_height wsL_height ({ frames := 8, cells := 1, slots := 6, locals := 128 } : Room) [.ref (a 0), .int p0, .ref o] (zWO a g o) (s, f) (wpO O) := by
  refine zWi_start (cc := cL_height) (maxL := 4) (lv0 := [(0, .ref (a 0)), (1, .int p0), (2, .ref o)]) (own := RL) hst rfl (by decide +kernel) rfl (Nat.le_of_ble_eq_true rfl) rfl (fun X C hR hL CL HT hE => ?_)
  refine z_aload_n C 2 dL_height_0 rfl ?_
  refine z_iconst C 0 dL_height_1 (by decide) ?_
  refine z_aload_n C 0 dL_height_2 rfl ?_
  refine z_iload_n C 1 dL_height_3 rfl ?_
  refine z_xfl C hR hL CL HT (wr := [(o, .inl (g 2, 1, .inr (.inl f)))]) (wf := WX a g) (u0 := s) (As := [.int p0]) (c_X4_height l hst D a g ea s p0 _ _ hw) gL_height_X4_height rfl ⟨by decide +kernel, by decide +kernel, (show (parseMethodDescriptor yX4_height.desc).map (fun d => d.parameters.length) = some 1 from by decide +kernel)⟩ ⟨Nat.le_of_ble_eq_true rfl, Nat.le_of_ble_eq_true rfl⟩ ⟨Nat.le_of_ble_eq_true rfl, Nat.le_of_ble_eq_true rfl⟩ 0 4 rfl rfl rfl rfl (Nat.le_of_ble_eq_true rfl) dL_height_4 (fun E u hx => ?_) (fun r u hk => ?_)
  · obtain ⟨k, h1, h2, h3⟩ := hx
    match k, h1, h2, h3 with
    | 0, h1, h2, h3 =>
      cases h2
      refine ⟨11, ⟨[], ⟨0, 8, 11, 19⟩, [], rfl, fun z hz => absurd hz List.not_mem_nil, by decide, by decide, List.mem_of_getElem? (i := 1) rfl, fun _ h => h.2.2.1, rfl⟩, fun q9 => ?_⟩
      refine z_astore_n C 3 dL_height_11 rfl (by decide) rfl ?_
      refine z_iconst C 1 dL_height_12 (by decide) ?_
      exact hE _ _ _ (u, f) _ _ dL_height_13 rfl (Nat.le_of_ble_eq_true rfl) (Nat.le_of_ble_eq_true rfl) (wp_ex (k := 0) rfl (Nat.le_of_ble_eq_true rfl) h1 h3)
    | k + 1, _, h2, _ => cases h2
  · skip
    refine z_last C 0 2 rfl rfl (show ¬ (_ ∨ _) from by decide) dL_height_7 (show _ = zWO a g o (u, vp_updL f 0 r) from rfl) ?_
    refine z_goto C 14 dL_height_8 (by decide) ?_
    refine z_iconst C 0 dL_height_14 (by decide) ?_
    exact hE _ _ _ (u, vp_updL f 0 r) _ _ dL_height_15 rfl (Nat.le_of_ble_eq_true rfl) (Nat.le_of_ble_eq_true rfl) (wp_ok hk)
set_option maxHeartbeats 4000000 in
set_option maxRecDepth 100000 in
theorem c_L_heightAnew (l : Launch) (hst : l.stackTraces = false) (D : va_G) (a : Nat → Nat) (g : Nat → ClassId) (ea : Nat → Nat) (o : Nat) (s : zS) (f : Nat → Int64) (p0 : Int32) (O : zOp) (hw : W_X4_heightAnew s p0 (fun r => okX O r) (exX O [nIOB])) : zWi l D (zT g) ea yL_heightAnew wsL_heightAnew ({ frames := 13, cells := 1, slots := 6, locals := 322 } : Room) [.ref (a 0), .int p0, .ref o] (zWO a g o) (s, f) (wpO O) := by
  refine zWi_start (cc := cL_heightAnew) (maxL := 4) (lv0 := [(0, .ref (a 0)), (1, .int p0), (2, .ref o)]) (own := RL) hst rfl (by decide +kernel) rfl (Nat.le_of_ble_eq_true rfl) rfl (fun X C hR hL CL HT hE => ?_)
  refine z_aload_n C 2 dL_heightAnew_0 rfl ?_
  refine z_iconst C 0 dL_heightAnew_1 (by decide) ?_
  refine z_aload_n C 0 dL_heightAnew_2 rfl ?_
  refine z_iload_n C 1 dL_heightAnew_3 rfl ?_
  refine z_xfl C hR hL CL HT (wr := [(o, .inl (g 2, 1, .inr (.inl f)))]) (wf := WX a g) (u0 := s) (As := [.int p0]) (c_X4_heightAnew l hst D a g ea s p0 _ _ hw) gL_heightAnew_X4_heightAnew rfl ⟨by decide +kernel, by decide +kernel, (show (parseMethodDescriptor yX4_heightAnew.desc).map (fun d => d.parameters.length) = some 1 from by decide +kernel)⟩ ⟨Nat.le_of_ble_eq_true rfl, Nat.le_of_ble_eq_true rfl⟩ ⟨Nat.le_of_ble_eq_true rfl, Nat.le_of_ble_eq_true rfl⟩ 0 4 rfl rfl rfl rfl (Nat.le_of_ble_eq_true rfl) dL_heightAnew_4 (fun E u hx => ?_) (fun r u hk => ?_)
  · obtain ⟨k, h1, h2, h3⟩ := hx
    match k, h1, h2, h3 with
    | 0, h1, h2, h3 =>
      cases h2
      refine ⟨11, ⟨[], ⟨0, 8, 11, 19⟩, [], rfl, fun z hz => absurd hz List.not_mem_nil, by decide, by decide, List.mem_of_getElem? (i := 1) rfl, fun _ h => h.2.2.1, rfl⟩, fun q9 => ?_⟩
      refine z_astore_n C 3 dL_heightAnew_11 rfl (by decide) rfl ?_
      refine z_iconst C 1 dL_heightAnew_12 (by decide) ?_
      exact hE _ _ _ (u, f) _ _ dL_heightAnew_13 rfl (Nat.le_of_ble_eq_true rfl) (Nat.le_of_ble_eq_true rfl) (wp_ex (k := 0) rfl (Nat.le_of_ble_eq_true rfl) h1 h3)
    | k + 1, _, h2, _ => cases h2
  · skip
    refine z_last C 0 2 rfl rfl (show ¬ (_ ∨ _) from by decide) dL_heightAnew_7 (show _ = zWO a g o (u, vp_updL f 0 r) from rfl) ?_
    refine z_goto C 14 dL_heightAnew_8 (by decide) ?_
    refine z_iconst C 0 dL_heightAnew_14 (by decide) ?_
    exact hE _ _ _ (u, vp_updL f 0 r) _ _ dL_heightAnew_15 rfl (Nat.le_of_ble_eq_true rfl) (Nat.le_of_ble_eq_true rfl) (wp_ok hk)
set_option maxHeartbeats 4000000 in
set_option maxRecDepth 100000 in
theorem c_L_free (l : Launch) (hst : l.stackTraces = false) (D : va_G) (a : Nat → Nat) (g : Nat → ClassId) (ea : Nat → Nat) (o : Nat) (s : zS) (f : Nat → Int64) (p0 : Int32) (O : zOp) (hw : W_X4_free s p0 (fun r => okX O r) (exX O [nIOB])) : zWi l D (zT g) ea yL_free wsL_free ({ frames := 8, cells := 1, slots := 6, locals := 128 } : Room) [.ref (a 0), .int p0, .ref o] (zWO a g o) (s, f) (wpO O) := by
  refine zWi_start (cc := cL_free) (maxL := 4) (lv0 := [(0, .ref (a 0)), (1, .int p0), (2, .ref o)]) (own := RL) hst rfl (by decide +kernel) rfl (Nat.le_of_ble_eq_true rfl) rfl (fun X C hR hL CL HT hE => ?_)
  refine z_aload_n C 2 dL_free_0 rfl ?_
  refine z_iconst C 0 dL_free_1 (by decide) ?_
  refine z_aload_n C 0 dL_free_2 rfl ?_
  refine z_iload_n C 1 dL_free_3 rfl ?_
  refine z_xfl C hR hL CL HT (wr := [(o, .inl (g 2, 1, .inr (.inl f)))]) (wf := WX a g) (u0 := s) (As := [.int p0]) (c_X4_free l hst D a g ea s p0 _ _ hw) gL_free_X4_free rfl ⟨by decide +kernel, by decide +kernel, (show (parseMethodDescriptor yX4_free.desc).map (fun d => d.parameters.length) = some 1 from by decide +kernel)⟩ ⟨Nat.le_of_ble_eq_true rfl, Nat.le_of_ble_eq_true rfl⟩ ⟨Nat.le_of_ble_eq_true rfl, Nat.le_of_ble_eq_true rfl⟩ 0 4 rfl rfl rfl rfl (Nat.le_of_ble_eq_true rfl) dL_free_4 (fun E u hx => ?_) (fun r u hk => ?_)
  · obtain ⟨k, h1, h2, h3⟩ := hx
    match k, h1, h2, h3 with
    | 0, h1, h2, h3 =>
      cases h2
      refine ⟨11, ⟨[], ⟨0, 8, 11, 19⟩, [], rfl, fun z hz => absurd hz List.not_mem_nil, by decide, by decide, List.mem_of_getElem? (i := 1) rfl, fun _ h => h.2.2.1, rfl⟩, fun q9 => ?_⟩
      refine z_astore_n C 3 dL_free_11 rfl (by decide) rfl ?_
      refine z_iconst C 1 dL_free_12 (by decide) ?_
      exact hE _ _ _ (u, f) _ _ dL_free_13 rfl (Nat.le_of_ble_eq_true rfl) (Nat.le_of_ble_eq_true rfl) (wp_ex (k := 0) rfl (Nat.le_of_ble_eq_true rfl) h1 h3)
    | k + 1, _, h2, _ => cases h2
  · skip
    refine z_last C 0 2 rfl rfl (show ¬ (_ ∨ _) from by decide) dL_free_7 (show _ = zWO a g o (u, vp_updL f 0 r) from rfl) ?_
    refine z_goto C 14 dL_free_8 (by decide) ?_
    refine z_iconst C 0 dL_free_14 (by decide) ?_
    exact hE _ _ _ (u, vp_updL f 0 r) _ _ dL_free_15 rfl (Nat.le_of_ble_eq_true rfl) (Nat.le_of_ble_eq_true rfl) (wp_ok hk)
set_option maxHeartbeats 4000000 in
set_option maxRecDepth 100000 in
theorem c_L_residual (l : Launch) (hst : l.stackTraces = false) (D : va_G) (a : Nat → Nat) (g : Nat → ClassId) (ea : Nat → Nat) (o : Nat) (s : zS) (f : Nat → Int64) (p0 : Int32) (O : zOp) (hw : W_X4_residual s p0 (fun r => okX O r) (exX O [nIOB, nISE])) : zWi l D (zT g) ea yL_residual wsL_residual ({ frames := 9, cells := 2, slots := 12, locals := 149 } : Room) [.ref (a 0), .int p0, .ref o] (zWO a g o) (s, f) (wpO O) := by
  refine zWi_start (cc := cL_residual) (maxL := 4) (lv0 := [(0, .ref (a 0)), (1, .int p0), (2, .ref o)]) (own := RL) hst rfl (by decide +kernel) rfl (Nat.le_of_ble_eq_true rfl) rfl (fun X C hR hL CL HT hE => ?_)
  refine z_aload_n C 2 dL_residual_0 rfl ?_
  refine z_iconst C 0 dL_residual_1 (by decide) ?_
  refine z_aload_n C 0 dL_residual_2 rfl ?_
  refine z_iload_n C 1 dL_residual_3 rfl ?_
  refine z_xfl C hR hL CL HT (wr := [(o, .inl (g 2, 1, .inr (.inl f)))]) (wf := WX a g) (u0 := s) (As := [.int p0]) (c_X4_residual l hst D a g ea s p0 _ _ hw) gL_residual_X4_residual rfl ⟨by decide +kernel, by decide +kernel, (show (parseMethodDescriptor yX4_residual.desc).map (fun d => d.parameters.length) = some 1 from by decide +kernel)⟩ ⟨Nat.le_of_ble_eq_true rfl, Nat.le_of_ble_eq_true rfl⟩ ⟨Nat.le_of_ble_eq_true rfl, Nat.le_of_ble_eq_true rfl⟩ 0 4 rfl rfl rfl rfl (Nat.le_of_ble_eq_true rfl) dL_residual_4 (fun E u hx => ?_) (fun r u hk => ?_)
  · obtain ⟨k, h1, h2, h3⟩ := hx
    match k, h1, h2, h3 with
    | 0, h1, h2, h3 =>
      cases h2
      refine ⟨11, ⟨[], ⟨0, 8, 11, 19⟩, [⟨0, 8, 14, 13⟩], rfl, fun z hz => absurd hz List.not_mem_nil, by decide, by decide, List.mem_of_getElem? (i := 1) rfl, fun _ h => h.2.2.1, rfl⟩, fun q9 => ?_⟩
      refine z_astore_n C 3 dL_residual_11 rfl (by decide) rfl ?_
      refine z_iconst C 1 dL_residual_12 (by decide) ?_
      exact hE _ _ _ (u, f) _ _ dL_residual_13 rfl (Nat.le_of_ble_eq_true rfl) (Nat.le_of_ble_eq_true rfl) (wp_ex (k := 0) rfl (Nat.le_of_ble_eq_true rfl) h1 h3)
    | 1, h1, h2, h3 =>
      cases h2
      refine ⟨14, ⟨[⟨0, 8, 11, 19⟩], ⟨0, 8, 14, 13⟩, [], rfl, fun z hz => (List.mem_cons.mp hz).elim (fun e => by subst e; exact ⟨by decide, nIOB, List.mem_of_getElem? (i := 1) rfl, fun _ h => h.2.1⟩) (fun hz => absurd hz List.not_mem_nil), by decide, by decide, List.mem_of_getElem? (i := 2) rfl, fun _ h => h.1, rfl⟩, fun q9 => ?_⟩
      refine z_astore_n C 3 dL_residual_14 rfl (by decide) rfl ?_
      refine z_iconst C 2 dL_residual_15 (by decide) ?_
      exact hE _ _ _ (u, f) _ _ dL_residual_16 rfl (Nat.le_of_ble_eq_true rfl) (Nat.le_of_ble_eq_true rfl) (wp_ex (k := 1) rfl (Nat.le_of_ble_eq_true rfl) h1 h3)
    | k + 2, _, h2, _ => cases h2
  · skip
    refine z_last C 0 2 rfl rfl (show ¬ (_ ∨ _) from by decide) dL_residual_7 (show _ = zWO a g o (u, vp_updL f 0 r) from rfl) ?_
    refine z_goto C 17 dL_residual_8 (by decide) ?_
    refine z_iconst C 0 dL_residual_17 (by decide) ?_
    exact hE _ _ _ (u, vp_updL f 0 r) _ _ dL_residual_18 rfl (Nat.le_of_ble_eq_true rfl) (Nat.le_of_ble_eq_true rfl) (wp_ok hk)
set_option maxHeartbeats 4000000 in
set_option maxRecDepth 100000 in
theorem c_L_check (l : Launch) (hst : l.stackTraces = false) (D : va_G) (a : Nat → Nat) (g : Nat → ClassId) (ea : Nat → Nat) (o : Nat) (s : zS) (f : Nat → Int64) (p0 : Int32) (O : zOp) (hw : W_X4_check s p0 (fun r => okX O r.toInt64) (exX O [nIOB, nISE])) : zWi l D (zT g) ea yL_check wsL_check ({ frames := 9, cells := 2, slots := 12, locals := 149 } : Room) [.ref (a 0), .int p0, .ref o] (zWO a g o) (s, f) (wpO O) := by
  refine zWi_start (cc := cL_check) (maxL := 4) (lv0 := [(0, .ref (a 0)), (1, .int p0), (2, .ref o)]) (own := RL) hst rfl (by decide +kernel) rfl (Nat.le_of_ble_eq_true rfl) rfl (fun X C hR hL CL HT hE => ?_)
  refine z_aload_n C 2 dL_check_0 rfl ?_
  refine z_iconst C 0 dL_check_1 (by decide) ?_
  refine z_aload_n C 0 dL_check_2 rfl ?_
  refine z_iload_n C 1 dL_check_3 rfl ?_
  refine z_xfi C hR hL CL HT (wr := [(o, .inl (g 2, 1, .inr (.inl f)))]) (wf := WX a g) (u0 := s) (As := [.int p0]) (c_X4_check l hst D a g ea s p0 _ _ hw) gL_check_X4_check rfl ⟨by decide +kernel, by decide +kernel, (show (parseMethodDescriptor yX4_check.desc).map (fun d => d.parameters.length) = some 1 from by decide +kernel)⟩ ⟨Nat.le_of_ble_eq_true rfl, Nat.le_of_ble_eq_true rfl⟩ ⟨Nat.le_of_ble_eq_true rfl, Nat.le_of_ble_eq_true rfl⟩ 0 4 rfl rfl rfl rfl (Nat.le_of_ble_eq_true rfl) dL_check_4 (fun E u hx => ?_) (fun r u hk => ?_)
  · obtain ⟨k, h1, h2, h3⟩ := hx
    match k, h1, h2, h3 with
    | 0, h1, h2, h3 =>
      cases h2
      refine ⟨12, ⟨[], ⟨0, 9, 12, 19⟩, [⟨0, 9, 15, 13⟩], rfl, fun z hz => absurd hz List.not_mem_nil, by decide, by decide, List.mem_of_getElem? (i := 1) rfl, fun _ h => h.2.2.1, rfl⟩, fun q9 => ?_⟩
      refine z_astore_n C 3 dL_check_12 rfl (by decide) rfl ?_
      refine z_iconst C 1 dL_check_13 (by decide) ?_
      exact hE _ _ _ (u, f) _ _ dL_check_14 rfl (Nat.le_of_ble_eq_true rfl) (Nat.le_of_ble_eq_true rfl) (wp_ex (k := 0) rfl (Nat.le_of_ble_eq_true rfl) h1 h3)
    | 1, h1, h2, h3 =>
      cases h2
      refine ⟨15, ⟨[⟨0, 9, 12, 19⟩], ⟨0, 9, 15, 13⟩, [], rfl, fun z hz => (List.mem_cons.mp hz).elim (fun e => by subst e; exact ⟨by decide, nIOB, List.mem_of_getElem? (i := 1) rfl, fun _ h => h.2.1⟩) (fun hz => absurd hz List.not_mem_nil), by decide, by decide, List.mem_of_getElem? (i := 2) rfl, fun _ h => h.1, rfl⟩, fun q9 => ?_⟩
      refine z_astore_n C 3 dL_check_15 rfl (by decide) rfl ?_
      refine z_iconst C 2 dL_check_16 (by decide) ?_
      exact hE _ _ _ (u, f) _ _ dL_check_17 rfl (Nat.le_of_ble_eq_true rfl) (Nat.le_of_ble_eq_true rfl) (wp_ex (k := 1) rfl (Nat.le_of_ble_eq_true rfl) h1 h3)
    | k + 2, _, h2, _ => cases h2
  · refine z_i2l C dL_check_7 ?_
    refine z_last C 0 2 rfl rfl (show ¬ (_ ∨ _) from by decide) dL_check_8 (show _ = zWO a g o (u, vp_updL f 0 r.toInt64) from rfl) ?_
    refine z_goto C 18 dL_check_9 (by decide) ?_
    refine z_iconst C 0 dL_check_18 (by decide) ?_
    exact hE _ _ _ (u, vp_updL f 0 r.toInt64) _ _ dL_check_19 rfl (Nat.le_of_ble_eq_true rfl) (Nat.le_of_ble_eq_true rfl) (wp_ok hk)
set_option maxHeartbeats 4000000 in
set_option maxRecDepth 100000 in
theorem c_L_checkAnew (l : Launch) (hst : l.stackTraces = false) (D : va_G) (a : Nat → Nat) (g : Nat → ClassId) (ea : Nat → Nat) (o : Nat) (s : zS) (f : Nat → Int64) (p0 : Int32) (O : zOp) (hw : W_X4_checkAnew s p0 (fun r => okX O r.toInt64) (exX O [nIOB, nISE])) : zWi l D (zT g) ea yL_checkAnew wsL_checkAnew ({ frames := 13, cells := 2, slots := 12, locals := 320 } : Room) [.ref (a 0), .int p0, .ref o] (zWO a g o) (s, f) (wpO O) := by
  refine zWi_start (cc := cL_checkAnew) (maxL := 4) (lv0 := [(0, .ref (a 0)), (1, .int p0), (2, .ref o)]) (own := RL) hst rfl (by decide +kernel) rfl (Nat.le_of_ble_eq_true rfl) rfl (fun X C hR hL CL HT hE => ?_)
  refine z_aload_n C 2 dL_checkAnew_0 rfl ?_
  refine z_iconst C 0 dL_checkAnew_1 (by decide) ?_
  refine z_aload_n C 0 dL_checkAnew_2 rfl ?_
  refine z_iload_n C 1 dL_checkAnew_3 rfl ?_
  refine z_xfi C hR hL CL HT (wr := [(o, .inl (g 2, 1, .inr (.inl f)))]) (wf := WX a g) (u0 := s) (As := [.int p0]) (c_X4_checkAnew l hst D a g ea s p0 _ _ hw) gL_checkAnew_X4_checkAnew rfl ⟨by decide +kernel, by decide +kernel, (show (parseMethodDescriptor yX4_checkAnew.desc).map (fun d => d.parameters.length) = some 1 from by decide +kernel)⟩ ⟨Nat.le_of_ble_eq_true rfl, Nat.le_of_ble_eq_true rfl⟩ ⟨Nat.le_of_ble_eq_true rfl, Nat.le_of_ble_eq_true rfl⟩ 0 4 rfl rfl rfl rfl (Nat.le_of_ble_eq_true rfl) dL_checkAnew_4 (fun E u hx => ?_) (fun r u hk => ?_)
  · obtain ⟨k, h1, h2, h3⟩ := hx
    match k, h1, h2, h3 with
    | 0, h1, h2, h3 =>
      cases h2
      refine ⟨12, ⟨[], ⟨0, 9, 12, 19⟩, [⟨0, 9, 15, 13⟩], rfl, fun z hz => absurd hz List.not_mem_nil, by decide, by decide, List.mem_of_getElem? (i := 1) rfl, fun _ h => h.2.2.1, rfl⟩, fun q9 => ?_⟩
      refine z_astore_n C 3 dL_checkAnew_12 rfl (by decide) rfl ?_
      refine z_iconst C 1 dL_checkAnew_13 (by decide) ?_
      exact hE _ _ _ (u, f) _ _ dL_checkAnew_14 rfl (Nat.le_of_ble_eq_true rfl) (Nat.le_of_ble_eq_true rfl) (wp_ex (k := 0) rfl (Nat.le_of_ble_eq_true rfl) h1 h3)
    | 1, h1, h2, h3 =>
      cases h2
      refine ⟨15, ⟨[⟨0, 9, 12, 19⟩], ⟨0, 9, 15, 13⟩, [], rfl, fun z hz => (List.mem_cons.mp hz).elim (fun e => by subst e; exact ⟨by decide, nIOB, List.mem_of_getElem? (i := 1) rfl, fun _ h => h.2.1⟩) (fun hz => absurd hz List.not_mem_nil), by decide, by decide, List.mem_of_getElem? (i := 2) rfl, fun _ h => h.1, rfl⟩, fun q9 => ?_⟩
      refine z_astore_n C 3 dL_checkAnew_15 rfl (by decide) rfl ?_
      refine z_iconst C 2 dL_checkAnew_16 (by decide) ?_
      exact hE _ _ _ (u, f) _ _ dL_checkAnew_17 rfl (Nat.le_of_ble_eq_true rfl) (Nat.le_of_ble_eq_true rfl) (wp_ex (k := 1) rfl (Nat.le_of_ble_eq_true rfl) h1 h3)
    | k + 2, _, h2, _ => cases h2
  · refine z_i2l C dL_checkAnew_7 ?_
    refine z_last C 0 2 rfl rfl (show ¬ (_ ∨ _) from by decide) dL_checkAnew_8 (show _ = zWO a g o (u, vp_updL f 0 r.toInt64) from rfl) ?_
    refine z_goto C 18 dL_checkAnew_9 (by decide) ?_
    refine z_iconst C 0 dL_checkAnew_18 (by decide) ?_
    exact hE _ _ _ (u, vp_updL f 0 r.toInt64) _ _ dL_checkAnew_19 rfl (Nat.le_of_ble_eq_true rfl) (Nat.le_of_ble_eq_true rfl) (wp_ok hk)
set_option maxHeartbeats 4000000 in
set_option maxRecDepth 100000 in
theorem c_L_score (l : Launch) (hst : l.stackTraces = false) (D : va_G) (a : Nat → Nat) (g : Nat → ClassId) (ea : Nat → Nat) (o : Nat) (s : zS) (f : Nat → Int64) (p0 : Int32) (O : zOp) (hw : W_X4_score s p0 (fun r => okX O r) (exX O [nIOB, nISE])) : zWi l D (zT g) ea yL_score wsL_score ({ frames := 9, cells := 2, slots := 12, locals := 150 } : Room) [.ref (a 0), .int p0, .ref o] (zWO a g o) (s, f) (wpO O) := by
  refine zWi_start (cc := cL_score) (maxL := 4) (lv0 := [(0, .ref (a 0)), (1, .int p0), (2, .ref o)]) (own := RL) hst rfl (by decide +kernel) rfl (Nat.le_of_ble_eq_true rfl) rfl (fun X C hR hL CL HT hE => ?_)
  refine z_aload_n C 2 dL_score_0 rfl ?_
  refine z_iconst C 0 dL_score_1 (by decide) ?_
  refine z_aload_n C 0 dL_score_2 rfl ?_
  refine z_iload_n C 1 dL_score_3 rfl ?_
  refine z_xfl C hR hL CL HT (wr := [(o, .inl (g 2, 1, .inr (.inl f)))]) (wf := WX a g) (u0 := s) (As := [.int p0]) (c_X4_score l hst D a g ea s p0 _ _ hw) gL_score_X4_score rfl ⟨by decide +kernel, by decide +kernel, (show (parseMethodDescriptor yX4_score.desc).map (fun d => d.parameters.length) = some 1 from by decide +kernel)⟩ ⟨Nat.le_of_ble_eq_true rfl, Nat.le_of_ble_eq_true rfl⟩ ⟨Nat.le_of_ble_eq_true rfl, Nat.le_of_ble_eq_true rfl⟩ 0 4 rfl rfl rfl rfl (Nat.le_of_ble_eq_true rfl) dL_score_4 (fun E u hx => ?_) (fun r u hk => ?_)
  · obtain ⟨k, h1, h2, h3⟩ := hx
    match k, h1, h2, h3 with
    | 0, h1, h2, h3 =>
      cases h2
      refine ⟨11, ⟨[], ⟨0, 8, 11, 19⟩, [⟨0, 8, 14, 13⟩], rfl, fun z hz => absurd hz List.not_mem_nil, by decide, by decide, List.mem_of_getElem? (i := 1) rfl, fun _ h => h.2.2.1, rfl⟩, fun q9 => ?_⟩
      refine z_astore_n C 3 dL_score_11 rfl (by decide) rfl ?_
      refine z_iconst C 1 dL_score_12 (by decide) ?_
      exact hE _ _ _ (u, f) _ _ dL_score_13 rfl (Nat.le_of_ble_eq_true rfl) (Nat.le_of_ble_eq_true rfl) (wp_ex (k := 0) rfl (Nat.le_of_ble_eq_true rfl) h1 h3)
    | 1, h1, h2, h3 =>
      cases h2
      refine ⟨14, ⟨[⟨0, 8, 11, 19⟩], ⟨0, 8, 14, 13⟩, [], rfl, fun z hz => (List.mem_cons.mp hz).elim (fun e => by subst e; exact ⟨by decide, nIOB, List.mem_of_getElem? (i := 1) rfl, fun _ h => h.2.1⟩) (fun hz => absurd hz List.not_mem_nil), by decide, by decide, List.mem_of_getElem? (i := 2) rfl, fun _ h => h.1, rfl⟩, fun q9 => ?_⟩
      refine z_astore_n C 3 dL_score_14 rfl (by decide) rfl ?_
      refine z_iconst C 2 dL_score_15 (by decide) ?_
      exact hE _ _ _ (u, f) _ _ dL_score_16 rfl (Nat.le_of_ble_eq_true rfl) (Nat.le_of_ble_eq_true rfl) (wp_ex (k := 1) rfl (Nat.le_of_ble_eq_true rfl) h1 h3)
    | k + 2, _, h2, _ => cases h2
  · skip
    refine z_last C 0 2 rfl rfl (show ¬ (_ ∨ _) from by decide) dL_score_7 (show _ = zWO a g o (u, vp_updL f 0 r) from rfl) ?_
    refine z_goto C 17 dL_score_8 (by decide) ?_
    refine z_iconst C 0 dL_score_17 (by decide) ?_
    exact hE _ _ _ (u, vp_updL f 0 r) _ _ dL_score_18 rfl (Nat.le_of_ble_eq_true rfl) (Nat.le_of_ble_eq_true rfl) (wp_ok hk)
set_option maxHeartbeats 4000000 in
set_option maxRecDepth 100000 in
theorem c_L_trees (l : Launch) (hst : l.stackTraces = false) (D : va_G) (a : Nat → Nat) (g : Nat → ClassId) (ea : Nat → Nat) (o : Nat) (s : zS) (f : Nat → Int64) (p0 : Int32) (O : zOp) (hw : W_X4_trees s p0 (fun r => okX O r) (exX O [nIOB])) : zWi l D (zT g) ea yL_trees wsL_trees ({ frames := 8, cells := 1, slots := 6, locals := 128 } : Room) [.ref (a 0), .int p0, .ref o] (zWO a g o) (s, f) (wpO O) := by
  refine zWi_start (cc := cL_trees) (maxL := 4) (lv0 := [(0, .ref (a 0)), (1, .int p0), (2, .ref o)]) (own := RL) hst rfl (by decide +kernel) rfl (Nat.le_of_ble_eq_true rfl) rfl (fun X C hR hL CL HT hE => ?_)
  refine z_aload_n C 2 dL_trees_0 rfl ?_
  refine z_iconst C 0 dL_trees_1 (by decide) ?_
  refine z_aload_n C 0 dL_trees_2 rfl ?_
  refine z_iload_n C 1 dL_trees_3 rfl ?_
  refine z_xfl C hR hL CL HT (wr := [(o, .inl (g 2, 1, .inr (.inl f)))]) (wf := WX a g) (u0 := s) (As := [.int p0]) (c_X4_trees l hst D a g ea s p0 _ _ hw) gL_trees_X4_trees rfl ⟨by decide +kernel, by decide +kernel, (show (parseMethodDescriptor yX4_trees.desc).map (fun d => d.parameters.length) = some 1 from by decide +kernel)⟩ ⟨Nat.le_of_ble_eq_true rfl, Nat.le_of_ble_eq_true rfl⟩ ⟨Nat.le_of_ble_eq_true rfl, Nat.le_of_ble_eq_true rfl⟩ 0 4 rfl rfl rfl rfl (Nat.le_of_ble_eq_true rfl) dL_trees_4 (fun E u hx => ?_) (fun r u hk => ?_)
  · obtain ⟨k, h1, h2, h3⟩ := hx
    match k, h1, h2, h3 with
    | 0, h1, h2, h3 =>
      cases h2
      refine ⟨11, ⟨[], ⟨0, 8, 11, 19⟩, [], rfl, fun z hz => absurd hz List.not_mem_nil, by decide, by decide, List.mem_of_getElem? (i := 1) rfl, fun _ h => h.2.2.1, rfl⟩, fun q9 => ?_⟩
      refine z_astore_n C 3 dL_trees_11 rfl (by decide) rfl ?_
      refine z_iconst C 1 dL_trees_12 (by decide) ?_
      exact hE _ _ _ (u, f) _ _ dL_trees_13 rfl (Nat.le_of_ble_eq_true rfl) (Nat.le_of_ble_eq_true rfl) (wp_ex (k := 0) rfl (Nat.le_of_ble_eq_true rfl) h1 h3)
    | k + 1, _, h2, _ => cases h2
  · skip
    refine z_last C 0 2 rfl rfl (show ¬ (_ ∨ _) from by decide) dL_trees_7 (show _ = zWO a g o (u, vp_updL f 0 r) from rfl) ?_
    refine z_goto C 14 dL_trees_8 (by decide) ?_
    refine z_iconst C 0 dL_trees_14 (by decide) ?_
    exact hE _ _ _ (u, vp_updL f 0 r) _ _ dL_trees_15 rfl (Nat.le_of_ble_eq_true rfl) (Nat.le_of_ble_eq_true rfl) (wp_ok hk)
end ZWR
