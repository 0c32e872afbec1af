def W_X5_thrown (s : zS) (Q : Int32 → Prop) : Prop :=
    Q (gI s 5)
set_option maxHeartbeats 4000000 in
set_option maxRecDepth 100000 in
theorem c_X5_thrown (l : Launch) (D : va_G) (b : Nat → Nat) (g : Nat → ClassId) (s : zS) (Q : Int32 → Prop) (hw : W_X5_thrown s Q) : zMi l D (zT g) yX5_thrown wsX5_thrown ({ frames := 0, cells := 0, slots := 0, locals := 0 } : Room) [.ref (b 0)] (WM b g) s (fun r u => s = u ∧ Q r) := by
  have i5 : ∀ w ∈ u_ws RX5 TX5 18, w ∈ wsX5_thrown := fun _ h => (List.mem_cons_of_mem _ (List.mem_append_right _ h))
  refine zMi_start (cc := cX5_thrown) (maxL := 1) (lv0 := [(0, .ref (b 0))]) (own := RX5) rfl (plainFor_of_name (by decide)) rfl (Nat.le_of_ble_eq_true rfl) rfl (fun X C hR hL hE => ?_)
  refine z_aload_n C 0 dX5_thrown_0 rfl ?_
  refine zg5_thrown C i5 (List.mem_of_getElem? (i := 1) rfl) dX5_thrown_1 ?_
  exact hE _ _ _ _ _ _ dX5_thrown_4 rfl (Nat.le_refl _) (Nat.le_refl _) ⟨rfl, hw⟩
def W_X5_goes (s : zS) (p0 : Int32) (Q : Int32 → zS → Prop) : Prop :=
    ∀ s1 : zS, s1 = sI s 5 p0 →
    (¬ p0 = 0 →
    Q 0 s1) ∧ (p0 = 0 →
    Q 1 s1)
set_option maxHeartbeats 4000000 in
set_option maxRecDepth 100000 in
theorem c_X5_goes (l : Launch) (D : va_G) (b : Nat → Nat) (g : Nat → ClassId) (s : zS) (p0 : Int32) (Q : Int32 → zS → Prop) (hw : W_X5_goes s p0 Q) : zMi l D (zT g) yX5_goes wsX5_goes ({ frames := 0, cells := 0, slots := 0, locals := 0 } : Room) [.ref (b 0), .int p0] (WM b g) s (fun r u => Q r u) := by
  have i5 : ∀ w ∈ u_ws RX5 TX5 18, w ∈ wsX5_goes := fun _ h => (List.mem_cons_of_mem _ (List.mem_append_right _ h))
  refine zMi_start (cc := cX5_goes) (maxL := 2) (lv0 := [(0, .ref (b 0)), (1, .int p0)]) (own := RX5) rfl (plainFor_of_name (by decide)) rfl (Nat.le_of_ble_eq_true rfl) rfl (fun X C hR hL hE => ?_)
  refine z_aload_n C 0 dX5_goes_0 rfl ?_
  refine z_iload_n C 1 dX5_goes_1 rfl ?_
  refine zp5_thrown C i5 (List.mem_of_getElem? (i := 1) rfl) dX5_goes_2 ?_
  refine z_topsWM (fun s1 es1 => ?_)
  have hw := hw s1 es1
  refine z_iload_n C 1 dX5_goes_5 rfl ?_
  refine z_if_ne C 13 dX5_goes_6 (by decide) (fun hc => ?_) (fun hc => ?_)
  · have hw := hw.1 hc
    refine z_iconst C 0 dX5_goes_13 (by decide) ?_
    exact hE _ _ _ _ _ _ dX5_goes_14 rfl (Nat.le_refl _) (Nat.le_refl _) hw
  · have hw := hw.2 hc
    refine z_iconst C 1 dX5_goes_9 (by decide) ?_
    refine z_goto C 14 dX5_goes_10 (by decide) ?_
    exact hE _ _ _ _ _ _ dX5_goes_14 rfl (Nat.le_refl _) (Nat.le_refl _) hw
def W_X5_isBetween (s : zS) (p0 : Int32) (p1 : Int32) (p2 : Int32) (Q : Int32 → Prop) : Prop :=
    (p0 < p1 →
    Q 0) ∧ (¬ p0 < p1 →
    (p2 < p0 →
    Q 0) ∧ (¬ p2 < p0 →
    Q 1))
set_option maxHeartbeats 4000000 in
set_option maxRecDepth 100000 in
theorem c_X5_isBetween (l : Launch) (D : va_G) (b : Nat → Nat) (g : Nat → ClassId) (s : zS) (p0 : Int32) (p1 : Int32) (p2 : Int32) (Q : Int32 → Prop) (hw : W_X5_isBetween s p0 p1 p2 Q) : zMi l D (zT g) yX5_isBetween wsX5_isBetween ({ frames := 0, cells := 0, slots := 0, locals := 0 } : Room) [.int p0, .int p1, .int p2] (WM b g) s (fun r u => s = u ∧ Q r) := by
  refine zMi_start (cc := cX5_isBetween) (maxL := 3) (lv0 := [(0, .int p0), (1, .int p1), (2, .int p2)]) (own := RX5) rfl (plainFor_of_name (by decide)) rfl (Nat.le_of_ble_eq_true rfl) rfl (fun X C hR hL hE => ?_)
  refine z_iload_n C 0 dX5_isBetween_0 rfl ?_
  refine z_iload_n C 1 dX5_isBetween_1 rfl ?_
  refine z_icmp_lt C 14 dX5_isBetween_2 (by decide) (fun hc => ?_) (fun hc => ?_)
  · have hw := hw.1 hc
    refine z_iconst C 0 dX5_isBetween_14 (by decide) ?_
    exact hE _ _ _ _ _ _ dX5_isBetween_15 rfl (Nat.le_refl _) (Nat.le_refl _) ⟨rfl, hw⟩
  · have hw := hw.2 hc
    refine z_iload_n C 0 dX5_isBetween_5 rfl ?_
    refine z_iload_n C 2 dX5_isBetween_6 rfl ?_
    refine z_icmp_gt C 14 dX5_isBetween_7 (by decide) (fun hc => ?_) (fun hc => ?_)
    · have hw := hw.1 hc
      refine z_iconst C 0 dX5_isBetween_14 (by decide) ?_
      exact hE _ _ _ _ _ _ dX5_isBetween_15 rfl (Nat.le_refl _) (Nat.le_refl _) ⟨rfl, hw⟩
    · have hw := hw.2 hc
      refine z_iconst C 1 dX5_isBetween_10 (by decide) ?_
      refine z_goto C 15 dX5_isBetween_11 (by decide) ?_
      exact hE _ _ _ _ _ _ dX5_isBetween_15 rfl (Nat.le_refl _) (Nat.le_refl _) ⟨rfl, hw⟩
def W_X5_isStation (s : zS) (p0 : Int32) (Q : Int32 → Prop) : Prop :=
    W_X5_isBetween s p0 0 ((gI s 0) - 1) (fun r1 =>
    narrow .boolean (.int r1) = .int r1 ∧ Q r1)
set_option maxHeartbeats 4000000 in
set_option maxRecDepth 100000 in
theorem c_X5_isStation (l : Launch) (D : va_G) (b : Nat → Nat) (g : Nat → ClassId) (s : zS) (p0 : Int32) (Q : Int32 → Prop) (hw : W_X5_isStation s p0 Q) : zMi l D (zT g) yX5_isStation wsX5_isStation ({ frames := 1, cells := 0, slots := 0, locals := 22 } : Room) [.ref (b 0), .int p0] (WM b g) s (fun r u => s = u ∧ Q r) := by
  have i5 : ∀ w ∈ u_ws RX5 TX5 18, w ∈ wsX5_isStation := fun _ h => (List.mem_cons_of_mem _ (List.mem_append_right _ h))
  refine zMi_start (cc := cX5_isStation) (maxL := 2) (lv0 := [(0, .ref (b 0)), (1, .int p0)]) (own := RX5) rfl (plainFor_of_name (by decide)) rfl (Nat.le_of_ble_eq_true rfl) rfl (fun X C hR hL hE => ?_)
  refine z_iload_n C 1 dX5_isStation_0 rfl ?_
  refine z_iconst C 0 dX5_isStation_1 (by decide) ?_
  refine z_aload_n C 0 dX5_isStation_2 rfl ?_
  refine zg5_stations C i5 (List.mem_of_getElem? (i := 1) rfl) dX5_isStation_3 ?_
  refine z_iconst C 1 dX5_isStation_6 (by decide) ?_
  refine z_isub C dX5_isStation_7 ?_
  refine z_call0iS C hR hL (As := [.int p0, .int 0, .int ((gI s 0) - 1)]) (c_X5_isBetween l D b g s p0 0 ((gI s 0) - 1) _ hw) gX5_isStation_X5_isBetween rfl ⟨by decide +kernel, by decide +kernel, (show (parseMethodDescriptor yX5_isBetween.desc).map (fun d => d.parameters.length) = some 3 from by decide +kernel)⟩ ⟨rfl, rfl⟩ ⟨Nat.le_of_ble_eq_true rfl, Nat.le_of_ble_eq_true rfl⟩ ⟨Nat.le_of_ble_eq_true rfl, Nat.le_of_ble_eq_true rfl⟩ rfl (Nat.le_of_ble_eq_true rfl) dX5_isStation_8 (fun r1 s2 h3 => ?_)
  obtain ⟨es2, hw⟩ := h3
  subst es2
  obtain ⟨b4, hw⟩ := hw
  exact hE _ _ _ _ _ _ dX5_isStation_11 b4 (Nat.le_refl _) (Nat.le_refl _) ⟨rfl, hw⟩
def W_X5_isObservation (s : zS) (p0 : Int32) (Q : Int32 → Prop) : Prop :=
    W_X5_isBetween s p0 0 ((gI s 1) - 1) (fun r1 =>
    narrow .boolean (.int r1) = .int r1 ∧ Q r1)
set_option maxHeartbeats 4000000 in
set_option maxRecDepth 100000 in
theorem c_X5_isObservation (l : Launch) (D : va_G) (b : Nat → Nat) (g : Nat → ClassId) (s : zS) (p0 : Int32) (Q : Int32 → Prop) (hw : W_X5_isObservation s p0 Q) : zMi l D (zT g) yX5_isObservation wsX5_isObservation ({ frames := 1, cells := 0, slots := 0, locals := 22 } : Room) [.ref (b 0), .int p0] (WM b g) s (fun r u => s = u ∧ Q r) := by
  have i5 : ∀ w ∈ u_ws RX5 TX5 18, w ∈ wsX5_isObservation := fun _ h => (List.mem_cons_of_mem _ (List.mem_append_right _ h))
  refine zMi_start (cc := cX5_isObservation) (maxL := 2) (lv0 := [(0, .ref (b 0)), (1, .int p0)]) (own := RX5) rfl (plainFor_of_name (by decide)) rfl (Nat.le_of_ble_eq_true rfl) rfl (fun X C hR hL hE => ?_)
  refine z_iload_n C 1 dX5_isObservation_0 rfl ?_
  refine z_iconst C 0 dX5_isObservation_1 (by decide) ?_
  refine z_aload_n C 0 dX5_isObservation_2 rfl ?_
  refine zg5_observations C i5 (List.mem_of_getElem? (i := 1) rfl) dX5_isObservation_3 ?_
  refine z_iconst C 1 dX5_isObservation_6 (by decide) ?_
  refine z_isub C dX5_isObservation_7 ?_
  refine z_call0iS C hR hL (As := [.int p0, .int 0, .int ((gI s 1) - 1)]) (c_X5_isBetween l D b g s p0 0 ((gI s 1) - 1) _ hw) gX5_isObservation_X5_isBetween rfl ⟨by decide +kernel, by decide +kernel, (show (parseMethodDescriptor yX5_isBetween.desc).map (fun d => d.parameters.length) = some 3 from by decide +kernel)⟩ ⟨rfl, rfl⟩ ⟨Nat.le_of_ble_eq_true rfl, Nat.le_of_ble_eq_true rfl⟩ ⟨Nat.le_of_ble_eq_true rfl, Nat.le_of_ble_eq_true rfl⟩ rfl (Nat.le_of_ble_eq_true rfl) dX5_isObservation_8 (fun r1 s2 h3 => ?_)
  obtain ⟨es2, hw⟩ := h3
  subst es2
  obtain ⟨b4, hw⟩ := hw
  exact hE _ _ _ _ _ _ dX5_isObservation_11 b4 (Nat.le_refl _) (Nat.le_refl _) ⟨rfl, hw⟩
def W_X5_station (s : zS) (Q : Int32 → zS → Prop) : Prop :=
    ∃ k1 : Int32 → Prop, (∀ (v4 : Int32), k1 v4 →
    W_X5_goes s v4 (fun r5 s6 =>
    (¬ r5 = 0 →
    ∀ s8 : zS, s8 = sI s6 0 ((gI s6 0) + 1) →
    Q ((gI s8 0) - 1) s8) ∧ (r5 = 0 →
    Q 0 s6))) ∧ ((¬ (gI s 0) = 6 →
    k1 0) ∧ ((gI s 0) = 6 →
    k1 1))
set_option maxHeartbeats 4000000 in
set_option maxRecDepth 100000 in
theorem c_X5_station (l : Launch) (D : va_G) (b : Nat → Nat) (g : Nat → ClassId) (s : zS) (Q : Int32 → zS → Prop) (hw : W_X5_station s Q) : zMi l D (zT g) yX5_station wsX5_station ({ frames := 1, cells := 0, slots := 0, locals := 21 } : Room) [.ref (b 0)] (WM b g) s (fun r u => Q r u) := by
  have i5 : ∀ w ∈ u_ws RX5 TX5 18, w ∈ wsX5_station := fun _ h => (List.mem_cons_of_mem _ (List.mem_append_right _ h))
  refine zMi_start (cc := cX5_station) (maxL := 1) (lv0 := [(0, .ref (b 0))]) (own := RX5) rfl (plainFor_of_name (by decide)) rfl (Nat.le_of_ble_eq_true rfl) rfl (fun X C hR hL hE => ?_)
  refine z_aload_n C 0 dX5_station_0 rfl ?_
  refine z_aload_n C 0 dX5_station_1 rfl ?_
  refine zg5_stations C i5 (List.mem_of_getElem? (i := 1) rfl) dX5_station_2 ?_
  refine z_bipush C 6 dX5_station_5 (by decide) ?_
  obtain ⟨k1, hk2, hw⟩ := hw
  have hj3 : ∀ (v4 : Int32), k1 v4 → zV X D 1 0 0 (WM b g s) 15 [(0, .ref (b 0))] [.int v4, .ref (b 0)] := by
    intro v4 hw0
    have hw := hk2 v4 hw0
    refine z_call0iV C hR hL (As := [.int v4]) (c_X5_goes l D b g s v4 _ hw) gX5_station_X5_goes rfl ⟨by decide +kernel, by decide +kernel, (show (parseMethodDescriptor yX5_goes.desc).map (fun d => d.parameters.length) = some 1 from by decide +kernel)⟩ ⟨rfl, rfl⟩ ⟨Nat.le_of_ble_eq_true rfl, Nat.le_of_ble_eq_true rfl⟩ ⟨Nat.le_of_ble_eq_true rfl, Nat.le_of_ble_eq_true rfl⟩ 0 5 rfl rfl rfl rfl (Nat.le_of_ble_eq_true rfl) dX5_station_15 (fun r5 s6 h7 => ?_)
    have hw := h7
    refine z_if_ne C 23 dX5_station_18 (by decide) (fun hc => ?_) (fun hc => ?_)
    · have hw := hw.1 hc
      refine z_aload_n C 0 dX5_station_23 rfl ?_
      refine z_dup C dX5_station_24 rfl ?_
      refine zg5_stations C i5 (List.mem_of_getElem? (i := 1) rfl) dX5_station_25 ?_
      refine z_iconst C 1 dX5_station_28 (by decide) ?_
      refine z_iadd C dX5_station_29 ?_
      refine zp5_stations C i5 (List.mem_of_getElem? (i := 1) rfl) dX5_station_30 ?_
      refine z_topsWM (fun s8 es8 => ?_)
      have hw := hw s8 es8
      refine z_aload_n C 0 dX5_station_33 rfl ?_
      refine zg5_stations C i5 (List.mem_of_getElem? (i := 1) rfl) dX5_station_34 ?_
      refine z_iconst C 1 dX5_station_37 (by decide) ?_
      refine z_isub C dX5_station_38 ?_
      exact hE _ _ _ _ _ _ dX5_station_39 rfl (Nat.le_refl _) (Nat.le_refl _) hw
    · have hw := hw.2 hc
      refine z_iconst C 0 dX5_station_21 (by decide) ?_
      exact hE _ _ _ _ _ _ dX5_station_22 rfl (Nat.le_refl _) (Nat.le_refl _) hw
  refine z_icmp_ne C 14 dX5_station_7 (by decide) (fun hc => ?_) (fun hc => ?_)
  · have hw := hw.1 hc
    refine z_iconst C 0 dX5_station_14 (by decide) ?_
    exact hj3 _ hw
  · have hw := hw.2 hc
    refine z_iconst C 1 dX5_station_10 (by decide) ?_
    refine z_goto C 15 dX5_station_11 (by decide) ?_
    exact hj3 _ hw
def W_X5_datum (s : zS) (p0 : Int32) (p1 : Int32) (p2 : Int32) (Q : Int32 → zS → Prop) : Prop :=
    W_X5_isStation s p0 (fun r1 =>
    ∃ k4 : Int32 → Prop, (∀ (v7 : Int32), k4 v7 →
    W_X5_goes s v7 (fun r8 s9 =>
    (¬ r8 = 0 →
    vp_in p0 6 ∧
    ∀ x12 : Int32, x12 = (gF s9 0 (ix p0)) →
    vp_in p0 6 ∧
    ∀ s14 : zS, s14 = sF s9 0 (ix p0) (vp_nar .boolean p2) →
    (p2 = 0 →
    vp_in p0 6 ∧
    ∀ s16 : zS, s16 = sF s14 1 (ix p0) 0 →
    narrow .boolean (.int x12) = .int x12 ∧ Q x12 s16) ∧ (¬ p2 = 0 →
    vp_in p0 6 ∧
    ∀ s19 : zS, s19 = sF s14 1 (ix p0) p1 →
    narrow .boolean (.int x12) = .int x12 ∧ Q x12 s19)) ∧ (r8 = 0 →
    Q 0 s9))) ∧ ((¬ r1 = 0 →
    (p2 = 0 →
    k4 0) ∧ (¬ p2 = 0 →
    W_X5_isBetween s p1 (-9999) 9999 (fun r21 =>
    (¬ r21 = 0 →
    k4 0) ∧ (r21 = 0 →
    k4 2)))) ∧ (r1 = 0 →
    k4 1)))
set_option maxHeartbeats 4000000 in
set_option maxRecDepth 100000 in
theorem c_X5_datum (l : Launch) (D : va_G) (b : Nat → Nat) (g : Nat → ClassId) (s : zS) (p0 : Int32) (p1 : Int32) (p2 : Int32) (Q : Int32 → zS → Prop) (hw : W_X5_datum s p0 p1 p2 Q) : zMi l D (zT g) yX5_datum wsX5_datum ({ frames := 2, cells := 0, slots := 0, locals := 43 } : Room) [.ref (b 0), .int p0, .int p1, .int p2] (WM b g) s (fun r u => Q r u) := by
  have i5 : ∀ w ∈ u_ws RX5 TX5 18, w ∈ wsX5_datum := fun _ h => (List.mem_cons_of_mem _ (List.mem_append_right _ h))
  refine zMi_start (cc := cX5_datum) (maxL := 5) (lv0 := [(0, .ref (b 0)), (1, .int p0), (2, .int p1), (3, .int p2)]) (own := RX5) rfl (plainFor_of_name (by decide)) rfl (Nat.le_of_ble_eq_true rfl) rfl (fun X C hR hL hE => ?_)
  refine z_aload_n C 0 dX5_datum_0 rfl ?_
  refine z_aload_n C 0 dX5_datum_1 rfl ?_
  refine z_iload_n C 1 dX5_datum_2 rfl ?_
  refine z_call0iV C hR hL (As := [.int p0]) (c_X5_isStation l D b g s p0 _ hw) gX5_datum_X5_isStation rfl ⟨by decide +kernel, by decide +kernel, (show (parseMethodDescriptor yX5_isStation.desc).map (fun d => d.parameters.length) = some 1 from by decide +kernel)⟩ ⟨rfl, rfl⟩ ⟨Nat.le_of_ble_eq_true rfl, Nat.le_of_ble_eq_true rfl⟩ ⟨Nat.le_of_ble_eq_true rfl, Nat.le_of_ble_eq_true rfl⟩ 0 5 rfl rfl rfl rfl (Nat.le_of_ble_eq_true rfl) dX5_datum_3 (fun r1 s2 h3 => ?_)
  obtain ⟨es2, hw⟩ := h3
  subst es2
  obtain ⟨k4, hk5, hw⟩ := hw
  have hj6 : ∀ (v7 : Int32), k4 v7 → zV X D 5 0 0 (WM b g s) 35 [(0, .ref (b 0)), (1, .int p0), (2, .int p1), (3, .int p2)] [.int v7, .ref (b 0)] := by
    intro v7 hw0
    have hw := hk5 v7 hw0
    refine z_call0iV C hR hL (As := [.int v7]) (c_X5_goes l D b g s v7 _ hw) gX5_datum_X5_goes rfl ⟨by decide +kernel, by decide +kernel, (show (parseMethodDescriptor yX5_goes.desc).map (fun d => d.parameters.length) = some 1 from by decide +kernel)⟩ ⟨rfl, rfl⟩ ⟨Nat.le_of_ble_eq_true rfl, Nat.le_of_ble_eq_true rfl⟩ ⟨Nat.le_of_ble_eq_true rfl, Nat.le_of_ble_eq_true rfl⟩ 0 5 rfl rfl rfl rfl (Nat.le_of_ble_eq_true rfl) dX5_datum_35 (fun r8 s9 h10 => ?_)
    have hw := h10
    refine z_if_ne C 43 dX5_datum_38 (by decide) (fun hc => ?_) (fun hc => ?_)
    · have hw := hw.1 hc
      refine z_aload_n C 0 dX5_datum_43 rfl ?_
      refine zg5_isTold C i5 (List.mem_of_getElem? (i := 1) rfl) dX5_datum_44 ?_
      refine z_iload_n C 1 dX5_datum_47 rfl ?_
      obtain ⟨b11, hw⟩ := hw
      refine zl5_isTold C b11 dX5_datum_48 ?_
      refine z_topi (fun x12 ex12 => ?_)
      have hw := hw x12 ex12
      refine z_istore (lv' := [(4, .int x12), (0, .ref (b 0)), (1, .int p0), (2, .int p1), (3, .int p2)]) C dX5_datum_49 (by decide) rfl ?_
      refine z_aload_n C 1 dX5_datum_51 rfl ?_
      refine zg5_isTold C i5 (List.mem_of_getElem? (i := 1) rfl) dX5_datum_52 ?_
      refine z_iload_n C 2 dX5_datum_55 rfl ?_
      refine z_iload_n C 4 dX5_datum_56 rfl ?_
      obtain ⟨b13, hw⟩ := hw
      refine zs5_isTold C b13 dX5_datum_57 ?_
      refine z_topsWM (fun s14 es14 => ?_)
      have hw := hw s14 es14
      refine z_aload_n C 1 dX5_datum_58 rfl ?_
      refine zg5_told C i5 (List.mem_of_getElem? (i := 2) rfl) dX5_datum_59 ?_
      refine z_iload_n C 2 dX5_datum_62 rfl ?_
      refine z_iload_n C 4 dX5_datum_63 rfl ?_
      refine z_if_eq C 71 dX5_datum_64 (by decide) (fun hc => ?_) (fun hc => ?_)
      · have hw := hw.1 hc
        refine z_iconst C 0 dX5_datum_71 (by decide) ?_
        obtain ⟨b15, hw⟩ := hw
        refine zs5_told C b15 dX5_datum_72 ?_
        refine z_topsWM (fun s16 es16 => ?_)
        have hw := hw s16 es16
        refine z_iload C 0 dX5_datum_73 rfl ?_
        obtain ⟨b17, hw⟩ := hw
        exact hE _ _ _ _ _ _ dX5_datum_75 b17 (Nat.le_refl _) (Nat.le_refl _) hw
      · have hw := hw.2 hc
        refine z_iload_n C 3 dX5_datum_67 rfl ?_
        refine z_goto C 72 dX5_datum_68 (by decide) ?_
        obtain ⟨b18, hw⟩ := hw
        refine zs5_told C b18 dX5_datum_72 ?_
        refine z_topsWM (fun s19 es19 => ?_)
        have hw := hw s19 es19
        refine z_iload C 0 dX5_datum_73 rfl ?_
        obtain ⟨b20, hw⟩ := hw
        exact hE _ _ _ _ _ _ dX5_datum_75 b20 (Nat.le_refl _) (Nat.le_refl _) hw
    · have hw := hw.2 hc
      refine z_iconst C 0 dX5_datum_41 (by decide) ?_
      exact hE _ _ _ _ _ _ dX5_datum_42 rfl (Nat.le_refl _) (Nat.le_refl _) hw
  refine z_if_ne C 13 dX5_datum_6 (by decide) (fun hc => ?_) (fun hc => ?_)
  · have hw := hw.1 hc
    refine z_iload_n C 3 dX5_datum_13 rfl ?_
    refine z_if_eq C 34 dX5_datum_14 (by decide) (fun hc => ?_) (fun hc => ?_)
    · have hw := hw.1 hc
      refine z_iconst C 0 dX5_datum_34 (by decide) ?_
      exact hj6 _ hw
    · have hw := hw.2 hc
      refine z_iload_n C 2 dX5_datum_17 rfl ?_
      refine z_sipush C (-9999) dX5_datum_18 (by decide) ?_
      refine z_sipush C 9999 dX5_datum_21 (by decide) ?_
      refine z_call0iS C hR hL (As := [.int p1, .int (-9999), .int 9999]) (c_X5_isBetween l D b g s p1 (-9999) 9999 _ hw) gX5_datum_X5_isBetween rfl ⟨by decide +kernel, by decide +kernel, (show (parseMethodDescriptor yX5_isBetween.desc).map (fun d => d.parameters.length) = some 3 from by decide +kernel)⟩ ⟨rfl, rfl⟩ ⟨Nat.le_of_ble_eq_true rfl, Nat.le_of_ble_eq_true rfl⟩ ⟨Nat.le_of_ble_eq_true rfl, Nat.le_of_ble_eq_true rfl⟩ rfl (Nat.le_of_ble_eq_true rfl) dX5_datum_24 (fun r21 s22 h23 => ?_)
      obtain ⟨es22, hw⟩ := h23
      subst es22
      refine z_if_ne C 34 dX5_datum_27 (by decide) (fun hc => ?_) (fun hc => ?_)
      · have hw := hw.1 hc
        refine z_iconst C 0 dX5_datum_34 (by decide) ?_
        exact hj6 _ hw
      · have hw := hw.2 hc
        refine z_iconst C 2 dX5_datum_30 (by decide) ?_
        refine z_goto C 35 dX5_datum_31 (by decide) ?_
        exact hj6 _ hw
  · have hw := hw.2 hc
    refine z_iconst C 1 dX5_datum_9 (by decide) ?_
    refine z_goto C 35 dX5_datum_10 (by decide) ?_
    exact hj6 _ hw
def W_X5_observe (s : zS) (p0 : Int32) (p1 : Int32) (p2 : Int32) (p3 : Int32) (Q : Int32 → zS → Prop) : Prop :=
    W_X5_isStation s p0 (fun r1 =>
    ∃ k4 : Int32 → Prop, (∀ (v7 : Int32), k4 v7 →
    ∀ x8 : Int32, x8 = v7 →
    ∃ k9 : Int32 → Prop, (∀ (v12 : Int32), k9 v12 →
    ∀ x13 : Int32, x13 = v12 →
    ∃ k14 : Int32 → Prop, (∀ (v17 : Int32), k14 v17 →
    W_X5_goes s v17 (fun r18 s19 =>
    (¬ r18 = 0 →
    vp_in (gI s19 1) 14 ∧
    ∀ s22 : zS, s22 = sF s19 2 (ix (gI s19 1)) p0 →
    vp_in (gI s22 1) 14 ∧
    ∀ s24 : zS, s24 = sF s22 3 (ix (gI s22 1)) p1 →
    vp_in (gI s24 1) 14 ∧
    ∀ s26 : zS, s26 = sF s24 4 (ix (gI s24 1)) p2 →
    vp_in (gI s26 1) 14 ∧
    ∀ s28 : zS, s28 = sF s26 5 (ix (gI s26 1)) p3 →
    ∀ s29 : zS, s29 = sI s28 1 ((gI s28 1) + 1) →
    Q ((gI s29 1) - 1) s29) ∧ (r18 = 0 →
    Q 0 s19))) ∧ ((¬ x8 = 0 →
    (¬ x13 = 0 →
    (¬ (gI s 1) = 14 →
    k14 0) ∧ ((gI s 1) = 14 →
    k14 3)) ∧ (x13 = 0 →
    k14 2)) ∧ (x8 = 0 →
    k14 1))) ∧ ((p0 = p1 →
    k9 0) ∧ (¬ p0 = p1 →
    W_X5_isBetween s p2 (-9999) 9999 (fun r30 =>
    (r30 = 0 →
    k9 0) ∧ (¬ r30 = 0 →
    W_X5_isBetween s p3 1 5 (fun r33 =>
    (r33 = 0 →
    k9 0) ∧ (¬ r33 = 0 →
    k9 1))))))) ∧ ((r1 = 0 →
    k4 0) ∧ (¬ r1 = 0 →
    W_X5_isStation s p1 (fun r36 =>
    (r36 = 0 →
    k4 0) ∧ (¬ r36 = 0 →
    k4 1)))))
set_option maxHeartbeats 4000000 in
set_option maxRecDepth 100000 in
theorem c_X5_observe (l : Launch) (D : va_G) (b : Nat → Nat) (g : Nat → ClassId) (s : zS) (p0 : Int32) (p1 : Int32) (p2 : Int32) (p3 : Int32) (Q : Int32 → zS → Prop) (hw : W_X5_observe s p0 p1 p2 p3 Q) : zMi l D (zT g) yX5_observe wsX5_observe ({ frames := 2, cells := 0, slots := 0, locals := 43 } : Room) [.ref (b 0), .int p0, .int p1, .int p2, .int p3] (WM b g) s (fun r u => Q r u) := by
  have i5 : ∀ w ∈ u_ws RX5 TX5 18, w ∈ wsX5_observe := fun _ h => (List.mem_cons_of_mem _ (List.mem_append_right _ h))
  refine zMi_start (cc := cX5_observe) (maxL := 7) (lv0 := [(0, .ref (b 0)), (1, .int p0), (2, .int p1), (3, .int p2), (4, .int p3)]) (own := RX5) rfl (plainFor_of_name (by decide)) rfl (Nat.le_of_ble_eq_true rfl) rfl (fun X C hR hL hE => ?_)
  refine z_aload_n C 0 dX5_observe_0 rfl ?_
  refine z_iload_n C 1 dX5_observe_1 rfl ?_
  refine z_call0iV C hR hL (As := [.int p0]) (c_X5_isStation l D b g s p0 _ hw) gX5_observe_X5_isStation rfl ⟨by decide +kernel, by decide +kernel, (show (parseMethodDescriptor yX5_isStation.desc).map (fun d => d.parameters.length) = some 1 from by decide +kernel)⟩ ⟨rfl, rfl⟩ ⟨Nat.le_of_ble_eq_true rfl, Nat.le_of_ble_eq_true rfl⟩ ⟨Nat.le_of_ble_eq_true rfl, Nat.le_of_ble_eq_true rfl⟩ 0 5 rfl rfl rfl rfl (Nat.le_of_ble_eq_true rfl) dX5_observe_2 (fun r1 s2 h3 => ?_)
  obtain ⟨es2, hw⟩ := h3
  subst es2
  obtain ⟨k4, hk5, hw⟩ := hw
  have hj6 : ∀ (v7 : Int32), k4 v7 → zV X D 7 0 0 (WM b g s) 21 [(0, .ref (b 0)), (1, .int p0), (2, .int p1), (3, .int p2), (4, .int p3)] [.int v7] := by
    intro v7 hw0
    have hw := hk5 v7 hw0
    refine z_topi (fun x8 ex8 => ?_)
    have hw := hw x8 ex8
    refine z_istore (lv' := [(5, .int x8), (0, .ref (b 0)), (1, .int p0), (2, .int p1), (3, .int p2), (4, .int p3)]) C dX5_observe_21 (by decide) rfl ?_
    refine z_iload_n C 2 dX5_observe_23 rfl ?_
    refine z_iload_n C 3 dX5_observe_24 rfl ?_
    obtain ⟨k9, hk10, hw⟩ := hw
    have hj11 : ∀ (v12 : Int32), k9 v12 → zV X D 7 0 0 (WM b g s) 56 [(0, .ref (b 0)), (1, .int p0), (2, .int p1), (3, .int p2), (4, .int p3), (5, .int x8)] [.int v12] := by
      intro v12 hw0
      have hw := hk10 v12 hw0
      refine z_topi (fun x13 ex13 => ?_)
      have hw := hw x13 ex13
      refine z_istore (lv' := [(6, .int x13), (0, .ref (b 0)), (1, .int p0), (2, .int p1), (3, .int p2), (4, .int p3), (5, .int x8)]) C dX5_observe_56 (by decide) rfl ?_
      refine z_aload_n C 1 dX5_observe_58 rfl ?_
      refine z_iload C 6 dX5_observe_59 rfl ?_
      obtain ⟨k14, hk15, hw⟩ := hw
      have hj16 : ∀ (v17 : Int32), k14 v17 → zV X D 7 0 0 (WM b g s) 91 [(0, .ref (b 0)), (1, .int p0), (2, .int p1), (3, .int p2), (4, .int p3)] [.int v17, .ref (b 0)] := by
        intro v17 hw0
        have hw := hk15 v17 hw0
        refine z_call0iV C hR hL (As := [.int v17]) (c_X5_goes l D b g s v17 _ hw) gX5_observe_X5_goes rfl ⟨by decide +kernel, by decide +kernel, (show (parseMethodDescriptor yX5_goes.desc).map (fun d => d.parameters.length) = some 1 from by decide +kernel)⟩ ⟨rfl, rfl⟩ ⟨Nat.le_of_ble_eq_true rfl, Nat.le_of_ble_eq_true rfl⟩ ⟨Nat.le_of_ble_eq_true rfl, Nat.le_of_ble_eq_true rfl⟩ 0 5 rfl rfl rfl rfl (Nat.le_of_ble_eq_true rfl) dX5_observe_91 (fun r18 s19 h20 => ?_)
        have hw := h20
        refine z_if_ne C 99 dX5_observe_94 (by decide) (fun hc => ?_) (fun hc => ?_)
        · have hw := hw.1 hc
          refine z_aload_n C 0 dX5_observe_99 rfl ?_
          refine zg5_froms C i5 (List.mem_of_getElem? (i := 2) rfl) dX5_observe_100 ?_
          refine z_aload_n C 0 dX5_observe_103 rfl ?_
          refine zg5_observations C i5 (List.mem_of_getElem? (i := 1) rfl) dX5_observe_104 ?_
          refine z_iload_n C 1 dX5_observe_107 rfl ?_
          obtain ⟨b21, hw⟩ := hw
          refine zs5_froms C b21 dX5_observe_108 ?_
          refine z_topsWM (fun s22 es22 => ?_)
          have hw := hw s22 es22
          refine z_aload_n C 0 dX5_observe_109 rfl ?_
          refine zg5_tos C i5 (List.mem_of_getElem? (i := 3) rfl) dX5_observe_110 ?_
          refine z_aload_n C 0 dX5_observe_113 rfl ?_
          refine zg5_observations C i5 (List.mem_of_getElem? (i := 1) rfl) dX5_observe_114 ?_
          refine z_iload_n C 2 dX5_observe_117 rfl ?_
          obtain ⟨b23, hw⟩ := hw
          refine zs5_tos C b23 dX5_observe_118 ?_
          refine z_topsWM (fun s24 es24 => ?_)
          have hw := hw s24 es24
          refine z_aload_n C 0 dX5_observe_119 rfl ?_
          refine zg5_differences C i5 (List.mem_of_getElem? (i := 4) rfl) dX5_observe_120 ?_
          refine z_aload_n C 0 dX5_observe_123 rfl ?_
          refine zg5_observations C i5 (List.mem_of_getElem? (i := 1) rfl) dX5_observe_124 ?_
          refine z_iload_n C 3 dX5_observe_127 rfl ?_
          obtain ⟨b25, hw⟩ := hw
          refine zs5_differences C b25 dX5_observe_128 ?_
          refine z_topsWM (fun s26 es26 => ?_)
          have hw := hw s26 es26
          refine z_aload_n C 0 dX5_observe_129 rfl ?_
          refine zg5_weights C i5 (List.mem_of_getElem? (i := 5) rfl) dX5_observe_130 ?_
          refine z_aload_n C 0 dX5_observe_133 rfl ?_
          refine zg5_observations C i5 (List.mem_of_getElem? (i := 1) rfl) dX5_observe_134 ?_
          refine z_iload C 4 dX5_observe_137 rfl ?_
          obtain ⟨b27, hw⟩ := hw
          refine zs5_weights C b27 dX5_observe_139 ?_
          refine z_topsWM (fun s28 es28 => ?_)
          have hw := hw s28 es28
          refine z_aload_n C 0 dX5_observe_140 rfl ?_
          refine z_dup C dX5_observe_141 rfl ?_
          refine zg5_observations C i5 (List.mem_of_getElem? (i := 1) rfl) dX5_observe_142 ?_
          refine z_iconst C 1 dX5_observe_145 (by decide) ?_
          refine z_iadd C dX5_observe_146 ?_
          refine zp5_observations C i5 (List.mem_of_getElem? (i := 1) rfl) dX5_observe_147 ?_
          refine z_topsWM (fun s29 es29 => ?_)
          have hw := hw s29 es29
          refine z_aload_n C 0 dX5_observe_150 rfl ?_
          refine zg5_observations C i5 (List.mem_of_getElem? (i := 1) rfl) dX5_observe_151 ?_
          refine z_iconst C 1 dX5_observe_154 (by decide) ?_
          refine z_isub C dX5_observe_155 ?_
          exact hE _ _ _ _ _ _ dX5_observe_156 rfl (Nat.le_refl _) (Nat.le_refl _) hw
        · have hw := hw.2 hc
          refine z_iconst C 0 dX5_observe_97 (by decide) ?_
          exact hE _ _ _ _ _ _ dX5_observe_98 rfl (Nat.le_refl _) (Nat.le_refl _) hw
      refine z_if_ne C 68 dX5_observe_61 (by decide) (fun hc => ?_) (fun hc => ?_)
      · have hw := hw.1 hc
        refine z_iload C 0 dX5_observe_68 rfl ?_
        refine z_if_ne C 77 dX5_observe_70 (by decide) (fun hc => ?_) (fun hc => ?_)
        · have hw := hw.1 hc
          refine z_aload_n C 1 dX5_observe_77 rfl ?_
          refine zg5_observations C i5 (List.mem_of_getElem? (i := 1) rfl) dX5_observe_78 ?_
          refine z_bipush C 14 dX5_observe_81 (by decide) ?_
          refine z_icmp_ne C 90 dX5_observe_83 (by decide) (fun hc => ?_) (fun hc => ?_)
          · have hw := hw.1 hc
            refine z_iconst C 0 dX5_observe_90 (by decide) ?_
            refine z_sub (lv' := [(0, .ref (b 0)), (1, .int p0), (2, .int p1), (3, .int p2), (4, .int p3)]) [1, 2, 3, 4, 5] rfl ?_
            exact hj16 _ hw
          · have hw := hw.2 hc
            refine z_iconst C 3 dX5_observe_86 (by decide) ?_
            refine z_goto C 91 dX5_observe_87 (by decide) ?_
            refine z_sub (lv' := [(0, .ref (b 0)), (1, .int p0), (2, .int p1), (3, .int p2), (4, .int p3)]) [1, 2, 3, 4, 5] rfl ?_
            exact hj16 _ hw
        · have hw := hw.2 hc
          refine z_iconst C 2 dX5_observe_73 (by decide) ?_
          refine z_goto C 91 dX5_observe_74 (by decide) ?_
          refine z_sub (lv' := [(0, .ref (b 0)), (1, .int p0), (2, .int p1), (3, .int p2), (4, .int p3)]) [1, 2, 3, 4, 5] rfl ?_
          exact hj16 _ hw
      · have hw := hw.2 hc
        refine z_iconst C 1 dX5_observe_64 (by decide) ?_
        refine z_goto C 91 dX5_observe_65 (by decide) ?_
        refine z_sub (lv' := [(0, .ref (b 0)), (1, .int p0), (2, .int p1), (3, .int p2), (4, .int p3)]) [1, 2, 3, 4, 5] rfl ?_
        exact hj16 _ hw
    refine z_icmp_eq C 55 dX5_observe_25 (by decide) (fun hc => ?_) (fun hc => ?_)
    · have hw := hw.1 hc
      refine z_iconst C 0 dX5_observe_55 (by decide) ?_
      refine z_sub (lv' := [(0, .ref (b 0)), (1, .int p0), (2, .int p1), (3, .int p2), (4, .int p3), (5, .int x8)]) [1, 2, 3, 4, 5, 0] rfl ?_
      exact hj11 _ hw
    · have hw := hw.2 hc
      refine z_iload_n C 4 dX5_observe_28 rfl ?_
      refine z_sipush C (-9999) dX5_observe_29 (by decide) ?_
      refine z_sipush C 9999 dX5_observe_32 (by decide) ?_
      refine z_call0iS C hR hL (As := [.int p2, .int (-9999), .int 9999]) (c_X5_isBetween l D b g s p2 (-9999) 9999 _ hw) gX5_observe_X5_isBetween rfl ⟨by decide +kernel, by decide +kernel, (show (parseMethodDescriptor yX5_isBetween.desc).map (fun d => d.parameters.length) = some 3 from by decide +kernel)⟩ ⟨rfl, rfl⟩ ⟨Nat.le_of_ble_eq_true rfl, Nat.le_of_ble_eq_true rfl⟩ ⟨Nat.le_of_ble_eq_true rfl, Nat.le_of_ble_eq_true rfl⟩ rfl (Nat.le_of_ble_eq_true rfl) dX5_observe_35 (fun r30 s31 h32 => ?_)
      obtain ⟨es31, hw⟩ := h32
      subst es31
      refine z_if_eq C 55 dX5_observe_38 (by decide) (fun hc => ?_) (fun hc => ?_)
      · have hw := hw.1 hc
        refine z_iconst C 0 dX5_observe_55 (by decide) ?_
        refine z_sub (lv' := [(0, .ref (b 0)), (1, .int p0), (2, .int p1), (3, .int p2), (4, .int p3), (5, .int x8)]) [1, 2, 3, 4, 5, 0] rfl ?_
        exact hj11 _ hw
      · have hw := hw.2 hc
        refine z_iload C 5 dX5_observe_41 rfl ?_
        refine z_iconst C 1 dX5_observe_43 (by decide) ?_
        refine z_iconst C 5 dX5_observe_44 (by decide) ?_
        refine z_call0iS C hR hL (As := [.int p3, .int 1, .int 5]) (c_X5_isBetween l D b g s p3 1 5 _ hw) gX5_observe_X5_isBetween rfl ⟨by decide +kernel, by decide +kernel, (show (parseMethodDescriptor yX5_isBetween.desc).map (fun d => d.parameters.length) = some 3 from by decide +kernel)⟩ ⟨rfl, rfl⟩ ⟨Nat.le_of_ble_eq_true rfl, Nat.le_of_ble_eq_true rfl⟩ ⟨Nat.le_of_ble_eq_true rfl, Nat.le_of_ble_eq_true rfl⟩ rfl (Nat.le_of_ble_eq_true rfl) dX5_observe_45 (fun r33 s34 h35 => ?_)
        obtain ⟨es34, hw⟩ := h35
        subst es34
        refine z_if_eq C 55 dX5_observe_48 (by decide) (fun hc => ?_) (fun hc => ?_)
        · have hw := hw.1 hc
          refine z_iconst C 0 dX5_observe_55 (by decide) ?_
          refine z_sub (lv' := [(0, .ref (b 0)), (1, .int p0), (2, .int p1), (3, .int p2), (4, .int p3), (5, .int x8)]) [1, 2, 3, 4, 5, 0] rfl ?_
          exact hj11 _ hw
        · have hw := hw.2 hc
          refine z_iconst C 1 dX5_observe_51 (by decide) ?_
          refine z_goto C 56 dX5_observe_52 (by decide) ?_
          refine z_sub (lv' := [(0, .ref (b 0)), (1, .int p0), (2, .int p1), (3, .int p2), (4, .int p3), (5, .int x8)]) [1, 2, 3, 4, 5, 0] rfl ?_
          exact hj11 _ hw
  refine z_if_eq C 20 dX5_observe_5 (by decide) (fun hc => ?_) (fun hc => ?_)
  · have hw := hw.1 hc
    refine z_iconst C 0 dX5_observe_20 (by decide) ?_
    exact hj6 _ hw
  · have hw := hw.2 hc
    refine z_aload_n C 0 dX5_observe_8 rfl ?_
    refine z_iload_n C 2 dX5_observe_9 rfl ?_
    refine z_call0iV C hR hL (As := [.int p1]) (c_X5_isStation l D b g s p1 _ hw) gX5_observe_X5_isStation rfl ⟨by decide +kernel, by decide +kernel, (show (parseMethodDescriptor yX5_isStation.desc).map (fun d => d.parameters.length) = some 1 from by decide +kernel)⟩ ⟨rfl, rfl⟩ ⟨Nat.le_of_ble_eq_true rfl, Nat.le_of_ble_eq_true rfl⟩ ⟨Nat.le_of_ble_eq_true rfl, Nat.le_of_ble_eq_true rfl⟩ 0 5 rfl rfl rfl rfl (Nat.le_of_ble_eq_true rfl) dX5_observe_10 (fun r36 s37 h38 => ?_)
    obtain ⟨es37, hw⟩ := h38
    subst es37
    refine z_if_eq C 20 dX5_observe_13 (by decide) (fun hc => ?_) (fun hc => ?_)
    · have hw := hw.1 hc
      refine z_iconst C 0 dX5_observe_20 (by decide) ?_
      exact hj6 _ hw
    · have hw := hw.2 hc
      refine z_iconst C 1 dX5_observe_16 (by decide) ?_
      refine z_goto C 21 dX5_observe_17 (by decide) ?_
      exact hj6 _ hw
def W_X5_withdraw (s : zS) (p0 : Int32) (p1 : Int32) (Q : Int32 → zS → Prop) : Prop :=
    W_X5_isObservation s p0 (fun r1 =>
    ∃ k4 : Int32 → Prop, (∀ (v7 : Int32), k4 v7 →
    W_X5_goes s v7 (fun r8 s9 =>
    (¬ r8 = 0 →
    vp_in p0 14 ∧
    ∀ x12 : Int32, x12 = (gF s9 6 (ix p0)) →
    vp_in p0 14 ∧
    ∀ s14 : zS, s14 = sF s9 6 (ix p0) (vp_nar .boolean p1) →
    narrow .boolean (.int x12) = .int x12 ∧ Q x12 s14) ∧ (r8 = 0 →
    Q 0 s9))) ∧ ((r1 = 0 →
    k4 1) ∧ (¬ r1 = 0 →
    k4 0)))
set_option maxHeartbeats 4000000 in
set_option maxRecDepth 100000 in
theorem c_X5_withdraw (l : Launch) (D : va_G) (b : Nat → Nat) (g : Nat → ClassId) (s : zS) (p0 : Int32) (p1 : Int32) (Q : Int32 → zS → Prop) (hw : W_X5_withdraw s p0 p1 Q) : zMi l D (zT g) yX5_withdraw wsX5_withdraw ({ frames := 2, cells := 0, slots := 0, locals := 43 } : Room) [.ref (b 0), .int p0, .int p1] (WM b g) s (fun r u => Q r u) := by
  have i5 : ∀ w ∈ u_ws RX5 TX5 18, w ∈ wsX5_withdraw := fun _ h => (List.mem_cons_of_mem _ (List.mem_append_right _ h))
  refine zMi_start (cc := cX5_withdraw) (maxL := 4) (lv0 := [(0, .ref (b 0)), (1, .int p0), (2, .int p1)]) (own := RX5) rfl (plainFor_of_name (by decide)) rfl (Nat.le_of_ble_eq_true rfl) rfl (fun X C hR hL hE => ?_)
  refine z_aload_n C 0 dX5_withdraw_0 rfl ?_
  refine z_aload_n C 0 dX5_withdraw_1 rfl ?_
  refine z_iload_n C 1 dX5_withdraw_2 rfl ?_
  refine z_call0iV C hR hL (As := [.int p0]) (c_X5_isObservation l D b g s p0 _ hw) gX5_withdraw_X5_isObservation rfl ⟨by decide +kernel, by decide +kernel, (show (parseMethodDescriptor yX5_isObservation.desc).map (fun d => d.parameters.length) = some 1 from by decide +kernel)⟩ ⟨rfl, rfl⟩ ⟨Nat.le_of_ble_eq_true rfl, Nat.le_of_ble_eq_true rfl⟩ ⟨Nat.le_of_ble_eq_true rfl, Nat.le_of_ble_eq_true rfl⟩ 0 5 rfl rfl rfl rfl (Nat.le_of_ble_eq_true rfl) dX5_withdraw_3 (fun r1 s2 h3 => ?_)
  obtain ⟨es2, hw⟩ := h3
  subst es2
  obtain ⟨k4, hk5, hw⟩ := hw
  have hj6 : ∀ (v7 : Int32), k4 v7 → zV X D 4 0 0 (WM b g s) 14 [(0, .ref (b 0)), (1, .int p0), (2, .int p1)] [.int v7, .ref (b 0)] := by
    intro v7 hw0
    have hw := hk5 v7 hw0
    refine z_call0iV C hR hL (As := [.int v7]) (c_X5_goes l D b g s v7 _ hw) gX5_withdraw_X5_goes rfl ⟨by decide +kernel, by decide +kernel, (show (parseMethodDescriptor yX5_goes.desc).map (fun d => d.parameters.length) = some 1 from by decide +kernel)⟩ ⟨rfl, rfl⟩ ⟨Nat.le_of_ble_eq_true rfl, Nat.le_of_ble_eq_true rfl⟩ ⟨Nat.le_of_ble_eq_true rfl, Nat.le_of_ble_eq_true rfl⟩ 0 5 rfl rfl rfl rfl (Nat.le_of_ble_eq_true rfl) dX5_withdraw_14 (fun r8 s9 h10 => ?_)
    have hw := h10
    refine z_if_ne C 22 dX5_withdraw_17 (by decide) (fun hc => ?_) (fun hc => ?_)
    · have hw := hw.1 hc
      refine z_aload_n C 0 dX5_withdraw_22 rfl ?_
      refine zg5_isWithdrawn C i5 (List.mem_of_getElem? (i := 1) rfl) dX5_withdraw_23 ?_
      refine z_iload_n C 1 dX5_withdraw_26 rfl ?_
      obtain ⟨b11, hw⟩ := hw
      refine zl5_isWithdrawn C b11 dX5_withdraw_27 ?_
      refine z_topi (fun x12 ex12 => ?_)
      have hw := hw x12 ex12
      refine z_istore_n (lv' := [(3, .int x12), (0, .ref (b 0)), (1, .int p0), (2, .int p1)]) C 3 dX5_withdraw_28 rfl (by decide) rfl ?_
      refine z_aload_n C 1 dX5_withdraw_29 rfl ?_
      refine zg5_isWithdrawn C i5 (List.mem_of_getElem? (i := 1) rfl) dX5_withdraw_30 ?_
      refine z_iload_n C 2 dX5_withdraw_33 rfl ?_
      refine z_iload_n C 3 dX5_withdraw_34 rfl ?_
      obtain ⟨b13, hw⟩ := hw
      refine zs5_isWithdrawn C b13 dX5_withdraw_35 ?_
      refine z_topsWM (fun s14 es14 => ?_)
      have hw := hw s14 es14
      refine z_iload_n C 0 dX5_withdraw_36 rfl ?_
      obtain ⟨b15, hw⟩ := hw
      exact hE _ _ _ _ _ _ dX5_withdraw_37 b15 (Nat.le_refl _) (Nat.le_refl _) hw
    · have hw := hw.2 hc
      refine z_iconst C 0 dX5_withdraw_20 (by decide) ?_
      exact hE _ _ _ _ _ _ dX5_withdraw_21 rfl (Nat.le_refl _) (Nat.le_refl _) hw
  refine z_if_eq C 13 dX5_withdraw_6 (by decide) (fun hc => ?_) (fun hc => ?_)
  · have hw := hw.1 hc
    refine z_iconst C 1 dX5_withdraw_13 (by decide) ?_
    exact hj6 _ hw
  · have hw := hw.2 hc
    refine z_iconst C 0 dX5_withdraw_9 (by decide) ?_
    refine z_goto C 14 dX5_withdraw_10 (by decide) ?_
    exact hj6 _ hw
def W_X5_reaches_L130 (Q : zS → Prop) (K : zS → Prop) : Nat → Int32 → zS → Prop
  | 0, _, _ => False
  | n + 1, v23, s24 =>
    (v23 < 0 →
    K s24) ∧ (¬ v23 < 0 →
    vp_in v23 6 ∧
    ((gF s24 8 (ix v23)) = 0 →
    ∀ s26 : zS, s26 = sI s24 4 (gI s24 4) →
    ∀ x27 : Int32, x27 = v23 + (-1) →
    W_X5_reaches_L130 Q K n x27 s26) ∧ (¬ (gF s24 8 (ix v23)) = 0 →
    vp_in v23 6 ∧
    (¬ (gF s24 0 (ix v23)) = 0 →
    ∀ s29 : zS, s29 = sI s24 4 v23 →
    ∀ x30 : Int32, x30 = v23 + (-1) →
    W_X5_reaches_L130 Q K n x30 s29) ∧ ((gF s24 0 (ix v23)) = 0 →
    ((gI s24 4) = (-1) →
    ∀ s31 : zS, s31 = sI s24 4 v23 →
    ∀ x32 : Int32, x32 = v23 + (-1) →
    W_X5_reaches_L130 Q K n x32 s31) ∧ (¬ (gI s24 4) = (-1) →
    vp_in (gI s24 4) 6 ∧
    (¬ (gF s24 0 (ix (gI s24 4))) = 0 →
    ∀ s34 : zS, s34 = sI s24 4 (gI s24 4) →
    ∀ x35 : Int32, x35 = v23 + (-1) →
    W_X5_reaches_L130 Q K n x35 s34) ∧ ((gF s24 0 (ix (gI s24 4))) = 0 →
    ∀ s36 : zS, s36 = sI s24 4 v23 →
    ∀ x37 : Int32, x37 = v23 + (-1) →
    W_X5_reaches_L130 Q K n x37 s36)))))
def W_X5_reaches_L40 (v38 : Int32) (Q : zS → Prop) (K : zS → Prop) : Nat → Int32 → zS → Prop
  | 0, _, _ => False
  | n + 1, v48, s49 =>
    ((gI s49 1) ≤ v48 →
    K s49) ∧ (¬ (gI s49 1) ≤ v48 →
    vp_in v48 14 ∧
    (¬ (gF s49 6 (ix v48)) = 0 →
    ∀ x51 : Int32, x51 = v48 + 1 →
    W_X5_reaches_L40 v38 Q K n x51 s49) ∧ ((gF s49 6 (ix v48)) = 0 →
    vp_in v48 14 ∧
    vp_in (gF s49 2 (ix v48)) 6 ∧
    vp_in v48 14 ∧
    vp_in (gF s49 3 (ix v48)) 6 ∧
    ((gF s49 8 (ix (gF s49 2 (ix v48)))) = (gF s49 8 (ix (gF s49 3 (ix v48)))) →
    ∀ x56 : Int32, x56 = v48 + 1 →
    W_X5_reaches_L40 v38 Q K n x56 s49) ∧ (¬ (gF s49 8 (ix (gF s49 2 (ix v48)))) = (gF s49 8 (ix (gF s49 3 (ix v48)))) →
    vp_in v48 14 ∧
    vp_in (gF s49 2 (ix v48)) 6 ∧
    ∀ s59 : zS, s59 = sF s49 8 (ix (gF s49 2 (ix v48))) (vp_nar .boolean 1) →
    vp_in v48 14 ∧
    vp_in (gF s59 3 (ix v48)) 6 ∧
    ∀ s62 : zS, s62 = sF s59 8 (ix (gF s59 3 (ix v48))) (vp_nar .boolean 1) →
    ∀ x63 : Int32, x63 = v48 + 1 →
    W_X5_reaches_L40 v38 Q K n x63 s62)))
def W_X5_reaches_L32 (Q : zS → Prop) (K : zS → Prop) : Nat → Int32 → zS → Prop
  | 0, _, _ => False
  | n + 1, v38, s39 =>
    (6 ≤ v38 →
    K s39) ∧ (¬ 6 ≤ v38 →
    ∀ x40 : Int32, x40 = 0 →
    ∃ (K41 : zS → Prop) (n42 : Nat), (∀  (s46 : zS), K41 s46 →
    ∀ x47 : Int32, x47 = v38 + 1 →
    W_X5_reaches_L32 Q K n x47 s46) ∧ W_X5_reaches_L40 v38 Q K41 n42 x40 s39)
def W_X5_reaches_L2 (p0 : Int32) (Q : zS → Prop) (K : zS → Prop) : Nat → Int32 → zS → Prop
  | 0, _, _ => False
  | n + 1, v64, s65 =>
    (6 ≤ v64 →
    K s65) ∧ (¬ 6 ≤ v64 →
    (¬ v64 = p0 →
    vp_in v64 6 ∧
    ∀ s67 : zS, s67 = sF s65 8 (ix v64) (vp_nar .boolean 0) →
    ∀ x68 : Int32, x68 = v64 + 1 →
    W_X5_reaches_L2 p0 Q K n x68 s67) ∧ (v64 = p0 →
    vp_in v64 6 ∧
    ∀ s70 : zS, s70 = sF s65 8 (ix v64) (vp_nar .boolean 1) →
    ∀ x71 : Int32, x71 = v64 + 1 →
    W_X5_reaches_L2 p0 Q K n x71 s70))
def W_X5_reaches (s : zS) (p0 : Int32) (Q : zS → Prop) : Prop :=
    ∀ x1 : Int32, x1 = 0 →
    ∃ (K2 : zS → Prop) (n3 : Nat), (∀  (s7 : zS), K2 s7 →
    ∀ x8 : Int32, x8 = 0 →
    ∃ (K9 : zS → Prop) (n10 : Nat), (∀  (s14 : zS), K9 s14 →
    ∀ s15 : zS, s15 = sI s14 4 (-1) →
    ∀ x16 : Int32, x16 = ((gI s15 0) - 1) →
    ∃ (K17 : zS → Prop) (n18 : Nat), (∀  (s22 : zS), K17 s22 →
    Q s22) ∧ W_X5_reaches_L130 Q K17 n18 x16 s15) ∧ W_X5_reaches_L32 Q K9 n10 x8 s7) ∧ W_X5_reaches_L2 p0 Q K2 n3 x1 s
set_option maxHeartbeats 4000000 in
set_option maxRecDepth 100000 in
theorem c_X5_reaches (l : Launch) (D : va_G) (b : Nat → Nat) (g : Nat → ClassId) (s : zS) (p0 : Int32) (Q : zS → Prop) (hw : W_X5_reaches s p0 Q) : zMv l D (zT g) yX5_reaches wsX5_reaches ({ frames := 0, cells := 0, slots := 0, locals := 0 } : Room) [.ref (b 0), .int p0] (WM b g) s (fun u => Q u) := by
  have i5 : ∀ w ∈ u_ws RX5 TX5 18, w ∈ wsX5_reaches := fun _ h => (List.mem_cons_of_mem _ (List.mem_append_right _ h))
  refine zMv_start (cc := cX5_reaches) (maxL := 4) (lv0 := [(0, .ref (b 0)), (1, .int p0)]) (own := RX5) rfl (plainFor_of_name (by decide)) rfl (Nat.le_of_ble_eq_true rfl) rfl (fun X C hR hL hE => ?_)
  refine z_iconst C 0 dX5_reaches_0 (by decide) ?_
  refine z_topi (fun x1 ex1 => ?_)
  have hw := hw x1 ex1
  refine z_istore_n (lv' := [(2, .int x1), (0, .ref (b 0)), (1, .int p0)]) C 2 dX5_reaches_1 rfl (by decide) rfl ?_
  refine z_sub (lv' := [(0, .ref (b 0)), (1, .int p0), (2, .int x1)]) [1, 2, 0] rfl ?_
  obtain ⟨K2, n3, hK4, hw⟩ := hw
  have hx5 : ∀ (s7 : zS), K2 s7 → zV X D 4 0 0 (WM b g s7) 30 [(0, .ref (b 0))] [] := by
    intro s7 hw0
    have hw := hK4 s7 hw0
    refine z_iconst C 0 dX5_reaches_30 (by decide) ?_
    refine z_topi (fun x8 ex8 => ?_)
    have hw := hw x8 ex8
    refine z_istore_n (lv' := [(2, .int x8), (0, .ref (b 0))]) C 2 dX5_reaches_31 rfl (by decide) rfl ?_
    refine z_sub (lv' := [(0, .ref (b 0)), (2, .int x8)]) [1, 0] rfl ?_
    obtain ⟨K9, n10, hK11, hw⟩ := hw
    have hx12 : ∀ (s14 : zS), K9 s14 → zV X D 4 0 0 (WM b g s14) 118 [(0, .ref (b 0))] [] := by
      intro s14 hw0
      have hw := hK11 s14 hw0
      refine z_aload_n C 0 dX5_reaches_118 rfl ?_
      refine z_iconst C (-1) dX5_reaches_119 (by decide) ?_
      refine zp5_datum C i5 (List.mem_of_getElem? (i := 6) rfl) dX5_reaches_120 ?_
      refine z_topsWM (fun s15 es15 => ?_)
      have hw := hw s15 es15
      refine z_aload_n C 0 dX5_reaches_123 rfl ?_
      refine zg5_stations C i5 (List.mem_of_getElem? (i := 7) rfl) dX5_reaches_124 ?_
      refine z_iconst C 1 dX5_reaches_127 (by decide) ?_
      refine z_isub C dX5_reaches_128 ?_
      refine z_topi (fun x16 ex16 => ?_)
      have hw := hw x16 ex16
      refine z_istore_n (lv' := [(2, .int x16), (0, .ref (b 0))]) C 2 dX5_reaches_129 rfl (by decide) rfl ?_
      refine z_sub (lv' := [(0, .ref (b 0)), (2, .int x16)]) [1, 0] rfl ?_
      obtain ⟨K17, n18, hK19, hw⟩ := hw
      have hx20 : ∀ (s22 : zS), K17 s22 → zV X D 4 0 0 (WM b g s22) 190 [] [] := by
        intro s22 hw0
        have hw := hK19 s22 hw0
        exact hE _ _ _ _ _ dX5_reaches_190 (Nat.le_refl _) (Nat.le_refl _) hw
      have lp21 : ∀ (n : Nat) (v23 : Int32) (s24 : zS), W_X5_reaches_L130 Q K17 n v23 s24 → zV X D 4 0 0 (WM b g s24) 130 [(0, .ref (b 0)), (2, .int v23)] [] := by
        intro n
        induction n with
        | zero => intro v23 s24 hw; exact False.elim hw
        | succ n ih =>
          intro v23 s24 hw
          refine z_iload_n C 1 dX5_reaches_130 rfl ?_
          refine z_if_lt C 190 dX5_reaches_131 (by decide) (fun hc => ?_) (fun hc => ?_)
          · have hw := hw.1 hc
            refine z_sub (lv' := []) [] rfl ?_
            exact hx20 _ hw
          · have hw := hw.2 hc
            refine z_aload_n C 0 dX5_reaches_134 rfl ?_
            refine z_aload_n C 0 dX5_reaches_135 rfl ?_
            refine zg5_isIn C i5 (List.mem_of_getElem? (i := 1) rfl) dX5_reaches_136 ?_
            refine z_iload_n C 1 dX5_reaches_139 rfl ?_
            obtain ⟨b25, hw⟩ := hw
            refine zl5_isIn C b25 dX5_reaches_140 ?_
            refine z_if_eq C 177 dX5_reaches_141 (by decide) (fun hc => ?_) (fun hc => ?_)
            · have hw := hw.1 hc
              refine z_aload_n C 0 dX5_reaches_177 rfl ?_
              refine zg5_datum C i5 (List.mem_of_getElem? (i := 6) rfl) dX5_reaches_178 ?_
              refine zp5_datum C i5 (List.mem_of_getElem? (i := 6) rfl) dX5_reaches_181 ?_
              refine z_topsWM (fun s26 es26 => ?_)
              have hw := hw s26 es26
              obtain ⟨x27, ex27⟩ : ∃ z : Int32, z = v23 + (-1) := ⟨_, rfl⟩
              have hw := hw x27 ex27
              refine z_iinc (lv' := [(2, .int x27), (0, .ref (b 0))]) C 1 dX5_reaches_184 rfl (by rw [ex27]; rfl) (by decide) rfl ?_
              refine z_goto C 130 dX5_reaches_187 (by decide) ?_
              refine z_sub (lv' := [(0, .ref (b 0)), (2, .int x27)]) [1, 0] rfl ?_
              exact ih _ _ hw
            · have hw := hw.2 hc
              refine z_aload_n C 0 dX5_reaches_144 rfl ?_
              refine zg5_isTold C i5 (List.mem_of_getElem? (i := 8) rfl) dX5_reaches_145 ?_
              refine z_iload_n C 1 dX5_reaches_148 rfl ?_
              obtain ⟨b28, hw⟩ := hw
              refine zl5_isTold C b28 dX5_reaches_149 ?_
              refine z_if_ne C 173 dX5_reaches_150 (by decide) (fun hc => ?_) (fun hc => ?_)
              · have hw := hw.1 hc
                refine z_iload_n C 1 dX5_reaches_173 rfl ?_
                refine z_goto C 181 dX5_reaches_174 (by decide) ?_
                refine zp5_datum C i5 (List.mem_of_getElem? (i := 6) rfl) dX5_reaches_181 ?_
                refine z_topsWM (fun s29 es29 => ?_)
                have hw := hw s29 es29
                obtain ⟨x30, ex30⟩ : ∃ z : Int32, z = v23 + (-1) := ⟨_, rfl⟩
                have hw := hw x30 ex30
                refine z_iinc (lv' := [(2, .int x30), (0, .ref (b 0))]) C 1 dX5_reaches_184 rfl (by rw [ex30]; rfl) (by decide) rfl ?_
                refine z_goto C 130 dX5_reaches_187 (by decide) ?_
                refine z_sub (lv' := [(0, .ref (b 0)), (2, .int x30)]) [1, 0] rfl ?_
                exact ih _ _ hw
              · have hw := hw.2 hc
                refine z_aload_n C 0 dX5_reaches_153 rfl ?_
                refine zg5_datum C i5 (List.mem_of_getElem? (i := 6) rfl) dX5_reaches_154 ?_
                refine z_iconst C (-1) dX5_reaches_157 (by decide) ?_
                refine z_icmp_eq C 173 dX5_reaches_158 (by decide) (fun hc => ?_) (fun hc => ?_)
                · have hw := hw.1 hc
                  refine z_iload_n C 1 dX5_reaches_173 rfl ?_
                  refine z_goto C 181 dX5_reaches_174 (by decide) ?_
                  refine zp5_datum C i5 (List.mem_of_getElem? (i := 6) rfl) dX5_reaches_181 ?_
                  refine z_topsWM (fun s31 es31 => ?_)
                  have hw := hw s31 es31
                  obtain ⟨x32, ex32⟩ : ∃ z : Int32, z = v23 + (-1) := ⟨_, rfl⟩
                  have hw := hw x32 ex32
                  refine z_iinc (lv' := [(2, .int x32), (0, .ref (b 0))]) C 1 dX5_reaches_184 rfl (by rw [ex32]; rfl) (by decide) rfl ?_
                  refine z_goto C 130 dX5_reaches_187 (by decide) ?_
                  refine z_sub (lv' := [(0, .ref (b 0)), (2, .int x32)]) [1, 0] rfl ?_
                  exact ih _ _ hw
                · have hw := hw.2 hc
                  refine z_aload_n C 0 dX5_reaches_161 rfl ?_
                  refine zg5_isTold C i5 (List.mem_of_getElem? (i := 8) rfl) dX5_reaches_162 ?_
                  refine z_aload_n C 0 dX5_reaches_165 rfl ?_
                  refine zg5_datum C i5 (List.mem_of_getElem? (i := 6) rfl) dX5_reaches_166 ?_
                  obtain ⟨b33, hw⟩ := hw
                  refine zl5_isTold C b33 dX5_reaches_169 ?_
                  refine z_if_ne C 177 dX5_reaches_170 (by decide) (fun hc => ?_) (fun hc => ?_)
                  · have hw := hw.1 hc
                    refine z_aload_n C 0 dX5_reaches_177 rfl ?_
                    refine zg5_datum C i5 (List.mem_of_getElem? (i := 6) rfl) dX5_reaches_178 ?_
                    refine zp5_datum C i5 (List.mem_of_getElem? (i := 6) rfl) dX5_reaches_181 ?_
                    refine z_topsWM (fun s34 es34 => ?_)
                    have hw := hw s34 es34
                    obtain ⟨x35, ex35⟩ : ∃ z : Int32, z = v23 + (-1) := ⟨_, rfl⟩
                    have hw := hw x35 ex35
                    refine z_iinc (lv' := [(2, .int x35), (0, .ref (b 0))]) C 1 dX5_reaches_184 rfl (by rw [ex35]; rfl) (by decide) rfl ?_
                    refine z_goto C 130 dX5_reaches_187 (by decide) ?_
                    refine z_sub (lv' := [(0, .ref (b 0)), (2, .int x35)]) [1, 0] rfl ?_
                    exact ih _ _ hw
                  · have hw := hw.2 hc
                    refine z_iload_n C 1 dX5_reaches_173 rfl ?_
                    refine z_goto C 181 dX5_reaches_174 (by decide) ?_
                    refine zp5_datum C i5 (List.mem_of_getElem? (i := 6) rfl) dX5_reaches_181 ?_
                    refine z_topsWM (fun s36 es36 => ?_)
                    have hw := hw s36 es36
                    obtain ⟨x37, ex37⟩ : ∃ z : Int32, z = v23 + (-1) := ⟨_, rfl⟩
                    have hw := hw x37 ex37
                    refine z_iinc (lv' := [(2, .int x37), (0, .ref (b 0))]) C 1 dX5_reaches_184 rfl (by rw [ex37]; rfl) (by decide) rfl ?_
                    refine z_goto C 130 dX5_reaches_187 (by decide) ?_
                    refine z_sub (lv' := [(0, .ref (b 0)), (2, .int x37)]) [1, 0] rfl ?_
                    exact ih _ _ hw
      exact lp21 n18 _ _ hw
    have lp13 : ∀ (n : Nat) (v38 : Int32) (s39 : zS), W_X5_reaches_L32 Q K9 n v38 s39 → zV X D 4 0 0 (WM b g s39) 32 [(0, .ref (b 0)), (2, .int v38)] [] := by
      intro n
      induction n with
      | zero => intro v38 s39 hw; exact False.elim hw
      | succ n ih =>
        intro v38 s39 hw
        refine z_iload_n C 1 dX5_reaches_32 rfl ?_
        refine z_bipush C 6 dX5_reaches_33 (by decide) ?_
        refine z_icmp_ge C 118 dX5_reaches_35 (by decide) (fun hc => ?_) (fun hc => ?_)
        · have hw := hw.1 hc
          refine z_sub (lv' := [(0, .ref (b 0))]) [0] rfl ?_
          exact hx12 _ hw
        · have hw := hw.2 hc
          refine z_iconst C 0 dX5_reaches_38 (by decide) ?_
          refine z_topi (fun x40 ex40 => ?_)
          have hw := hw x40 ex40
          refine z_istore_n (lv' := [(3, .int x40), (0, .ref (b 0)), (2, .int v38)]) C 3 dX5_reaches_39 rfl (by decide) rfl ?_
          refine z_sub (lv' := [(0, .ref (b 0)), (2, .int v38), (3, .int x40)]) [1, 2, 0] rfl ?_
          obtain ⟨K41, n42, hK43, hw⟩ := hw
          have hx44 : ∀ (s46 : zS), K41 s46 → zV X D 4 0 0 (WM b g s46) 112 [(0, .ref (b 0)), (2, .int v38)] [] := by
            intro s46 hw0
            have hw := hK43 s46 hw0
            obtain ⟨x47, ex47⟩ : ∃ z : Int32, z = v38 + 1 := ⟨_, rfl⟩
            have hw := hw x47 ex47
            refine z_iinc (lv' := [(2, .int x47), (0, .ref (b 0))]) C 1 dX5_reaches_112 rfl (by rw [ex47]; rfl) (by decide) rfl ?_
            refine z_goto C 32 dX5_reaches_115 (by decide) ?_
            refine z_sub (lv' := [(0, .ref (b 0)), (2, .int x47)]) [1, 0] rfl ?_
            exact ih _ _ hw
          have lp45 : ∀ (n : Nat) (v48 : Int32) (s49 : zS), W_X5_reaches_L40 v38 Q K41 n v48 s49 → zV X D 4 0 0 (WM b g s49) 40 [(0, .ref (b 0)), (2, .int v38), (3, .int v48)] [] := by
            intro n
            induction n with
            | zero => intro v48 s49 hw; exact False.elim hw
            | succ n ih =>
              intro v48 s49 hw
              refine z_iload_n C 2 dX5_reaches_40 rfl ?_
              refine z_aload_n C 0 dX5_reaches_41 rfl ?_
              refine zg5_observations C i5 (List.mem_of_getElem? (i := 2) rfl) dX5_reaches_42 ?_
              refine z_icmp_ge C 112 dX5_reaches_45 (by decide) (fun hc => ?_) (fun hc => ?_)
              · have hw := hw.1 hc
                refine z_sub (lv' := [(0, .ref (b 0)), (2, .int v38)]) [0, 1] rfl ?_
                exact hx44 _ hw
              · have hw := hw.2 hc
                refine z_aload_n C 0 dX5_reaches_48 rfl ?_
                refine zg5_isWithdrawn C i5 (List.mem_of_getElem? (i := 3) rfl) dX5_reaches_49 ?_
                refine z_iload_n C 2 dX5_reaches_52 rfl ?_
                obtain ⟨b50, hw⟩ := hw
                refine zl5_isWithdrawn C b50 dX5_reaches_53 ?_
                refine z_if_ne C 106 dX5_reaches_54 (by decide) (fun hc => ?_) (fun hc => ?_)
                · have hw := hw.1 hc
                  obtain ⟨x51, ex51⟩ : ∃ z : Int32, z = v48 + 1 := ⟨_, rfl⟩
                  have hw := hw x51 ex51
                  refine z_iinc (lv' := [(3, .int x51), (0, .ref (b 0)), (2, .int v38)]) C 2 dX5_reaches_106 rfl (by rw [ex51]; rfl) (by decide) rfl ?_
                  refine z_goto C 40 dX5_reaches_109 (by decide) ?_
                  refine z_sub (lv' := [(0, .ref (b 0)), (2, .int v38), (3, .int x51)]) [1, 2, 0] rfl ?_
                  exact ih _ _ hw
                · have hw := hw.2 hc
                  refine z_aload_n C 0 dX5_reaches_57 rfl ?_
                  refine zg5_isIn C i5 (List.mem_of_getElem? (i := 1) rfl) dX5_reaches_58 ?_
                  refine z_aload_n C 0 dX5_reaches_61 rfl ?_
                  refine zg5_froms C i5 (List.mem_of_getElem? (i := 4) rfl) dX5_reaches_62 ?_
                  refine z_iload_n C 2 dX5_reaches_65 rfl ?_
                  obtain ⟨b52, hw⟩ := hw
                  refine zl5_froms C b52 dX5_reaches_66 ?_
                  obtain ⟨b53, hw⟩ := hw
                  refine zl5_isIn C b53 dX5_reaches_67 ?_
                  refine z_aload_n C 0 dX5_reaches_68 rfl ?_
                  refine zg5_isIn C i5 (List.mem_of_getElem? (i := 1) rfl) dX5_reaches_69 ?_
                  refine z_aload_n C 0 dX5_reaches_72 rfl ?_
                  refine zg5_tos C i5 (List.mem_of_getElem? (i := 5) rfl) dX5_reaches_73 ?_
                  refine z_iload_n C 2 dX5_reaches_76 rfl ?_
                  obtain ⟨b54, hw⟩ := hw
                  refine zl5_tos C b54 dX5_reaches_77 ?_
                  obtain ⟨b55, hw⟩ := hw
                  refine zl5_isIn C b55 dX5_reaches_78 ?_
                  refine z_icmp_eq C 106 dX5_reaches_79 (by decide) (fun hc => ?_) (fun hc => ?_)
                  · have hw := hw.1 hc
                    obtain ⟨x56, ex56⟩ : ∃ z : Int32, z = v48 + 1 := ⟨_, rfl⟩
                    have hw := hw x56 ex56
                    refine z_iinc (lv' := [(3, .int x56), (0, .ref (b 0)), (2, .int v38)]) C 2 dX5_reaches_106 rfl (by rw [ex56]; rfl) (by decide) rfl ?_
                    refine z_goto C 40 dX5_reaches_109 (by decide) ?_
                    refine z_sub (lv' := [(0, .ref (b 0)), (2, .int v38), (3, .int x56)]) [1, 2, 0] rfl ?_
                    exact ih _ _ hw
                  · have hw := hw.2 hc
                    refine z_aload_n C 0 dX5_reaches_82 rfl ?_
                    refine zg5_isIn C i5 (List.mem_of_getElem? (i := 1) rfl) dX5_reaches_83 ?_
                    refine z_aload_n C 0 dX5_reaches_86 rfl ?_
                    refine zg5_froms C i5 (List.mem_of_getElem? (i := 4) rfl) dX5_reaches_87 ?_
                    refine z_iload_n C 2 dX5_reaches_90 rfl ?_
                    obtain ⟨b57, hw⟩ := hw
                    refine zl5_froms C b57 dX5_reaches_91 ?_
                    refine z_iconst C 1 dX5_reaches_92 (by decide) ?_
                    obtain ⟨b58, hw⟩ := hw
                    refine zs5_isIn C b58 dX5_reaches_93 ?_
                    refine z_topsWM (fun s59 es59 => ?_)
                    have hw := hw s59 es59
                    refine z_aload_n C 0 dX5_reaches_94 rfl ?_
                    refine zg5_isIn C i5 (List.mem_of_getElem? (i := 1) rfl) dX5_reaches_95 ?_
                    refine z_aload_n C 0 dX5_reaches_98 rfl ?_
                    refine zg5_tos C i5 (List.mem_of_getElem? (i := 5) rfl) dX5_reaches_99 ?_
                    refine z_iload_n C 2 dX5_reaches_102 rfl ?_
                    obtain ⟨b60, hw⟩ := hw
                    refine zl5_tos C b60 dX5_reaches_103 ?_
                    refine z_iconst C 1 dX5_reaches_104 (by decide) ?_
                    obtain ⟨b61, hw⟩ := hw
                    refine zs5_isIn C b61 dX5_reaches_105 ?_
                    refine z_topsWM (fun s62 es62 => ?_)
                    have hw := hw s62 es62
                    obtain ⟨x63, ex63⟩ : ∃ z : Int32, z = v48 + 1 := ⟨_, rfl⟩
                    have hw := hw x63 ex63
                    refine z_iinc (lv' := [(3, .int x63), (0, .ref (b 0)), (2, .int v38)]) C 2 dX5_reaches_106 rfl (by rw [ex63]; rfl) (by decide) rfl ?_
                    refine z_goto C 40 dX5_reaches_109 (by decide) ?_
                    refine z_sub (lv' := [(0, .ref (b 0)), (2, .int v38), (3, .int x63)]) [1, 2, 0] rfl ?_
                    exact ih _ _ hw
          exact lp45 n42 _ _ hw
    exact lp13 n10 _ _ hw
  have lp6 : ∀ (n : Nat) (v64 : Int32) (s65 : zS), W_X5_reaches_L2 p0 Q K2 n v64 s65 → zV X D 4 0 0 (WM b g s65) 2 [(0, .ref (b 0)), (1, .int p0), (2, .int v64)] [] := by
    intro n
    induction n with
    | zero => intro v64 s65 hw; exact False.elim hw
    | succ n ih =>
      intro v64 s65 hw
      refine z_iload_n C 2 dX5_reaches_2 rfl ?_
      refine z_bipush C 6 dX5_reaches_3 (by decide) ?_
      refine z_icmp_ge C 30 dX5_reaches_5 (by decide) (fun hc => ?_) (fun hc => ?_)
      · have hw := hw.1 hc
        refine z_sub (lv' := [(0, .ref (b 0))]) [0] rfl ?_
        exact hx5 _ hw
      · have hw := hw.2 hc
        refine z_aload_n C 0 dX5_reaches_8 rfl ?_
        refine zg5_isIn C i5 (List.mem_of_getElem? (i := 1) rfl) dX5_reaches_9 ?_
        refine z_iload_n C 2 dX5_reaches_12 rfl ?_
        refine z_iload_n C 2 dX5_reaches_13 rfl ?_
        refine z_iload_n C 1 dX5_reaches_14 rfl ?_
        refine z_icmp_ne C 22 dX5_reaches_15 (by decide) (fun hc => ?_) (fun hc => ?_)
        · have hw := hw.1 hc
          refine z_iconst C 0 dX5_reaches_22 (by decide) ?_
          obtain ⟨b66, hw⟩ := hw
          refine zs5_isIn C b66 dX5_reaches_23 ?_
          refine z_topsWM (fun s67 es67 => ?_)
          have hw := hw s67 es67
          obtain ⟨x68, ex68⟩ : ∃ z : Int32, z = v64 + 1 := ⟨_, rfl⟩
          have hw := hw x68 ex68
          refine z_iinc (lv' := [(2, .int x68), (0, .ref (b 0)), (1, .int p0)]) C 2 dX5_reaches_24 rfl (by rw [ex68]; rfl) (by decide) rfl ?_
          refine z_goto C 2 dX5_reaches_27 (by decide) ?_
          refine z_sub (lv' := [(0, .ref (b 0)), (1, .int p0), (2, .int x68)]) [1, 2, 0] rfl ?_
          exact ih _ _ hw
        · have hw := hw.2 hc
          refine z_iconst C 1 dX5_reaches_18 (by decide) ?_
          refine z_goto C 23 dX5_reaches_19 (by decide) ?_
          obtain ⟨b69, hw⟩ := hw
          refine zs5_isIn C b69 dX5_reaches_23 ?_
          refine z_topsWM (fun s70 es70 => ?_)
          have hw := hw s70 es70
          obtain ⟨x71, ex71⟩ : ∃ z : Int32, z = v64 + 1 := ⟨_, rfl⟩
          have hw := hw x71 ex71
          refine z_iinc (lv' := [(2, .int x71), (0, .ref (b 0)), (1, .int p0)]) C 2 dX5_reaches_24 rfl (by rw [ex71]; rfl) (by decide) rfl ?_
          refine z_goto C 2 dX5_reaches_27 (by decide) ?_
          refine z_sub (lv' := [(0, .ref (b 0)), (1, .int p0), (2, .int x71)]) [1, 2, 0] rfl ?_
          exact ih _ _ hw
  exact lp6 n3 _ _ hw
def W_X5_adds (s : zS) (p0 : Int32) (p1 : Int32) (p2 : Int64) (Q : zS → Prop) : Prop :=
    (p0 = (gI s 4) →
    Q s) ∧ (¬ p0 = (gI s 4) →
    (p1 = (gI s 4) →
    Q s) ∧ (¬ p1 = (gI s 4) →
    vp_in ((7 * p0) + p1) 42 ∧
    vp_in ((7 * p0) + p1) 42 ∧
    ∀ s3 : zS, s3 = sL s 0 (ix ((7 * p0) + p1)) ((gL s 0 (ix ((7 * p0) + p1))) + p2) →
    Q s3))
set_option maxHeartbeats 4000000 in
set_option maxRecDepth 100000 in
theorem c_X5_adds (l : Launch) (D : va_G) (b : Nat → Nat) (g : Nat → ClassId) (s : zS) (p0 : Int32) (p1 : Int32) (p2 : Int64) (Q : zS → Prop) (hw : W_X5_adds s p0 p1 p2 Q) : zMv l D (zT g) yX5_adds wsX5_adds ({ frames := 0, cells := 0, slots := 0, locals := 0 } : Room) [.ref (b 0), .int p0, .int p1, .long p2] (WM b g) s (fun u => Q u) := by
  have i5 : ∀ w ∈ u_ws RX5 TX5 18, w ∈ wsX5_adds := fun _ h => (List.mem_cons_of_mem _ (List.mem_append_right _ h))
  refine zMv_start (cc := cX5_adds) (maxL := 5) (lv0 := [(0, .ref (b 0)), (1, .int p0), (2, .int p1), (3, .long p2)]) (own := RX5) rfl (plainFor_of_name (by decide)) rfl (Nat.le_of_ble_eq_true rfl) rfl (fun X C hR hL hE => ?_)
  refine z_iload_n C 1 dX5_adds_0 rfl ?_
  refine z_aload_n C 0 dX5_adds_1 rfl ?_
  refine zg5_datum C i5 (List.mem_of_getElem? (i := 1) rfl) dX5_adds_2 ?_
  refine z_icmp_eq C 31 dX5_adds_5 (by decide) (fun hc => ?_) (fun hc => ?_)
  · have hw := hw.1 hc
    exact hE _ _ _ _ _ dX5_adds_31 (Nat.le_refl _) (Nat.le_refl _) hw
  · have hw := hw.2 hc
    refine z_iload_n C 2 dX5_adds_8 rfl ?_
    refine z_aload_n C 0 dX5_adds_9 rfl ?_
    refine zg5_datum C i5 (List.mem_of_getElem? (i := 1) rfl) dX5_adds_10 ?_
    refine z_icmp_eq C 31 dX5_adds_13 (by decide) (fun hc => ?_) (fun hc => ?_)
    · have hw := hw.1 hc
      exact hE _ _ _ _ _ dX5_adds_31 (Nat.le_refl _) (Nat.le_refl _) hw
    · have hw := hw.2 hc
      refine z_aload_n C 0 dX5_adds_16 rfl ?_
      refine zg5_a C i5 (List.mem_of_getElem? (i := 2) rfl) dX5_adds_17 ?_
      refine z_bipush C 7 dX5_adds_20 (by decide) ?_
      refine z_iload_n C 1 dX5_adds_22 rfl ?_
      refine z_imul C dX5_adds_23 ?_
      refine z_iload_n C 2 dX5_adds_24 rfl ?_
      refine z_iadd C dX5_adds_25 ?_
      refine z_dup2 C dX5_adds_26 rfl rfl ?_
      obtain ⟨b1, hw⟩ := hw
      refine zl5_a C b1 dX5_adds_27 ?_
      refine z_lload_n C 3 dX5_adds_28 rfl ?_
      refine z_ladd C dX5_adds_29 ?_
      obtain ⟨b2, hw⟩ := hw
      refine zs5_a C b2 dX5_adds_30 ?_
      refine z_topsWM (fun s3 es3 => ?_)
      have hw := hw s3 es3
      exact hE _ _ _ _ _ dX5_adds_31 (Nat.le_refl _) (Nat.le_refl _) hw
def W_X5_lays_L70 (Q : zS → Prop) (K : zS → Prop) : Nat → Int32 → zS → Prop
  | 0, _, _ => False
  | n + 1, v22, s23 =>
    ((gI s23 1) ≤ v22 →
    K s23) ∧ (¬ (gI s23 1) ≤ v22 →
    vp_in v22 14 ∧
    (¬ (gF s23 6 (ix v22)) = 0 →
    ∀ x25 : Int32, x25 = v22 + 1 →
    W_X5_lays_L70 Q K n x25 s23) ∧ ((gF s23 6 (ix v22)) = 0 →
    vp_in v22 14 ∧
    vp_in (gF s23 2 (ix v22)) 6 ∧
    ((gF s23 8 (ix (gF s23 2 (ix v22)))) = 0 →
    ∀ x28 : Int32, x28 = v22 + 1 →
    W_X5_lays_L70 Q K n x28 s23) ∧ (¬ (gF s23 8 (ix (gF s23 2 (ix v22)))) = 0 →
    vp_in v22 14 ∧
    vp_in v22 14 ∧
    vp_in v22 14 ∧
    W_X5_adds s23 (gF s23 2 (ix v22)) (gF s23 2 (ix v22)) (((gF s23 5 (ix v22))).toInt64) (fun s33 =>
    vp_in v22 14 ∧
    vp_in v22 14 ∧
    vp_in v22 14 ∧
    W_X5_adds s33 (gF s33 3 (ix v22)) (gF s33 3 (ix v22)) (((gF s33 5 (ix v22))).toInt64) (fun s39 =>
    vp_in v22 14 ∧
    vp_in v22 14 ∧
    vp_in v22 14 ∧
    W_X5_adds s39 (gF s39 2 (ix v22)) (gF s39 3 (ix v22)) (((-(gF s39 5 (ix v22)))).toInt64) (fun s45 =>
    vp_in v22 14 ∧
    vp_in v22 14 ∧
    vp_in v22 14 ∧
    W_X5_adds s45 (gF s45 3 (ix v22)) (gF s45 2 (ix v22)) (((-(gF s45 5 (ix v22)))).toInt64) (fun s51 =>
    ∀ x53 : Int32, x53 = v22 + 1 →
    W_X5_lays_L70 Q K n x53 s51)))))))
def W_X5_lays_L23 (Q : zS → Prop) (K : zS → Prop) : Nat → Int32 → zS → Prop
  | 0, _, _ => False
  | n + 1, v54, s55 =>
    (6 ≤ v54 →
    K s55) ∧ (¬ 6 ≤ v54 →
    vp_in v54 6 ∧
    ((gF s55 8 (ix v54)) = 0 →
    vp_in ((7 * v54) + v54) 42 ∧
    ∀ s58 : zS, s58 = sL s55 0 (ix ((7 * v54) + v54)) 1 →
    ∀ x59 : Int32, x59 = v54 + 1 →
    W_X5_lays_L23 Q K n x59 s58) ∧ (¬ (gF s55 8 (ix v54)) = 0 →
    (v54 = (gI s55 4) →
    vp_in ((7 * v54) + v54) 42 ∧
    ∀ s61 : zS, s61 = sL s55 0 (ix ((7 * v54) + v54)) 1 →
    ∀ x62 : Int32, x62 = v54 + 1 →
    W_X5_lays_L23 Q K n x62 s61) ∧ (¬ v54 = (gI s55 4) →
    vp_in ((7 * v54) + v54) 42 ∧
    ∀ s64 : zS, s64 = sL s55 0 (ix ((7 * v54) + v54)) 0 →
    ∀ x65 : Int32, x65 = v54 + 1 →
    W_X5_lays_L23 Q K n x65 s64)))
def W_X5_lays_L2 (Q : zS → Prop) (K : zS → Prop) : Nat → Int32 → zS → Prop
  | 0, _, _ => False
  | n + 1, v66, s67 =>
    (42 ≤ v66 →
    K s67) ∧ (¬ 42 ≤ v66 →
    vp_in v66 42 ∧
    ∀ s69 : zS, s69 = sL s67 0 (ix v66) 0 →
    ∀ x70 : Int32, x70 = v66 + 1 →
    W_X5_lays_L2 Q K n x70 s69)
def W_X5_lays (s : zS) (Q : zS → Prop) : Prop :=
    ∀ x1 : Int32, x1 = 0 →
    ∃ (K2 : zS → Prop) (n3 : Nat), (∀  (s7 : zS), K2 s7 →
    ∀ x8 : Int32, x8 = 0 →
    ∃ (K9 : zS → Prop) (n10 : Nat), (∀  (s14 : zS), K9 s14 →
    ∀ x15 : Int32, x15 = 0 →
    ∃ (K16 : zS → Prop) (n17 : Nat), (∀  (s21 : zS), K16 s21 →
    Q s21) ∧ W_X5_lays_L70 Q K16 n17 x15 s14) ∧ W_X5_lays_L23 Q K9 n10 x8 s7) ∧ W_X5_lays_L2 Q K2 n3 x1 s
set_option maxHeartbeats 4000000 in
set_option maxRecDepth 100000 in
theorem c_X5_lays (l : Launch) (D : va_G) (b : Nat → Nat) (g : Nat → ClassId) (s : zS) (Q : zS → Prop) (hw : W_X5_lays s Q) : zMv l D (zT g) yX5_lays wsX5_lays ({ frames := 1, cells := 0, slots := 0, locals := 24 } : Room) [.ref (b 0)] (WM b g) s (fun u => Q u) := by
  have i5 : ∀ w ∈ u_ws RX5 TX5 18, w ∈ wsX5_lays := fun _ h => (List.mem_cons_of_mem _ (List.mem_append_right _ h))
  refine zMv_start (cc := cX5_lays) (maxL := 2) (lv0 := [(0, .ref (b 0))]) (own := RX5) rfl (plainFor_of_name (by decide)) rfl (Nat.le_of_ble_eq_true rfl) rfl (fun X C hR hL hE => ?_)
  refine z_iconst C 0 dX5_lays_0 (by decide) ?_
  refine z_topi (fun x1 ex1 => ?_)
  have hw := hw x1 ex1
  refine z_istore_n (lv' := [(1, .int x1), (0, .ref (b 0))]) C 1 dX5_lays_1 rfl (by decide) rfl ?_
  refine z_sub (lv' := [(0, .ref (b 0)), (1, .int x1)]) [1, 0] rfl ?_
  obtain ⟨K2, n3, hK4, hw⟩ := hw
  have hx5 : ∀ (s7 : zS), K2 s7 → zV X D 2 0 0 (WM b g s7) 21 [(0, .ref (b 0))] [] := by
    intro s7 hw0
    have hw := hK4 s7 hw0
    refine z_iconst C 0 dX5_lays_21 (by decide) ?_
    refine z_topi (fun x8 ex8 => ?_)
    have hw := hw x8 ex8
    refine z_istore_n (lv' := [(1, .int x8), (0, .ref (b 0))]) C 1 dX5_lays_22 rfl (by decide) rfl ?_
    refine z_sub (lv' := [(0, .ref (b 0)), (1, .int x8)]) [1, 0] rfl ?_
    obtain ⟨K9, n10, hK11, hw⟩ := hw
    have hx12 : ∀ (s14 : zS), K9 s14 → zV X D 2 0 0 (WM b g s14) 68 [(0, .ref (b 0))] [] := by
      intro s14 hw0
      have hw := hK11 s14 hw0
      refine z_iconst C 0 dX5_lays_68 (by decide) ?_
      refine z_topi (fun x15 ex15 => ?_)
      have hw := hw x15 ex15
      refine z_istore_n (lv' := [(1, .int x15), (0, .ref (b 0))]) C 1 dX5_lays_69 rfl (by decide) rfl ?_
      refine z_sub (lv' := [(0, .ref (b 0)), (1, .int x15)]) [1, 0] rfl ?_
      obtain ⟨K16, n17, hK18, hw⟩ := hw
      have hx19 : ∀ (s21 : zS), K16 s21 → zV X D 2 0 0 (WM b g s21) 201 [] [] := by
        intro s21 hw0
        have hw := hK18 s21 hw0
        exact hE _ _ _ _ _ dX5_lays_201 (Nat.le_refl _) (Nat.le_refl _) hw
      have lp20 : ∀ (n : Nat) (v22 : Int32) (s23 : zS), W_X5_lays_L70 Q K16 n v22 s23 → zV X D 2 0 0 (WM b g s23) 70 [(0, .ref (b 0)), (1, .int v22)] [] := by
        intro n
        induction n with
        | zero => intro v22 s23 hw; exact False.elim hw
        | succ n ih =>
          intro v22 s23 hw
          refine z_iload_n C 1 dX5_lays_70 rfl ?_
          refine z_aload_n C 0 dX5_lays_71 rfl ?_
          refine zg5_observations C i5 (List.mem_of_getElem? (i := 4) rfl) dX5_lays_72 ?_
          refine z_icmp_ge C 201 dX5_lays_75 (by decide) (fun hc => ?_) (fun hc => ?_)
          · have hw := hw.1 hc
            refine z_sub (lv' := []) [] rfl ?_
            exact hx19 _ hw
          · have hw := hw.2 hc
            refine z_aload_n C 0 dX5_lays_78 rfl ?_
            refine zg5_isWithdrawn C i5 (List.mem_of_getElem? (i := 5) rfl) dX5_lays_79 ?_
            refine z_iload_n C 1 dX5_lays_82 rfl ?_
            obtain ⟨b24, hw⟩ := hw
            refine zl5_isWithdrawn C b24 dX5_lays_83 ?_
            refine z_if_ne C 195 dX5_lays_84 (by decide) (fun hc => ?_) (fun hc => ?_)
            · have hw := hw.1 hc
              obtain ⟨x25, ex25⟩ : ∃ z : Int32, z = v22 + 1 := ⟨_, rfl⟩
              have hw := hw x25 ex25
              refine z_iinc (lv' := [(1, .int x25), (0, .ref (b 0))]) C 1 dX5_lays_195 rfl (by rw [ex25]; rfl) (by decide) rfl ?_
              refine z_goto C 70 dX5_lays_198 (by decide) ?_
              refine z_sub (lv' := [(0, .ref (b 0)), (1, .int x25)]) [1, 0] rfl ?_
              exact ih _ _ hw
            · have hw := hw.2 hc
              refine z_aload_n C 0 dX5_lays_87 rfl ?_
              refine zg5_isIn C i5 (List.mem_of_getElem? (i := 2) rfl) dX5_lays_88 ?_
              refine z_aload_n C 0 dX5_lays_91 rfl ?_
              refine zg5_froms C i5 (List.mem_of_getElem? (i := 6) rfl) dX5_lays_92 ?_
              refine z_iload_n C 1 dX5_lays_95 rfl ?_
              obtain ⟨b26, hw⟩ := hw
              refine zl5_froms C b26 dX5_lays_96 ?_
              obtain ⟨b27, hw⟩ := hw
              refine zl5_isIn C b27 dX5_lays_97 ?_
              refine z_if_eq C 195 dX5_lays_98 (by decide) (fun hc => ?_) (fun hc => ?_)
              · have hw := hw.1 hc
                obtain ⟨x28, ex28⟩ : ∃ z : Int32, z = v22 + 1 := ⟨_, rfl⟩
                have hw := hw x28 ex28
                refine z_iinc (lv' := [(1, .int x28), (0, .ref (b 0))]) C 1 dX5_lays_195 rfl (by rw [ex28]; rfl) (by decide) rfl ?_
                refine z_goto C 70 dX5_lays_198 (by decide) ?_
                refine z_sub (lv' := [(0, .ref (b 0)), (1, .int x28)]) [1, 0] rfl ?_
                exact ih _ _ hw
              · have hw := hw.2 hc
                refine z_aload_n C 0 dX5_lays_101 rfl ?_
                refine z_aload_n C 0 dX5_lays_102 rfl ?_
                refine zg5_froms C i5 (List.mem_of_getElem? (i := 6) rfl) dX5_lays_103 ?_
                refine z_iload_n C 1 dX5_lays_106 rfl ?_
                obtain ⟨b29, hw⟩ := hw
                refine zl5_froms C b29 dX5_lays_107 ?_
                refine z_aload_n C 0 dX5_lays_108 rfl ?_
                refine zg5_froms C i5 (List.mem_of_getElem? (i := 6) rfl) dX5_lays_109 ?_
                refine z_iload_n C 1 dX5_lays_112 rfl ?_
                obtain ⟨b30, hw⟩ := hw
                refine zl5_froms C b30 dX5_lays_113 ?_
                refine z_aload_n C 0 dX5_lays_114 rfl ?_
                refine zg5_weights C i5 (List.mem_of_getElem? (i := 7) rfl) dX5_lays_115 ?_
                refine z_iload_n C 1 dX5_lays_118 rfl ?_
                obtain ⟨b31, hw⟩ := hw
                refine zl5_weights C b31 dX5_lays_119 ?_
                refine z_i2l C dX5_lays_120 ?_
                refine z_call0vV C hR hL (As := [.int (gF s23 2 (ix v22)), .int (gF s23 2 (ix v22)), .long (((gF s23 5 (ix v22))).toInt64)]) (c_X5_adds l D b g s23 (gF s23 2 (ix v22)) (gF s23 2 (ix v22)) (((gF s23 5 (ix v22))).toInt64) _ hw) gX5_lays_X5_adds rfl ⟨by decide +kernel, by decide +kernel, (show (parseMethodDescriptor yX5_adds.desc).map (fun d => d.parameters.length) = some 3 from by decide +kernel)⟩ ⟨rfl, rfl⟩ ⟨Nat.le_of_ble_eq_true rfl, Nat.le_of_ble_eq_true rfl⟩ ⟨Nat.le_of_ble_eq_true rfl, Nat.le_of_ble_eq_true rfl⟩ 0 5 rfl rfl rfl rfl (Nat.le_of_ble_eq_true rfl) dX5_lays_121 (fun s33 h34 => ?_)
                have hw := h34
                refine z_aload_n C 0 dX5_lays_124 rfl ?_
                refine z_aload_n C 0 dX5_lays_125 rfl ?_
                refine zg5_tos C i5 (List.mem_of_getElem? (i := 8) rfl) dX5_lays_126 ?_
                refine z_iload_n C 1 dX5_lays_129 rfl ?_
                obtain ⟨b35, hw⟩ := hw
                refine zl5_tos C b35 dX5_lays_130 ?_
                refine z_aload_n C 0 dX5_lays_131 rfl ?_
                refine zg5_tos C i5 (List.mem_of_getElem? (i := 8) rfl) dX5_lays_132 ?_
                refine z_iload_n C 1 dX5_lays_135 rfl ?_
                obtain ⟨b36, hw⟩ := hw
                refine zl5_tos C b36 dX5_lays_136 ?_
                refine z_aload_n C 0 dX5_lays_137 rfl ?_
                refine zg5_weights C i5 (List.mem_of_getElem? (i := 7) rfl) dX5_lays_138 ?_
                refine z_iload_n C 1 dX5_lays_141 rfl ?_
                obtain ⟨b37, hw⟩ := hw
                refine zl5_weights C b37 dX5_lays_142 ?_
                refine z_i2l C dX5_lays_143 ?_
                refine z_call0vV C hR hL (As := [.int (gF s33 3 (ix v22)), .int (gF s33 3 (ix v22)), .long (((gF s33 5 (ix v22))).toInt64)]) (c_X5_adds l D b g s33 (gF s33 3 (ix v22)) (gF s33 3 (ix v22)) (((gF s33 5 (ix v22))).toInt64) _ hw) gX5_lays_X5_adds rfl ⟨by decide +kernel, by decide +kernel, (show (parseMethodDescriptor yX5_adds.desc).map (fun d => d.parameters.length) = some 3 from by decide +kernel)⟩ ⟨rfl, rfl⟩ ⟨Nat.le_of_ble_eq_true rfl, Nat.le_of_ble_eq_true rfl⟩ ⟨Nat.le_of_ble_eq_true rfl, Nat.le_of_ble_eq_true rfl⟩ 0 5 rfl rfl rfl rfl (Nat.le_of_ble_eq_true rfl) dX5_lays_144 (fun s39 h40 => ?_)
                have hw := h40
                refine z_aload_n C 0 dX5_lays_147 rfl ?_
                refine z_aload_n C 0 dX5_lays_148 rfl ?_
                refine zg5_froms C i5 (List.mem_of_getElem? (i := 6) rfl) dX5_lays_149 ?_
                refine z_iload_n C 1 dX5_lays_152 rfl ?_
                obtain ⟨b41, hw⟩ := hw
                refine zl5_froms C b41 dX5_lays_153 ?_
                refine z_aload_n C 0 dX5_lays_154 rfl ?_
                refine zg5_tos C i5 (List.mem_of_getElem? (i := 8) rfl) dX5_lays_155 ?_
                refine z_iload_n C 1 dX5_lays_158 rfl ?_
                obtain ⟨b42, hw⟩ := hw
                refine zl5_tos C b42 dX5_lays_159 ?_
                refine z_aload_n C 0 dX5_lays_160 rfl ?_
                refine zg5_weights C i5 (List.mem_of_getElem? (i := 7) rfl) dX5_lays_161 ?_
                refine z_iload_n C 1 dX5_lays_164 rfl ?_
                obtain ⟨b43, hw⟩ := hw
                refine zl5_weights C b43 dX5_lays_165 ?_
                refine z_ineg C dX5_lays_166 ?_
                refine z_i2l C dX5_lays_167 ?_
                refine z_call0vV C hR hL (As := [.int (gF s39 2 (ix v22)), .int (gF s39 3 (ix v22)), .long (((-(gF s39 5 (ix v22)))).toInt64)]) (c_X5_adds l D b g s39 (gF s39 2 (ix v22)) (gF s39 3 (ix v22)) (((-(gF s39 5 (ix v22)))).toInt64) _ hw) gX5_lays_X5_adds rfl ⟨by decide +kernel, by decide +kernel, (show (parseMethodDescriptor yX5_adds.desc).map (fun d => d.parameters.length) = some 3 from by decide +kernel)⟩ ⟨rfl, rfl⟩ ⟨Nat.le_of_ble_eq_true rfl, Nat.le_of_ble_eq_true rfl⟩ ⟨Nat.le_of_ble_eq_true rfl, Nat.le_of_ble_eq_true rfl⟩ 0 5 rfl rfl rfl rfl (Nat.le_of_ble_eq_true rfl) dX5_lays_168 (fun s45 h46 => ?_)
                have hw := h46
                refine z_aload_n C 0 dX5_lays_171 rfl ?_
                refine z_aload_n C 0 dX5_lays_172 rfl ?_
                refine zg5_tos C i5 (List.mem_of_getElem? (i := 8) rfl) dX5_lays_173 ?_
                refine z_iload_n C 1 dX5_lays_176 rfl ?_
                obtain ⟨b47, hw⟩ := hw
                refine zl5_tos C b47 dX5_lays_177 ?_
                refine z_aload_n C 0 dX5_lays_178 rfl ?_
                refine zg5_froms C i5 (List.mem_of_getElem? (i := 6) rfl) dX5_lays_179 ?_
                refine z_iload_n C 1 dX5_lays_182 rfl ?_
                obtain ⟨b48, hw⟩ := hw
                refine zl5_froms C b48 dX5_lays_183 ?_
                refine z_aload_n C 0 dX5_lays_184 rfl ?_
                refine zg5_weights C i5 (List.mem_of_getElem? (i := 7) rfl) dX5_lays_185 ?_
                refine z_iload_n C 1 dX5_lays_188 rfl ?_
                obtain ⟨b49, hw⟩ := hw
                refine zl5_weights C b49 dX5_lays_189 ?_
                refine z_ineg C dX5_lays_190 ?_
                refine z_i2l C dX5_lays_191 ?_
                refine z_call0vV C hR hL (As := [.int (gF s45 3 (ix v22)), .int (gF s45 2 (ix v22)), .long (((-(gF s45 5 (ix v22)))).toInt64)]) (c_X5_adds l D b g s45 (gF s45 3 (ix v22)) (gF s45 2 (ix v22)) (((-(gF s45 5 (ix v22)))).toInt64) _ hw) gX5_lays_X5_adds rfl ⟨by decide +kernel, by decide +kernel, (show (parseMethodDescriptor yX5_adds.desc).map (fun d => d.parameters.length) = some 3 from by decide +kernel)⟩ ⟨rfl, rfl⟩ ⟨Nat.le_of_ble_eq_true rfl, Nat.le_of_ble_eq_true rfl⟩ ⟨Nat.le_of_ble_eq_true rfl, Nat.le_of_ble_eq_true rfl⟩ 0 5 rfl rfl rfl rfl (Nat.le_of_ble_eq_true rfl) dX5_lays_192 (fun s51 h52 => ?_)
                have hw := h52
                obtain ⟨x53, ex53⟩ : ∃ z : Int32, z = v22 + 1 := ⟨_, rfl⟩
                have hw := hw x53 ex53
                refine z_iinc (lv' := [(1, .int x53), (0, .ref (b 0))]) C 1 dX5_lays_195 rfl (by rw [ex53]; rfl) (by decide) rfl ?_
                refine z_goto C 70 dX5_lays_198 (by decide) ?_
                refine z_sub (lv' := [(0, .ref (b 0)), (1, .int x53)]) [1, 0] rfl ?_
                exact ih _ _ hw
      exact lp20 n17 _ _ hw
    have lp13 : ∀ (n : Nat) (v54 : Int32) (s55 : zS), W_X5_lays_L23 Q K9 n v54 s55 → zV X D 2 0 0 (WM b g s55) 23 [(0, .ref (b 0)), (1, .int v54)] [] := by
      intro n
      induction n with
      | zero => intro v54 s55 hw; exact False.elim hw
      | succ n ih =>
        intro v54 s55 hw
        refine z_iload_n C 1 dX5_lays_23 rfl ?_
        refine z_bipush C 6 dX5_lays_24 (by decide) ?_
        refine z_icmp_ge C 68 dX5_lays_26 (by decide) (fun hc => ?_) (fun hc => ?_)
        · have hw := hw.1 hc
          refine z_sub (lv' := [(0, .ref (b 0))]) [0] rfl ?_
          exact hx12 _ hw
        · have hw := hw.2 hc
          refine z_aload_n C 0 dX5_lays_29 rfl ?_
          refine zg5_a C i5 (List.mem_of_getElem? (i := 1) rfl) dX5_lays_30 ?_
          refine z_bipush C 7 dX5_lays_33 (by decide) ?_
          refine z_iload_n C 1 dX5_lays_35 rfl ?_
          refine z_imul C dX5_lays_36 ?_
          refine z_iload_n C 1 dX5_lays_37 rfl ?_
          refine z_iadd C dX5_lays_38 ?_
          refine z_aload_n C 0 dX5_lays_39 rfl ?_
          refine zg5_isIn C i5 (List.mem_of_getElem? (i := 2) rfl) dX5_lays_40 ?_
          refine z_iload_n C 1 dX5_lays_43 rfl ?_
          obtain ⟨b56, hw⟩ := hw
          refine zl5_isIn C b56 dX5_lays_44 ?_
          refine z_if_eq C 60 dX5_lays_45 (by decide) (fun hc => ?_) (fun hc => ?_)
          · have hw := hw.1 hc
            refine z_lconst C 1 dX5_lays_60 (by decide) ?_
            obtain ⟨b57, hw⟩ := hw
            refine zs5_a C b57 dX5_lays_61 ?_
            refine z_topsWM (fun s58 es58 => ?_)
            have hw := hw s58 es58
            obtain ⟨x59, ex59⟩ : ∃ z : Int32, z = v54 + 1 := ⟨_, rfl⟩
            have hw := hw x59 ex59
            refine z_iinc (lv' := [(1, .int x59), (0, .ref (b 0))]) C 1 dX5_lays_62 rfl (by rw [ex59]; rfl) (by decide) rfl ?_
            refine z_goto C 23 dX5_lays_65 (by decide) ?_
            refine z_sub (lv' := [(0, .ref (b 0)), (1, .int x59)]) [1, 0] rfl ?_
            exact ih _ _ hw
          · have hw := hw.2 hc
            refine z_iload_n C 1 dX5_lays_48 rfl ?_
            refine z_aload_n C 0 dX5_lays_49 rfl ?_
            refine zg5_datum C i5 (List.mem_of_getElem? (i := 3) rfl) dX5_lays_50 ?_
            refine z_icmp_eq C 60 dX5_lays_53 (by decide) (fun hc => ?_) (fun hc => ?_)
            · have hw := hw.1 hc
              refine z_lconst C 1 dX5_lays_60 (by decide) ?_
              obtain ⟨b60, hw⟩ := hw
              refine zs5_a C b60 dX5_lays_61 ?_
              refine z_topsWM (fun s61 es61 => ?_)
              have hw := hw s61 es61
              obtain ⟨x62, ex62⟩ : ∃ z : Int32, z = v54 + 1 := ⟨_, rfl⟩
              have hw := hw x62 ex62
              refine z_iinc (lv' := [(1, .int x62), (0, .ref (b 0))]) C 1 dX5_lays_62 rfl (by rw [ex62]; rfl) (by decide) rfl ?_
              refine z_goto C 23 dX5_lays_65 (by decide) ?_
              refine z_sub (lv' := [(0, .ref (b 0)), (1, .int x62)]) [1, 0] rfl ?_
              exact ih _ _ hw
            · have hw := hw.2 hc
              refine z_lconst C 0 dX5_lays_56 (by decide) ?_
              refine z_goto C 61 dX5_lays_57 (by decide) ?_
              obtain ⟨b63, hw⟩ := hw
              refine zs5_a C b63 dX5_lays_61 ?_
              refine z_topsWM (fun s64 es64 => ?_)
              have hw := hw s64 es64
              obtain ⟨x65, ex65⟩ : ∃ z : Int32, z = v54 + 1 := ⟨_, rfl⟩
              have hw := hw x65 ex65
              refine z_iinc (lv' := [(1, .int x65), (0, .ref (b 0))]) C 1 dX5_lays_62 rfl (by rw [ex65]; rfl) (by decide) rfl ?_
              refine z_goto C 23 dX5_lays_65 (by decide) ?_
              refine z_sub (lv' := [(0, .ref (b 0)), (1, .int x65)]) [1, 0] rfl ?_
              exact ih _ _ hw
    exact lp13 n10 _ _ hw
  have lp6 : ∀ (n : Nat) (v66 : Int32) (s67 : zS), W_X5_lays_L2 Q K2 n v66 s67 → zV X D 2 0 0 (WM b g s67) 2 [(0, .ref (b 0)), (1, .int v66)] [] := by
    intro n
    induction n with
    | zero => intro v66 s67 hw; exact False.elim hw
    | succ n ih =>
      intro v66 s67 hw
      refine z_iload_n C 1 dX5_lays_2 rfl ?_
      refine z_bipush C 42 dX5_lays_3 (by decide) ?_
      refine z_icmp_ge C 21 dX5_lays_5 (by decide) (fun hc => ?_) (fun hc => ?_)
      · have hw := hw.1 hc
        refine z_sub (lv' := [(0, .ref (b 0))]) [0] rfl ?_
        exact hx5 _ hw
      · have hw := hw.2 hc
        refine z_aload_n C 0 dX5_lays_8 rfl ?_
        refine zg5_a C i5 (List.mem_of_getElem? (i := 1) rfl) dX5_lays_9 ?_
        refine z_iload_n C 1 dX5_lays_12 rfl ?_
        refine z_lconst C 0 dX5_lays_13 (by decide) ?_
        obtain ⟨b68, hw⟩ := hw
        refine zs5_a C b68 dX5_lays_14 ?_
        refine z_topsWM (fun s69 es69 => ?_)
        have hw := hw s69 es69
        obtain ⟨x70, ex70⟩ : ∃ z : Int32, z = v66 + 1 := ⟨_, rfl⟩
        have hw := hw x70 ex70
        refine z_iinc (lv' := [(1, .int x70), (0, .ref (b 0))]) C 1 dX5_lays_15 rfl (by rw [ex70]; rfl) (by decide) rfl ?_
        refine z_goto C 2 dX5_lays_18 (by decide) ?_
        refine z_sub (lv' := [(0, .ref (b 0)), (1, .int x70)]) [1, 0] rfl ?_
        exact ih _ _ hw
  exact lp6 n3 _ _ hw
def W_X5_laysDifferences_L2 (Q : zS → Prop) (K : zS → Prop) : Nat → Int32 → zS → Prop
  | 0, _, _ => False
  | n + 1, v8, s9 =>
    ((gI s9 1) ≤ v8 →
    K s9) ∧ (¬ (gI s9 1) ≤ v8 →
    vp_in v8 14 ∧
    (¬ (gF s9 6 (ix v8)) = 0 →
    ∀ x11 : Int32, x11 = v8 + 1 →
    W_X5_laysDifferences_L2 Q K n x11 s9) ∧ ((gF s9 6 (ix v8)) = 0 →
    vp_in v8 14 ∧
    vp_in (gF s9 2 (ix v8)) 6 ∧
    ((gF s9 8 (ix (gF s9 2 (ix v8)))) = 0 →
    ∀ x14 : Int32, x14 = v8 + 1 →
    W_X5_laysDifferences_L2 Q K n x14 s9) ∧ (¬ (gF s9 8 (ix (gF s9 2 (ix v8)))) = 0 →
    vp_in v8 14 ∧
    vp_in v8 14 ∧
    vp_in v8 14 ∧
    W_X5_adds s9 (gF s9 3 (ix v8)) 6 (((gF s9 5 (ix v8))).toInt64 * ((gF s9 4 (ix v8))).toInt64) (fun s19 =>
    vp_in v8 14 ∧
    vp_in v8 14 ∧
    vp_in v8 14 ∧
    W_X5_adds s19 (gF s19 2 (ix v8)) 6 (((-(gF s19 5 (ix v8)))).toInt64 * ((gF s19 4 (ix v8))).toInt64) (fun s25 =>
    ∀ x27 : Int32, x27 = v8 + 1 →
    W_X5_laysDifferences_L2 Q K n x27 s25)))))
def W_X5_laysDifferences (s : zS) (Q : zS → Prop) : Prop :=
    ∀ x1 : Int32, x1 = 0 →
    ∃ (K2 : zS → Prop) (n3 : Nat), (∀  (s7 : zS), K2 s7 →
    Q s7) ∧ W_X5_laysDifferences_L2 Q K2 n3 x1 s
set_option maxHeartbeats 4000000 in
set_option maxRecDepth 100000 in
theorem c_X5_laysDifferences (l : Launch) (D : va_G) (b : Nat → Nat) (g : Nat → ClassId) (s : zS) (Q : zS → Prop) (hw : W_X5_laysDifferences s Q) : zMv l D (zT g) yX5_laysDifferences wsX5_laysDifferences ({ frames := 1, cells := 0, slots := 0, locals := 24 } : Room) [.ref (b 0)] (WM b g) s (fun u => Q u) := by
  have i5 : ∀ w ∈ u_ws RX5 TX5 18, w ∈ wsX5_laysDifferences := fun _ h => (List.mem_cons_of_mem _ (List.mem_append_right _ h))
  refine zMv_start (cc := cX5_laysDifferences) (maxL := 2) (lv0 := [(0, .ref (b 0))]) (own := RX5) rfl (plainFor_of_name (by decide)) rfl (Nat.le_of_ble_eq_true rfl) rfl (fun X C hR hL hE => ?_)
  refine z_iconst C 0 dX5_laysDifferences_0 (by decide) ?_
  refine z_topi (fun x1 ex1 => ?_)
  have hw := hw x1 ex1
  refine z_istore_n (lv' := [(1, .int x1), (0, .ref (b 0))]) C 1 dX5_laysDifferences_1 rfl (by decide) rfl ?_
  refine z_sub (lv' := [(0, .ref (b 0)), (1, .int x1)]) [1, 0] rfl ?_
  obtain ⟨K2, n3, hK4, hw⟩ := hw
  have hx5 : ∀ (s7 : zS), K2 s7 → zV X D 2 0 0 (WM b g s7) 94 [] [] := by
    intro s7 hw0
    have hw := hK4 s7 hw0
    exact hE _ _ _ _ _ dX5_laysDifferences_94 (Nat.le_refl _) (Nat.le_refl _) hw
  have lp6 : ∀ (n : Nat) (v8 : Int32) (s9 : zS), W_X5_laysDifferences_L2 Q K2 n v8 s9 → zV X D 2 0 0 (WM b g s9) 2 [(0, .ref (b 0)), (1, .int v8)] [] := by
    intro n
    induction n with
    | zero => intro v8 s9 hw; exact False.elim hw
    | succ n ih =>
      intro v8 s9 hw
      refine z_iload_n C 1 dX5_laysDifferences_2 rfl ?_
      refine z_aload_n C 0 dX5_laysDifferences_3 rfl ?_
      refine zg5_observations C i5 (List.mem_of_getElem? (i := 1) rfl) dX5_laysDifferences_4 ?_
      refine z_icmp_ge C 94 dX5_laysDifferences_7 (by decide) (fun hc => ?_) (fun hc => ?_)
      · have hw := hw.1 hc
        refine z_sub (lv' := []) [] rfl ?_
        exact hx5 _ hw
      · have hw := hw.2 hc
        refine z_aload_n C 0 dX5_laysDifferences_10 rfl ?_
        refine zg5_isWithdrawn C i5 (List.mem_of_getElem? (i := 2) rfl) dX5_laysDifferences_11 ?_
        refine z_iload_n C 1 dX5_laysDifferences_14 rfl ?_
        obtain ⟨b10, hw⟩ := hw
        refine zl5_isWithdrawn C b10 dX5_laysDifferences_15 ?_
        refine z_if_ne C 88 dX5_laysDifferences_16 (by decide) (fun hc => ?_) (fun hc => ?_)
        · have hw := hw.1 hc
          obtain ⟨x11, ex11⟩ : ∃ z : Int32, z = v8 + 1 := ⟨_, rfl⟩
          have hw := hw x11 ex11
          refine z_iinc (lv' := [(1, .int x11), (0, .ref (b 0))]) C 1 dX5_laysDifferences_88 rfl (by rw [ex11]; rfl) (by decide) rfl ?_
          refine z_goto C 2 dX5_laysDifferences_91 (by decide) ?_
          refine z_sub (lv' := [(0, .ref (b 0)), (1, .int x11)]) [1, 0] rfl ?_
          exact ih _ _ hw
        · have hw := hw.2 hc
          refine z_aload_n C 0 dX5_laysDifferences_19 rfl ?_
          refine zg5_isIn C i5 (List.mem_of_getElem? (i := 3) rfl) dX5_laysDifferences_20 ?_
          refine z_aload_n C 0 dX5_laysDifferences_23 rfl ?_
          refine zg5_froms C i5 (List.mem_of_getElem? (i := 4) rfl) dX5_laysDifferences_24 ?_
          refine z_iload_n C 1 dX5_laysDifferences_27 rfl ?_
          obtain ⟨b12, hw⟩ := hw
          refine zl5_froms C b12 dX5_laysDifferences_28 ?_
          obtain ⟨b13, hw⟩ := hw
          refine zl5_isIn C b13 dX5_laysDifferences_29 ?_
          refine z_if_eq C 88 dX5_laysDifferences_30 (by decide) (fun hc => ?_) (fun hc => ?_)
          · have hw := hw.1 hc
            obtain ⟨x14, ex14⟩ : ∃ z : Int32, z = v8 + 1 := ⟨_, rfl⟩
            have hw := hw x14 ex14
            refine z_iinc (lv' := [(1, .int x14), (0, .ref (b 0))]) C 1 dX5_laysDifferences_88 rfl (by rw [ex14]; rfl) (by decide) rfl ?_
            refine z_goto C 2 dX5_laysDifferences_91 (by decide) ?_
            refine z_sub (lv' := [(0, .ref (b 0)), (1, .int x14)]) [1, 0] rfl ?_
            exact ih _ _ hw
          · have hw := hw.2 hc
            refine z_aload_n C 0 dX5_laysDifferences_33 rfl ?_
            refine z_aload_n C 0 dX5_laysDifferences_34 rfl ?_
            refine zg5_tos C i5 (List.mem_of_getElem? (i := 5) rfl) dX5_laysDifferences_35 ?_
            refine z_iload_n C 1 dX5_laysDifferences_38 rfl ?_
            obtain ⟨b15, hw⟩ := hw
            refine zl5_tos C b15 dX5_laysDifferences_39 ?_
            refine z_bipush C 6 dX5_laysDifferences_40 (by decide) ?_
            refine z_aload_n C 0 dX5_laysDifferences_42 rfl ?_
            refine zg5_weights C i5 (List.mem_of_getElem? (i := 6) rfl) dX5_laysDifferences_43 ?_
            refine z_iload_n C 1 dX5_laysDifferences_46 rfl ?_
            obtain ⟨b16, hw⟩ := hw
            refine zl5_weights C b16 dX5_laysDifferences_47 ?_
            refine z_i2l C dX5_laysDifferences_48 ?_
            refine z_aload_n C 0 dX5_laysDifferences_49 rfl ?_
            refine zg5_differences C i5 (List.mem_of_getElem? (i := 7) rfl) dX5_laysDifferences_50 ?_
            refine z_iload_n C 1 dX5_laysDifferences_53 rfl ?_
            obtain ⟨b17, hw⟩ := hw
            refine zl5_differences C b17 dX5_laysDifferences_54 ?_
            refine z_i2l C dX5_laysDifferences_55 ?_
            refine z_lmul C dX5_laysDifferences_56 ?_
            refine z_call0vV C hR hL (As := [.int (gF s9 3 (ix v8)), .int 6, .long (((gF s9 5 (ix v8))).toInt64 * ((gF s9 4 (ix v8))).toInt64)]) (c_X5_adds l D b g s9 (gF s9 3 (ix v8)) 6 (((gF s9 5 (ix v8))).toInt64 * ((gF s9 4 (ix v8))).toInt64) _ hw) gX5_laysDifferences_X5_adds rfl ⟨by decide +kernel, by decide +kernel, (show (parseMethodDescriptor yX5_adds.desc).map (fun d => d.parameters.length) = some 3 from by decide +kernel)⟩ ⟨rfl, rfl⟩ ⟨Nat.le_of_ble_eq_true rfl, Nat.le_of_ble_eq_true rfl⟩ ⟨Nat.le_of_ble_eq_true rfl, Nat.le_of_ble_eq_true rfl⟩ 0 5 rfl rfl rfl rfl (Nat.le_of_ble_eq_true rfl) dX5_laysDifferences_57 (fun s19 h20 => ?_)
            have hw := h20
            refine z_aload_n C 0 dX5_laysDifferences_60 rfl ?_
            refine z_aload_n C 0 dX5_laysDifferences_61 rfl ?_
            refine zg5_froms C i5 (List.mem_of_getElem? (i := 4) rfl) dX5_laysDifferences_62 ?_
            refine z_iload_n C 1 dX5_laysDifferences_65 rfl ?_
            obtain ⟨b21, hw⟩ := hw
            refine zl5_froms C b21 dX5_laysDifferences_66 ?_
            refine z_bipush C 6 dX5_laysDifferences_67 (by decide) ?_
            refine z_aload_n C 0 dX5_laysDifferences_69 rfl ?_
            refine zg5_weights C i5 (List.mem_of_getElem? (i := 6) rfl) dX5_laysDifferences_70 ?_
            refine z_iload_n C 1 dX5_laysDifferences_73 rfl ?_
            obtain ⟨b22, hw⟩ := hw
            refine zl5_weights C b22 dX5_laysDifferences_74 ?_
            refine z_ineg C dX5_laysDifferences_75 ?_
            refine z_i2l C dX5_laysDifferences_76 ?_
            refine z_aload_n C 0 dX5_laysDifferences_77 rfl ?_
            refine zg5_differences C i5 (List.mem_of_getElem? (i := 7) rfl) dX5_laysDifferences_78 ?_
            refine z_iload_n C 1 dX5_laysDifferences_81 rfl ?_
            obtain ⟨b23, hw⟩ := hw
            refine zl5_differences C b23 dX5_laysDifferences_82 ?_
            refine z_i2l C dX5_laysDifferences_83 ?_
            refine z_lmul C dX5_laysDifferences_84 ?_
            refine z_call0vV C hR hL (As := [.int (gF s19 2 (ix v8)), .int 6, .long (((-(gF s19 5 (ix v8)))).toInt64 * ((gF s19 4 (ix v8))).toInt64)]) (c_X5_adds l D b g s19 (gF s19 2 (ix v8)) 6 (((-(gF s19 5 (ix v8)))).toInt64 * ((gF s19 4 (ix v8))).toInt64) _ hw) gX5_laysDifferences_X5_adds rfl ⟨by decide +kernel, by decide +kernel, (show (parseMethodDescriptor yX5_adds.desc).map (fun d => d.parameters.length) = some 3 from by decide +kernel)⟩ ⟨rfl, rfl⟩ ⟨Nat.le_of_ble_eq_true rfl, Nat.le_of_ble_eq_true rfl⟩ ⟨Nat.le_of_ble_eq_true rfl, Nat.le_of_ble_eq_true rfl⟩ 0 5 rfl rfl rfl rfl (Nat.le_of_ble_eq_true rfl) dX5_laysDifferences_85 (fun s25 h26 => ?_)
            have hw := h26
            obtain ⟨x27, ex27⟩ : ∃ z : Int32, z = v8 + 1 := ⟨_, rfl⟩
            have hw := hw x27 ex27
            refine z_iinc (lv' := [(1, .int x27), (0, .ref (b 0))]) C 1 dX5_laysDifferences_88 rfl (by rw [ex27]; rfl) (by decide) rfl ?_
            refine z_goto C 2 dX5_laysDifferences_91 (by decide) ?_
            refine z_sub (lv' := [(0, .ref (b 0)), (1, .int x27)]) [1, 0] rfl ?_
            exact ih _ _ hw
  exact lp6 n3 _ _ hw
def W_X5_solves_L136 (Q : zS → Prop) (K : zS → Prop) : Nat → Int32 → zS → Prop
  | 0, _, _ => False
  | n + 1, v18, s19 =>
    (6 ≤ v18 →
    K s19) ∧ (¬ 6 ≤ v18 →
    vp_in v18 6 ∧
    ((gF s19 8 (ix v18)) = 0 →
    vp_in v18 6 ∧
    ∀ s22 : zS, s22 = sL s19 1 (ix v18) 0 →
    ∀ x23 : Int32, x23 = v18 + 1 →
    W_X5_solves_L136 Q K n x23 s22) ∧ (¬ (gF s19 8 (ix v18)) = 0 →
    vp_in ((7 * v18) + 6) 42 ∧
    vp_in v18 6 ∧
    ∀ s26 : zS, s26 = sL s19 1 (ix v18) (gL s19 0 (ix ((7 * v18) + 6))) →
    ∀ x27 : Int32, x27 = v18 + 1 →
    W_X5_solves_L136 Q K n x27 s26))
def W_X5_solves_L50 (v28 : Int64) (v29 : Int32) (x32 : Int64) (v42 : Int32) (x45 : Int64) (Q : zS → Prop) (K : zS → Prop) : Nat → Int32 → zS → Prop
  | 0, _, _ => False
  | n + 1, v54, s55 =>
    (7 ≤ v54 →
    K s55) ∧ (¬ 7 ≤ v54 →
    (v42 = v29 →
    K s55) ∧ (¬ v42 = v29 →
    ∀ x56 : Int32, x56 = ((7 * v42) + v54) →
    vp_in x56 42 ∧
    vp_in ((7 * v29) + v54) 42 ∧
    ¬ v28 = 0 ∧
    vp_in x56 42 ∧
    ∀ s61 : zS, s61 = sL s55 0 (ix x56) (((x32 * (gL s55 0 (ix x56))) - (x45 * (gL s55 0 (ix ((7 * v29) + v54))))) / v28) →
    ∀ x62 : Int32, x62 = v54 + 1 →
    W_X5_solves_L50 v28 v29 x32 v42 x45 Q K n x62 s61))
def W_X5_solves_L26 (v28 : Int64) (v29 : Int32) (x32 : Int64) (Q : zS → Prop) (K : zS → Prop) : Nat → Int32 → zS → Prop
  | 0, _, _ => False
  | n + 1, v42, s43 =>
    (6 ≤ v42 →
    K s43) ∧ (¬ 6 ≤ v42 →
    vp_in ((7 * v42) + v29) 42 ∧
    ∀ x45 : Int64, x45 = (gL s43 0 (ix ((7 * v42) + v29))) →
    ∀ x46 : Int32, x46 = 0 →
    ∃ (K47 : zS → Prop) (n48 : Nat), (∀  (s52 : zS), K47 s52 →
    ∀ x53 : Int32, x53 = v42 + 1 →
    W_X5_solves_L26 v28 v29 x32 Q K n x53 s52) ∧ W_X5_solves_L50 v28 v29 x32 v42 x45 Q K47 n48 x46 s43)
def W_X5_solves_L4 (Q : zS → Prop) (K : Int64 → zS → Prop) : Nat → Int64 → Int32 → zS → Prop
  | 0, _, _, _ => False
  | n + 1, v28, v29, s30 =>
    (6 ≤ v29 →
    K v28 s30) ∧ (¬ 6 ≤ v29 →
    vp_in ((7 * v29) + v29) 42 ∧
    ∀ x32 : Int64, x32 = (gL s30 0 (ix ((7 * v29) + v29))) →
    ∀ x33 : Int32, x33 = 0 →
    ∃ (K34 : zS → Prop) (n35 : Nat), (∀  (s39 : zS), K34 s39 →
    ∀ x40 : Int64, x40 = x32 →
    ∀ x41 : Int32, x41 = v29 + 1 →
    W_X5_solves_L4 Q K n x40 x41 s39) ∧ W_X5_solves_L26 v28 v29 x32 Q K34 n35 x33 s30)
def W_X5_solves (s : zS) (Q : zS → Prop) : Prop :=
    ∀ x1 : Int64, x1 = 1 →
    ∀ x2 : Int32, x2 = 0 →
    ∃ (K3 : Int64 → zS → Prop) (n4 : Nat), (∀ (v8 : Int64) (s9 : zS), K3 v8 s9 →
    ∀ s10 : zS, s10 = sJ s9 0 v8 →
    ∀ x11 : Int32, x11 = 0 →
    ∃ (K12 : zS → Prop) (n13 : Nat), (∀  (s17 : zS), K12 s17 →
    Q s17) ∧ W_X5_solves_L136 Q K12 n13 x11 s10) ∧ W_X5_solves_L4 Q K3 n4 x1 x2 s
set_option maxHeartbeats 4000000 in
set_option maxRecDepth 100000 in
theorem c_X5_solves (l : Launch) (D : va_G) (b : Nat → Nat) (g : Nat → ClassId) (s : zS) (Q : zS → Prop) (hw : W_X5_solves s Q) : zMv l D (zT g) yX5_solves wsX5_solves ({ frames := 0, cells := 0, slots := 0, locals := 0 } : Room) [.ref (b 0)] (WM b g) s (fun u => Q u) := by
  have i5 : ∀ w ∈ u_ws RX5 TX5 18, w ∈ wsX5_solves := fun _ h => (List.mem_cons_of_mem _ (List.mem_append_right _ h))
  refine zMv_start (cc := cX5_solves) (maxL := 11) (lv0 := [(0, .ref (b 0))]) (own := RX5) rfl (plainFor_of_name (by decide)) rfl (Nat.le_of_ble_eq_true rfl) rfl (fun X C hR hL hE => ?_)
  refine z_lconst C 1 dX5_solves_0 (by decide) ?_
  refine z_topl (fun x1 ex1 => ?_)
  have hw := hw x1 ex1
  refine z_lstore_n (lv' := [(1, .long x1), (0, .ref (b 0))]) C 1 dX5_solves_1 rfl (by decide) rfl ?_
  refine z_iconst C 0 dX5_solves_2 (by decide) ?_
  refine z_topi (fun x2 ex2 => ?_)
  have hw := hw x2 ex2
  refine z_istore_n (lv' := [(3, .int x2), (1, .long x1), (0, .ref (b 0))]) C 3 dX5_solves_3 rfl (by decide) rfl ?_
  refine z_sub (lv' := [(0, .ref (b 0)), (1, .long x1), (3, .int x2)]) [2, 1, 0] rfl ?_
  obtain ⟨K3, n4, hK5, hw⟩ := hw
  have hx6 : ∀ (v8 : Int64) (s9 : zS), K3 v8 s9 → zV X D 11 0 0 (WM b g s9) 129 [(0, .ref (b 0)), (1, .long v8)] [] := by
    intro v8 s9 hw0
    have hw := hK5 v8 s9 hw0
    refine z_aload_n C 0 dX5_solves_129 rfl ?_
    refine z_lload_n C 1 dX5_solves_130 rfl ?_
    refine zp5_trees C i5 (List.mem_of_getElem? (i := 2) rfl) dX5_solves_131 ?_
    refine z_topsWM (fun s10 es10 => ?_)
    have hw := hw s10 es10
    refine z_iconst C 0 dX5_solves_134 (by decide) ?_
    refine z_topi (fun x11 ex11 => ?_)
    have hw := hw x11 ex11
    refine z_istore_n (lv' := [(3, .int x11), (0, .ref (b 0)), (1, .long v8)]) C 3 dX5_solves_135 rfl (by decide) rfl ?_
    refine z_sub (lv' := [(0, .ref (b 0)), (3, .int x11)]) [1, 0] rfl ?_
    obtain ⟨K12, n13, hK14, hw⟩ := hw
    have hx15 : ∀ (s17 : zS), K12 s17 → zV X D 11 0 0 (WM b g s17) 179 [] [] := by
      intro s17 hw0
      have hw := hK14 s17 hw0
      exact hE _ _ _ _ _ dX5_solves_179 (Nat.le_refl _) (Nat.le_refl _) hw
    have lp16 : ∀ (n : Nat) (v18 : Int32) (s19 : zS), W_X5_solves_L136 Q K12 n v18 s19 → zV X D 11 0 0 (WM b g s19) 136 [(0, .ref (b 0)), (3, .int v18)] [] := by
      intro n
      induction n with
      | zero => intro v18 s19 hw; exact False.elim hw
      | succ n ih =>
        intro v18 s19 hw
        refine z_iload_n C 1 dX5_solves_136 rfl ?_
        refine z_bipush C 6 dX5_solves_137 (by decide) ?_
        refine z_icmp_ge C 179 dX5_solves_139 (by decide) (fun hc => ?_) (fun hc => ?_)
        · have hw := hw.1 hc
          refine z_sub (lv' := []) [] rfl ?_
          exact hx15 _ hw
        · have hw := hw.2 hc
          refine z_aload_n C 0 dX5_solves_142 rfl ?_
          refine zg5_found C i5 (List.mem_of_getElem? (i := 3) rfl) dX5_solves_143 ?_
          refine z_iload_n C 1 dX5_solves_146 rfl ?_
          refine z_aload_n C 0 dX5_solves_147 rfl ?_
          refine zg5_isIn C i5 (List.mem_of_getElem? (i := 4) rfl) dX5_solves_148 ?_
          refine z_iload_n C 1 dX5_solves_151 rfl ?_
          obtain ⟨b20, hw⟩ := hw
          refine zl5_isIn C b20 dX5_solves_152 ?_
          refine z_if_eq C 171 dX5_solves_153 (by decide) (fun hc => ?_) (fun hc => ?_)
          · have hw := hw.1 hc
            refine z_lconst C 0 dX5_solves_171 (by decide) ?_
            obtain ⟨b21, hw⟩ := hw
            refine zs5_found C b21 dX5_solves_172 ?_
            refine z_topsWM (fun s22 es22 => ?_)
            have hw := hw s22 es22
            obtain ⟨x23, ex23⟩ : ∃ z : Int32, z = v18 + 1 := ⟨_, rfl⟩
            have hw := hw x23 ex23
            refine z_iinc (lv' := [(3, .int x23), (0, .ref (b 0))]) C 1 dX5_solves_173 rfl (by rw [ex23]; rfl) (by decide) rfl ?_
            refine z_goto C 136 dX5_solves_176 (by decide) ?_
            refine z_sub (lv' := [(0, .ref (b 0)), (3, .int x23)]) [1, 0] rfl ?_
            exact ih _ _ hw
          · have hw := hw.2 hc
            refine z_aload_n C 0 dX5_solves_156 rfl ?_
            refine zg5_a C i5 (List.mem_of_getElem? (i := 1) rfl) dX5_solves_157 ?_
            refine z_bipush C 7 dX5_solves_160 (by decide) ?_
            refine z_iload_n C 1 dX5_solves_162 rfl ?_
            refine z_imul C dX5_solves_163 ?_
            refine z_bipush C 6 dX5_solves_164 (by decide) ?_
            refine z_iadd C dX5_solves_166 ?_
            obtain ⟨b24, hw⟩ := hw
            refine zl5_a C b24 dX5_solves_167 ?_
            refine z_goto C 172 dX5_solves_168 (by decide) ?_
            obtain ⟨b25, hw⟩ := hw
            refine zs5_found C b25 dX5_solves_172 ?_
            refine z_topsWM (fun s26 es26 => ?_)
            have hw := hw s26 es26
            obtain ⟨x27, ex27⟩ : ∃ z : Int32, z = v18 + 1 := ⟨_, rfl⟩
            have hw := hw x27 ex27
            refine z_iinc (lv' := [(3, .int x27), (0, .ref (b 0))]) C 1 dX5_solves_173 rfl (by rw [ex27]; rfl) (by decide) rfl ?_
            refine z_goto C 136 dX5_solves_176 (by decide) ?_
            refine z_sub (lv' := [(0, .ref (b 0)), (3, .int x27)]) [1, 0] rfl ?_
            exact ih _ _ hw
    exact lp16 n13 _ _ hw
  have lp7 : ∀ (n : Nat) (v28 : Int64) (v29 : Int32) (s30 : zS), W_X5_solves_L4 Q K3 n v28 v29 s30 → zV X D 11 0 0 (WM b g s30) 4 [(0, .ref (b 0)), (1, .long v28), (3, .int v29)] [] := by
    intro n
    induction n with
    | zero => intro v28 v29 s30 hw; exact False.elim hw
    | succ n ih =>
      intro v28 v29 s30 hw
      refine z_iload_n C 2 dX5_solves_4 rfl ?_
      refine z_bipush C 6 dX5_solves_5 (by decide) ?_
      refine z_icmp_ge C 129 dX5_solves_7 (by decide) (fun hc => ?_) (fun hc => ?_)
      · have hw := hw.1 hc
        refine z_sub (lv' := [(0, .ref (b 0)), (1, .long v28)]) [0, 1] rfl ?_
        exact hx6 _ _ hw
      · have hw := hw.2 hc
        refine z_aload_n C 0 dX5_solves_10 rfl ?_
        refine zg5_a C i5 (List.mem_of_getElem? (i := 1) rfl) dX5_solves_11 ?_
        refine z_bipush C 7 dX5_solves_14 (by decide) ?_
        refine z_iload_n C 2 dX5_solves_16 rfl ?_
        refine z_imul C dX5_solves_17 ?_
        refine z_iload_n C 2 dX5_solves_18 rfl ?_
        refine z_iadd C dX5_solves_19 ?_
        obtain ⟨b31, hw⟩ := hw
        refine zl5_a C b31 dX5_solves_20 ?_
        refine z_topl (fun x32 ex32 => ?_)
        have hw := hw x32 ex32
        refine z_lstore (lv' := [(4, .long x32), (0, .ref (b 0)), (1, .long v28), (3, .int v29)]) C dX5_solves_21 (by decide) rfl ?_
        refine z_iconst C 0 dX5_solves_23 (by decide) ?_
        refine z_topi (fun x33 ex33 => ?_)
        have hw := hw x33 ex33
        refine z_istore (lv' := [(6, .int x33), (4, .long x32), (0, .ref (b 0)), (1, .long v28), (3, .int v29)]) C dX5_solves_24 (by decide) rfl ?_
        refine z_sub (lv' := [(0, .ref (b 0)), (1, .long v28), (3, .int v29), (4, .long x32), (6, .int x33)]) [2, 3, 4, 1, 0] rfl ?_
        obtain ⟨K34, n35, hK36, hw⟩ := hw
        have hx37 : ∀ (s39 : zS), K34 s39 → zV X D 11 0 0 (WM b g s39) 120 [(0, .ref (b 0)), (3, .int v29), (4, .long x32)] [] := by
          intro s39 hw0
          have hw := hK36 s39 hw0
          refine z_lload C 2 dX5_solves_120 rfl ?_
          refine z_topl (fun x40 ex40 => ?_)
          have hw := hw x40 ex40
          refine z_lstore_n (lv' := [(1, .long x40), (0, .ref (b 0)), (3, .int v29), (4, .long x32)]) C 1 dX5_solves_122 rfl (by decide) rfl ?_
          obtain ⟨x41, ex41⟩ : ∃ z : Int32, z = v29 + 1 := ⟨_, rfl⟩
          have hw := hw x41 ex41
          refine z_iinc (lv' := [(3, .int x41), (1, .long x40), (0, .ref (b 0)), (4, .long x32)]) C 2 dX5_solves_123 rfl (by rw [ex41]; rfl) (by decide) rfl ?_
          refine z_goto C 4 dX5_solves_126 (by decide) ?_
          refine z_sub (lv' := [(0, .ref (b 0)), (1, .long x40), (3, .int x41)]) [2, 1, 0] rfl ?_
          exact ih _ _ _ hw
        have lp38 : ∀ (n : Nat) (v42 : Int32) (s43 : zS), W_X5_solves_L26 v28 v29 x32 Q K34 n v42 s43 → zV X D 11 0 0 (WM b g s43) 26 [(0, .ref (b 0)), (1, .long v28), (3, .int v29), (4, .long x32), (6, .int v42)] [] := by
          intro n
          induction n with
          | zero => intro v42 s43 hw; exact False.elim hw
          | succ n ih =>
            intro v42 s43 hw
            refine z_iload C 4 dX5_solves_26 rfl ?_
            refine z_bipush C 6 dX5_solves_28 (by decide) ?_
            refine z_icmp_ge C 120 dX5_solves_30 (by decide) (fun hc => ?_) (fun hc => ?_)
            · have hw := hw.1 hc
              refine z_sub (lv' := [(0, .ref (b 0)), (3, .int v29), (4, .long x32)]) [0, 2, 3] rfl ?_
              exact hx37 _ hw
            · have hw := hw.2 hc
              refine z_aload_n C 0 dX5_solves_33 rfl ?_
              refine zg5_a C i5 (List.mem_of_getElem? (i := 1) rfl) dX5_solves_34 ?_
              refine z_bipush C 7 dX5_solves_37 (by decide) ?_
              refine z_iload C 4 dX5_solves_39 rfl ?_
              refine z_imul C dX5_solves_41 ?_
              refine z_iload_n C 2 dX5_solves_42 rfl ?_
              refine z_iadd C dX5_solves_43 ?_
              obtain ⟨b44, hw⟩ := hw
              refine zl5_a C b44 dX5_solves_44 ?_
              refine z_topl (fun x45 ex45 => ?_)
              have hw := hw x45 ex45
              refine z_lstore (lv' := [(7, .long x45), (0, .ref (b 0)), (1, .long v28), (3, .int v29), (4, .long x32), (6, .int v42)]) C dX5_solves_45 (by decide) rfl ?_
              refine z_iconst C 0 dX5_solves_47 (by decide) ?_
              refine z_topi (fun x46 ex46 => ?_)
              have hw := hw x46 ex46
              refine z_istore (lv' := [(9, .int x46), (7, .long x45), (0, .ref (b 0)), (1, .long v28), (3, .int v29), (4, .long x32), (6, .int v42)]) C dX5_solves_48 (by decide) rfl ?_
              refine z_sub (lv' := [(0, .ref (b 0)), (1, .long v28), (3, .int v29), (4, .long x32), (6, .int v42), (7, .long x45), (9, .int x46)]) [2, 3, 4, 5, 6, 1, 0] rfl ?_
              obtain ⟨K47, n48, hK49, hw⟩ := hw
              have hx50 : ∀ (s52 : zS), K47 s52 → zV X D 11 0 0 (WM b g s52) 114 [(0, .ref (b 0)), (1, .long v28), (3, .int v29), (4, .long x32), (6, .int v42)] [] := by
                intro s52 hw0
                have hw := hK49 s52 hw0
                obtain ⟨x53, ex53⟩ : ∃ z : Int32, z = v42 + 1 := ⟨_, rfl⟩
                have hw := hw x53 ex53
                refine z_iinc (lv' := [(6, .int x53), (0, .ref (b 0)), (1, .long v28), (3, .int v29), (4, .long x32)]) C 4 dX5_solves_114 rfl (by rw [ex53]; rfl) (by decide) rfl ?_
                refine z_goto C 26 dX5_solves_117 (by decide) ?_
                refine z_sub (lv' := [(0, .ref (b 0)), (1, .long v28), (3, .int v29), (4, .long x32), (6, .int x53)]) [1, 2, 3, 4, 0] rfl ?_
                exact ih _ _ hw
              have lp51 : ∀ (n : Nat) (v54 : Int32) (s55 : zS), W_X5_solves_L50 v28 v29 x32 v42 x45 Q K47 n v54 s55 → zV X D 11 0 0 (WM b g s55) 50 [(0, .ref (b 0)), (1, .long v28), (3, .int v29), (4, .long x32), (6, .int v42), (7, .long x45), (9, .int v54)] [] := by
                intro n
                induction n with
                | zero => intro v54 s55 hw; exact False.elim hw
                | succ n ih =>
                  intro v54 s55 hw
                  refine z_iload C 6 dX5_solves_50 rfl ?_
                  refine z_bipush C 7 dX5_solves_52 (by decide) ?_
                  refine z_icmp_ge C 114 dX5_solves_54 (by decide) (fun hc => ?_) (fun hc => ?_)
                  · have hw := hw.1 hc
                    refine z_sub (lv' := [(0, .ref (b 0)), (1, .long v28), (3, .int v29), (4, .long x32), (6, .int v42)]) [0, 1, 2, 3, 4] rfl ?_
                    exact hx50 _ hw
                  · have hw := hw.2 hc
                    refine z_iload C 4 dX5_solves_57 rfl ?_
                    refine z_iload_n C 2 dX5_solves_59 rfl ?_
                    refine z_icmp_eq C 114 dX5_solves_60 (by decide) (fun hc => ?_) (fun hc => ?_)
                    · have hw := hw.1 hc
                      refine z_sub (lv' := [(0, .ref (b 0)), (1, .long v28), (3, .int v29), (4, .long x32), (6, .int v42)]) [0, 1, 2, 3, 4] rfl ?_
                      exact hx50 _ hw
                    · have hw := hw.2 hc
                      refine z_bipush C 7 dX5_solves_63 (by decide) ?_
                      refine z_iload C 4 dX5_solves_65 rfl ?_
                      refine z_imul C dX5_solves_67 ?_
                      refine z_iload C 6 dX5_solves_68 rfl ?_
                      refine z_iadd C dX5_solves_70 ?_
                      refine z_topi (fun x56 ex56 => ?_)
                      have hw := hw x56 ex56
                      refine z_istore (lv' := [(10, .int x56), (0, .ref (b 0)), (1, .long v28), (3, .int v29), (4, .long x32), (6, .int v42), (7, .long x45), (9, .int v54)]) C dX5_solves_71 (by decide) rfl ?_
                      refine z_aload_n C 1 dX5_solves_73 rfl ?_
                      refine zg5_a C i5 (List.mem_of_getElem? (i := 1) rfl) dX5_solves_74 ?_
                      refine z_iload C 0 dX5_solves_77 rfl ?_
                      refine z_lload C 4 dX5_solves_79 rfl ?_
                      refine z_aload_n C 1 dX5_solves_81 rfl ?_
                      refine zg5_a C i5 (List.mem_of_getElem? (i := 1) rfl) dX5_solves_82 ?_
                      refine z_iload C 0 dX5_solves_85 rfl ?_
                      obtain ⟨b57, hw⟩ := hw
                      refine zl5_a C b57 dX5_solves_87 ?_
                      refine z_lmul C dX5_solves_88 ?_
                      refine z_lload C 6 dX5_solves_89 rfl ?_
                      refine z_aload_n C 1 dX5_solves_91 rfl ?_
                      refine zg5_a C i5 (List.mem_of_getElem? (i := 1) rfl) dX5_solves_92 ?_
                      refine z_bipush C 7 dX5_solves_95 (by decide) ?_
                      refine z_iload_n C 3 dX5_solves_97 rfl ?_
                      refine z_imul C dX5_solves_98 ?_
                      refine z_iload C 7 dX5_solves_99 rfl ?_
                      refine z_iadd C dX5_solves_101 ?_
                      obtain ⟨b58, hw⟩ := hw
                      refine zl5_a C b58 dX5_solves_102 ?_
                      refine z_lmul C dX5_solves_103 ?_
                      refine z_lsub C dX5_solves_104 ?_
                      refine z_lload_n C 2 dX5_solves_105 rfl ?_
                      obtain ⟨b59, hw⟩ := hw
                      refine z_ldiv C dX5_solves_106 b59 ?_
                      obtain ⟨b60, hw⟩ := hw
                      refine zs5_a C b60 dX5_solves_107 ?_
                      refine z_topsWM (fun s61 es61 => ?_)
                      have hw := hw s61 es61
                      obtain ⟨x62, ex62⟩ : ∃ z : Int32, z = v54 + 1 := ⟨_, rfl⟩
                      have hw := hw x62 ex62
                      refine z_iinc (lv' := [(9, .int x62), (10, .int x56), (0, .ref (b 0)), (1, .long v28), (3, .int v29), (4, .long x32), (6, .int v42), (7, .long x45)]) C 7 dX5_solves_108 rfl (by rw [ex62]; rfl) (by decide) rfl ?_
                      refine z_goto C 50 dX5_solves_111 (by decide) ?_
                      refine z_sub (lv' := [(0, .ref (b 0)), (1, .long v28), (3, .int v29), (4, .long x32), (6, .int v42), (7, .long x45), (9, .int x62)]) [2, 3, 4, 5, 6, 7, 0] rfl ?_
                      exact ih _ _ hw
              exact lp51 n48 _ _ hw
        exact lp38 n35 _ _ hw
  exact lp7 n4 _ _ _ hw
def W_X5_finds (s : zS) (p0 : Int32) (Q : zS → Prop) : Prop :=
    W_X5_reaches s p0 (fun s2 =>
    W_X5_lays s2 (fun s5 =>
    W_X5_laysDifferences s5 (fun s8 =>
    W_X5_solves s8 (fun s11 =>
    Q s11))))
set_option maxHeartbeats 4000000 in
set_option maxRecDepth 100000 in
theorem c_X5_finds (l : Launch) (D : va_G) (b : Nat → Nat) (g : Nat → ClassId) (s : zS) (p0 : Int32) (Q : zS → Prop) (hw : W_X5_finds s p0 Q) : zMv l D (zT g) yX5_finds wsX5_finds ({ frames := 2, cells := 0, slots := 0, locals := 45 } : Room) [.ref (b 0), .int p0] (WM b g) s (fun u => Q u) := by
  refine zMv_start (cc := cX5_finds) (maxL := 2) (lv0 := [(0, .ref (b 0)), (1, .int p0)]) (own := RX5) rfl (plainFor_of_name (by decide)) rfl (Nat.le_of_ble_eq_true rfl) rfl (fun X C hR hL hE => ?_)
  refine z_aload_n C 0 dX5_finds_0 rfl ?_
  refine z_iload_n C 1 dX5_finds_1 rfl ?_
  refine z_call0vV C hR hL (As := [.int p0]) (c_X5_reaches l D b g s p0 _ hw) gX5_finds_X5_reaches rfl ⟨by decide +kernel, by decide +kernel, (show (parseMethodDescriptor yX5_reaches.desc).map (fun d => d.parameters.length) = some 1 from by decide +kernel)⟩ ⟨rfl, rfl⟩ ⟨Nat.le_of_ble_eq_true rfl, Nat.le_of_ble_eq_true rfl⟩ ⟨Nat.le_of_ble_eq_true rfl, Nat.le_of_ble_eq_true rfl⟩ 0 5 rfl rfl rfl rfl (Nat.le_of_ble_eq_true rfl) dX5_finds_2 (fun s2 h3 => ?_)
  have hw := h3
  refine z_aload_n C 0 dX5_finds_5 rfl ?_
  refine z_call0vV C hR hL (As := []) (c_X5_lays l D b g s2 _ hw) gX5_finds_X5_lays rfl ⟨by decide +kernel, by decide +kernel, (show (parseMethodDescriptor yX5_lays.desc).map (fun d => d.parameters.length) = some 0 from by decide +kernel)⟩ ⟨rfl, rfl⟩ ⟨Nat.le_of_ble_eq_true rfl, Nat.le_of_ble_eq_true rfl⟩ ⟨Nat.le_of_ble_eq_true rfl, Nat.le_of_ble_eq_true rfl⟩ 0 5 rfl rfl rfl rfl (Nat.le_of_ble_eq_true rfl) dX5_finds_6 (fun s5 h6 => ?_)
  have hw := h6
  refine z_aload_n C 0 dX5_finds_9 rfl ?_
  refine z_call0vV C hR hL (As := []) (c_X5_laysDifferences l D b g s5 _ hw) gX5_finds_X5_laysDifferences rfl ⟨by decide +kernel, by decide +kernel, (show (parseMethodDescriptor yX5_laysDifferences.desc).map (fun d => d.parameters.length) = some 0 from by decide +kernel)⟩ ⟨rfl, rfl⟩ ⟨Nat.le_of_ble_eq_true rfl, Nat.le_of_ble_eq_true rfl⟩ ⟨Nat.le_of_ble_eq_true rfl, Nat.le_of_ble_eq_true rfl⟩ 0 5 rfl rfl rfl rfl (Nat.le_of_ble_eq_true rfl) dX5_finds_10 (fun s8 h9 => ?_)
  have hw := h9
  refine z_aload_n C 0 dX5_finds_13 rfl ?_
  refine z_call0vV C hR hL (As := []) (c_X5_solves l D b g s8 _ hw) gX5_finds_X5_solves rfl ⟨by decide +kernel, by decide +kernel, (show (parseMethodDescriptor yX5_solves.desc).map (fun d => d.parameters.length) = some 0 from by decide +kernel)⟩ ⟨rfl, rfl⟩ ⟨Nat.le_of_ble_eq_true rfl, Nat.le_of_ble_eq_true rfl⟩ ⟨Nat.le_of_ble_eq_true rfl, Nat.le_of_ble_eq_true rfl⟩ 0 5 rfl rfl rfl rfl (Nat.le_of_ble_eq_true rfl) dX5_finds_14 (fun s11 h12 => ?_)
  have hw := h12
  exact hE _ _ _ _ _ dX5_finds_17 (Nat.le_refl _) (Nat.le_refl _) hw
def W_X5_floor (s : zS) (p0 : Int64) (p1 : Int64) (Q : Int64 → Prop) : Prop :=
    ¬ p1 = 0 ∧
    ∀ x2 : Int64, x2 = (p0 / p1) →
    ((x2 * p1) ≤ p0 →
    Q x2) ∧ (¬ (x2 * p1) ≤ p0 →
    Q (x2 - 1))
set_option maxHeartbeats 4000000 in
set_option maxRecDepth 100000 in
theorem c_X5_floor (l : Launch) (D : va_G) (b : Nat → Nat) (g : Nat → ClassId) (s : zS) (p0 : Int64) (p1 : Int64) (Q : Int64 → Prop) (hw : W_X5_floor s p0 p1 Q) : zMl l D (zT g) yX5_floor wsX5_floor ({ frames := 0, cells := 0, slots := 0, locals := 0 } : Room) [.long p0, .long p1] (WM b g) s (fun r u => s = u ∧ Q r) := by
  refine zMl_start (cc := cX5_floor) (maxL := 6) (lv0 := [(0, .long p0), (2, .long p1)]) (own := RX5) rfl (plainFor_of_name (by decide)) rfl (Nat.le_of_ble_eq_true rfl) rfl (fun X C hR hL hE => ?_)
  refine z_lload_n C 0 dX5_floor_0 rfl ?_
  refine z_lload_n C 1 dX5_floor_1 rfl ?_
  obtain ⟨b1, hw⟩ := hw
  refine z_ldiv C dX5_floor_2 b1 ?_
  refine z_topl (fun x2 ex2 => ?_)
  have hw := hw x2 ex2
  refine z_lstore (lv' := [(4, .long x2), (0, .long p0), (2, .long p1)]) C dX5_floor_3 (by decide) rfl ?_
  refine z_lload C 0 dX5_floor_5 rfl ?_
  refine z_lload_n C 2 dX5_floor_7 rfl ?_
  refine z_lmul C dX5_floor_8 ?_
  refine z_lload_n C 1 dX5_floor_9 rfl ?_
  refine z_lcmp_le C 21 dX5_floor_10 dX5_floor_11 (by decide) (fun hc => ?_) (fun hc => ?_)
  · have hw := hw.1 hc
    refine z_lload C 0 dX5_floor_21 rfl ?_
    exact hE _ _ _ _ _ _ dX5_floor_23 (Nat.le_refl _) (Nat.le_refl _) ⟨rfl, hw⟩
  · have hw := hw.2 hc
    refine z_lload C 0 dX5_floor_14 rfl ?_
    refine z_lconst C 1 dX5_floor_16 (by decide) ?_
    refine z_lsub C dX5_floor_17 ?_
    refine z_goto C 23 dX5_floor_18 (by decide) ?_
    exact hE _ _ _ _ _ _ dX5_floor_23 (Nat.le_refl _) (Nat.le_refl _) ⟨rfl, hw⟩
def W_X5_size (s : zS) (p0 : Int64) (Q : Int64 → Prop) : Prop :=
    (0 ≤ p0 →
    Q p0) ∧ (¬ 0 ≤ p0 →
    Q (-p0))
set_option maxHeartbeats 4000000 in
set_option maxRecDepth 100000 in
theorem c_X5_size (l : Launch) (D : va_G) (b : Nat → Nat) (g : Nat → ClassId) (s : zS) (p0 : Int64) (Q : Int64 → Prop) (hw : W_X5_size s p0 Q) : zMl l D (zT g) yX5_size wsX5_size ({ frames := 0, cells := 0, slots := 0, locals := 0 } : Room) [.long p0] (WM b g) s (fun r u => s = u ∧ Q r) := by
  refine zMl_start (cc := cX5_size) (maxL := 2) (lv0 := [(0, .long p0)]) (own := RX5) rfl (plainFor_of_name (by decide)) rfl (Nat.le_of_ble_eq_true rfl) rfl (fun X C hR hL hE => ?_)
  refine z_lload_n C 0 dX5_size_0 rfl ?_
  refine z_lconst C 0 dX5_size_1 (by decide) ?_
  refine z_lcmp_ge C 11 dX5_size_2 dX5_size_3 (by decide) (fun hc => ?_) (fun hc => ?_)
  · have hw := hw.1 hc
    refine z_lload_n C 0 dX5_size_11 rfl ?_
    exact hE _ _ _ _ _ _ dX5_size_12 (Nat.le_refl _) (Nat.le_refl _) ⟨rfl, hw⟩
  · have hw := hw.2 hc
    refine z_lload_n C 0 dX5_size_6 rfl ?_
    refine z_lneg C dX5_size_7 ?_
    refine z_goto C 12 dX5_size_8 (by decide) ?_
    exact hE _ _ _ _ _ _ dX5_size_12 (Nat.le_refl _) (Nat.le_refl _) ⟨rfl, hw⟩
def W_X5_heightOf (s : zS) (p0 : Int32) (Q : Int64 → zS → Prop) : Prop :=
    W_X5_finds s p0 (fun s2 =>
    vp_in (gI s2 4) 6 ∧
    vp_in p0 6 ∧
    W_X5_floor s2 (100 * (gL s2 1 (ix p0))) (gJ s2 0) (fun r6 =>
    Q ((100 * ((gF s2 1 (ix (gI s2 4)))).toInt64) + r6) s2))
set_option maxHeartbeats 4000000 in
set_option maxRecDepth 100000 in
theorem c_X5_heightOf (l : Launch) (D : va_G) (b : Nat → Nat) (g : Nat → ClassId) (s : zS) (p0 : Int32) (Q : Int64 → zS → Prop) (hw : W_X5_heightOf s p0 Q) : zMl l D (zT g) yX5_heightOf wsX5_heightOf ({ frames := 3, cells := 0, slots := 0, locals := 66 } : Room) [.ref (b 0), .int p0] (WM b g) s (fun r u => Q r u) := by
  have i5 : ∀ w ∈ u_ws RX5 TX5 18, w ∈ wsX5_heightOf := fun _ h => (List.mem_cons_of_mem _ (List.mem_append_right _ h))
  refine zMl_start (cc := cX5_heightOf) (maxL := 2) (lv0 := [(0, .ref (b 0)), (1, .int p0)]) (own := RX5) rfl (plainFor_of_name (by decide)) rfl (Nat.le_of_ble_eq_true rfl) rfl (fun X C hR hL hE => ?_)
  refine z_aload_n C 0 dX5_heightOf_0 rfl ?_
  refine z_iload_n C 1 dX5_heightOf_1 rfl ?_
  refine z_call0vV C hR hL (As := [.int p0]) (c_X5_finds l D b g s p0 _ hw) gX5_heightOf_X5_finds rfl ⟨by decide +kernel, by decide +kernel, (show (parseMethodDescriptor yX5_finds.desc).map (fun d => d.parameters.length) = some 1 from by decide +kernel)⟩ ⟨rfl, rfl⟩ ⟨Nat.le_of_ble_eq_true rfl, Nat.le_of_ble_eq_true rfl⟩ ⟨Nat.le_of_ble_eq_true rfl, Nat.le_of_ble_eq_true rfl⟩ 0 5 rfl rfl rfl rfl (Nat.le_of_ble_eq_true rfl) dX5_heightOf_2 (fun s2 h3 => ?_)
  have hw := h3
  refine z_ldc2 C 100 (List.mem_of_getElem? (i := 1) rfl) dX5_heightOf_5 ?_
  refine z_aload_n C 0 dX5_heightOf_8 rfl ?_
  refine zg5_told C i5 (List.mem_of_getElem? (i := 2) rfl) dX5_heightOf_9 ?_
  refine z_aload_n C 0 dX5_heightOf_12 rfl ?_
  refine zg5_datum C i5 (List.mem_of_getElem? (i := 3) rfl) dX5_heightOf_13 ?_
  obtain ⟨b4, hw⟩ := hw
  refine zl5_told C b4 dX5_heightOf_16 ?_
  refine z_i2l C dX5_heightOf_17 ?_
  refine z_lmul C dX5_heightOf_18 ?_
  refine z_ldc2 C 100 (List.mem_of_getElem? (i := 1) rfl) dX5_heightOf_19 ?_
  refine z_aload_n C 0 dX5_heightOf_22 rfl ?_
  refine zg5_found C i5 (List.mem_of_getElem? (i := 4) rfl) dX5_heightOf_23 ?_
  refine z_iload_n C 1 dX5_heightOf_26 rfl ?_
  obtain ⟨b5, hw⟩ := hw
  refine zl5_found C b5 dX5_heightOf_27 ?_
  refine z_lmul C dX5_heightOf_28 ?_
  refine z_aload_n C 0 dX5_heightOf_29 rfl ?_
  refine zg5_trees C i5 (List.mem_of_getElem? (i := 5) rfl) dX5_heightOf_30 ?_
  refine z_call0lS C hR hL (As := [.long (100 * (gL s2 1 (ix p0))), .long (gJ s2 0)]) (c_X5_floor l D b g s2 (100 * (gL s2 1 (ix p0))) (gJ s2 0) _ hw) gX5_heightOf_X5_floor rfl ⟨by decide +kernel, by decide +kernel, (show (parseMethodDescriptor yX5_floor.desc).map (fun d => d.parameters.length) = some 2 from by decide +kernel)⟩ ⟨rfl, rfl⟩ ⟨Nat.le_of_ble_eq_true rfl, Nat.le_of_ble_eq_true rfl⟩ ⟨Nat.le_of_ble_eq_true rfl, Nat.le_of_ble_eq_true rfl⟩ rfl (Nat.le_of_ble_eq_true rfl) dX5_heightOf_33 (fun r6 s7 h8 => ?_)
  obtain ⟨es7, hw⟩ := h8
  subst es7
  refine z_ladd C dX5_heightOf_36 ?_
  exact hE _ _ _ _ _ _ dX5_heightOf_37 (Nat.le_refl _) (Nat.le_refl _) hw
def W_X5_height (s : zS) (p0 : Int32) (Q : Int64 → zS → Prop) : Prop :=
    W_X5_isStation s p0 (fun r1 =>
    ∃ k4 : Int32 → Prop, (∀ (v7 : Int32), k4 v7 →
    W_X5_goes s v7 (fun r8 s9 =>
    (r8 = 0 →
    Q 0 s9) ∧ (¬ r8 = 0 →
    W_X5_heightOf s9 p0 (fun r11 s12 =>
    Q r11 s12)))) ∧ ((r1 = 0 →
    k4 1) ∧ (¬ r1 = 0 →
    k4 0)))
set_option maxHeartbeats 4000000 in
set_option maxRecDepth 100000 in
theorem c_X5_height (l : Launch) (D : va_G) (b : Nat → Nat) (g : Nat → ClassId) (s : zS) (p0 : Int32) (Q : Int64 → zS → Prop) (hw : W_X5_height s p0 Q) : zMl l D (zT g) yX5_height wsX5_height ({ frames := 4, cells := 0, slots := 0, locals := 87 } : Room) [.ref (b 0), .int p0] (WM b g) s (fun r u => Q r u) := by
  refine zMl_start (cc := cX5_height) (maxL := 2) (lv0 := [(0, .ref (b 0)), (1, .int p0)]) (own := RX5) rfl (plainFor_of_name (by decide)) rfl (Nat.le_of_ble_eq_true rfl) rfl (fun X C hR hL hE => ?_)
  refine z_aload_n C 0 dX5_height_0 rfl ?_
  refine z_aload_n C 0 dX5_height_1 rfl ?_
  refine z_iload_n C 1 dX5_height_2 rfl ?_
  refine z_call0iV C hR hL (As := [.int p0]) (c_X5_isStation l D b g s p0 _ hw) gX5_height_X5_isStation rfl ⟨by decide +kernel, by decide +kernel, (show (parseMethodDescriptor yX5_isStation.desc).map (fun d => d.parameters.length) = some 1 from by decide +kernel)⟩ ⟨rfl, rfl⟩ ⟨Nat.le_of_ble_eq_true rfl, Nat.le_of_ble_eq_true rfl⟩ ⟨Nat.le_of_ble_eq_true rfl, Nat.le_of_ble_eq_true rfl⟩ 0 5 rfl rfl rfl rfl (Nat.le_of_ble_eq_true rfl) dX5_height_3 (fun r1 s2 h3 => ?_)
  obtain ⟨es2, hw⟩ := h3
  subst es2
  obtain ⟨k4, hk5, hw⟩ := hw
  have hj6 : ∀ (v7 : Int32), k4 v7 → zV X D 2 0 0 (WM b g s) 14 [(0, .ref (b 0)), (1, .int p0)] [.int v7, .ref (b 0)] := by
    intro v7 hw0
    have hw := hk5 v7 hw0
    refine z_call0iV C hR hL (As := [.int v7]) (c_X5_goes l D b g s v7 _ hw) gX5_height_X5_goes rfl ⟨by decide +kernel, by decide +kernel, (show (parseMethodDescriptor yX5_goes.desc).map (fun d => d.parameters.length) = some 1 from by decide +kernel)⟩ ⟨rfl, rfl⟩ ⟨Nat.le_of_ble_eq_true rfl, Nat.le_of_ble_eq_true rfl⟩ ⟨Nat.le_of_ble_eq_true rfl, Nat.le_of_ble_eq_true rfl⟩ 0 5 rfl rfl rfl rfl (Nat.le_of_ble_eq_true rfl) dX5_height_14 (fun r8 s9 h10 => ?_)
    have hw := h10
    refine z_if_eq C 28 dX5_height_17 (by decide) (fun hc => ?_) (fun hc => ?_)
    · have hw := hw.1 hc
      refine z_lconst C 0 dX5_height_28 (by decide) ?_
      exact hE _ _ _ _ _ _ dX5_height_29 (Nat.le_refl _) (Nat.le_refl _) hw
    · have hw := hw.2 hc
      refine z_aload_n C 0 dX5_height_20 rfl ?_
      refine z_iload_n C 1 dX5_height_21 rfl ?_
      refine z_call0lV C hR hL (As := [.int p0]) (c_X5_heightOf l D b g s9 p0 _ hw) gX5_height_X5_heightOf rfl ⟨by decide +kernel, by decide +kernel, (show (parseMethodDescriptor yX5_heightOf.desc).map (fun d => d.parameters.length) = some 1 from by decide +kernel)⟩ ⟨rfl, rfl⟩ ⟨Nat.le_of_ble_eq_true rfl, Nat.le_of_ble_eq_true rfl⟩ ⟨Nat.le_of_ble_eq_true rfl, Nat.le_of_ble_eq_true rfl⟩ 0 5 rfl rfl rfl rfl (Nat.le_of_ble_eq_true rfl) dX5_height_22 (fun r11 s12 h13 => ?_)
      have hw := h13
      refine z_goto C 29 dX5_height_25 (by decide) ?_
      exact hE _ _ _ _ _ _ dX5_height_29 (Nat.le_refl _) (Nat.le_refl _) hw
  refine z_if_eq C 13 dX5_height_6 (by decide) (fun hc => ?_) (fun hc => ?_)
  · have hw := hw.1 hc
    refine z_iconst C 1 dX5_height_13 (by decide) ?_
    exact hj6 _ hw
  · have hw := hw.2 hc
    refine z_iconst C 0 dX5_height_9 (by decide) ?_
    refine z_goto C 14 dX5_height_10 (by decide) ?_
    exact hj6 _ hw
def W_X5_heightAnew (s : zS) (p0 : Int32) (Q : Int64 → zS → Prop) : Prop :=
    W_X5_isStation s p0 (fun r1 =>
    ∃ k4 : Int32 → Prop, (∀ (v7 : Int32), k4 v7 →
    W_X5_goes s v7 (fun r8 s9 =>
    (r8 = 0 →
    Q 0 s9) ∧ (¬ r8 = 0 →
    W_X5_heightOf s9 p0 (fun r11 s12 =>
    Q r11 s12)))) ∧ ((r1 = 0 →
    k4 1) ∧ (¬ r1 = 0 →
    k4 0)))
set_option maxHeartbeats 4000000 in
set_option maxRecDepth 100000 in
theorem c_X5_heightAnew (l : Launch) (D : va_G) (b : Nat → Nat) (g : Nat → ClassId) (s : zS) (p0 : Int32) (Q : Int64 → zS → Prop) (hw : W_X5_heightAnew s p0 Q) : zMl l D (zT g) yX5_heightAnew wsX5_heightAnew ({ frames := 4, cells := 0, slots := 0, locals := 87 } : Room) [.ref (b 0), .int p0] (WM b g) s (fun r u => Q r u) := by
  refine zMl_start (cc := cX5_heightAnew) (maxL := 2) (lv0 := [(0, .ref (b 0)), (1, .int p0)]) (own := RX5) rfl (plainFor_of_name (by decide)) rfl (Nat.le_of_ble_eq_true rfl) rfl (fun X C hR hL hE => ?_)
  refine z_aload_n C 0 dX5_heightAnew_0 rfl ?_
  refine z_aload_n C 0 dX5_heightAnew_1 rfl ?_
  refine z_iload_n C 1 dX5_heightAnew_2 rfl ?_
  refine z_call0iV C hR hL (As := [.int p0]) (c_X5_isStation l D b g s p0 _ hw) gX5_heightAnew_X5_isStation rfl ⟨by decide +kernel, by decide +kernel, (show (parseMethodDescriptor yX5_isStation.desc).map (fun d => d.parameters.length) = some 1 from by decide +kernel)⟩ ⟨rfl, rfl⟩ ⟨Nat.le_of_ble_eq_true rfl, Nat.le_of_ble_eq_true rfl⟩ ⟨Nat.le_of_ble_eq_true rfl, Nat.le_of_ble_eq_true rfl⟩ 0 5 rfl rfl rfl rfl (Nat.le_of_ble_eq_true rfl) dX5_heightAnew_3 (fun r1 s2 h3 => ?_)
  obtain ⟨es2, hw⟩ := h3
  subst es2
  obtain ⟨k4, hk5, hw⟩ := hw
  have hj6 : ∀ (v7 : Int32), k4 v7 → zV X D 2 0 0 (WM b g s) 14 [(0, .ref (b 0)), (1, .int p0)] [.int v7, .ref (b 0)] := by
    intro v7 hw0
    have hw := hk5 v7 hw0
    refine z_call0iV C hR hL (As := [.int v7]) (c_X5_goes l D b g s v7 _ hw) gX5_heightAnew_X5_goes rfl ⟨by decide +kernel, by decide +kernel, (show (parseMethodDescriptor yX5_goes.desc).map (fun d => d.parameters.length) = some 1 from by decide +kernel)⟩ ⟨rfl, rfl⟩ ⟨Nat.le_of_ble_eq_true rfl, Nat.le_of_ble_eq_true rfl⟩ ⟨Nat.le_of_ble_eq_true rfl, Nat.le_of_ble_eq_true rfl⟩ 0 5 rfl rfl rfl rfl (Nat.le_of_ble_eq_true rfl) dX5_heightAnew_14 (fun r8 s9 h10 => ?_)
    have hw := h10
    refine z_if_eq C 28 dX5_heightAnew_17 (by decide) (fun hc => ?_) (fun hc => ?_)
    · have hw := hw.1 hc
      refine z_lconst C 0 dX5_heightAnew_28 (by decide) ?_
      exact hE _ _ _ _ _ _ dX5_heightAnew_29 (Nat.le_refl _) (Nat.le_refl _) hw
    · have hw := hw.2 hc
      refine z_aload_n C 0 dX5_heightAnew_20 rfl ?_
      refine z_iload_n C 1 dX5_heightAnew_21 rfl ?_
      refine z_call0lV C hR hL (As := [.int p0]) (c_X5_heightOf l D b g s9 p0 _ hw) gX5_heightAnew_X5_heightOf rfl ⟨by decide +kernel, by decide +kernel, (show (parseMethodDescriptor yX5_heightOf.desc).map (fun d => d.parameters.length) = some 1 from by decide +kernel)⟩ ⟨rfl, rfl⟩ ⟨Nat.le_of_ble_eq_true rfl, Nat.le_of_ble_eq_true rfl⟩ ⟨Nat.le_of_ble_eq_true rfl, Nat.le_of_ble_eq_true rfl⟩ 0 5 rfl rfl rfl rfl (Nat.le_of_ble_eq_true rfl) dX5_heightAnew_22 (fun r11 s12 h13 => ?_)
      have hw := h13
      refine z_goto C 29 dX5_heightAnew_25 (by decide) ?_
      exact hE _ _ _ _ _ _ dX5_heightAnew_29 (Nat.le_refl _) (Nat.le_refl _) hw
  refine z_if_eq C 13 dX5_heightAnew_6 (by decide) (fun hc => ?_) (fun hc => ?_)
  · have hw := hw.1 hc
    refine z_iconst C 1 dX5_heightAnew_13 (by decide) ?_
    exact hj6 _ hw
  · have hw := hw.2 hc
    refine z_iconst C 0 dX5_heightAnew_9 (by decide) ?_
    refine z_goto C 14 dX5_heightAnew_10 (by decide) ?_
    exact hj6 _ hw
def W_X5_free_L35 (p0 : Int32) (Q : Int64 → zS → Prop) (K : Int64 → Int64 → zS → Prop) : Nat → Int64 → Int64 → Int32 → zS → Prop
  | 0, _, _, _, _ => False
  | n + 1, v29, v30, v31, s32 =>
    ((gI s32 0) ≤ v31 →
    K v29 v30 s32) ∧ (¬ (gI s32 0) ≤ v31 →
    vp_in v31 6 ∧
    ∀ x34 : Int64, x34 = (v29 + (gL s32 1 (ix v31))) →
    vp_in v31 6 ∧
    ((gF s32 8 (ix v31)) = 0 →
    ∀ x36 : Int64, x36 = (v30 + 0) →
    ∀ x37 : Int32, x37 = v31 + 1 →
    W_X5_free_L35 p0 Q K n x34 x36 x37 s32) ∧ (¬ (gF s32 8 (ix v31)) = 0 →
    ∀ x38 : Int64, x38 = (v30 + 1) →
    ∀ x39 : Int32, x39 = v31 + 1 →
    W_X5_free_L35 p0 Q K n x34 x38 x39 s32))
def W_X5_free (s : zS) (p0 : Int32) (Q : Int64 → zS → Prop) : Prop :=
    W_X5_isStation s p0 (fun r1 =>
    ∃ k4 : Int32 → Prop, (∀ (v7 : Int32), k4 v7 →
    W_X5_goes s v7 (fun r8 s9 =>
    (¬ r8 = 0 →
    W_X5_finds s9 p0 (fun s12 =>
    ∀ x14 : Int64, x14 = 0 →
    ∀ x15 : Int64, x15 = 0 →
    ∀ x16 : Int32, x16 = 0 →
    ∃ (K17 : Int64 → Int64 → zS → Prop) (n18 : Nat), (∀ (v22 : Int64) (v23 : Int64) (s24 : zS), K17 v22 v23 s24 →
    vp_in p0 6 ∧
    W_X5_floor s24 (100 * ((v23 * (gL s24 1 (ix p0))) - v22)) (v23 * (gJ s24 0)) (fun r26 =>
    Q r26 s24)) ∧ W_X5_free_L35 p0 Q K17 n18 x14 x15 x16 s12)) ∧ (r8 = 0 →
    Q 0 s9))) ∧ ((r1 = 0 →
    k4 1) ∧ (¬ r1 = 0 →
    k4 0)))
set_option maxHeartbeats 4000000 in
set_option maxRecDepth 100000 in
theorem c_X5_free (l : Launch) (D : va_G) (b : Nat → Nat) (g : Nat → ClassId) (s : zS) (p0 : Int32) (Q : Int64 → zS → Prop) (hw : W_X5_free s p0 Q) : zMl l D (zT g) yX5_free wsX5_free ({ frames := 3, cells := 0, slots := 0, locals := 66 } : Room) [.ref (b 0), .int p0] (WM b g) s (fun r u => Q r u) := by
  have i5 : ∀ w ∈ u_ws RX5 TX5 18, w ∈ wsX5_free := fun _ h => (List.mem_cons_of_mem _ (List.mem_append_right _ h))
  refine zMl_start (cc := cX5_free) (maxL := 7) (lv0 := [(0, .ref (b 0)), (1, .int p0)]) (own := RX5) rfl (plainFor_of_name (by decide)) rfl (Nat.le_of_ble_eq_true rfl) rfl (fun X C hR hL hE => ?_)
  refine z_aload_n C 0 dX5_free_0 rfl ?_
  refine z_aload_n C 0 dX5_free_1 rfl ?_
  refine z_iload_n C 1 dX5_free_2 rfl ?_
  refine z_call0iV C hR hL (As := [.int p0]) (c_X5_isStation l D b g s p0 _ hw) gX5_free_X5_isStation rfl ⟨by decide +kernel, by decide +kernel, (show (parseMethodDescriptor yX5_isStation.desc).map (fun d => d.parameters.length) = some 1 from by decide +kernel)⟩ ⟨rfl, rfl⟩ ⟨Nat.le_of_ble_eq_true rfl, Nat.le_of_ble_eq_true rfl⟩ ⟨Nat.le_of_ble_eq_true rfl, Nat.le_of_ble_eq_true rfl⟩ 0 5 rfl rfl rfl rfl (Nat.le_of_ble_eq_true rfl) dX5_free_3 (fun r1 s2 h3 => ?_)
  obtain ⟨es2, hw⟩ := h3
  subst es2
  obtain ⟨k4, hk5, hw⟩ := hw
  have hj6 : ∀ (v7 : Int32), k4 v7 → zV X D 7 0 0 (WM b g s) 14 [(0, .ref (b 0)), (1, .int p0)] [.int v7, .ref (b 0)] := by
    intro v7 hw0
    have hw := hk5 v7 hw0
    refine z_call0iV C hR hL (As := [.int v7]) (c_X5_goes l D b g s v7 _ hw) gX5_free_X5_goes rfl ⟨by decide +kernel, by decide +kernel, (show (parseMethodDescriptor yX5_goes.desc).map (fun d => d.parameters.length) = some 1 from by decide +kernel)⟩ ⟨rfl, rfl⟩ ⟨Nat.le_of_ble_eq_true rfl, Nat.le_of_ble_eq_true rfl⟩ ⟨Nat.le_of_ble_eq_true rfl, Nat.le_of_ble_eq_true rfl⟩ 0 5 rfl rfl rfl rfl (Nat.le_of_ble_eq_true rfl) dX5_free_14 (fun r8 s9 h10 => ?_)
    have hw := h10
    refine z_if_ne C 22 dX5_free_17 (by decide) (fun hc => ?_) (fun hc => ?_)
    · have hw := hw.1 hc
      refine z_aload_n C 0 dX5_free_22 rfl ?_
      refine z_iload_n C 1 dX5_free_23 rfl ?_
      refine z_call0vV C hR hL (As := [.int p0]) (c_X5_finds l D b g s9 p0 _ hw) gX5_free_X5_finds rfl ⟨by decide +kernel, by decide +kernel, (show (parseMethodDescriptor yX5_finds.desc).map (fun d => d.parameters.length) = some 1 from by decide +kernel)⟩ ⟨rfl, rfl⟩ ⟨Nat.le_of_ble_eq_true rfl, Nat.le_of_ble_eq_true rfl⟩ ⟨Nat.le_of_ble_eq_true rfl, Nat.le_of_ble_eq_true rfl⟩ 0 5 rfl rfl rfl rfl (Nat.le_of_ble_eq_true rfl) dX5_free_24 (fun s12 h13 => ?_)
      have hw := h13
      refine z_lconst C 0 dX5_free_27 (by decide) ?_
      refine z_topl (fun x14 ex14 => ?_)
      have hw := hw x14 ex14
      refine z_lstore_n (lv' := [(2, .long x14), (0, .ref (b 0)), (1, .int p0)]) C 2 dX5_free_28 rfl (by decide) rfl ?_
      refine z_lconst C 0 dX5_free_29 (by decide) ?_
      refine z_topl (fun x15 ex15 => ?_)
      have hw := hw x15 ex15
      refine z_lstore (lv' := [(4, .long x15), (2, .long x14), (0, .ref (b 0)), (1, .int p0)]) C dX5_free_30 (by decide) rfl ?_
      refine z_iconst C 0 dX5_free_32 (by decide) ?_
      refine z_topi (fun x16 ex16 => ?_)
      have hw := hw x16 ex16
      refine z_istore (lv' := [(6, .int x16), (4, .long x15), (2, .long x14), (0, .ref (b 0)), (1, .int p0)]) C dX5_free_33 (by decide) rfl ?_
      refine z_sub (lv' := [(0, .ref (b 0)), (1, .int p0), (2, .long x14), (4, .long x15), (6, .int x16)]) [3, 4, 2, 1, 0] rfl ?_
      obtain ⟨K17, n18, hK19, hw⟩ := hw
      have hx20 : ∀ (v22 : Int64) (v23 : Int64) (s24 : zS), K17 v22 v23 s24 → zV X D 7 0 0 (WM b g s24) 80 [(0, .ref (b 0)), (1, .int p0), (2, .long v22), (4, .long v23)] [] := by
        intro v22 v23 s24 hw0
        have hw := hK19 v22 v23 s24 hw0
        refine z_ldc2 C 100 (List.mem_of_getElem? (i := 4) rfl) dX5_free_80 ?_
        refine z_lload C 3 dX5_free_83 rfl ?_
        refine z_aload_n C 0 dX5_free_85 rfl ?_
        refine zg5_found C i5 (List.mem_of_getElem? (i := 2) rfl) dX5_free_86 ?_
        refine z_iload_n C 1 dX5_free_89 rfl ?_
        obtain ⟨b25, hw⟩ := hw
        refine zl5_found C b25 dX5_free_90 ?_
        refine z_lmul C dX5_free_91 ?_
        refine z_lload_n C 2 dX5_free_92 rfl ?_
        refine z_lsub C dX5_free_93 ?_
        refine z_lmul C dX5_free_94 ?_
        refine z_lload C 3 dX5_free_95 rfl ?_
        refine z_aload_n C 0 dX5_free_97 rfl ?_
        refine zg5_trees C i5 (List.mem_of_getElem? (i := 5) rfl) dX5_free_98 ?_
        refine z_lmul C dX5_free_101 ?_
        refine z_call0lS C hR hL (As := [.long (100 * ((v23 * (gL s24 1 (ix p0))) - v22)), .long (v23 * (gJ s24 0))]) (c_X5_floor l D b g s24 (100 * ((v23 * (gL s24 1 (ix p0))) - v22)) (v23 * (gJ s24 0)) _ hw) gX5_free_X5_floor rfl ⟨by decide +kernel, by decide +kernel, (show (parseMethodDescriptor yX5_floor.desc).map (fun d => d.parameters.length) = some 2 from by decide +kernel)⟩ ⟨rfl, rfl⟩ ⟨Nat.le_of_ble_eq_true rfl, Nat.le_of_ble_eq_true rfl⟩ ⟨Nat.le_of_ble_eq_true rfl, Nat.le_of_ble_eq_true rfl⟩ rfl (Nat.le_of_ble_eq_true rfl) dX5_free_102 (fun r26 s27 h28 => ?_)
        obtain ⟨es27, hw⟩ := h28
        subst es27
        exact hE _ _ _ _ _ _ dX5_free_105 (Nat.le_refl _) (Nat.le_refl _) hw
      have lp21 : ∀ (n : Nat) (v29 : Int64) (v30 : Int64) (v31 : Int32) (s32 : zS), W_X5_free_L35 p0 Q K17 n v29 v30 v31 s32 → zV X D 7 0 0 (WM b g s32) 35 [(0, .ref (b 0)), (1, .int p0), (2, .long v29), (4, .long v30), (6, .int v31)] [] := by
        intro n
        induction n with
        | zero => intro v29 v30 v31 s32 hw; exact False.elim hw
        | succ n ih =>
          intro v29 v30 v31 s32 hw
          refine z_iload C 4 dX5_free_35 rfl ?_
          refine z_aload_n C 0 dX5_free_37 rfl ?_
          refine zg5_stations C i5 (List.mem_of_getElem? (i := 1) rfl) dX5_free_38 ?_
          refine z_icmp_ge C 80 dX5_free_41 (by decide) (fun hc => ?_) (fun hc => ?_)
          · have hw := hw.1 hc
            refine z_sub (lv' := [(0, .ref (b 0)), (1, .int p0), (2, .long v29), (4, .long v30)]) [0, 1, 2, 3] rfl ?_
            exact hx20 _ _ _ hw
          · have hw := hw.2 hc
            refine z_lload_n C 2 dX5_free_44 rfl ?_
            refine z_aload_n C 0 dX5_free_45 rfl ?_
            refine zg5_found C i5 (List.mem_of_getElem? (i := 2) rfl) dX5_free_46 ?_
            refine z_iload C 4 dX5_free_49 rfl ?_
            obtain ⟨b33, hw⟩ := hw
            refine zl5_found C b33 dX5_free_51 ?_
            refine z_ladd C dX5_free_52 ?_
            refine z_topl (fun x34 ex34 => ?_)
            have hw := hw x34 ex34
            refine z_lstore_n (lv' := [(2, .long x34), (0, .ref (b 0)), (1, .int p0), (4, .long v30), (6, .int v31)]) C 2 dX5_free_53 rfl (by decide) rfl ?_
            refine z_lload C 3 dX5_free_54 rfl ?_
            refine z_aload_n C 1 dX5_free_56 rfl ?_
            refine zg5_isIn C i5 (List.mem_of_getElem? (i := 3) rfl) dX5_free_57 ?_
            refine z_iload C 4 dX5_free_60 rfl ?_
            obtain ⟨b35, hw⟩ := hw
            refine zl5_isIn C b35 dX5_free_62 ?_
            refine z_if_eq C 70 dX5_free_63 (by decide) (fun hc => ?_) (fun hc => ?_)
            · have hw := hw.1 hc
              refine z_lconst C 0 dX5_free_70 (by decide) ?_
              refine z_ladd C dX5_free_71 ?_
              refine z_topl (fun x36 ex36 => ?_)
              have hw := hw x36 ex36
              refine z_lstore (lv' := [(4, .long x36), (2, .long x34), (0, .ref (b 0)), (1, .int p0), (6, .int v31)]) C dX5_free_72 (by decide) rfl ?_
              obtain ⟨x37, ex37⟩ : ∃ z : Int32, z = v31 + 1 := ⟨_, rfl⟩
              have hw := hw x37 ex37
              refine z_iinc (lv' := [(6, .int x37), (4, .long x36), (2, .long x34), (0, .ref (b 0)), (1, .int p0)]) C 4 dX5_free_74 rfl (by rw [ex37]; rfl) (by decide) rfl ?_
              refine z_goto C 35 dX5_free_77 (by decide) ?_
              refine z_sub (lv' := [(0, .ref (b 0)), (1, .int p0), (2, .long x34), (4, .long x36), (6, .int x37)]) [3, 4, 2, 1, 0] rfl ?_
              exact ih _ _ _ _ hw
            · have hw := hw.2 hc
              refine z_lconst C 1 dX5_free_66 (by decide) ?_
              refine z_goto C 71 dX5_free_67 (by decide) ?_
              refine z_ladd C dX5_free_71 ?_
              refine z_topl (fun x38 ex38 => ?_)
              have hw := hw x38 ex38
              refine z_lstore (lv' := [(4, .long x38), (2, .long x34), (0, .ref (b 0)), (1, .int p0), (6, .int v31)]) C dX5_free_72 (by decide) rfl ?_
              obtain ⟨x39, ex39⟩ : ∃ z : Int32, z = v31 + 1 := ⟨_, rfl⟩
              have hw := hw x39 ex39
              refine z_iinc (lv' := [(6, .int x39), (4, .long x38), (2, .long x34), (0, .ref (b 0)), (1, .int p0)]) C 4 dX5_free_74 rfl (by rw [ex39]; rfl) (by decide) rfl ?_
              refine z_goto C 35 dX5_free_77 (by decide) ?_
              refine z_sub (lv' := [(0, .ref (b 0)), (1, .int p0), (2, .long x34), (4, .long x38), (6, .int x39)]) [3, 4, 2, 1, 0] rfl ?_
              exact ih _ _ _ _ hw
      exact lp21 n18 _ _ _ _ hw
    · have hw := hw.2 hc
      refine z_lconst C 0 dX5_free_20 (by decide) ?_
      exact hE _ _ _ _ _ _ dX5_free_21 (Nat.le_refl _) (Nat.le_refl _) hw
  refine z_if_eq C 13 dX5_free_6 (by decide) (fun hc => ?_) (fun hc => ?_)
  · have hw := hw.1 hc
    refine z_iconst C 1 dX5_free_13 (by decide) ?_
    exact hj6 _ hw
  · have hw := hw.2 hc
    refine z_iconst C 0 dX5_free_9 (by decide) ?_
    refine z_goto C 14 dX5_free_10 (by decide) ?_
    exact hj6 _ hw
def W_X5_apart (s : zS) (p0 : Int32) (Q : Int64 → zS → Prop) : Prop :=
    vp_in p0 14 ∧
    W_X5_finds s (gF s 2 (ix p0)) (fun s3 =>
    vp_in p0 14 ∧
    vp_in (gF s3 3 (ix p0)) 6 ∧
    vp_in p0 14 ∧
    vp_in (gF s3 2 (ix p0)) 6 ∧
    vp_in p0 14 ∧
    Q (((gL s3 1 (ix (gF s3 3 (ix p0)))) - (gL s3 1 (ix (gF s3 2 (ix p0))))) - (((gF s3 4 (ix p0))).toInt64 * (gJ s3 0))) s3)
set_option maxHeartbeats 4000000 in
set_option maxRecDepth 100000 in
theorem c_X5_apart (l : Launch) (D : va_G) (b : Nat → Nat) (g : Nat → ClassId) (s : zS) (p0 : Int32) (Q : Int64 → zS → Prop) (hw : W_X5_apart s p0 Q) : zMl l D (zT g) yX5_apart wsX5_apart ({ frames := 3, cells := 0, slots := 0, locals := 66 } : Room) [.ref (b 0), .int p0] (WM b g) s (fun r u => Q r u) := by
  have i5 : ∀ w ∈ u_ws RX5 TX5 18, w ∈ wsX5_apart := fun _ h => (List.mem_cons_of_mem _ (List.mem_append_right _ h))
  refine zMl_start (cc := cX5_apart) (maxL := 2) (lv0 := [(0, .ref (b 0)), (1, .int p0)]) (own := RX5) rfl (plainFor_of_name (by decide)) rfl (Nat.le_of_ble_eq_true rfl) rfl (fun X C hR hL hE => ?_)
  refine z_aload_n C 0 dX5_apart_0 rfl ?_
  refine z_aload_n C 0 dX5_apart_1 rfl ?_
  refine zg5_froms C i5 (List.mem_of_getElem? (i := 1) rfl) dX5_apart_2 ?_
  refine z_iload_n C 1 dX5_apart_5 rfl ?_
  obtain ⟨b1, hw⟩ := hw
  refine zl5_froms C b1 dX5_apart_6 ?_
  refine z_call0vV C hR hL (As := [.int (gF s 2 (ix p0))]) (c_X5_finds l D b g s (gF s 2 (ix p0)) _ hw) gX5_apart_X5_finds rfl ⟨by decide +kernel, by decide +kernel, (show (parseMethodDescriptor yX5_finds.desc).map (fun d => d.parameters.length) = some 1 from by decide +kernel)⟩ ⟨rfl, rfl⟩ ⟨Nat.le_of_ble_eq_true rfl, Nat.le_of_ble_eq_true rfl⟩ ⟨Nat.le_of_ble_eq_true rfl, Nat.le_of_ble_eq_true rfl⟩ 0 5 rfl rfl rfl rfl (Nat.le_of_ble_eq_true rfl) dX5_apart_7 (fun s3 h4 => ?_)
  have hw := h4
  refine z_aload_n C 0 dX5_apart_10 rfl ?_
  refine zg5_found C i5 (List.mem_of_getElem? (i := 2) rfl) dX5_apart_11 ?_
  refine z_aload_n C 0 dX5_apart_14 rfl ?_
  refine zg5_tos C i5 (List.mem_of_getElem? (i := 3) rfl) dX5_apart_15 ?_
  refine z_iload_n C 1 dX5_apart_18 rfl ?_
  obtain ⟨b5, hw⟩ := hw
  refine zl5_tos C b5 dX5_apart_19 ?_
  obtain ⟨b6, hw⟩ := hw
  refine zl5_found C b6 dX5_apart_20 ?_
  refine z_aload_n C 0 dX5_apart_21 rfl ?_
  refine zg5_found C i5 (List.mem_of_getElem? (i := 2) rfl) dX5_apart_22 ?_
  refine z_aload_n C 0 dX5_apart_25 rfl ?_
  refine zg5_froms C i5 (List.mem_of_getElem? (i := 1) rfl) dX5_apart_26 ?_
  refine z_iload_n C 1 dX5_apart_29 rfl ?_
  obtain ⟨b7, hw⟩ := hw
  refine zl5_froms C b7 dX5_apart_30 ?_
  obtain ⟨b8, hw⟩ := hw
  refine zl5_found C b8 dX5_apart_31 ?_
  refine z_lsub C dX5_apart_32 ?_
  refine z_aload_n C 0 dX5_apart_33 rfl ?_
  refine zg5_differences C i5 (List.mem_of_getElem? (i := 4) rfl) dX5_apart_34 ?_
  refine z_iload_n C 1 dX5_apart_37 rfl ?_
  obtain ⟨b9, hw⟩ := hw
  refine zl5_differences C b9 dX5_apart_38 ?_
  refine z_i2l C dX5_apart_39 ?_
  refine z_aload_n C 0 dX5_apart_40 rfl ?_
  refine zg5_trees C i5 (List.mem_of_getElem? (i := 5) rfl) dX5_apart_41 ?_
  refine z_lmul C dX5_apart_44 ?_
  refine z_lsub C dX5_apart_45 ?_
  exact hE _ _ _ _ _ _ dX5_apart_46 (Nat.le_refl _) (Nat.le_refl _) hw
def W_X5_isInNet (s : zS) (p0 : Int32) (Q : Int32 → zS → Prop) : Prop :=
    W_X5_isObservation s p0 (fun r1 =>
    ∀ x4 : Int32, x4 = r1 →
    ∃ k5 : Int32 → Prop, (∀ (v8 : Int32), k5 v8 →
    W_X5_goes s v8 (fun r9 s10 =>
    narrow .boolean (.int r9) = .int r9 ∧ Q r9 s10)) ∧ ((¬ x4 = 0 →
    vp_in p0 14 ∧
    ((gF s 6 (ix p0)) = 0 →
    k5 0) ∧ (¬ (gF s 6 (ix p0)) = 0 →
    k5 2)) ∧ (x4 = 0 →
    k5 1)))
set_option maxHeartbeats 4000000 in
set_option maxRecDepth 100000 in
theorem c_X5_isInNet (l : Launch) (D : va_G) (b : Nat → Nat) (g : Nat → ClassId) (s : zS) (p0 : Int32) (Q : Int32 → zS → Prop) (hw : W_X5_isInNet s p0 Q) : zMi l D (zT g) yX5_isInNet wsX5_isInNet ({ frames := 2, cells := 0, slots := 0, locals := 43 } : Room) [.ref (b 0), .int p0] (WM b g) s (fun r u => Q r u) := by
  have i5 : ∀ w ∈ u_ws RX5 TX5 18, w ∈ wsX5_isInNet := fun _ h => (List.mem_cons_of_mem _ (List.mem_append_right _ h))
  refine zMi_start (cc := cX5_isInNet) (maxL := 3) (lv0 := [(0, .ref (b 0)), (1, .int p0)]) (own := RX5) rfl (plainFor_of_name (by decide)) rfl (Nat.le_of_ble_eq_true rfl) rfl (fun X C hR hL hE => ?_)
  refine z_aload_n C 0 dX5_isInNet_0 rfl ?_
  refine z_iload_n C 1 dX5_isInNet_1 rfl ?_
  refine z_call0iV C hR hL (As := [.int p0]) (c_X5_isObservation l D b g s p0 _ hw) gX5_isInNet_X5_isObservation rfl ⟨by decide +kernel, by decide +kernel, (show (parseMethodDescriptor yX5_isObservation.desc).map (fun d => d.parameters.length) = some 1 from by decide +kernel)⟩ ⟨rfl, rfl⟩ ⟨Nat.le_of_ble_eq_true rfl, Nat.le_of_ble_eq_true rfl⟩ ⟨Nat.le_of_ble_eq_true rfl, Nat.le_of_ble_eq_true rfl⟩ 0 5 rfl rfl rfl rfl (Nat.le_of_ble_eq_true rfl) dX5_isInNet_2 (fun r1 s2 h3 => ?_)
  obtain ⟨es2, hw⟩ := h3
  subst es2
  refine z_topi (fun x4 ex4 => ?_)
  have hw := hw x4 ex4
  refine z_istore_n (lv' := [(2, .int x4), (0, .ref (b 0)), (1, .int p0)]) C 2 dX5_isInNet_5 rfl (by decide) rfl ?_
  refine z_aload_n C 1 dX5_isInNet_6 rfl ?_
  refine z_iload_n C 0 dX5_isInNet_7 rfl ?_
  obtain ⟨k5, hk6, hw⟩ := hw
  have hj7 : ∀ (v8 : Int32), k5 v8 → zV X D 3 0 0 (WM b g s) 29 [] [.int v8, .ref (b 0)] := by
    intro v8 hw0
    have hw := hk6 v8 hw0
    refine z_call0iV C hR hL (As := [.int v8]) (c_X5_goes l D b g s v8 _ hw) gX5_isInNet_X5_goes rfl ⟨by decide +kernel, by decide +kernel, (show (parseMethodDescriptor yX5_goes.desc).map (fun d => d.parameters.length) = some 1 from by decide +kernel)⟩ ⟨rfl, rfl⟩ ⟨Nat.le_of_ble_eq_true rfl, Nat.le_of_ble_eq_true rfl⟩ ⟨Nat.le_of_ble_eq_true rfl, Nat.le_of_ble_eq_true rfl⟩ 0 5 rfl rfl rfl rfl (Nat.le_of_ble_eq_true rfl) dX5_isInNet_29 (fun r9 s10 h11 => ?_)
    have hw := h11
    obtain ⟨b12, hw⟩ := hw
    exact hE _ _ _ _ _ _ dX5_isInNet_32 b12 (Nat.le_refl _) (Nat.le_refl _) hw
  refine z_if_ne C 15 dX5_isInNet_8 (by decide) (fun hc => ?_) (fun hc => ?_)
  · have hw := hw.1 hc
    refine z_aload_n C 1 dX5_isInNet_15 rfl ?_
    refine zg5_isWithdrawn C i5 (List.mem_of_getElem? (i := 1) rfl) dX5_isInNet_16 ?_
    refine z_iload_n C 2 dX5_isInNet_19 rfl ?_
    obtain ⟨b13, hw⟩ := hw
    refine zl5_isWithdrawn C b13 dX5_isInNet_20 ?_
    refine z_if_eq C 28 dX5_isInNet_21 (by decide) (fun hc => ?_) (fun hc => ?_)
    · have hw := hw.1 hc
      refine z_iconst C 0 dX5_isInNet_28 (by decide) ?_
      refine z_sub (lv' := []) [] rfl ?_
      exact hj7 _ hw
    · have hw := hw.2 hc
      refine z_iconst C 2 dX5_isInNet_24 (by decide) ?_
      refine z_goto C 29 dX5_isInNet_25 (by decide) ?_
      refine z_sub (lv' := []) [] rfl ?_
      exact hj7 _ hw
  · have hw := hw.2 hc
    refine z_iconst C 1 dX5_isInNet_11 (by decide) ?_
    refine z_goto C 29 dX5_isInNet_12 (by decide) ?_
    refine z_sub (lv' := []) [] rfl ?_
    exact hj7 _ hw
def W_X5_residual (s : zS) (p0 : Int32) (Q : Int64 → zS → Prop) : Prop :=
    W_X5_isInNet s p0 (fun r1 s2 =>
    (¬ r1 = 0 →
    W_X5_apart s2 p0 (fun r4 s5 =>
    ∀ x7 : Int64, x7 = r4 →
    W_X5_floor s5 (100 * x7) (gJ s5 0) (fun r8 =>
    Q r8 s5))) ∧ (r1 = 0 →
    Q 0 s2))
set_option maxHeartbeats 4000000 in
set_option maxRecDepth 100000 in
theorem c_X5_residual (l : Launch) (D : va_G) (b : Nat → Nat) (g : Nat → ClassId) (s : zS) (p0 : Int32) (Q : Int64 → zS → Prop) (hw : W_X5_residual s p0 Q) : zMl l D (zT g) yX5_residual wsX5_residual ({ frames := 4, cells := 0, slots := 0, locals := 87 } : Room) [.ref (b 0), .int p0] (WM b g) s (fun r u => Q r u) := by
  have i5 : ∀ w ∈ u_ws RX5 TX5 18, w ∈ wsX5_residual := fun _ h => (List.mem_cons_of_mem _ (List.mem_append_right _ h))
  refine zMl_start (cc := cX5_residual) (maxL := 4) (lv0 := [(0, .ref (b 0)), (1, .int p0)]) (own := RX5) rfl (plainFor_of_name (by decide)) rfl (Nat.le_of_ble_eq_true rfl) rfl (fun X C hR hL hE => ?_)
  refine z_aload_n C 0 dX5_residual_0 rfl ?_
  refine z_iload_n C 1 dX5_residual_1 rfl ?_
  refine z_call0iV C hR hL (As := [.int p0]) (c_X5_isInNet l D b g s p0 _ hw) gX5_residual_X5_isInNet rfl ⟨by decide +kernel, by decide +kernel, (show (parseMethodDescriptor yX5_isInNet.desc).map (fun d => d.parameters.length) = some 1 from by decide +kernel)⟩ ⟨rfl, rfl⟩ ⟨Nat.le_of_ble_eq_true rfl, Nat.le_of_ble_eq_true rfl⟩ ⟨Nat.le_of_ble_eq_true rfl, Nat.le_of_ble_eq_true rfl⟩ 0 5 rfl rfl rfl rfl (Nat.le_of_ble_eq_true rfl) dX5_residual_2 (fun r1 s2 h3 => ?_)
  have hw := h3
  refine z_if_ne C 10 dX5_residual_5 (by decide) (fun hc => ?_) (fun hc => ?_)
  · have hw := hw.1 hc
    refine z_aload_n C 0 dX5_residual_10 rfl ?_
    refine z_iload_n C 1 dX5_residual_11 rfl ?_
    refine z_call0lV C hR hL (As := [.int p0]) (c_X5_apart l D b g s2 p0 _ hw) gX5_residual_X5_apart rfl ⟨by decide +kernel, by decide +kernel, (show (parseMethodDescriptor yX5_apart.desc).map (fun d => d.parameters.length) = some 1 from by decide +kernel)⟩ ⟨rfl, rfl⟩ ⟨Nat.le_of_ble_eq_true rfl, Nat.le_of_ble_eq_true rfl⟩ ⟨Nat.le_of_ble_eq_true rfl, Nat.le_of_ble_eq_true rfl⟩ 0 5 rfl rfl rfl rfl (Nat.le_of_ble_eq_true rfl) dX5_residual_12 (fun r4 s5 h6 => ?_)
    have hw := h6
    refine z_topl (fun x7 ex7 => ?_)
    have hw := hw x7 ex7
    refine z_lstore_n (lv' := [(2, .long x7), (0, .ref (b 0)), (1, .int p0)]) C 2 dX5_residual_15 rfl (by decide) rfl ?_
    refine z_ldc2 C 100 (List.mem_of_getElem? (i := 1) rfl) dX5_residual_16 ?_
    refine z_lload_n C 0 dX5_residual_19 rfl ?_
    refine z_lmul C dX5_residual_20 ?_
    refine z_aload_n C 1 dX5_residual_21 rfl ?_
    refine zg5_trees C i5 (List.mem_of_getElem? (i := 2) rfl) dX5_residual_22 ?_
    refine z_call0lS C hR hL (As := [.long (100 * x7), .long (gJ s5 0)]) (c_X5_floor l D b g s5 (100 * x7) (gJ s5 0) _ hw) gX5_residual_X5_floor rfl ⟨by decide +kernel, by decide +kernel, (show (parseMethodDescriptor yX5_floor.desc).map (fun d => d.parameters.length) = some 2 from by decide +kernel)⟩ ⟨rfl, rfl⟩ ⟨Nat.le_of_ble_eq_true rfl, Nat.le_of_ble_eq_true rfl⟩ ⟨Nat.le_of_ble_eq_true rfl, Nat.le_of_ble_eq_true rfl⟩ rfl (Nat.le_of_ble_eq_true rfl) dX5_residual_25 (fun r8 s9 h10 => ?_)
    obtain ⟨es9, hw⟩ := h10
    subst es9
    exact hE _ _ _ _ _ _ dX5_residual_28 (Nat.le_refl _) (Nat.le_refl _) hw
  · have hw := hw.2 hc
    refine z_lconst C 0 dX5_residual_8 (by decide) ?_
    exact hE _ _ _ _ _ _ dX5_residual_9 (Nat.le_refl _) (Nat.le_refl _) hw
def W_X5_checkOf (s : zS) (p0 : Int32) (Q : Int32 → zS → Prop) : Prop :=
    vp_in p0 14 ∧
    W_X5_reaches s (gF s 2 (ix p0)) (fun s3 =>
    W_X5_lays s3 (fun s6 =>
    vp_in p0 14 ∧
    W_X5_adds s6 (gF s6 3 (ix p0)) 6 1 (fun s10 =>
    vp_in p0 14 ∧
    W_X5_adds s10 (gF s10 2 (ix p0)) 6 (-1) (fun s14 =>
    W_X5_solves s14 (fun s17 =>
    vp_in p0 14 ∧
    vp_in p0 14 ∧
    vp_in (gF s17 3 (ix p0)) 6 ∧
    vp_in p0 14 ∧
    vp_in (gF s17 2 (ix p0)) 6 ∧
    ∀ x24 : Int64, x24 = (((gF s17 5 (ix p0))).toInt64 * ((gL s17 1 (ix (gF s17 3 (ix p0)))) - (gL s17 1 (ix (gF s17 2 (ix p0)))))) →
    W_X5_floor s17 (1000 * ((gJ s17 0) - x24)) (gJ s17 0) (fun r25 =>
    Q ((r25).toInt32) s17))))))
set_option maxHeartbeats 4000000 in
set_option maxRecDepth 100000 in
theorem c_X5_checkOf (l : Launch) (D : va_G) (b : Nat → Nat) (g : Nat → ClassId) (s : zS) (p0 : Int32) (Q : Int32 → zS → Prop) (hw : W_X5_checkOf s p0 Q) : zMi l D (zT g) yX5_checkOf wsX5_checkOf ({ frames := 2, cells := 0, slots := 0, locals := 45 } : Room) [.ref (b 0), .int p0] (WM b g) s (fun r u => Q r u) := by
  have i5 : ∀ w ∈ u_ws RX5 TX5 18, w ∈ wsX5_checkOf := fun _ h => (List.mem_cons_of_mem _ (List.mem_append_right _ h))
  refine zMi_start (cc := cX5_checkOf) (maxL := 4) (lv0 := [(0, .ref (b 0)), (1, .int p0)]) (own := RX5) rfl (plainFor_of_name (by decide)) rfl (Nat.le_of_ble_eq_true rfl) rfl (fun X C hR hL hE => ?_)
  refine z_aload_n C 0 dX5_checkOf_0 rfl ?_
  refine z_aload_n C 0 dX5_checkOf_1 rfl ?_
  refine zg5_froms C i5 (List.mem_of_getElem? (i := 1) rfl) dX5_checkOf_2 ?_
  refine z_iload_n C 1 dX5_checkOf_5 rfl ?_
  obtain ⟨b1, hw⟩ := hw
  refine zl5_froms C b1 dX5_checkOf_6 ?_
  refine z_call0vV C hR hL (As := [.int (gF s 2 (ix p0))]) (c_X5_reaches l D b g s (gF s 2 (ix p0)) _ hw) gX5_checkOf_X5_reaches rfl ⟨by decide +kernel, by decide +kernel, (show (parseMethodDescriptor yX5_reaches.desc).map (fun d => d.parameters.length) = some 1 from by decide +kernel)⟩ ⟨rfl, rfl⟩ ⟨Nat.le_of_ble_eq_true rfl, Nat.le_of_ble_eq_true rfl⟩ ⟨Nat.le_of_ble_eq_true rfl, Nat.le_of_ble_eq_true rfl⟩ 0 5 rfl rfl rfl rfl (Nat.le_of_ble_eq_true rfl) dX5_checkOf_7 (fun s3 h4 => ?_)
  have hw := h4
  refine z_aload_n C 0 dX5_checkOf_10 rfl ?_
  refine z_call0vV C hR hL (As := []) (c_X5_lays l D b g s3 _ hw) gX5_checkOf_X5_lays rfl ⟨by decide +kernel, by decide +kernel, (show (parseMethodDescriptor yX5_lays.desc).map (fun d => d.parameters.length) = some 0 from by decide +kernel)⟩ ⟨rfl, rfl⟩ ⟨Nat.le_of_ble_eq_true rfl, Nat.le_of_ble_eq_true rfl⟩ ⟨Nat.le_of_ble_eq_true rfl, Nat.le_of_ble_eq_true rfl⟩ 0 5 rfl rfl rfl rfl (Nat.le_of_ble_eq_true rfl) dX5_checkOf_11 (fun s6 h7 => ?_)
  have hw := h7
  refine z_aload_n C 0 dX5_checkOf_14 rfl ?_
  refine z_aload_n C 0 dX5_checkOf_15 rfl ?_
  refine zg5_tos C i5 (List.mem_of_getElem? (i := 2) rfl) dX5_checkOf_16 ?_
  refine z_iload_n C 1 dX5_checkOf_19 rfl ?_
  obtain ⟨b8, hw⟩ := hw
  refine zl5_tos C b8 dX5_checkOf_20 ?_
  refine z_bipush C 6 dX5_checkOf_21 (by decide) ?_
  refine z_lconst C 1 dX5_checkOf_23 (by decide) ?_
  refine z_call0vV C hR hL (As := [.int (gF s6 3 (ix p0)), .int 6, .long 1]) (c_X5_adds l D b g s6 (gF s6 3 (ix p0)) 6 1 _ hw) gX5_checkOf_X5_adds rfl ⟨by decide +kernel, by decide +kernel, (show (parseMethodDescriptor yX5_adds.desc).map (fun d => d.parameters.length) = some 3 from by decide +kernel)⟩ ⟨rfl, rfl⟩ ⟨Nat.le_of_ble_eq_true rfl, Nat.le_of_ble_eq_true rfl⟩ ⟨Nat.le_of_ble_eq_true rfl, Nat.le_of_ble_eq_true rfl⟩ 0 5 rfl rfl rfl rfl (Nat.le_of_ble_eq_true rfl) dX5_checkOf_24 (fun s10 h11 => ?_)
  have hw := h11
  refine z_aload_n C 0 dX5_checkOf_27 rfl ?_
  refine z_aload_n C 0 dX5_checkOf_28 rfl ?_
  refine zg5_froms C i5 (List.mem_of_getElem? (i := 1) rfl) dX5_checkOf_29 ?_
  refine z_iload_n C 1 dX5_checkOf_32 rfl ?_
  obtain ⟨b12, hw⟩ := hw
  refine zl5_froms C b12 dX5_checkOf_33 ?_
  refine z_bipush C 6 dX5_checkOf_34 (by decide) ?_
  refine z_ldc2 C (-1) (List.mem_of_getElem? (i := 3) rfl) dX5_checkOf_36 ?_
  refine z_call0vV C hR hL (As := [.int (gF s10 2 (ix p0)), .int 6, .long (-1)]) (c_X5_adds l D b g s10 (gF s10 2 (ix p0)) 6 (-1) _ hw) gX5_checkOf_X5_adds rfl ⟨by decide +kernel, by decide +kernel, (show (parseMethodDescriptor yX5_adds.desc).map (fun d => d.parameters.length) = some 3 from by decide +kernel)⟩ ⟨rfl, rfl⟩ ⟨Nat.le_of_ble_eq_true rfl, Nat.le_of_ble_eq_true rfl⟩ ⟨Nat.le_of_ble_eq_true rfl, Nat.le_of_ble_eq_true rfl⟩ 0 5 rfl rfl rfl rfl (Nat.le_of_ble_eq_true rfl) dX5_checkOf_39 (fun s14 h15 => ?_)
  have hw := h15
  refine z_aload_n C 0 dX5_checkOf_42 rfl ?_
  refine z_call0vV C hR hL (As := []) (c_X5_solves l D b g s14 _ hw) gX5_checkOf_X5_solves rfl ⟨by decide +kernel, by decide +kernel, (show (parseMethodDescriptor yX5_solves.desc).map (fun d => d.parameters.length) = some 0 from by decide +kernel)⟩ ⟨rfl, rfl⟩ ⟨Nat.le_of_ble_eq_true rfl, Nat.le_of_ble_eq_true rfl⟩ ⟨Nat.le_of_ble_eq_true rfl, Nat.le_of_ble_eq_true rfl⟩ 0 5 rfl rfl rfl rfl (Nat.le_of_ble_eq_true rfl) dX5_checkOf_43 (fun s17 h18 => ?_)
  have hw := h18
  refine z_aload_n C 0 dX5_checkOf_46 rfl ?_
  refine zg5_weights C i5 (List.mem_of_getElem? (i := 4) rfl) dX5_checkOf_47 ?_
  refine z_iload_n C 1 dX5_checkOf_50 rfl ?_
  obtain ⟨b19, hw⟩ := hw
  refine zl5_weights C b19 dX5_checkOf_51 ?_
  refine z_i2l C dX5_checkOf_52 ?_
  refine z_aload_n C 0 dX5_checkOf_53 rfl ?_
  refine zg5_found C i5 (List.mem_of_getElem? (i := 5) rfl) dX5_checkOf_54 ?_
  refine z_aload_n C 0 dX5_checkOf_57 rfl ?_
  refine zg5_tos C i5 (List.mem_of_getElem? (i := 2) rfl) dX5_checkOf_58 ?_
  refine z_iload_n C 1 dX5_checkOf_61 rfl ?_
  obtain ⟨b20, hw⟩ := hw
  refine zl5_tos C b20 dX5_checkOf_62 ?_
  obtain ⟨b21, hw⟩ := hw
  refine zl5_found C b21 dX5_checkOf_63 ?_
  refine z_aload_n C 0 dX5_checkOf_64 rfl ?_
  refine zg5_found C i5 (List.mem_of_getElem? (i := 5) rfl) dX5_checkOf_65 ?_
  refine z_aload_n C 0 dX5_checkOf_68 rfl ?_
  refine zg5_froms C i5 (List.mem_of_getElem? (i := 1) rfl) dX5_checkOf_69 ?_
  refine z_iload_n C 1 dX5_checkOf_72 rfl ?_
  obtain ⟨b22, hw⟩ := hw
  refine zl5_froms C b22 dX5_checkOf_73 ?_
  obtain ⟨b23, hw⟩ := hw
  refine zl5_found C b23 dX5_checkOf_74 ?_
  refine z_lsub C dX5_checkOf_75 ?_
  refine z_lmul C dX5_checkOf_76 ?_
  refine z_topl (fun x24 ex24 => ?_)
  have hw := hw x24 ex24
  refine z_lstore_n (lv' := [(2, .long x24), (0, .ref (b 0)), (1, .int p0)]) C 2 dX5_checkOf_77 rfl (by decide) rfl ?_
  refine z_ldc2 C 1000 (List.mem_of_getElem? (i := 6) rfl) dX5_checkOf_78 ?_
  refine z_aload_n C 1 dX5_checkOf_81 rfl ?_
  refine zg5_trees C i5 (List.mem_of_getElem? (i := 7) rfl) dX5_checkOf_82 ?_
  refine z_lload_n C 0 dX5_checkOf_85 rfl ?_
  refine z_lsub C dX5_checkOf_86 ?_
  refine z_lmul C dX5_checkOf_87 ?_
  refine z_aload_n C 1 dX5_checkOf_88 rfl ?_
  refine zg5_trees C i5 (List.mem_of_getElem? (i := 7) rfl) dX5_checkOf_89 ?_
  refine z_call0lS C hR hL (As := [.long (1000 * ((gJ s17 0) - x24)), .long (gJ s17 0)]) (c_X5_floor l D b g s17 (1000 * ((gJ s17 0) - x24)) (gJ s17 0) _ hw) gX5_checkOf_X5_floor rfl ⟨by decide +kernel, by decide +kernel, (show (parseMethodDescriptor yX5_floor.desc).map (fun d => d.parameters.length) = some 2 from by decide +kernel)⟩ ⟨rfl, rfl⟩ ⟨Nat.le_of_ble_eq_true rfl, Nat.le_of_ble_eq_true rfl⟩ ⟨Nat.le_of_ble_eq_true rfl, Nat.le_of_ble_eq_true rfl⟩ rfl (Nat.le_of_ble_eq_true rfl) dX5_checkOf_92 (fun r25 s26 h27 => ?_)
  obtain ⟨es26, hw⟩ := h27
  subst es26
  refine z_l2i C dX5_checkOf_95 ?_
  exact hE _ _ _ _ _ _ dX5_checkOf_96 rfl (Nat.le_refl _) (Nat.le_refl _) hw
def W_X5_check (s : zS) (p0 : Int32) (Q : Int32 → zS → Prop) : Prop :=
    W_X5_isInNet s p0 (fun r1 s2 =>
    (r1 = 0 →
    Q 0 s2) ∧ (¬ r1 = 0 →
    W_X5_checkOf s2 p0 (fun r4 s5 =>
    Q r4 s5)))
set_option maxHeartbeats 4000000 in
set_option maxRecDepth 100000 in
theorem c_X5_check (l : Launch) (D : va_G) (b : Nat → Nat) (g : Nat → ClassId) (s : zS) (p0 : Int32) (Q : Int32 → zS → Prop) (hw : W_X5_check s p0 Q) : zMi l D (zT g) yX5_check wsX5_check ({ frames := 3, cells := 0, slots := 0, locals := 68 } : Room) [.ref (b 0), .int p0] (WM b g) s (fun r u => Q r u) := by
  refine zMi_start (cc := cX5_check) (maxL := 2) (lv0 := [(0, .ref (b 0)), (1, .int p0)]) (own := RX5) rfl (plainFor_of_name (by decide)) rfl (Nat.le_of_ble_eq_true rfl) rfl (fun X C hR hL hE => ?_)
  refine z_aload_n C 0 dX5_check_0 rfl ?_
  refine z_iload_n C 1 dX5_check_1 rfl ?_
  refine z_call0iV C hR hL (As := [.int p0]) (c_X5_isInNet l D b g s p0 _ hw) gX5_check_X5_isInNet rfl ⟨by decide +kernel, by decide +kernel, (show (parseMethodDescriptor yX5_isInNet.desc).map (fun d => d.parameters.length) = some 1 from by decide +kernel)⟩ ⟨rfl, rfl⟩ ⟨Nat.le_of_ble_eq_true rfl, Nat.le_of_ble_eq_true rfl⟩ ⟨Nat.le_of_ble_eq_true rfl, Nat.le_of_ble_eq_true rfl⟩ 0 5 rfl rfl rfl rfl (Nat.le_of_ble_eq_true rfl) dX5_check_2 (fun r1 s2 h3 => ?_)
  have hw := h3
  refine z_if_eq C 16 dX5_check_5 (by decide) (fun hc => ?_) (fun hc => ?_)
  · have hw := hw.1 hc
    refine z_iconst C 0 dX5_check_16 (by decide) ?_
    exact hE _ _ _ _ _ _ dX5_check_17 rfl (Nat.le_refl _) (Nat.le_refl _) hw
  · have hw := hw.2 hc
    refine z_aload_n C 0 dX5_check_8 rfl ?_
    refine z_iload_n C 1 dX5_check_9 rfl ?_
    refine z_call0iV C hR hL (As := [.int p0]) (c_X5_checkOf l D b g s2 p0 _ hw) gX5_check_X5_checkOf rfl ⟨by decide +kernel, by decide +kernel, (show (parseMethodDescriptor yX5_checkOf.desc).map (fun d => d.parameters.length) = some 1 from by decide +kernel)⟩ ⟨rfl, rfl⟩ ⟨Nat.le_of_ble_eq_true rfl, Nat.le_of_ble_eq_true rfl⟩ ⟨Nat.le_of_ble_eq_true rfl, Nat.le_of_ble_eq_true rfl⟩ 0 5 rfl rfl rfl rfl (Nat.le_of_ble_eq_true rfl) dX5_check_10 (fun r4 s5 h6 => ?_)
    have hw := h6
    refine z_goto C 17 dX5_check_13 (by decide) ?_
    exact hE _ _ _ _ _ _ dX5_check_17 rfl (Nat.le_refl _) (Nat.le_refl _) hw
def W_X5_checkAnew (s : zS) (p0 : Int32) (Q : Int32 → zS → Prop) : Prop :=
    W_X5_isInNet s p0 (fun r1 s2 =>
    (r1 = 0 →
    Q 0 s2) ∧ (¬ r1 = 0 →
    W_X5_checkOf s2 p0 (fun r4 s5 =>
    Q r4 s5)))
set_option maxHeartbeats 4000000 in
set_option maxRecDepth 100000 in
theorem c_X5_checkAnew (l : Launch) (D : va_G) (b : Nat → Nat) (g : Nat → ClassId) (s : zS) (p0 : Int32) (Q : Int32 → zS → Prop) (hw : W_X5_checkAnew s p0 Q) : zMi l D (zT g) yX5_checkAnew wsX5_checkAnew ({ frames := 3, cells := 0, slots := 0, locals := 68 } : Room) [.ref (b 0), .int p0] (WM b g) s (fun r u => Q r u) := by
  refine zMi_start (cc := cX5_checkAnew) (maxL := 2) (lv0 := [(0, .ref (b 0)), (1, .int p0)]) (own := RX5) rfl (plainFor_of_name (by decide)) rfl (Nat.le_of_ble_eq_true rfl) rfl (fun X C hR hL hE => ?_)
  refine z_aload_n C 0 dX5_checkAnew_0 rfl ?_
  refine z_iload_n C 1 dX5_checkAnew_1 rfl ?_
  refine z_call0iV C hR hL (As := [.int p0]) (c_X5_isInNet l D b g s p0 _ hw) gX5_checkAnew_X5_isInNet rfl ⟨by decide +kernel, by decide +kernel, (show (parseMethodDescriptor yX5_isInNet.desc).map (fun d => d.parameters.length) = some 1 from by decide +kernel)⟩ ⟨rfl, rfl⟩ ⟨Nat.le_of_ble_eq_true rfl, Nat.le_of_ble_eq_true rfl⟩ ⟨Nat.le_of_ble_eq_true rfl, Nat.le_of_ble_eq_true rfl⟩ 0 5 rfl rfl rfl rfl (Nat.le_of_ble_eq_true rfl) dX5_checkAnew_2 (fun r1 s2 h3 => ?_)
  have hw := h3
  refine z_if_eq C 16 dX5_checkAnew_5 (by decide) (fun hc => ?_) (fun hc => ?_)
  · have hw := hw.1 hc
    refine z_iconst C 0 dX5_checkAnew_16 (by decide) ?_
    exact hE _ _ _ _ _ _ dX5_checkAnew_17 rfl (Nat.le_refl _) (Nat.le_refl _) hw
  · have hw := hw.2 hc
    refine z_aload_n C 0 dX5_checkAnew_8 rfl ?_
    refine z_iload_n C 1 dX5_checkAnew_9 rfl ?_
    refine z_call0iV C hR hL (As := [.int p0]) (c_X5_checkOf l D b g s2 p0 _ hw) gX5_checkAnew_X5_checkOf rfl ⟨by decide +kernel, by decide +kernel, (show (parseMethodDescriptor yX5_checkOf.desc).map (fun d => d.parameters.length) = some 1 from by decide +kernel)⟩ ⟨rfl, rfl⟩ ⟨Nat.le_of_ble_eq_true rfl, Nat.le_of_ble_eq_true rfl⟩ ⟨Nat.le_of_ble_eq_true rfl, Nat.le_of_ble_eq_true rfl⟩ 0 5 rfl rfl rfl rfl (Nat.le_of_ble_eq_true rfl) dX5_checkAnew_10 (fun r4 s5 h6 => ?_)
    have hw := h6
    refine z_goto C 17 dX5_checkAnew_13 (by decide) ?_
    exact hE _ _ _ _ _ _ dX5_checkAnew_17 rfl (Nat.le_refl _) (Nat.le_refl _) hw
def W_X5_scoreOf (s : zS) (p0 : Int32) (Q : Int64 → zS → Prop) : Prop :=
    W_X5_checkOf s p0 (fun r1 s2 =>
    ∀ x4 : Int32, x4 = r1 →
    (¬ x4 = 0 →
    W_X5_apart s2 p0 (fun r5 s6 =>
    W_X5_size s6 r5 (fun r8 =>
    ∀ x11 : Int64, x11 = r8 →
    ¬ (gJ s6 0) = 0 ∧
    ∀ x13 : Int64, x13 = ((100 * x11) / (gJ s6 0)) →
    vp_in p0 14 ∧
    ¬ ((x4).toInt64) = 0 ∧
    Q (((x13 * x13) * ((gF s6 5 (ix p0))).toInt64) / (x4).toInt64) s6))) ∧ (x4 = 0 →
    Q 0 s2))
set_option maxHeartbeats 4000000 in
set_option maxRecDepth 100000 in
theorem c_X5_scoreOf (l : Launch) (D : va_G) (b : Nat → Nat) (g : Nat → ClassId) (s : zS) (p0 : Int32) (Q : Int64 → zS → Prop) (hw : W_X5_scoreOf s p0 Q) : zMl l D (zT g) yX5_scoreOf wsX5_scoreOf ({ frames := 4, cells := 0, slots := 0, locals := 87 } : Room) [.ref (b 0), .int p0] (WM b g) s (fun r u => Q r u) := by
  have i5 : ∀ w ∈ u_ws RX5 TX5 18, w ∈ wsX5_scoreOf := fun _ h => (List.mem_cons_of_mem _ (List.mem_append_right _ h))
  refine zMl_start (cc := cX5_scoreOf) (maxL := 7) (lv0 := [(0, .ref (b 0)), (1, .int p0)]) (own := RX5) rfl (plainFor_of_name (by decide)) rfl (Nat.le_of_ble_eq_true rfl) rfl (fun X C hR hL hE => ?_)
  refine z_aload_n C 0 dX5_scoreOf_0 rfl ?_
  refine z_iload_n C 1 dX5_scoreOf_1 rfl ?_
  refine z_call0iV C hR hL (As := [.int p0]) (c_X5_checkOf l D b g s p0 _ hw) gX5_scoreOf_X5_checkOf rfl ⟨by decide +kernel, by decide +kernel, (show (parseMethodDescriptor yX5_checkOf.desc).map (fun d => d.parameters.length) = some 1 from by decide +kernel)⟩ ⟨rfl, rfl⟩ ⟨Nat.le_of_ble_eq_true rfl, Nat.le_of_ble_eq_true rfl⟩ ⟨Nat.le_of_ble_eq_true rfl, Nat.le_of_ble_eq_true rfl⟩ 0 5 rfl rfl rfl rfl (Nat.le_of_ble_eq_true rfl) dX5_scoreOf_2 (fun r1 s2 h3 => ?_)
  have hw := h3
  refine z_topi (fun x4 ex4 => ?_)
  have hw := hw x4 ex4
  refine z_istore_n (lv' := [(2, .int x4), (0, .ref (b 0)), (1, .int p0)]) C 2 dX5_scoreOf_5 rfl (by decide) rfl ?_
  refine z_iload_n C 0 dX5_scoreOf_6 rfl ?_
  refine z_if_ne C 12 dX5_scoreOf_7 (by decide) (fun hc => ?_) (fun hc => ?_)
  · have hw := hw.1 hc
    refine z_aload_n C 1 dX5_scoreOf_12 rfl ?_
    refine z_iload_n C 2 dX5_scoreOf_13 rfl ?_
    refine z_call0lV C hR hL (As := [.int p0]) (c_X5_apart l D b g s2 p0 _ hw) gX5_scoreOf_X5_apart rfl ⟨by decide +kernel, by decide +kernel, (show (parseMethodDescriptor yX5_apart.desc).map (fun d => d.parameters.length) = some 1 from by decide +kernel)⟩ ⟨rfl, rfl⟩ ⟨Nat.le_of_ble_eq_true rfl, Nat.le_of_ble_eq_true rfl⟩ ⟨Nat.le_of_ble_eq_true rfl, Nat.le_of_ble_eq_true rfl⟩ 0 5 rfl rfl rfl rfl (Nat.le_of_ble_eq_true rfl) dX5_scoreOf_14 (fun r5 s6 h7 => ?_)
    have hw := h7
    refine z_call0lS C hR hL (As := [.long r5]) (c_X5_size l D b g s6 r5 _ hw) gX5_scoreOf_X5_size rfl ⟨by decide +kernel, by decide +kernel, (show (parseMethodDescriptor yX5_size.desc).map (fun d => d.parameters.length) = some 1 from by decide +kernel)⟩ ⟨rfl, rfl⟩ ⟨Nat.le_of_ble_eq_true rfl, Nat.le_of_ble_eq_true rfl⟩ ⟨Nat.le_of_ble_eq_true rfl, Nat.le_of_ble_eq_true rfl⟩ rfl (Nat.le_of_ble_eq_true rfl) dX5_scoreOf_17 (fun r8 s9 h10 => ?_)
    obtain ⟨es9, hw⟩ := h10
    subst es9
    refine z_topl (fun x11 ex11 => ?_)
    have hw := hw x11 ex11
    refine z_lstore_n (lv' := [(3, .long x11), (2, .int x4), (0, .ref (b 0)), (1, .int p0)]) C 3 dX5_scoreOf_20 rfl (by decide) rfl ?_
    refine z_ldc2 C 100 (List.mem_of_getElem? (i := 1) rfl) dX5_scoreOf_21 ?_
    refine z_lload_n C 0 dX5_scoreOf_24 rfl ?_
    refine z_lmul C dX5_scoreOf_25 ?_
    refine z_aload_n C 2 dX5_scoreOf_26 rfl ?_
    refine zg5_trees C i5 (List.mem_of_getElem? (i := 2) rfl) dX5_scoreOf_27 ?_
    obtain ⟨b12, hw⟩ := hw
    refine z_ldiv C dX5_scoreOf_30 b12 ?_
    refine z_topl (fun x13 ex13 => ?_)
    have hw := hw x13 ex13
    refine z_lstore (lv' := [(5, .long x13), (3, .long x11), (2, .int x4), (0, .ref (b 0)), (1, .int p0)]) C dX5_scoreOf_31 (by decide) rfl ?_
    refine z_lload C 0 dX5_scoreOf_33 rfl ?_
    refine z_lload C 0 dX5_scoreOf_35 rfl ?_
    refine z_lmul C dX5_scoreOf_37 ?_
    refine z_aload_n C 3 dX5_scoreOf_38 rfl ?_
    refine zg5_weights C i5 (List.mem_of_getElem? (i := 3) rfl) dX5_scoreOf_39 ?_
    refine z_iload_n C 4 dX5_scoreOf_42 rfl ?_
    obtain ⟨b14, hw⟩ := hw
    refine zl5_weights C b14 dX5_scoreOf_43 ?_
    refine z_i2l C dX5_scoreOf_44 ?_
    refine z_lmul C dX5_scoreOf_45 ?_
    refine z_iload_n C 2 dX5_scoreOf_46 rfl ?_
    refine z_i2l C dX5_scoreOf_47 ?_
    obtain ⟨b15, hw⟩ := hw
    refine z_ldiv C dX5_scoreOf_48 b15 ?_
    exact hE _ _ _ _ _ _ dX5_scoreOf_49 (Nat.le_refl _) (Nat.le_refl _) hw
  · have hw := hw.2 hc
    refine z_lconst C 0 dX5_scoreOf_10 (by decide) ?_
    exact hE _ _ _ _ _ _ dX5_scoreOf_11 (Nat.le_refl _) (Nat.le_refl _) hw
def W_X5_score (s : zS) (p0 : Int32) (Q : Int64 → zS → Prop) : Prop :=
    W_X5_isInNet s p0 (fun r1 s2 =>
    (r1 = 0 →
    Q 0 s2) ∧ (¬ r1 = 0 →
    W_X5_scoreOf s2 p0 (fun r4 s5 =>
    Q r4 s5)))
set_option maxHeartbeats 4000000 in
set_option maxRecDepth 100000 in
theorem c_X5_score (l : Launch) (D : va_G) (b : Nat → Nat) (g : Nat → ClassId) (s : zS) (p0 : Int32) (Q : Int64 → zS → Prop) (hw : W_X5_score s p0 Q) : zMl l D (zT g) yX5_score wsX5_score ({ frames := 5, cells := 0, slots := 0, locals := 113 } : Room) [.ref (b 0), .int p0] (WM b g) s (fun r u => Q r u) := by
  refine zMl_start (cc := cX5_score) (maxL := 2) (lv0 := [(0, .ref (b 0)), (1, .int p0)]) (own := RX5) rfl (plainFor_of_name (by decide)) rfl (Nat.le_of_ble_eq_true rfl) rfl (fun X C hR hL hE => ?_)
  refine z_aload_n C 0 dX5_score_0 rfl ?_
  refine z_iload_n C 1 dX5_score_1 rfl ?_
  refine z_call0iV C hR hL (As := [.int p0]) (c_X5_isInNet l D b g s p0 _ hw) gX5_score_X5_isInNet rfl ⟨by decide +kernel, by decide +kernel, (show (parseMethodDescriptor yX5_isInNet.desc).map (fun d => d.parameters.length) = some 1 from by decide +kernel)⟩ ⟨rfl, rfl⟩ ⟨Nat.le_of_ble_eq_true rfl, Nat.le_of_ble_eq_true rfl⟩ ⟨Nat.le_of_ble_eq_true rfl, Nat.le_of_ble_eq_true rfl⟩ 0 5 rfl rfl rfl rfl (Nat.le_of_ble_eq_true rfl) dX5_score_2 (fun r1 s2 h3 => ?_)
  have hw := h3
  refine z_if_eq C 16 dX5_score_5 (by decide) (fun hc => ?_) (fun hc => ?_)
  · have hw := hw.1 hc
    refine z_lconst C 0 dX5_score_16 (by decide) ?_
    exact hE _ _ _ _ _ _ dX5_score_17 (Nat.le_refl _) (Nat.le_refl _) hw
  · have hw := hw.2 hc
    refine z_aload_n C 0 dX5_score_8 rfl ?_
    refine z_iload_n C 1 dX5_score_9 rfl ?_
    refine z_call0lV C hR hL (As := [.int p0]) (c_X5_scoreOf l D b g s2 p0 _ hw) gX5_score_X5_scoreOf rfl ⟨by decide +kernel, by decide +kernel, (show (parseMethodDescriptor yX5_scoreOf.desc).map (fun d => d.parameters.length) = some 1 from by decide +kernel)⟩ ⟨rfl, rfl⟩ ⟨Nat.le_of_ble_eq_true rfl, Nat.le_of_ble_eq_true rfl⟩ ⟨Nat.le_of_ble_eq_true rfl, Nat.le_of_ble_eq_true rfl⟩ 0 5 rfl rfl rfl rfl (Nat.le_of_ble_eq_true rfl) dX5_score_10 (fun r4 s5 h6 => ?_)
    have hw := h6
    refine z_goto C 17 dX5_score_13 (by decide) ?_
    exact hE _ _ _ _ _ _ dX5_score_17 (Nat.le_refl _) (Nat.le_refl _) hw
def W_X5_worstOf_L7 (Q : Int32 → zS → Prop) (K : Int32 → zS → Prop) : Nat → Int32 → Int64 → Int32 → zS → Prop
  | 0, _, _, _, _ => False
  | n + 1, v11, v12, v13, s14 =>
    ((gI s14 1) ≤ v13 →
    K v11 s14) ∧ (¬ (gI s14 1) ≤ v13 →
    vp_in v13 14 ∧
    ∃ k16 : Int64 → zS → Prop, (∀ (v19 : Int64) (s20 : zS), k16 v19 s20 →
    ∀ x21 : Int64, x21 = v19 →
    ∃ k22 : Int32 → Prop, (∀ (v25 : Int32), k22 v25 →
    ∀ x26 : Int32, x26 = v25 →
    (x21 ≤ v12 →
    ∀ x27 : Int64, x27 = v12 →
    ∀ x28 : Int32, x28 = v13 + 1 →
    W_X5_worstOf_L7 Q K n x26 x27 x28 s20) ∧ (¬ x21 ≤ v12 →
    ∀ x29 : Int64, x29 = x21 →
    ∀ x30 : Int32, x30 = v13 + 1 →
    W_X5_worstOf_L7 Q K n x26 x29 x30 s20)) ∧ ((x21 ≤ v12 →
    k22 v11) ∧ (¬ x21 ≤ v12 →
    k22 v13))) ∧ (((gF s14 6 (ix v13)) = 0 →
    W_X5_scoreOf s14 v13 (fun r31 s32 =>
    k16 r31 s32)) ∧ (¬ (gF s14 6 (ix v13)) = 0 →
    k16 0 s14)))
def W_X5_worstOf (s : zS) (Q : Int32 → zS → Prop) : Prop :=
    ∀ x1 : Int32, x1 = (-1) →
    ∀ x2 : Int64, x2 = 0 →
    ∀ x3 : Int32, x3 = 0 →
    ∃ (K4 : Int32 → zS → Prop) (n5 : Nat), (∀ (v9 : Int32) (s10 : zS), K4 v9 s10 →
    Q v9 s10) ∧ W_X5_worstOf_L7 Q K4 n5 x1 x2 x3 s
set_option maxHeartbeats 4000000 in
set_option maxRecDepth 100000 in
theorem c_X5_worstOf (l : Launch) (D : va_G) (b : Nat → Nat) (g : Nat → ClassId) (s : zS) (Q : Int32 → zS → Prop) (hw : W_X5_worstOf s Q) : zMi l D (zT g) yX5_worstOf wsX5_worstOf ({ frames := 5, cells := 0, slots := 0, locals := 113 } : Room) [.ref (b 0)] (WM b g) s (fun r u => Q r u) := by
  have i5 : ∀ w ∈ u_ws RX5 TX5 18, w ∈ wsX5_worstOf := fun _ h => (List.mem_cons_of_mem _ (List.mem_append_right _ h))
  refine zMi_start (cc := cX5_worstOf) (maxL := 7) (lv0 := [(0, .ref (b 0))]) (own := RX5) rfl (plainFor_of_name (by decide)) rfl (Nat.le_of_ble_eq_true rfl) rfl (fun X C hR hL hE => ?_)
  refine z_iconst C (-1) dX5_worstOf_0 (by decide) ?_
  refine z_topi (fun x1 ex1 => ?_)
  have hw := hw x1 ex1
  refine z_istore_n (lv' := [(1, .int x1), (0, .ref (b 0))]) C 1 dX5_worstOf_1 rfl (by decide) rfl ?_
  refine z_lconst C 0 dX5_worstOf_2 (by decide) ?_
  refine z_topl (fun x2 ex2 => ?_)
  have hw := hw x2 ex2
  refine z_lstore_n (lv' := [(2, .long x2), (1, .int x1), (0, .ref (b 0))]) C 2 dX5_worstOf_3 rfl (by decide) rfl ?_
  refine z_iconst C 0 dX5_worstOf_4 (by decide) ?_
  refine z_topi (fun x3 ex3 => ?_)
  have hw := hw x3 ex3
  refine z_istore (lv' := [(4, .int x3), (2, .long x2), (1, .int x1), (0, .ref (b 0))]) C dX5_worstOf_5 (by decide) rfl ?_
  refine z_sub (lv' := [(0, .ref (b 0)), (1, .int x1), (2, .long x2), (4, .int x3)]) [3, 2, 1, 0] rfl ?_
  obtain ⟨K4, n5, hK6, hw⟩ := hw
  have hx7 : ∀ (v9 : Int32) (s10 : zS), K4 v9 s10 → zV X D 7 0 0 (WM b g s10) 72 [(1, .int v9)] [] := by
    intro v9 s10 hw0
    have hw := hK6 v9 s10 hw0
    refine z_iload_n C 0 dX5_worstOf_72 rfl ?_
    exact hE _ _ _ _ _ _ dX5_worstOf_73 rfl (Nat.le_refl _) (Nat.le_refl _) hw
  have lp8 : ∀ (n : Nat) (v11 : Int32) (v12 : Int64) (v13 : Int32) (s14 : zS), W_X5_worstOf_L7 Q K4 n v11 v12 v13 s14 → zV X D 7 0 0 (WM b g s14) 7 [(0, .ref (b 0)), (1, .int v11), (2, .long v12), (4, .int v13)] [] := by
    intro n
    induction n with
    | zero => intro v11 v12 v13 s14 hw; exact False.elim hw
    | succ n ih =>
      intro v11 v12 v13 s14 hw
      refine z_iload C 3 dX5_worstOf_7 rfl ?_
      refine z_aload_n C 0 dX5_worstOf_9 rfl ?_
      refine zg5_observations C i5 (List.mem_of_getElem? (i := 1) rfl) dX5_worstOf_10 ?_
      refine z_icmp_ge C 72 dX5_worstOf_13 (by decide) (fun hc => ?_) (fun hc => ?_)
      · have hw := hw.1 hc
        refine z_sub (lv' := [(1, .int v11)]) [1] rfl ?_
        exact hx7 _ _ hw
      · have hw := hw.2 hc
        refine z_aload_n C 0 dX5_worstOf_16 rfl ?_
        refine zg5_isWithdrawn C i5 (List.mem_of_getElem? (i := 2) rfl) dX5_worstOf_17 ?_
        refine z_iload C 3 dX5_worstOf_20 rfl ?_
        obtain ⟨b15, hw⟩ := hw
        refine zl5_isWithdrawn C b15 dX5_worstOf_22 ?_
        obtain ⟨k16, hk17, hw⟩ := hw
        have hj18 : ∀ (v19 : Int64) (s20 : zS), k16 v19 s20 → zV X D 7 0 0 (WM b g s20) 36 [(0, .ref (b 0)), (1, .int v11), (2, .long v12), (4, .int v13)] [.long v19] := by
          intro v19 s20 hw0
          have hw := hk17 v19 s20 hw0
          refine z_topl (fun x21 ex21 => ?_)
          have hw := hw x21 ex21
          refine z_lstore (lv' := [(5, .long x21), (0, .ref (b 0)), (1, .int v11), (2, .long v12), (4, .int v13)]) C dX5_worstOf_36 (by decide) rfl ?_
          refine z_lload C 0 dX5_worstOf_38 rfl ?_
          refine z_lload_n C 3 dX5_worstOf_40 rfl ?_
          obtain ⟨k22, hk23, hw⟩ := hw
          have hj24 : ∀ (v25 : Int32), k22 v25 → zV X D 7 0 0 (WM b g s20) 51 [(0, .ref (b 0)), (2, .long v12), (4, .int v13), (5, .long x21)] [.int v25] := by
            intro v25 hw0
            have hw := hk23 v25 hw0
            refine z_topi (fun x26 ex26 => ?_)
            have hw := hw x26 ex26
            refine z_istore_n (lv' := [(1, .int x26), (0, .ref (b 0)), (2, .long v12), (4, .int v13), (5, .long x21)]) C 1 dX5_worstOf_51 rfl (by decide) rfl ?_
            refine z_lload C 4 dX5_worstOf_52 rfl ?_
            refine z_lload_n C 2 dX5_worstOf_54 rfl ?_
            refine z_lcmp_le C 64 dX5_worstOf_55 dX5_worstOf_56 (by decide) (fun hc => ?_) (fun hc => ?_)
            · have hw := hw.1 hc
              refine z_lload_n C 2 dX5_worstOf_64 rfl ?_
              refine z_topl (fun x27 ex27 => ?_)
              have hw := hw x27 ex27
              refine z_lstore_n (lv' := [(2, .long x27), (1, .int x26), (0, .ref (b 0)), (4, .int v13), (5, .long x21)]) C 2 dX5_worstOf_65 rfl (by decide) rfl ?_
              obtain ⟨x28, ex28⟩ : ∃ z : Int32, z = v13 + 1 := ⟨_, rfl⟩
              have hw := hw x28 ex28
              refine z_iinc (lv' := [(4, .int x28), (2, .long x27), (1, .int x26), (0, .ref (b 0)), (5, .long x21)]) C 3 dX5_worstOf_66 rfl (by rw [ex28]; rfl) (by decide) rfl ?_
              refine z_goto C 7 dX5_worstOf_69 (by decide) ?_
              refine z_sub (lv' := [(0, .ref (b 0)), (1, .int x26), (2, .long x27), (4, .int x28)]) [3, 2, 1, 0] rfl ?_
              exact ih _ _ _ _ hw
            · have hw := hw.2 hc
              refine z_lload C 4 dX5_worstOf_59 rfl ?_
              refine z_goto C 65 dX5_worstOf_61 (by decide) ?_
              refine z_topl (fun x29 ex29 => ?_)
              have hw := hw x29 ex29
              refine z_lstore_n (lv' := [(2, .long x29), (1, .int x26), (0, .ref (b 0)), (4, .int v13), (5, .long x21)]) C 2 dX5_worstOf_65 rfl (by decide) rfl ?_
              obtain ⟨x30, ex30⟩ : ∃ z : Int32, z = v13 + 1 := ⟨_, rfl⟩
              have hw := hw x30 ex30
              refine z_iinc (lv' := [(4, .int x30), (2, .long x29), (1, .int x26), (0, .ref (b 0)), (5, .long x21)]) C 3 dX5_worstOf_66 rfl (by rw [ex30]; rfl) (by decide) rfl ?_
              refine z_goto C 7 dX5_worstOf_69 (by decide) ?_
              refine z_sub (lv' := [(0, .ref (b 0)), (1, .int x26), (2, .long x29), (4, .int x30)]) [3, 2, 1, 0] rfl ?_
              exact ih _ _ _ _ hw
          refine z_lcmp_le C 50 dX5_worstOf_41 dX5_worstOf_42 (by decide) (fun hc => ?_) (fun hc => ?_)
          · have hw := hw.1 hc
            refine z_iload_n C 2 dX5_worstOf_50 rfl ?_
            refine z_sub (lv' := [(0, .ref (b 0)), (2, .long v12), (4, .int v13), (5, .long x21)]) [1, 3, 4, 0] rfl ?_
            exact hj24 _ hw
          · have hw := hw.2 hc
            refine z_iload C 4 dX5_worstOf_45 rfl ?_
            refine z_goto C 51 dX5_worstOf_47 (by decide) ?_
            refine z_sub (lv' := [(0, .ref (b 0)), (2, .long v12), (4, .int v13), (5, .long x21)]) [1, 3, 4, 0] rfl ?_
            exact hj24 _ hw
        refine z_if_eq C 30 dX5_worstOf_23 (by decide) (fun hc => ?_) (fun hc => ?_)
        · have hw := hw.1 hc
          refine z_aload_n C 0 dX5_worstOf_30 rfl ?_
          refine z_iload C 3 dX5_worstOf_31 rfl ?_
          refine z_call0lV C hR hL (As := [.int v13]) (c_X5_scoreOf l D b g s14 v13 _ hw) gX5_worstOf_X5_scoreOf rfl ⟨by decide +kernel, by decide +kernel, (show (parseMethodDescriptor yX5_scoreOf.desc).map (fun d => d.parameters.length) = some 1 from by decide +kernel)⟩ ⟨rfl, rfl⟩ ⟨Nat.le_of_ble_eq_true rfl, Nat.le_of_ble_eq_true rfl⟩ ⟨Nat.le_of_ble_eq_true rfl, Nat.le_of_ble_eq_true rfl⟩ 0 5 rfl rfl rfl rfl (Nat.le_of_ble_eq_true rfl) dX5_worstOf_33 (fun r31 s32 h33 => ?_)
          have hw := h33
          exact hj18 _ _ hw
        · have hw := hw.2 hc
          refine z_lconst C 0 dX5_worstOf_26 (by decide) ?_
          refine z_goto C 36 dX5_worstOf_27 (by decide) ?_
          exact hj18 _ _ hw
  exact lp8 n5 _ _ _ _ hw
def W_X5_worst (s : zS) (Q : Int32 → zS → Prop) : Prop :=
    ∀ s1 : zS, s1 = sI s 5 0 →
    W_X5_worstOf s1 (fun r2 s3 =>
    Q r2 s3)
set_option maxHeartbeats 4000000 in
set_option maxRecDepth 100000 in
theorem c_X5_worst (l : Launch) (D : va_G) (b : Nat → Nat) (g : Nat → ClassId) (s : zS) (Q : Int32 → zS → Prop) (hw : W_X5_worst s Q) : zMi l D (zT g) yX5_worst wsX5_worst ({ frames := 6, cells := 0, slots := 0, locals := 139 } : Room) [.ref (b 0)] (WM b g) s (fun r u => Q r u) := by
  have i5 : ∀ w ∈ u_ws RX5 TX5 18, w ∈ wsX5_worst := fun _ h => (List.mem_cons_of_mem _ (List.mem_append_right _ h))
  refine zMi_start (cc := cX5_worst) (maxL := 1) (lv0 := [(0, .ref (b 0))]) (own := RX5) rfl (plainFor_of_name (by decide)) rfl (Nat.le_of_ble_eq_true rfl) rfl (fun X C hR hL hE => ?_)
  refine z_aload_n C 0 dX5_worst_0 rfl ?_
  refine z_iconst C 0 dX5_worst_1 (by decide) ?_
  refine zp5_thrown C i5 (List.mem_of_getElem? (i := 1) rfl) dX5_worst_2 ?_
  refine z_topsWM (fun s1 es1 => ?_)
  have hw := hw s1 es1
  refine z_aload_n C 0 dX5_worst_5 rfl ?_
  refine z_call0iV C hR hL (As := []) (c_X5_worstOf l D b g s1 _ hw) gX5_worst_X5_worstOf rfl ⟨by decide +kernel, by decide +kernel, (show (parseMethodDescriptor yX5_worstOf.desc).map (fun d => d.parameters.length) = some 0 from by decide +kernel)⟩ ⟨rfl, rfl⟩ ⟨Nat.le_of_ble_eq_true rfl, Nat.le_of_ble_eq_true rfl⟩ ⟨Nat.le_of_ble_eq_true rfl, Nat.le_of_ble_eq_true rfl⟩ 0 5 rfl rfl rfl rfl (Nat.le_of_ble_eq_true rfl) dX5_worst_6 (fun r2 s3 h4 => ?_)
  have hw := h4
  exact hE _ _ _ _ _ _ dX5_worst_9 rfl (Nat.le_refl _) (Nat.le_refl _) hw
def W_X5_clean_L31 (p0 : Int32) (Q : Int32 → zS → Prop) (K : Int32 → zS → Prop) : Nat → Int32 → Int32 → zS → Prop
  | 0, _, _, _ => False
  | n + 1, v23, v24, s25 =>
    (v24 = (-1) →
    K v23 s25) ∧ (¬ v24 = (-1) →
    W_X5_scoreOf s25 v24 (fun r26 s27 =>
    (r26 ≤ (p0).toInt64 →
    K v23 s27) ∧ (¬ r26 ≤ (p0).toInt64 →
    vp_in v24 14 ∧
    ∀ s30 : zS, s30 = sF s27 6 (ix v24) (vp_nar .boolean 1) →
    ∀ x31 : Int32, x31 = v23 + 1 →
    W_X5_worstOf s30 (fun r32 s33 =>
    ∀ x35 : Int32, x35 = r32 →
    W_X5_clean_L31 p0 Q K n x31 x35 s33))))
def W_X5_clean (s : zS) (p0 : Int32) (Q : Int32 → zS → Prop) : Prop :=
    W_X5_isBetween s p0 0 1000000000 (fun r1 =>
    ∃ k4 : Int32 → Prop, (∀ (v7 : Int32), k4 v7 →
    W_X5_goes s v7 (fun r8 s9 =>
    (¬ r8 = 0 →
    ∀ x11 : Int32, x11 = 0 →
    W_X5_worstOf s9 (fun r12 s13 =>
    ∀ x15 : Int32, x15 = r12 →
    ∃ (K16 : Int32 → zS → Prop) (n17 : Nat), (∀ (v21 : Int32) (s22 : zS), K16 v21 s22 →
    Q v21 s22) ∧ W_X5_clean_L31 p0 Q K16 n17 x11 x15 s13)) ∧ (r8 = 0 →
    Q 0 s9))) ∧ ((r1 = 0 →
    k4 1) ∧ (¬ r1 = 0 →
    k4 0)))
set_option maxHeartbeats 4000000 in
set_option maxRecDepth 100000 in
theorem c_X5_clean (l : Launch) (D : va_G) (b : Nat → Nat) (g : Nat → ClassId) (s : zS) (p0 : Int32) (Q : Int32 → zS → Prop) (hw : W_X5_clean s p0 Q) : zMi l D (zT g) yX5_clean wsX5_clean ({ frames := 6, cells := 0, slots := 0, locals := 139 } : Room) [.ref (b 0), .int p0] (WM b g) s (fun r u => Q r u) := by
  have i5 : ∀ w ∈ u_ws RX5 TX5 18, w ∈ wsX5_clean := fun _ h => (List.mem_cons_of_mem _ (List.mem_append_right _ h))
  refine zMi_start (cc := cX5_clean) (maxL := 4) (lv0 := [(0, .ref (b 0)), (1, .int p0)]) (own := RX5) rfl (plainFor_of_name (by decide)) rfl (Nat.le_of_ble_eq_true rfl) rfl (fun X C hR hL hE => ?_)
  refine z_aload_n C 0 dX5_clean_0 rfl ?_
  refine z_iload_n C 1 dX5_clean_1 rfl ?_
  refine z_iconst C 0 dX5_clean_2 (by decide) ?_
  refine z_ldc C 1000000000 (List.mem_of_getElem? (i := 1) rfl) dX5_clean_3 ?_
  refine z_call0iS C hR hL (As := [.int p0, .int 0, .int 1000000000]) (c_X5_isBetween l D b g s p0 0 1000000000 _ hw) gX5_clean_X5_isBetween rfl ⟨by decide +kernel, by decide +kernel, (show (parseMethodDescriptor yX5_isBetween.desc).map (fun d => d.parameters.length) = some 3 from by decide +kernel)⟩ ⟨rfl, rfl⟩ ⟨Nat.le_of_ble_eq_true rfl, Nat.le_of_ble_eq_true rfl⟩ ⟨Nat.le_of_ble_eq_true rfl, Nat.le_of_ble_eq_true rfl⟩ rfl (Nat.le_of_ble_eq_true rfl) dX5_clean_5 (fun r1 s2 h3 => ?_)
  obtain ⟨es2, hw⟩ := h3
  subst es2
  obtain ⟨k4, hk5, hw⟩ := hw
  have hj6 : ∀ (v7 : Int32), k4 v7 → zV X D 4 0 0 (WM b g s) 16 [(0, .ref (b 0)), (1, .int p0)] [.int v7, .ref (b 0)] := by
    intro v7 hw0
    have hw := hk5 v7 hw0
    refine z_call0iV C hR hL (As := [.int v7]) (c_X5_goes l D b g s v7 _ hw) gX5_clean_X5_goes rfl ⟨by decide +kernel, by decide +kernel, (show (parseMethodDescriptor yX5_goes.desc).map (fun d => d.parameters.length) = some 1 from by decide +kernel)⟩ ⟨rfl, rfl⟩ ⟨Nat.le_of_ble_eq_true rfl, Nat.le_of_ble_eq_true rfl⟩ ⟨Nat.le_of_ble_eq_true rfl, Nat.le_of_ble_eq_true rfl⟩ 0 5 rfl rfl rfl rfl (Nat.le_of_ble_eq_true rfl) dX5_clean_16 (fun r8 s9 h10 => ?_)
    have hw := h10
    refine z_if_ne C 24 dX5_clean_19 (by decide) (fun hc => ?_) (fun hc => ?_)
    · have hw := hw.1 hc
      refine z_iconst C 0 dX5_clean_24 (by decide) ?_
      refine z_topi (fun x11 ex11 => ?_)
      have hw := hw x11 ex11
      refine z_istore_n (lv' := [(2, .int x11), (0, .ref (b 0)), (1, .int p0)]) C 2 dX5_clean_25 rfl (by decide) rfl ?_
      refine z_aload_n C 1 dX5_clean_26 rfl ?_
      refine z_call0iV C hR hL (As := []) (c_X5_worstOf l D b g s9 _ hw) gX5_clean_X5_worstOf rfl ⟨by decide +kernel, by decide +kernel, (show (parseMethodDescriptor yX5_worstOf.desc).map (fun d => d.parameters.length) = some 0 from by decide +kernel)⟩ ⟨rfl, rfl⟩ ⟨Nat.le_of_ble_eq_true rfl, Nat.le_of_ble_eq_true rfl⟩ ⟨Nat.le_of_ble_eq_true rfl, Nat.le_of_ble_eq_true rfl⟩ 0 5 rfl rfl rfl rfl (Nat.le_of_ble_eq_true rfl) dX5_clean_27 (fun r12 s13 h14 => ?_)
      have hw := h14
      refine z_topi (fun x15 ex15 => ?_)
      have hw := hw x15 ex15
      refine z_istore_n (lv' := [(3, .int x15), (2, .int x11), (0, .ref (b 0)), (1, .int p0)]) C 3 dX5_clean_30 rfl (by decide) rfl ?_
      refine z_sub (lv' := [(0, .ref (b 0)), (1, .int p0), (2, .int x11), (3, .int x15)]) [2, 3, 1, 0] rfl ?_
      obtain ⟨K16, n17, hK18, hw⟩ := hw
      have hx19 : ∀ (v21 : Int32) (s22 : zS), K16 v21 s22 → zV X D 4 0 0 (WM b g s22) 65 [(2, .int v21)] [] := by
        intro v21 s22 hw0
        have hw := hK18 v21 s22 hw0
        refine z_iload_n C 0 dX5_clean_65 rfl ?_
        exact hE _ _ _ _ _ _ dX5_clean_66 rfl (Nat.le_refl _) (Nat.le_refl _) hw
      have lp20 : ∀ (n : Nat) (v23 : Int32) (v24 : Int32) (s25 : zS), W_X5_clean_L31 p0 Q K16 n v23 v24 s25 → zV X D 4 0 0 (WM b g s25) 31 [(0, .ref (b 0)), (1, .int p0), (2, .int v23), (3, .int v24)] [] := by
        intro n
        induction n with
        | zero => intro v23 v24 s25 hw; exact False.elim hw
        | succ n ih =>
          intro v23 v24 s25 hw
          refine z_iload_n C 3 dX5_clean_31 rfl ?_
          refine z_iconst C (-1) dX5_clean_32 (by decide) ?_
          refine z_icmp_eq C 65 dX5_clean_33 (by decide) (fun hc => ?_) (fun hc => ?_)
          · have hw := hw.1 hc
            refine z_sub (lv' := [(2, .int v23)]) [2] rfl ?_
            exact hx19 _ _ hw
          · have hw := hw.2 hc
            refine z_aload_n C 0 dX5_clean_36 rfl ?_
            refine z_iload_n C 3 dX5_clean_37 rfl ?_
            refine z_call0lV C hR hL (As := [.int v24]) (c_X5_scoreOf l D b g s25 v24 _ hw) gX5_clean_X5_scoreOf rfl ⟨by decide +kernel, by decide +kernel, (show (parseMethodDescriptor yX5_scoreOf.desc).map (fun d => d.parameters.length) = some 1 from by decide +kernel)⟩ ⟨rfl, rfl⟩ ⟨Nat.le_of_ble_eq_true rfl, Nat.le_of_ble_eq_true rfl⟩ ⟨Nat.le_of_ble_eq_true rfl, Nat.le_of_ble_eq_true rfl⟩ 0 5 rfl rfl rfl rfl (Nat.le_of_ble_eq_true rfl) dX5_clean_38 (fun r26 s27 h28 => ?_)
            have hw := h28
            refine z_iload_n C 1 dX5_clean_41 rfl ?_
            refine z_i2l C dX5_clean_42 ?_
            refine z_lcmp_le C 65 dX5_clean_43 dX5_clean_44 (by decide) (fun hc => ?_) (fun hc => ?_)
            · have hw := hw.1 hc
              refine z_sub (lv' := [(2, .int v23)]) [2] rfl ?_
              exact hx19 _ _ hw
            · have hw := hw.2 hc
              refine z_aload_n C 0 dX5_clean_47 rfl ?_
              refine zg5_isWithdrawn C i5 (List.mem_of_getElem? (i := 2) rfl) dX5_clean_48 ?_
              refine z_iload_n C 3 dX5_clean_51 rfl ?_
              refine z_iconst C 1 dX5_clean_52 (by decide) ?_
              obtain ⟨b29, hw⟩ := hw
              refine zs5_isWithdrawn C b29 dX5_clean_53 ?_
              refine z_topsWM (fun s30 es30 => ?_)
              have hw := hw s30 es30
              obtain ⟨x31, ex31⟩ : ∃ z : Int32, z = v23 + 1 := ⟨_, rfl⟩
              have hw := hw x31 ex31
              refine z_iinc (lv' := [(2, .int x31), (0, .ref (b 0)), (1, .int p0), (3, .int v24)]) C 2 dX5_clean_54 rfl (by rw [ex31]; rfl) (by decide) rfl ?_
              refine z_aload_n C 1 dX5_clean_57 rfl ?_
              refine z_call0iV C hR hL (As := []) (c_X5_worstOf l D b g s30 _ hw) gX5_clean_X5_worstOf rfl ⟨by decide +kernel, by decide +kernel, (show (parseMethodDescriptor yX5_worstOf.desc).map (fun d => d.parameters.length) = some 0 from by decide +kernel)⟩ ⟨rfl, rfl⟩ ⟨Nat.le_of_ble_eq_true rfl, Nat.le_of_ble_eq_true rfl⟩ ⟨Nat.le_of_ble_eq_true rfl, Nat.le_of_ble_eq_true rfl⟩ 0 5 rfl rfl rfl rfl (Nat.le_of_ble_eq_true rfl) dX5_clean_58 (fun r32 s33 h34 => ?_)
              have hw := h34
              refine z_topi (fun x35 ex35 => ?_)
              have hw := hw x35 ex35
              refine z_istore_n (lv' := [(3, .int x35), (2, .int x31), (0, .ref (b 0)), (1, .int p0)]) C 3 dX5_clean_61 rfl (by decide) rfl ?_
              refine z_goto C 31 dX5_clean_62 (by decide) ?_
              refine z_sub (lv' := [(0, .ref (b 0)), (1, .int p0), (2, .int x31), (3, .int x35)]) [2, 3, 1, 0] rfl ?_
              exact ih _ _ _ hw
      exact lp20 n17 _ _ _ hw
    · have hw := hw.2 hc
      refine z_iconst C 0 dX5_clean_22 (by decide) ?_
      exact hE _ _ _ _ _ _ dX5_clean_23 rfl (Nat.le_refl _) (Nat.le_refl _) hw
  refine z_if_eq C 15 dX5_clean_8 (by decide) (fun hc => ?_) (fun hc => ?_)
  · have hw := hw.1 hc
    refine z_iconst C 1 dX5_clean_15 (by decide) ?_
    exact hj6 _ hw
  · have hw := hw.2 hc
    refine z_iconst C 0 dX5_clean_11 (by decide) ?_
    refine z_goto C 16 dX5_clean_12 (by decide) ?_
    exact hj6 _ hw
def W_X5_joins_L10 (s : zS) (p0 : Int32) (p1 : Int32) (Q : Int32 → Prop) (K : Int32 → Prop) : Nat → Int32 → Int32 → Prop
  | 0, _, _ => False
  | n + 1, v9, v10 =>
    (v10 < 0 →
    K v9) ∧ (¬ v10 < 0 →
    vp_in v10 14 ∧
    ∃ k12 : Int32 → Prop, (∀ (v15 : Int32), k12 v15 →
    ∀ x16 : Int32, x16 = v15 →
    (x16 = 0 →
    ∀ x17 : Int32, x17 = v9 →
    ∀ x18 : Int32, x18 = v10 + (-1) →
    W_X5_joins_L10 s p0 p1 Q K n x17 x18) ∧ (¬ x16 = 0 →
    vp_in v10 14 ∧
    (¬ (gF s 6 (ix v10)) = 0 →
    ∀ x20 : Int32, x20 = v9 →
    ∀ x21 : Int32, x21 = v10 + (-1) →
    W_X5_joins_L10 s p0 p1 Q K n x20 x21) ∧ ((gF s 6 (ix v10)) = 0 →
    ∀ x22 : Int32, x22 = v10 →
    ∀ x23 : Int32, x23 = v10 + (-1) →
    W_X5_joins_L10 s p0 p1 Q K n x22 x23))) ∧ ((¬ (gF s 2 (ix v10)) = p0 →
    vp_in v10 14 ∧
    (¬ (gF s 2 (ix v10)) = p1 →
    k12 0) ∧ ((gF s 2 (ix v10)) = p1 →
    vp_in v10 14 ∧
    (¬ (gF s 3 (ix v10)) = p0 →
    k12 0) ∧ ((gF s 3 (ix v10)) = p0 →
    k12 1))) ∧ ((gF s 2 (ix v10)) = p0 →
    vp_in v10 14 ∧
    ((gF s 3 (ix v10)) = p1 →
    k12 1) ∧ (¬ (gF s 3 (ix v10)) = p1 →
    vp_in v10 14 ∧
    (¬ (gF s 2 (ix v10)) = p1 →
    k12 0) ∧ ((gF s 2 (ix v10)) = p1 →
    vp_in v10 14 ∧
    (¬ (gF s 3 (ix v10)) = p0 →
    k12 0) ∧ ((gF s 3 (ix v10)) = p0 →
    k12 1))))))
def W_X5_joins (s : zS) (p0 : Int32) (p1 : Int32) (Q : Int32 → Prop) : Prop :=
    ∀ x1 : Int32, x1 = (-1) →
    ∀ x2 : Int32, x2 = ((gI s 1) - 1) →
    ∃ (K3 : Int32 → Prop) (n4 : Nat), (∀ (v8 : Int32), K3 v8 →
    Q v8) ∧ W_X5_joins_L10 s p0 p1 Q K3 n4 x1 x2
set_option maxHeartbeats 4000000 in
set_option maxRecDepth 100000 in
theorem c_X5_joins (l : Launch) (D : va_G) (b : Nat → Nat) (g : Nat → ClassId) (s : zS) (p0 : Int32) (p1 : Int32) (Q : Int32 → Prop) (hw : W_X5_joins s p0 p1 Q) : zMi l D (zT g) yX5_joins wsX5_joins ({ frames := 0, cells := 0, slots := 0, locals := 0 } : Room) [.ref (b 0), .int p0, .int p1] (WM b g) s (fun r u => s = u ∧ Q r) := by
  have i5 : ∀ w ∈ u_ws RX5 TX5 18, w ∈ wsX5_joins := fun _ h => (List.mem_cons_of_mem _ (List.mem_append_right _ h))
  refine zMi_start (cc := cX5_joins) (maxL := 6) (lv0 := [(0, .ref (b 0)), (1, .int p0), (2, .int p1)]) (own := RX5) rfl (plainFor_of_name (by decide)) rfl (Nat.le_of_ble_eq_true rfl) rfl (fun X C hR hL hE => ?_)
  refine z_iconst C (-1) dX5_joins_0 (by decide) ?_
  refine z_topi (fun x1 ex1 => ?_)
  have hw := hw x1 ex1
  refine z_istore_n (lv' := [(3, .int x1), (0, .ref (b 0)), (1, .int p0), (2, .int p1)]) C 3 dX5_joins_1 rfl (by decide) rfl ?_
  refine z_aload_n C 1 dX5_joins_2 rfl ?_
  refine zg5_observations C i5 (List.mem_of_getElem? (i := 1) rfl) dX5_joins_3 ?_
  refine z_iconst C 1 dX5_joins_6 (by decide) ?_
  refine z_isub C dX5_joins_7 ?_
  refine z_topi (fun x2 ex2 => ?_)
  have hw := hw x2 ex2
  refine z_istore (lv' := [(4, .int x2), (3, .int x1), (0, .ref (b 0)), (1, .int p0), (2, .int p1)]) C dX5_joins_8 (by decide) rfl ?_
  refine z_sub (lv' := [(0, .ref (b 0)), (1, .int p0), (2, .int p1), (3, .int x1), (4, .int x2)]) [2, 3, 4, 1, 0] rfl ?_
  obtain ⟨K3, n4, hK5, hw⟩ := hw
  have hx6 : ∀ (v8 : Int32), K3 v8 → zV X D 6 0 0 (WM b g s) 94 [(3, .int v8)] [] := by
    intro v8 hw0
    have hw := hK5 v8 hw0
    refine z_iload_n C 0 dX5_joins_94 rfl ?_
    exact hE _ _ _ _ _ _ dX5_joins_95 rfl (Nat.le_refl _) (Nat.le_refl _) ⟨rfl, hw⟩
  have lp7 : ∀ (n : Nat) (v9 : Int32) (v10 : Int32), W_X5_joins_L10 s p0 p1 Q K3 n v9 v10 → zV X D 6 0 0 (WM b g s) 10 [(0, .ref (b 0)), (1, .int p0), (2, .int p1), (3, .int v9), (4, .int v10)] [] := by
    intro n
    induction n with
    | zero => intro v9 v10 hw; exact False.elim hw
    | succ n ih =>
      intro v9 v10 hw
      refine z_iload C 4 dX5_joins_10 rfl ?_
      refine z_if_lt C 94 dX5_joins_12 (by decide) (fun hc => ?_) (fun hc => ?_)
      · have hw := hw.1 hc
        refine z_sub (lv' := [(3, .int v9)]) [3] rfl ?_
        exact hx6 _ hw
      · have hw := hw.2 hc
        refine z_aload_n C 0 dX5_joins_15 rfl ?_
        refine zg5_froms C i5 (List.mem_of_getElem? (i := 2) rfl) dX5_joins_16 ?_
        refine z_iload C 4 dX5_joins_19 rfl ?_
        obtain ⟨b11, hw⟩ := hw
        refine zl5_froms C b11 dX5_joins_21 ?_
        refine z_iload_n C 1 dX5_joins_22 rfl ?_
        obtain ⟨k12, hk13, hw⟩ := hw
        have hj14 : ∀ (v15 : Int32), k12 v15 → zV X D 6 0 0 (WM b g s) 64 [(0, .ref (b 0)), (1, .int p0), (2, .int p1), (3, .int v9), (4, .int v10)] [.int v15] := by
          intro v15 hw0
          have hw := hk13 v15 hw0
          refine z_topi (fun x16 ex16 => ?_)
          have hw := hw x16 ex16
          refine z_istore (lv' := [(5, .int x16), (0, .ref (b 0)), (1, .int p0), (2, .int p1), (3, .int v9), (4, .int v10)]) C dX5_joins_64 (by decide) rfl ?_
          refine z_iload C 0 dX5_joins_66 rfl ?_
          refine z_if_eq C 86 dX5_joins_68 (by decide) (fun hc => ?_) (fun hc => ?_)
          · have hw := hw.1 hc
            refine z_iload_n C 4 dX5_joins_86 rfl ?_
            refine z_topi (fun x17 ex17 => ?_)
            have hw := hw x17 ex17
            refine z_istore_n (lv' := [(3, .int x17), (5, .int x16), (0, .ref (b 0)), (1, .int p0), (2, .int p1), (4, .int v10)]) C 3 dX5_joins_87 rfl (by decide) rfl ?_
            obtain ⟨x18, ex18⟩ : ∃ z : Int32, z = v10 + (-1) := ⟨_, rfl⟩
            have hw := hw x18 ex18
            refine z_iinc (lv' := [(4, .int x18), (3, .int x17), (5, .int x16), (0, .ref (b 0)), (1, .int p0), (2, .int p1)]) C 5 dX5_joins_88 rfl (by rw [ex18]; rfl) (by decide) rfl ?_
            refine z_goto C 10 dX5_joins_91 (by decide) ?_
            refine z_sub (lv' := [(0, .ref (b 0)), (1, .int p0), (2, .int p1), (3, .int x17), (4, .int x18)]) [3, 4, 5, 1, 0] rfl ?_
            exact ih _ _ hw
          · have hw := hw.2 hc
            refine z_aload_n C 1 dX5_joins_71 rfl ?_
            refine zg5_isWithdrawn C i5 (List.mem_of_getElem? (i := 4) rfl) dX5_joins_72 ?_
            refine z_iload C 5 dX5_joins_75 rfl ?_
            obtain ⟨b19, hw⟩ := hw
            refine zl5_isWithdrawn C b19 dX5_joins_77 ?_
            refine z_if_ne C 86 dX5_joins_78 (by decide) (fun hc => ?_) (fun hc => ?_)
            · have hw := hw.1 hc
              refine z_iload_n C 4 dX5_joins_86 rfl ?_
              refine z_topi (fun x20 ex20 => ?_)
              have hw := hw x20 ex20
              refine z_istore_n (lv' := [(3, .int x20), (5, .int x16), (0, .ref (b 0)), (1, .int p0), (2, .int p1), (4, .int v10)]) C 3 dX5_joins_87 rfl (by decide) rfl ?_
              obtain ⟨x21, ex21⟩ : ∃ z : Int32, z = v10 + (-1) := ⟨_, rfl⟩
              have hw := hw x21 ex21
              refine z_iinc (lv' := [(4, .int x21), (3, .int x20), (5, .int x16), (0, .ref (b 0)), (1, .int p0), (2, .int p1)]) C 5 dX5_joins_88 rfl (by rw [ex21]; rfl) (by decide) rfl ?_
              refine z_goto C 10 dX5_joins_91 (by decide) ?_
              refine z_sub (lv' := [(0, .ref (b 0)), (1, .int p0), (2, .int p1), (3, .int x20), (4, .int x21)]) [3, 4, 5, 1, 0] rfl ?_
              exact ih _ _ hw
            · have hw := hw.2 hc
              refine z_iload C 5 dX5_joins_81 rfl ?_
              refine z_goto C 87 dX5_joins_83 (by decide) ?_
              refine z_topi (fun x22 ex22 => ?_)
              have hw := hw x22 ex22
              refine z_istore_n (lv' := [(3, .int x22), (5, .int x16), (0, .ref (b 0)), (1, .int p0), (2, .int p1), (4, .int v10)]) C 3 dX5_joins_87 rfl (by decide) rfl ?_
              obtain ⟨x23, ex23⟩ : ∃ z : Int32, z = v10 + (-1) := ⟨_, rfl⟩
              have hw := hw x23 ex23
              refine z_iinc (lv' := [(4, .int x23), (3, .int x22), (5, .int x16), (0, .ref (b 0)), (1, .int p0), (2, .int p1)]) C 5 dX5_joins_88 rfl (by rw [ex23]; rfl) (by decide) rfl ?_
              refine z_goto C 10 dX5_joins_91 (by decide) ?_
              refine z_sub (lv' := [(0, .ref (b 0)), (1, .int p0), (2, .int p1), (3, .int x22), (4, .int x23)]) [3, 4, 5, 1, 0] rfl ?_
              exact ih _ _ hw
        refine z_icmp_ne C 37 dX5_joins_23 (by decide) (fun hc => ?_) (fun hc => ?_)
        · have hw := hw.1 hc
          refine z_aload_n C 0 dX5_joins_37 rfl ?_
          refine zg5_froms C i5 (List.mem_of_getElem? (i := 2) rfl) dX5_joins_38 ?_
          refine z_iload C 4 dX5_joins_41 rfl ?_
          obtain ⟨b24, hw⟩ := hw
          refine zl5_froms C b24 dX5_joins_43 ?_
          refine z_iload_n C 2 dX5_joins_44 rfl ?_
          refine z_icmp_ne C 63 dX5_joins_45 (by decide) (fun hc => ?_) (fun hc => ?_)
          · have hw := hw.1 hc
            refine z_iconst C 0 dX5_joins_63 (by decide) ?_
            exact hj14 _ hw
          · have hw := hw.2 hc
            refine z_aload_n C 0 dX5_joins_48 rfl ?_
            refine zg5_tos C i5 (List.mem_of_getElem? (i := 3) rfl) dX5_joins_49 ?_
            refine z_iload C 4 dX5_joins_52 rfl ?_
            obtain ⟨b25, hw⟩ := hw
            refine zl5_tos C b25 dX5_joins_54 ?_
            refine z_iload_n C 1 dX5_joins_55 rfl ?_
            refine z_icmp_ne C 63 dX5_joins_56 (by decide) (fun hc => ?_) (fun hc => ?_)
            · have hw := hw.1 hc
              refine z_iconst C 0 dX5_joins_63 (by decide) ?_
              exact hj14 _ hw
            · have hw := hw.2 hc
              refine z_iconst C 1 dX5_joins_59 (by decide) ?_
              refine z_goto C 64 dX5_joins_60 (by decide) ?_
              exact hj14 _ hw
        · have hw := hw.2 hc
          refine z_aload_n C 0 dX5_joins_26 rfl ?_
          refine zg5_tos C i5 (List.mem_of_getElem? (i := 3) rfl) dX5_joins_27 ?_
          refine z_iload C 4 dX5_joins_30 rfl ?_
          obtain ⟨b26, hw⟩ := hw
          refine zl5_tos C b26 dX5_joins_32 ?_
          refine z_iload_n C 2 dX5_joins_33 rfl ?_
          refine z_icmp_eq C 59 dX5_joins_34 (by decide) (fun hc => ?_) (fun hc => ?_)
          · have hw := hw.1 hc
            refine z_iconst C 1 dX5_joins_59 (by decide) ?_
            refine z_goto C 64 dX5_joins_60 (by decide) ?_
            exact hj14 _ hw
          · have hw := hw.2 hc
            refine z_aload_n C 0 dX5_joins_37 rfl ?_
            refine zg5_froms C i5 (List.mem_of_getElem? (i := 2) rfl) dX5_joins_38 ?_
            refine z_iload C 4 dX5_joins_41 rfl ?_
            obtain ⟨b27, hw⟩ := hw
            refine zl5_froms C b27 dX5_joins_43 ?_
            refine z_iload_n C 2 dX5_joins_44 rfl ?_
            refine z_icmp_ne C 63 dX5_joins_45 (by decide) (fun hc => ?_) (fun hc => ?_)
            · have hw := hw.1 hc
              refine z_iconst C 0 dX5_joins_63 (by decide) ?_
              exact hj14 _ hw
            · have hw := hw.2 hc
              refine z_aload_n C 0 dX5_joins_48 rfl ?_
              refine zg5_tos C i5 (List.mem_of_getElem? (i := 3) rfl) dX5_joins_49 ?_
              refine z_iload C 4 dX5_joins_52 rfl ?_
              obtain ⟨b28, hw⟩ := hw
              refine zl5_tos C b28 dX5_joins_54 ?_
              refine z_iload_n C 1 dX5_joins_55 rfl ?_
              refine z_icmp_ne C 63 dX5_joins_56 (by decide) (fun hc => ?_) (fun hc => ?_)
              · have hw := hw.1 hc
                refine z_iconst C 0 dX5_joins_63 (by decide) ?_
                exact hj14 _ hw
              · have hw := hw.2 hc
                refine z_iconst C 1 dX5_joins_59 (by decide) ?_
                refine z_goto C 64 dX5_joins_60 (by decide) ?_
                exact hj14 _ hw
  exact lp7 n4 _ _ hw
def W_X5_go (s : zS) (p0 : Int32) (Q : Int32 → zS → Prop) : Prop :=
    W_X5_isStation s p0 (fun r1 =>
    ∀ x4 : Int32, x4 = r1 →
    ∃ k5 : Int32 → Prop, (∀ (v8 : Int32), k5 v8 →
    ∀ x9 : Int32, x9 = v8 →
    ∃ k10 : Int32 → Prop, (∀ (v13 : Int32), k10 v13 →
    W_X5_goes s v13 (fun r14 s15 =>
    (¬ r14 = 0 →
    ∃ k17 : Int32 → Prop, (∀ (v20 : Int32), k17 v20 →
    ∀ s21 : zS, s21 = sI s15 3 ((gI s15 3) + v20) →
    vp_in (gI s21 2) 10 ∧
    ∀ s23 : zS, s23 = sF s21 7 (ix (gI s21 2)) p0 →
    ∀ s24 : zS, s24 = sI s23 2 ((gI s23 2) + 1) →
    Q (gI s24 2) s24) ∧ ((¬ x9 = (-1) →
    vp_in x9 14 ∧
    (¬ (gF s15 3 (ix x9)) = p0 →
    vp_in x9 14 ∧
    k17 (-(gF s15 4 (ix x9)))) ∧ ((gF s15 3 (ix x9)) = p0 →
    vp_in x9 14 ∧
    k17 (gF s15 4 (ix x9)))) ∧ (x9 = (-1) →
    k17 0))) ∧ (r14 = 0 →
    Q 0 s15))) ∧ ((¬ x4 = 0 →
    ((gI s 2) = 10 →
    k10 2) ∧ (¬ (gI s 2) = 10 →
    ((gI s 2) ≤ 0 →
    k10 0) ∧ (¬ (gI s 2) ≤ 0 →
    (¬ x9 = (-1) →
    k10 0) ∧ (x9 = (-1) →
    k10 2)))) ∧ (x4 = 0 →
    k10 1))) ∧ ((x4 = 0 →
    k5 (-1)) ∧ (¬ x4 = 0 →
    ((gI s 2) ≤ 0 →
    k5 (-1)) ∧ (¬ (gI s 2) ≤ 0 →
    vp_in ((gI s 2) - 1) 10 ∧
    W_X5_joins s (gF s 7 (ix ((gI s 2) - 1))) p0 (fun r29 =>
    k5 r29)))))
set_option maxHeartbeats 4000000 in
set_option maxRecDepth 100000 in
theorem c_X5_go (l : Launch) (D : va_G) (b : Nat → Nat) (g : Nat → ClassId) (s : zS) (p0 : Int32) (Q : Int32 → zS → Prop) (hw : W_X5_go s p0 Q) : zMi l D (zT g) yX5_go wsX5_go ({ frames := 2, cells := 0, slots := 0, locals := 43 } : Room) [.ref (b 0), .int p0] (WM b g) s (fun r u => Q r u) := by
  have i5 : ∀ w ∈ u_ws RX5 TX5 18, w ∈ wsX5_go := fun _ h => (List.mem_cons_of_mem _ (List.mem_append_right _ h))
  refine zMi_start (cc := cX5_go) (maxL := 4) (lv0 := [(0, .ref (b 0)), (1, .int p0)]) (own := RX5) rfl (plainFor_of_name (by decide)) rfl (Nat.le_of_ble_eq_true rfl) rfl (fun X C hR hL hE => ?_)
  refine z_aload_n C 0 dX5_go_0 rfl ?_
  refine z_iload_n C 1 dX5_go_1 rfl ?_
  refine z_call0iV C hR hL (As := [.int p0]) (c_X5_isStation l D b g s p0 _ hw) gX5_go_X5_isStation rfl ⟨by decide +kernel, by decide +kernel, (show (parseMethodDescriptor yX5_isStation.desc).map (fun d => d.parameters.length) = some 1 from by decide +kernel)⟩ ⟨rfl, rfl⟩ ⟨Nat.le_of_ble_eq_true rfl, Nat.le_of_ble_eq_true rfl⟩ ⟨Nat.le_of_ble_eq_true rfl, Nat.le_of_ble_eq_true rfl⟩ 0 5 rfl rfl rfl rfl (Nat.le_of_ble_eq_true rfl) dX5_go_2 (fun r1 s2 h3 => ?_)
  obtain ⟨es2, hw⟩ := h3
  subst es2
  refine z_topi (fun x4 ex4 => ?_)
  have hw := hw x4 ex4
  refine z_istore_n (lv' := [(2, .int x4), (0, .ref (b 0)), (1, .int p0)]) C 2 dX5_go_5 rfl (by decide) rfl ?_
  refine z_iload_n C 0 dX5_go_6 rfl ?_
  obtain ⟨k5, hk6, hw⟩ := hw
  have hj7 : ∀ (v8 : Int32), k5 v8 → zV X D 4 0 0 (WM b g s) 37 [(0, .ref (b 0)), (1, .int p0), (2, .int x4)] [.int v8] := by
    intro v8 hw0
    have hw := hk6 v8 hw0
    refine z_topi (fun x9 ex9 => ?_)
    have hw := hw x9 ex9
    refine z_istore_n (lv' := [(3, .int x9), (0, .ref (b 0)), (1, .int p0), (2, .int x4)]) C 3 dX5_go_37 rfl (by decide) rfl ?_
    refine z_aload_n C 1 dX5_go_38 rfl ?_
    refine z_iload_n C 3 dX5_go_39 rfl ?_
    obtain ⟨k10, hk11, hw⟩ := hw
    have hj12 : ∀ (v13 : Int32), k10 v13 → zV X D 4 0 0 (WM b g s) 73 [(0, .ref (b 0)), (1, .int p0), (3, .int x9)] [.int v13, .ref (b 0)] := by
      intro v13 hw0
      have hw := hk11 v13 hw0
      refine z_call0iV C hR hL (As := [.int v13]) (c_X5_goes l D b g s v13 _ hw) gX5_go_X5_goes rfl ⟨by decide +kernel, by decide +kernel, (show (parseMethodDescriptor yX5_goes.desc).map (fun d => d.parameters.length) = some 1 from by decide +kernel)⟩ ⟨rfl, rfl⟩ ⟨Nat.le_of_ble_eq_true rfl, Nat.le_of_ble_eq_true rfl⟩ ⟨Nat.le_of_ble_eq_true rfl, Nat.le_of_ble_eq_true rfl⟩ 0 5 rfl rfl rfl rfl (Nat.le_of_ble_eq_true rfl) dX5_go_73 (fun r14 s15 h16 => ?_)
      have hw := h16
      refine z_if_ne C 81 dX5_go_76 (by decide) (fun hc => ?_) (fun hc => ?_)
      · have hw := hw.1 hc
        refine z_aload_n C 0 dX5_go_81 rfl ?_
        refine z_dup C dX5_go_82 rfl ?_
        refine zg5_sum C i5 (List.mem_of_getElem? (i := 3) rfl) dX5_go_83 ?_
        refine z_iload_n C 2 dX5_go_86 rfl ?_
        refine z_iconst C (-1) dX5_go_87 (by decide) ?_
        obtain ⟨k17, hk18, hw⟩ := hw
        have hj19 : ∀ (v20 : Int32), k17 v20 → zV X D 4 0 0 (WM b g s15) 121 [(0, .ref (b 0)), (1, .int p0)] [.int v20, .int (gI s15 3), .ref (b 0)] := by
          intro v20 hw0
          have hw := hk18 v20 hw0
          refine z_iadd C dX5_go_121 ?_
          refine zp5_sum C i5 (List.mem_of_getElem? (i := 3) rfl) dX5_go_122 ?_
          refine z_topsWM (fun s21 es21 => ?_)
          have hw := hw s21 es21
          refine z_aload_n C 0 dX5_go_125 rfl ?_
          refine zg5_steps C i5 (List.mem_of_getElem? (i := 2) rfl) dX5_go_126 ?_
          refine z_aload_n C 0 dX5_go_129 rfl ?_
          refine zg5_path C i5 (List.mem_of_getElem? (i := 1) rfl) dX5_go_130 ?_
          refine z_iload_n C 1 dX5_go_133 rfl ?_
          obtain ⟨b22, hw⟩ := hw
          refine zs5_steps C b22 dX5_go_134 ?_
          refine z_topsWM (fun s23 es23 => ?_)
          have hw := hw s23 es23
          refine z_aload_n C 0 dX5_go_135 rfl ?_
          refine z_dup C dX5_go_136 rfl ?_
          refine zg5_path C i5 (List.mem_of_getElem? (i := 1) rfl) dX5_go_137 ?_
          refine z_iconst C 1 dX5_go_140 (by decide) ?_
          refine z_iadd C dX5_go_141 ?_
          refine zp5_path C i5 (List.mem_of_getElem? (i := 1) rfl) dX5_go_142 ?_
          refine z_topsWM (fun s24 es24 => ?_)
          have hw := hw s24 es24
          refine z_aload_n C 0 dX5_go_145 rfl ?_
          refine zg5_path C i5 (List.mem_of_getElem? (i := 1) rfl) dX5_go_146 ?_
          exact hE _ _ _ _ _ _ dX5_go_149 rfl (Nat.le_refl _) (Nat.le_refl _) hw
        refine z_icmp_ne C 95 dX5_go_88 (by decide) (fun hc => ?_) (fun hc => ?_)
        · have hw := hw.1 hc
          refine z_aload_n C 0 dX5_go_95 rfl ?_
          refine zg5_tos C i5 (List.mem_of_getElem? (i := 4) rfl) dX5_go_96 ?_
          refine z_iload_n C 2 dX5_go_99 rfl ?_
          obtain ⟨b25, hw⟩ := hw
          refine zl5_tos C b25 dX5_go_100 ?_
          refine z_iload_n C 1 dX5_go_101 rfl ?_
          refine z_icmp_ne C 114 dX5_go_102 (by decide) (fun hc => ?_) (fun hc => ?_)
          · have hw := hw.1 hc
            refine z_aload_n C 0 dX5_go_114 rfl ?_
            refine zg5_differences C i5 (List.mem_of_getElem? (i := 5) rfl) dX5_go_115 ?_
            refine z_iload_n C 2 dX5_go_118 rfl ?_
            obtain ⟨b26, hw⟩ := hw
            refine zl5_differences C b26 dX5_go_119 ?_
            refine z_ineg C dX5_go_120 ?_
            refine z_sub (lv' := [(0, .ref (b 0)), (1, .int p0)]) [0, 1] rfl ?_
            exact hj19 _ hw
          · have hw := hw.2 hc
            refine z_aload_n C 0 dX5_go_105 rfl ?_
            refine zg5_differences C i5 (List.mem_of_getElem? (i := 5) rfl) dX5_go_106 ?_
            refine z_iload_n C 2 dX5_go_109 rfl ?_
            obtain ⟨b27, hw⟩ := hw
            refine zl5_differences C b27 dX5_go_110 ?_
            refine z_goto C 121 dX5_go_111 (by decide) ?_
            refine z_sub (lv' := [(0, .ref (b 0)), (1, .int p0)]) [0, 1] rfl ?_
            exact hj19 _ hw
        · have hw := hw.2 hc
          refine z_iconst C 0 dX5_go_91 (by decide) ?_
          refine z_goto C 121 dX5_go_92 (by decide) ?_
          refine z_sub (lv' := [(0, .ref (b 0)), (1, .int p0)]) [0, 1] rfl ?_
          exact hj19 _ hw
      · have hw := hw.2 hc
        refine z_iconst C 0 dX5_go_79 (by decide) ?_
        exact hE _ _ _ _ _ _ dX5_go_80 rfl (Nat.le_refl _) (Nat.le_refl _) hw
    refine z_if_ne C 47 dX5_go_40 (by decide) (fun hc => ?_) (fun hc => ?_)
    · have hw := hw.1 hc
      refine z_aload_n C 1 dX5_go_47 rfl ?_
      refine zg5_path C i5 (List.mem_of_getElem? (i := 1) rfl) dX5_go_48 ?_
      refine z_bipush C 10 dX5_go_51 (by decide) ?_
      refine z_icmp_eq C 68 dX5_go_53 (by decide) (fun hc => ?_) (fun hc => ?_)
      · have hw := hw.1 hc
        refine z_iconst C 2 dX5_go_68 (by decide) ?_
        refine z_goto C 73 dX5_go_69 (by decide) ?_
        refine z_sub (lv' := [(0, .ref (b 0)), (1, .int p0), (3, .int x9)]) [1, 2, 0] rfl ?_
        exact hj12 _ hw
      · have hw := hw.2 hc
        refine z_aload_n C 1 dX5_go_56 rfl ?_
        refine zg5_path C i5 (List.mem_of_getElem? (i := 1) rfl) dX5_go_57 ?_
        refine z_if_le C 72 dX5_go_60 (by decide) (fun hc => ?_) (fun hc => ?_)
        · have hw := hw.1 hc
          refine z_iconst C 0 dX5_go_72 (by decide) ?_
          refine z_sub (lv' := [(0, .ref (b 0)), (1, .int p0), (3, .int x9)]) [1, 2, 0] rfl ?_
          exact hj12 _ hw
        · have hw := hw.2 hc
          refine z_iload_n C 0 dX5_go_63 rfl ?_
          refine z_iconst C (-1) dX5_go_64 (by decide) ?_
          refine z_icmp_ne C 72 dX5_go_65 (by decide) (fun hc => ?_) (fun hc => ?_)
          · have hw := hw.1 hc
            refine z_iconst C 0 dX5_go_72 (by decide) ?_
            refine z_sub (lv' := [(0, .ref (b 0)), (1, .int p0), (3, .int x9)]) [1, 2, 0] rfl ?_
            exact hj12 _ hw
          · have hw := hw.2 hc
            refine z_iconst C 2 dX5_go_68 (by decide) ?_
            refine z_goto C 73 dX5_go_69 (by decide) ?_
            refine z_sub (lv' := [(0, .ref (b 0)), (1, .int p0), (3, .int x9)]) [1, 2, 0] rfl ?_
            exact hj12 _ hw
    · have hw := hw.2 hc
      refine z_iconst C 1 dX5_go_43 (by decide) ?_
      refine z_goto C 73 dX5_go_44 (by decide) ?_
      refine z_sub (lv' := [(0, .ref (b 0)), (1, .int p0), (3, .int x9)]) [1, 2, 0] rfl ?_
      exact hj12 _ hw
  refine z_if_eq C 36 dX5_go_7 (by decide) (fun hc => ?_) (fun hc => ?_)
  · have hw := hw.1 hc
    refine z_iconst C (-1) dX5_go_36 (by decide) ?_
    refine z_sub (lv' := [(0, .ref (b 0)), (1, .int p0), (2, .int x4)]) [1, 2, 0] rfl ?_
    exact hj7 _ hw
  · have hw := hw.2 hc
    refine z_aload_n C 1 dX5_go_10 rfl ?_
    refine zg5_path C i5 (List.mem_of_getElem? (i := 1) rfl) dX5_go_11 ?_
    refine z_if_le C 36 dX5_go_14 (by decide) (fun hc => ?_) (fun hc => ?_)
    · have hw := hw.1 hc
      refine z_iconst C (-1) dX5_go_36 (by decide) ?_
      refine z_sub (lv' := [(0, .ref (b 0)), (1, .int p0), (2, .int x4)]) [1, 2, 0] rfl ?_
      exact hj7 _ hw
    · have hw := hw.2 hc
      refine z_aload_n C 1 dX5_go_17 rfl ?_
      refine z_aload_n C 1 dX5_go_18 rfl ?_
      refine zg5_steps C i5 (List.mem_of_getElem? (i := 2) rfl) dX5_go_19 ?_
      refine z_aload_n C 1 dX5_go_22 rfl ?_
      refine zg5_path C i5 (List.mem_of_getElem? (i := 1) rfl) dX5_go_23 ?_
      refine z_iconst C 1 dX5_go_26 (by decide) ?_
      refine z_isub C dX5_go_27 ?_
      obtain ⟨b28, hw⟩ := hw
      refine zl5_steps C b28 dX5_go_28 ?_
      refine z_iload_n C 2 dX5_go_29 rfl ?_
      refine z_call0iV C hR hL (As := [.int (gF s 7 (ix ((gI s 2) - 1))), .int p0]) (c_X5_joins l D b g s (gF s 7 (ix ((gI s 2) - 1))) p0 _ hw) gX5_go_X5_joins rfl ⟨by decide +kernel, by decide +kernel, (show (parseMethodDescriptor yX5_joins.desc).map (fun d => d.parameters.length) = some 2 from by decide +kernel)⟩ ⟨rfl, rfl⟩ ⟨Nat.le_of_ble_eq_true rfl, Nat.le_of_ble_eq_true rfl⟩ ⟨Nat.le_of_ble_eq_true rfl, Nat.le_of_ble_eq_true rfl⟩ 0 5 rfl rfl rfl rfl (Nat.le_of_ble_eq_true rfl) dX5_go_30 (fun r29 s30 h31 => ?_)
      obtain ⟨es30, hw⟩ := h31
      subst es30
      refine z_goto C 37 dX5_go_33 (by decide) ?_
      refine z_sub (lv' := [(0, .ref (b 0)), (1, .int p0), (2, .int x4)]) [1, 2, 0] rfl ?_
      exact hj7 _ hw
def W_X5_end (s : zS) (Q : Int32 → zS → Prop) : Prop :=
    ∀ s1 : zS, s1 = sI s 5 0 →
    ∀ x2 : Int32, x2 = (gI s1 2) →
    ∀ s3 : zS, s3 = sI s1 2 0 →
    ∀ s4 : zS, s4 = sI s3 3 0 →
    Q x2 s4
set_option maxHeartbeats 4000000 in
set_option maxRecDepth 100000 in
theorem c_X5_end (l : Launch) (D : va_G) (b : Nat → Nat) (g : Nat → ClassId) (s : zS) (Q : Int32 → zS → Prop) (hw : W_X5_end s Q) : zMi l D (zT g) yX5_end wsX5_end ({ frames := 0, cells := 0, slots := 0, locals := 0 } : Room) [.ref (b 0)] (WM b g) s (fun r u => Q r u) := by
  have i5 : ∀ w ∈ u_ws RX5 TX5 18, w ∈ wsX5_end := fun _ h => (List.mem_cons_of_mem _ (List.mem_append_right _ h))
  refine zMi_start (cc := cX5_end) (maxL := 2) (lv0 := [(0, .ref (b 0))]) (own := RX5) rfl (plainFor_of_name (by decide)) rfl (Nat.le_of_ble_eq_true rfl) rfl (fun X C hR hL hE => ?_)
  refine z_aload_n C 0 dX5_end_0 rfl ?_
  refine z_iconst C 0 dX5_end_1 (by decide) ?_
  refine zp5_thrown C i5 (List.mem_of_getElem? (i := 1) rfl) dX5_end_2 ?_
  refine z_topsWM (fun s1 es1 => ?_)
  have hw := hw s1 es1
  refine z_aload_n C 0 dX5_end_5 rfl ?_
  refine zg5_path C i5 (List.mem_of_getElem? (i := 2) rfl) dX5_end_6 ?_
  refine z_topi (fun x2 ex2 => ?_)
  have hw := hw x2 ex2
  refine z_istore_n (lv' := [(1, .int x2), (0, .ref (b 0))]) C 1 dX5_end_9 rfl (by decide) rfl ?_
  refine z_aload_n C 1 dX5_end_10 rfl ?_
  refine z_iconst C 0 dX5_end_11 (by decide) ?_
  refine zp5_path C i5 (List.mem_of_getElem? (i := 2) rfl) dX5_end_12 ?_
  refine z_topsWM (fun s3 es3 => ?_)
  have hw := hw s3 es3
  refine z_aload_n C 1 dX5_end_15 rfl ?_
  refine z_iconst C 0 dX5_end_16 (by decide) ?_
  refine zp5_sum C i5 (List.mem_of_getElem? (i := 3) rfl) dX5_end_17 ?_
  refine z_topsWM (fun s4 es4 => ?_)
  have hw := hw s4 es4
  refine z_iload_n C 0 dX5_end_20 rfl ?_
  exact hE _ _ _ _ _ _ dX5_end_21 rfl (Nat.le_refl _) (Nat.le_refl _) hw
def W_X5_sum (s : zS) (Q : Int32 → zS → Prop) : Prop :=
    ∀ s1 : zS, s1 = sI s 5 0 →
    Q (gI s1 3) s1
set_option maxHeartbeats 4000000 in
set_option maxRecDepth 100000 in
theorem c_X5_sum (l : Launch) (D : va_G) (b : Nat → Nat) (g : Nat → ClassId) (s : zS) (Q : Int32 → zS → Prop) (hw : W_X5_sum s Q) : zMi l D (zT g) yX5_sum wsX5_sum ({ frames := 0, cells := 0, slots := 0, locals := 0 } : Room) [.ref (b 0)] (WM b g) s (fun r u => Q r u) := by
  have i5 : ∀ w ∈ u_ws RX5 TX5 18, w ∈ wsX5_sum := fun _ h => (List.mem_cons_of_mem _ (List.mem_append_right _ h))
  refine zMi_start (cc := cX5_sum) (maxL := 1) (lv0 := [(0, .ref (b 0))]) (own := RX5) rfl (plainFor_of_name (by decide)) rfl (Nat.le_of_ble_eq_true rfl) rfl (fun X C hR hL hE => ?_)
  refine z_aload_n C 0 dX5_sum_0 rfl ?_
  refine z_iconst C 0 dX5_sum_1 (by decide) ?_
  refine zp5_thrown C i5 (List.mem_of_getElem? (i := 1) rfl) dX5_sum_2 ?_
  refine z_topsWM (fun s1 es1 => ?_)
  have hw := hw s1 es1
  refine z_aload_n C 0 dX5_sum_5 rfl ?_
  refine zg5_sum C i5 (List.mem_of_getElem? (i := 2) rfl) dX5_sum_6 ?_
  exact hE _ _ _ _ _ _ dX5_sum_9 rfl (Nat.le_refl _) (Nat.le_refl _) hw
def W_X5_isClosed (s : zS) (Q : Int32 → zS → Prop) : Prop :=
    ∀ s1 : zS, s1 = sI s 5 0 →
    ((gI s1 2) ≤ 0 →
    Q 0 s1) ∧ (¬ (gI s1 2) ≤ 0 →
    vp_in ((gI s1 2) - 1) 10 ∧
    vp_in 0 10 ∧
    (¬ (gF s1 7 (ix ((gI s1 2) - 1))) = (gF s1 7 (ix 0)) →
    Q 0 s1) ∧ ((gF s1 7 (ix ((gI s1 2) - 1))) = (gF s1 7 (ix 0)) →
    (¬ (gI s1 3) = 0 →
    Q 0 s1) ∧ ((gI s1 3) = 0 →
    Q 1 s1)))
set_option maxHeartbeats 4000000 in
set_option maxRecDepth 100000 in
theorem c_X5_isClosed (l : Launch) (D : va_G) (b : Nat → Nat) (g : Nat → ClassId) (s : zS) (Q : Int32 → zS → Prop) (hw : W_X5_isClosed s Q) : zMi l D (zT g) yX5_isClosed wsX5_isClosed ({ frames := 0, cells := 0, slots := 0, locals := 0 } : Room) [.ref (b 0)] (WM b g) s (fun r u => Q r u) := by
  have i5 : ∀ w ∈ u_ws RX5 TX5 18, w ∈ wsX5_isClosed := fun _ h => (List.mem_cons_of_mem _ (List.mem_append_right _ h))
  refine zMi_start (cc := cX5_isClosed) (maxL := 1) (lv0 := [(0, .ref (b 0))]) (own := RX5) rfl (plainFor_of_name (by decide)) rfl (Nat.le_of_ble_eq_true rfl) rfl (fun X C hR hL hE => ?_)
  refine z_aload_n C 0 dX5_isClosed_0 rfl ?_
  refine z_iconst C 0 dX5_isClosed_1 (by decide) ?_
  refine zp5_thrown C i5 (List.mem_of_getElem? (i := 1) rfl) dX5_isClosed_2 ?_
  refine z_topsWM (fun s1 es1 => ?_)
  have hw := hw s1 es1
  refine z_aload_n C 0 dX5_isClosed_5 rfl ?_
  refine zg5_path C i5 (List.mem_of_getElem? (i := 2) rfl) dX5_isClosed_6 ?_
  refine z_if_le C 43 dX5_isClosed_9 (by decide) (fun hc => ?_) (fun hc => ?_)
  · have hw := hw.1 hc
    refine z_iconst C 0 dX5_isClosed_43 (by decide) ?_
    exact hE _ _ _ _ _ _ dX5_isClosed_44 rfl (Nat.le_refl _) (Nat.le_refl _) hw
  · have hw := hw.2 hc
    refine z_aload_n C 0 dX5_isClosed_12 rfl ?_
    refine zg5_steps C i5 (List.mem_of_getElem? (i := 3) rfl) dX5_isClosed_13 ?_
    refine z_aload_n C 0 dX5_isClosed_16 rfl ?_
    refine zg5_path C i5 (List.mem_of_getElem? (i := 2) rfl) dX5_isClosed_17 ?_
    refine z_iconst C 1 dX5_isClosed_20 (by decide) ?_
    refine z_isub C dX5_isClosed_21 ?_
    obtain ⟨b2, hw⟩ := hw
    refine zl5_steps C b2 dX5_isClosed_22 ?_
    refine z_aload_n C 0 dX5_isClosed_23 rfl ?_
    refine zg5_steps C i5 (List.mem_of_getElem? (i := 3) rfl) dX5_isClosed_24 ?_
    refine z_iconst C 0 dX5_isClosed_27 (by decide) ?_
    obtain ⟨b3, hw⟩ := hw
    refine zl5_steps C b3 dX5_isClosed_28 ?_
    refine z_icmp_ne C 43 dX5_isClosed_29 (by decide) (fun hc => ?_) (fun hc => ?_)
    · have hw := hw.1 hc
      refine z_iconst C 0 dX5_isClosed_43 (by decide) ?_
      exact hE _ _ _ _ _ _ dX5_isClosed_44 rfl (Nat.le_refl _) (Nat.le_refl _) hw
    · have hw := hw.2 hc
      refine z_aload_n C 0 dX5_isClosed_32 rfl ?_
      refine zg5_sum C i5 (List.mem_of_getElem? (i := 4) rfl) dX5_isClosed_33 ?_
      refine z_if_ne C 43 dX5_isClosed_36 (by decide) (fun hc => ?_) (fun hc => ?_)
      · have hw := hw.1 hc
        refine z_iconst C 0 dX5_isClosed_43 (by decide) ?_
        exact hE _ _ _ _ _ _ dX5_isClosed_44 rfl (Nat.le_refl _) (Nat.le_refl _) hw
      · have hw := hw.2 hc
        refine z_iconst C 1 dX5_isClosed_39 (by decide) ?_
        refine z_goto C 44 dX5_isClosed_40 (by decide) ?_
        exact hE _ _ _ _ _ _ dX5_isClosed_44 rfl (Nat.le_refl _) (Nat.le_refl _) hw
def W_X5_trees (s : zS) (p0 : Int32) (Q : Int64 → zS → Prop) : Prop :=
    W_X5_isStation s p0 (fun r1 =>
    ∃ k4 : Int32 → Prop, (∀ (v7 : Int32), k4 v7 →
    W_X5_goes s v7 (fun r8 s9 =>
    (¬ r8 = 0 →
    W_X5_finds s9 p0 (fun s12 =>
    Q (gJ s12 0) s12)) ∧ (r8 = 0 →
    Q 0 s9))) ∧ ((r1 = 0 →
    k4 1) ∧ (¬ r1 = 0 →
    k4 0)))
set_option maxHeartbeats 4000000 in
set_option maxRecDepth 100000 in
theorem c_X5_trees (l : Launch) (D : va_G) (b : Nat → Nat) (g : Nat → ClassId) (s : zS) (p0 : Int32) (Q : Int64 → zS → Prop) (hw : W_X5_trees s p0 Q) : zMl l D (zT g) yX5_trees wsX5_trees ({ frames := 3, cells := 0, slots := 0, locals := 66 } : Room) [.ref (b 0), .int p0] (WM b g) s (fun r u => Q r u) := by
  have i5 : ∀ w ∈ u_ws RX5 TX5 18, w ∈ wsX5_trees := fun _ h => (List.mem_cons_of_mem _ (List.mem_append_right _ h))
  refine zMl_start (cc := cX5_trees) (maxL := 2) (lv0 := [(0, .ref (b 0)), (1, .int p0)]) (own := RX5) rfl (plainFor_of_name (by decide)) rfl (Nat.le_of_ble_eq_true rfl) rfl (fun X C hR hL hE => ?_)
  refine z_aload_n C 0 dX5_trees_0 rfl ?_
  refine z_aload_n C 0 dX5_trees_1 rfl ?_
  refine z_iload_n C 1 dX5_trees_2 rfl ?_
  refine z_call0iV C hR hL (As := [.int p0]) (c_X5_isStation l D b g s p0 _ hw) gX5_trees_X5_isStation rfl ⟨by decide +kernel, by decide +kernel, (show (parseMethodDescriptor yX5_isStation.desc).map (fun d => d.parameters.length) = some 1 from by decide +kernel)⟩ ⟨rfl, rfl⟩ ⟨Nat.le_of_ble_eq_true rfl, Nat.le_of_ble_eq_true rfl⟩ ⟨Nat.le_of_ble_eq_true rfl, Nat.le_of_ble_eq_true rfl⟩ 0 5 rfl rfl rfl rfl (Nat.le_of_ble_eq_true rfl) dX5_trees_3 (fun r1 s2 h3 => ?_)
  obtain ⟨es2, hw⟩ := h3
  subst es2
  obtain ⟨k4, hk5, hw⟩ := hw
  have hj6 : ∀ (v7 : Int32), k4 v7 → zV X D 2 0 0 (WM b g s) 14 [(0, .ref (b 0)), (1, .int p0)] [.int v7, .ref (b 0)] := by
    intro v7 hw0
    have hw := hk5 v7 hw0
    refine z_call0iV C hR hL (As := [.int v7]) (c_X5_goes l D b g s v7 _ hw) gX5_trees_X5_goes rfl ⟨by decide +kernel, by decide +kernel, (show (parseMethodDescriptor yX5_goes.desc).map (fun d => d.parameters.length) = some 1 from by decide +kernel)⟩ ⟨rfl, rfl⟩ ⟨Nat.le_of_ble_eq_true rfl, Nat.le_of_ble_eq_true rfl⟩ ⟨Nat.le_of_ble_eq_true rfl, Nat.le_of_ble_eq_true rfl⟩ 0 5 rfl rfl rfl rfl (Nat.le_of_ble_eq_true rfl) dX5_trees_14 (fun r8 s9 h10 => ?_)
    have hw := h10
    refine z_if_ne C 22 dX5_trees_17 (by decide) (fun hc => ?_) (fun hc => ?_)
    · have hw := hw.1 hc
      refine z_aload_n C 0 dX5_trees_22 rfl ?_
      refine z_iload_n C 1 dX5_trees_23 rfl ?_
      refine z_call0vV C hR hL (As := [.int p0]) (c_X5_finds l D b g s9 p0 _ hw) gX5_trees_X5_finds rfl ⟨by decide +kernel, by decide +kernel, (show (parseMethodDescriptor yX5_finds.desc).map (fun d => d.parameters.length) = some 1 from by decide +kernel)⟩ ⟨rfl, rfl⟩ ⟨Nat.le_of_ble_eq_true rfl, Nat.le_of_ble_eq_true rfl⟩ ⟨Nat.le_of_ble_eq_true rfl, Nat.le_of_ble_eq_true rfl⟩ 0 5 rfl rfl rfl rfl (Nat.le_of_ble_eq_true rfl) dX5_trees_24 (fun s12 h13 => ?_)
      have hw := h13
      refine z_aload_n C 0 dX5_trees_27 rfl ?_
      refine zg5_trees C i5 (List.mem_of_getElem? (i := 1) rfl) dX5_trees_28 ?_
      exact hE _ _ _ _ _ _ dX5_trees_31 (Nat.le_refl _) (Nat.le_refl _) hw
    · have hw := hw.2 hc
      refine z_lconst C 0 dX5_trees_20 (by decide) ?_
      exact hE _ _ _ _ _ _ dX5_trees_21 (Nat.le_refl _) (Nat.le_refl _) hw
  refine z_if_eq C 13 dX5_trees_6 (by decide) (fun hc => ?_) (fun hc => ?_)
  · have hw := hw.1 hc
    refine z_iconst C 1 dX5_trees_13 (by decide) ?_
    exact hj6 _ hw
  · have hw := hw.2 hc
    refine z_iconst C 0 dX5_trees_9 (by decide) ?_
    refine z_goto C 14 dX5_trees_10 (by decide) ?_
    exact hj6 _ hw
def W_X5_parts_L27 (v11 : Int32) (v12 : Int32) (Q : Int32 → zS → Prop) (K : Int32 → zS → Prop) : Nat → Int32 → Int32 → zS → Prop
  | 0, _, _, _ => False
  | n + 1, v30, v31, s32 =>
    (v12 ≤ v31 →
    K v30 s32) ∧ (¬ v12 ≤ v31 →
    (v30 = 0 →
    ∀ x33 : Int32, x33 = 0 →
    ∀ x34 : Int32, x34 = v31 + 1 →
    W_X5_parts_L27 v11 v12 Q K n x33 x34 s32) ∧ (¬ v30 = 0 →
    vp_in v31 6 ∧
    (¬ (gF s32 8 (ix v31)) = 0 →
    ∀ x36 : Int32, x36 = 0 →
    ∀ x37 : Int32, x37 = v31 + 1 →
    W_X5_parts_L27 v11 v12 Q K n x36 x37 s32) ∧ ((gF s32 8 (ix v31)) = 0 →
    ∀ x38 : Int32, x38 = 1 →
    ∀ x39 : Int32, x39 = v31 + 1 →
    W_X5_parts_L27 v11 v12 Q K n x38 x39 s32)))
def W_X5_parts_L9 (Q : Int32 → zS → Prop) (K : Int32 → zS → Prop) : Nat → Int32 → Int32 → zS → Prop
  | 0, _, _, _ => False
  | n + 1, v11, v12, s13 =>
    ((gI s13 0) ≤ v12 →
    K v11 s13) ∧ (¬ (gI s13 0) ≤ v12 →
    W_X5_reaches s13 v12 (fun s15 =>
    ∀ x17 : Int32, x17 = 1 →
    ∀ x18 : Int32, x18 = 0 →
    ∃ (K19 : Int32 → zS → Prop) (n20 : Nat), (∀ (v24 : Int32) (s25 : zS), K19 v24 s25 →
    (v24 = 0 →
    ∀ x26 : Int32, x26 = (v11 + 0) →
    ∀ x27 : Int32, x27 = v12 + 1 →
    W_X5_parts_L9 Q K n x26 x27 s25) ∧ (¬ v24 = 0 →
    ∀ x28 : Int32, x28 = (v11 + 1) →
    ∀ x29 : Int32, x29 = v12 + 1 →
    W_X5_parts_L9 Q K n x28 x29 s25)) ∧ W_X5_parts_L27 v11 v12 Q K19 n20 x17 x18 s15))
def W_X5_parts (s : zS) (Q : Int32 → zS → Prop) : Prop :=
    ∀ s1 : zS, s1 = sI s 5 0 →
    ∀ x2 : Int32, x2 = 0 →
    ∀ x3 : Int32, x3 = 0 →
    ∃ (K4 : Int32 → zS → Prop) (n5 : Nat), (∀ (v9 : Int32) (s10 : zS), K4 v9 s10 →
    Q v9 s10) ∧ W_X5_parts_L9 Q K4 n5 x2 x3 s1
set_option maxHeartbeats 4000000 in
set_option maxRecDepth 100000 in
theorem c_X5_parts (l : Launch) (D : va_G) (b : Nat → Nat) (g : Nat → ClassId) (s : zS) (Q : Int32 → zS → Prop) (hw : W_X5_parts s Q) : zMi l D (zT g) yX5_parts wsX5_parts ({ frames := 1, cells := 0, slots := 0, locals := 23 } : Room) [.ref (b 0)] (WM b g) s (fun r u => Q r u) := by
  have i5 : ∀ w ∈ u_ws RX5 TX5 18, w ∈ wsX5_parts := fun _ h => (List.mem_cons_of_mem _ (List.mem_append_right _ h))
  refine zMi_start (cc := cX5_parts) (maxL := 5) (lv0 := [(0, .ref (b 0))]) (own := RX5) rfl (plainFor_of_name (by decide)) rfl (Nat.le_of_ble_eq_true rfl) rfl (fun X C hR hL hE => ?_)
  refine z_aload_n C 0 dX5_parts_0 rfl ?_
  refine z_iconst C 0 dX5_parts_1 (by decide) ?_
  refine zp5_thrown C i5 (List.mem_of_getElem? (i := 1) rfl) dX5_parts_2 ?_
  refine z_topsWM (fun s1 es1 => ?_)
  have hw := hw s1 es1
  refine z_iconst C 0 dX5_parts_5 (by decide) ?_
  refine z_topi (fun x2 ex2 => ?_)
  have hw := hw x2 ex2
  refine z_istore_n (lv' := [(1, .int x2), (0, .ref (b 0))]) C 1 dX5_parts_6 rfl (by decide) rfl ?_
  refine z_iconst C 0 dX5_parts_7 (by decide) ?_
  refine z_topi (fun x3 ex3 => ?_)
  have hw := hw x3 ex3
  refine z_istore_n (lv' := [(2, .int x3), (1, .int x2), (0, .ref (b 0))]) C 2 dX5_parts_8 rfl (by decide) rfl ?_
  refine z_sub (lv' := [(0, .ref (b 0)), (1, .int x2), (2, .int x3)]) [2, 1, 0] rfl ?_
  obtain ⟨K4, n5, hK6, hw⟩ := hw
  have hx7 : ∀ (v9 : Int32) (s10 : zS), K4 v9 s10 → zV X D 5 0 0 (WM b g s10) 77 [(1, .int v9)] [] := by
    intro v9 s10 hw0
    have hw := hK6 v9 s10 hw0
    refine z_iload_n C 0 dX5_parts_77 rfl ?_
    exact hE _ _ _ _ _ _ dX5_parts_78 rfl (Nat.le_refl _) (Nat.le_refl _) hw
  have lp8 : ∀ (n : Nat) (v11 : Int32) (v12 : Int32) (s13 : zS), W_X5_parts_L9 Q K4 n v11 v12 s13 → zV X D 5 0 0 (WM b g s13) 9 [(0, .ref (b 0)), (1, .int v11), (2, .int v12)] [] := by
    intro n
    induction n with
    | zero => intro v11 v12 s13 hw; exact False.elim hw
    | succ n ih =>
      intro v11 v12 s13 hw
      refine z_iload_n C 2 dX5_parts_9 rfl ?_
      refine z_aload_n C 0 dX5_parts_10 rfl ?_
      refine zg5_stations C i5 (List.mem_of_getElem? (i := 2) rfl) dX5_parts_11 ?_
      refine z_icmp_ge C 77 dX5_parts_14 (by decide) (fun hc => ?_) (fun hc => ?_)
      · have hw := hw.1 hc
        refine z_sub (lv' := [(1, .int v11)]) [1] rfl ?_
        exact hx7 _ _ hw
      · have hw := hw.2 hc
        refine z_aload_n C 0 dX5_parts_17 rfl ?_
        refine z_iload_n C 2 dX5_parts_18 rfl ?_
        refine z_call0vV C hR hL (As := [.int v12]) (c_X5_reaches l D b g s13 v12 _ hw) gX5_parts_X5_reaches rfl ⟨by decide +kernel, by decide +kernel, (show (parseMethodDescriptor yX5_reaches.desc).map (fun d => d.parameters.length) = some 1 from by decide +kernel)⟩ ⟨rfl, rfl⟩ ⟨Nat.le_of_ble_eq_true rfl, Nat.le_of_ble_eq_true rfl⟩ ⟨Nat.le_of_ble_eq_true rfl, Nat.le_of_ble_eq_true rfl⟩ 0 5 rfl rfl rfl rfl (Nat.le_of_ble_eq_true rfl) dX5_parts_19 (fun s15 h16 => ?_)
        have hw := h16
        refine z_iconst C 1 dX5_parts_22 (by decide) ?_
        refine z_topi (fun x17 ex17 => ?_)
        have hw := hw x17 ex17
        refine z_istore_n (lv' := [(3, .int x17), (0, .ref (b 0)), (1, .int v11), (2, .int v12)]) C 3 dX5_parts_23 rfl (by decide) rfl ?_
        refine z_iconst C 0 dX5_parts_24 (by decide) ?_
        refine z_topi (fun x18 ex18 => ?_)
        have hw := hw x18 ex18
        refine z_istore (lv' := [(4, .int x18), (3, .int x17), (0, .ref (b 0)), (1, .int v11), (2, .int v12)]) C dX5_parts_25 (by decide) rfl ?_
        refine z_sub (lv' := [(0, .ref (b 0)), (1, .int v11), (2, .int v12), (3, .int x17), (4, .int x18)]) [2, 3, 4, 1, 0] rfl ?_
        obtain ⟨K19, n20, hK21, hw⟩ := hw
        have hx22 : ∀ (v24 : Int32) (s25 : zS), K19 v24 s25 → zV X D 5 0 0 (WM b g s25) 59 [(0, .ref (b 0)), (1, .int v11), (2, .int v12), (3, .int v24)] [] := by
          intro v24 s25 hw0
          have hw := hK21 v24 s25 hw0
          refine z_iload_n C 1 dX5_parts_59 rfl ?_
          refine z_iload_n C 3 dX5_parts_60 rfl ?_
          refine z_if_eq C 68 dX5_parts_61 (by decide) (fun hc => ?_) (fun hc => ?_)
          · have hw := hw.1 hc
            refine z_iconst C 0 dX5_parts_68 (by decide) ?_
            refine z_iadd C dX5_parts_69 ?_
            refine z_topi (fun x26 ex26 => ?_)
            have hw := hw x26 ex26
            refine z_istore_n (lv' := [(1, .int x26), (0, .ref (b 0)), (2, .int v12), (3, .int v24)]) C 1 dX5_parts_70 rfl (by decide) rfl ?_
            obtain ⟨x27, ex27⟩ : ∃ z : Int32, z = v12 + 1 := ⟨_, rfl⟩
            have hw := hw x27 ex27
            refine z_iinc (lv' := [(2, .int x27), (1, .int x26), (0, .ref (b 0)), (3, .int v24)]) C 2 dX5_parts_71 rfl (by rw [ex27]; rfl) (by decide) rfl ?_
            refine z_goto C 9 dX5_parts_74 (by decide) ?_
            refine z_sub (lv' := [(0, .ref (b 0)), (1, .int x26), (2, .int x27)]) [2, 1, 0] rfl ?_
            exact ih _ _ _ hw
          · have hw := hw.2 hc
            refine z_iconst C 1 dX5_parts_64 (by decide) ?_
            refine z_goto C 69 dX5_parts_65 (by decide) ?_
            refine z_iadd C dX5_parts_69 ?_
            refine z_topi (fun x28 ex28 => ?_)
            have hw := hw x28 ex28
            refine z_istore_n (lv' := [(1, .int x28), (0, .ref (b 0)), (2, .int v12), (3, .int v24)]) C 1 dX5_parts_70 rfl (by decide) rfl ?_
            obtain ⟨x29, ex29⟩ : ∃ z : Int32, z = v12 + 1 := ⟨_, rfl⟩
            have hw := hw x29 ex29
            refine z_iinc (lv' := [(2, .int x29), (1, .int x28), (0, .ref (b 0)), (3, .int v24)]) C 2 dX5_parts_71 rfl (by rw [ex29]; rfl) (by decide) rfl ?_
            refine z_goto C 9 dX5_parts_74 (by decide) ?_
            refine z_sub (lv' := [(0, .ref (b 0)), (1, .int x28), (2, .int x29)]) [2, 1, 0] rfl ?_
            exact ih _ _ _ hw
        have lp23 : ∀ (n : Nat) (v30 : Int32) (v31 : Int32) (s32 : zS), W_X5_parts_L27 v11 v12 Q K19 n v30 v31 s32 → zV X D 5 0 0 (WM b g s32) 27 [(0, .ref (b 0)), (1, .int v11), (2, .int v12), (3, .int v30), (4, .int v31)] [] := by
          intro n
          induction n with
          | zero => intro v30 v31 s32 hw; exact False.elim hw
          | succ n ih =>
            intro v30 v31 s32 hw
            refine z_iload C 4 dX5_parts_27 rfl ?_
            refine z_iload_n C 2 dX5_parts_29 rfl ?_
            refine z_icmp_ge C 59 dX5_parts_30 (by decide) (fun hc => ?_) (fun hc => ?_)
            · have hw := hw.1 hc
              refine z_sub (lv' := [(0, .ref (b 0)), (1, .int v11), (2, .int v12), (3, .int v30)]) [0, 1, 2, 3] rfl ?_
              exact hx22 _ _ hw
            · have hw := hw.2 hc
              refine z_iload_n C 3 dX5_parts_33 rfl ?_
              refine z_if_eq C 51 dX5_parts_34 (by decide) (fun hc => ?_) (fun hc => ?_)
              · have hw := hw.1 hc
                refine z_iconst C 0 dX5_parts_51 (by decide) ?_
                refine z_topi (fun x33 ex33 => ?_)
                have hw := hw x33 ex33
                refine z_istore_n (lv' := [(3, .int x33), (0, .ref (b 0)), (1, .int v11), (2, .int v12), (4, .int v31)]) C 3 dX5_parts_52 rfl (by decide) rfl ?_
                obtain ⟨x34, ex34⟩ : ∃ z : Int32, z = v31 + 1 := ⟨_, rfl⟩
                have hw := hw x34 ex34
                refine z_iinc (lv' := [(4, .int x34), (3, .int x33), (0, .ref (b 0)), (1, .int v11), (2, .int v12)]) C 4 dX5_parts_53 rfl (by rw [ex34]; rfl) (by decide) rfl ?_
                refine z_goto C 27 dX5_parts_56 (by decide) ?_
                refine z_sub (lv' := [(0, .ref (b 0)), (1, .int v11), (2, .int v12), (3, .int x33), (4, .int x34)]) [2, 3, 4, 1, 0] rfl ?_
                exact ih _ _ _ hw
              · have hw := hw.2 hc
                refine z_aload_n C 0 dX5_parts_37 rfl ?_
                refine zg5_isIn C i5 (List.mem_of_getElem? (i := 3) rfl) dX5_parts_38 ?_
                refine z_iload C 4 dX5_parts_41 rfl ?_
                obtain ⟨b35, hw⟩ := hw
                refine zl5_isIn C b35 dX5_parts_43 ?_
                refine z_if_ne C 51 dX5_parts_44 (by decide) (fun hc => ?_) (fun hc => ?_)
                · have hw := hw.1 hc
                  refine z_iconst C 0 dX5_parts_51 (by decide) ?_
                  refine z_topi (fun x36 ex36 => ?_)
                  have hw := hw x36 ex36
                  refine z_istore_n (lv' := [(3, .int x36), (0, .ref (b 0)), (1, .int v11), (2, .int v12), (4, .int v31)]) C 3 dX5_parts_52 rfl (by decide) rfl ?_
                  obtain ⟨x37, ex37⟩ : ∃ z : Int32, z = v31 + 1 := ⟨_, rfl⟩
                  have hw := hw x37 ex37
                  refine z_iinc (lv' := [(4, .int x37), (3, .int x36), (0, .ref (b 0)), (1, .int v11), (2, .int v12)]) C 4 dX5_parts_53 rfl (by rw [ex37]; rfl) (by decide) rfl ?_
                  refine z_goto C 27 dX5_parts_56 (by decide) ?_
                  refine z_sub (lv' := [(0, .ref (b 0)), (1, .int v11), (2, .int v12), (3, .int x36), (4, .int x37)]) [2, 3, 4, 1, 0] rfl ?_
                  exact ih _ _ _ hw
                · have hw := hw.2 hc
                  refine z_iconst C 1 dX5_parts_47 (by decide) ?_
                  refine z_goto C 52 dX5_parts_48 (by decide) ?_
                  refine z_topi (fun x38 ex38 => ?_)
                  have hw := hw x38 ex38
                  refine z_istore_n (lv' := [(3, .int x38), (0, .ref (b 0)), (1, .int v11), (2, .int v12), (4, .int v31)]) C 3 dX5_parts_52 rfl (by decide) rfl ?_
                  obtain ⟨x39, ex39⟩ : ∃ z : Int32, z = v31 + 1 := ⟨_, rfl⟩
                  have hw := hw x39 ex39
                  refine z_iinc (lv' := [(4, .int x39), (3, .int x38), (0, .ref (b 0)), (1, .int v11), (2, .int v12)]) C 4 dX5_parts_53 rfl (by rw [ex39]; rfl) (by decide) rfl ?_
                  refine z_goto C 27 dX5_parts_56 (by decide) ?_
                  refine z_sub (lv' := [(0, .ref (b 0)), (1, .int v11), (2, .int v12), (3, .int x38), (4, .int x39)]) [2, 3, 4, 1, 0] rfl ?_
                  exact ih _ _ _ hw
        exact lp23 n20 _ _ _ hw
  exact lp8 n5 _ _ _ hw
