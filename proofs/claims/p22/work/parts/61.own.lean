/-! THE METHODS OF THE CLASS ITSELF -/
def W_X4_end (s : zS) (Q : Int32 → zS → Prop) : Prop :=
    W_X2_clear s (fun r1 s2 =>
    Q r1 s2)
set_option maxHeartbeats 4000000 in
set_option maxRecDepth 100000 in
theorem c_X4_end (l : Launch) (D : va_G) (a : Nat → Nat) (g : Nat → ClassId) (s : zS) (Q : Int32 → zS → Prop) (hw : W_X4_end s Q) : zMi l D (zT g) yX4_end wsX4_end ({ frames := 1, cells := 0, slots := 0, locals := 21 } : Room) [.ref (a 0)] (WX a g) s (fun r u => Q r u) := by
  have i4 : ∀ w ∈ u_ws RX4 TX4 4, w ∈ wsX4_end := fun _ h => (List.mem_cons_of_mem _ (List.mem_append_left _ (List.mem_append_right _ h)))
  refine zMi_start (cc := cX4_end) (maxL := 1) (lv0 := [(0, .ref (a 0))]) (own := RX4) rfl (plainFor_of_name (by decide)) rfl (Nat.le_of_ble_eq_true rfl) rfl (fun X C hR hL hE => ?_)
  refine z_aload_n C 0 dX4_end_0 rfl ?_
  refine zg4_path C i4 (List.mem_of_getElem? (i := 1) rfl) dX4_end_1 ?_
  refine z_call0iV C hR hL (As := []) (c_X2_clear l D a g s _ hw) gX4_end_X2_clear rfl ⟨by decide +kernel, by decide +kernel, (show (parseMethodDescriptor yX2_clear.desc).map (fun d => d.parameters.length) = some 0 from by decide +kernel)⟩ ⟨rfl, rfl⟩ ⟨Nat.le_of_ble_eq_true rfl, Nat.le_of_ble_eq_true rfl⟩ ⟨Nat.le_of_ble_eq_true rfl, Nat.le_of_ble_eq_true rfl⟩ 4 2 rfl rfl rfl rfl (Nat.le_of_ble_eq_true rfl) dX4_end_4 (fun r1 s2 h3 => ?_)
  have hw := h3
  exact hE _ _ _ _ _ _ dX4_end_7 rfl (Nat.le_refl _) (Nat.le_refl _) hw
def W_X4_sum (s : zS) (Q : Int32 → Prop) : Prop :=
    Q (gI s 11)
set_option maxHeartbeats 4000000 in
set_option maxRecDepth 100000 in
theorem c_X4_sum (l : Launch) (D : va_G) (a : Nat → Nat) (g : Nat → ClassId) (s : zS) (Q : Int32 → Prop) (hw : W_X4_sum s Q) : zMi l D (zT g) yX4_sum wsX4_sum ({ frames := 0, cells := 0, slots := 0, locals := 0 } : Room) [.ref (a 0)] (WX a g) s (fun r u => s = u ∧ Q r) := by
  have i2 : ∀ w ∈ u_ws RX2 TX2 4, w ∈ wsX4_sum := fun _ h => (List.mem_cons_of_mem _ (List.mem_append_right _ h))
  have i4 : ∀ w ∈ u_ws RX4 TX4 4, w ∈ wsX4_sum := fun _ h => (List.mem_cons_of_mem _ (List.mem_append_left _ (List.mem_append_right _ h)))
  refine zMi_start (cc := cX4_sum) (maxL := 1) (lv0 := [(0, .ref (a 0))]) (own := RX4) rfl (plainFor_of_name (by decide)) rfl (Nat.le_of_ble_eq_true rfl) rfl (fun X C hR hL hE => ?_)
  refine z_aload_n C 0 dX4_sum_0 rfl ?_
  refine zg4_path C i4 (List.mem_of_getElem? (i := 1) rfl) dX4_sum_1 ?_
  refine zg2_total C i2 (List.mem_of_getElem? (i := 2) rfl) dX4_sum_4 ?_
  exact hE _ _ _ _ _ _ dX4_sum_7 rfl (Nat.le_refl _) (Nat.le_refl _) ⟨rfl, hw⟩
def W_X4_isClosed (s : zS) (Q : Int32 → Prop) : Prop :=
    ((gI s 8) ≤ 0 →
    Q 0) ∧ (¬ (gI s 8) ≤ 0 →
    (¬ (gI s 9) = (gI s 10) →
    Q 0) ∧ ((gI s 9) = (gI s 10) →
    (¬ (gI s 11) = 0 →
    Q 0) ∧ ((gI s 11) = 0 →
    Q 1)))
set_option maxHeartbeats 4000000 in
set_option maxRecDepth 100000 in
theorem c_X4_isClosed (l : Launch) (D : va_G) (a : Nat → Nat) (g : Nat → ClassId) (s : zS) (Q : Int32 → Prop) (hw : W_X4_isClosed s Q) : zMi l D (zT g) yX4_isClosed wsX4_isClosed ({ frames := 0, cells := 0, slots := 0, locals := 0 } : Room) [.ref (a 0)] (WX a g) s (fun r u => s = u ∧ Q r) := by
  have i2 : ∀ w ∈ u_ws RX2 TX2 4, w ∈ wsX4_isClosed := fun _ h => (List.mem_cons_of_mem _ (List.mem_append_right _ h))
  have i4 : ∀ w ∈ u_ws RX4 TX4 4, w ∈ wsX4_isClosed := fun _ h => (List.mem_cons_of_mem _ (List.mem_append_left _ (List.mem_append_right _ h)))
  refine zMi_start (cc := cX4_isClosed) (maxL := 1) (lv0 := [(0, .ref (a 0))]) (own := RX4) rfl (plainFor_of_name (by decide)) rfl (Nat.le_of_ble_eq_true rfl) rfl (fun X C hR hL hE => ?_)
  refine z_aload_n C 0 dX4_isClosed_0 rfl ?_
  refine zg4_path C i4 (List.mem_of_getElem? (i := 1) rfl) dX4_isClosed_1 ?_
  refine zg2_length C i2 (List.mem_of_getElem? (i := 2) rfl) dX4_isClosed_4 ?_
  refine z_if_le C 41 dX4_isClosed_7 (by decide) (fun hc => ?_) (fun hc => ?_)
  · have hw := hw.1 hc
    refine z_iconst C 0 dX4_isClosed_41 (by decide) ?_
    exact hE _ _ _ _ _ _ dX4_isClosed_42 rfl (Nat.le_refl _) (Nat.le_refl _) ⟨rfl, hw⟩
  · have hw := hw.2 hc
    refine z_aload_n C 0 dX4_isClosed_10 rfl ?_
    refine zg4_path C i4 (List.mem_of_getElem? (i := 1) rfl) dX4_isClosed_11 ?_
    refine zg2_first C i2 (List.mem_of_getElem? (i := 3) rfl) dX4_isClosed_14 ?_
    refine z_aload_n C 0 dX4_isClosed_17 rfl ?_
    refine zg4_path C i4 (List.mem_of_getElem? (i := 1) rfl) dX4_isClosed_18 ?_
    refine zg2_last C i2 (List.mem_of_getElem? (i := 4) rfl) dX4_isClosed_21 ?_
    refine z_icmp_ne C 41 dX4_isClosed_24 (by decide) (fun hc => ?_) (fun hc => ?_)
    · have hw := hw.1 hc
      refine z_iconst C 0 dX4_isClosed_41 (by decide) ?_
      exact hE _ _ _ _ _ _ dX4_isClosed_42 rfl (Nat.le_refl _) (Nat.le_refl _) ⟨rfl, hw⟩
    · have hw := hw.2 hc
      refine z_aload_n C 0 dX4_isClosed_27 rfl ?_
      refine zg4_path C i4 (List.mem_of_getElem? (i := 1) rfl) dX4_isClosed_28 ?_
      refine zg2_total C i2 (List.mem_of_getElem? (i := 5) rfl) dX4_isClosed_31 ?_
      refine z_if_ne C 41 dX4_isClosed_34 (by decide) (fun hc => ?_) (fun hc => ?_)
      · have hw := hw.1 hc
        refine z_iconst C 0 dX4_isClosed_41 (by decide) ?_
        exact hE _ _ _ _ _ _ dX4_isClosed_42 rfl (Nat.le_refl _) (Nat.le_refl _) ⟨rfl, hw⟩
      · have hw := hw.2 hc
        refine z_iconst C 1 dX4_isClosed_37 (by decide) ?_
        refine z_goto C 42 dX4_isClosed_38 (by decide) ?_
        exact hE _ _ _ _ _ _ dX4_isClosed_42 rfl (Nat.le_refl _) (Nat.le_refl _) ⟨rfl, hw⟩
def W_X4_worst (s : zS) (Q : Int32 → zS → Prop) : Prop :=
    W_X0_worstObservation s (fun r1 s2 =>
    Q r1 s2)
set_option maxHeartbeats 4000000 in
set_option maxRecDepth 100000 in
theorem c_X4_worst (l : Launch) (D : va_G) (a : Nat → Nat) (g : Nat → ClassId) (s : zS) (Q : Int32 → zS → Prop) (hw : W_X4_worst s Q) : zMi l D (zT g) yX4_worst wsX4_worst ({ frames := 6, cells := 0, slots := 0, locals := 155 } : Room) [.ref (a 0)] (WX a g) s (fun r u => Q r u) := by
  have i4 : ∀ w ∈ u_ws RX4 TX4 4, w ∈ wsX4_worst := fun _ h => (List.mem_cons_of_mem _ (List.mem_append_left _ (List.mem_append_left _ (List.mem_append_right _ h))))
  refine zMi_start (cc := cX4_worst) (maxL := 1) (lv0 := [(0, .ref (a 0))]) (own := RX4) rfl (plainFor_of_name (by decide)) rfl (Nat.le_of_ble_eq_true rfl) rfl (fun X C hR hL hE => ?_)
  refine z_aload_n C 0 dX4_worst_0 rfl ?_
  refine zg4_adjustment C i4 (List.mem_of_getElem? (i := 1) rfl) dX4_worst_1 ?_
  refine z_call0iV C hR hL (As := []) (c_X0_worstObservation l D a g s _ hw) gX4_worst_X0_worstObservation rfl ⟨by decide +kernel, by decide +kernel, (show (parseMethodDescriptor yX0_worstObservation.desc).map (fun d => d.parameters.length) = some 0 from by decide +kernel)⟩ ⟨rfl, rfl⟩ ⟨Nat.le_of_ble_eq_true rfl, Nat.le_of_ble_eq_true rfl⟩ ⟨Nat.le_of_ble_eq_true rfl, Nat.le_of_ble_eq_true rfl⟩ 2 0 rfl rfl rfl rfl (Nat.le_of_ble_eq_true rfl) dX4_worst_4 (fun r1 s2 h3 => ?_)
  have hw := h3
  exact hE _ _ _ _ _ _ dX4_worst_7 rfl (Nat.le_refl _) (Nat.le_refl _) hw
def W_X4_parts (s : zS) (Q : Int32 → Prop) : Prop :=
    W_X1_countParts s (fun r1 =>
    Q r1)
set_option maxHeartbeats 4000000 in
set_option maxRecDepth 100000 in
theorem c_X4_parts (l : Launch) (D : va_G) (a : Nat → Nat) (g : Nat → ClassId) (s : zS) (Q : Int32 → Prop) (hw : W_X4_parts s Q) : zMi l D (zT g) yX4_parts wsX4_parts ({ frames := 1, cells := 0, slots := 0, locals := 22 } : Room) [.ref (a 0)] (WX a g) s (fun r u => s = u ∧ Q r) := by
  have i4 : ∀ w ∈ u_ws RX4 TX4 4, w ∈ wsX4_parts := fun _ h => (List.mem_cons_of_mem _ (List.mem_append_left _ (List.mem_append_right _ h)))
  refine zMi_start (cc := cX4_parts) (maxL := 1) (lv0 := [(0, .ref (a 0))]) (own := RX4) rfl (plainFor_of_name (by decide)) rfl (Nat.le_of_ble_eq_true rfl) rfl (fun X C hR hL hE => ?_)
  refine z_aload_n C 0 dX4_parts_0 rfl ?_
  refine zg4_net C i4 (List.mem_of_getElem? (i := 1) rfl) dX4_parts_1 ?_
  refine z_call0iV C hR hL (As := []) (c_X1_countParts l D a g s _ hw) gX4_parts_X1_countParts rfl ⟨by decide +kernel, by decide +kernel, (show (parseMethodDescriptor yX1_countParts.desc).map (fun d => d.parameters.length) = some 0 from by decide +kernel)⟩ ⟨rfl, rfl⟩ ⟨Nat.le_of_ble_eq_true rfl, Nat.le_of_ble_eq_true rfl⟩ ⟨Nat.le_of_ble_eq_true rfl, Nat.le_of_ble_eq_true rfl⟩ 1 1 rfl rfl rfl rfl (Nat.le_of_ble_eq_true rfl) dX4_parts_4 (fun r1 s2 h3 => ?_)
  obtain ⟨es2, hw⟩ := h3
  subst es2
  exact hE _ _ _ _ _ _ dX4_parts_7 rfl (Nat.le_refl _) (Nat.le_refl _) ⟨rfl, hw⟩
def W_X4_needStation (s : zS) (p0 : Int32) (Q : zS → Prop) (PX : String → zS → Prop) : Prop :=
    W_X1_hasStation s p0 (fun r1 =>
    (¬ r1 = 0 →
    Q s) ∧ (r1 = 0 →
    PX "java/lang/IndexOutOfBoundsException" s))
set_option maxHeartbeats 4000000 in
set_option maxRecDepth 100000 in
theorem c_X4_needStation (l : Launch) (hst : l.stackTraces = false) (D : va_G) (a : Nat → Nat) (g : Nat → ClassId) (ea : Nat → Nat) (s : zS) (p0 : Int32) (Q : zS → Prop) (PX : String → zS → Prop) (hw : W_X4_needStation s p0 Q PX) : zXv l D (zT g) ea yX4_needStation wsX4_needStation ({ frames := 6, cells := 1, slots := 6, locals := 86 } : Room) [.ref (a 0), .int p0] (WX a g) s (fun u => Q u) PX := by
  have i4 : ∀ w ∈ u_ws RX4 TX4 4, w ∈ wsX4_needStation := fun _ h => (List.mem_cons_of_mem _ (List.mem_append_left _ (List.mem_append_left _ (List.mem_append_right _ h))))
  refine zXv_start (cc := cX4_needStation) (maxL := 2) (lv0 := [(0, .ref (a 0)), (1, .int p0)]) (own := RX4) hst rfl (by decide +kernel) rfl (Nat.le_of_ble_eq_true rfl) rfl (fun X C hR hL CX XE hE => ?_)
  refine z_aload_n C 0 dX4_needStation_0 rfl ?_
  refine zg4_net C i4 (List.mem_of_getElem? (i := 3) rfl) dX4_needStation_1 ?_
  refine z_iload_n C 1 dX4_needStation_4 rfl ?_
  refine z_call0iV C hR hL (As := [.int p0]) (c_X1_hasStation l D a g s p0 _ hw) gX4_needStation_X1_hasStation rfl ⟨by decide +kernel, by decide +kernel, (show (parseMethodDescriptor yX1_hasStation.desc).map (fun d => d.parameters.length) = some 1 from by decide +kernel)⟩ ⟨rfl, rfl⟩ ⟨Nat.le_of_ble_eq_true rfl, Nat.le_of_ble_eq_true rfl⟩ ⟨Nat.le_of_ble_eq_true rfl, Nat.le_of_ble_eq_true rfl⟩ 1 1 rfl rfl rfl rfl (Nat.le_of_ble_eq_true rfl) dX4_needStation_5 (fun r1 s2 h3 => ?_)
  obtain ⟨es2, hw⟩ := h3
  subst es2
  refine z_if_ne C 21 dX4_needStation_8 (by decide) (fun hc => ?_) (fun hc => ?_)
  · have hw := hw.1 hc
    exact hE _ _ _ _ _ dX4_needStation_21 (Nat.le_of_ble_eq_true rfl) (Nat.le_of_ble_eq_true rfl) hw
  · have hw := hw.2 hc
    exact z_throw C CX hR XE "java/lang/IndexOutOfBoundsException" "there is no such station" (by decide +kernel) (by decide +kernel) (List.mem_of_getElem? (i := 1) rfl) (List.mem_of_getElem? (i := 2) rfl) (fun _ h => h.2.2.2.2.2.2.2.2.2.2.2.2.2.2.2.1) (fun _ h => (List.mem_cons_of_mem _ (List.mem_append_right _ h))) (Bx := [.castable nIOB nIOB, .declares (Bundle.initS "java/lang/RuntimeException"), .declares (Bundle.initS "java/lang/Exception"), .declares (Bundle.initS Bundle.tN)]) (by decide +kernel) (fun _ h _ => vx_c h.2.2.1 (vx_c h.2.2.2.1 (vx_c h.2.2.2.2.1 (vx_c h.2.2.2.2.2.1 vx_n)))) (by decide +kernel) dX4_needStation_11 dX4_needStation_14 dX4_needStation_15 dX4_needStation_17 dX4_needStation_20 ⟨Nat.le_of_ble_eq_true rfl, Nat.le_of_ble_eq_true rfl, Nat.le_of_ble_eq_true rfl, Nat.le_of_ble_eq_true rfl⟩ hw
def W_X4_needObservation (s : zS) (p0 : Int32) (Q : zS → Prop) (PX : String → zS → Prop) : Prop :=
    W_X1_hasObservation s p0 (fun r1 =>
    (¬ r1 = 0 →
    Q s) ∧ (r1 = 0 →
    PX "java/lang/IndexOutOfBoundsException" s))
set_option maxHeartbeats 4000000 in
set_option maxRecDepth 100000 in
theorem c_X4_needObservation (l : Launch) (hst : l.stackTraces = false) (D : va_G) (a : Nat → Nat) (g : Nat → ClassId) (ea : Nat → Nat) (s : zS) (p0 : Int32) (Q : zS → Prop) (PX : String → zS → Prop) (hw : W_X4_needObservation s p0 Q PX) : zXv l D (zT g) ea yX4_needObservation wsX4_needObservation ({ frames := 6, cells := 1, slots := 6, locals := 86 } : Room) [.ref (a 0), .int p0] (WX a g) s (fun u => Q u) PX := by
  have i4 : ∀ w ∈ u_ws RX4 TX4 4, w ∈ wsX4_needObservation := fun _ h => (List.mem_cons_of_mem _ (List.mem_append_left _ (List.mem_append_left _ (List.mem_append_right _ h))))
  refine zXv_start (cc := cX4_needObservation) (maxL := 2) (lv0 := [(0, .ref (a 0)), (1, .int p0)]) (own := RX4) hst rfl (by decide +kernel) rfl (Nat.le_of_ble_eq_true rfl) rfl (fun X C hR hL CX XE hE => ?_)
  refine z_aload_n C 0 dX4_needObservation_0 rfl ?_
  refine zg4_net C i4 (List.mem_of_getElem? (i := 3) rfl) dX4_needObservation_1 ?_
  refine z_iload_n C 1 dX4_needObservation_4 rfl ?_
  refine z_call0iV C hR hL (As := [.int p0]) (c_X1_hasObservation l D a g s p0 _ hw) gX4_needObservation_X1_hasObservation rfl ⟨by decide +kernel, by decide +kernel, (show (parseMethodDescriptor yX1_hasObservation.desc).map (fun d => d.parameters.length) = some 1 from by decide +kernel)⟩ ⟨rfl, rfl⟩ ⟨Nat.le_of_ble_eq_true rfl, Nat.le_of_ble_eq_true rfl⟩ ⟨Nat.le_of_ble_eq_true rfl, Nat.le_of_ble_eq_true rfl⟩ 1 1 rfl rfl rfl rfl (Nat.le_of_ble_eq_true rfl) dX4_needObservation_5 (fun r1 s2 h3 => ?_)
  obtain ⟨es2, hw⟩ := h3
  subst es2
  refine z_if_ne C 21 dX4_needObservation_8 (by decide) (fun hc => ?_) (fun hc => ?_)
  · have hw := hw.1 hc
    exact hE _ _ _ _ _ dX4_needObservation_21 (Nat.le_of_ble_eq_true rfl) (Nat.le_of_ble_eq_true rfl) hw
  · have hw := hw.2 hc
    exact z_throw C CX hR XE "java/lang/IndexOutOfBoundsException" "there is no such observation" (by decide +kernel) (by decide +kernel) (List.mem_of_getElem? (i := 1) rfl) (List.mem_of_getElem? (i := 2) rfl) (fun _ h => h.2.2.2.2.2.2.2.2.2.2.2.2.2.2.2.2.1) (fun _ h => (List.mem_cons_of_mem _ (List.mem_append_right _ h))) (Bx := [.castable nIOB nIOB, .declares (Bundle.initS "java/lang/RuntimeException"), .declares (Bundle.initS "java/lang/Exception"), .declares (Bundle.initS Bundle.tN)]) (by decide +kernel) (fun _ h _ => vx_c h.2.2.1 (vx_c h.2.2.2.1 (vx_c h.2.2.2.2.1 (vx_c h.2.2.2.2.2.1 vx_n)))) (by decide +kernel) dX4_needObservation_11 dX4_needObservation_14 dX4_needObservation_15 dX4_needObservation_17 dX4_needObservation_20 ⟨Nat.le_of_ble_eq_true rfl, Nat.le_of_ble_eq_true rfl, Nat.le_of_ble_eq_true rfl, Nat.le_of_ble_eq_true rfl⟩ hw
def W_X4_needObservationInNet (s : zS) (p0 : Int32) (Q : zS → Prop) (PX : String → zS → Prop) : Prop :=
    W_X4_needObservation s p0 (fun s2 =>
    vp_in p0 14 ∧
    ((gF s2 7 (ix p0)) = 0 →
    Q s2) ∧ (¬ (gF s2 7 (ix p0)) = 0 →
    PX "java/lang/IllegalStateException" s2)) PX
set_option maxHeartbeats 4000000 in
set_option maxRecDepth 100000 in
theorem c_X4_needObservationInNet (l : Launch) (hst : l.stackTraces = false) (D : va_G) (a : Nat → Nat) (g : Nat → ClassId) (ea : Nat → Nat) (s : zS) (p0 : Int32) (Q : zS → Prop) (PX : String → zS → Prop) (hw : W_X4_needObservationInNet s p0 Q PX) : zXv l D (zT g) ea yX4_needObservationInNet wsX4_needObservationInNet ({ frames := 7, cells := 2, slots := 12, locals := 107 } : Room) [.ref (a 0), .int p0] (WX a g) s (fun u => Q u) PX := by
  have i1 : ∀ w ∈ u_ws RX1 TX1 10, w ∈ wsX4_needObservationInNet := fun _ h => (List.mem_cons_of_mem _ (List.mem_append_left _ (List.mem_append_left _ (List.mem_append_right _ h))))
  have i4 : ∀ w ∈ u_ws RX4 TX4 4, w ∈ wsX4_needObservationInNet := fun _ h => (List.mem_cons_of_mem _ (List.mem_append_left _ (List.mem_append_left _ (List.mem_append_left _ (List.mem_append_right _ h)))))
  refine zXv_start (cc := cX4_needObservationInNet) (maxL := 2) (lv0 := [(0, .ref (a 0)), (1, .int p0)]) (own := RX4) hst rfl (by decide +kernel) rfl (Nat.le_of_ble_eq_true rfl) rfl (fun X C hR hL CX XE hE => ?_)
  refine z_aload_n C 0 dX4_needObservationInNet_0 rfl ?_
  refine z_iload_n C 1 dX4_needObservationInNet_1 rfl ?_
  refine z_xcallvV C hR hL CX XE (As := [.int p0]) (c_X4_needObservation l hst D a g ea s p0 _ PX hw) (fun _ _ h => h) gX4_needObservationInNet_X4_needObservation rfl ⟨by decide +kernel, by decide +kernel, (show (parseMethodDescriptor yX4_needObservation.desc).map (fun d => d.parameters.length) = some 1 from by decide +kernel)⟩ ⟨Nat.le_of_ble_eq_true rfl, Nat.le_of_ble_eq_true rfl⟩ ⟨Nat.le_of_ble_eq_true rfl, Nat.le_of_ble_eq_true rfl⟩ 0 4 rfl rfl rfl rfl (Nat.le_of_ble_eq_true rfl) dX4_needObservationInNet_2 (fun s2 h3 => ?_)
  have hw := h3
  refine z_aload_n C 0 dX4_needObservationInNet_5 rfl ?_
  refine zg4_net C i4 (List.mem_of_getElem? (i := 3) rfl) dX4_needObservationInNet_6 ?_
  refine zg1_isWithdrawn C i1 (List.mem_of_getElem? (i := 4) rfl) dX4_needObservationInNet_9 ?_
  refine z_iload_n C 1 dX4_needObservationInNet_12 rfl ?_
  obtain ⟨b4, hw⟩ := hw
  refine zl1_isWithdrawn C b4 dX4_needObservationInNet_13 ?_
  refine z_if_eq C 27 dX4_needObservationInNet_14 (by decide) (fun hc => ?_) (fun hc => ?_)
  · have hw := hw.1 hc
    exact hE _ _ _ _ _ dX4_needObservationInNet_27 (Nat.le_of_ble_eq_true rfl) (Nat.le_of_ble_eq_true rfl) hw
  · have hw := hw.2 hc
    exact z_throw C CX hR XE "java/lang/IllegalStateException" "the observation is withdrawn" (by decide +kernel) (by decide +kernel) (List.mem_of_getElem? (i := 1) rfl) (List.mem_of_getElem? (i := 2) rfl) (fun _ h => h.2.2.2.2.2.2.2.2.2.2.2.2.2.2.2.2.2) (fun _ h => (List.mem_cons_of_mem _ (List.mem_append_left _ (List.mem_append_right _ h)))) (Bx := [.castable nISE nISE, .declares (Bundle.initS "java/lang/RuntimeException"), .declares (Bundle.initS "java/lang/Exception"), .declares (Bundle.initS Bundle.tN)]) (by decide +kernel) (fun _ h _ => vx_c h.1 (vx_c h.2.2.2.1 (vx_c h.2.2.2.2.1 (vx_c h.2.2.2.2.2.1 vx_n)))) (by decide +kernel) dX4_needObservationInNet_17 dX4_needObservationInNet_20 dX4_needObservationInNet_21 dX4_needObservationInNet_23 dX4_needObservationInNet_26 ⟨Nat.le_of_ble_eq_true rfl, Nat.le_of_ble_eq_true rfl, Nat.le_of_ble_eq_true rfl, Nat.le_of_ble_eq_true rfl⟩ hw
def W_X4_station (s : zS) (Q : Int32 → zS → Prop) (PX : String → zS → Prop) : Prop :=
    ((gI s 0) < 6 →
    W_X1_addStation s (fun r1 s2 =>
    Q r1 s2)) ∧ (¬ (gI s 0) < 6 →
    PX "java/lang/IllegalStateException" s)
set_option maxHeartbeats 4000000 in
set_option maxRecDepth 100000 in
theorem c_X4_station (l : Launch) (hst : l.stackTraces = false) (D : va_G) (a : Nat → Nat) (g : Nat → ClassId) (ea : Nat → Nat) (s : zS) (Q : Int32 → zS → Prop) (PX : String → zS → Prop) (hw : W_X4_station s Q PX) : zXi l D (zT g) ea yX4_station wsX4_station ({ frames := 6, cells := 1, slots := 6, locals := 88 } : Room) [.ref (a 0)] (WX a g) s (fun r u => Q r u) PX := by
  have i1 : ∀ w ∈ u_ws RX1 TX1 10, w ∈ wsX4_station := fun _ h => (List.mem_cons_of_mem _ (List.mem_append_left _ (List.mem_append_right _ h)))
  have i4 : ∀ w ∈ u_ws RX4 TX4 4, w ∈ wsX4_station := fun _ h => (List.mem_cons_of_mem _ (List.mem_append_left _ (List.mem_append_left _ (List.mem_append_right _ h))))
  refine zXi_start (cc := cX4_station) (maxL := 1) (lv0 := [(0, .ref (a 0))]) (own := RX4) hst rfl (by decide +kernel) rfl (Nat.le_of_ble_eq_true rfl) rfl (fun X C hR hL CX XE hE => ?_)
  refine z_aload_n C 0 dX4_station_0 rfl ?_
  refine zg4_net C i4 (List.mem_of_getElem? (i := 3) rfl) dX4_station_1 ?_
  refine zg1_stations C i1 (List.mem_of_getElem? (i := 4) rfl) dX4_station_4 ?_
  refine z_bipush C 6 dX4_station_7 (by decide) ?_
  refine z_icmp_lt C 22 dX4_station_9 (by decide) (fun hc => ?_) (fun hc => ?_)
  · have hw := hw.1 hc
    refine z_aload_n C 0 dX4_station_22 rfl ?_
    refine zg4_net C i4 (List.mem_of_getElem? (i := 3) rfl) dX4_station_23 ?_
    refine z_call0iV C hR hL (As := []) (c_X1_addStation l D a g s _ hw) gX4_station_X1_addStation rfl ⟨by decide +kernel, by decide +kernel, (show (parseMethodDescriptor yX1_addStation.desc).map (fun d => d.parameters.length) = some 0 from by decide +kernel)⟩ ⟨rfl, rfl⟩ ⟨Nat.le_of_ble_eq_true rfl, Nat.le_of_ble_eq_true rfl⟩ ⟨Nat.le_of_ble_eq_true rfl, Nat.le_of_ble_eq_true rfl⟩ 1 1 rfl rfl rfl rfl (Nat.le_of_ble_eq_true rfl) dX4_station_26 (fun r1 s2 h3 => ?_)
    have hw := h3
    exact hE _ _ _ _ _ _ dX4_station_29 rfl (Nat.le_of_ble_eq_true rfl) (Nat.le_of_ble_eq_true rfl) hw
  · have hw := hw.2 hc
    exact z_throw C CX hR XE "java/lang/IllegalStateException" "there are 6 stations" (by decide +kernel) (by decide +kernel) (List.mem_of_getElem? (i := 1) rfl) (List.mem_of_getElem? (i := 2) rfl) (fun _ h => h.2.2.2.2.2.2.1) (fun _ h => (List.mem_cons_of_mem _ (List.mem_append_right _ h))) (Bx := [.castable nISE nISE, .declares (Bundle.initS "java/lang/RuntimeException"), .declares (Bundle.initS "java/lang/Exception"), .declares (Bundle.initS Bundle.tN)]) (by decide +kernel) (fun _ h _ => vx_c h.1 (vx_c h.2.2.2.1 (vx_c h.2.2.2.2.1 (vx_c h.2.2.2.2.2.1 vx_n)))) (by decide +kernel) dX4_station_12 dX4_station_15 dX4_station_16 dX4_station_18 dX4_station_21 ⟨Nat.le_of_ble_eq_true rfl, Nat.le_of_ble_eq_true rfl, Nat.le_of_ble_eq_true rfl, Nat.le_of_ble_eq_true rfl⟩ hw
def W_X4_datum (s : zS) (p0 : Int32) (p1 : Int32) (p2 : Int32) (Q : Int32 → zS → Prop) (PX : String → zS → Prop) : Prop :=
    W_X4_needStation s p0 (fun s2 =>
    (p2 = 0 →
    W_X1_tellHeight s2 p0 p1 p2 (fun r4 s5 =>
    narrow .boolean (.int r4) = .int r4 ∧ Q r4 s5)) ∧ (¬ p2 = 0 →
    W_X4_isBeyond s2 p1 (-9999) 9999 (fun r8 =>
    (r8 = 0 →
    W_X1_tellHeight s2 p0 p1 p2 (fun r11 s12 =>
    narrow .boolean (.int r11) = .int r11 ∧ Q r11 s12)) ∧ (¬ r8 = 0 →
    PX "java/lang/IllegalArgumentException" s2)))) PX
set_option maxHeartbeats 4000000 in
set_option maxRecDepth 100000 in
theorem c_X4_datum (l : Launch) (hst : l.stackTraces = false) (D : va_G) (a : Nat → Nat) (g : Nat → ClassId) (ea : Nat → Nat) (s : zS) (p0 : Int32) (p1 : Int32) (p2 : Int32) (Q : Int32 → zS → Prop) (PX : String → zS → Prop) (hw : W_X4_datum s p0 p1 p2 Q PX) : zXi l D (zT g) ea yX4_datum wsX4_datum ({ frames := 7, cells := 2, slots := 12, locals := 107 } : Room) [.ref (a 0), .int p0, .int p1, .int p2] (WX a g) s (fun r u => Q r u) PX := by
  have i4 : ∀ w ∈ u_ws RX4 TX4 4, w ∈ wsX4_datum := fun _ h => (List.mem_cons_of_mem _ (List.mem_append_left _ (List.mem_append_left _ (List.mem_append_left _ (List.mem_append_right _ h)))))
  refine zXi_start (cc := cX4_datum) (maxL := 4) (lv0 := [(0, .ref (a 0)), (1, .int p0), (2, .int p1), (3, .int p2)]) (own := RX4) hst rfl (by decide +kernel) rfl (Nat.le_of_ble_eq_true rfl) rfl (fun X C hR hL CX XE hE => ?_)
  refine z_aload_n C 0 dX4_datum_0 rfl ?_
  refine z_iload_n C 1 dX4_datum_1 rfl ?_
  refine z_xcallvV C hR hL CX XE (As := [.int p0]) (c_X4_needStation l hst D a g ea s p0 _ PX hw) (fun _ _ h => h) gX4_datum_X4_needStation rfl ⟨by decide +kernel, by decide +kernel, (show (parseMethodDescriptor yX4_needStation.desc).map (fun d => d.parameters.length) = some 1 from by decide +kernel)⟩ ⟨Nat.le_of_ble_eq_true rfl, Nat.le_of_ble_eq_true rfl⟩ ⟨Nat.le_of_ble_eq_true rfl, Nat.le_of_ble_eq_true rfl⟩ 0 4 rfl rfl rfl rfl (Nat.le_of_ble_eq_true rfl) dX4_datum_2 (fun s2 h3 => ?_)
  have hw := h3
  refine z_iload_n C 3 dX4_datum_5 rfl ?_
  refine z_if_eq C 32 dX4_datum_6 (by decide) (fun hc => ?_) (fun hc => ?_)
  · have hw := hw.1 hc
    refine z_aload_n C 0 dX4_datum_32 rfl ?_
    refine zg4_net C i4 (List.mem_of_getElem? (i := 3) rfl) dX4_datum_33 ?_
    refine z_iload_n C 1 dX4_datum_36 rfl ?_
    refine z_iload_n C 2 dX4_datum_37 rfl ?_
    refine z_iload_n C 3 dX4_datum_38 rfl ?_
    refine z_call0iV C hR hL (As := [.int p0, .int p1, .int p2]) (c_X1_tellHeight l D a g s2 p0 p1 p2 _ hw) gX4_datum_X1_tellHeight rfl ⟨by decide +kernel, by decide +kernel, (show (parseMethodDescriptor yX1_tellHeight.desc).map (fun d => d.parameters.length) = some 3 from by decide +kernel)⟩ ⟨rfl, rfl⟩ ⟨Nat.le_of_ble_eq_true rfl, Nat.le_of_ble_eq_true rfl⟩ ⟨Nat.le_of_ble_eq_true rfl, Nat.le_of_ble_eq_true rfl⟩ 1 1 rfl rfl rfl rfl (Nat.le_of_ble_eq_true rfl) dX4_datum_39 (fun r4 s5 h6 => ?_)
    have hw := h6
    obtain ⟨b7, hw⟩ := hw
    exact hE _ _ _ _ _ _ dX4_datum_42 b7 (Nat.le_of_ble_eq_true rfl) (Nat.le_of_ble_eq_true rfl) hw
  · have hw := hw.2 hc
    refine z_iload_n C 2 dX4_datum_9 rfl ?_
    refine z_sipush C (-9999) dX4_datum_10 (by decide) ?_
    refine z_sipush C 9999 dX4_datum_13 (by decide) ?_
    refine z_call0iS C hR hL (As := [.int p1, .int (-9999), .int 9999]) (c_X4_isBeyond l D a g s2 p1 (-9999) 9999 _ hw) gX4_datum_X4_isBeyond rfl ⟨by decide +kernel, by decide +kernel, (show (parseMethodDescriptor yX4_isBeyond.desc).map (fun d => d.parameters.length) = some 3 from by decide +kernel)⟩ ⟨rfl, rfl⟩ ⟨Nat.le_of_ble_eq_true rfl, Nat.le_of_ble_eq_true rfl⟩ ⟨Nat.le_of_ble_eq_true rfl, Nat.le_of_ble_eq_true rfl⟩ rfl (Nat.le_of_ble_eq_true rfl) dX4_datum_16 (fun r8 s9 h10 => ?_)
    obtain ⟨es9, hw⟩ := h10
    subst es9
    refine z_if_eq C 32 dX4_datum_19 (by decide) (fun hc => ?_) (fun hc => ?_)
    · have hw := hw.1 hc
      refine z_aload_n C 0 dX4_datum_32 rfl ?_
      refine zg4_net C i4 (List.mem_of_getElem? (i := 3) rfl) dX4_datum_33 ?_
      refine z_iload_n C 1 dX4_datum_36 rfl ?_
      refine z_iload_n C 2 dX4_datum_37 rfl ?_
      refine z_iload_n C 3 dX4_datum_38 rfl ?_
      refine z_call0iV C hR hL (As := [.int p0, .int p1, .int p2]) (c_X1_tellHeight l D a g s2 p0 p1 p2 _ hw) gX4_datum_X1_tellHeight rfl ⟨by decide +kernel, by decide +kernel, (show (parseMethodDescriptor yX1_tellHeight.desc).map (fun d => d.parameters.length) = some 3 from by decide +kernel)⟩ ⟨rfl, rfl⟩ ⟨Nat.le_of_ble_eq_true rfl, Nat.le_of_ble_eq_true rfl⟩ ⟨Nat.le_of_ble_eq_true rfl, Nat.le_of_ble_eq_true rfl⟩ 1 1 rfl rfl rfl rfl (Nat.le_of_ble_eq_true rfl) dX4_datum_39 (fun r11 s12 h13 => ?_)
      have hw := h13
      obtain ⟨b14, hw⟩ := hw
      exact hE _ _ _ _ _ _ dX4_datum_42 b14 (Nat.le_of_ble_eq_true rfl) (Nat.le_of_ble_eq_true rfl) hw
    · have hw := hw.2 hc
      exact z_throw C CX hR XE "java/lang/IllegalArgumentException" "a height is from -9999 to 9999" (by decide +kernel) (by decide +kernel) (List.mem_of_getElem? (i := 1) rfl) (List.mem_of_getElem? (i := 2) rfl) (fun _ h => h.2.2.2.2.2.2.2.1) (fun _ h => (List.mem_cons_of_mem _ (List.mem_append_left _ (List.mem_append_right _ h)))) (Bx := [.castable nIAE nIAE, .declares (Bundle.initS "java/lang/RuntimeException"), .declares (Bundle.initS "java/lang/Exception"), .declares (Bundle.initS Bundle.tN)]) (by decide +kernel) (fun _ h _ => vx_c h.2.1 (vx_c h.2.2.2.1 (vx_c h.2.2.2.2.1 (vx_c h.2.2.2.2.2.1 vx_n)))) (by decide +kernel) dX4_datum_22 dX4_datum_25 dX4_datum_26 dX4_datum_28 dX4_datum_31 ⟨Nat.le_of_ble_eq_true rfl, Nat.le_of_ble_eq_true rfl, Nat.le_of_ble_eq_true rfl, Nat.le_of_ble_eq_true rfl⟩ hw
def W_X4_observe (s : zS) (p0 : Int32) (p1 : Int32) (p2 : Int32) (p3 : Int32) (Q : Int32 → zS → Prop) (PX : String → zS → Prop) : Prop :=
    W_X4_needStation s p0 (fun s2 =>
    W_X4_needStation s2 p1 (fun s5 =>
    (¬ p0 = p1 →
    W_X4_isBeyond s5 p2 (-9999) 9999 (fun r7 =>
    (r7 = 0 →
    W_X4_isBeyond s5 p3 1 5 (fun r10 =>
    (r10 = 0 →
    ((gI s5 1) < 14 →
    W_X1_addObservation s5 p0 p1 p2 p3 (fun r13 s14 =>
    Q r13 s14)) ∧ (¬ (gI s5 1) < 14 →
    PX "java/lang/IllegalStateException" s5)) ∧ (¬ r10 = 0 →
    PX "java/lang/IllegalArgumentException" s5))) ∧ (¬ r7 = 0 →
    PX "java/lang/IllegalArgumentException" s5))) ∧ (p0 = p1 →
    PX "java/lang/IllegalArgumentException" s5)) PX) PX
set_option maxHeartbeats 4000000 in
set_option maxRecDepth 100000 in
theorem c_X4_observe (l : Launch) (hst : l.stackTraces = false) (D : va_G) (a : Nat → Nat) (g : Nat → ClassId) (ea : Nat → Nat) (s : zS) (p0 : Int32) (p1 : Int32) (p2 : Int32) (p3 : Int32) (Q : Int32 → zS → Prop) (PX : String → zS → Prop) (hw : W_X4_observe s p0 p1 p2 p3 Q PX) : zXi l D (zT g) ea yX4_observe wsX4_observe ({ frames := 7, cells := 3, slots := 18, locals := 107 } : Room) [.ref (a 0), .int p0, .int p1, .int p2, .int p3] (WX a g) s (fun r u => Q r u) PX := by
  have i1 : ∀ w ∈ u_ws RX1 TX1 10, w ∈ wsX4_observe := fun _ h => (List.mem_cons_of_mem _ (List.mem_append_left _ (List.mem_append_left _ (List.mem_append_left _ (List.mem_append_right _ h)))))
  have i4 : ∀ w ∈ u_ws RX4 TX4 4, w ∈ wsX4_observe := fun _ h => (List.mem_cons_of_mem _ (List.mem_append_left _ (List.mem_append_left _ (List.mem_append_left _ (List.mem_append_left _ (List.mem_append_right _ h))))))
  refine zXi_start (cc := cX4_observe) (maxL := 5) (lv0 := [(0, .ref (a 0)), (1, .int p0), (2, .int p1), (3, .int p2), (4, .int p3)]) (own := RX4) hst rfl (by decide +kernel) rfl (Nat.le_of_ble_eq_true rfl) rfl (fun X C hR hL CX XE hE => ?_)
  refine z_aload_n C 0 dX4_observe_0 rfl ?_
  refine z_iload_n C 1 dX4_observe_1 rfl ?_
  refine z_xcallvV C hR hL CX XE (As := [.int p0]) (c_X4_needStation l hst D a g ea s p0 _ PX hw) (fun _ _ h => h) gX4_observe_X4_needStation rfl ⟨by decide +kernel, by decide +kernel, (show (parseMethodDescriptor yX4_needStation.desc).map (fun d => d.parameters.length) = some 1 from by decide +kernel)⟩ ⟨Nat.le_of_ble_eq_true rfl, Nat.le_of_ble_eq_true rfl⟩ ⟨Nat.le_of_ble_eq_true rfl, Nat.le_of_ble_eq_true rfl⟩ 0 4 rfl rfl rfl rfl (Nat.le_of_ble_eq_true rfl) dX4_observe_2 (fun s2 h3 => ?_)
  have hw := h3
  refine z_aload_n C 0 dX4_observe_5 rfl ?_
  refine z_iload_n C 2 dX4_observe_6 rfl ?_
  refine z_xcallvV C hR hL CX XE (As := [.int p1]) (c_X4_needStation l hst D a g ea s2 p1 _ PX hw) (fun _ _ h => h) gX4_observe_X4_needStation rfl ⟨by decide +kernel, by decide +kernel, (show (parseMethodDescriptor yX4_needStation.desc).map (fun d => d.parameters.length) = some 1 from by decide +kernel)⟩ ⟨Nat.le_of_ble_eq_true rfl, Nat.le_of_ble_eq_true rfl⟩ ⟨Nat.le_of_ble_eq_true rfl, Nat.le_of_ble_eq_true rfl⟩ 0 4 rfl rfl rfl rfl (Nat.le_of_ble_eq_true rfl) dX4_observe_7 (fun s5 h6 => ?_)
  have hw := h6
  refine z_iload_n C 1 dX4_observe_10 rfl ?_
  refine z_iload_n C 2 dX4_observe_11 rfl ?_
  refine z_icmp_ne C 25 dX4_observe_12 (by decide) (fun hc => ?_) (fun hc => ?_)
  · have hw := hw.1 hc
    refine z_iload_n C 3 dX4_observe_25 rfl ?_
    refine z_sipush C (-9999) dX4_observe_26 (by decide) ?_
    refine z_sipush C 9999 dX4_observe_29 (by decide) ?_
    refine z_call0iS C hR hL (As := [.int p2, .int (-9999), .int 9999]) (c_X4_isBeyond l D a g s5 p2 (-9999) 9999 _ hw) gX4_observe_X4_isBeyond rfl ⟨by decide +kernel, by decide +kernel, (show (parseMethodDescriptor yX4_isBeyond.desc).map (fun d => d.parameters.length) = some 3 from by decide +kernel)⟩ ⟨rfl, rfl⟩ ⟨Nat.le_of_ble_eq_true rfl, Nat.le_of_ble_eq_true rfl⟩ ⟨Nat.le_of_ble_eq_true rfl, Nat.le_of_ble_eq_true rfl⟩ rfl (Nat.le_of_ble_eq_true rfl) dX4_observe_32 (fun r7 s8 h9 => ?_)
    obtain ⟨es8, hw⟩ := h9
    subst es8
    refine z_if_eq C 48 dX4_observe_35 (by decide) (fun hc => ?_) (fun hc => ?_)
    · have hw := hw.1 hc
      refine z_iload C 4 dX4_observe_48 rfl ?_
      refine z_iconst C 1 dX4_observe_50 (by decide) ?_
      refine z_iconst C 5 dX4_observe_51 (by decide) ?_
      refine z_call0iS C hR hL (As := [.int p3, .int 1, .int 5]) (c_X4_isBeyond l D a g s5 p3 1 5 _ hw) gX4_observe_X4_isBeyond rfl ⟨by decide +kernel, by decide +kernel, (show (parseMethodDescriptor yX4_isBeyond.desc).map (fun d => d.parameters.length) = some 3 from by decide +kernel)⟩ ⟨rfl, rfl⟩ ⟨Nat.le_of_ble_eq_true rfl, Nat.le_of_ble_eq_true rfl⟩ ⟨Nat.le_of_ble_eq_true rfl, Nat.le_of_ble_eq_true rfl⟩ rfl (Nat.le_of_ble_eq_true rfl) dX4_observe_52 (fun r10 s11 h12 => ?_)
      obtain ⟨es11, hw⟩ := h12
      subst es11
      refine z_if_eq C 68 dX4_observe_55 (by decide) (fun hc => ?_) (fun hc => ?_)
      · have hw := hw.1 hc
        refine z_aload_n C 0 dX4_observe_68 rfl ?_
        refine zg4_net C i4 (List.mem_of_getElem? (i := 5) rfl) dX4_observe_69 ?_
        refine zg1_observations C i1 (List.mem_of_getElem? (i := 6) rfl) dX4_observe_72 ?_
        refine z_bipush C 14 dX4_observe_75 (by decide) ?_
        refine z_icmp_lt C 90 dX4_observe_77 (by decide) (fun hc => ?_) (fun hc => ?_)
        · have hw := hw.1 hc
          refine z_aload_n C 0 dX4_observe_90 rfl ?_
          refine zg4_net C i4 (List.mem_of_getElem? (i := 5) rfl) dX4_observe_91 ?_
          refine z_iload_n C 1 dX4_observe_94 rfl ?_
          refine z_iload_n C 2 dX4_observe_95 rfl ?_
          refine z_iload_n C 3 dX4_observe_96 rfl ?_
          refine z_iload C 4 dX4_observe_97 rfl ?_
          refine z_call0iV C hR hL (As := [.int p0, .int p1, .int p2, .int p3]) (c_X1_addObservation l D a g s5 p0 p1 p2 p3 _ hw) gX4_observe_X1_addObservation rfl ⟨by decide +kernel, by decide +kernel, (show (parseMethodDescriptor yX1_addObservation.desc).map (fun d => d.parameters.length) = some 4 from by decide +kernel)⟩ ⟨rfl, rfl⟩ ⟨Nat.le_of_ble_eq_true rfl, Nat.le_of_ble_eq_true rfl⟩ ⟨Nat.le_of_ble_eq_true rfl, Nat.le_of_ble_eq_true rfl⟩ 1 1 rfl rfl rfl rfl (Nat.le_of_ble_eq_true rfl) dX4_observe_99 (fun r13 s14 h15 => ?_)
          have hw := h15
          exact hE _ _ _ _ _ _ dX4_observe_102 rfl (Nat.le_of_ble_eq_true rfl) (Nat.le_of_ble_eq_true rfl) hw
        · have hw := hw.2 hc
          exact z_throw C CX hR XE "java/lang/IllegalStateException" "there are 14 observations" (by decide +kernel) (by decide +kernel) (List.mem_of_getElem? (i := 3) rfl) (List.mem_of_getElem? (i := 4) rfl) (fun _ h => h.2.2.2.2.2.2.2.2.2.2.2.1) (fun _ h => (List.mem_cons_of_mem _ (List.mem_append_left _ (List.mem_append_right _ h)))) (Bx := [.castable nISE nISE, .declares (Bundle.initS "java/lang/RuntimeException"), .declares (Bundle.initS "java/lang/Exception"), .declares (Bundle.initS Bundle.tN)]) (by decide +kernel) (fun _ h _ => vx_c h.1 (vx_c h.2.2.2.1 (vx_c h.2.2.2.2.1 (vx_c h.2.2.2.2.2.1 vx_n)))) (by decide +kernel) dX4_observe_80 dX4_observe_83 dX4_observe_84 dX4_observe_86 dX4_observe_89 ⟨Nat.le_of_ble_eq_true rfl, Nat.le_of_ble_eq_true rfl, Nat.le_of_ble_eq_true rfl, Nat.le_of_ble_eq_true rfl⟩ hw
      · have hw := hw.2 hc
        exact z_throw C CX hR XE "java/lang/IllegalArgumentException" "a weight is from 1 to 5" (by decide +kernel) (by decide +kernel) (List.mem_of_getElem? (i := 1) rfl) (List.mem_of_getElem? (i := 2) rfl) (fun _ h => h.2.2.2.2.2.2.2.2.2.2.1) (fun _ h => (List.mem_cons_of_mem _ (List.mem_append_left _ (List.mem_append_left _ (List.mem_append_right _ h))))) (Bx := [.castable nIAE nIAE, .declares (Bundle.initS "java/lang/RuntimeException"), .declares (Bundle.initS "java/lang/Exception"), .declares (Bundle.initS Bundle.tN)]) (by decide +kernel) (fun _ h _ => vx_c h.2.1 (vx_c h.2.2.2.1 (vx_c h.2.2.2.2.1 (vx_c h.2.2.2.2.2.1 vx_n)))) (by decide +kernel) dX4_observe_58 dX4_observe_61 dX4_observe_62 dX4_observe_64 dX4_observe_67 ⟨Nat.le_of_ble_eq_true rfl, Nat.le_of_ble_eq_true rfl, Nat.le_of_ble_eq_true rfl, Nat.le_of_ble_eq_true rfl⟩ hw
    · have hw := hw.2 hc
      exact z_throw C CX hR XE "java/lang/IllegalArgumentException" "a difference is from -9999 to 9999" (by decide +kernel) (by decide +kernel) (List.mem_of_getElem? (i := 1) rfl) (List.mem_of_getElem? (i := 2) rfl) (fun _ h => h.2.2.2.2.2.2.2.2.2.1) (fun _ h => (List.mem_cons_of_mem _ (List.mem_append_left _ (List.mem_append_left _ (List.mem_append_right _ h))))) (Bx := [.castable nIAE nIAE, .declares (Bundle.initS "java/lang/RuntimeException"), .declares (Bundle.initS "java/lang/Exception"), .declares (Bundle.initS Bundle.tN)]) (by decide +kernel) (fun _ h _ => vx_c h.2.1 (vx_c h.2.2.2.1 (vx_c h.2.2.2.2.1 (vx_c h.2.2.2.2.2.1 vx_n)))) (by decide +kernel) dX4_observe_38 dX4_observe_41 dX4_observe_42 dX4_observe_44 dX4_observe_47 ⟨Nat.le_of_ble_eq_true rfl, Nat.le_of_ble_eq_true rfl, Nat.le_of_ble_eq_true rfl, Nat.le_of_ble_eq_true rfl⟩ hw
  · have hw := hw.2 hc
    exact z_throw C CX hR XE "java/lang/IllegalArgumentException" "an observation is between two stations" (by decide +kernel) (by decide +kernel) (List.mem_of_getElem? (i := 1) rfl) (List.mem_of_getElem? (i := 2) rfl) (fun _ h => h.2.2.2.2.2.2.2.2.1) (fun _ h => (List.mem_cons_of_mem _ (List.mem_append_left _ (List.mem_append_left _ (List.mem_append_right _ h))))) (Bx := [.castable nIAE nIAE, .declares (Bundle.initS "java/lang/RuntimeException"), .declares (Bundle.initS "java/lang/Exception"), .declares (Bundle.initS Bundle.tN)]) (by decide +kernel) (fun _ h _ => vx_c h.2.1 (vx_c h.2.2.2.1 (vx_c h.2.2.2.2.1 (vx_c h.2.2.2.2.2.1 vx_n)))) (by decide +kernel) dX4_observe_15 dX4_observe_18 dX4_observe_19 dX4_observe_21 dX4_observe_24 ⟨Nat.le_of_ble_eq_true rfl, Nat.le_of_ble_eq_true rfl, Nat.le_of_ble_eq_true rfl, Nat.le_of_ble_eq_true rfl⟩ hw
def W_X4_withdraw (s : zS) (p0 : Int32) (p1 : Int32) (Q : Int32 → zS → Prop) (PX : String → zS → Prop) : Prop :=
    W_X4_needObservation s p0 (fun s2 =>
    W_X1_setWithdrawn s2 p0 p1 (fun r4 s5 =>
    narrow .boolean (.int r4) = .int r4 ∧ Q r4 s5)) PX
set_option maxHeartbeats 4000000 in
set_option maxRecDepth 100000 in
theorem c_X4_withdraw (l : Launch) (hst : l.stackTraces = false) (D : va_G) (a : Nat → Nat) (g : Nat → ClassId) (ea : Nat → Nat) (s : zS) (p0 : Int32) (p1 : Int32) (Q : Int32 → zS → Prop) (PX : String → zS → Prop) (hw : W_X4_withdraw s p0 p1 Q PX) : zXi l D (zT g) ea yX4_withdraw wsX4_withdraw ({ frames := 7, cells := 1, slots := 6, locals := 107 } : Room) [.ref (a 0), .int p0, .int p1] (WX a g) s (fun r u => Q r u) PX := by
  have i4 : ∀ w ∈ u_ws RX4 TX4 4, w ∈ wsX4_withdraw := fun _ h => (List.mem_cons_of_mem _ (List.mem_append_left _ (List.mem_append_left _ (List.mem_append_right _ h))))
  refine zXi_start (cc := cX4_withdraw) (maxL := 3) (lv0 := [(0, .ref (a 0)), (1, .int p0), (2, .int p1)]) (own := RX4) hst rfl (by decide +kernel) rfl (Nat.le_of_ble_eq_true rfl) rfl (fun X C hR hL CX XE hE => ?_)
  refine z_aload_n C 0 dX4_withdraw_0 rfl ?_
  refine z_iload_n C 1 dX4_withdraw_1 rfl ?_
  refine z_xcallvV C hR hL CX XE (As := [.int p0]) (c_X4_needObservation l hst D a g ea s p0 _ PX hw) (fun _ _ h => h) gX4_withdraw_X4_needObservation rfl ⟨by decide +kernel, by decide +kernel, (show (parseMethodDescriptor yX4_needObservation.desc).map (fun d => d.parameters.length) = some 1 from by decide +kernel)⟩ ⟨Nat.le_of_ble_eq_true rfl, Nat.le_of_ble_eq_true rfl⟩ ⟨Nat.le_of_ble_eq_true rfl, Nat.le_of_ble_eq_true rfl⟩ 0 4 rfl rfl rfl rfl (Nat.le_of_ble_eq_true rfl) dX4_withdraw_2 (fun s2 h3 => ?_)
  have hw := h3
  refine z_aload_n C 0 dX4_withdraw_5 rfl ?_
  refine zg4_net C i4 (List.mem_of_getElem? (i := 1) rfl) dX4_withdraw_6 ?_
  refine z_iload_n C 1 dX4_withdraw_9 rfl ?_
  refine z_iload_n C 2 dX4_withdraw_10 rfl ?_
  refine z_call0iV C hR hL (As := [.int p0, .int p1]) (c_X1_setWithdrawn l D a g s2 p0 p1 _ hw) gX4_withdraw_X1_setWithdrawn rfl ⟨by decide +kernel, by decide +kernel, (show (parseMethodDescriptor yX1_setWithdrawn.desc).map (fun d => d.parameters.length) = some 2 from by decide +kernel)⟩ ⟨rfl, rfl⟩ ⟨Nat.le_of_ble_eq_true rfl, Nat.le_of_ble_eq_true rfl⟩ ⟨Nat.le_of_ble_eq_true rfl, Nat.le_of_ble_eq_true rfl⟩ 1 1 rfl rfl rfl rfl (Nat.le_of_ble_eq_true rfl) dX4_withdraw_11 (fun r4 s5 h6 => ?_)
  have hw := h6
  obtain ⟨b7, hw⟩ := hw
  exact hE _ _ _ _ _ _ dX4_withdraw_14 b7 (Nat.le_of_ble_eq_true rfl) (Nat.le_of_ble_eq_true rfl) hw
def W_X4_clean_L22 (p0 : Int32) (Q : Int32 → zS → Prop) (K : zS → Prop) : Nat → Int32 → zS → Prop
  | 0, _, _ => False
  | n + 1, v11, s12 =>
    (14 ≤ v11 →
    K s12) ∧ (¬ 14 ≤ v11 →
    W_X0_worstObservation s12 (fun r13 s14 =>
    ∀ x16 : Int32, x16 = r13 →
    (x16 = (-1) →
    Q v11 s14) ∧ (¬ x16 = (-1) →
    W_X0_scoreOf s14 x16 (fun r17 s18 =>
    ((p0).toInt64 < r17 →
    W_X1_setWithdrawn s18 x16 1 (fun r20 s21 =>
    ∀ x23 : Int32, x23 = v11 + 1 →
    W_X4_clean_L22 p0 Q K n x23 s21)) ∧ (¬ (p0).toInt64 < r17 →
    Q v11 s18)))))
def W_X4_clean (s : zS) (p0 : Int32) (Q : Int32 → zS → Prop) (PX : String → zS → Prop) : Prop :=
    W_X4_isBeyond s p0 0 1000000000 (fun r1 =>
    (r1 = 0 →
    ∀ x4 : Int32, x4 = 0 →
    ∃ (K5 : zS → Prop) (n6 : Nat), (∀ (s10 : zS), K5 s10 →
    Q 14 s10) ∧ W_X4_clean_L22 p0 Q K5 n6 x4 s) ∧ (¬ r1 = 0 →
    PX "java/lang/IllegalArgumentException" s))
set_option maxHeartbeats 4000000 in
set_option maxRecDepth 100000 in
theorem c_X4_clean (l : Launch) (hst : l.stackTraces = false) (D : va_G) (a : Nat → Nat) (g : Nat → ClassId) (ea : Nat → Nat) (s : zS) (p0 : Int32) (Q : Int32 → zS → Prop) (PX : String → zS → Prop) (hw : W_X4_clean s p0 Q PX) : zXi l D (zT g) ea yX4_clean wsX4_clean ({ frames := 6, cells := 1, slots := 6, locals := 155 } : Room) [.ref (a 0), .int p0] (WX a g) s (fun r u => Q r u) PX := by
  have i4 : ∀ w ∈ u_ws RX4 TX4 4, w ∈ wsX4_clean := fun _ h => (List.mem_cons_of_mem _ (List.mem_append_left _ (List.mem_append_left _ (List.mem_append_left _ (List.mem_append_right _ h)))))
  refine zXi_start (cc := cX4_clean) (maxL := 4) (lv0 := [(0, .ref (a 0)), (1, .int p0)]) (own := RX4) hst rfl (by decide +kernel) rfl (Nat.le_of_ble_eq_true rfl) rfl (fun X C hR hL CX XE hE => ?_)
  refine z_iload_n C 1 dX4_clean_0 rfl ?_
  refine z_iconst C 0 dX4_clean_1 (by decide) ?_
  refine z_ldc C 1000000000 (List.mem_of_getElem? (i := 3) rfl) dX4_clean_2 ?_
  refine z_call0iS C hR hL (As := [.int p0, .int 0, .int 1000000000]) (c_X4_isBeyond l D a g s p0 0 1000000000 _ hw) gX4_clean_X4_isBeyond rfl ⟨by decide +kernel, by decide +kernel, (show (parseMethodDescriptor yX4_isBeyond.desc).map (fun d => d.parameters.length) = some 3 from by decide +kernel)⟩ ⟨rfl, rfl⟩ ⟨Nat.le_of_ble_eq_true rfl, Nat.le_of_ble_eq_true rfl⟩ ⟨Nat.le_of_ble_eq_true rfl, Nat.le_of_ble_eq_true rfl⟩ rfl (Nat.le_of_ble_eq_true rfl) dX4_clean_4 (fun r1 s2 h3 => ?_)
  obtain ⟨es2, hw⟩ := h3
  subst es2
  refine z_if_eq C 20 dX4_clean_7 (by decide) (fun hc => ?_) (fun hc => ?_)
  · have hw := hw.1 hc
    refine z_iconst C 0 dX4_clean_20 (by decide) ?_
    refine z_topi (fun x4 ex4 => ?_)
    have hw := hw x4 ex4
    refine z_istore_n (lv' := [(2, .int x4), (0, .ref (a 0)), (1, .int p0)]) C 2 dX4_clean_21 rfl (by decide) rfl ?_
    refine z_sub (lv' := [(0, .ref (a 0)), (1, .int p0), (2, .int x4)]) [1, 2, 0] rfl ?_
    obtain ⟨K5, n6, hK7, hw⟩ := hw
    have hx8 : ∀ (s10 : zS), K5 s10 → zV X D 4 0 0 (WX a g s10) 73 [] [] := by
      intro s10 hw0
      have hw := hK7 s10 hw0
      refine z_bipush C 14 dX4_clean_73 (by decide) ?_
      exact hE _ _ _ _ _ _ dX4_clean_75 rfl (Nat.le_of_ble_eq_true rfl) (Nat.le_of_ble_eq_true rfl) hw
    have lp9 : ∀ (n : Nat) (v11 : Int32) (s12 : zS), W_X4_clean_L22 p0 Q K5 n v11 s12 → zV X D 4 0 0 (WX a g s12) 22 [(0, .ref (a 0)), (1, .int p0), (2, .int v11)] [] := by
      intro n
      induction n with
      | zero => intro v11 s12 hw; exact False.elim hw
      | succ n ih =>
        intro v11 s12 hw
        refine z_iload_n C 2 dX4_clean_22 rfl ?_
        refine z_bipush C 14 dX4_clean_23 (by decide) ?_
        refine z_icmp_ge C 73 dX4_clean_25 (by decide) (fun hc => ?_) (fun hc => ?_)
        · have hw := hw.1 hc
          refine z_sub (lv' := []) [] rfl ?_
          exact hx8 _ hw
        · have hw := hw.2 hc
          refine z_aload_n C 0 dX4_clean_28 rfl ?_
          refine zg4_adjustment C i4 (List.mem_of_getElem? (i := 4) rfl) dX4_clean_29 ?_
          refine z_call0iV C hR hL (As := []) (c_X0_worstObservation l D a g s12 _ hw) gX4_clean_X0_worstObservation rfl ⟨by decide +kernel, by decide +kernel, (show (parseMethodDescriptor yX0_worstObservation.desc).map (fun d => d.parameters.length) = some 0 from by decide +kernel)⟩ ⟨rfl, rfl⟩ ⟨Nat.le_of_ble_eq_true rfl, Nat.le_of_ble_eq_true rfl⟩ ⟨Nat.le_of_ble_eq_true rfl, Nat.le_of_ble_eq_true rfl⟩ 2 0 rfl rfl rfl rfl (Nat.le_of_ble_eq_true rfl) dX4_clean_32 (fun r13 s14 h15 => ?_)
          have hw := h15
          refine z_topi (fun x16 ex16 => ?_)
          have hw := hw x16 ex16
          refine z_istore_n (lv' := [(3, .int x16), (0, .ref (a 0)), (1, .int p0), (2, .int v11)]) C 3 dX4_clean_35 rfl (by decide) rfl ?_
          refine z_iload_n C 0 dX4_clean_36 rfl ?_
          refine z_iconst C (-1) dX4_clean_37 (by decide) ?_
          refine z_icmp_eq C 55 dX4_clean_38 (by decide) (fun hc => ?_) (fun hc => ?_)
          · have hw := hw.1 hc
            refine z_iload_n C 3 dX4_clean_55 rfl ?_
            exact hE _ _ _ _ _ _ dX4_clean_56 rfl (Nat.le_of_ble_eq_true rfl) (Nat.le_of_ble_eq_true rfl) hw
          · have hw := hw.2 hc
            refine z_aload_n C 1 dX4_clean_41 rfl ?_
            refine zg4_adjustment C i4 (List.mem_of_getElem? (i := 4) rfl) dX4_clean_42 ?_
            refine z_iload_n C 0 dX4_clean_45 rfl ?_
            refine z_call0lV C hR hL (As := [.int x16]) (c_X0_scoreOf l D a g s14 x16 _ hw) gX4_clean_X0_scoreOf rfl ⟨by decide +kernel, by decide +kernel, (show (parseMethodDescriptor yX0_scoreOf.desc).map (fun d => d.parameters.length) = some 1 from by decide +kernel)⟩ ⟨rfl, rfl⟩ ⟨Nat.le_of_ble_eq_true rfl, Nat.le_of_ble_eq_true rfl⟩ ⟨Nat.le_of_ble_eq_true rfl, Nat.le_of_ble_eq_true rfl⟩ 2 0 rfl rfl rfl rfl (Nat.le_of_ble_eq_true rfl) dX4_clean_46 (fun r17 s18 h19 => ?_)
            have hw := h19
            refine z_iload_n C 2 dX4_clean_49 rfl ?_
            refine z_i2l C dX4_clean_50 ?_
            refine z_lcmp_gt C 57 dX4_clean_51 dX4_clean_52 (by decide) (fun hc => ?_) (fun hc => ?_)
            · have hw := hw.1 hc
              refine z_aload_n C 1 dX4_clean_57 rfl ?_
              refine zg4_net C i4 (List.mem_of_getElem? (i := 5) rfl) dX4_clean_58 ?_
              refine z_iload_n C 0 dX4_clean_61 rfl ?_
              refine z_iconst C 1 dX4_clean_62 (by decide) ?_
              refine z_call0iV C hR hL (As := [.int x16, .int 1]) (c_X1_setWithdrawn l D a g s18 x16 1 _ hw) gX4_clean_X1_setWithdrawn rfl ⟨by decide +kernel, by decide +kernel, (show (parseMethodDescriptor yX1_setWithdrawn.desc).map (fun d => d.parameters.length) = some 2 from by decide +kernel)⟩ ⟨rfl, rfl⟩ ⟨Nat.le_of_ble_eq_true rfl, Nat.le_of_ble_eq_true rfl⟩ ⟨Nat.le_of_ble_eq_true rfl, Nat.le_of_ble_eq_true rfl⟩ 1 1 rfl rfl rfl rfl (Nat.le_of_ble_eq_true rfl) dX4_clean_63 (fun r20 s21 h22 => ?_)
              have hw := h22
              refine z_pop C dX4_clean_66 rfl ?_
              obtain ⟨x23, ex23⟩ : ∃ z : Int32, z = v11 + 1 := ⟨_, rfl⟩
              have hw := hw x23 ex23
              refine z_iinc (lv' := [(2, .int x23), (3, .int x16), (0, .ref (a 0)), (1, .int p0)]) C 3 dX4_clean_67 rfl (by rw [ex23]; rfl) (by decide) rfl ?_
              refine z_goto C 22 dX4_clean_70 (by decide) ?_
              refine z_sub (lv' := [(0, .ref (a 0)), (1, .int p0), (2, .int x23)]) [2, 3, 0] rfl ?_
              exact ih _ _ hw
            · have hw := hw.2 hc
              refine z_iload_n C 3 dX4_clean_55 rfl ?_
              exact hE _ _ _ _ _ _ dX4_clean_56 rfl (Nat.le_of_ble_eq_true rfl) (Nat.le_of_ble_eq_true rfl) hw
    exact lp9 n6 _ _ hw
  · have hw := hw.2 hc
    exact z_throw C CX hR XE "java/lang/IllegalArgumentException" "a bound is from 0 to 1000000000" (by decide +kernel) (by decide +kernel) (List.mem_of_getElem? (i := 1) rfl) (List.mem_of_getElem? (i := 2) rfl) (fun _ h => h.2.2.2.2.2.2.2.2.2.2.2.2.1) (fun _ h => (List.mem_cons_of_mem _ (List.mem_append_right _ h))) (Bx := [.castable nIAE nIAE, .declares (Bundle.initS "java/lang/RuntimeException"), .declares (Bundle.initS "java/lang/Exception"), .declares (Bundle.initS Bundle.tN)]) (by decide +kernel) (fun _ h _ => vx_c h.2.1 (vx_c h.2.2.2.1 (vx_c h.2.2.2.2.1 (vx_c h.2.2.2.2.2.1 vx_n)))) (by decide +kernel) dX4_clean_10 dX4_clean_13 dX4_clean_14 dX4_clean_16 dX4_clean_19 ⟨Nat.le_of_ble_eq_true rfl, Nat.le_of_ble_eq_true rfl, Nat.le_of_ble_eq_true rfl, Nat.le_of_ble_eq_true rfl⟩ hw
def W_X4_go (s : zS) (p0 : Int32) (Q : Int32 → zS → Prop) (PX : String → zS → Prop) : Prop :=
    W_X4_needStation s p0 (fun s2 =>
    ((gI s2 8) < 10 →
    (¬ (gI s2 8) = 0 →
    W_X1_lowestBetween s2 (gI s2 10) p0 (fun r4 =>
    ∀ x7 : Int32, x7 = r4 →
    (¬ x7 = (-1) →
    W_X1_differenceFrom s2 (gI s2 10) x7 (fun r8 =>
    W_X2_goOn s2 p0 r8 (fun r11 s12 =>
    Q r11 s12))) ∧ (x7 = (-1) →
    PX "java/lang/IllegalStateException" s2))) ∧ ((gI s2 8) = 0 →
    W_X2_begin s2 p0 (fun r14 s15 =>
    Q r14 s15))) ∧ (¬ (gI s2 8) < 10 →
    PX "java/lang/IllegalStateException" s2)) PX
set_option maxHeartbeats 4000000 in
set_option maxRecDepth 100000 in
theorem c_X4_go (l : Launch) (hst : l.stackTraces = false) (D : va_G) (a : Nat → Nat) (g : Nat → ClassId) (ea : Nat → Nat) (s : zS) (p0 : Int32) (Q : Int32 → zS → Prop) (PX : String → zS → Prop) (hw : W_X4_go s p0 Q PX) : zXi l D (zT g) ea yX4_go wsX4_go ({ frames := 7, cells := 2, slots := 12, locals := 107 } : Room) [.ref (a 0), .int p0] (WX a g) s (fun r u => Q r u) PX := by
  have i2 : ∀ w ∈ u_ws RX2 TX2 4, w ∈ wsX4_go := fun _ h => (List.mem_cons_of_mem _ (List.mem_append_left _ (List.mem_append_left _ (List.mem_append_left _ (List.mem_append_right _ h)))))
  have i4 : ∀ w ∈ u_ws RX4 TX4 4, w ∈ wsX4_go := fun _ h => (List.mem_cons_of_mem _ (List.mem_append_left _ (List.mem_append_left _ (List.mem_append_left _ (List.mem_append_left _ (List.mem_append_right _ h))))))
  refine zXi_start (cc := cX4_go) (maxL := 3) (lv0 := [(0, .ref (a 0)), (1, .int p0)]) (own := RX4) hst rfl (by decide +kernel) rfl (Nat.le_of_ble_eq_true rfl) rfl (fun X C hR hL CX XE hE => ?_)
  refine z_aload_n C 0 dX4_go_0 rfl ?_
  refine z_iload_n C 1 dX4_go_1 rfl ?_
  refine z_xcallvV C hR hL CX XE (As := [.int p0]) (c_X4_needStation l hst D a g ea s p0 _ PX hw) (fun _ _ h => h) gX4_go_X4_needStation rfl ⟨by decide +kernel, by decide +kernel, (show (parseMethodDescriptor yX4_needStation.desc).map (fun d => d.parameters.length) = some 1 from by decide +kernel)⟩ ⟨Nat.le_of_ble_eq_true rfl, Nat.le_of_ble_eq_true rfl⟩ ⟨Nat.le_of_ble_eq_true rfl, Nat.le_of_ble_eq_true rfl⟩ 0 4 rfl rfl rfl rfl (Nat.le_of_ble_eq_true rfl) dX4_go_2 (fun s2 h3 => ?_)
  have hw := h3
  refine z_aload_n C 0 dX4_go_5 rfl ?_
  refine zg4_path C i4 (List.mem_of_getElem? (i := 3) rfl) dX4_go_6 ?_
  refine zg2_length C i2 (List.mem_of_getElem? (i := 4) rfl) dX4_go_9 ?_
  refine z_bipush C 10 dX4_go_12 (by decide) ?_
  refine z_icmp_lt C 27 dX4_go_14 (by decide) (fun hc => ?_) (fun hc => ?_)
  · have hw := hw.1 hc
    refine z_aload_n C 0 dX4_go_27 rfl ?_
    refine zg4_path C i4 (List.mem_of_getElem? (i := 3) rfl) dX4_go_28 ?_
    refine zg2_length C i2 (List.mem_of_getElem? (i := 4) rfl) dX4_go_31 ?_
    refine z_if_ne C 46 dX4_go_34 (by decide) (fun hc => ?_) (fun hc => ?_)
    · have hw := hw.1 hc
      refine z_aload_n C 0 dX4_go_46 rfl ?_
      refine zg4_net C i4 (List.mem_of_getElem? (i := 5) rfl) dX4_go_47 ?_
      refine z_aload_n C 0 dX4_go_50 rfl ?_
      refine zg4_path C i4 (List.mem_of_getElem? (i := 3) rfl) dX4_go_51 ?_
      refine zg2_last C i2 (List.mem_of_getElem? (i := 6) rfl) dX4_go_54 ?_
      refine z_iload_n C 1 dX4_go_57 rfl ?_
      refine z_call0iV C hR hL (As := [.int (gI s2 10), .int p0]) (c_X1_lowestBetween l D a g s2 (gI s2 10) p0 _ hw) gX4_go_X1_lowestBetween rfl ⟨by decide +kernel, by decide +kernel, (show (parseMethodDescriptor yX1_lowestBetween.desc).map (fun d => d.parameters.length) = some 2 from by decide +kernel)⟩ ⟨rfl, rfl⟩ ⟨Nat.le_of_ble_eq_true rfl, Nat.le_of_ble_eq_true rfl⟩ ⟨Nat.le_of_ble_eq_true rfl, Nat.le_of_ble_eq_true rfl⟩ 1 1 rfl rfl rfl rfl (Nat.le_of_ble_eq_true rfl) dX4_go_58 (fun r4 s5 h6 => ?_)
      obtain ⟨es5, hw⟩ := h6
      subst es5
      refine z_topi (fun x7 ex7 => ?_)
      have hw := hw x7 ex7
      refine z_istore_n (lv' := [(2, .int x7), (0, .ref (a 0)), (1, .int p0)]) C 2 dX4_go_61 rfl (by decide) rfl ?_
      refine z_iload_n C 0 dX4_go_62 rfl ?_
      refine z_iconst C (-1) dX4_go_63 (by decide) ?_
      refine z_icmp_ne C 77 dX4_go_64 (by decide) (fun hc => ?_) (fun hc => ?_)
      · have hw := hw.1 hc
        refine z_aload_n C 1 dX4_go_77 rfl ?_
        refine zg4_path C i4 (List.mem_of_getElem? (i := 3) rfl) dX4_go_78 ?_
        refine z_iload_n C 2 dX4_go_81 rfl ?_
        refine z_aload_n C 1 dX4_go_82 rfl ?_
        refine zg4_net C i4 (List.mem_of_getElem? (i := 5) rfl) dX4_go_83 ?_
        refine z_aload_n C 1 dX4_go_86 rfl ?_
        refine zg4_path C i4 (List.mem_of_getElem? (i := 3) rfl) dX4_go_87 ?_
        refine zg2_last C i2 (List.mem_of_getElem? (i := 6) rfl) dX4_go_90 ?_
        refine z_iload_n C 0 dX4_go_93 rfl ?_
        refine z_call0iV C hR hL (As := [.int (gI s2 10), .int x7]) (c_X1_differenceFrom l D a g s2 (gI s2 10) x7 _ hw) gX4_go_X1_differenceFrom rfl ⟨by decide +kernel, by decide +kernel, (show (parseMethodDescriptor yX1_differenceFrom.desc).map (fun d => d.parameters.length) = some 2 from by decide +kernel)⟩ ⟨rfl, rfl⟩ ⟨Nat.le_of_ble_eq_true rfl, Nat.le_of_ble_eq_true rfl⟩ ⟨Nat.le_of_ble_eq_true rfl, Nat.le_of_ble_eq_true rfl⟩ 1 1 rfl rfl rfl rfl (Nat.le_of_ble_eq_true rfl) dX4_go_94 (fun r8 s9 h10 => ?_)
        obtain ⟨es9, hw⟩ := h10
        subst es9
        refine z_call0iV C hR hL (As := [.int p0, .int r8]) (c_X2_goOn l D a g s2 p0 r8 _ hw) gX4_go_X2_goOn rfl ⟨by decide +kernel, by decide +kernel, (show (parseMethodDescriptor yX2_goOn.desc).map (fun d => d.parameters.length) = some 2 from by decide +kernel)⟩ ⟨rfl, rfl⟩ ⟨Nat.le_of_ble_eq_true rfl, Nat.le_of_ble_eq_true rfl⟩ ⟨Nat.le_of_ble_eq_true rfl, Nat.le_of_ble_eq_true rfl⟩ 4 2 rfl rfl rfl rfl (Nat.le_of_ble_eq_true rfl) dX4_go_97 (fun r11 s12 h13 => ?_)
        have hw := h13
        exact hE _ _ _ _ _ _ dX4_go_100 rfl (Nat.le_of_ble_eq_true rfl) (Nat.le_of_ble_eq_true rfl) hw
      · have hw := hw.2 hc
        exact z_throw C CX hR XE "java/lang/IllegalStateException" "no observation in the net joins the stations" (by decide +kernel) (by decide +kernel) (List.mem_of_getElem? (i := 1) rfl) (List.mem_of_getElem? (i := 2) rfl) (fun _ h => h.2.2.2.2.2.2.2.2.2.2.2.2.2.2.1) (fun _ h => (List.mem_cons_of_mem _ (List.mem_append_left _ (List.mem_append_right _ h)))) (Bx := [.castable nISE nISE, .declares (Bundle.initS "java/lang/RuntimeException"), .declares (Bundle.initS "java/lang/Exception"), .declares (Bundle.initS Bundle.tN)]) (by decide +kernel) (fun _ h _ => vx_c h.1 (vx_c h.2.2.2.1 (vx_c h.2.2.2.2.1 (vx_c h.2.2.2.2.2.1 vx_n)))) (by decide +kernel) dX4_go_67 dX4_go_70 dX4_go_71 dX4_go_73 dX4_go_76 ⟨Nat.le_of_ble_eq_true rfl, Nat.le_of_ble_eq_true rfl, Nat.le_of_ble_eq_true rfl, Nat.le_of_ble_eq_true rfl⟩ hw
    · have hw := hw.2 hc
      refine z_aload_n C 0 dX4_go_37 rfl ?_
      refine zg4_path C i4 (List.mem_of_getElem? (i := 3) rfl) dX4_go_38 ?_
      refine z_iload_n C 1 dX4_go_41 rfl ?_
      refine z_call0iV C hR hL (As := [.int p0]) (c_X2_begin l D a g s2 p0 _ hw) gX4_go_X2_begin rfl ⟨by decide +kernel, by decide +kernel, (show (parseMethodDescriptor yX2_begin.desc).map (fun d => d.parameters.length) = some 1 from by decide +kernel)⟩ ⟨rfl, rfl⟩ ⟨Nat.le_of_ble_eq_true rfl, Nat.le_of_ble_eq_true rfl⟩ ⟨Nat.le_of_ble_eq_true rfl, Nat.le_of_ble_eq_true rfl⟩ 4 2 rfl rfl rfl rfl (Nat.le_of_ble_eq_true rfl) dX4_go_42 (fun r14 s15 h16 => ?_)
      have hw := h16
      exact hE _ _ _ _ _ _ dX4_go_45 rfl (Nat.le_of_ble_eq_true rfl) (Nat.le_of_ble_eq_true rfl) hw
  · have hw := hw.2 hc
    exact z_throw C CX hR XE "java/lang/IllegalStateException" "the path has 10 stations" (by decide +kernel) (by decide +kernel) (List.mem_of_getElem? (i := 1) rfl) (List.mem_of_getElem? (i := 2) rfl) (fun _ h => h.2.2.2.2.2.2.2.2.2.2.2.2.2.1) (fun _ h => (List.mem_cons_of_mem _ (List.mem_append_left _ (List.mem_append_right _ h)))) (Bx := [.castable nISE nISE, .declares (Bundle.initS "java/lang/RuntimeException"), .declares (Bundle.initS "java/lang/Exception"), .declares (Bundle.initS Bundle.tN)]) (by decide +kernel) (fun _ h _ => vx_c h.1 (vx_c h.2.2.2.1 (vx_c h.2.2.2.2.1 (vx_c h.2.2.2.2.2.1 vx_n)))) (by decide +kernel) dX4_go_17 dX4_go_20 dX4_go_21 dX4_go_23 dX4_go_26 ⟨Nat.le_of_ble_eq_true rfl, Nat.le_of_ble_eq_true rfl, Nat.le_of_ble_eq_true rfl, Nat.le_of_ble_eq_true rfl⟩ hw
def W_X4_height (s : zS) (p0 : Int32) (Q : Int64 → zS → Prop) (PX : String → zS → Prop) : Prop :=
    W_X4_needStation s p0 (fun s2 =>
    W_X0_heightOf s2 p0 (fun r4 s5 =>
    Q r4 s5)) PX
set_option maxHeartbeats 4000000 in
set_option maxRecDepth 100000 in
theorem c_X4_height (l : Launch) (hst : l.stackTraces = false) (D : va_G) (a : Nat → Nat) (g : Nat → ClassId) (ea : Nat → Nat) (s : zS) (p0 : Int32) (Q : Int64 → zS → Prop) (PX : String → zS → Prop) (hw : W_X4_height s p0 Q PX) : zXl l D (zT g) ea yX4_height wsX4_height ({ frames := 7, cells := 1, slots := 6, locals := 107 } : Room) [.ref (a 0), .int p0] (WX a g) s (fun r u => Q r u) PX := by
  have i4 : ∀ w ∈ u_ws RX4 TX4 4, w ∈ wsX4_height := fun _ h => (List.mem_cons_of_mem _ (List.mem_append_left _ (List.mem_append_left _ (List.mem_append_left _ (List.mem_append_right _ h)))))
  refine zXl_start (cc := cX4_height) (maxL := 2) (lv0 := [(0, .ref (a 0)), (1, .int p0)]) (own := RX4) hst rfl (by decide +kernel) rfl (Nat.le_of_ble_eq_true rfl) rfl (fun X C hR hL CX XE hE => ?_)
  refine z_aload_n C 0 dX4_height_0 rfl ?_
  refine z_iload_n C 1 dX4_height_1 rfl ?_
  refine z_xcallvV C hR hL CX XE (As := [.int p0]) (c_X4_needStation l hst D a g ea s p0 _ PX hw) (fun _ _ h => h) gX4_height_X4_needStation rfl ⟨by decide +kernel, by decide +kernel, (show (parseMethodDescriptor yX4_needStation.desc).map (fun d => d.parameters.length) = some 1 from by decide +kernel)⟩ ⟨Nat.le_of_ble_eq_true rfl, Nat.le_of_ble_eq_true rfl⟩ ⟨Nat.le_of_ble_eq_true rfl, Nat.le_of_ble_eq_true rfl⟩ 0 4 rfl rfl rfl rfl (Nat.le_of_ble_eq_true rfl) dX4_height_2 (fun s2 h3 => ?_)
  have hw := h3
  refine z_aload_n C 0 dX4_height_5 rfl ?_
  refine zg4_adjustment C i4 (List.mem_of_getElem? (i := 1) rfl) dX4_height_6 ?_
  refine z_iload_n C 1 dX4_height_9 rfl ?_
  refine z_call0lV C hR hL (As := [.int p0]) (c_X0_heightOf l D a g s2 p0 _ hw) gX4_height_X0_heightOf rfl ⟨by decide +kernel, by decide +kernel, (show (parseMethodDescriptor yX0_heightOf.desc).map (fun d => d.parameters.length) = some 1 from by decide +kernel)⟩ ⟨rfl, rfl⟩ ⟨Nat.le_of_ble_eq_true rfl, Nat.le_of_ble_eq_true rfl⟩ ⟨Nat.le_of_ble_eq_true rfl, Nat.le_of_ble_eq_true rfl⟩ 2 0 rfl rfl rfl rfl (Nat.le_of_ble_eq_true rfl) dX4_height_10 (fun r4 s5 h6 => ?_)
  have hw := h6
  exact hE _ _ _ _ _ _ dX4_height_13 (Nat.le_of_ble_eq_true rfl) (Nat.le_of_ble_eq_true rfl) hw
def W_X4_heightAnew (s : zS) (p0 : Int32) (Q : Int64 → zS → Prop) (PX : String → zS → Prop) : Prop :=
    W_X4_needStation s p0 (fun s2 =>
    W_X3_heightOf s2 p0 (fun r4 s5 =>
    Q r4 s5)) PX
set_option maxHeartbeats 4000000 in
set_option maxRecDepth 100000 in
theorem c_X4_heightAnew (l : Launch) (hst : l.stackTraces = false) (D : va_G) (a : Nat → Nat) (g : Nat → ClassId) (ea : Nat → Nat) (s : zS) (p0 : Int32) (Q : Int64 → zS → Prop) (PX : String → zS → Prop) (hw : W_X4_heightAnew s p0 Q PX) : zXl l D (zT g) ea yX4_heightAnew wsX4_heightAnew ({ frames := 12, cells := 1, slots := 6, locals := 301 } : Room) [.ref (a 0), .int p0] (WX a g) s (fun r u => Q r u) PX := by
  have i4 : ∀ w ∈ u_ws RX4 TX4 4, w ∈ wsX4_heightAnew := fun _ h => (List.mem_cons_of_mem _ (List.mem_append_left _ (List.mem_append_left _ (List.mem_append_left _ (List.mem_append_right _ h)))))
  refine zXl_start (cc := cX4_heightAnew) (maxL := 2) (lv0 := [(0, .ref (a 0)), (1, .int p0)]) (own := RX4) hst rfl (by decide +kernel) rfl (Nat.le_of_ble_eq_true rfl) rfl (fun X C hR hL CX XE hE => ?_)
  refine z_aload_n C 0 dX4_heightAnew_0 rfl ?_
  refine z_iload_n C 1 dX4_heightAnew_1 rfl ?_
  refine z_xcallvV C hR hL CX XE (As := [.int p0]) (c_X4_needStation l hst D a g ea s p0 _ PX hw) (fun _ _ h => h) gX4_heightAnew_X4_needStation rfl ⟨by decide +kernel, by decide +kernel, (show (parseMethodDescriptor yX4_needStation.desc).map (fun d => d.parameters.length) = some 1 from by decide +kernel)⟩ ⟨Nat.le_of_ble_eq_true rfl, Nat.le_of_ble_eq_true rfl⟩ ⟨Nat.le_of_ble_eq_true rfl, Nat.le_of_ble_eq_true rfl⟩ 0 4 rfl rfl rfl rfl (Nat.le_of_ble_eq_true rfl) dX4_heightAnew_2 (fun s2 h3 => ?_)
  have hw := h3
  refine z_aload_n C 0 dX4_heightAnew_5 rfl ?_
  refine zg4_treeWalk C i4 (List.mem_of_getElem? (i := 1) rfl) dX4_heightAnew_6 ?_
  refine z_iload_n C 1 dX4_heightAnew_9 rfl ?_
  refine z_call0lV C hR hL (As := [.int p0]) (c_X3_heightOf l D a g s2 p0 _ hw) gX4_heightAnew_X3_heightOf rfl ⟨by decide +kernel, by decide +kernel, (show (parseMethodDescriptor yX3_heightOf.desc).map (fun d => d.parameters.length) = some 1 from by decide +kernel)⟩ ⟨rfl, rfl⟩ ⟨Nat.le_of_ble_eq_true rfl, Nat.le_of_ble_eq_true rfl⟩ ⟨Nat.le_of_ble_eq_true rfl, Nat.le_of_ble_eq_true rfl⟩ 3 3 rfl rfl rfl rfl (Nat.le_of_ble_eq_true rfl) dX4_heightAnew_10 (fun r4 s5 h6 => ?_)
  have hw := h6
  exact hE _ _ _ _ _ _ dX4_heightAnew_13 (Nat.le_of_ble_eq_true rfl) (Nat.le_of_ble_eq_true rfl) hw
def W_X4_free (s : zS) (p0 : Int32) (Q : Int64 → zS → Prop) (PX : String → zS → Prop) : Prop :=
    W_X4_needStation s p0 (fun s2 =>
    W_X0_freeHeightOf s2 p0 (fun r4 s5 =>
    Q r4 s5)) PX
set_option maxHeartbeats 4000000 in
set_option maxRecDepth 100000 in
theorem c_X4_free (l : Launch) (hst : l.stackTraces = false) (D : va_G) (a : Nat → Nat) (g : Nat → ClassId) (ea : Nat → Nat) (s : zS) (p0 : Int32) (Q : Int64 → zS → Prop) (PX : String → zS → Prop) (hw : W_X4_free s p0 Q PX) : zXl l D (zT g) ea yX4_free wsX4_free ({ frames := 7, cells := 1, slots := 6, locals := 107 } : Room) [.ref (a 0), .int p0] (WX a g) s (fun r u => Q r u) PX := by
  have i4 : ∀ w ∈ u_ws RX4 TX4 4, w ∈ wsX4_free := fun _ h => (List.mem_cons_of_mem _ (List.mem_append_left _ (List.mem_append_left _ (List.mem_append_left _ (List.mem_append_right _ h)))))
  refine zXl_start (cc := cX4_free) (maxL := 2) (lv0 := [(0, .ref (a 0)), (1, .int p0)]) (own := RX4) hst rfl (by decide +kernel) rfl (Nat.le_of_ble_eq_true rfl) rfl (fun X C hR hL CX XE hE => ?_)
  refine z_aload_n C 0 dX4_free_0 rfl ?_
  refine z_iload_n C 1 dX4_free_1 rfl ?_
  refine z_xcallvV C hR hL CX XE (As := [.int p0]) (c_X4_needStation l hst D a g ea s p0 _ PX hw) (fun _ _ h => h) gX4_free_X4_needStation rfl ⟨by decide +kernel, by decide +kernel, (show (parseMethodDescriptor yX4_needStation.desc).map (fun d => d.parameters.length) = some 1 from by decide +kernel)⟩ ⟨Nat.le_of_ble_eq_true rfl, Nat.le_of_ble_eq_true rfl⟩ ⟨Nat.le_of_ble_eq_true rfl, Nat.le_of_ble_eq_true rfl⟩ 0 4 rfl rfl rfl rfl (Nat.le_of_ble_eq_true rfl) dX4_free_2 (fun s2 h3 => ?_)
  have hw := h3
  refine z_aload_n C 0 dX4_free_5 rfl ?_
  refine zg4_adjustment C i4 (List.mem_of_getElem? (i := 1) rfl) dX4_free_6 ?_
  refine z_iload_n C 1 dX4_free_9 rfl ?_
  refine z_call0lV C hR hL (As := [.int p0]) (c_X0_freeHeightOf l D a g s2 p0 _ hw) gX4_free_X0_freeHeightOf rfl ⟨by decide +kernel, by decide +kernel, (show (parseMethodDescriptor yX0_freeHeightOf.desc).map (fun d => d.parameters.length) = some 1 from by decide +kernel)⟩ ⟨rfl, rfl⟩ ⟨Nat.le_of_ble_eq_true rfl, Nat.le_of_ble_eq_true rfl⟩ ⟨Nat.le_of_ble_eq_true rfl, Nat.le_of_ble_eq_true rfl⟩ 2 0 rfl rfl rfl rfl (Nat.le_of_ble_eq_true rfl) dX4_free_10 (fun r4 s5 h6 => ?_)
  have hw := h6
  exact hE _ _ _ _ _ _ dX4_free_13 (Nat.le_of_ble_eq_true rfl) (Nat.le_of_ble_eq_true rfl) hw
def W_X4_residual (s : zS) (p0 : Int32) (Q : Int64 → zS → Prop) (PX : String → zS → Prop) : Prop :=
    W_X4_needObservationInNet s p0 (fun s2 =>
    W_X0_residualOf s2 p0 (fun r4 s5 =>
    Q r4 s5)) PX
set_option maxHeartbeats 4000000 in
set_option maxRecDepth 100000 in
theorem c_X4_residual (l : Launch) (hst : l.stackTraces = false) (D : va_G) (a : Nat → Nat) (g : Nat → ClassId) (ea : Nat → Nat) (s : zS) (p0 : Int32) (Q : Int64 → zS → Prop) (PX : String → zS → Prop) (hw : W_X4_residual s p0 Q PX) : zXl l D (zT g) ea yX4_residual wsX4_residual ({ frames := 8, cells := 2, slots := 12, locals := 128 } : Room) [.ref (a 0), .int p0] (WX a g) s (fun r u => Q r u) PX := by
  have i4 : ∀ w ∈ u_ws RX4 TX4 4, w ∈ wsX4_residual := fun _ h => (List.mem_cons_of_mem _ (List.mem_append_left _ (List.mem_append_left _ (List.mem_append_left _ (List.mem_append_left _ (List.mem_append_right _ h))))))
  refine zXl_start (cc := cX4_residual) (maxL := 2) (lv0 := [(0, .ref (a 0)), (1, .int p0)]) (own := RX4) hst rfl (by decide +kernel) rfl (Nat.le_of_ble_eq_true rfl) rfl (fun X C hR hL CX XE hE => ?_)
  refine z_aload_n C 0 dX4_residual_0 rfl ?_
  refine z_iload_n C 1 dX4_residual_1 rfl ?_
  refine z_xcallvV C hR hL CX XE (As := [.int p0]) (c_X4_needObservationInNet l hst D a g ea s p0 _ PX hw) (fun _ _ h => h) gX4_residual_X4_needObservationInNet rfl ⟨by decide +kernel, by decide +kernel, (show (parseMethodDescriptor yX4_needObservationInNet.desc).map (fun d => d.parameters.length) = some 1 from by decide +kernel)⟩ ⟨Nat.le_of_ble_eq_true rfl, Nat.le_of_ble_eq_true rfl⟩ ⟨Nat.le_of_ble_eq_true rfl, Nat.le_of_ble_eq_true rfl⟩ 0 4 rfl rfl rfl rfl (Nat.le_of_ble_eq_true rfl) dX4_residual_2 (fun s2 h3 => ?_)
  have hw := h3
  refine z_aload_n C 0 dX4_residual_5 rfl ?_
  refine zg4_adjustment C i4 (List.mem_of_getElem? (i := 1) rfl) dX4_residual_6 ?_
  refine z_iload_n C 1 dX4_residual_9 rfl ?_
  refine z_call0lV C hR hL (As := [.int p0]) (c_X0_residualOf l D a g s2 p0 _ hw) gX4_residual_X0_residualOf rfl ⟨by decide +kernel, by decide +kernel, (show (parseMethodDescriptor yX0_residualOf.desc).map (fun d => d.parameters.length) = some 1 from by decide +kernel)⟩ ⟨rfl, rfl⟩ ⟨Nat.le_of_ble_eq_true rfl, Nat.le_of_ble_eq_true rfl⟩ ⟨Nat.le_of_ble_eq_true rfl, Nat.le_of_ble_eq_true rfl⟩ 2 0 rfl rfl rfl rfl (Nat.le_of_ble_eq_true rfl) dX4_residual_10 (fun r4 s5 h6 => ?_)
  have hw := h6
  exact hE _ _ _ _ _ _ dX4_residual_13 (Nat.le_of_ble_eq_true rfl) (Nat.le_of_ble_eq_true rfl) hw
def W_X4_check (s : zS) (p0 : Int32) (Q : Int32 → zS → Prop) (PX : String → zS → Prop) : Prop :=
    W_X4_needObservationInNet s p0 (fun s2 =>
    W_X0_checkOf s2 p0 (fun r4 s5 =>
    Q r4 s5)) PX
set_option maxHeartbeats 4000000 in
set_option maxRecDepth 100000 in
theorem c_X4_check (l : Launch) (hst : l.stackTraces = false) (D : va_G) (a : Nat → Nat) (g : Nat → ClassId) (ea : Nat → Nat) (s : zS) (p0 : Int32) (Q : Int32 → zS → Prop) (PX : String → zS → Prop) (hw : W_X4_check s p0 Q PX) : zXi l D (zT g) ea yX4_check wsX4_check ({ frames := 8, cells := 2, slots := 12, locals := 128 } : Room) [.ref (a 0), .int p0] (WX a g) s (fun r u => Q r u) PX := by
  have i4 : ∀ w ∈ u_ws RX4 TX4 4, w ∈ wsX4_check := fun _ h => (List.mem_cons_of_mem _ (List.mem_append_left _ (List.mem_append_left _ (List.mem_append_left _ (List.mem_append_left _ (List.mem_append_right _ h))))))
  refine zXi_start (cc := cX4_check) (maxL := 2) (lv0 := [(0, .ref (a 0)), (1, .int p0)]) (own := RX4) hst rfl (by decide +kernel) rfl (Nat.le_of_ble_eq_true rfl) rfl (fun X C hR hL CX XE hE => ?_)
  refine z_aload_n C 0 dX4_check_0 rfl ?_
  refine z_iload_n C 1 dX4_check_1 rfl ?_
  refine z_xcallvV C hR hL CX XE (As := [.int p0]) (c_X4_needObservationInNet l hst D a g ea s p0 _ PX hw) (fun _ _ h => h) gX4_check_X4_needObservationInNet rfl ⟨by decide +kernel, by decide +kernel, (show (parseMethodDescriptor yX4_needObservationInNet.desc).map (fun d => d.parameters.length) = some 1 from by decide +kernel)⟩ ⟨Nat.le_of_ble_eq_true rfl, Nat.le_of_ble_eq_true rfl⟩ ⟨Nat.le_of_ble_eq_true rfl, Nat.le_of_ble_eq_true rfl⟩ 0 4 rfl rfl rfl rfl (Nat.le_of_ble_eq_true rfl) dX4_check_2 (fun s2 h3 => ?_)
  have hw := h3
  refine z_aload_n C 0 dX4_check_5 rfl ?_
  refine zg4_adjustment C i4 (List.mem_of_getElem? (i := 1) rfl) dX4_check_6 ?_
  refine z_iload_n C 1 dX4_check_9 rfl ?_
  refine z_call0iV C hR hL (As := [.int p0]) (c_X0_checkOf l D a g s2 p0 _ hw) gX4_check_X0_checkOf rfl ⟨by decide +kernel, by decide +kernel, (show (parseMethodDescriptor yX0_checkOf.desc).map (fun d => d.parameters.length) = some 1 from by decide +kernel)⟩ ⟨rfl, rfl⟩ ⟨Nat.le_of_ble_eq_true rfl, Nat.le_of_ble_eq_true rfl⟩ ⟨Nat.le_of_ble_eq_true rfl, Nat.le_of_ble_eq_true rfl⟩ 2 0 rfl rfl rfl rfl (Nat.le_of_ble_eq_true rfl) dX4_check_10 (fun r4 s5 h6 => ?_)
  have hw := h6
  exact hE _ _ _ _ _ _ dX4_check_13 rfl (Nat.le_of_ble_eq_true rfl) (Nat.le_of_ble_eq_true rfl) hw
def W_X4_checkAnew (s : zS) (p0 : Int32) (Q : Int32 → zS → Prop) (PX : String → zS → Prop) : Prop :=
    W_X4_needObservationInNet s p0 (fun s2 =>
    W_X3_checkOf s2 p0 (fun r4 s5 =>
    Q r4 s5)) PX
set_option maxHeartbeats 4000000 in
set_option maxRecDepth 100000 in
theorem c_X4_checkAnew (l : Launch) (hst : l.stackTraces = false) (D : va_G) (a : Nat → Nat) (g : Nat → ClassId) (ea : Nat → Nat) (s : zS) (p0 : Int32) (Q : Int32 → zS → Prop) (PX : String → zS → Prop) (hw : W_X4_checkAnew s p0 Q PX) : zXi l D (zT g) ea yX4_checkAnew wsX4_checkAnew ({ frames := 12, cells := 2, slots := 12, locals := 299 } : Room) [.ref (a 0), .int p0] (WX a g) s (fun r u => Q r u) PX := by
  have i4 : ∀ w ∈ u_ws RX4 TX4 4, w ∈ wsX4_checkAnew := fun _ h => (List.mem_cons_of_mem _ (List.mem_append_left _ (List.mem_append_left _ (List.mem_append_left _ (List.mem_append_left _ (List.mem_append_right _ h))))))
  refine zXi_start (cc := cX4_checkAnew) (maxL := 2) (lv0 := [(0, .ref (a 0)), (1, .int p0)]) (own := RX4) hst rfl (by decide +kernel) rfl (Nat.le_of_ble_eq_true rfl) rfl (fun X C hR hL CX XE hE => ?_)
  refine z_aload_n C 0 dX4_checkAnew_0 rfl ?_
  refine z_iload_n C 1 dX4_checkAnew_1 rfl ?_
  refine z_xcallvV C hR hL CX XE (As := [.int p0]) (c_X4_needObservationInNet l hst D a g ea s p0 _ PX hw) (fun _ _ h => h) gX4_checkAnew_X4_needObservationInNet rfl ⟨by decide +kernel, by decide +kernel, (show (parseMethodDescriptor yX4_needObservationInNet.desc).map (fun d => d.parameters.length) = some 1 from by decide +kernel)⟩ ⟨Nat.le_of_ble_eq_true rfl, Nat.le_of_ble_eq_true rfl⟩ ⟨Nat.le_of_ble_eq_true rfl, Nat.le_of_ble_eq_true rfl⟩ 0 4 rfl rfl rfl rfl (Nat.le_of_ble_eq_true rfl) dX4_checkAnew_2 (fun s2 h3 => ?_)
  have hw := h3
  refine z_aload_n C 0 dX4_checkAnew_5 rfl ?_
  refine zg4_treeWalk C i4 (List.mem_of_getElem? (i := 1) rfl) dX4_checkAnew_6 ?_
  refine z_iload_n C 1 dX4_checkAnew_9 rfl ?_
  refine z_call0iV C hR hL (As := [.int p0]) (c_X3_checkOf l D a g s2 p0 _ hw) gX4_checkAnew_X3_checkOf rfl ⟨by decide +kernel, by decide +kernel, (show (parseMethodDescriptor yX3_checkOf.desc).map (fun d => d.parameters.length) = some 1 from by decide +kernel)⟩ ⟨rfl, rfl⟩ ⟨Nat.le_of_ble_eq_true rfl, Nat.le_of_ble_eq_true rfl⟩ ⟨Nat.le_of_ble_eq_true rfl, Nat.le_of_ble_eq_true rfl⟩ 3 3 rfl rfl rfl rfl (Nat.le_of_ble_eq_true rfl) dX4_checkAnew_10 (fun r4 s5 h6 => ?_)
  have hw := h6
  exact hE _ _ _ _ _ _ dX4_checkAnew_13 rfl (Nat.le_of_ble_eq_true rfl) (Nat.le_of_ble_eq_true rfl) hw
def W_X4_score (s : zS) (p0 : Int32) (Q : Int64 → zS → Prop) (PX : String → zS → Prop) : Prop :=
    W_X4_needObservationInNet s p0 (fun s2 =>
    W_X0_scoreOf s2 p0 (fun r4 s5 =>
    Q r4 s5)) PX
set_option maxHeartbeats 4000000 in
set_option maxRecDepth 100000 in
theorem c_X4_score (l : Launch) (hst : l.stackTraces = false) (D : va_G) (a : Nat → Nat) (g : Nat → ClassId) (ea : Nat → Nat) (s : zS) (p0 : Int32) (Q : Int64 → zS → Prop) (PX : String → zS → Prop) (hw : W_X4_score s p0 Q PX) : zXl l D (zT g) ea yX4_score wsX4_score ({ frames := 8, cells := 2, slots := 12, locals := 129 } : Room) [.ref (a 0), .int p0] (WX a g) s (fun r u => Q r u) PX := by
  have i4 : ∀ w ∈ u_ws RX4 TX4 4, w ∈ wsX4_score := fun _ h => (List.mem_cons_of_mem _ (List.mem_append_left _ (List.mem_append_left _ (List.mem_append_left _ (List.mem_append_left _ (List.mem_append_right _ h))))))
  refine zXl_start (cc := cX4_score) (maxL := 2) (lv0 := [(0, .ref (a 0)), (1, .int p0)]) (own := RX4) hst rfl (by decide +kernel) rfl (Nat.le_of_ble_eq_true rfl) rfl (fun X C hR hL CX XE hE => ?_)
  refine z_aload_n C 0 dX4_score_0 rfl ?_
  refine z_iload_n C 1 dX4_score_1 rfl ?_
  refine z_xcallvV C hR hL CX XE (As := [.int p0]) (c_X4_needObservationInNet l hst D a g ea s p0 _ PX hw) (fun _ _ h => h) gX4_score_X4_needObservationInNet rfl ⟨by decide +kernel, by decide +kernel, (show (parseMethodDescriptor yX4_needObservationInNet.desc).map (fun d => d.parameters.length) = some 1 from by decide +kernel)⟩ ⟨Nat.le_of_ble_eq_true rfl, Nat.le_of_ble_eq_true rfl⟩ ⟨Nat.le_of_ble_eq_true rfl, Nat.le_of_ble_eq_true rfl⟩ 0 4 rfl rfl rfl rfl (Nat.le_of_ble_eq_true rfl) dX4_score_2 (fun s2 h3 => ?_)
  have hw := h3
  refine z_aload_n C 0 dX4_score_5 rfl ?_
  refine zg4_adjustment C i4 (List.mem_of_getElem? (i := 1) rfl) dX4_score_6 ?_
  refine z_iload_n C 1 dX4_score_9 rfl ?_
  refine z_call0lV C hR hL (As := [.int p0]) (c_X0_scoreOf l D a g s2 p0 _ hw) gX4_score_X0_scoreOf rfl ⟨by decide +kernel, by decide +kernel, (show (parseMethodDescriptor yX0_scoreOf.desc).map (fun d => d.parameters.length) = some 1 from by decide +kernel)⟩ ⟨rfl, rfl⟩ ⟨Nat.le_of_ble_eq_true rfl, Nat.le_of_ble_eq_true rfl⟩ ⟨Nat.le_of_ble_eq_true rfl, Nat.le_of_ble_eq_true rfl⟩ 2 0 rfl rfl rfl rfl (Nat.le_of_ble_eq_true rfl) dX4_score_10 (fun r4 s5 h6 => ?_)
  have hw := h6
  exact hE _ _ _ _ _ _ dX4_score_13 (Nat.le_of_ble_eq_true rfl) (Nat.le_of_ble_eq_true rfl) hw
def W_X4_trees (s : zS) (p0 : Int32) (Q : Int64 → zS → Prop) (PX : String → zS → Prop) : Prop :=
    W_X4_needStation s p0 (fun s2 =>
    W_X0_treeWeightOf s2 p0 (fun r4 s5 =>
    Q r4 s5)) PX
set_option maxHeartbeats 4000000 in
set_option maxRecDepth 100000 in
theorem c_X4_trees (l : Launch) (hst : l.stackTraces = false) (D : va_G) (a : Nat → Nat) (g : Nat → ClassId) (ea : Nat → Nat) (s : zS) (p0 : Int32) (Q : Int64 → zS → Prop) (PX : String → zS → Prop) (hw : W_X4_trees s p0 Q PX) : zXl l D (zT g) ea yX4_trees wsX4_trees ({ frames := 7, cells := 1, slots := 6, locals := 107 } : Room) [.ref (a 0), .int p0] (WX a g) s (fun r u => Q r u) PX := by
  have i4 : ∀ w ∈ u_ws RX4 TX4 4, w ∈ wsX4_trees := fun _ h => (List.mem_cons_of_mem _ (List.mem_append_left _ (List.mem_append_left _ (List.mem_append_left _ (List.mem_append_right _ h)))))
  refine zXl_start (cc := cX4_trees) (maxL := 2) (lv0 := [(0, .ref (a 0)), (1, .int p0)]) (own := RX4) hst rfl (by decide +kernel) rfl (Nat.le_of_ble_eq_true rfl) rfl (fun X C hR hL CX XE hE => ?_)
  refine z_aload_n C 0 dX4_trees_0 rfl ?_
  refine z_iload_n C 1 dX4_trees_1 rfl ?_
  refine z_xcallvV C hR hL CX XE (As := [.int p0]) (c_X4_needStation l hst D a g ea s p0 _ PX hw) (fun _ _ h => h) gX4_trees_X4_needStation rfl ⟨by decide +kernel, by decide +kernel, (show (parseMethodDescriptor yX4_needStation.desc).map (fun d => d.parameters.length) = some 1 from by decide +kernel)⟩ ⟨Nat.le_of_ble_eq_true rfl, Nat.le_of_ble_eq_true rfl⟩ ⟨Nat.le_of_ble_eq_true rfl, Nat.le_of_ble_eq_true rfl⟩ 0 4 rfl rfl rfl rfl (Nat.le_of_ble_eq_true rfl) dX4_trees_2 (fun s2 h3 => ?_)
  have hw := h3
  refine z_aload_n C 0 dX4_trees_5 rfl ?_
  refine zg4_adjustment C i4 (List.mem_of_getElem? (i := 1) rfl) dX4_trees_6 ?_
  refine z_iload_n C 1 dX4_trees_9 rfl ?_
  refine z_call0lV C hR hL (As := [.int p0]) (c_X0_treeWeightOf l D a g s2 p0 _ hw) gX4_trees_X0_treeWeightOf rfl ⟨by decide +kernel, by decide +kernel, (show (parseMethodDescriptor yX0_treeWeightOf.desc).map (fun d => d.parameters.length) = some 1 from by decide +kernel)⟩ ⟨rfl, rfl⟩ ⟨Nat.le_of_ble_eq_true rfl, Nat.le_of_ble_eq_true rfl⟩ ⟨Nat.le_of_ble_eq_true rfl, Nat.le_of_ble_eq_true rfl⟩ 2 0 rfl rfl rfl rfl (Nat.le_of_ble_eq_true rfl) dX4_trees_10 (fun r4 s5 h6 => ?_)
  have hw := h6
  exact hE _ _ _ _ _ _ dX4_trees_13 (Nat.le_of_ble_eq_true rfl) (Nat.le_of_ble_eq_true rfl) hw
