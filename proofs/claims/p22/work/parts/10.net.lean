def W_X1_hasStation (s : zS) (p0 : Int32) (Q : Int32 → Prop) : Prop :=
    (p0 < 0 →
    Q 0) ∧ (¬ p0 < 0 →
    ((gI s 0) ≤ p0 →
    Q 0) ∧ (¬ (gI s 0) ≤ p0 →
    Q 1))
set_option maxHeartbeats 4000000 in
set_option maxRecDepth 100000 in
theorem c_X1_hasStation (l : Launch) (D : va_G) (a : Nat → Nat) (g : Nat → ClassId) (s : zS) (p0 : Int32) (Q : Int32 → Prop) (hw : W_X1_hasStation s p0 Q) : zMi l D (zT g) yX1_hasStation wsX1_hasStation ({ frames := 0, cells := 0, slots := 0, locals := 0 } : Room) [.ref (a 1), .int p0] (WX a g) s (fun r u => s = u ∧ Q r) := by
  have i1 : ∀ w ∈ u_ws RX1 TX1 10, w ∈ wsX1_hasStation := fun _ h => (List.mem_cons_of_mem _ (List.mem_append_right _ h))
  refine zMi_start (cc := cX1_hasStation) (maxL := 2) (lv0 := [(0, .ref (a 1)), (1, .int p0)]) (own := RX1) rfl (plainFor_of_name (by decide)) rfl (Nat.le_of_ble_eq_true rfl) rfl (fun X C hR hL hE => ?_)
  refine z_iload_n C 1 dX1_hasStation_0 rfl ?_
  refine z_if_lt C 16 dX1_hasStation_1 (by decide) (fun hc => ?_) (fun hc => ?_)
  · have hw := hw.1 hc
    refine z_iconst C 0 dX1_hasStation_16 (by decide) ?_
    exact hE _ _ _ _ _ _ dX1_hasStation_17 rfl (Nat.le_refl _) (Nat.le_refl _) ⟨rfl, hw⟩
  · have hw := hw.2 hc
    refine z_iload_n C 1 dX1_hasStation_4 rfl ?_
    refine z_aload_n C 0 dX1_hasStation_5 rfl ?_
    refine zg1_stations C i1 (List.mem_of_getElem? (i := 1) rfl) dX1_hasStation_6 ?_
    refine z_icmp_ge C 16 dX1_hasStation_9 (by decide) (fun hc => ?_) (fun hc => ?_)
    · have hw := hw.1 hc
      refine z_iconst C 0 dX1_hasStation_16 (by decide) ?_
      exact hE _ _ _ _ _ _ dX1_hasStation_17 rfl (Nat.le_refl _) (Nat.le_refl _) ⟨rfl, hw⟩
    · have hw := hw.2 hc
      refine z_iconst C 1 dX1_hasStation_12 (by decide) ?_
      refine z_goto C 17 dX1_hasStation_13 (by decide) ?_
      exact hE _ _ _ _ _ _ dX1_hasStation_17 rfl (Nat.le_refl _) (Nat.le_refl _) ⟨rfl, hw⟩
def W_X1_hasObservation (s : zS) (p0 : Int32) (Q : Int32 → Prop) : Prop :=
    (p0 < 0 →
    Q 0) ∧ (¬ p0 < 0 →
    ((gI s 1) ≤ p0 →
    Q 0) ∧ (¬ (gI s 1) ≤ p0 →
    Q 1))
set_option maxHeartbeats 4000000 in
set_option maxRecDepth 100000 in
theorem c_X1_hasObservation (l : Launch) (D : va_G) (a : Nat → Nat) (g : Nat → ClassId) (s : zS) (p0 : Int32) (Q : Int32 → Prop) (hw : W_X1_hasObservation s p0 Q) : zMi l D (zT g) yX1_hasObservation wsX1_hasObservation ({ frames := 0, cells := 0, slots := 0, locals := 0 } : Room) [.ref (a 1), .int p0] (WX a g) s (fun r u => s = u ∧ Q r) := by
  have i1 : ∀ w ∈ u_ws RX1 TX1 10, w ∈ wsX1_hasObservation := fun _ h => (List.mem_cons_of_mem _ (List.mem_append_right _ h))
  refine zMi_start (cc := cX1_hasObservation) (maxL := 2) (lv0 := [(0, .ref (a 1)), (1, .int p0)]) (own := RX1) rfl (plainFor_of_name (by decide)) rfl (Nat.le_of_ble_eq_true rfl) rfl (fun X C hR hL hE => ?_)
  refine z_iload_n C 1 dX1_hasObservation_0 rfl ?_
  refine z_if_lt C 16 dX1_hasObservation_1 (by decide) (fun hc => ?_) (fun hc => ?_)
  · have hw := hw.1 hc
    refine z_iconst C 0 dX1_hasObservation_16 (by decide) ?_
    exact hE _ _ _ _ _ _ dX1_hasObservation_17 rfl (Nat.le_refl _) (Nat.le_refl _) ⟨rfl, hw⟩
  · have hw := hw.2 hc
    refine z_iload_n C 1 dX1_hasObservation_4 rfl ?_
    refine z_aload_n C 0 dX1_hasObservation_5 rfl ?_
    refine zg1_observations C i1 (List.mem_of_getElem? (i := 1) rfl) dX1_hasObservation_6 ?_
    refine z_icmp_ge C 16 dX1_hasObservation_9 (by decide) (fun hc => ?_) (fun hc => ?_)
    · have hw := hw.1 hc
      refine z_iconst C 0 dX1_hasObservation_16 (by decide) ?_
      exact hE _ _ _ _ _ _ dX1_hasObservation_17 rfl (Nat.le_refl _) (Nat.le_refl _) ⟨rfl, hw⟩
    · have hw := hw.2 hc
      refine z_iconst C 1 dX1_hasObservation_12 (by decide) ?_
      refine z_goto C 17 dX1_hasObservation_13 (by decide) ?_
      exact hE _ _ _ _ _ _ dX1_hasObservation_17 rfl (Nat.le_refl _) (Nat.le_refl _) ⟨rfl, hw⟩
def W_X1_areInOnePart (s : zS) (p0 : Int32) (p1 : Int32) (Q : Int32 → Prop) : Prop :=
    vp_in p0 6 ∧
    vp_in p1 6 ∧
    (¬ (gF s 2 (ix p0)) = (gF s 2 (ix p1)) →
    Q 0) ∧ ((gF s 2 (ix p0)) = (gF s 2 (ix p1)) →
    Q 1)
set_option maxHeartbeats 4000000 in
set_option maxRecDepth 100000 in
theorem c_X1_areInOnePart (l : Launch) (D : va_G) (a : Nat → Nat) (g : Nat → ClassId) (s : zS) (p0 : Int32) (p1 : Int32) (Q : Int32 → Prop) (hw : W_X1_areInOnePart s p0 p1 Q) : zMi l D (zT g) yX1_areInOnePart wsX1_areInOnePart ({ frames := 0, cells := 0, slots := 0, locals := 0 } : Room) [.ref (a 1), .int p0, .int p1] (WX a g) s (fun r u => s = u ∧ Q r) := by
  have i1 : ∀ w ∈ u_ws RX1 TX1 10, w ∈ wsX1_areInOnePart := fun _ h => (List.mem_cons_of_mem _ (List.mem_append_right _ h))
  refine zMi_start (cc := cX1_areInOnePart) (maxL := 3) (lv0 := [(0, .ref (a 1)), (1, .int p0), (2, .int p1)]) (own := RX1) rfl (plainFor_of_name (by decide)) rfl (Nat.le_of_ble_eq_true rfl) rfl (fun X C hR hL hE => ?_)
  refine z_aload_n C 0 dX1_areInOnePart_0 rfl ?_
  refine zg1_lowest C i1 (List.mem_of_getElem? (i := 1) rfl) dX1_areInOnePart_1 ?_
  refine z_iload_n C 1 dX1_areInOnePart_4 rfl ?_
  obtain ⟨b1, hw⟩ := hw
  refine zl1_lowest C b1 dX1_areInOnePart_5 ?_
  refine z_aload_n C 0 dX1_areInOnePart_6 rfl ?_
  refine zg1_lowest C i1 (List.mem_of_getElem? (i := 1) rfl) dX1_areInOnePart_7 ?_
  refine z_iload_n C 2 dX1_areInOnePart_10 rfl ?_
  obtain ⟨b2, hw⟩ := hw
  refine zl1_lowest C b2 dX1_areInOnePart_11 ?_
  refine z_icmp_ne C 19 dX1_areInOnePart_12 (by decide) (fun hc => ?_) (fun hc => ?_)
  · have hw := hw.1 hc
    refine z_iconst C 0 dX1_areInOnePart_19 (by decide) ?_
    exact hE _ _ _ _ _ _ dX1_areInOnePart_20 rfl (Nat.le_refl _) (Nat.le_refl _) ⟨rfl, hw⟩
  · have hw := hw.2 hc
    refine z_iconst C 1 dX1_areInOnePart_15 (by decide) ?_
    refine z_goto C 20 dX1_areInOnePart_16 (by decide) ?_
    exact hE _ _ _ _ _ _ dX1_areInOnePart_20 rfl (Nat.le_refl _) (Nat.le_refl _) ⟨rfl, hw⟩
def W_X1_mergeParts_L16 (x1 : Int32) (x2 : Int32) (Q : zS → Prop) (K : zS → Prop) : Nat → Int32 → zS → Prop
  | 0, _, _ => False
  | n + 1, v10, s11 =>
    ((gI s11 0) ≤ v10 →
    K s11) ∧ (¬ (gI s11 0) ≤ v10 →
    vp_in v10 6 ∧
    (¬ (gF s11 2 (ix v10)) = x2 →
    ∀ x13 : Int32, x13 = v10 + 1 →
    W_X1_mergeParts_L16 x1 x2 Q K n x13 s11) ∧ ((gF s11 2 (ix v10)) = x2 →
    vp_in v10 6 ∧
    ∀ s15 : zS, s15 = sF s11 2 (ix v10) x1 →
    ∀ x16 : Int32, x16 = v10 + 1 →
    W_X1_mergeParts_L16 x1 x2 Q K n x16 s15))
def W_X1_mergeParts (s : zS) (p0 : Int32) (p1 : Int32) (Q : zS → Prop) : Prop :=
    ∀ x1 : Int32, x1 = (if p1 < p0 then p1 else p0) →
    ∀ x2 : Int32, x2 = (if p0 < p1 then p1 else p0) →
    ∀ x3 : Int32, x3 = 0 →
    ∃ (K4 : zS → Prop) (n5 : Nat), (∀  (s9 : zS), K4 s9 →
    Q s9) ∧ W_X1_mergeParts_L16 x1 x2 Q K4 n5 x3 s
set_option maxHeartbeats 4000000 in
set_option maxRecDepth 100000 in
theorem c_X1_mergeParts (l : Launch) (D : va_G) (a : Nat → Nat) (g : Nat → ClassId) (s : zS) (p0 : Int32) (p1 : Int32) (Q : zS → Prop) (hw : W_X1_mergeParts s p0 p1 Q) : zMv l D (zT g) yX1_mergeParts wsX1_mergeParts ({ frames := 1, cells := 0, slots := 0, locals := 21 } : Room) [.ref (a 1), .int p0, .int p1] (WX a g) s (fun u => Q u) := by
  have i1 : ∀ w ∈ u_ws RX1 TX1 10, w ∈ wsX1_mergeParts := fun _ h => (List.mem_cons_of_mem _ (List.mem_append_right _ h))
  refine zMv_start (cc := cX1_mergeParts) (maxL := 6) (lv0 := [(0, .ref (a 1)), (1, .int p0), (2, .int p1)]) (own := RX1) rfl (plainFor_of_name (by decide)) rfl (Nat.le_of_ble_eq_true rfl) rfl (fun X C hR hL hE => ?_)
  refine z_iload_n C 1 dX1_mergeParts_0 rfl ?_
  refine z_iload_n C 2 dX1_mergeParts_1 rfl ?_
  refine z_mmin C _ hR (List.mem_of_getElem? (i := 1) rfl) (List.mem_of_getElem? (i := 2) rfl) (List.mem_of_getElem? (i := 3) rfl) (List.mem_of_getElem? (i := 4) rfl) ⟨Nat.le_of_ble_eq_true rfl, Nat.le_of_ble_eq_true rfl, Nat.le_of_ble_eq_true rfl, Nat.le_of_ble_eq_true rfl⟩ dX1_mergeParts_2 ?_
  refine z_topi (fun x1 ex1 => ?_)
  have hw := hw x1 ex1
  refine z_istore_n (lv' := [(3, .int x1), (0, .ref (a 1)), (1, .int p0), (2, .int p1)]) C 3 dX1_mergeParts_5 rfl (by decide) rfl ?_
  refine z_iload_n C 2 dX1_mergeParts_6 rfl ?_
  refine z_iload_n C 3 dX1_mergeParts_7 rfl ?_
  refine z_mmax C _ hR (List.mem_of_getElem? (i := 5) rfl) (List.mem_of_getElem? (i := 6) rfl) (List.mem_of_getElem? (i := 3) rfl) (List.mem_of_getElem? (i := 7) rfl) ⟨Nat.le_of_ble_eq_true rfl, Nat.le_of_ble_eq_true rfl, Nat.le_of_ble_eq_true rfl, Nat.le_of_ble_eq_true rfl⟩ dX1_mergeParts_8 ?_
  refine z_topi (fun x2 ex2 => ?_)
  have hw := hw x2 ex2
  refine z_istore (lv' := [(4, .int x2), (3, .int x1), (0, .ref (a 1)), (1, .int p0), (2, .int p1)]) C dX1_mergeParts_11 (by decide) rfl ?_
  refine z_iconst C 0 dX1_mergeParts_13 (by decide) ?_
  refine z_topi (fun x3 ex3 => ?_)
  have hw := hw x3 ex3
  refine z_istore (lv' := [(5, .int x3), (4, .int x2), (3, .int x1), (0, .ref (a 1)), (1, .int p0), (2, .int p1)]) C dX1_mergeParts_14 (by decide) rfl ?_
  refine z_sub (lv' := [(0, .ref (a 1)), (3, .int x1), (4, .int x2), (5, .int x3)]) [3, 2, 1, 0] rfl ?_
  obtain ⟨K4, n5, hK6, hw⟩ := hw
  have hx7 : ∀ (s9 : zS), K4 s9 → zV X D 6 0 0 (WX a g s9) 51 [] [] := by
    intro s9 hw0
    have hw := hK6 s9 hw0
    exact hE _ _ _ _ _ dX1_mergeParts_51 (Nat.le_refl _) (Nat.le_refl _) hw
  have lp8 : ∀ (n : Nat) (v10 : Int32) (s11 : zS), W_X1_mergeParts_L16 x1 x2 Q K4 n v10 s11 → zV X D 6 0 0 (WX a g s11) 16 [(0, .ref (a 1)), (3, .int x1), (4, .int x2), (5, .int v10)] [] := by
    intro n
    induction n with
    | zero => intro v10 s11 hw; exact False.elim hw
    | succ n ih =>
      intro v10 s11 hw
      refine z_iload C 3 dX1_mergeParts_16 rfl ?_
      refine z_aload_n C 0 dX1_mergeParts_18 rfl ?_
      refine zg1_stations C i1 (List.mem_of_getElem? (i := 8) rfl) dX1_mergeParts_19 ?_
      refine z_icmp_ge C 51 dX1_mergeParts_22 (by decide) (fun hc => ?_) (fun hc => ?_)
      · have hw := hw.1 hc
        refine z_sub (lv' := []) [] rfl ?_
        exact hx7 _ hw
      · have hw := hw.2 hc
        refine z_aload_n C 0 dX1_mergeParts_25 rfl ?_
        refine zg1_lowest C i1 (List.mem_of_getElem? (i := 9) rfl) dX1_mergeParts_26 ?_
        refine z_iload C 3 dX1_mergeParts_29 rfl ?_
        obtain ⟨b12, hw⟩ := hw
        refine zl1_lowest C b12 dX1_mergeParts_31 ?_
        refine z_iload C 2 dX1_mergeParts_32 rfl ?_
        refine z_icmp_ne C 45 dX1_mergeParts_34 (by decide) (fun hc => ?_) (fun hc => ?_)
        · have hw := hw.1 hc
          obtain ⟨x13, ex13⟩ : ∃ z : Int32, z = v10 + 1 := ⟨_, rfl⟩
          have hw := hw x13 ex13
          refine z_iinc (lv' := [(5, .int x13), (0, .ref (a 1)), (3, .int x1), (4, .int x2)]) C 3 dX1_mergeParts_45 rfl (by rw [ex13]; rfl) (by decide) rfl ?_
          refine z_goto C 16 dX1_mergeParts_48 (by decide) ?_
          refine z_sub (lv' := [(0, .ref (a 1)), (3, .int x1), (4, .int x2), (5, .int x13)]) [1, 2, 3, 0] rfl ?_
          exact ih _ _ hw
        · have hw := hw.2 hc
          refine z_aload_n C 0 dX1_mergeParts_37 rfl ?_
          refine zg1_lowest C i1 (List.mem_of_getElem? (i := 9) rfl) dX1_mergeParts_38 ?_
          refine z_iload C 3 dX1_mergeParts_41 rfl ?_
          refine z_iload_n C 1 dX1_mergeParts_43 rfl ?_
          obtain ⟨b14, hw⟩ := hw
          refine zs1_lowest C b14 dX1_mergeParts_44 ?_
          refine z_topsWX (fun s15 es15 => ?_)
          have hw := hw s15 es15
          obtain ⟨x16, ex16⟩ : ∃ z : Int32, z = v10 + 1 := ⟨_, rfl⟩
          have hw := hw x16 ex16
          refine z_iinc (lv' := [(5, .int x16), (0, .ref (a 1)), (3, .int x1), (4, .int x2)]) C 3 dX1_mergeParts_45 rfl (by rw [ex16]; rfl) (by decide) rfl ?_
          refine z_goto C 16 dX1_mergeParts_48 (by decide) ?_
          refine z_sub (lv' := [(0, .ref (a 1)), (3, .int x1), (4, .int x2), (5, .int x16)]) [1, 2, 3, 0] rfl ?_
          exact ih _ _ hw
  exact lp8 n5 _ _ hw
def W_X1_markParts_L25 (Q : zS → Prop) (K : zS → Prop) : Nat → Int32 → zS → Prop
  | 0, _, _ => False
  | n + 1, v15, s16 =>
    ((gI s16 1) ≤ v15 →
    K s16) ∧ (¬ (gI s16 1) ≤ v15 →
    vp_in v15 14 ∧
    (¬ (gF s16 7 (ix v15)) = 0 →
    ∀ x18 : Int32, x18 = v15 + 1 →
    W_X1_markParts_L25 Q K n x18 s16) ∧ ((gF s16 7 (ix v15)) = 0 →
    vp_in v15 14 ∧
    vp_in (gF s16 3 (ix v15)) 6 ∧
    vp_in v15 14 ∧
    vp_in (gF s16 4 (ix v15)) 6 ∧
    W_X1_mergeParts s16 (gF s16 2 (ix (gF s16 3 (ix v15)))) (gF s16 2 (ix (gF s16 4 (ix v15)))) (fun s24 =>
    ∀ x26 : Int32, x26 = v15 + 1 →
    W_X1_markParts_L25 Q K n x26 s24)))
def W_X1_markParts_L2 (Q : zS → Prop) (K : zS → Prop) : Nat → Int32 → zS → Prop
  | 0, _, _ => False
  | n + 1, v27, s28 =>
    ((gI s28 0) ≤ v27 →
    K s28) ∧ (¬ (gI s28 0) ≤ v27 →
    vp_in v27 6 ∧
    ∀ s30 : zS, s30 = sF s28 2 (ix v27) v27 →
    ∀ x31 : Int32, x31 = v27 + 1 →
    W_X1_markParts_L2 Q K n x31 s30)
def W_X1_markParts (s : zS) (Q : zS → Prop) : Prop :=
    ∀ x1 : Int32, x1 = 0 →
    ∃ (K2 : zS → Prop) (n3 : Nat), (∀  (s7 : zS), K2 s7 →
    ∀ x8 : Int32, x8 = 0 →
    ∃ (K9 : zS → Prop) (n10 : Nat), (∀  (s14 : zS), K9 s14 →
    Q s14) ∧ W_X1_markParts_L25 Q K9 n10 x8 s7) ∧ W_X1_markParts_L2 Q K2 n3 x1 s
set_option maxHeartbeats 4000000 in
set_option maxRecDepth 100000 in
theorem c_X1_markParts (l : Launch) (D : va_G) (a : Nat → Nat) (g : Nat → ClassId) (s : zS) (Q : zS → Prop) (hw : W_X1_markParts s Q) : zMv l D (zT g) yX1_markParts wsX1_markParts ({ frames := 2, cells := 0, slots := 0, locals := 46 } : Room) [.ref (a 1)] (WX a g) s (fun u => Q u) := by
  have i1 : ∀ w ∈ u_ws RX1 TX1 10, w ∈ wsX1_markParts := fun _ h => (List.mem_cons_of_mem _ (List.mem_append_right _ h))
  refine zMv_start (cc := cX1_markParts) (maxL := 2) (lv0 := [(0, .ref (a 1))]) (own := RX1) rfl (plainFor_of_name (by decide)) rfl (Nat.le_of_ble_eq_true rfl) rfl (fun X C hR hL hE => ?_)
  refine z_iconst C 0 dX1_markParts_0 (by decide) ?_
  refine z_topi (fun x1 ex1 => ?_)
  have hw := hw x1 ex1
  refine z_istore_n (lv' := [(1, .int x1), (0, .ref (a 1))]) C 1 dX1_markParts_1 rfl (by decide) rfl ?_
  refine z_sub (lv' := [(0, .ref (a 1)), (1, .int x1)]) [1, 0] rfl ?_
  obtain ⟨K2, n3, hK4, hw⟩ := hw
  have hx5 : ∀ (s7 : zS), K2 s7 → zV X D 2 0 0 (WX a g s7) 23 [(0, .ref (a 1))] [] := by
    intro s7 hw0
    have hw := hK4 s7 hw0
    refine z_iconst C 0 dX1_markParts_23 (by decide) ?_
    refine z_topi (fun x8 ex8 => ?_)
    have hw := hw x8 ex8
    refine z_istore_n (lv' := [(1, .int x8), (0, .ref (a 1))]) C 1 dX1_markParts_24 rfl (by decide) rfl ?_
    refine z_sub (lv' := [(0, .ref (a 1)), (1, .int x8)]) [1, 0] rfl ?_
    obtain ⟨K9, n10, hK11, hw⟩ := hw
    have hx12 : ∀ (s14 : zS), K9 s14 → zV X D 2 0 0 (WX a g s14) 74 [] [] := by
      intro s14 hw0
      have hw := hK11 s14 hw0
      exact hE _ _ _ _ _ dX1_markParts_74 (Nat.le_refl _) (Nat.le_refl _) hw
    have lp13 : ∀ (n : Nat) (v15 : Int32) (s16 : zS), W_X1_markParts_L25 Q K9 n v15 s16 → zV X D 2 0 0 (WX a g s16) 25 [(0, .ref (a 1)), (1, .int v15)] [] := by
      intro n
      induction n with
      | zero => intro v15 s16 hw; exact False.elim hw
      | succ n ih =>
        intro v15 s16 hw
        refine z_iload_n C 1 dX1_markParts_25 rfl ?_
        refine z_aload_n C 0 dX1_markParts_26 rfl ?_
        refine zg1_observations C i1 (List.mem_of_getElem? (i := 3) rfl) dX1_markParts_27 ?_
        refine z_icmp_ge C 74 dX1_markParts_30 (by decide) (fun hc => ?_) (fun hc => ?_)
        · have hw := hw.1 hc
          refine z_sub (lv' := []) [] rfl ?_
          exact hx12 _ hw
        · have hw := hw.2 hc
          refine z_aload_n C 0 dX1_markParts_33 rfl ?_
          refine zg1_isWithdrawn C i1 (List.mem_of_getElem? (i := 4) rfl) dX1_markParts_34 ?_
          refine z_iload_n C 1 dX1_markParts_37 rfl ?_
          obtain ⟨b17, hw⟩ := hw
          refine zl1_isWithdrawn C b17 dX1_markParts_38 ?_
          refine z_if_ne C 68 dX1_markParts_39 (by decide) (fun hc => ?_) (fun hc => ?_)
          · have hw := hw.1 hc
            obtain ⟨x18, ex18⟩ : ∃ z : Int32, z = v15 + 1 := ⟨_, rfl⟩
            have hw := hw x18 ex18
            refine z_iinc (lv' := [(1, .int x18), (0, .ref (a 1))]) C 1 dX1_markParts_68 rfl (by rw [ex18]; rfl) (by decide) rfl ?_
            refine z_goto C 25 dX1_markParts_71 (by decide) ?_
            refine z_sub (lv' := [(0, .ref (a 1)), (1, .int x18)]) [1, 0] rfl ?_
            exact ih _ _ hw
          · have hw := hw.2 hc
            refine z_aload_n C 0 dX1_markParts_42 rfl ?_
            refine z_aload_n C 0 dX1_markParts_43 rfl ?_
            refine zg1_lowest C i1 (List.mem_of_getElem? (i := 2) rfl) dX1_markParts_44 ?_
            refine z_aload_n C 0 dX1_markParts_47 rfl ?_
            refine zg1_from C i1 (List.mem_of_getElem? (i := 5) rfl) dX1_markParts_48 ?_
            refine z_iload_n C 1 dX1_markParts_51 rfl ?_
            obtain ⟨b19, hw⟩ := hw
            refine zl1_from C b19 dX1_markParts_52 ?_
            obtain ⟨b20, hw⟩ := hw
            refine zl1_lowest C b20 dX1_markParts_53 ?_
            refine z_aload_n C 0 dX1_markParts_54 rfl ?_
            refine zg1_lowest C i1 (List.mem_of_getElem? (i := 2) rfl) dX1_markParts_55 ?_
            refine z_aload_n C 0 dX1_markParts_58 rfl ?_
            refine zg1_to C i1 (List.mem_of_getElem? (i := 6) rfl) dX1_markParts_59 ?_
            refine z_iload_n C 1 dX1_markParts_62 rfl ?_
            obtain ⟨b21, hw⟩ := hw
            refine zl1_to C b21 dX1_markParts_63 ?_
            obtain ⟨b22, hw⟩ := hw
            refine zl1_lowest C b22 dX1_markParts_64 ?_
            refine z_call0vV C hR hL (As := [.int (gF s16 2 (ix (gF s16 3 (ix v15)))), .int (gF s16 2 (ix (gF s16 4 (ix v15))))]) (c_X1_mergeParts l D a g s16 (gF s16 2 (ix (gF s16 3 (ix v15)))) (gF s16 2 (ix (gF s16 4 (ix v15)))) _ hw) gX1_markParts_X1_mergeParts rfl ⟨by decide +kernel, by decide +kernel, (show (parseMethodDescriptor yX1_mergeParts.desc).map (fun d => d.parameters.length) = some 2 from by decide +kernel)⟩ ⟨rfl, rfl⟩ ⟨Nat.le_of_ble_eq_true rfl, Nat.le_of_ble_eq_true rfl⟩ ⟨Nat.le_of_ble_eq_true rfl, Nat.le_of_ble_eq_true rfl⟩ 1 1 rfl rfl rfl rfl (Nat.le_of_ble_eq_true rfl) dX1_markParts_65 (fun s24 h25 => ?_)
            have hw := h25
            obtain ⟨x26, ex26⟩ : ∃ z : Int32, z = v15 + 1 := ⟨_, rfl⟩
            have hw := hw x26 ex26
            refine z_iinc (lv' := [(1, .int x26), (0, .ref (a 1))]) C 1 dX1_markParts_68 rfl (by rw [ex26]; rfl) (by decide) rfl ?_
            refine z_goto C 25 dX1_markParts_71 (by decide) ?_
            refine z_sub (lv' := [(0, .ref (a 1)), (1, .int x26)]) [1, 0] rfl ?_
            exact ih _ _ hw
    exact lp13 n10 _ _ hw
  have lp6 : ∀ (n : Nat) (v27 : Int32) (s28 : zS), W_X1_markParts_L2 Q K2 n v27 s28 → zV X D 2 0 0 (WX a g s28) 2 [(0, .ref (a 1)), (1, .int v27)] [] := by
    intro n
    induction n with
    | zero => intro v27 s28 hw; exact False.elim hw
    | succ n ih =>
      intro v27 s28 hw
      refine z_iload_n C 1 dX1_markParts_2 rfl ?_
      refine z_aload_n C 0 dX1_markParts_3 rfl ?_
      refine zg1_stations C i1 (List.mem_of_getElem? (i := 1) rfl) dX1_markParts_4 ?_
      refine z_icmp_ge C 23 dX1_markParts_7 (by decide) (fun hc => ?_) (fun hc => ?_)
      · have hw := hw.1 hc
        refine z_sub (lv' := [(0, .ref (a 1))]) [0] rfl ?_
        exact hx5 _ hw
      · have hw := hw.2 hc
        refine z_aload_n C 0 dX1_markParts_10 rfl ?_
        refine zg1_lowest C i1 (List.mem_of_getElem? (i := 2) rfl) dX1_markParts_11 ?_
        refine z_iload_n C 1 dX1_markParts_14 rfl ?_
        refine z_iload_n C 1 dX1_markParts_15 rfl ?_
        obtain ⟨b29, hw⟩ := hw
        refine zs1_lowest C b29 dX1_markParts_16 ?_
        refine z_topsWX (fun s30 es30 => ?_)
        have hw := hw s30 es30
        obtain ⟨x31, ex31⟩ : ∃ z : Int32, z = v27 + 1 := ⟨_, rfl⟩
        have hw := hw x31 ex31
        refine z_iinc (lv' := [(1, .int x31), (0, .ref (a 1))]) C 1 dX1_markParts_17 rfl (by rw [ex31]; rfl) (by decide) rfl ?_
        refine z_goto C 2 dX1_markParts_20 (by decide) ?_
        refine z_sub (lv' := [(0, .ref (a 1)), (1, .int x31)]) [1, 0] rfl ?_
        exact ih _ _ hw
  exact lp6 n3 _ _ hw
def W_X1_addStation (s : zS) (Q : Int32 → zS → Prop) : Prop :=
    ∀ x1 : Int32, x1 = (gI s 0) →
    ∀ s2 : zS, s2 = sI s 0 (x1 + 1) →
    W_X1_markParts s2 (fun s4 =>
    Q x1 s4)
set_option maxHeartbeats 4000000 in
set_option maxRecDepth 100000 in
theorem c_X1_addStation (l : Launch) (D : va_G) (a : Nat → Nat) (g : Nat → ClassId) (s : zS) (Q : Int32 → zS → Prop) (hw : W_X1_addStation s Q) : zMi l D (zT g) yX1_addStation wsX1_addStation ({ frames := 3, cells := 0, slots := 0, locals := 67 } : Room) [.ref (a 1)] (WX a g) s (fun r u => Q r u) := by
  have i1 : ∀ w ∈ u_ws RX1 TX1 10, w ∈ wsX1_addStation := fun _ h => (List.mem_cons_of_mem _ (List.mem_append_right _ h))
  refine zMi_start (cc := cX1_addStation) (maxL := 2) (lv0 := [(0, .ref (a 1))]) (own := RX1) rfl (plainFor_of_name (by decide)) rfl (Nat.le_of_ble_eq_true rfl) rfl (fun X C hR hL hE => ?_)
  refine z_aload_n C 0 dX1_addStation_0 rfl ?_
  refine zg1_stations C i1 (List.mem_of_getElem? (i := 1) rfl) dX1_addStation_1 ?_
  refine z_topi (fun x1 ex1 => ?_)
  have hw := hw x1 ex1
  refine z_istore_n (lv' := [(1, .int x1), (0, .ref (a 1))]) C 1 dX1_addStation_4 rfl (by decide) rfl ?_
  refine z_aload_n C 1 dX1_addStation_5 rfl ?_
  refine z_iload_n C 0 dX1_addStation_6 rfl ?_
  refine z_iconst C 1 dX1_addStation_7 (by decide) ?_
  refine z_iadd C dX1_addStation_8 ?_
  refine zp1_stations C i1 (List.mem_of_getElem? (i := 1) rfl) dX1_addStation_9 ?_
  refine z_topsWX (fun s2 es2 => ?_)
  have hw := hw s2 es2
  refine z_aload_n C 1 dX1_addStation_12 rfl ?_
  refine z_call0vV C hR hL (As := []) (c_X1_markParts l D a g s2 _ hw) gX1_addStation_X1_markParts rfl ⟨by decide +kernel, by decide +kernel, (show (parseMethodDescriptor yX1_markParts.desc).map (fun d => d.parameters.length) = some 0 from by decide +kernel)⟩ ⟨rfl, rfl⟩ ⟨Nat.le_of_ble_eq_true rfl, Nat.le_of_ble_eq_true rfl⟩ ⟨Nat.le_of_ble_eq_true rfl, Nat.le_of_ble_eq_true rfl⟩ 1 1 rfl rfl rfl rfl (Nat.le_of_ble_eq_true rfl) dX1_addStation_13 (fun s4 h5 => ?_)
  have hw := h5
  refine z_iload_n C 0 dX1_addStation_16 rfl ?_
  exact hE _ _ _ _ _ _ dX1_addStation_17 rfl (Nat.le_refl _) (Nat.le_refl _) hw
def W_X1_tellHeight (s : zS) (p0 : Int32) (p1 : Int32) (p2 : Int32) (Q : Int32 → zS → Prop) : Prop :=
    vp_in p0 6 ∧
    ∀ x2 : Int32, x2 = (gF s 0 (ix p0)) →
    vp_in p0 6 ∧
    ∀ s4 : zS, s4 = sF s 0 (ix p0) (vp_nar .boolean p2) →
    (p2 = 0 →
    vp_in p0 6 ∧
    ∀ s6 : zS, s6 = sF s4 1 (ix p0) 0 →
    narrow .boolean (.int x2) = .int x2 ∧ Q x2 s6) ∧ (¬ p2 = 0 →
    vp_in p0 6 ∧
    ∀ s9 : zS, s9 = sF s4 1 (ix p0) p1 →
    narrow .boolean (.int x2) = .int x2 ∧ Q x2 s9)
set_option maxHeartbeats 4000000 in
set_option maxRecDepth 100000 in
theorem c_X1_tellHeight (l : Launch) (D : va_G) (a : Nat → Nat) (g : Nat → ClassId) (s : zS) (p0 : Int32) (p1 : Int32) (p2 : Int32) (Q : Int32 → zS → Prop) (hw : W_X1_tellHeight s p0 p1 p2 Q) : zMi l D (zT g) yX1_tellHeight wsX1_tellHeight ({ frames := 0, cells := 0, slots := 0, locals := 0 } : Room) [.ref (a 1), .int p0, .int p1, .int p2] (WX a g) s (fun r u => Q r u) := by
  have i1 : ∀ w ∈ u_ws RX1 TX1 10, w ∈ wsX1_tellHeight := fun _ h => (List.mem_cons_of_mem _ (List.mem_append_right _ h))
  refine zMi_start (cc := cX1_tellHeight) (maxL := 5) (lv0 := [(0, .ref (a 1)), (1, .int p0), (2, .int p1), (3, .int p2)]) (own := RX1) rfl (plainFor_of_name (by decide)) rfl (Nat.le_of_ble_eq_true rfl) rfl (fun X C hR hL hE => ?_)
  refine z_aload_n C 0 dX1_tellHeight_0 rfl ?_
  refine zg1_isTold C i1 (List.mem_of_getElem? (i := 1) rfl) dX1_tellHeight_1 ?_
  refine z_iload_n C 1 dX1_tellHeight_4 rfl ?_
  obtain ⟨b1, hw⟩ := hw
  refine zl1_isTold C b1 dX1_tellHeight_5 ?_
  refine z_topi (fun x2 ex2 => ?_)
  have hw := hw x2 ex2
  refine z_istore (lv' := [(4, .int x2), (0, .ref (a 1)), (1, .int p0), (2, .int p1), (3, .int p2)]) C dX1_tellHeight_6 (by decide) rfl ?_
  refine z_aload_n C 1 dX1_tellHeight_8 rfl ?_
  refine zg1_isTold C i1 (List.mem_of_getElem? (i := 1) rfl) dX1_tellHeight_9 ?_
  refine z_iload_n C 2 dX1_tellHeight_12 rfl ?_
  refine z_iload_n C 4 dX1_tellHeight_13 rfl ?_
  obtain ⟨b3, hw⟩ := hw
  refine zs1_isTold C b3 dX1_tellHeight_14 ?_
  refine z_topsWX (fun s4 es4 => ?_)
  have hw := hw s4 es4
  refine z_aload_n C 1 dX1_tellHeight_15 rfl ?_
  refine zg1_toldHeight C i1 (List.mem_of_getElem? (i := 2) rfl) dX1_tellHeight_16 ?_
  refine z_iload_n C 2 dX1_tellHeight_19 rfl ?_
  refine z_iload_n C 4 dX1_tellHeight_20 rfl ?_
  refine z_if_eq C 28 dX1_tellHeight_21 (by decide) (fun hc => ?_) (fun hc => ?_)
  · have hw := hw.1 hc
    refine z_iconst C 0 dX1_tellHeight_28 (by decide) ?_
    obtain ⟨b5, hw⟩ := hw
    refine zs1_toldHeight C b5 dX1_tellHeight_29 ?_
    refine z_topsWX (fun s6 es6 => ?_)
    have hw := hw s6 es6
    refine z_iload C 0 dX1_tellHeight_30 rfl ?_
    obtain ⟨b7, hw⟩ := hw
    exact hE _ _ _ _ _ _ dX1_tellHeight_32 b7 (Nat.le_refl _) (Nat.le_refl _) hw
  · have hw := hw.2 hc
    refine z_iload_n C 3 dX1_tellHeight_24 rfl ?_
    refine z_goto C 29 dX1_tellHeight_25 (by decide) ?_
    obtain ⟨b8, hw⟩ := hw
    refine zs1_toldHeight C b8 dX1_tellHeight_29 ?_
    refine z_topsWX (fun s9 es9 => ?_)
    have hw := hw s9 es9
    refine z_iload C 0 dX1_tellHeight_30 rfl ?_
    obtain ⟨b10, hw⟩ := hw
    exact hE _ _ _ _ _ _ dX1_tellHeight_32 b10 (Nat.le_refl _) (Nat.le_refl _) hw
def W_X1_addObservation (s : zS) (p0 : Int32) (p1 : Int32) (p2 : Int32) (p3 : Int32) (Q : Int32 → zS → Prop) : Prop :=
    ∀ x1 : Int32, x1 = (gI s 1) →
    vp_in x1 14 ∧
    ∀ s3 : zS, s3 = sF s 3 (ix x1) p0 →
    vp_in x1 14 ∧
    ∀ s5 : zS, s5 = sF s3 4 (ix x1) p1 →
    vp_in x1 14 ∧
    ∀ s7 : zS, s7 = sF s5 5 (ix x1) p2 →
    vp_in x1 14 ∧
    ∀ s9 : zS, s9 = sF s7 6 (ix x1) p3 →
    ∀ s10 : zS, s10 = sI s9 1 (x1 + 1) →
    W_X1_markParts s10 (fun s12 =>
    Q x1 s12)
set_option maxHeartbeats 4000000 in
set_option maxRecDepth 100000 in
theorem c_X1_addObservation (l : Launch) (D : va_G) (a : Nat → Nat) (g : Nat → ClassId) (s : zS) (p0 : Int32) (p1 : Int32) (p2 : Int32) (p3 : Int32) (Q : Int32 → zS → Prop) (hw : W_X1_addObservation s p0 p1 p2 p3 Q) : zMi l D (zT g) yX1_addObservation wsX1_addObservation ({ frames := 3, cells := 0, slots := 0, locals := 67 } : Room) [.ref (a 1), .int p0, .int p1, .int p2, .int p3] (WX a g) s (fun r u => Q r u) := by
  have i1 : ∀ w ∈ u_ws RX1 TX1 10, w ∈ wsX1_addObservation := fun _ h => (List.mem_cons_of_mem _ (List.mem_append_right _ h))
  refine zMi_start (cc := cX1_addObservation) (maxL := 6) (lv0 := [(0, .ref (a 1)), (1, .int p0), (2, .int p1), (3, .int p2), (4, .int p3)]) (own := RX1) rfl (plainFor_of_name (by decide)) rfl (Nat.le_of_ble_eq_true rfl) rfl (fun X C hR hL hE => ?_)
  refine z_aload_n C 0 dX1_addObservation_0 rfl ?_
  refine zg1_observations C i1 (List.mem_of_getElem? (i := 1) rfl) dX1_addObservation_1 ?_
  refine z_topi (fun x1 ex1 => ?_)
  have hw := hw x1 ex1
  refine z_istore (lv' := [(5, .int x1), (0, .ref (a 1)), (1, .int p0), (2, .int p1), (3, .int p2), (4, .int p3)]) C dX1_addObservation_4 (by decide) rfl ?_
  refine z_aload_n C 1 dX1_addObservation_6 rfl ?_
  refine zg1_from C i1 (List.mem_of_getElem? (i := 2) rfl) dX1_addObservation_7 ?_
  refine z_iload C 0 dX1_addObservation_10 rfl ?_
  refine z_iload_n C 2 dX1_addObservation_12 rfl ?_
  obtain ⟨b2, hw⟩ := hw
  refine zs1_from C b2 dX1_addObservation_13 ?_
  refine z_topsWX (fun s3 es3 => ?_)
  have hw := hw s3 es3
  refine z_aload_n C 1 dX1_addObservation_14 rfl ?_
  refine zg1_to C i1 (List.mem_of_getElem? (i := 3) rfl) dX1_addObservation_15 ?_
  refine z_iload C 0 dX1_addObservation_18 rfl ?_
  refine z_iload_n C 3 dX1_addObservation_20 rfl ?_
  obtain ⟨b4, hw⟩ := hw
  refine zs1_to C b4 dX1_addObservation_21 ?_
  refine z_topsWX (fun s5 es5 => ?_)
  have hw := hw s5 es5
  refine z_aload_n C 1 dX1_addObservation_22 rfl ?_
  refine zg1_difference C i1 (List.mem_of_getElem? (i := 4) rfl) dX1_addObservation_23 ?_
  refine z_iload C 0 dX1_addObservation_26 rfl ?_
  refine z_iload_n C 4 dX1_addObservation_28 rfl ?_
  obtain ⟨b6, hw⟩ := hw
  refine zs1_difference C b6 dX1_addObservation_29 ?_
  refine z_topsWX (fun s7 es7 => ?_)
  have hw := hw s7 es7
  refine z_aload_n C 1 dX1_addObservation_30 rfl ?_
  refine zg1_weight C i1 (List.mem_of_getElem? (i := 5) rfl) dX1_addObservation_31 ?_
  refine z_iload C 0 dX1_addObservation_34 rfl ?_
  refine z_iload C 5 dX1_addObservation_36 rfl ?_
  obtain ⟨b8, hw⟩ := hw
  refine zs1_weight C b8 dX1_addObservation_38 ?_
  refine z_topsWX (fun s9 es9 => ?_)
  have hw := hw s9 es9
  refine z_aload_n C 1 dX1_addObservation_39 rfl ?_
  refine z_iload C 0 dX1_addObservation_40 rfl ?_
  refine z_iconst C 1 dX1_addObservation_42 (by decide) ?_
  refine z_iadd C dX1_addObservation_43 ?_
  refine zp1_observations C i1 (List.mem_of_getElem? (i := 1) rfl) dX1_addObservation_44 ?_
  refine z_topsWX (fun s10 es10 => ?_)
  have hw := hw s10 es10
  refine z_aload_n C 1 dX1_addObservation_47 rfl ?_
  refine z_call0vV C hR hL (As := []) (c_X1_markParts l D a g s10 _ hw) gX1_addObservation_X1_markParts rfl ⟨by decide +kernel, by decide +kernel, (show (parseMethodDescriptor yX1_markParts.desc).map (fun d => d.parameters.length) = some 0 from by decide +kernel)⟩ ⟨rfl, rfl⟩ ⟨Nat.le_of_ble_eq_true rfl, Nat.le_of_ble_eq_true rfl⟩ ⟨Nat.le_of_ble_eq_true rfl, Nat.le_of_ble_eq_true rfl⟩ 1 1 rfl rfl rfl rfl (Nat.le_of_ble_eq_true rfl) dX1_addObservation_48 (fun s12 h13 => ?_)
  have hw := h13
  refine z_iload C 0 dX1_addObservation_51 rfl ?_
  exact hE _ _ _ _ _ _ dX1_addObservation_53 rfl (Nat.le_refl _) (Nat.le_refl _) hw
def W_X1_setWithdrawn (s : zS) (p0 : Int32) (p1 : Int32) (Q : Int32 → zS → Prop) : Prop :=
    vp_in p0 14 ∧
    ∀ x2 : Int32, x2 = (gF s 7 (ix p0)) →
    vp_in p0 14 ∧
    ∀ s4 : zS, s4 = sF s 7 (ix p0) (vp_nar .boolean p1) →
    W_X1_markParts s4 (fun s6 =>
    narrow .boolean (.int x2) = .int x2 ∧ Q x2 s6)
set_option maxHeartbeats 4000000 in
set_option maxRecDepth 100000 in
theorem c_X1_setWithdrawn (l : Launch) (D : va_G) (a : Nat → Nat) (g : Nat → ClassId) (s : zS) (p0 : Int32) (p1 : Int32) (Q : Int32 → zS → Prop) (hw : W_X1_setWithdrawn s p0 p1 Q) : zMi l D (zT g) yX1_setWithdrawn wsX1_setWithdrawn ({ frames := 3, cells := 0, slots := 0, locals := 67 } : Room) [.ref (a 1), .int p0, .int p1] (WX a g) s (fun r u => Q r u) := by
  have i1 : ∀ w ∈ u_ws RX1 TX1 10, w ∈ wsX1_setWithdrawn := fun _ h => (List.mem_cons_of_mem _ (List.mem_append_right _ h))
  refine zMi_start (cc := cX1_setWithdrawn) (maxL := 4) (lv0 := [(0, .ref (a 1)), (1, .int p0), (2, .int p1)]) (own := RX1) rfl (plainFor_of_name (by decide)) rfl (Nat.le_of_ble_eq_true rfl) rfl (fun X C hR hL hE => ?_)
  refine z_aload_n C 0 dX1_setWithdrawn_0 rfl ?_
  refine zg1_isWithdrawn C i1 (List.mem_of_getElem? (i := 1) rfl) dX1_setWithdrawn_1 ?_
  refine z_iload_n C 1 dX1_setWithdrawn_4 rfl ?_
  obtain ⟨b1, hw⟩ := hw
  refine zl1_isWithdrawn C b1 dX1_setWithdrawn_5 ?_
  refine z_topi (fun x2 ex2 => ?_)
  have hw := hw x2 ex2
  refine z_istore_n (lv' := [(3, .int x2), (0, .ref (a 1)), (1, .int p0), (2, .int p1)]) C 3 dX1_setWithdrawn_6 rfl (by decide) rfl ?_
  refine z_aload_n C 1 dX1_setWithdrawn_7 rfl ?_
  refine zg1_isWithdrawn C i1 (List.mem_of_getElem? (i := 1) rfl) dX1_setWithdrawn_8 ?_
  refine z_iload_n C 2 dX1_setWithdrawn_11 rfl ?_
  refine z_iload_n C 3 dX1_setWithdrawn_12 rfl ?_
  obtain ⟨b3, hw⟩ := hw
  refine zs1_isWithdrawn C b3 dX1_setWithdrawn_13 ?_
  refine z_topsWX (fun s4 es4 => ?_)
  have hw := hw s4 es4
  refine z_aload_n C 1 dX1_setWithdrawn_14 rfl ?_
  refine z_call0vV C hR hL (As := []) (c_X1_markParts l D a g s4 _ hw) gX1_setWithdrawn_X1_markParts rfl ⟨by decide +kernel, by decide +kernel, (show (parseMethodDescriptor yX1_markParts.desc).map (fun d => d.parameters.length) = some 0 from by decide +kernel)⟩ ⟨rfl, rfl⟩ ⟨Nat.le_of_ble_eq_true rfl, Nat.le_of_ble_eq_true rfl⟩ ⟨Nat.le_of_ble_eq_true rfl, Nat.le_of_ble_eq_true rfl⟩ 1 1 rfl rfl rfl rfl (Nat.le_of_ble_eq_true rfl) dX1_setWithdrawn_15 (fun s6 h7 => ?_)
  have hw := h7
  refine z_iload_n C 0 dX1_setWithdrawn_18 rfl ?_
  obtain ⟨b8, hw⟩ := hw
  exact hE _ _ _ _ _ _ dX1_setWithdrawn_19 b8 (Nat.le_refl _) (Nat.le_refl _) hw
def W_X1_countParts_L4 (s : zS) (Q : Int32 → Prop) (K : Int32 → Prop) : Nat → Int32 → Int32 → Prop
  | 0, _, _ => False
  | n + 1, v9, v10 =>
    ((gI s 0) ≤ v10 →
    K v9) ∧ (¬ (gI s 0) ≤ v10 →
    vp_in v10 6 ∧
    (¬ (gF s 2 (ix v10)) = v10 →
    ∀ x12 : Int32, x12 = v10 + 1 →
    W_X1_countParts_L4 s Q K n v9 x12) ∧ ((gF s 2 (ix v10)) = v10 →
    ∀ x13 : Int32, x13 = v9 + 1 →
    ∀ x14 : Int32, x14 = v10 + 1 →
    W_X1_countParts_L4 s Q K n x13 x14))
def W_X1_countParts (s : zS) (Q : Int32 → Prop) : Prop :=
    ∀ x1 : Int32, x1 = 0 →
    ∀ x2 : Int32, x2 = 0 →
    ∃ (K3 : Int32 → Prop) (n4 : Nat), (∀ (v8 : Int32), K3 v8 →
    Q v8) ∧ W_X1_countParts_L4 s Q K3 n4 x1 x2
set_option maxHeartbeats 4000000 in
set_option maxRecDepth 100000 in
theorem c_X1_countParts (l : Launch) (D : va_G) (a : Nat → Nat) (g : Nat → ClassId) (s : zS) (Q : Int32 → Prop) (hw : W_X1_countParts s Q) : zMi l D (zT g) yX1_countParts wsX1_countParts ({ frames := 0, cells := 0, slots := 0, locals := 0 } : Room) [.ref (a 1)] (WX a g) s (fun r u => s = u ∧ Q r) := by
  have i1 : ∀ w ∈ u_ws RX1 TX1 10, w ∈ wsX1_countParts := fun _ h => (List.mem_cons_of_mem _ (List.mem_append_right _ h))
  refine zMi_start (cc := cX1_countParts) (maxL := 3) (lv0 := [(0, .ref (a 1))]) (own := RX1) rfl (plainFor_of_name (by decide)) rfl (Nat.le_of_ble_eq_true rfl) rfl (fun X C hR hL hE => ?_)
  refine z_iconst C 0 dX1_countParts_0 (by decide) ?_
  refine z_topi (fun x1 ex1 => ?_)
  have hw := hw x1 ex1
  refine z_istore_n (lv' := [(1, .int x1), (0, .ref (a 1))]) C 1 dX1_countParts_1 rfl (by decide) rfl ?_
  refine z_iconst C 0 dX1_countParts_2 (by decide) ?_
  refine z_topi (fun x2 ex2 => ?_)
  have hw := hw x2 ex2
  refine z_istore_n (lv' := [(2, .int x2), (1, .int x1), (0, .ref (a 1))]) C 2 dX1_countParts_3 rfl (by decide) rfl ?_
  refine z_sub (lv' := [(0, .ref (a 1)), (1, .int x1), (2, .int x2)]) [2, 1, 0] rfl ?_
  obtain ⟨K3, n4, hK5, hw⟩ := hw
  have hx6 : ∀ (v8 : Int32), K3 v8 → zV X D 3 0 0 (WX a g s) 31 [(1, .int v8)] [] := by
    intro v8 hw0
    have hw := hK5 v8 hw0
    refine z_iload_n C 0 dX1_countParts_31 rfl ?_
    exact hE _ _ _ _ _ _ dX1_countParts_32 rfl (Nat.le_refl _) (Nat.le_refl _) ⟨rfl, hw⟩
  have lp7 : ∀ (n : Nat) (v9 : Int32) (v10 : Int32), W_X1_countParts_L4 s Q K3 n v9 v10 → zV X D 3 0 0 (WX a g s) 4 [(0, .ref (a 1)), (1, .int v9), (2, .int v10)] [] := by
    intro n
    induction n with
    | zero => intro v9 v10 hw; exact False.elim hw
    | succ n ih =>
      intro v9 v10 hw
      refine z_iload_n C 2 dX1_countParts_4 rfl ?_
      refine z_aload_n C 0 dX1_countParts_5 rfl ?_
      refine zg1_stations C i1 (List.mem_of_getElem? (i := 1) rfl) dX1_countParts_6 ?_
      refine z_icmp_ge C 31 dX1_countParts_9 (by decide) (fun hc => ?_) (fun hc => ?_)
      · have hw := hw.1 hc
        refine z_sub (lv' := [(1, .int v9)]) [1] rfl ?_
        exact hx6 _ hw
      · have hw := hw.2 hc
        refine z_aload_n C 0 dX1_countParts_12 rfl ?_
        refine zg1_lowest C i1 (List.mem_of_getElem? (i := 2) rfl) dX1_countParts_13 ?_
        refine z_iload_n C 2 dX1_countParts_16 rfl ?_
        obtain ⟨b11, hw⟩ := hw
        refine zl1_lowest C b11 dX1_countParts_17 ?_
        refine z_iload_n C 2 dX1_countParts_18 rfl ?_
        refine z_icmp_ne C 25 dX1_countParts_19 (by decide) (fun hc => ?_) (fun hc => ?_)
        · have hw := hw.1 hc
          obtain ⟨x12, ex12⟩ : ∃ z : Int32, z = v10 + 1 := ⟨_, rfl⟩
          have hw := hw x12 ex12
          refine z_iinc (lv' := [(2, .int x12), (0, .ref (a 1)), (1, .int v9)]) C 2 dX1_countParts_25 rfl (by rw [ex12]; rfl) (by decide) rfl ?_
          refine z_goto C 4 dX1_countParts_28 (by decide) ?_
          refine z_sub (lv' := [(0, .ref (a 1)), (1, .int v9), (2, .int x12)]) [1, 2, 0] rfl ?_
          exact ih _ _ hw
        · have hw := hw.2 hc
          obtain ⟨x13, ex13⟩ : ∃ z : Int32, z = v9 + 1 := ⟨_, rfl⟩
          have hw := hw x13 ex13
          refine z_iinc (lv' := [(1, .int x13), (0, .ref (a 1)), (2, .int v10)]) C 1 dX1_countParts_22 rfl (by rw [ex13]; rfl) (by decide) rfl ?_
          obtain ⟨x14, ex14⟩ : ∃ z : Int32, z = v10 + 1 := ⟨_, rfl⟩
          have hw := hw x14 ex14
          refine z_iinc (lv' := [(2, .int x14), (1, .int x13), (0, .ref (a 1))]) C 2 dX1_countParts_25 rfl (by rw [ex14]; rfl) (by decide) rfl ?_
          refine z_goto C 4 dX1_countParts_28 (by decide) ?_
          refine z_sub (lv' := [(0, .ref (a 1)), (1, .int x13), (2, .int x14)]) [2, 1, 0] rfl ?_
          exact ih _ _ hw
  exact lp7 n4 _ _ hw
def W_X1_countStationsWith_L4 (s : zS) (p0 : Int32) (Q : Int32 → Prop) (K : Int32 → Prop) : Nat → Int32 → Int32 → Prop
  | 0, _, _ => False
  | n + 1, v9, v10 =>
    ((gI s 0) ≤ v10 →
    K v9) ∧ (¬ (gI s 0) ≤ v10 →
    W_X1_areInOnePart s v10 p0 (fun r11 =>
    (r11 = 0 →
    ∀ x14 : Int32, x14 = v10 + 1 →
    W_X1_countStationsWith_L4 s p0 Q K n v9 x14) ∧ (¬ r11 = 0 →
    ∀ x15 : Int32, x15 = v9 + 1 →
    ∀ x16 : Int32, x16 = v10 + 1 →
    W_X1_countStationsWith_L4 s p0 Q K n x15 x16)))
def W_X1_countStationsWith (s : zS) (p0 : Int32) (Q : Int32 → Prop) : Prop :=
    ∀ x1 : Int32, x1 = 0 →
    ∀ x2 : Int32, x2 = 0 →
    ∃ (K3 : Int32 → Prop) (n4 : Nat), (∀ (v8 : Int32), K3 v8 →
    Q v8) ∧ W_X1_countStationsWith_L4 s p0 Q K3 n4 x1 x2
set_option maxHeartbeats 4000000 in
set_option maxRecDepth 100000 in
theorem c_X1_countStationsWith (l : Launch) (D : va_G) (a : Nat → Nat) (g : Nat → ClassId) (s : zS) (p0 : Int32) (Q : Int32 → Prop) (hw : W_X1_countStationsWith s p0 Q) : zMi l D (zT g) yX1_countStationsWith wsX1_countStationsWith ({ frames := 1, cells := 0, slots := 0, locals := 22 } : Room) [.ref (a 1), .int p0] (WX a g) s (fun r u => s = u ∧ Q r) := by
  have i1 : ∀ w ∈ u_ws RX1 TX1 10, w ∈ wsX1_countStationsWith := fun _ h => (List.mem_cons_of_mem _ (List.mem_append_right _ h))
  refine zMi_start (cc := cX1_countStationsWith) (maxL := 4) (lv0 := [(0, .ref (a 1)), (1, .int p0)]) (own := RX1) rfl (plainFor_of_name (by decide)) rfl (Nat.le_of_ble_eq_true rfl) rfl (fun X C hR hL hE => ?_)
  refine z_iconst C 0 dX1_countStationsWith_0 (by decide) ?_
  refine z_topi (fun x1 ex1 => ?_)
  have hw := hw x1 ex1
  refine z_istore_n (lv' := [(2, .int x1), (0, .ref (a 1)), (1, .int p0)]) C 2 dX1_countStationsWith_1 rfl (by decide) rfl ?_
  refine z_iconst C 0 dX1_countStationsWith_2 (by decide) ?_
  refine z_topi (fun x2 ex2 => ?_)
  have hw := hw x2 ex2
  refine z_istore_n (lv' := [(3, .int x2), (2, .int x1), (0, .ref (a 1)), (1, .int p0)]) C 3 dX1_countStationsWith_3 rfl (by decide) rfl ?_
  refine z_sub (lv' := [(0, .ref (a 1)), (1, .int p0), (2, .int x1), (3, .int x2)]) [2, 3, 1, 0] rfl ?_
  obtain ⟨K3, n4, hK5, hw⟩ := hw
  have hx6 : ∀ (v8 : Int32), K3 v8 → zV X D 4 0 0 (WX a g s) 30 [(2, .int v8)] [] := by
    intro v8 hw0
    have hw := hK5 v8 hw0
    refine z_iload_n C 0 dX1_countStationsWith_30 rfl ?_
    exact hE _ _ _ _ _ _ dX1_countStationsWith_31 rfl (Nat.le_refl _) (Nat.le_refl _) ⟨rfl, hw⟩
  have lp7 : ∀ (n : Nat) (v9 : Int32) (v10 : Int32), W_X1_countStationsWith_L4 s p0 Q K3 n v9 v10 → zV X D 4 0 0 (WX a g s) 4 [(0, .ref (a 1)), (1, .int p0), (2, .int v9), (3, .int v10)] [] := by
    intro n
    induction n with
    | zero => intro v9 v10 hw; exact False.elim hw
    | succ n ih =>
      intro v9 v10 hw
      refine z_iload_n C 3 dX1_countStationsWith_4 rfl ?_
      refine z_aload_n C 0 dX1_countStationsWith_5 rfl ?_
      refine zg1_stations C i1 (List.mem_of_getElem? (i := 1) rfl) dX1_countStationsWith_6 ?_
      refine z_icmp_ge C 30 dX1_countStationsWith_9 (by decide) (fun hc => ?_) (fun hc => ?_)
      · have hw := hw.1 hc
        refine z_sub (lv' := [(2, .int v9)]) [2] rfl ?_
        exact hx6 _ hw
      · have hw := hw.2 hc
        refine z_aload_n C 0 dX1_countStationsWith_12 rfl ?_
        refine z_iload_n C 3 dX1_countStationsWith_13 rfl ?_
        refine z_iload_n C 1 dX1_countStationsWith_14 rfl ?_
        refine z_call0iV C hR hL (As := [.int v10, .int p0]) (c_X1_areInOnePart l D a g s v10 p0 _ hw) gX1_countStationsWith_X1_areInOnePart rfl ⟨by decide +kernel, by decide +kernel, (show (parseMethodDescriptor yX1_areInOnePart.desc).map (fun d => d.parameters.length) = some 2 from by decide +kernel)⟩ ⟨rfl, rfl⟩ ⟨Nat.le_of_ble_eq_true rfl, Nat.le_of_ble_eq_true rfl⟩ ⟨Nat.le_of_ble_eq_true rfl, Nat.le_of_ble_eq_true rfl⟩ 1 1 rfl rfl rfl rfl (Nat.le_of_ble_eq_true rfl) dX1_countStationsWith_15 (fun r11 s12 h13 => ?_)
        obtain ⟨es12, hw⟩ := h13
        subst es12
        refine z_if_eq C 24 dX1_countStationsWith_18 (by decide) (fun hc => ?_) (fun hc => ?_)
        · have hw := hw.1 hc
          obtain ⟨x14, ex14⟩ : ∃ z : Int32, z = v10 + 1 := ⟨_, rfl⟩
          have hw := hw x14 ex14
          refine z_iinc (lv' := [(3, .int x14), (0, .ref (a 1)), (1, .int p0), (2, .int v9)]) C 3 dX1_countStationsWith_24 rfl (by rw [ex14]; rfl) (by decide) rfl ?_
          refine z_goto C 4 dX1_countStationsWith_27 (by decide) ?_
          refine z_sub (lv' := [(0, .ref (a 1)), (1, .int p0), (2, .int v9), (3, .int x14)]) [1, 2, 3, 0] rfl ?_
          exact ih _ _ hw
        · have hw := hw.2 hc
          obtain ⟨x15, ex15⟩ : ∃ z : Int32, z = v9 + 1 := ⟨_, rfl⟩
          have hw := hw x15 ex15
          refine z_iinc (lv' := [(2, .int x15), (0, .ref (a 1)), (1, .int p0), (3, .int v10)]) C 2 dX1_countStationsWith_21 rfl (by rw [ex15]; rfl) (by decide) rfl ?_
          obtain ⟨x16, ex16⟩ : ∃ z : Int32, z = v10 + 1 := ⟨_, rfl⟩
          have hw := hw x16 ex16
          refine z_iinc (lv' := [(3, .int x16), (2, .int x15), (0, .ref (a 1)), (1, .int p0)]) C 3 dX1_countStationsWith_24 rfl (by rw [ex16]; rfl) (by decide) rfl ?_
          refine z_goto C 4 dX1_countStationsWith_27 (by decide) ?_
          refine z_sub (lv' := [(0, .ref (a 1)), (1, .int p0), (2, .int x15), (3, .int x16)]) [2, 3, 1, 0] rfl ?_
          exact ih _ _ hw
  exact lp7 n4 _ _ hw
def W_X1_isInPartOf (s : zS) (p0 : Int32) (p1 : Int32) (Q : Int32 → Prop) : Prop :=
    vp_in p0 14 ∧
    (¬ (gF s 7 (ix p0)) = 0 →
    Q 0) ∧ ((gF s 7 (ix p0)) = 0 →
    vp_in p0 14 ∧
    W_X1_areInOnePart s (gF s 3 (ix p0)) p1 (fun r3 =>
    (r3 = 0 →
    Q 0) ∧ (¬ r3 = 0 →
    Q 1)))
set_option maxHeartbeats 4000000 in
set_option maxRecDepth 100000 in
theorem c_X1_isInPartOf (l : Launch) (D : va_G) (a : Nat → Nat) (g : Nat → ClassId) (s : zS) (p0 : Int32) (p1 : Int32) (Q : Int32 → Prop) (hw : W_X1_isInPartOf s p0 p1 Q) : zMi l D (zT g) yX1_isInPartOf wsX1_isInPartOf ({ frames := 1, cells := 0, slots := 0, locals := 22 } : Room) [.ref (a 1), .int p0, .int p1] (WX a g) s (fun r u => s = u ∧ Q r) := by
  have i1 : ∀ w ∈ u_ws RX1 TX1 10, w ∈ wsX1_isInPartOf := fun _ h => (List.mem_cons_of_mem _ (List.mem_append_right _ h))
  refine zMi_start (cc := cX1_isInPartOf) (maxL := 3) (lv0 := [(0, .ref (a 1)), (1, .int p0), (2, .int p1)]) (own := RX1) rfl (plainFor_of_name (by decide)) rfl (Nat.le_of_ble_eq_true rfl) rfl (fun X C hR hL hE => ?_)
  refine z_aload_n C 0 dX1_isInPartOf_0 rfl ?_
  refine zg1_isWithdrawn C i1 (List.mem_of_getElem? (i := 1) rfl) dX1_isInPartOf_1 ?_
  refine z_iload_n C 1 dX1_isInPartOf_4 rfl ?_
  obtain ⟨b1, hw⟩ := hw
  refine zl1_isWithdrawn C b1 dX1_isInPartOf_5 ?_
  refine z_if_ne C 27 dX1_isInPartOf_6 (by decide) (fun hc => ?_) (fun hc => ?_)
  · have hw := hw.1 hc
    refine z_iconst C 0 dX1_isInPartOf_27 (by decide) ?_
    exact hE _ _ _ _ _ _ dX1_isInPartOf_28 rfl (Nat.le_refl _) (Nat.le_refl _) ⟨rfl, hw⟩
  · have hw := hw.2 hc
    refine z_aload_n C 0 dX1_isInPartOf_9 rfl ?_
    refine z_aload_n C 0 dX1_isInPartOf_10 rfl ?_
    refine zg1_from C i1 (List.mem_of_getElem? (i := 2) rfl) dX1_isInPartOf_11 ?_
    refine z_iload_n C 1 dX1_isInPartOf_14 rfl ?_
    obtain ⟨b2, hw⟩ := hw
    refine zl1_from C b2 dX1_isInPartOf_15 ?_
    refine z_iload_n C 2 dX1_isInPartOf_16 rfl ?_
    refine z_call0iV C hR hL (As := [.int (gF s 3 (ix p0)), .int p1]) (c_X1_areInOnePart l D a g s (gF s 3 (ix p0)) p1 _ hw) gX1_isInPartOf_X1_areInOnePart rfl ⟨by decide +kernel, by decide +kernel, (show (parseMethodDescriptor yX1_areInOnePart.desc).map (fun d => d.parameters.length) = some 2 from by decide +kernel)⟩ ⟨rfl, rfl⟩ ⟨Nat.le_of_ble_eq_true rfl, Nat.le_of_ble_eq_true rfl⟩ ⟨Nat.le_of_ble_eq_true rfl, Nat.le_of_ble_eq_true rfl⟩ 1 1 rfl rfl rfl rfl (Nat.le_of_ble_eq_true rfl) dX1_isInPartOf_17 (fun r3 s4 h5 => ?_)
    obtain ⟨es4, hw⟩ := h5
    subst es4
    refine z_if_eq C 27 dX1_isInPartOf_20 (by decide) (fun hc => ?_) (fun hc => ?_)
    · have hw := hw.1 hc
      refine z_iconst C 0 dX1_isInPartOf_27 (by decide) ?_
      exact hE _ _ _ _ _ _ dX1_isInPartOf_28 rfl (Nat.le_refl _) (Nat.le_refl _) ⟨rfl, hw⟩
    · have hw := hw.2 hc
      refine z_iconst C 1 dX1_isInPartOf_23 (by decide) ?_
      refine z_goto C 28 dX1_isInPartOf_24 (by decide) ?_
      exact hE _ _ _ _ _ _ dX1_isInPartOf_28 rfl (Nat.le_refl _) (Nat.le_refl _) ⟨rfl, hw⟩
def W_X1_datumOf_L2 (s : zS) (p0 : Int32) (Q : Int32 → Prop) (K : Prop) : Nat → Int32 → Prop
  | 0, _ => False
  | n + 1, v8 =>
    ((gI s 0) ≤ v8 →
    K ) ∧ (¬ (gI s 0) ≤ v8 →
    vp_in v8 6 ∧
    ((gF s 0 (ix v8)) = 0 →
    ∀ x10 : Int32, x10 = v8 + 1 →
    W_X1_datumOf_L2 s p0 Q K n x10) ∧ (¬ (gF s 0 (ix v8)) = 0 →
    W_X1_areInOnePart s v8 p0 (fun r11 =>
    (r11 = 0 →
    ∀ x14 : Int32, x14 = v8 + 1 →
    W_X1_datumOf_L2 s p0 Q K n x14) ∧ (¬ r11 = 0 →
    Q v8))))
def W_X1_datumOf (s : zS) (p0 : Int32) (Q : Int32 → Prop) : Prop :=
    ∀ x1 : Int32, x1 = 0 →
    ∃ (K2 : Prop) (n3 : Nat), (K2  →
    vp_in p0 6 ∧
    Q (gF s 2 (ix p0))) ∧ W_X1_datumOf_L2 s p0 Q K2 n3 x1
set_option maxHeartbeats 4000000 in
set_option maxRecDepth 100000 in
theorem c_X1_datumOf (l : Launch) (D : va_G) (a : Nat → Nat) (g : Nat → ClassId) (s : zS) (p0 : Int32) (Q : Int32 → Prop) (hw : W_X1_datumOf s p0 Q) : zMi l D (zT g) yX1_datumOf wsX1_datumOf ({ frames := 1, cells := 0, slots := 0, locals := 22 } : Room) [.ref (a 1), .int p0] (WX a g) s (fun r u => s = u ∧ Q r) := by
  have i1 : ∀ w ∈ u_ws RX1 TX1 10, w ∈ wsX1_datumOf := fun _ h => (List.mem_cons_of_mem _ (List.mem_append_right _ h))
  refine zMi_start (cc := cX1_datumOf) (maxL := 3) (lv0 := [(0, .ref (a 1)), (1, .int p0)]) (own := RX1) rfl (plainFor_of_name (by decide)) rfl (Nat.le_of_ble_eq_true rfl) rfl (fun X C hR hL hE => ?_)
  refine z_iconst C 0 dX1_datumOf_0 (by decide) ?_
  refine z_topi (fun x1 ex1 => ?_)
  have hw := hw x1 ex1
  refine z_istore_n (lv' := [(2, .int x1), (0, .ref (a 1)), (1, .int p0)]) C 2 dX1_datumOf_1 rfl (by decide) rfl ?_
  refine z_sub (lv' := [(0, .ref (a 1)), (1, .int p0), (2, .int x1)]) [1, 2, 0] rfl ?_
  obtain ⟨K2, n3, hK4, hw⟩ := hw
  have hx5 : K2 → zV X D 3 0 0 (WX a g s) 36 [(0, .ref (a 1)), (1, .int p0)] [] := by
    intro  hw0
    have hw := hK4  hw0
    refine z_aload_n C 0 dX1_datumOf_36 rfl ?_
    refine zg1_lowest C i1 (List.mem_of_getElem? (i := 3) rfl) dX1_datumOf_37 ?_
    refine z_iload_n C 1 dX1_datumOf_40 rfl ?_
    obtain ⟨b7, hw⟩ := hw
    refine zl1_lowest C b7 dX1_datumOf_41 ?_
    exact hE _ _ _ _ _ _ dX1_datumOf_42 rfl (Nat.le_refl _) (Nat.le_refl _) ⟨rfl, hw⟩
  have lp6 : ∀ (n : Nat) (v8 : Int32), W_X1_datumOf_L2 s p0 Q K2 n v8 → zV X D 3 0 0 (WX a g s) 2 [(0, .ref (a 1)), (1, .int p0), (2, .int v8)] [] := by
    intro n
    induction n with
    | zero => intro v8 hw; exact False.elim hw
    | succ n ih =>
      intro v8 hw
      refine z_iload_n C 2 dX1_datumOf_2 rfl ?_
      refine z_aload_n C 0 dX1_datumOf_3 rfl ?_
      refine zg1_stations C i1 (List.mem_of_getElem? (i := 1) rfl) dX1_datumOf_4 ?_
      refine z_icmp_ge C 36 dX1_datumOf_7 (by decide) (fun hc => ?_) (fun hc => ?_)
      · have hw := hw.1 hc
        refine z_sub (lv' := [(0, .ref (a 1)), (1, .int p0)]) [0, 1] rfl ?_
        exact hx5  hw
      · have hw := hw.2 hc
        refine z_aload_n C 0 dX1_datumOf_10 rfl ?_
        refine zg1_isTold C i1 (List.mem_of_getElem? (i := 2) rfl) dX1_datumOf_11 ?_
        refine z_iload_n C 2 dX1_datumOf_14 rfl ?_
        obtain ⟨b9, hw⟩ := hw
        refine zl1_isTold C b9 dX1_datumOf_15 ?_
        refine z_if_eq C 30 dX1_datumOf_16 (by decide) (fun hc => ?_) (fun hc => ?_)
        · have hw := hw.1 hc
          obtain ⟨x10, ex10⟩ : ∃ z : Int32, z = v8 + 1 := ⟨_, rfl⟩
          have hw := hw x10 ex10
          refine z_iinc (lv' := [(2, .int x10), (0, .ref (a 1)), (1, .int p0)]) C 2 dX1_datumOf_30 rfl (by rw [ex10]; rfl) (by decide) rfl ?_
          refine z_goto C 2 dX1_datumOf_33 (by decide) ?_
          refine z_sub (lv' := [(0, .ref (a 1)), (1, .int p0), (2, .int x10)]) [1, 2, 0] rfl ?_
          exact ih _ hw
        · have hw := hw.2 hc
          refine z_aload_n C 0 dX1_datumOf_19 rfl ?_
          refine z_iload_n C 2 dX1_datumOf_20 rfl ?_
          refine z_iload_n C 1 dX1_datumOf_21 rfl ?_
          refine z_call0iV C hR hL (As := [.int v8, .int p0]) (c_X1_areInOnePart l D a g s v8 p0 _ hw) gX1_datumOf_X1_areInOnePart rfl ⟨by decide +kernel, by decide +kernel, (show (parseMethodDescriptor yX1_areInOnePart.desc).map (fun d => d.parameters.length) = some 2 from by decide +kernel)⟩ ⟨rfl, rfl⟩ ⟨Nat.le_of_ble_eq_true rfl, Nat.le_of_ble_eq_true rfl⟩ ⟨Nat.le_of_ble_eq_true rfl, Nat.le_of_ble_eq_true rfl⟩ 1 1 rfl rfl rfl rfl (Nat.le_of_ble_eq_true rfl) dX1_datumOf_22 (fun r11 s12 h13 => ?_)
          obtain ⟨es12, hw⟩ := h13
          subst es12
          refine z_if_eq C 30 dX1_datumOf_25 (by decide) (fun hc => ?_) (fun hc => ?_)
          · have hw := hw.1 hc
            obtain ⟨x14, ex14⟩ : ∃ z : Int32, z = v8 + 1 := ⟨_, rfl⟩
            have hw := hw x14 ex14
            refine z_iinc (lv' := [(2, .int x14), (0, .ref (a 1)), (1, .int p0)]) C 2 dX1_datumOf_30 rfl (by rw [ex14]; rfl) (by decide) rfl ?_
            refine z_goto C 2 dX1_datumOf_33 (by decide) ?_
            refine z_sub (lv' := [(0, .ref (a 1)), (1, .int p0), (2, .int x14)]) [1, 2, 0] rfl ?_
            exact ih _ hw
          · have hw := hw.2 hc
            refine z_iload_n C 2 dX1_datumOf_28 rfl ?_
            exact hE _ _ _ _ _ _ dX1_datumOf_29 rfl (Nat.le_refl _) (Nat.le_refl _) ⟨rfl, hw⟩
  exact lp6 n3 _ hw
def W_X1_lowestBetween_L2 (s : zS) (p0 : Int32) (p1 : Int32) (Q : Int32 → Prop) (K : Prop) : Nat → Int32 → Prop
  | 0, _ => False
  | n + 1, v7 =>
    ((gI s 1) ≤ v7 →
    K ) ∧ (¬ (gI s 1) ≤ v7 →
    vp_in v7 14 ∧
    ∃ k9 : Int32 → Prop, (∀ (v12 : Int32), k9 v12 →
    ∀ x13 : Int32, x13 = v12 →
    vp_in v7 14 ∧
    ∃ k15 : Int32 → Prop, (∀ (v18 : Int32), k15 v18 →
    ∀ x19 : Int32, x19 = v18 →
    vp_in v7 14 ∧
    (¬ (gF s 7 (ix v7)) = 0 →
    ∀ x21 : Int32, x21 = v7 + 1 →
    W_X1_lowestBetween_L2 s p0 p1 Q K n x21) ∧ ((gF s 7 (ix v7)) = 0 →
    (¬ x13 = 0 →
    Q v7) ∧ (x13 = 0 →
    (x19 = 0 →
    ∀ x22 : Int32, x22 = v7 + 1 →
    W_X1_lowestBetween_L2 s p0 p1 Q K n x22) ∧ (¬ x19 = 0 →
    Q v7)))) ∧ ((¬ (gF s 3 (ix v7)) = p1 →
    k15 0) ∧ ((gF s 3 (ix v7)) = p1 →
    vp_in v7 14 ∧
    (¬ (gF s 4 (ix v7)) = p0 →
    k15 0) ∧ ((gF s 4 (ix v7)) = p0 →
    k15 1)))) ∧ ((¬ (gF s 3 (ix v7)) = p0 →
    k9 0) ∧ ((gF s 3 (ix v7)) = p0 →
    vp_in v7 14 ∧
    (¬ (gF s 4 (ix v7)) = p1 →
    k9 0) ∧ ((gF s 4 (ix v7)) = p1 →
    k9 1))))
def W_X1_lowestBetween (s : zS) (p0 : Int32) (p1 : Int32) (Q : Int32 → Prop) : Prop :=
    ∀ x1 : Int32, x1 = 0 →
    ∃ (K2 : Prop) (n3 : Nat), (K2  →
    Q (-1)) ∧ W_X1_lowestBetween_L2 s p0 p1 Q K2 n3 x1
set_option maxHeartbeats 4000000 in
set_option maxRecDepth 100000 in
theorem c_X1_lowestBetween (l : Launch) (D : va_G) (a : Nat → Nat) (g : Nat → ClassId) (s : zS) (p0 : Int32) (p1 : Int32) (Q : Int32 → Prop) (hw : W_X1_lowestBetween s p0 p1 Q) : zMi l D (zT g) yX1_lowestBetween wsX1_lowestBetween ({ frames := 0, cells := 0, slots := 0, locals := 0 } : Room) [.ref (a 1), .int p0, .int p1] (WX a g) s (fun r u => s = u ∧ Q r) := by
  have i1 : ∀ w ∈ u_ws RX1 TX1 10, w ∈ wsX1_lowestBetween := fun _ h => (List.mem_cons_of_mem _ (List.mem_append_right _ h))
  refine zMi_start (cc := cX1_lowestBetween) (maxL := 6) (lv0 := [(0, .ref (a 1)), (1, .int p0), (2, .int p1)]) (own := RX1) rfl (plainFor_of_name (by decide)) rfl (Nat.le_of_ble_eq_true rfl) rfl (fun X C hR hL hE => ?_)
  refine z_iconst C 0 dX1_lowestBetween_0 (by decide) ?_
  refine z_topi (fun x1 ex1 => ?_)
  have hw := hw x1 ex1
  refine z_istore_n (lv' := [(3, .int x1), (0, .ref (a 1)), (1, .int p0), (2, .int p1)]) C 3 dX1_lowestBetween_1 rfl (by decide) rfl ?_
  refine z_sub (lv' := [(0, .ref (a 1)), (1, .int p0), (2, .int p1), (3, .int x1)]) [1, 2, 3, 0] rfl ?_
  obtain ⟨K2, n3, hK4, hw⟩ := hw
  have hx5 : K2 → zV X D 6 0 0 (WX a g s) 91 [] [] := by
    intro  hw0
    have hw := hK4  hw0
    refine z_iconst C (-1) dX1_lowestBetween_91 (by decide) ?_
    exact hE _ _ _ _ _ _ dX1_lowestBetween_92 rfl (Nat.le_refl _) (Nat.le_refl _) ⟨rfl, hw⟩
  have lp6 : ∀ (n : Nat) (v7 : Int32), W_X1_lowestBetween_L2 s p0 p1 Q K2 n v7 → zV X D 6 0 0 (WX a g s) 2 [(0, .ref (a 1)), (1, .int p0), (2, .int p1), (3, .int v7)] [] := by
    intro n
    induction n with
    | zero => intro v7 hw; exact False.elim hw
    | succ n ih =>
      intro v7 hw
      refine z_iload_n C 3 dX1_lowestBetween_2 rfl ?_
      refine z_aload_n C 0 dX1_lowestBetween_3 rfl ?_
      refine zg1_observations C i1 (List.mem_of_getElem? (i := 1) rfl) dX1_lowestBetween_4 ?_
      refine z_icmp_ge C 91 dX1_lowestBetween_7 (by decide) (fun hc => ?_) (fun hc => ?_)
      · have hw := hw.1 hc
        refine z_sub (lv' := []) [] rfl ?_
        exact hx5  hw
      · have hw := hw.2 hc
        refine z_aload_n C 0 dX1_lowestBetween_10 rfl ?_
        refine zg1_from C i1 (List.mem_of_getElem? (i := 2) rfl) dX1_lowestBetween_11 ?_
        refine z_iload_n C 3 dX1_lowestBetween_14 rfl ?_
        obtain ⟨b8, hw⟩ := hw
        refine zl1_from C b8 dX1_lowestBetween_15 ?_
        refine z_iload_n C 1 dX1_lowestBetween_16 rfl ?_
        obtain ⟨k9, hk10, hw⟩ := hw
        have hj11 : ∀ (v12 : Int32), k9 v12 → zV X D 6 0 0 (WX a g s) 35 [(0, .ref (a 1)), (1, .int p0), (2, .int p1), (3, .int v7)] [.int v12] := by
          intro v12 hw0
          have hw := hk10 v12 hw0
          refine z_topi (fun x13 ex13 => ?_)
          have hw := hw x13 ex13
          refine z_istore (lv' := [(4, .int x13), (0, .ref (a 1)), (1, .int p0), (2, .int p1), (3, .int v7)]) C dX1_lowestBetween_35 (by decide) rfl ?_
          refine z_aload_n C 1 dX1_lowestBetween_37 rfl ?_
          refine zg1_from C i1 (List.mem_of_getElem? (i := 2) rfl) dX1_lowestBetween_38 ?_
          refine z_iload_n C 4 dX1_lowestBetween_41 rfl ?_
          obtain ⟨b14, hw⟩ := hw
          refine zl1_from C b14 dX1_lowestBetween_42 ?_
          refine z_iload_n C 3 dX1_lowestBetween_43 rfl ?_
          obtain ⟨k15, hk16, hw⟩ := hw
          have hj17 : ∀ (v18 : Int32), k15 v18 → zV X D 6 0 0 (WX a g s) 62 [(0, .ref (a 1)), (1, .int p0), (2, .int p1), (3, .int v7), (4, .int x13)] [.int v18] := by
            intro v18 hw0
            have hw := hk16 v18 hw0
            refine z_topi (fun x19 ex19 => ?_)
            have hw := hw x19 ex19
            refine z_istore (lv' := [(5, .int x19), (0, .ref (a 1)), (1, .int p0), (2, .int p1), (3, .int v7), (4, .int x13)]) C dX1_lowestBetween_62 (by decide) rfl ?_
            refine z_aload_n C 1 dX1_lowestBetween_64 rfl ?_
            refine zg1_isWithdrawn C i1 (List.mem_of_getElem? (i := 4) rfl) dX1_lowestBetween_65 ?_
            refine z_iload_n C 4 dX1_lowestBetween_68 rfl ?_
            obtain ⟨b20, hw⟩ := hw
            refine zl1_isWithdrawn C b20 dX1_lowestBetween_69 ?_
            refine z_if_ne C 85 dX1_lowestBetween_70 (by decide) (fun hc => ?_) (fun hc => ?_)
            · have hw := hw.1 hc
              obtain ⟨x21, ex21⟩ : ∃ z : Int32, z = v7 + 1 := ⟨_, rfl⟩
              have hw := hw x21 ex21
              refine z_iinc (lv' := [(3, .int x21), (5, .int x19), (0, .ref (a 1)), (1, .int p0), (2, .int p1), (4, .int x13)]) C 4 dX1_lowestBetween_85 rfl (by rw [ex21]; rfl) (by decide) rfl ?_
              refine z_goto C 2 dX1_lowestBetween_88 (by decide) ?_
              refine z_sub (lv' := [(0, .ref (a 1)), (1, .int p0), (2, .int p1), (3, .int x21)]) [2, 3, 4, 0] rfl ?_
              exact ih _ hw
            · have hw := hw.2 hc
              refine z_iload C 5 dX1_lowestBetween_73 rfl ?_
              refine z_if_ne C 83 dX1_lowestBetween_75 (by decide) (fun hc => ?_) (fun hc => ?_)
              · have hw := hw.1 hc
                refine z_iload_n C 4 dX1_lowestBetween_83 rfl ?_
                exact hE _ _ _ _ _ _ dX1_lowestBetween_84 rfl (Nat.le_refl _) (Nat.le_refl _) ⟨rfl, hw⟩
              · have hw := hw.2 hc
                refine z_iload C 0 dX1_lowestBetween_78 rfl ?_
                refine z_if_eq C 85 dX1_lowestBetween_80 (by decide) (fun hc => ?_) (fun hc => ?_)
                · have hw := hw.1 hc
                  obtain ⟨x22, ex22⟩ : ∃ z : Int32, z = v7 + 1 := ⟨_, rfl⟩
                  have hw := hw x22 ex22
                  refine z_iinc (lv' := [(3, .int x22), (5, .int x19), (0, .ref (a 1)), (1, .int p0), (2, .int p1), (4, .int x13)]) C 4 dX1_lowestBetween_85 rfl (by rw [ex22]; rfl) (by decide) rfl ?_
                  refine z_goto C 2 dX1_lowestBetween_88 (by decide) ?_
                  refine z_sub (lv' := [(0, .ref (a 1)), (1, .int p0), (2, .int p1), (3, .int x22)]) [2, 3, 4, 0] rfl ?_
                  exact ih _ hw
                · have hw := hw.2 hc
                  refine z_iload_n C 4 dX1_lowestBetween_83 rfl ?_
                  exact hE _ _ _ _ _ _ dX1_lowestBetween_84 rfl (Nat.le_refl _) (Nat.le_refl _) ⟨rfl, hw⟩
          refine z_icmp_ne C 61 dX1_lowestBetween_44 (by decide) (fun hc => ?_) (fun hc => ?_)
          · have hw := hw.1 hc
            refine z_iconst C 0 dX1_lowestBetween_61 (by decide) ?_
            refine z_sub (lv' := [(0, .ref (a 1)), (1, .int p0), (2, .int p1), (3, .int v7), (4, .int x13)]) [1, 2, 3, 4, 0] rfl ?_
            exact hj17 _ hw
          · have hw := hw.2 hc
            refine z_aload_n C 1 dX1_lowestBetween_47 rfl ?_
            refine zg1_to C i1 (List.mem_of_getElem? (i := 3) rfl) dX1_lowestBetween_48 ?_
            refine z_iload_n C 4 dX1_lowestBetween_51 rfl ?_
            obtain ⟨b23, hw⟩ := hw
            refine zl1_to C b23 dX1_lowestBetween_52 ?_
            refine z_iload_n C 2 dX1_lowestBetween_53 rfl ?_
            refine z_icmp_ne C 61 dX1_lowestBetween_54 (by decide) (fun hc => ?_) (fun hc => ?_)
            · have hw := hw.1 hc
              refine z_iconst C 0 dX1_lowestBetween_61 (by decide) ?_
              refine z_sub (lv' := [(0, .ref (a 1)), (1, .int p0), (2, .int p1), (3, .int v7), (4, .int x13)]) [1, 2, 3, 4, 0] rfl ?_
              exact hj17 _ hw
            · have hw := hw.2 hc
              refine z_iconst C 1 dX1_lowestBetween_57 (by decide) ?_
              refine z_goto C 62 dX1_lowestBetween_58 (by decide) ?_
              refine z_sub (lv' := [(0, .ref (a 1)), (1, .int p0), (2, .int p1), (3, .int v7), (4, .int x13)]) [1, 2, 3, 4, 0] rfl ?_
              exact hj17 _ hw
        refine z_icmp_ne C 34 dX1_lowestBetween_17 (by decide) (fun hc => ?_) (fun hc => ?_)
        · have hw := hw.1 hc
          refine z_iconst C 0 dX1_lowestBetween_34 (by decide) ?_
          exact hj11 _ hw
        · have hw := hw.2 hc
          refine z_aload_n C 0 dX1_lowestBetween_20 rfl ?_
          refine zg1_to C i1 (List.mem_of_getElem? (i := 3) rfl) dX1_lowestBetween_21 ?_
          refine z_iload_n C 3 dX1_lowestBetween_24 rfl ?_
          obtain ⟨b24, hw⟩ := hw
          refine zl1_to C b24 dX1_lowestBetween_25 ?_
          refine z_iload_n C 2 dX1_lowestBetween_26 rfl ?_
          refine z_icmp_ne C 34 dX1_lowestBetween_27 (by decide) (fun hc => ?_) (fun hc => ?_)
          · have hw := hw.1 hc
            refine z_iconst C 0 dX1_lowestBetween_34 (by decide) ?_
            exact hj11 _ hw
          · have hw := hw.2 hc
            refine z_iconst C 1 dX1_lowestBetween_30 (by decide) ?_
            refine z_goto C 35 dX1_lowestBetween_31 (by decide) ?_
            exact hj11 _ hw
  exact lp6 n3 _ hw
def W_X1_differenceFrom (s : zS) (p0 : Int32) (p1 : Int32) (Q : Int32 → Prop) : Prop :=
    vp_in p1 14 ∧
    (¬ (gF s 3 (ix p1)) = p0 →
    vp_in p1 14 ∧
    Q (-(gF s 5 (ix p1)))) ∧ ((gF s 3 (ix p1)) = p0 →
    vp_in p1 14 ∧
    Q (gF s 5 (ix p1)))
set_option maxHeartbeats 4000000 in
set_option maxRecDepth 100000 in
theorem c_X1_differenceFrom (l : Launch) (D : va_G) (a : Nat → Nat) (g : Nat → ClassId) (s : zS) (p0 : Int32) (p1 : Int32) (Q : Int32 → Prop) (hw : W_X1_differenceFrom s p0 p1 Q) : zMi l D (zT g) yX1_differenceFrom wsX1_differenceFrom ({ frames := 0, cells := 0, slots := 0, locals := 0 } : Room) [.ref (a 1), .int p0, .int p1] (WX a g) s (fun r u => s = u ∧ Q r) := by
  have i1 : ∀ w ∈ u_ws RX1 TX1 10, w ∈ wsX1_differenceFrom := fun _ h => (List.mem_cons_of_mem _ (List.mem_append_right _ h))
  refine zMi_start (cc := cX1_differenceFrom) (maxL := 3) (lv0 := [(0, .ref (a 1)), (1, .int p0), (2, .int p1)]) (own := RX1) rfl (plainFor_of_name (by decide)) rfl (Nat.le_of_ble_eq_true rfl) rfl (fun X C hR hL hE => ?_)
  refine z_aload_n C 0 dX1_differenceFrom_0 rfl ?_
  refine zg1_from C i1 (List.mem_of_getElem? (i := 1) rfl) dX1_differenceFrom_1 ?_
  refine z_iload_n C 2 dX1_differenceFrom_4 rfl ?_
  obtain ⟨b1, hw⟩ := hw
  refine zl1_from C b1 dX1_differenceFrom_5 ?_
  refine z_iload_n C 1 dX1_differenceFrom_6 rfl ?_
  refine z_icmp_ne C 19 dX1_differenceFrom_7 (by decide) (fun hc => ?_) (fun hc => ?_)
  · have hw := hw.1 hc
    refine z_aload_n C 0 dX1_differenceFrom_19 rfl ?_
    refine zg1_difference C i1 (List.mem_of_getElem? (i := 2) rfl) dX1_differenceFrom_20 ?_
    refine z_iload_n C 2 dX1_differenceFrom_23 rfl ?_
    obtain ⟨b2, hw⟩ := hw
    refine zl1_difference C b2 dX1_differenceFrom_24 ?_
    refine z_ineg C dX1_differenceFrom_25 ?_
    exact hE _ _ _ _ _ _ dX1_differenceFrom_26 rfl (Nat.le_refl _) (Nat.le_refl _) ⟨rfl, hw⟩
  · have hw := hw.2 hc
    refine z_aload_n C 0 dX1_differenceFrom_10 rfl ?_
    refine zg1_difference C i1 (List.mem_of_getElem? (i := 2) rfl) dX1_differenceFrom_11 ?_
    refine z_iload_n C 2 dX1_differenceFrom_14 rfl ?_
    obtain ⟨b3, hw⟩ := hw
    refine zl1_difference C b3 dX1_differenceFrom_15 ?_
    refine z_goto C 26 dX1_differenceFrom_16 (by decide) ?_
    exact hE _ _ _ _ _ _ dX1_differenceFrom_26 rfl (Nat.le_refl _) (Nat.le_refl _) ⟨rfl, hw⟩
def W_X2_begin (s : zS) (p0 : Int32) (Q : Int32 → zS → Prop) : Prop :=
    ∀ s1 : zS, s1 = sI s 9 p0 →
    ∀ s2 : zS, s2 = sI s1 10 p0 →
    ∀ s3 : zS, s3 = sI s2 8 1 →
    Q (gI s3 8) s3
set_option maxHeartbeats 4000000 in
set_option maxRecDepth 100000 in
theorem c_X2_begin (l : Launch) (D : va_G) (a : Nat → Nat) (g : Nat → ClassId) (s : zS) (p0 : Int32) (Q : Int32 → zS → Prop) (hw : W_X2_begin s p0 Q) : zMi l D (zT g) yX2_begin wsX2_begin ({ frames := 0, cells := 0, slots := 0, locals := 0 } : Room) [.ref (a 4), .int p0] (WX a g) s (fun r u => Q r u) := by
  have i2 : ∀ w ∈ u_ws RX2 TX2 4, w ∈ wsX2_begin := fun _ h => (List.mem_cons_of_mem _ (List.mem_append_right _ h))
  refine zMi_start (cc := cX2_begin) (maxL := 2) (lv0 := [(0, .ref (a 4)), (1, .int p0)]) (own := RX2) rfl (plainFor_of_name (by decide)) rfl (Nat.le_of_ble_eq_true rfl) rfl (fun X C hR hL hE => ?_)
  refine z_aload_n C 0 dX2_begin_0 rfl ?_
  refine z_iload_n C 1 dX2_begin_1 rfl ?_
  refine zp2_first C i2 (List.mem_of_getElem? (i := 1) rfl) dX2_begin_2 ?_
  refine z_topsWX (fun s1 es1 => ?_)
  have hw := hw s1 es1
  refine z_aload_n C 0 dX2_begin_5 rfl ?_
  refine z_iload_n C 1 dX2_begin_6 rfl ?_
  refine zp2_last C i2 (List.mem_of_getElem? (i := 2) rfl) dX2_begin_7 ?_
  refine z_topsWX (fun s2 es2 => ?_)
  have hw := hw s2 es2
  refine z_aload_n C 0 dX2_begin_10 rfl ?_
  refine z_iconst C 1 dX2_begin_11 (by decide) ?_
  refine zp2_length C i2 (List.mem_of_getElem? (i := 3) rfl) dX2_begin_12 ?_
  refine z_topsWX (fun s3 es3 => ?_)
  have hw := hw s3 es3
  refine z_aload_n C 0 dX2_begin_15 rfl ?_
  refine zg2_length C i2 (List.mem_of_getElem? (i := 3) rfl) dX2_begin_16 ?_
  exact hE _ _ _ _ _ _ dX2_begin_19 rfl (Nat.le_refl _) (Nat.le_refl _) hw
def W_X2_goOn (s : zS) (p0 : Int32) (p1 : Int32) (Q : Int32 → zS → Prop) : Prop :=
    ∀ s1 : zS, s1 = sI s 10 p0 →
    ∀ s2 : zS, s2 = sI s1 11 ((gI s1 11) + p1) →
    ∀ s3 : zS, s3 = sI s2 8 ((gI s2 8) + 1) →
    Q (gI s3 8) s3
set_option maxHeartbeats 4000000 in
set_option maxRecDepth 100000 in
theorem c_X2_goOn (l : Launch) (D : va_G) (a : Nat → Nat) (g : Nat → ClassId) (s : zS) (p0 : Int32) (p1 : Int32) (Q : Int32 → zS → Prop) (hw : W_X2_goOn s p0 p1 Q) : zMi l D (zT g) yX2_goOn wsX2_goOn ({ frames := 0, cells := 0, slots := 0, locals := 0 } : Room) [.ref (a 4), .int p0, .int p1] (WX a g) s (fun r u => Q r u) := by
  have i2 : ∀ w ∈ u_ws RX2 TX2 4, w ∈ wsX2_goOn := fun _ h => (List.mem_cons_of_mem _ (List.mem_append_right _ h))
  refine zMi_start (cc := cX2_goOn) (maxL := 3) (lv0 := [(0, .ref (a 4)), (1, .int p0), (2, .int p1)]) (own := RX2) rfl (plainFor_of_name (by decide)) rfl (Nat.le_of_ble_eq_true rfl) rfl (fun X C hR hL hE => ?_)
  refine z_aload_n C 0 dX2_goOn_0 rfl ?_
  refine z_iload_n C 1 dX2_goOn_1 rfl ?_
  refine zp2_last C i2 (List.mem_of_getElem? (i := 1) rfl) dX2_goOn_2 ?_
  refine z_topsWX (fun s1 es1 => ?_)
  have hw := hw s1 es1
  refine z_aload_n C 0 dX2_goOn_5 rfl ?_
  refine z_aload_n C 0 dX2_goOn_6 rfl ?_
  refine zg2_total C i2 (List.mem_of_getElem? (i := 2) rfl) dX2_goOn_7 ?_
  refine z_iload_n C 2 dX2_goOn_10 rfl ?_
  refine z_iadd C dX2_goOn_11 ?_
  refine zp2_total C i2 (List.mem_of_getElem? (i := 2) rfl) dX2_goOn_12 ?_
  refine z_topsWX (fun s2 es2 => ?_)
  have hw := hw s2 es2
  refine z_aload_n C 0 dX2_goOn_15 rfl ?_
  refine z_aload_n C 0 dX2_goOn_16 rfl ?_
  refine zg2_length C i2 (List.mem_of_getElem? (i := 3) rfl) dX2_goOn_17 ?_
  refine z_iconst C 1 dX2_goOn_20 (by decide) ?_
  refine z_iadd C dX2_goOn_21 ?_
  refine zp2_length C i2 (List.mem_of_getElem? (i := 3) rfl) dX2_goOn_22 ?_
  refine z_topsWX (fun s3 es3 => ?_)
  have hw := hw s3 es3
  refine z_aload_n C 0 dX2_goOn_25 rfl ?_
  refine zg2_length C i2 (List.mem_of_getElem? (i := 3) rfl) dX2_goOn_26 ?_
  exact hE _ _ _ _ _ _ dX2_goOn_29 rfl (Nat.le_refl _) (Nat.le_refl _) hw
def W_X2_clear (s : zS) (Q : Int32 → zS → Prop) : Prop :=
    ∀ x1 : Int32, x1 = (gI s 8) →
    ∀ s2 : zS, s2 = sI s 8 0 →
    ∀ s3 : zS, s3 = sI s2 11 0 →
    Q x1 s3
set_option maxHeartbeats 4000000 in
set_option maxRecDepth 100000 in
theorem c_X2_clear (l : Launch) (D : va_G) (a : Nat → Nat) (g : Nat → ClassId) (s : zS) (Q : Int32 → zS → Prop) (hw : W_X2_clear s Q) : zMi l D (zT g) yX2_clear wsX2_clear ({ frames := 0, cells := 0, slots := 0, locals := 0 } : Room) [.ref (a 4)] (WX a g) s (fun r u => Q r u) := by
  have i2 : ∀ w ∈ u_ws RX2 TX2 4, w ∈ wsX2_clear := fun _ h => (List.mem_cons_of_mem _ (List.mem_append_right _ h))
  refine zMi_start (cc := cX2_clear) (maxL := 2) (lv0 := [(0, .ref (a 4))]) (own := RX2) rfl (plainFor_of_name (by decide)) rfl (Nat.le_of_ble_eq_true rfl) rfl (fun X C hR hL hE => ?_)
  refine z_aload_n C 0 dX2_clear_0 rfl ?_
  refine zg2_length C i2 (List.mem_of_getElem? (i := 1) rfl) dX2_clear_1 ?_
  refine z_topi (fun x1 ex1 => ?_)
  have hw := hw x1 ex1
  refine z_istore_n (lv' := [(1, .int x1), (0, .ref (a 4))]) C 1 dX2_clear_4 rfl (by decide) rfl ?_
  refine z_aload_n C 1 dX2_clear_5 rfl ?_
  refine z_iconst C 0 dX2_clear_6 (by decide) ?_
  refine zp2_length C i2 (List.mem_of_getElem? (i := 1) rfl) dX2_clear_7 ?_
  refine z_topsWX (fun s2 es2 => ?_)
  have hw := hw s2 es2
  refine z_aload_n C 1 dX2_clear_10 rfl ?_
  refine z_iconst C 0 dX2_clear_11 (by decide) ?_
  refine zp2_total C i2 (List.mem_of_getElem? (i := 2) rfl) dX2_clear_12 ?_
  refine z_topsWX (fun s3 es3 => ?_)
  have hw := hw s3 es3
  refine z_iload_n C 0 dX2_clear_15 rfl ?_
  exact hE _ _ _ _ _ _ dX2_clear_16 rfl (Nat.le_refl _) (Nat.le_refl _) hw
