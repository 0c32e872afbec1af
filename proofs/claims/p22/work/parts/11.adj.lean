def W_J9_floorDiv_f86c9 (s : zS) (p0 : Int64) (p1 : Int64) (Q : Int64 → Prop) : Prop :=
    ¬ p1 = 0 ∧
    ∀ x2 : Int64, x2 = (p0 / p1) →
    (0 ≤ (p0 ^^^ p1) →
    Q x2) ∧ (¬ 0 ≤ (p0 ^^^ p1) →
    ((x2 * p1) = p0 →
    Q x2) ∧ (¬ (x2 * p1) = p0 →
    Q (x2 - 1)))
set_option maxHeartbeats 4000000 in
set_option maxRecDepth 100000 in
theorem c_J9_floorDiv_f86c9 (l : Launch) (D : va_G) (a : Nat → Nat) (g : Nat → ClassId) (s : zS) (p0 : Int64) (p1 : Int64) (Q : Int64 → Prop) (hw : W_J9_floorDiv_f86c9 s p0 p1 Q) : zMl l D (zT g) yJ9_floorDiv_f86c9 wsJ9_floorDiv_f86c9 ({ frames := 0, cells := 0, slots := 0, locals := 0 } : Room) [.long p0, .long p1] (WX a g) s (fun r u => s = u ∧ Q r) := by
  refine zMl_start (cc := cJ9_floorDiv_f86c9) (maxL := 6) (lv0 := [(0, .long p0), (2, .long p1)]) (own := RJ9) rfl (by decide +kernel) rfl (Nat.le_of_ble_eq_true rfl) rfl (fun X C hR hL hE => ?_)
  refine z_lload_n C 0 dJ9_floorDiv_f86c9_0 rfl ?_
  refine z_lload_n C 1 dJ9_floorDiv_f86c9_1 rfl ?_
  obtain ⟨b1, hw⟩ := hw
  refine z_ldiv C dJ9_floorDiv_f86c9_2 b1 ?_
  refine z_topl (fun x2 ex2 => ?_)
  have hw := hw x2 ex2
  refine z_lstore (lv' := [(4, .long x2), (0, .long p0), (2, .long p1)]) C dJ9_floorDiv_f86c9_3 (by decide) rfl ?_
  refine z_lload_n C 1 dJ9_floorDiv_f86c9_5 rfl ?_
  refine z_lload_n C 2 dJ9_floorDiv_f86c9_6 rfl ?_
  refine z_lxor C dJ9_floorDiv_f86c9_7 ?_
  refine z_lconst C 0 dJ9_floorDiv_f86c9_8 (by decide) ?_
  refine z_lcmp_ge C 27 dJ9_floorDiv_f86c9_9 dJ9_floorDiv_f86c9_10 (by decide) (fun hc => ?_) (fun hc => ?_)
  · have hw := hw.1 hc
    refine z_lload C 0 dJ9_floorDiv_f86c9_27 rfl ?_
    exact hE _ _ _ _ _ _ dJ9_floorDiv_f86c9_29 (Nat.le_refl _) (Nat.le_refl _) ⟨rfl, hw⟩
  · have hw := hw.2 hc
    refine z_lload C 0 dJ9_floorDiv_f86c9_13 rfl ?_
    refine z_lload_n C 2 dJ9_floorDiv_f86c9_15 rfl ?_
    refine z_lmul C dJ9_floorDiv_f86c9_16 ?_
    refine z_lload_n C 1 dJ9_floorDiv_f86c9_17 rfl ?_
    refine z_lcmp_eq C 27 dJ9_floorDiv_f86c9_18 dJ9_floorDiv_f86c9_19 (by decide) (fun hc => ?_) (fun hc => ?_)
    · have hw := hw.1 hc
      refine z_lload C 0 dJ9_floorDiv_f86c9_27 rfl ?_
      exact hE _ _ _ _ _ _ dJ9_floorDiv_f86c9_29 (Nat.le_refl _) (Nat.le_refl _) ⟨rfl, hw⟩
    · have hw := hw.2 hc
      refine z_lload C 0 dJ9_floorDiv_f86c9_22 rfl ?_
      refine z_lconst C 1 dJ9_floorDiv_f86c9_24 (by decide) ?_
      refine z_lsub C dJ9_floorDiv_f86c9_25 ?_
      exact hE _ _ _ _ _ _ dJ9_floorDiv_f86c9_26 (Nat.le_refl _) (Nat.le_refl _) ⟨rfl, hw⟩
def W_X4_roundedDown (s : zS) (p0 : Int64) (p1 : Int64) (Q : Int64 → Prop) : Prop :=
    (¬ p1 = 0 →
    W_J9_floorDiv_f86c9 s p0 p1 (fun r1 =>
    Q r1)) ∧ (p1 = 0 →
    Q 0)
set_option maxHeartbeats 4000000 in
set_option maxRecDepth 100000 in
theorem c_X4_roundedDown (l : Launch) (D : va_G) (a : Nat → Nat) (g : Nat → ClassId) (s : zS) (p0 : Int64) (p1 : Int64) (Q : Int64 → Prop) (hw : W_X4_roundedDown s p0 p1 Q) : zMl l D (zT g) yX4_roundedDown wsX4_roundedDown ({ frames := 1, cells := 0, slots := 0, locals := 25 } : Room) [.long p0, .long p1] (WX a g) s (fun r u => s = u ∧ Q r) := by
  refine zMl_start (cc := cX4_roundedDown) (maxL := 4) (lv0 := [(0, .long p0), (2, .long p1)]) (own := RX4) rfl (plainFor_of_name (by decide)) rfl (Nat.le_of_ble_eq_true rfl) rfl (fun X C hR hL hE => ?_)
  refine z_lload_n C 1 dX4_roundedDown_0 rfl ?_
  refine z_lconst C 0 dX4_roundedDown_1 (by decide) ?_
  refine z_lcmp_ne C 10 dX4_roundedDown_2 dX4_roundedDown_3 (by decide) (fun hc => ?_) (fun hc => ?_)
  · have hw := hw.1 hc
    refine z_lload_n C 0 dX4_roundedDown_10 rfl ?_
    refine z_lload_n C 1 dX4_roundedDown_11 rfl ?_
    refine z_call0lS C hR hL (As := [.long p0, .long p1]) (c_J9_floorDiv_f86c9 l D a g s p0 p1 _ hw) gX4_roundedDown_J9_floorDiv_f86c9 rfl ⟨by decide +kernel, by decide +kernel, (show (parseMethodDescriptor yJ9_floorDiv_f86c9.desc).map (fun d => d.parameters.length) = some 2 from by decide +kernel)⟩ ⟨rfl, rfl⟩ ⟨Nat.le_of_ble_eq_true rfl, Nat.le_of_ble_eq_true rfl⟩ ⟨Nat.le_of_ble_eq_true rfl, Nat.le_of_ble_eq_true rfl⟩ rfl (Nat.le_of_ble_eq_true rfl) dX4_roundedDown_12 (fun r1 s2 h3 => ?_)
    obtain ⟨es2, hw⟩ := h3
    subst es2
    exact hE _ _ _ _ _ _ dX4_roundedDown_15 (Nat.le_refl _) (Nat.le_refl _) ⟨rfl, hw⟩
  · have hw := hw.2 hc
    refine z_lconst C 0 dX4_roundedDown_6 (by decide) ?_
    refine z_goto C 15 dX4_roundedDown_7 (by decide) ?_
    exact hE _ _ _ _ _ _ dX4_roundedDown_15 (Nat.le_refl _) (Nat.le_refl _) ⟨rfl, hw⟩
def W_X4_isBeyond (s : zS) (p0 : Int32) (p1 : Int32) (p2 : Int32) (Q : Int32 → Prop) : Prop :=
    (p0 < p1 →
    Q 1) ∧ (¬ p0 < p1 →
    (p0 ≤ p2 →
    Q 0) ∧ (¬ p0 ≤ p2 →
    Q 1))
set_option maxHeartbeats 4000000 in
set_option maxRecDepth 100000 in
theorem c_X4_isBeyond (l : Launch) (D : va_G) (a : Nat → Nat) (g : Nat → ClassId) (s : zS) (p0 : Int32) (p1 : Int32) (p2 : Int32) (Q : Int32 → Prop) (hw : W_X4_isBeyond s p0 p1 p2 Q) : zMi l D (zT g) yX4_isBeyond wsX4_isBeyond ({ frames := 0, cells := 0, slots := 0, locals := 0 } : Room) [.int p0, .int p1, .int p2] (WX a g) s (fun r u => s = u ∧ Q r) := by
  refine zMi_start (cc := cX4_isBeyond) (maxL := 3) (lv0 := [(0, .int p0), (1, .int p1), (2, .int p2)]) (own := RX4) rfl (plainFor_of_name (by decide)) rfl (Nat.le_of_ble_eq_true rfl) rfl (fun X C hR hL hE => ?_)
  refine z_iload_n C 0 dX4_isBeyond_0 rfl ?_
  refine z_iload_n C 1 dX4_isBeyond_1 rfl ?_
  refine z_icmp_lt C 10 dX4_isBeyond_2 (by decide) (fun hc => ?_) (fun hc => ?_)
  · have hw := hw.1 hc
    refine z_iconst C 1 dX4_isBeyond_10 (by decide) ?_
    refine z_goto C 15 dX4_isBeyond_11 (by decide) ?_
    exact hE _ _ _ _ _ _ dX4_isBeyond_15 rfl (Nat.le_refl _) (Nat.le_refl _) ⟨rfl, hw⟩
  · have hw := hw.2 hc
    refine z_iload_n C 0 dX4_isBeyond_5 rfl ?_
    refine z_iload_n C 2 dX4_isBeyond_6 rfl ?_
    refine z_icmp_le C 14 dX4_isBeyond_7 (by decide) (fun hc => ?_) (fun hc => ?_)
    · have hw := hw.1 hc
      refine z_iconst C 0 dX4_isBeyond_14 (by decide) ?_
      exact hE _ _ _ _ _ _ dX4_isBeyond_15 rfl (Nat.le_refl _) (Nat.le_refl _) ⟨rfl, hw⟩
    · have hw := hw.2 hc
      refine z_iconst C 1 dX4_isBeyond_10 (by decide) ?_
      refine z_goto C 15 dX4_isBeyond_11 (by decide) ?_
      exact hE _ _ _ _ _ _ dX4_isBeyond_15 rfl (Nat.le_refl _) (Nat.le_refl _) ⟨rfl, hw⟩
def W_X0_riseOf (s : zS) (p0 : Int32) (Q : Int64 → Prop) : Prop :=
    vp_in p0 6 ∧
    ∀ x2 : Int32, x2 = (gF s 8 (ix p0)) →
    (¬ x2 = (-1) →
    vp_in x2 5 ∧
    vp_in 5 6 ∧
    Q (gL s (0 + (ix x2)) (ix 5))) ∧ (x2 = (-1) →
    Q 0)
set_option maxHeartbeats 4000000 in
set_option maxRecDepth 100000 in
theorem c_X0_riseOf (l : Launch) (D : va_G) (a : Nat → Nat) (g : Nat → ClassId) (s : zS) (p0 : Int32) (Q : Int64 → Prop) (hw : W_X0_riseOf s p0 Q) : zMl l D (zT g) yX0_riseOf wsX0_riseOf ({ frames := 0, cells := 0, slots := 0, locals := 0 } : Room) [.ref (a 2), .int p0] (WX a g) s (fun r u => s = u ∧ Q r) := by
  have i0 : ∀ w ∈ u_ws RX0 TX0 6, w ∈ wsX0_riseOf := fun _ h => (List.mem_cons_of_mem _ (List.mem_append_right _ h))
  refine zMl_start (cc := cX0_riseOf) (maxL := 3) (lv0 := [(0, .ref (a 2)), (1, .int p0)]) (own := RX0) rfl (plainFor_of_name (by decide)) rfl (Nat.le_of_ble_eq_true rfl) rfl (fun X C hR hL hE => ?_)
  refine z_aload_n C 0 dX0_riseOf_0 rfl ?_
  refine zg0_rowOf C i0 (List.mem_of_getElem? (i := 1) rfl) dX0_riseOf_1 ?_
  refine z_iload_n C 1 dX0_riseOf_4 rfl ?_
  obtain ⟨b1, hw⟩ := hw
  refine zl0_rowOf C b1 dX0_riseOf_5 ?_
  refine z_topi (fun x2 ex2 => ?_)
  have hw := hw x2 ex2
  refine z_istore_n (lv' := [(2, .int x2), (0, .ref (a 2)), (1, .int p0)]) C 2 dX0_riseOf_6 rfl (by decide) rfl ?_
  refine z_iload_n C 0 dX0_riseOf_7 rfl ?_
  refine z_iconst C (-1) dX0_riseOf_8 (by decide) ?_
  refine z_icmp_ne C 16 dX0_riseOf_9 (by decide) (fun hc => ?_) (fun hc => ?_)
  · have hw := hw.1 hc
    refine z_aload_n C 1 dX0_riseOf_16 rfl ?_
    refine zg0_cells C i0 (List.mem_of_getElem? (i := 2) rfl) dX0_riseOf_17 ?_
    refine z_iload_n C 0 dX0_riseOf_20 rfl ?_
    obtain ⟨b3, hw⟩ := hw
    refine zr0_cells C b3 dX0_riseOf_21 ?_
    refine z_iconst C 5 dX0_riseOf_22 (by decide) ?_
    obtain ⟨b4, hw⟩ := hw
    refine zl0_cells C _ (z_lt b3) b4 dX0_riseOf_23 ?_
    exact hE _ _ _ _ _ _ dX0_riseOf_24 (Nat.le_refl _) (Nat.le_refl _) ⟨rfl, hw⟩
  · have hw := hw.2 hc
    refine z_lconst C 0 dX0_riseOf_12 (by decide) ?_
    refine z_goto C 24 dX0_riseOf_13 (by decide) ?_
    exact hE _ _ _ _ _ _ dX0_riseOf_24 (Nat.le_refl _) (Nat.le_refl _) ⟨rfl, hw⟩
def W_X0_clearColumn_L23 (p0 : Int32) (p1 : Int32) (p2 : Int64) (x3 : Int64) (x6 : Int64) (Q : zS → Prop) (K : zS → Prop) : Nat → Int32 → zS → Prop
  | 0, _, _ => False
  | n + 1, v14, s15 =>
    (6 ≤ v14 →
    K s15) ∧ (¬ 6 ≤ v14 →
    vp_in p0 5 ∧
    vp_in v14 6 ∧
    vp_in p1 5 ∧
    vp_in v14 6 ∧
    ∀ x20 : Int64, x20 = ((x3 * (gL s15 (0 + (ix p0)) (ix v14))) - (x6 * (gL s15 (0 + (ix p1)) (ix v14)))) →
    vp_in p0 5 ∧
    (¬ p2 = 0 →
    ¬ p2 = 0 ∧
    vp_in v14 6 ∧
    ∀ s24 : zS, s24 = sL s15 (0 + (ix p0)) (ix v14) (x20 / p2) →
    ∀ x25 : Int32, x25 = v14 + 1 →
    W_X0_clearColumn_L23 p0 p1 p2 x3 x6 Q K n x25 s24) ∧ (p2 = 0 →
    vp_in v14 6 ∧
    ∀ s27 : zS, s27 = sL s15 (0 + (ix p0)) (ix v14) 0 →
    ∀ x28 : Int32, x28 = v14 + 1 →
    W_X0_clearColumn_L23 p0 p1 p2 x3 x6 Q K n x28 s27))
def W_X0_clearColumn (s : zS) (p0 : Int32) (p1 : Int32) (p2 : Int64) (Q : zS → Prop) : Prop :=
    vp_in p1 5 ∧
    vp_in p1 6 ∧
    ∀ x3 : Int64, x3 = (gL s (0 + (ix p1)) (ix p1)) →
    vp_in p0 5 ∧
    vp_in p1 6 ∧
    ∀ x6 : Int64, x6 = (gL s (0 + (ix p0)) (ix p1)) →
    ∀ x7 : Int32, x7 = 0 →
    ∃ (K8 : zS → Prop) (n9 : Nat), (∀  (s13 : zS), K8 s13 →
    Q s13) ∧ W_X0_clearColumn_L23 p0 p1 p2 x3 x6 Q K8 n9 x7 s
set_option maxHeartbeats 4000000 in
set_option maxRecDepth 100000 in
theorem c_X0_clearColumn (l : Launch) (D : va_G) (a : Nat → Nat) (g : Nat → ClassId) (s : zS) (p0 : Int32) (p1 : Int32) (p2 : Int64) (Q : zS → Prop) (hw : W_X0_clearColumn s p0 p1 p2 Q) : zMv l D (zT g) yX0_clearColumn wsX0_clearColumn ({ frames := 0, cells := 0, slots := 0, locals := 0 } : Room) [.ref (a 2), .int p0, .int p1, .long p2] (WX a g) s (fun u => Q u) := by
  have i0 : ∀ w ∈ u_ws RX0 TX0 6, w ∈ wsX0_clearColumn := fun _ h => (List.mem_cons_of_mem _ (List.mem_append_right _ h))
  refine zMv_start (cc := cX0_clearColumn) (maxL := 12) (lv0 := [(0, .ref (a 2)), (1, .int p0), (2, .int p1), (3, .long p2)]) (own := RX0) rfl (plainFor_of_name (by decide)) rfl (Nat.le_of_ble_eq_true rfl) rfl (fun X C hR hL hE => ?_)
  refine z_aload_n C 0 dX0_clearColumn_0 rfl ?_
  refine zg0_cells C i0 (List.mem_of_getElem? (i := 1) rfl) dX0_clearColumn_1 ?_
  refine z_iload_n C 2 dX0_clearColumn_4 rfl ?_
  obtain ⟨b1, hw⟩ := hw
  refine zr0_cells C b1 dX0_clearColumn_5 ?_
  refine z_iload_n C 2 dX0_clearColumn_6 rfl ?_
  obtain ⟨b2, hw⟩ := hw
  refine zl0_cells C _ (z_lt b1) b2 dX0_clearColumn_7 ?_
  refine z_topl (fun x3 ex3 => ?_)
  have hw := hw x3 ex3
  refine z_lstore (lv' := [(5, .long x3), (0, .ref (a 2)), (1, .int p0), (2, .int p1), (3, .long p2)]) C dX0_clearColumn_8 (by decide) rfl ?_
  refine z_aload_n C 1 dX0_clearColumn_10 rfl ?_
  refine zg0_cells C i0 (List.mem_of_getElem? (i := 1) rfl) dX0_clearColumn_11 ?_
  refine z_iload_n C 2 dX0_clearColumn_14 rfl ?_
  obtain ⟨b4, hw⟩ := hw
  refine zr0_cells C b4 dX0_clearColumn_15 ?_
  refine z_iload_n C 3 dX0_clearColumn_16 rfl ?_
  obtain ⟨b5, hw⟩ := hw
  refine zl0_cells C _ (z_lt b4) b5 dX0_clearColumn_17 ?_
  refine z_topl (fun x6 ex6 => ?_)
  have hw := hw x6 ex6
  refine z_lstore (lv' := [(7, .long x6), (5, .long x3), (0, .ref (a 2)), (1, .int p0), (2, .int p1), (3, .long p2)]) C dX0_clearColumn_18 (by decide) rfl ?_
  refine z_iconst C 0 dX0_clearColumn_20 (by decide) ?_
  refine z_topi (fun x7 ex7 => ?_)
  have hw := hw x7 ex7
  refine z_istore (lv' := [(9, .int x7), (7, .long x6), (5, .long x3), (0, .ref (a 2)), (1, .int p0), (2, .int p1), (3, .long p2)]) C dX0_clearColumn_21 (by decide) rfl ?_
  refine z_sub (lv' := [(0, .ref (a 2)), (1, .int p0), (2, .int p1), (3, .long p2), (5, .long x3), (7, .long x6), (9, .int x7)]) [3, 4, 5, 6, 2, 1, 0] rfl ?_
  obtain ⟨K8, n9, hK10, hw⟩ := hw
  have hx11 : ∀ (s13 : zS), K8 s13 → zV X D 12 0 0 (WX a g s13) 86 [] [] := by
    intro s13 hw0
    have hw := hK10 s13 hw0
    exact hE _ _ _ _ _ dX0_clearColumn_86 (Nat.le_refl _) (Nat.le_refl _) hw
  have lp12 : ∀ (n : Nat) (v14 : Int32) (s15 : zS), W_X0_clearColumn_L23 p0 p1 p2 x3 x6 Q K8 n v14 s15 → zV X D 12 0 0 (WX a g s15) 23 [(0, .ref (a 2)), (1, .int p0), (2, .int p1), (3, .long p2), (5, .long x3), (7, .long x6), (9, .int v14)] [] := by
    intro n
    induction n with
    | zero => intro v14 s15 hw; exact False.elim hw
    | succ n ih =>
      intro v14 s15 hw
      refine z_iload C 6 dX0_clearColumn_23 rfl ?_
      refine z_bipush C 6 dX0_clearColumn_25 (by decide) ?_
      refine z_icmp_ge C 86 dX0_clearColumn_27 (by decide) (fun hc => ?_) (fun hc => ?_)
      · have hw := hw.1 hc
        refine z_sub (lv' := []) [] rfl ?_
        exact hx11 _ hw
      · have hw := hw.2 hc
        refine z_lload C 4 dX0_clearColumn_30 rfl ?_
        refine z_aload_n C 0 dX0_clearColumn_32 rfl ?_
        refine zg0_cells C i0 (List.mem_of_getElem? (i := 1) rfl) dX0_clearColumn_33 ?_
        refine z_iload_n C 1 dX0_clearColumn_36 rfl ?_
        obtain ⟨b16, hw⟩ := hw
        refine zr0_cells C b16 dX0_clearColumn_37 ?_
        refine z_iload C 6 dX0_clearColumn_38 rfl ?_
        obtain ⟨b17, hw⟩ := hw
        refine zl0_cells C _ (z_lt b16) b17 dX0_clearColumn_40 ?_
        refine z_lmul C dX0_clearColumn_41 ?_
        refine z_lload C 5 dX0_clearColumn_42 rfl ?_
        refine z_aload_n C 0 dX0_clearColumn_44 rfl ?_
        refine zg0_cells C i0 (List.mem_of_getElem? (i := 1) rfl) dX0_clearColumn_45 ?_
        refine z_iload_n C 2 dX0_clearColumn_48 rfl ?_
        obtain ⟨b18, hw⟩ := hw
        refine zr0_cells C b18 dX0_clearColumn_49 ?_
        refine z_iload C 6 dX0_clearColumn_50 rfl ?_
        obtain ⟨b19, hw⟩ := hw
        refine zl0_cells C _ (z_lt b18) b19 dX0_clearColumn_52 ?_
        refine z_lmul C dX0_clearColumn_53 ?_
        refine z_lsub C dX0_clearColumn_54 ?_
        refine z_topl (fun x20 ex20 => ?_)
        have hw := hw x20 ex20
        refine z_lstore (lv' := [(10, .long x20), (0, .ref (a 2)), (1, .int p0), (2, .int p1), (3, .long p2), (5, .long x3), (7, .long x6), (9, .int v14)]) C dX0_clearColumn_55 (by decide) rfl ?_
        refine z_aload_n C 1 dX0_clearColumn_57 rfl ?_
        refine zg0_cells C i0 (List.mem_of_getElem? (i := 1) rfl) dX0_clearColumn_58 ?_
        refine z_iload_n C 2 dX0_clearColumn_61 rfl ?_
        obtain ⟨b21, hw⟩ := hw
        refine zr0_cells C b21 dX0_clearColumn_62 ?_
        refine z_iload C 7 dX0_clearColumn_63 rfl ?_
        refine z_lload_n C 4 dX0_clearColumn_65 rfl ?_
        refine z_lconst C 0 dX0_clearColumn_66 (by decide) ?_
        refine z_lcmp_ne C 75 dX0_clearColumn_67 dX0_clearColumn_68 (by decide) (fun hc => ?_) (fun hc => ?_)
        · have hw := hw.1 hc
          refine z_lload C 0 dX0_clearColumn_75 rfl ?_
          refine z_lload_n C 4 dX0_clearColumn_77 rfl ?_
          obtain ⟨b22, hw⟩ := hw
          refine z_ldiv C dX0_clearColumn_78 b22 ?_
          obtain ⟨b23, hw⟩ := hw
          refine zs0_cells C _ (z_lt b21) b23 dX0_clearColumn_79 ?_
          refine z_topsWX (fun s24 es24 => ?_)
          have hw := hw s24 es24
          obtain ⟨x25, ex25⟩ : ∃ z : Int32, z = v14 + 1 := ⟨_, rfl⟩
          have hw := hw x25 ex25
          refine z_iinc (lv' := [(9, .int x25), (10, .long x20), (0, .ref (a 2)), (1, .int p0), (2, .int p1), (3, .long p2), (5, .long x3), (7, .long x6)]) C 7 dX0_clearColumn_80 rfl (by rw [ex25]; rfl) (by decide) rfl ?_
          refine z_goto C 23 dX0_clearColumn_83 (by decide) ?_
          refine z_sub (lv' := [(0, .ref (a 2)), (1, .int p0), (2, .int p1), (3, .long p2), (5, .long x3), (7, .long x6), (9, .int x25)]) [2, 3, 4, 5, 6, 7, 0] rfl ?_
          exact ih _ _ hw
        · have hw := hw.2 hc
          refine z_lconst C 0 dX0_clearColumn_71 (by decide) ?_
          refine z_goto C 79 dX0_clearColumn_72 (by decide) ?_
          obtain ⟨b26, hw⟩ := hw
          refine zs0_cells C _ (z_lt b21) b26 dX0_clearColumn_79 ?_
          refine z_topsWX (fun s27 es27 => ?_)
          have hw := hw s27 es27
          obtain ⟨x28, ex28⟩ : ∃ z : Int32, z = v14 + 1 := ⟨_, rfl⟩
          have hw := hw x28 ex28
          refine z_iinc (lv' := [(9, .int x28), (10, .long x20), (0, .ref (a 2)), (1, .int p0), (2, .int p1), (3, .long p2), (5, .long x3), (7, .long x6)]) C 7 dX0_clearColumn_80 rfl (by rw [ex28]; rfl) (by decide) rfl ?_
          refine z_goto C 23 dX0_clearColumn_83 (by decide) ?_
          refine z_sub (lv' := [(0, .ref (a 2)), (1, .int p0), (2, .int p1), (3, .long p2), (5, .long x3), (7, .long x6), (9, .int x28)]) [2, 3, 4, 5, 6, 7, 0] rfl ?_
          exact ih _ _ hw
  exact lp12 n9 _ _ hw
def W_X0_eliminate_L38 (v11 : Int64) (v12 : Int32) (x16 : Int64) (Q : zS → Prop) (K : zS → Prop) : Nat → Int32 → zS → Prop
  | 0, _, _ => False
  | n + 1, v26, s27 =>
    ((gI s27 2) ≤ v26 →
    K s27) ∧ (¬ (gI s27 2) ≤ v26 →
    (v26 = v12 →
    ∀ x28 : Int32, x28 = v26 + 1 →
    W_X0_eliminate_L38 v11 v12 x16 Q K n x28 s27) ∧ (¬ v26 = v12 →
    W_X0_clearColumn s27 v26 v12 v11 (fun s30 =>
    ∀ x32 : Int32, x32 = v26 + 1 →
    W_X0_eliminate_L38 v11 v12 x16 Q K n x32 s30)))
def W_X0_eliminate_L4 (Q : zS → Prop) (K : Int64 → zS → Prop) : Nat → Int64 → Int32 → zS → Prop
  | 0, _, _, _ => False
  | n + 1, v11, v12, s13 =>
    ((gI s13 2) ≤ v12 →
    K v11 s13) ∧ (¬ (gI s13 2) ≤ v12 →
    vp_in v12 5 ∧
    vp_in v12 6 ∧
    ∀ x16 : Int64, x16 = (gL s13 (0 + (ix v12)) (ix v12)) →
    (¬ x16 = 0 →
    ∀ x17 : Int32, x17 = 0 →
    ∃ (K18 : zS → Prop) (n19 : Nat), (∀  (s23 : zS), K18 s23 →
    ∀ x24 : Int64, x24 = x16 →
    ∀ x25 : Int32, x25 = v12 + 1 →
    W_X0_eliminate_L4 Q K n x24 x25 s23) ∧ W_X0_eliminate_L38 v11 v12 x16 Q K18 n19 x17 s13) ∧ (x16 = 0 →
    ∀ s33 : zS, s33 = sJ s13 0 0 →
    Q s33))
def W_X0_eliminate (s : zS) (Q : zS → Prop) : Prop :=
    ∀ x1 : Int64, x1 = 1 →
    ∀ x2 : Int32, x2 = 0 →
    ∃ (K3 : Int64 → zS → Prop) (n4 : Nat), (∀ (v8 : Int64) (s9 : zS), K3 v8 s9 →
    ∀ s10 : zS, s10 = sJ s9 0 v8 →
    Q s10) ∧ W_X0_eliminate_L4 Q K3 n4 x1 x2 s
set_option maxHeartbeats 4000000 in
set_option maxRecDepth 100000 in
theorem c_X0_eliminate (l : Launch) (D : va_G) (a : Nat → Nat) (g : Nat → ClassId) (s : zS) (Q : zS → Prop) (hw : W_X0_eliminate s Q) : zMv l D (zT g) yX0_eliminate wsX0_eliminate ({ frames := 1, cells := 0, slots := 0, locals := 31 } : Room) [.ref (a 2)] (WX a g) s (fun u => Q u) := by
  have i0 : ∀ w ∈ u_ws RX0 TX0 6, w ∈ wsX0_eliminate := fun _ h => (List.mem_cons_of_mem _ (List.mem_append_right _ h))
  refine zMv_start (cc := cX0_eliminate) (maxL := 7) (lv0 := [(0, .ref (a 2))]) (own := RX0) rfl (plainFor_of_name (by decide)) rfl (Nat.le_of_ble_eq_true rfl) rfl (fun X C hR hL hE => ?_)
  refine z_lconst C 1 dX0_eliminate_0 (by decide) ?_
  refine z_topl (fun x1 ex1 => ?_)
  have hw := hw x1 ex1
  refine z_lstore_n (lv' := [(1, .long x1), (0, .ref (a 2))]) C 1 dX0_eliminate_1 rfl (by decide) rfl ?_
  refine z_iconst C 0 dX0_eliminate_2 (by decide) ?_
  refine z_topi (fun x2 ex2 => ?_)
  have hw := hw x2 ex2
  refine z_istore_n (lv' := [(3, .int x2), (1, .long x1), (0, .ref (a 2))]) C 3 dX0_eliminate_3 rfl (by decide) rfl ?_
  refine z_sub (lv' := [(0, .ref (a 2)), (1, .long x1), (3, .int x2)]) [2, 1, 0] rfl ?_
  obtain ⟨K3, n4, hK5, hw⟩ := hw
  have hx6 : ∀ (v8 : Int64) (s9 : zS), K3 v8 s9 → zV X D 7 0 0 (WX a g s9) 76 [(0, .ref (a 2)), (1, .long v8)] [] := by
    intro v8 s9 hw0
    have hw := hK5 v8 s9 hw0
    refine z_aload_n C 0 dX0_eliminate_76 rfl ?_
    refine z_lload_n C 1 dX0_eliminate_77 rfl ?_
    refine zp0_treeWeight C i0 (List.mem_of_getElem? (i := 3) rfl) dX0_eliminate_78 ?_
    refine z_topsWX (fun s10 es10 => ?_)
    have hw := hw s10 es10
    exact hE _ _ _ _ _ dX0_eliminate_81 (Nat.le_refl _) (Nat.le_refl _) hw
  have lp7 : ∀ (n : Nat) (v11 : Int64) (v12 : Int32) (s13 : zS), W_X0_eliminate_L4 Q K3 n v11 v12 s13 → zV X D 7 0 0 (WX a g s13) 4 [(0, .ref (a 2)), (1, .long v11), (3, .int v12)] [] := by
    intro n
    induction n with
    | zero => intro v11 v12 s13 hw; exact False.elim hw
    | succ n ih =>
      intro v11 v12 s13 hw
      refine z_iload_n C 2 dX0_eliminate_4 rfl ?_
      refine z_aload_n C 0 dX0_eliminate_5 rfl ?_
      refine zg0_unknowns C i0 (List.mem_of_getElem? (i := 1) rfl) dX0_eliminate_6 ?_
      refine z_icmp_ge C 76 dX0_eliminate_9 (by decide) (fun hc => ?_) (fun hc => ?_)
      · have hw := hw.1 hc
        refine z_sub (lv' := [(0, .ref (a 2)), (1, .long v11)]) [0, 1] rfl ?_
        exact hx6 _ _ hw
      · have hw := hw.2 hc
        refine z_aload_n C 0 dX0_eliminate_12 rfl ?_
        refine zg0_cells C i0 (List.mem_of_getElem? (i := 2) rfl) dX0_eliminate_13 ?_
        refine z_iload_n C 2 dX0_eliminate_16 rfl ?_
        obtain ⟨b14, hw⟩ := hw
        refine zr0_cells C b14 dX0_eliminate_17 ?_
        refine z_iload_n C 2 dX0_eliminate_18 rfl ?_
        obtain ⟨b15, hw⟩ := hw
        refine zl0_cells C _ (z_lt b14) b15 dX0_eliminate_19 ?_
        refine z_topl (fun x16 ex16 => ?_)
        have hw := hw x16 ex16
        refine z_lstore (lv' := [(4, .long x16), (0, .ref (a 2)), (1, .long v11), (3, .int v12)]) C dX0_eliminate_20 (by decide) rfl ?_
        refine z_lload C 0 dX0_eliminate_22 rfl ?_
        refine z_lconst C 0 dX0_eliminate_24 (by decide) ?_
        refine z_lcmp_ne C 35 dX0_eliminate_25 dX0_eliminate_26 (by decide) (fun hc => ?_) (fun hc => ?_)
        · have hw := hw.1 hc
          refine z_iconst C 0 dX0_eliminate_35 (by decide) ?_
          refine z_topi (fun x17 ex17 => ?_)
          have hw := hw x17 ex17
          refine z_istore (lv' := [(6, .int x17), (4, .long x16), (0, .ref (a 2)), (1, .long v11), (3, .int v12)]) C dX0_eliminate_36 (by decide) rfl ?_
          refine z_sub (lv' := [(0, .ref (a 2)), (1, .long v11), (3, .int v12), (4, .long x16), (6, .int x17)]) [2, 3, 4, 1, 0] rfl ?_
          obtain ⟨K18, n19, hK20, hw⟩ := hw
          have hx21 : ∀ (s23 : zS), K18 s23 → zV X D 7 0 0 (WX a g s23) 67 [(0, .ref (a 2)), (3, .int v12), (4, .long x16)] [] := by
            intro s23 hw0
            have hw := hK20 s23 hw0
            refine z_lload C 2 dX0_eliminate_67 rfl ?_
            refine z_topl (fun x24 ex24 => ?_)
            have hw := hw x24 ex24
            refine z_lstore_n (lv' := [(1, .long x24), (0, .ref (a 2)), (3, .int v12), (4, .long x16)]) C 1 dX0_eliminate_69 rfl (by decide) rfl ?_
            obtain ⟨x25, ex25⟩ : ∃ z : Int32, z = v12 + 1 := ⟨_, rfl⟩
            have hw := hw x25 ex25
            refine z_iinc (lv' := [(3, .int x25), (1, .long x24), (0, .ref (a 2)), (4, .long x16)]) C 2 dX0_eliminate_70 rfl (by rw [ex25]; rfl) (by decide) rfl ?_
            refine z_goto C 4 dX0_eliminate_73 (by decide) ?_
            refine z_sub (lv' := [(0, .ref (a 2)), (1, .long x24), (3, .int x25)]) [2, 1, 0] rfl ?_
            exact ih _ _ _ hw
          have lp22 : ∀ (n : Nat) (v26 : Int32) (s27 : zS), W_X0_eliminate_L38 v11 v12 x16 Q K18 n v26 s27 → zV X D 7 0 0 (WX a g s27) 38 [(0, .ref (a 2)), (1, .long v11), (3, .int v12), (4, .long x16), (6, .int v26)] [] := by
            intro n
            induction n with
            | zero => intro v26 s27 hw; exact False.elim hw
            | succ n ih =>
              intro v26 s27 hw
              refine z_iload C 4 dX0_eliminate_38 rfl ?_
              refine z_aload_n C 0 dX0_eliminate_40 rfl ?_
              refine zg0_unknowns C i0 (List.mem_of_getElem? (i := 1) rfl) dX0_eliminate_41 ?_
              refine z_icmp_ge C 67 dX0_eliminate_44 (by decide) (fun hc => ?_) (fun hc => ?_)
              · have hw := hw.1 hc
                refine z_sub (lv' := [(0, .ref (a 2)), (3, .int v12), (4, .long x16)]) [0, 2, 3] rfl ?_
                exact hx21 _ hw
              · have hw := hw.2 hc
                refine z_iload C 4 dX0_eliminate_47 rfl ?_
                refine z_iload_n C 2 dX0_eliminate_49 rfl ?_
                refine z_icmp_eq C 61 dX0_eliminate_50 (by decide) (fun hc => ?_) (fun hc => ?_)
                · have hw := hw.1 hc
                  obtain ⟨x28, ex28⟩ : ∃ z : Int32, z = v26 + 1 := ⟨_, rfl⟩
                  have hw := hw x28 ex28
                  refine z_iinc (lv' := [(6, .int x28), (0, .ref (a 2)), (1, .long v11), (3, .int v12), (4, .long x16)]) C 4 dX0_eliminate_61 rfl (by rw [ex28]; rfl) (by decide) rfl ?_
                  refine z_goto C 38 dX0_eliminate_64 (by decide) ?_
                  refine z_sub (lv' := [(0, .ref (a 2)), (1, .long v11), (3, .int v12), (4, .long x16), (6, .int x28)]) [1, 2, 3, 4, 0] rfl ?_
                  exact ih _ _ hw
                · have hw := hw.2 hc
                  refine z_aload_n C 0 dX0_eliminate_53 rfl ?_
                  refine z_iload C 4 dX0_eliminate_54 rfl ?_
                  refine z_iload_n C 2 dX0_eliminate_56 rfl ?_
                  refine z_lload_n C 1 dX0_eliminate_57 rfl ?_
                  refine z_call0vV C hR hL (As := [.int v26, .int v12, .long v11]) (c_X0_clearColumn l D a g s27 v26 v12 v11 _ hw) gX0_eliminate_X0_clearColumn rfl ⟨by decide +kernel, by decide +kernel, (show (parseMethodDescriptor yX0_clearColumn.desc).map (fun d => d.parameters.length) = some 3 from by decide +kernel)⟩ ⟨rfl, rfl⟩ ⟨Nat.le_of_ble_eq_true rfl, Nat.le_of_ble_eq_true rfl⟩ ⟨Nat.le_of_ble_eq_true rfl, Nat.le_of_ble_eq_true rfl⟩ 2 0 rfl rfl rfl rfl (Nat.le_of_ble_eq_true rfl) dX0_eliminate_58 (fun s30 h31 => ?_)
                  have hw := h31
                  obtain ⟨x32, ex32⟩ : ∃ z : Int32, z = v26 + 1 := ⟨_, rfl⟩
                  have hw := hw x32 ex32
                  refine z_iinc (lv' := [(6, .int x32), (0, .ref (a 2)), (1, .long v11), (3, .int v12), (4, .long x16)]) C 4 dX0_eliminate_61 rfl (by rw [ex32]; rfl) (by decide) rfl ?_
                  refine z_goto C 38 dX0_eliminate_64 (by decide) ?_
                  refine z_sub (lv' := [(0, .ref (a 2)), (1, .long v11), (3, .int v12), (4, .long x16), (6, .int x32)]) [1, 2, 3, 4, 0] rfl ?_
                  exact ih _ _ hw
          exact lp22 n19 _ _ hw
        · have hw := hw.2 hc
          refine z_aload_n C 1 dX0_eliminate_29 rfl ?_
          refine z_lconst C 0 dX0_eliminate_30 (by decide) ?_
          refine zp0_treeWeight C i0 (List.mem_of_getElem? (i := 3) rfl) dX0_eliminate_31 ?_
          refine z_topsWX (fun s33 es33 => ?_)
          have hw := hw s33 es33
          exact hE _ _ _ _ _ dX0_eliminate_34 (Nat.le_refl _) (Nat.le_refl _) hw
  exact lp7 n4 _ _ _ hw
def W_X0_addToRow (s : zS) (p0 : Int32) (p1 : Int32) (p2 : Int64) (p3 : Int64) (Q : zS → Prop) : Prop :=
    (¬ p0 = (-1) →
    vp_in p0 5 ∧
    vp_in p0 6 ∧
    vp_in p0 6 ∧
    ∀ s4 : zS, s4 = sL s (0 + (ix p0)) (ix p0) ((gL s (0 + (ix p0)) (ix p0)) + p2) →
    vp_in p0 5 ∧
    vp_in 5 6 ∧
    vp_in 5 6 ∧
    ∀ s8 : zS, s8 = sL s4 (0 + (ix p0)) (ix 5) ((gL s4 (0 + (ix p0)) (ix 5)) + p3) →
    (p1 = (-1) →
    Q s8) ∧ (¬ p1 = (-1) →
    vp_in p0 5 ∧
    vp_in p1 6 ∧
    vp_in p1 6 ∧
    ∀ s12 : zS, s12 = sL s8 (0 + (ix p0)) (ix p1) ((gL s8 (0 + (ix p0)) (ix p1)) - p2) →
    Q s12)) ∧ (p0 = (-1) →
    Q s)
set_option maxHeartbeats 4000000 in
set_option maxRecDepth 100000 in
theorem c_X0_addToRow (l : Launch) (D : va_G) (a : Nat → Nat) (g : Nat → ClassId) (s : zS) (p0 : Int32) (p1 : Int32) (p2 : Int64) (p3 : Int64) (Q : zS → Prop) (hw : W_X0_addToRow s p0 p1 p2 p3 Q) : zMv l D (zT g) yX0_addToRow wsX0_addToRow ({ frames := 0, cells := 0, slots := 0, locals := 0 } : Room) [.ref (a 2), .int p0, .int p1, .long p2, .long p3] (WX a g) s (fun u => Q u) := by
  have i0 : ∀ w ∈ u_ws RX0 TX0 6, w ∈ wsX0_addToRow := fun _ h => (List.mem_cons_of_mem _ (List.mem_append_right _ h))
  refine zMv_start (cc := cX0_addToRow) (maxL := 7) (lv0 := [(0, .ref (a 2)), (1, .int p0), (2, .int p1), (3, .long p2), (5, .long p3)]) (own := RX0) rfl (plainFor_of_name (by decide)) rfl (Nat.le_of_ble_eq_true rfl) rfl (fun X C hR hL hE => ?_)
  refine z_iload_n C 1 dX0_addToRow_0 rfl ?_
  refine z_iconst C (-1) dX0_addToRow_1 (by decide) ?_
  refine z_icmp_ne C 6 dX0_addToRow_2 (by decide) (fun hc => ?_) (fun hc => ?_)
  · have hw := hw.1 hc
    refine z_aload_n C 0 dX0_addToRow_6 rfl ?_
    refine zg0_cells C i0 (List.mem_of_getElem? (i := 1) rfl) dX0_addToRow_7 ?_
    refine z_iload_n C 1 dX0_addToRow_10 rfl ?_
    obtain ⟨b1, hw⟩ := hw
    refine zr0_cells C b1 dX0_addToRow_11 ?_
    refine z_iload_n C 1 dX0_addToRow_12 rfl ?_
    refine z_dup2 C dX0_addToRow_13 rfl rfl ?_
    obtain ⟨b2, hw⟩ := hw
    refine zl0_cells C _ (z_lt b1) b2 dX0_addToRow_14 ?_
    refine z_lload_n C 3 dX0_addToRow_15 rfl ?_
    refine z_ladd C dX0_addToRow_16 ?_
    obtain ⟨b3, hw⟩ := hw
    refine zs0_cells C _ (z_lt b1) b3 dX0_addToRow_17 ?_
    refine z_topsWX (fun s4 es4 => ?_)
    have hw := hw s4 es4
    refine z_aload_n C 0 dX0_addToRow_18 rfl ?_
    refine zg0_cells C i0 (List.mem_of_getElem? (i := 1) rfl) dX0_addToRow_19 ?_
    refine z_iload_n C 1 dX0_addToRow_22 rfl ?_
    obtain ⟨b5, hw⟩ := hw
    refine zr0_cells C b5 dX0_addToRow_23 ?_
    refine z_iconst C 5 dX0_addToRow_24 (by decide) ?_
    refine z_dup2 C dX0_addToRow_25 rfl rfl ?_
    obtain ⟨b6, hw⟩ := hw
    refine zl0_cells C _ (z_lt b5) b6 dX0_addToRow_26 ?_
    refine z_lload C 4 dX0_addToRow_27 rfl ?_
    refine z_ladd C dX0_addToRow_29 ?_
    obtain ⟨b7, hw⟩ := hw
    refine zs0_cells C _ (z_lt b5) b7 dX0_addToRow_30 ?_
    refine z_topsWX (fun s8 es8 => ?_)
    have hw := hw s8 es8
    refine z_iload_n C 2 dX0_addToRow_31 rfl ?_
    refine z_iconst C (-1) dX0_addToRow_32 (by decide) ?_
    refine z_icmp_eq C 48 dX0_addToRow_33 (by decide) (fun hc => ?_) (fun hc => ?_)
    · have hw := hw.1 hc
      exact hE _ _ _ _ _ dX0_addToRow_48 (Nat.le_refl _) (Nat.le_refl _) hw
    · have hw := hw.2 hc
      refine z_aload_n C 0 dX0_addToRow_36 rfl ?_
      refine zg0_cells C i0 (List.mem_of_getElem? (i := 1) rfl) dX0_addToRow_37 ?_
      refine z_iload_n C 1 dX0_addToRow_40 rfl ?_
      obtain ⟨b9, hw⟩ := hw
      refine zr0_cells C b9 dX0_addToRow_41 ?_
      refine z_iload_n C 2 dX0_addToRow_42 rfl ?_
      refine z_dup2 C dX0_addToRow_43 rfl rfl ?_
      obtain ⟨b10, hw⟩ := hw
      refine zl0_cells C _ (z_lt b9) b10 dX0_addToRow_44 ?_
      refine z_lload_n C 3 dX0_addToRow_45 rfl ?_
      refine z_lsub C dX0_addToRow_46 ?_
      obtain ⟨b11, hw⟩ := hw
      refine zs0_cells C _ (z_lt b9) b11 dX0_addToRow_47 ?_
      refine z_topsWX (fun s12 es12 => ?_)
      have hw := hw s12 es12
      exact hE _ _ _ _ _ dX0_addToRow_48 (Nat.le_refl _) (Nat.le_refl _) hw
  · have hw := hw.2 hc
    exact hE _ _ _ _ _ dX0_addToRow_5 (Nat.le_refl _) (Nat.le_refl _) hw
def W_X0_addToCells (s : zS) (p0 : Int32) (Q : zS → Prop) : Prop :=
    vp_in p0 14 ∧
    vp_in (gF s 3 (ix p0)) 6 ∧
    ∀ x3 : Int32, x3 = (gF s 8 (ix (gF s 3 (ix p0)))) →
    vp_in p0 14 ∧
    vp_in (gF s 4 (ix p0)) 6 ∧
    ∀ x6 : Int32, x6 = (gF s 8 (ix (gF s 4 (ix p0)))) →
    vp_in p0 14 ∧
    ∀ x8 : Int64, x8 = ((gF s 6 (ix p0))).toInt64 →
    vp_in p0 14 ∧
    ∀ x10 : Int64, x10 = (x8 * ((gF s 5 (ix p0))).toInt64) →
    W_X0_addToRow s x6 x3 x8 x10 (fun s12 =>
    W_X0_addToRow s12 x3 x6 x8 (-x10) (fun s15 =>
    Q s15))
set_option maxHeartbeats 4000000 in
set_option maxRecDepth 100000 in
theorem c_X0_addToCells (l : Launch) (D : va_G) (a : Nat → Nat) (g : Nat → ClassId) (s : zS) (p0 : Int32) (Q : zS → Prop) (hw : W_X0_addToCells s p0 Q) : zMv l D (zT g) yX0_addToCells wsX0_addToCells ({ frames := 1, cells := 0, slots := 0, locals := 26 } : Room) [.ref (a 2), .int p0] (WX a g) s (fun u => Q u) := by
  have i0 : ∀ w ∈ u_ws RX0 TX0 6, w ∈ wsX0_addToCells := fun _ h => (List.mem_cons_of_mem _ (List.mem_append_left _ (List.mem_append_right _ h)))
  have i1 : ∀ w ∈ u_ws RX1 TX1 10, w ∈ wsX0_addToCells := fun _ h => (List.mem_cons_of_mem _ (List.mem_append_right _ h))
  refine zMv_start (cc := cX0_addToCells) (maxL := 8) (lv0 := [(0, .ref (a 2)), (1, .int p0)]) (own := RX0) rfl (plainFor_of_name (by decide)) rfl (Nat.le_of_ble_eq_true rfl) rfl (fun X C hR hL hE => ?_)
  refine z_aload_n C 0 dX0_addToCells_0 rfl ?_
  refine zg0_rowOf C i0 (List.mem_of_getElem? (i := 1) rfl) dX0_addToCells_1 ?_
  refine z_aload_n C 0 dX0_addToCells_4 rfl ?_
  refine zg0_net C i0 (List.mem_of_getElem? (i := 2) rfl) dX0_addToCells_5 ?_
  refine zg1_from C i1 (List.mem_of_getElem? (i := 3) rfl) dX0_addToCells_8 ?_
  refine z_iload_n C 1 dX0_addToCells_11 rfl ?_
  obtain ⟨b1, hw⟩ := hw
  refine zl1_from C b1 dX0_addToCells_12 ?_
  obtain ⟨b2, hw⟩ := hw
  refine zl0_rowOf C b2 dX0_addToCells_13 ?_
  refine z_topi (fun x3 ex3 => ?_)
  have hw := hw x3 ex3
  refine z_istore_n (lv' := [(2, .int x3), (0, .ref (a 2)), (1, .int p0)]) C 2 dX0_addToCells_14 rfl (by decide) rfl ?_
  refine z_aload_n C 1 dX0_addToCells_15 rfl ?_
  refine zg0_rowOf C i0 (List.mem_of_getElem? (i := 1) rfl) dX0_addToCells_16 ?_
  refine z_aload_n C 1 dX0_addToCells_19 rfl ?_
  refine zg0_net C i0 (List.mem_of_getElem? (i := 2) rfl) dX0_addToCells_20 ?_
  refine zg1_to C i1 (List.mem_of_getElem? (i := 4) rfl) dX0_addToCells_23 ?_
  refine z_iload_n C 2 dX0_addToCells_26 rfl ?_
  obtain ⟨b4, hw⟩ := hw
  refine zl1_to C b4 dX0_addToCells_27 ?_
  obtain ⟨b5, hw⟩ := hw
  refine zl0_rowOf C b5 dX0_addToCells_28 ?_
  refine z_topi (fun x6 ex6 => ?_)
  have hw := hw x6 ex6
  refine z_istore_n (lv' := [(3, .int x6), (2, .int x3), (0, .ref (a 2)), (1, .int p0)]) C 3 dX0_addToCells_29 rfl (by decide) rfl ?_
  refine z_aload_n C 2 dX0_addToCells_30 rfl ?_
  refine zg0_net C i0 (List.mem_of_getElem? (i := 2) rfl) dX0_addToCells_31 ?_
  refine zg1_weight C i1 (List.mem_of_getElem? (i := 5) rfl) dX0_addToCells_34 ?_
  refine z_iload_n C 3 dX0_addToCells_37 rfl ?_
  obtain ⟨b7, hw⟩ := hw
  refine zl1_weight C b7 dX0_addToCells_38 ?_
  refine z_i2l C dX0_addToCells_39 ?_
  refine z_topl (fun x8 ex8 => ?_)
  have hw := hw x8 ex8
  refine z_lstore (lv' := [(4, .long x8), (3, .int x6), (2, .int x3), (0, .ref (a 2)), (1, .int p0)]) C dX0_addToCells_40 (by decide) rfl ?_
  refine z_lload C 0 dX0_addToCells_42 rfl ?_
  refine z_aload_n C 3 dX0_addToCells_44 rfl ?_
  refine zg0_net C i0 (List.mem_of_getElem? (i := 2) rfl) dX0_addToCells_45 ?_
  refine zg1_difference C i1 (List.mem_of_getElem? (i := 6) rfl) dX0_addToCells_48 ?_
  refine z_iload_n C 4 dX0_addToCells_51 rfl ?_
  obtain ⟨b9, hw⟩ := hw
  refine zl1_difference C b9 dX0_addToCells_52 ?_
  refine z_i2l C dX0_addToCells_53 ?_
  refine z_lmul C dX0_addToCells_54 ?_
  refine z_topl (fun x10 ex10 => ?_)
  have hw := hw x10 ex10
  refine z_lstore (lv' := [(6, .long x10), (4, .long x8), (3, .int x6), (2, .int x3), (0, .ref (a 2)), (1, .int p0)]) C dX0_addToCells_55 (by decide) rfl ?_
  refine z_aload_n C 4 dX0_addToCells_57 rfl ?_
  refine z_iload_n C 2 dX0_addToCells_58 rfl ?_
  refine z_iload_n C 3 dX0_addToCells_59 rfl ?_
  refine z_lload C 1 dX0_addToCells_60 rfl ?_
  refine z_lload C 0 dX0_addToCells_62 rfl ?_
  refine z_call0vV C hR hL (As := [.int x6, .int x3, .long x8, .long x10]) (c_X0_addToRow l D a g s x6 x3 x8 x10 _ hw) gX0_addToCells_X0_addToRow rfl ⟨by decide +kernel, by decide +kernel, (show (parseMethodDescriptor yX0_addToRow.desc).map (fun d => d.parameters.length) = some 4 from by decide +kernel)⟩ ⟨rfl, rfl⟩ ⟨Nat.le_of_ble_eq_true rfl, Nat.le_of_ble_eq_true rfl⟩ ⟨Nat.le_of_ble_eq_true rfl, Nat.le_of_ble_eq_true rfl⟩ 2 0 rfl rfl rfl rfl (Nat.le_of_ble_eq_true rfl) dX0_addToCells_64 (fun s12 h13 => ?_)
  have hw := h13
  refine z_aload_n C 4 dX0_addToCells_67 rfl ?_
  refine z_iload_n C 3 dX0_addToCells_68 rfl ?_
  refine z_iload_n C 2 dX0_addToCells_69 rfl ?_
  refine z_lload C 1 dX0_addToCells_70 rfl ?_
  refine z_lload C 0 dX0_addToCells_72 rfl ?_
  refine z_lneg C dX0_addToCells_74 ?_
  refine z_call0vV C hR hL (As := [.int x3, .int x6, .long x8, .long (-x10)]) (c_X0_addToRow l D a g s12 x3 x6 x8 (-x10) _ hw) gX0_addToCells_X0_addToRow rfl ⟨by decide +kernel, by decide +kernel, (show (parseMethodDescriptor yX0_addToRow.desc).map (fun d => d.parameters.length) = some 4 from by decide +kernel)⟩ ⟨rfl, rfl⟩ ⟨Nat.le_of_ble_eq_true rfl, Nat.le_of_ble_eq_true rfl⟩ ⟨Nat.le_of_ble_eq_true rfl, Nat.le_of_ble_eq_true rfl⟩ 2 0 rfl rfl rfl rfl (Nat.le_of_ble_eq_true rfl) dX0_addToCells_75 (fun s15 h16 => ?_)
  have hw := h16
  exact hE _ _ _ _ _ dX0_addToCells_78 (Nat.le_refl _) (Nat.le_refl _) hw
def W_X0_clearCells_L9 (v8 : Int32) (Q : zS → Prop) (K : zS → Prop) : Nat → Int32 → zS → Prop
  | 0, _, _ => False
  | n + 1, v18, s19 =>
    (6 ≤ v18 →
    K s19) ∧ (¬ 6 ≤ v18 →
    vp_in v8 5 ∧
    vp_in v18 6 ∧
    ∀ s22 : zS, s22 = sL s19 (0 + (ix v8)) (ix v18) 0 →
    ∀ x23 : Int32, x23 = v18 + 1 →
    W_X0_clearCells_L9 v8 Q K n x23 s22)
def W_X0_clearCells_L2 (Q : zS → Prop) (K : zS → Prop) : Nat → Int32 → zS → Prop
  | 0, _, _ => False
  | n + 1, v8, s9 =>
    (5 ≤ v8 →
    K s9) ∧ (¬ 5 ≤ v8 →
    ∀ x10 : Int32, x10 = 0 →
    ∃ (K11 : zS → Prop) (n12 : Nat), (∀  (s16 : zS), K11 s16 →
    ∀ x17 : Int32, x17 = v8 + 1 →
    W_X0_clearCells_L2 Q K n x17 s16) ∧ W_X0_clearCells_L9 v8 Q K11 n12 x10 s9)
def W_X0_clearCells (s : zS) (Q : zS → Prop) : Prop :=
    ∀ x1 : Int32, x1 = 0 →
    ∃ (K2 : zS → Prop) (n3 : Nat), (∀  (s7 : zS), K2 s7 →
    Q s7) ∧ W_X0_clearCells_L2 Q K2 n3 x1 s
set_option maxHeartbeats 4000000 in
set_option maxRecDepth 100000 in
theorem c_X0_clearCells (l : Launch) (D : va_G) (a : Nat → Nat) (g : Nat → ClassId) (s : zS) (Q : zS → Prop) (hw : W_X0_clearCells s Q) : zMv l D (zT g) yX0_clearCells wsX0_clearCells ({ frames := 0, cells := 0, slots := 0, locals := 0 } : Room) [.ref (a 2)] (WX a g) s (fun u => Q u) := by
  have i0 : ∀ w ∈ u_ws RX0 TX0 6, w ∈ wsX0_clearCells := fun _ h => (List.mem_cons_of_mem _ (List.mem_append_right _ h))
  refine zMv_start (cc := cX0_clearCells) (maxL := 3) (lv0 := [(0, .ref (a 2))]) (own := RX0) rfl (plainFor_of_name (by decide)) rfl (Nat.le_of_ble_eq_true rfl) rfl (fun X C hR hL hE => ?_)
  refine z_iconst C 0 dX0_clearCells_0 (by decide) ?_
  refine z_topi (fun x1 ex1 => ?_)
  have hw := hw x1 ex1
  refine z_istore_n (lv' := [(1, .int x1), (0, .ref (a 2))]) C 1 dX0_clearCells_1 rfl (by decide) rfl ?_
  refine z_sub (lv' := [(0, .ref (a 2)), (1, .int x1)]) [1, 0] rfl ?_
  obtain ⟨K2, n3, hK4, hw⟩ := hw
  have hx5 : ∀ (s7 : zS), K2 s7 → zV X D 3 0 0 (WX a g s7) 36 [] [] := by
    intro s7 hw0
    have hw := hK4 s7 hw0
    exact hE _ _ _ _ _ dX0_clearCells_36 (Nat.le_refl _) (Nat.le_refl _) hw
  have lp6 : ∀ (n : Nat) (v8 : Int32) (s9 : zS), W_X0_clearCells_L2 Q K2 n v8 s9 → zV X D 3 0 0 (WX a g s9) 2 [(0, .ref (a 2)), (1, .int v8)] [] := by
    intro n
    induction n with
    | zero => intro v8 s9 hw; exact False.elim hw
    | succ n ih =>
      intro v8 s9 hw
      refine z_iload_n C 1 dX0_clearCells_2 rfl ?_
      refine z_iconst C 5 dX0_clearCells_3 (by decide) ?_
      refine z_icmp_ge C 36 dX0_clearCells_4 (by decide) (fun hc => ?_) (fun hc => ?_)
      · have hw := hw.1 hc
        refine z_sub (lv' := []) [] rfl ?_
        exact hx5 _ hw
      · have hw := hw.2 hc
        refine z_iconst C 0 dX0_clearCells_7 (by decide) ?_
        refine z_topi (fun x10 ex10 => ?_)
        have hw := hw x10 ex10
        refine z_istore_n (lv' := [(2, .int x10), (0, .ref (a 2)), (1, .int v8)]) C 2 dX0_clearCells_8 rfl (by decide) rfl ?_
        refine z_sub (lv' := [(0, .ref (a 2)), (1, .int v8), (2, .int x10)]) [1, 2, 0] rfl ?_
        obtain ⟨K11, n12, hK13, hw⟩ := hw
        have hx14 : ∀ (s16 : zS), K11 s16 → zV X D 3 0 0 (WX a g s16) 30 [(0, .ref (a 2)), (1, .int v8)] [] := by
          intro s16 hw0
          have hw := hK13 s16 hw0
          obtain ⟨x17, ex17⟩ : ∃ z : Int32, z = v8 + 1 := ⟨_, rfl⟩
          have hw := hw x17 ex17
          refine z_iinc (lv' := [(1, .int x17), (0, .ref (a 2))]) C 1 dX0_clearCells_30 rfl (by rw [ex17]; rfl) (by decide) rfl ?_
          refine z_goto C 2 dX0_clearCells_33 (by decide) ?_
          refine z_sub (lv' := [(0, .ref (a 2)), (1, .int x17)]) [1, 0] rfl ?_
          exact ih _ _ hw
        have lp15 : ∀ (n : Nat) (v18 : Int32) (s19 : zS), W_X0_clearCells_L9 v8 Q K11 n v18 s19 → zV X D 3 0 0 (WX a g s19) 9 [(0, .ref (a 2)), (1, .int v8), (2, .int v18)] [] := by
          intro n
          induction n with
          | zero => intro v18 s19 hw; exact False.elim hw
          | succ n ih =>
            intro v18 s19 hw
            refine z_iload_n C 2 dX0_clearCells_9 rfl ?_
            refine z_bipush C 6 dX0_clearCells_10 (by decide) ?_
            refine z_icmp_ge C 30 dX0_clearCells_12 (by decide) (fun hc => ?_) (fun hc => ?_)
            · have hw := hw.1 hc
              refine z_sub (lv' := [(0, .ref (a 2)), (1, .int v8)]) [0, 1] rfl ?_
              exact hx14 _ hw
            · have hw := hw.2 hc
              refine z_aload_n C 0 dX0_clearCells_15 rfl ?_
              refine zg0_cells C i0 (List.mem_of_getElem? (i := 1) rfl) dX0_clearCells_16 ?_
              refine z_iload_n C 1 dX0_clearCells_19 rfl ?_
              obtain ⟨b20, hw⟩ := hw
              refine zr0_cells C b20 dX0_clearCells_20 ?_
              refine z_iload_n C 2 dX0_clearCells_21 rfl ?_
              refine z_lconst C 0 dX0_clearCells_22 (by decide) ?_
              obtain ⟨b21, hw⟩ := hw
              refine zs0_cells C _ (z_lt b20) b21 dX0_clearCells_23 ?_
              refine z_topsWX (fun s22 es22 => ?_)
              have hw := hw s22 es22
              obtain ⟨x23, ex23⟩ : ∃ z : Int32, z = v18 + 1 := ⟨_, rfl⟩
              have hw := hw x23 ex23
              refine z_iinc (lv' := [(2, .int x23), (0, .ref (a 2)), (1, .int v8)]) C 2 dX0_clearCells_24 rfl (by rw [ex23]; rfl) (by decide) rfl ?_
              refine z_goto C 9 dX0_clearCells_27 (by decide) ?_
              refine z_sub (lv' := [(0, .ref (a 2)), (1, .int v8), (2, .int x23)]) [1, 2, 0] rfl ?_
              exact ih _ _ hw
        exact lp15 n12 _ _ hw
  exact lp6 n3 _ _ hw
def W_X0_numberUnknowns_L7 (Q : zS → Prop) (K : zS → Prop) : Nat → Int32 → zS → Prop
  | 0, _, _ => False
  | n + 1, v9, s10 =>
    ((gI s10 0) ≤ v9 →
    K s10) ∧ (¬ (gI s10 0) ≤ v9 →
    ∃ k11 : Int32 → Prop, (∀ (v14 : Int32), k11 v14 →
    ∀ x15 : Int32, x15 = v14 →
    ∃ k16 : Int32 → Prop, (∀ (v19 : Int32), k16 v19 →
    vp_in v9 6 ∧
    ∀ s21 : zS, s21 = sF s10 8 (ix v9) v19 →
    (x15 = 0 →
    ∀ x22 : Int32, x22 = v9 + 1 →
    W_X0_numberUnknowns_L7 Q K n x22 s21) ∧ (¬ x15 = 0 →
    ∀ s23 : zS, s23 = sI s21 2 ((gI s21 2) + 1) →
    ∀ x24 : Int32, x24 = v9 + 1 →
    W_X0_numberUnknowns_L7 Q K n x24 s23)) ∧ ((x15 = 0 →
    k16 (-1)) ∧ (¬ x15 = 0 →
    k16 (gI s10 2)))) ∧ ((v9 = (gI s10 3) →
    k11 0) ∧ (¬ v9 = (gI s10 3) →
    W_X1_areInOnePart s10 v9 (gI s10 3) (fun r25 =>
    (r25 = 0 →
    k11 0) ∧ (¬ r25 = 0 →
    k11 1)))))
def W_X0_numberUnknowns (s : zS) (Q : zS → Prop) : Prop :=
    ∀ s1 : zS, s1 = sI s 2 0 →
    ∀ x2 : Int32, x2 = 0 →
    ∃ (K3 : zS → Prop) (n4 : Nat), (∀  (s8 : zS), K3 s8 →
    Q s8) ∧ W_X0_numberUnknowns_L7 Q K3 n4 x2 s1
set_option maxHeartbeats 4000000 in
set_option maxRecDepth 100000 in
theorem c_X0_numberUnknowns (l : Launch) (D : va_G) (a : Nat → Nat) (g : Nat → ClassId) (s : zS) (Q : zS → Prop) (hw : W_X0_numberUnknowns s Q) : zMv l D (zT g) yX0_numberUnknowns wsX0_numberUnknowns ({ frames := 1, cells := 0, slots := 0, locals := 22 } : Room) [.ref (a 2)] (WX a g) s (fun u => Q u) := by
  have i0 : ∀ w ∈ u_ws RX0 TX0 6, w ∈ wsX0_numberUnknowns := fun _ h => (List.mem_cons_of_mem _ (List.mem_append_left _ (List.mem_append_right _ h)))
  have i1 : ∀ w ∈ u_ws RX1 TX1 10, w ∈ wsX0_numberUnknowns := fun _ h => (List.mem_cons_of_mem _ (List.mem_append_right _ h))
  refine zMv_start (cc := cX0_numberUnknowns) (maxL := 3) (lv0 := [(0, .ref (a 2))]) (own := RX0) rfl (plainFor_of_name (by decide)) rfl (Nat.le_of_ble_eq_true rfl) rfl (fun X C hR hL hE => ?_)
  refine z_aload_n C 0 dX0_numberUnknowns_0 rfl ?_
  refine z_iconst C 0 dX0_numberUnknowns_1 (by decide) ?_
  refine zp0_unknowns C i0 (List.mem_of_getElem? (i := 1) rfl) dX0_numberUnknowns_2 ?_
  refine z_topsWX (fun s1 es1 => ?_)
  have hw := hw s1 es1
  refine z_iconst C 0 dX0_numberUnknowns_5 (by decide) ?_
  refine z_topi (fun x2 ex2 => ?_)
  have hw := hw x2 ex2
  refine z_istore_n (lv' := [(1, .int x2), (0, .ref (a 2))]) C 1 dX0_numberUnknowns_6 rfl (by decide) rfl ?_
  refine z_sub (lv' := [(0, .ref (a 2)), (1, .int x2)]) [1, 0] rfl ?_
  obtain ⟨K3, n4, hK5, hw⟩ := hw
  have hx6 : ∀ (s8 : zS), K3 s8 → zV X D 3 0 0 (WX a g s8) 85 [] [] := by
    intro s8 hw0
    have hw := hK5 s8 hw0
    exact hE _ _ _ _ _ dX0_numberUnknowns_85 (Nat.le_refl _) (Nat.le_refl _) hw
  have lp7 : ∀ (n : Nat) (v9 : Int32) (s10 : zS), W_X0_numberUnknowns_L7 Q K3 n v9 s10 → zV X D 3 0 0 (WX a g s10) 7 [(0, .ref (a 2)), (1, .int v9)] [] := by
    intro n
    induction n with
    | zero => intro v9 s10 hw; exact False.elim hw
    | succ n ih =>
      intro v9 s10 hw
      refine z_iload_n C 1 dX0_numberUnknowns_7 rfl ?_
      refine z_aload_n C 0 dX0_numberUnknowns_8 rfl ?_
      refine zg0_net C i0 (List.mem_of_getElem? (i := 2) rfl) dX0_numberUnknowns_9 ?_
      refine zg1_stations C i1 (List.mem_of_getElem? (i := 3) rfl) dX0_numberUnknowns_12 ?_
      refine z_icmp_ge C 85 dX0_numberUnknowns_15 (by decide) (fun hc => ?_) (fun hc => ?_)
      · have hw := hw.1 hc
        refine z_sub (lv' := []) [] rfl ?_
        exact hx6 _ hw
      · have hw := hw.2 hc
        refine z_iload_n C 1 dX0_numberUnknowns_18 rfl ?_
        refine z_aload_n C 0 dX0_numberUnknowns_19 rfl ?_
        refine zg0_datum C i0 (List.mem_of_getElem? (i := 4) rfl) dX0_numberUnknowns_20 ?_
        obtain ⟨k11, hk12, hw⟩ := hw
        have hj13 : ∀ (v14 : Int32), k11 v14 → zV X D 3 0 0 (WX a g s10) 46 [(0, .ref (a 2)), (1, .int v9)] [.int v14] := by
          intro v14 hw0
          have hw := hk12 v14 hw0
          refine z_topi (fun x15 ex15 => ?_)
          have hw := hw x15 ex15
          refine z_istore_n (lv' := [(2, .int x15), (0, .ref (a 2)), (1, .int v9)]) C 2 dX0_numberUnknowns_46 rfl (by decide) rfl ?_
          refine z_aload_n C 1 dX0_numberUnknowns_47 rfl ?_
          refine zg0_rowOf C i0 (List.mem_of_getElem? (i := 5) rfl) dX0_numberUnknowns_48 ?_
          refine z_iload_n C 2 dX0_numberUnknowns_51 rfl ?_
          refine z_iload_n C 0 dX0_numberUnknowns_52 rfl ?_
          obtain ⟨k16, hk17, hw⟩ := hw
          have hj18 : ∀ (v19 : Int32), k16 v19 → zV X D 3 0 0 (WX a g s10) 64 [(0, .ref (a 2)), (1, .int v9), (2, .int x15)] [.int v19, .int v9, .ref (a 13)] := by
            intro v19 hw0
            have hw := hk17 v19 hw0
            obtain ⟨b20, hw⟩ := hw
            refine zs0_rowOf C b20 dX0_numberUnknowns_64 ?_
            refine z_topsWX (fun s21 es21 => ?_)
            have hw := hw s21 es21
            refine z_iload_n C 2 dX0_numberUnknowns_65 rfl ?_
            refine z_if_eq C 79 dX0_numberUnknowns_66 (by decide) (fun hc => ?_) (fun hc => ?_)
            · have hw := hw.1 hc
              obtain ⟨x22, ex22⟩ : ∃ z : Int32, z = v9 + 1 := ⟨_, rfl⟩
              have hw := hw x22 ex22
              refine z_iinc (lv' := [(1, .int x22), (0, .ref (a 2)), (2, .int x15)]) C 1 dX0_numberUnknowns_79 rfl (by rw [ex22]; rfl) (by decide) rfl ?_
              refine z_goto C 7 dX0_numberUnknowns_82 (by decide) ?_
              refine z_sub (lv' := [(0, .ref (a 2)), (1, .int x22)]) [1, 0] rfl ?_
              exact ih _ _ hw
            · have hw := hw.2 hc
              refine z_aload_n C 0 dX0_numberUnknowns_69 rfl ?_
              refine z_dup C dX0_numberUnknowns_70 rfl ?_
              refine zg0_unknowns C i0 (List.mem_of_getElem? (i := 1) rfl) dX0_numberUnknowns_71 ?_
              refine z_iconst C 1 dX0_numberUnknowns_74 (by decide) ?_
              refine z_iadd C dX0_numberUnknowns_75 ?_
              refine zp0_unknowns C i0 (List.mem_of_getElem? (i := 1) rfl) dX0_numberUnknowns_76 ?_
              refine z_topsWX (fun s23 es23 => ?_)
              have hw := hw s23 es23
              obtain ⟨x24, ex24⟩ : ∃ z : Int32, z = v9 + 1 := ⟨_, rfl⟩
              have hw := hw x24 ex24
              refine z_iinc (lv' := [(1, .int x24), (0, .ref (a 2)), (2, .int x15)]) C 1 dX0_numberUnknowns_79 rfl (by rw [ex24]; rfl) (by decide) rfl ?_
              refine z_goto C 7 dX0_numberUnknowns_82 (by decide) ?_
              refine z_sub (lv' := [(0, .ref (a 2)), (1, .int x24)]) [1, 0] rfl ?_
              exact ih _ _ hw
          refine z_if_eq C 63 dX0_numberUnknowns_53 (by decide) (fun hc => ?_) (fun hc => ?_)
          · have hw := hw.1 hc
            refine z_iconst C (-1) dX0_numberUnknowns_63 (by decide) ?_
            refine z_sub (lv' := [(0, .ref (a 2)), (1, .int v9), (2, .int x15)]) [1, 2, 0] rfl ?_
            exact hj18 _ hw
          · have hw := hw.2 hc
            refine z_aload_n C 1 dX0_numberUnknowns_56 rfl ?_
            refine zg0_unknowns C i0 (List.mem_of_getElem? (i := 1) rfl) dX0_numberUnknowns_57 ?_
            refine z_goto C 64 dX0_numberUnknowns_60 (by decide) ?_
            refine z_sub (lv' := [(0, .ref (a 2)), (1, .int v9), (2, .int x15)]) [1, 2, 0] rfl ?_
            exact hj18 _ hw
        refine z_icmp_eq C 45 dX0_numberUnknowns_23 (by decide) (fun hc => ?_) (fun hc => ?_)
        · have hw := hw.1 hc
          refine z_iconst C 0 dX0_numberUnknowns_45 (by decide) ?_
          exact hj13 _ hw
        · have hw := hw.2 hc
          refine z_aload_n C 0 dX0_numberUnknowns_26 rfl ?_
          refine zg0_net C i0 (List.mem_of_getElem? (i := 2) rfl) dX0_numberUnknowns_27 ?_
          refine z_iload_n C 1 dX0_numberUnknowns_30 rfl ?_
          refine z_aload_n C 0 dX0_numberUnknowns_31 rfl ?_
          refine zg0_datum C i0 (List.mem_of_getElem? (i := 4) rfl) dX0_numberUnknowns_32 ?_
          refine z_call0iV C hR hL (As := [.int v9, .int (gI s10 3)]) (c_X1_areInOnePart l D a g s10 v9 (gI s10 3) _ hw) gX0_numberUnknowns_X1_areInOnePart rfl ⟨by decide +kernel, by decide +kernel, (show (parseMethodDescriptor yX1_areInOnePart.desc).map (fun d => d.parameters.length) = some 2 from by decide +kernel)⟩ ⟨rfl, rfl⟩ ⟨Nat.le_of_ble_eq_true rfl, Nat.le_of_ble_eq_true rfl⟩ ⟨Nat.le_of_ble_eq_true rfl, Nat.le_of_ble_eq_true rfl⟩ 1 1 rfl rfl rfl rfl (Nat.le_of_ble_eq_true rfl) dX0_numberUnknowns_35 (fun r25 s26 h27 => ?_)
          obtain ⟨es26, hw⟩ := h27
          subst es26
          refine z_if_eq C 45 dX0_numberUnknowns_38 (by decide) (fun hc => ?_) (fun hc => ?_)
          · have hw := hw.1 hc
            refine z_iconst C 0 dX0_numberUnknowns_45 (by decide) ?_
            exact hj13 _ hw
          · have hw := hw.2 hc
            refine z_iconst C 1 dX0_numberUnknowns_41 (by decide) ?_
            refine z_goto C 46 dX0_numberUnknowns_42 (by decide) ?_
            exact hj13 _ hw
  exact lp7 n4 _ _ hw
def W_X0_solve_L22 (p1 : Int32) (Q : zS → Prop) (K : zS → Prop) : Nat → Int32 → zS → Prop
  | 0, _, _ => False
  | n + 1, v21, s22 =>
    ((gI s22 1) ≤ v21 →
    K s22) ∧ (¬ (gI s22 1) ≤ v21 →
    (v21 = p1 →
    ∀ x23 : Int32, x23 = v21 + 1 →
    W_X0_solve_L22 p1 Q K n x23 s22) ∧ (¬ v21 = p1 →
    W_X1_isInPartOf s22 v21 (gI s22 3) (fun r24 =>
    (r24 = 0 →
    ∀ x27 : Int32, x27 = v21 + 1 →
    W_X0_solve_L22 p1 Q K n x27 s22) ∧ (¬ r24 = 0 →
    W_X0_addToCells s22 v21 (fun s29 =>
    ∀ x31 : Int32, x31 = v21 + 1 →
    W_X0_solve_L22 p1 Q K n x31 s29)))))
def W_X0_solve (s : zS) (p0 : Int32) (p1 : Int32) (Q : zS → Prop) : Prop :=
    W_X1_datumOf s p0 (fun r1 =>
    ∀ s4 : zS, s4 = sI s 3 r1 →
    W_X0_numberUnknowns s4 (fun s6 =>
    W_X0_clearCells s6 (fun s9 =>
    ∀ x11 : Int32, x11 = 0 →
    ∃ (K12 : zS → Prop) (n13 : Nat), (∀ (s17 : zS), K12 s17 →
    W_X0_eliminate s17 (fun s19 =>
    Q s19)) ∧ W_X0_solve_L22 p1 Q K12 n13 x11 s9)))
set_option maxHeartbeats 4000000 in
set_option maxRecDepth 100000 in
theorem c_X0_solve (l : Launch) (D : va_G) (a : Nat → Nat) (g : Nat → ClassId) (s : zS) (p0 : Int32) (p1 : Int32) (Q : zS → Prop) (hw : W_X0_solve s p0 p1 Q) : zMv l D (zT g) yX0_solve wsX0_solve ({ frames := 2, cells := 0, slots := 0, locals := 57 } : Room) [.ref (a 2), .int p0, .int p1] (WX a g) s (fun u => Q u) := by
  have i0 : ∀ w ∈ u_ws RX0 TX0 6, w ∈ wsX0_solve := fun _ h => (List.mem_cons_of_mem _ (List.mem_append_left _ (List.mem_append_right _ h)))
  have i1 : ∀ w ∈ u_ws RX1 TX1 10, w ∈ wsX0_solve := fun _ h => (List.mem_cons_of_mem _ (List.mem_append_right _ h))
  refine zMv_start (cc := cX0_solve) (maxL := 4) (lv0 := [(0, .ref (a 2)), (1, .int p0), (2, .int p1)]) (own := RX0) rfl (plainFor_of_name (by decide)) rfl (Nat.le_of_ble_eq_true rfl) rfl (fun X C hR hL hE => ?_)
  refine z_aload_n C 0 dX0_solve_0 rfl ?_
  refine z_aload_n C 0 dX0_solve_1 rfl ?_
  refine zg0_net C i0 (List.mem_of_getElem? (i := 1) rfl) dX0_solve_2 ?_
  refine z_iload_n C 1 dX0_solve_5 rfl ?_
  refine z_call0iV C hR hL (As := [.int p0]) (c_X1_datumOf l D a g s p0 _ hw) gX0_solve_X1_datumOf rfl ⟨by decide +kernel, by decide +kernel, (show (parseMethodDescriptor yX1_datumOf.desc).map (fun d => d.parameters.length) = some 1 from by decide +kernel)⟩ ⟨rfl, rfl⟩ ⟨Nat.le_of_ble_eq_true rfl, Nat.le_of_ble_eq_true rfl⟩ ⟨Nat.le_of_ble_eq_true rfl, Nat.le_of_ble_eq_true rfl⟩ 1 1 rfl rfl rfl rfl (Nat.le_of_ble_eq_true rfl) dX0_solve_6 (fun r1 s2 h3 => ?_)
  obtain ⟨es2, hw⟩ := h3
  subst es2
  refine zp0_datum C i0 (List.mem_of_getElem? (i := 2) rfl) dX0_solve_9 ?_
  refine z_topsWX (fun s4 es4 => ?_)
  have hw := hw s4 es4
  refine z_aload_n C 0 dX0_solve_12 rfl ?_
  refine z_call0vV C hR hL (As := []) (c_X0_numberUnknowns l D a g s4 _ hw) gX0_solve_X0_numberUnknowns rfl ⟨by decide +kernel, by decide +kernel, (show (parseMethodDescriptor yX0_numberUnknowns.desc).map (fun d => d.parameters.length) = some 0 from by decide +kernel)⟩ ⟨rfl, rfl⟩ ⟨Nat.le_of_ble_eq_true rfl, Nat.le_of_ble_eq_true rfl⟩ ⟨Nat.le_of_ble_eq_true rfl, Nat.le_of_ble_eq_true rfl⟩ 2 0 rfl rfl rfl rfl (Nat.le_of_ble_eq_true rfl) dX0_solve_13 (fun s6 h7 => ?_)
  have hw := h7
  refine z_aload_n C 0 dX0_solve_16 rfl ?_
  refine z_call0vV C hR hL (As := []) (c_X0_clearCells l D a g s6 _ hw) gX0_solve_X0_clearCells rfl ⟨by decide +kernel, by decide +kernel, (show (parseMethodDescriptor yX0_clearCells.desc).map (fun d => d.parameters.length) = some 0 from by decide +kernel)⟩ ⟨rfl, rfl⟩ ⟨Nat.le_of_ble_eq_true rfl, Nat.le_of_ble_eq_true rfl⟩ ⟨Nat.le_of_ble_eq_true rfl, Nat.le_of_ble_eq_true rfl⟩ 2 0 rfl rfl rfl rfl (Nat.le_of_ble_eq_true rfl) dX0_solve_17 (fun s9 h10 => ?_)
  have hw := h10
  refine z_iconst C 0 dX0_solve_20 (by decide) ?_
  refine z_topi (fun x11 ex11 => ?_)
  have hw := hw x11 ex11
  refine z_istore_n (lv' := [(3, .int x11), (0, .ref (a 2)), (1, .int p0), (2, .int p1)]) C 3 dX0_solve_21 rfl (by decide) rfl ?_
  refine z_sub (lv' := [(0, .ref (a 2)), (2, .int p1), (3, .int x11)]) [1, 3, 0] rfl ?_
  obtain ⟨K12, n13, hK14, hw⟩ := hw
  have hx15 : ∀ (s17 : zS), K12 s17 → zV X D 4 0 0 (WX a g s17) 64 [(0, .ref (a 2))] [] := by
    intro s17 hw0
    have hw := hK14 s17 hw0
    refine z_aload_n C 0 dX0_solve_64 rfl ?_
    refine z_call0vV C hR hL (As := []) (c_X0_eliminate l D a g s17 _ hw) gX0_solve_X0_eliminate rfl ⟨by decide +kernel, by decide +kernel, (show (parseMethodDescriptor yX0_eliminate.desc).map (fun d => d.parameters.length) = some 0 from by decide +kernel)⟩ ⟨rfl, rfl⟩ ⟨Nat.le_of_ble_eq_true rfl, Nat.le_of_ble_eq_true rfl⟩ ⟨Nat.le_of_ble_eq_true rfl, Nat.le_of_ble_eq_true rfl⟩ 2 0 rfl rfl rfl rfl (Nat.le_of_ble_eq_true rfl) dX0_solve_65 (fun s19 h20 => ?_)
    have hw := h20
    exact hE _ _ _ _ _ dX0_solve_68 (Nat.le_refl _) (Nat.le_refl _) hw
  have lp16 : ∀ (n : Nat) (v21 : Int32) (s22 : zS), W_X0_solve_L22 p1 Q K12 n v21 s22 → zV X D 4 0 0 (WX a g s22) 22 [(0, .ref (a 2)), (2, .int p1), (3, .int v21)] [] := by
    intro n
    induction n with
    | zero => intro v21 s22 hw; exact False.elim hw
    | succ n ih =>
      intro v21 s22 hw
      refine z_iload_n C 2 dX0_solve_22 rfl ?_
      refine z_aload_n C 0 dX0_solve_23 rfl ?_
      refine zg0_net C i0 (List.mem_of_getElem? (i := 1) rfl) dX0_solve_24 ?_
      refine zg1_observations C i1 (List.mem_of_getElem? (i := 3) rfl) dX0_solve_27 ?_
      refine z_icmp_ge C 64 dX0_solve_30 (by decide) (fun hc => ?_) (fun hc => ?_)
      · have hw := hw.1 hc
        refine z_sub (lv' := [(0, .ref (a 2))]) [0] rfl ?_
        exact hx15 _ hw
      · have hw := hw.2 hc
        refine z_iload_n C 2 dX0_solve_33 rfl ?_
        refine z_iload_n C 1 dX0_solve_34 rfl ?_
        refine z_icmp_eq C 58 dX0_solve_35 (by decide) (fun hc => ?_) (fun hc => ?_)
        · have hw := hw.1 hc
          obtain ⟨x23, ex23⟩ : ∃ z : Int32, z = v21 + 1 := ⟨_, rfl⟩
          have hw := hw x23 ex23
          refine z_iinc (lv' := [(3, .int x23), (0, .ref (a 2)), (2, .int p1)]) C 2 dX0_solve_58 rfl (by rw [ex23]; rfl) (by decide) rfl ?_
          refine z_goto C 22 dX0_solve_61 (by decide) ?_
          refine z_sub (lv' := [(0, .ref (a 2)), (2, .int p1), (3, .int x23)]) [1, 2, 0] rfl ?_
          exact ih _ _ hw
        · have hw := hw.2 hc
          refine z_aload_n C 0 dX0_solve_38 rfl ?_
          refine zg0_net C i0 (List.mem_of_getElem? (i := 1) rfl) dX0_solve_39 ?_
          refine z_iload_n C 2 dX0_solve_42 rfl ?_
          refine z_aload_n C 0 dX0_solve_43 rfl ?_
          refine zg0_datum C i0 (List.mem_of_getElem? (i := 2) rfl) dX0_solve_44 ?_
          refine z_call0iV C hR hL (As := [.int v21, .int (gI s22 3)]) (c_X1_isInPartOf l D a g s22 v21 (gI s22 3) _ hw) gX0_solve_X1_isInPartOf rfl ⟨by decide +kernel, by decide +kernel, (show (parseMethodDescriptor yX1_isInPartOf.desc).map (fun d => d.parameters.length) = some 2 from by decide +kernel)⟩ ⟨rfl, rfl⟩ ⟨Nat.le_of_ble_eq_true rfl, Nat.le_of_ble_eq_true rfl⟩ ⟨Nat.le_of_ble_eq_true rfl, Nat.le_of_ble_eq_true rfl⟩ 1 1 rfl rfl rfl rfl (Nat.le_of_ble_eq_true rfl) dX0_solve_47 (fun r24 s25 h26 => ?_)
          obtain ⟨es25, hw⟩ := h26
          subst es25
          refine z_if_eq C 58 dX0_solve_50 (by decide) (fun hc => ?_) (fun hc => ?_)
          · have hw := hw.1 hc
            obtain ⟨x27, ex27⟩ : ∃ z : Int32, z = v21 + 1 := ⟨_, rfl⟩
            have hw := hw x27 ex27
            refine z_iinc (lv' := [(3, .int x27), (0, .ref (a 2)), (2, .int p1)]) C 2 dX0_solve_58 rfl (by rw [ex27]; rfl) (by decide) rfl ?_
            refine z_goto C 22 dX0_solve_61 (by decide) ?_
            refine z_sub (lv' := [(0, .ref (a 2)), (2, .int p1), (3, .int x27)]) [1, 2, 0] rfl ?_
            exact ih _ _ hw
          · have hw := hw.2 hc
            refine z_aload_n C 0 dX0_solve_53 rfl ?_
            refine z_iload_n C 2 dX0_solve_54 rfl ?_
            refine z_call0vV C hR hL (As := [.int v21]) (c_X0_addToCells l D a g s22 v21 _ hw) gX0_solve_X0_addToCells rfl ⟨by decide +kernel, by decide +kernel, (show (parseMethodDescriptor yX0_addToCells.desc).map (fun d => d.parameters.length) = some 1 from by decide +kernel)⟩ ⟨rfl, rfl⟩ ⟨Nat.le_of_ble_eq_true rfl, Nat.le_of_ble_eq_true rfl⟩ ⟨Nat.le_of_ble_eq_true rfl, Nat.le_of_ble_eq_true rfl⟩ 2 0 rfl rfl rfl rfl (Nat.le_of_ble_eq_true rfl) dX0_solve_55 (fun s29 h30 => ?_)
            have hw := h30
            obtain ⟨x31, ex31⟩ : ∃ z : Int32, z = v21 + 1 := ⟨_, rfl⟩
            have hw := hw x31 ex31
            refine z_iinc (lv' := [(3, .int x31), (0, .ref (a 2)), (2, .int p1)]) C 2 dX0_solve_58 rfl (by rw [ex31]; rfl) (by decide) rfl ?_
            refine z_goto C 22 dX0_solve_61 (by decide) ?_
            refine z_sub (lv' := [(0, .ref (a 2)), (2, .int p1), (3, .int x31)]) [1, 2, 0] rfl ?_
            exact ih _ _ hw
  exact lp16 n13 _ _ hw
def W_X0_treeWeightOf (s : zS) (p0 : Int32) (Q : Int64 → zS → Prop) : Prop :=
    W_X0_solve s p0 (-1) (fun s2 =>
    Q (gJ s2 0) s2)
set_option maxHeartbeats 4000000 in
set_option maxRecDepth 100000 in
theorem c_X0_treeWeightOf (l : Launch) (D : va_G) (a : Nat → Nat) (g : Nat → ClassId) (s : zS) (p0 : Int32) (Q : Int64 → zS → Prop) (hw : W_X0_treeWeightOf s p0 Q) : zMl l D (zT g) yX0_treeWeightOf wsX0_treeWeightOf ({ frames := 3, cells := 0, slots := 0, locals := 80 } : Room) [.ref (a 2), .int p0] (WX a g) s (fun r u => Q r u) := by
  have i0 : ∀ w ∈ u_ws RX0 TX0 6, w ∈ wsX0_treeWeightOf := fun _ h => (List.mem_cons_of_mem _ (List.mem_append_left _ (List.mem_append_right _ h)))
  refine zMl_start (cc := cX0_treeWeightOf) (maxL := 2) (lv0 := [(0, .ref (a 2)), (1, .int p0)]) (own := RX0) rfl (plainFor_of_name (by decide)) rfl (Nat.le_of_ble_eq_true rfl) rfl (fun X C hR hL hE => ?_)
  refine z_aload_n C 0 dX0_treeWeightOf_0 rfl ?_
  refine z_iload_n C 1 dX0_treeWeightOf_1 rfl ?_
  refine z_iconst C (-1) dX0_treeWeightOf_2 (by decide) ?_
  refine z_call0vV C hR hL (As := [.int p0, .int (-1)]) (c_X0_solve l D a g s p0 (-1) _ hw) gX0_treeWeightOf_X0_solve rfl ⟨by decide +kernel, by decide +kernel, (show (parseMethodDescriptor yX0_solve.desc).map (fun d => d.parameters.length) = some 2 from by decide +kernel)⟩ ⟨rfl, rfl⟩ ⟨Nat.le_of_ble_eq_true rfl, Nat.le_of_ble_eq_true rfl⟩ ⟨Nat.le_of_ble_eq_true rfl, Nat.le_of_ble_eq_true rfl⟩ 2 0 rfl rfl rfl rfl (Nat.le_of_ble_eq_true rfl) dX0_treeWeightOf_3 (fun s2 h3 => ?_)
  have hw := h3
  refine z_aload_n C 0 dX0_treeWeightOf_6 rfl ?_
  refine zg0_treeWeight C i0 (List.mem_of_getElem? (i := 1) rfl) dX0_treeWeightOf_7 ?_
  exact hE _ _ _ _ _ _ dX0_treeWeightOf_10 (Nat.le_refl _) (Nat.le_refl _) hw
def W_X0_heightOf (s : zS) (p0 : Int32) (Q : Int64 → zS → Prop) : Prop :=
    W_X0_solve s p0 (-1) (fun s2 =>
    W_X0_riseOf s2 p0 (fun r4 =>
    vp_in (gI s2 3) 6 ∧
    ∀ x8 : Int64, x8 = (r4 + (((gF s2 1 (ix (gI s2 3)))).toInt64 * (gJ s2 0))) →
    W_X4_roundedDown s2 (100 * x8) (gJ s2 0) (fun r9 =>
    Q r9 s2)))
set_option maxHeartbeats 4000000 in
set_option maxRecDepth 100000 in
theorem c_X0_heightOf (l : Launch) (D : va_G) (a : Nat → Nat) (g : Nat → ClassId) (s : zS) (p0 : Int32) (Q : Int64 → zS → Prop) (hw : W_X0_heightOf s p0 Q) : zMl l D (zT g) yX0_heightOf wsX0_heightOf ({ frames := 3, cells := 0, slots := 0, locals := 80 } : Room) [.ref (a 2), .int p0] (WX a g) s (fun r u => Q r u) := by
  have i0 : ∀ w ∈ u_ws RX0 TX0 6, w ∈ wsX0_heightOf := fun _ h => (List.mem_cons_of_mem _ (List.mem_append_left _ (List.mem_append_right _ h)))
  have i1 : ∀ w ∈ u_ws RX1 TX1 10, w ∈ wsX0_heightOf := fun _ h => (List.mem_cons_of_mem _ (List.mem_append_right _ h))
  refine zMl_start (cc := cX0_heightOf) (maxL := 4) (lv0 := [(0, .ref (a 2)), (1, .int p0)]) (own := RX0) rfl (plainFor_of_name (by decide)) rfl (Nat.le_of_ble_eq_true rfl) rfl (fun X C hR hL hE => ?_)
  refine z_aload_n C 0 dX0_heightOf_0 rfl ?_
  refine z_iload_n C 1 dX0_heightOf_1 rfl ?_
  refine z_iconst C (-1) dX0_heightOf_2 (by decide) ?_
  refine z_call0vV C hR hL (As := [.int p0, .int (-1)]) (c_X0_solve l D a g s p0 (-1) _ hw) gX0_heightOf_X0_solve rfl ⟨by decide +kernel, by decide +kernel, (show (parseMethodDescriptor yX0_solve.desc).map (fun d => d.parameters.length) = some 2 from by decide +kernel)⟩ ⟨rfl, rfl⟩ ⟨Nat.le_of_ble_eq_true rfl, Nat.le_of_ble_eq_true rfl⟩ ⟨Nat.le_of_ble_eq_true rfl, Nat.le_of_ble_eq_true rfl⟩ 2 0 rfl rfl rfl rfl (Nat.le_of_ble_eq_true rfl) dX0_heightOf_3 (fun s2 h3 => ?_)
  have hw := h3
  refine z_aload_n C 0 dX0_heightOf_6 rfl ?_
  refine z_iload_n C 1 dX0_heightOf_7 rfl ?_
  refine z_call0lV C hR hL (As := [.int p0]) (c_X0_riseOf l D a g s2 p0 _ hw) gX0_heightOf_X0_riseOf rfl ⟨by decide +kernel, by decide +kernel, (show (parseMethodDescriptor yX0_riseOf.desc).map (fun d => d.parameters.length) = some 1 from by decide +kernel)⟩ ⟨rfl, rfl⟩ ⟨Nat.le_of_ble_eq_true rfl, Nat.le_of_ble_eq_true rfl⟩ ⟨Nat.le_of_ble_eq_true rfl, Nat.le_of_ble_eq_true rfl⟩ 2 0 rfl rfl rfl rfl (Nat.le_of_ble_eq_true rfl) dX0_heightOf_8 (fun r4 s5 h6 => ?_)
  obtain ⟨es5, hw⟩ := h6
  subst es5
  refine z_aload_n C 0 dX0_heightOf_11 rfl ?_
  refine zg0_net C i0 (List.mem_of_getElem? (i := 1) rfl) dX0_heightOf_12 ?_
  refine zg1_toldHeight C i1 (List.mem_of_getElem? (i := 2) rfl) dX0_heightOf_15 ?_
  refine z_aload_n C 0 dX0_heightOf_18 rfl ?_
  refine zg0_datum C i0 (List.mem_of_getElem? (i := 3) rfl) dX0_heightOf_19 ?_
  obtain ⟨b7, hw⟩ := hw
  refine zl1_toldHeight C b7 dX0_heightOf_22 ?_
  refine z_i2l C dX0_heightOf_23 ?_
  refine z_aload_n C 0 dX0_heightOf_24 rfl ?_
  refine zg0_treeWeight C i0 (List.mem_of_getElem? (i := 4) rfl) dX0_heightOf_25 ?_
  refine z_lmul C dX0_heightOf_28 ?_
  refine z_ladd C dX0_heightOf_29 ?_
  refine z_topl (fun x8 ex8 => ?_)
  have hw := hw x8 ex8
  refine z_lstore_n (lv' := [(2, .long x8), (0, .ref (a 2)), (1, .int p0)]) C 2 dX0_heightOf_30 rfl (by decide) rfl ?_
  refine z_ldc2 C 100 (List.mem_of_getElem? (i := 5) rfl) dX0_heightOf_31 ?_
  refine z_lload_n C 0 dX0_heightOf_34 rfl ?_
  refine z_lmul C dX0_heightOf_35 ?_
  refine z_aload_n C 1 dX0_heightOf_36 rfl ?_
  refine zg0_treeWeight C i0 (List.mem_of_getElem? (i := 4) rfl) dX0_heightOf_37 ?_
  refine z_call0lN C hR hL (As := [.long (100 * x8), .long (gJ s2 0)]) (c_X4_roundedDown l D a g s2 (100 * x8) (gJ s2 0) _ hw) gX0_heightOf_X4_roundedDown_n47 rfl (fun _ h => h.1) (List.mem_of_getElem? (i := 67) rfl) (List.mem_of_getElem? (i := 68) rfl) ⟨by decide +kernel, by decide +kernel, (show (parseMethodDescriptor yX4_roundedDown.desc).map (fun d => d.parameters.length) = some 2 from by decide +kernel)⟩ ⟨rfl, rfl⟩ ⟨Nat.le_of_ble_eq_true rfl, Nat.le_of_ble_eq_true rfl⟩ ⟨Nat.le_of_ble_eq_true rfl, Nat.le_of_ble_eq_true rfl⟩ rfl (Nat.le_of_ble_eq_true rfl) dX0_heightOf_40 (fun r9 s10 h11 => ?_)
  obtain ⟨es10, hw⟩ := h11
  subst es10
  exact hE _ _ _ _ _ _ dX0_heightOf_43 (Nat.le_refl _) (Nat.le_refl _) hw
def W_X0_freeHeightOf_L11 (p0 : Int32) (Q : Int64 → zS → Prop) (K : Int64 → zS → Prop) : Nat → Int64 → Int32 → zS → Prop
  | 0, _, _, _ => False
  | n + 1, v20, v21, s22 =>
    ((gI s22 0) ≤ v21 →
    K v20 s22) ∧ (¬ (gI s22 0) ≤ v21 →
    W_X0_riseOf s22 v21 (fun r23 =>
    ∀ x26 : Int64, x26 = (v20 + r23) →
    ∀ x27 : Int32, x27 = v21 + 1 →
    W_X0_freeHeightOf_L11 p0 Q K n x26 x27 s22))
def W_X0_freeHeightOf (s : zS) (p0 : Int32) (Q : Int64 → zS → Prop) : Prop :=
    W_X0_solve s p0 (-1) (fun s2 =>
    ∀ x4 : Int64, x4 = 0 →
    ∀ x5 : Int32, x5 = 0 →
    ∃ (K6 : Int64 → zS → Prop) (n7 : Nat), (∀ (v11 : Int64) (s12 : zS), K6 v11 s12 →
    ∀ x13 : Int64, x13 = (((gI s12 2)).toInt64 + 1) →
    W_X0_riseOf s12 p0 (fun r14 =>
    W_X4_roundedDown s12 (100 * ((x13 * r14) - v11)) (x13 * (gJ s12 0)) (fun r17 =>
    Q r17 s12))) ∧ W_X0_freeHeightOf_L11 p0 Q K6 n7 x4 x5 s2)
set_option maxHeartbeats 4000000 in
set_option maxRecDepth 100000 in
theorem c_X0_freeHeightOf (l : Launch) (D : va_G) (a : Nat → Nat) (g : Nat → ClassId) (s : zS) (p0 : Int32) (Q : Int64 → zS → Prop) (hw : W_X0_freeHeightOf s p0 Q) : zMl l D (zT g) yX0_freeHeightOf wsX0_freeHeightOf ({ frames := 3, cells := 0, slots := 0, locals := 80 } : Room) [.ref (a 2), .int p0] (WX a g) s (fun r u => Q r u) := by
  have i0 : ∀ w ∈ u_ws RX0 TX0 6, w ∈ wsX0_freeHeightOf := fun _ h => (List.mem_cons_of_mem _ (List.mem_append_left _ (List.mem_append_right _ h)))
  have i1 : ∀ w ∈ u_ws RX1 TX1 10, w ∈ wsX0_freeHeightOf := fun _ h => (List.mem_cons_of_mem _ (List.mem_append_right _ h))
  refine zMl_start (cc := cX0_freeHeightOf) (maxL := 6) (lv0 := [(0, .ref (a 2)), (1, .int p0)]) (own := RX0) rfl (plainFor_of_name (by decide)) rfl (Nat.le_of_ble_eq_true rfl) rfl (fun X C hR hL hE => ?_)
  refine z_aload_n C 0 dX0_freeHeightOf_0 rfl ?_
  refine z_iload_n C 1 dX0_freeHeightOf_1 rfl ?_
  refine z_iconst C (-1) dX0_freeHeightOf_2 (by decide) ?_
  refine z_call0vV C hR hL (As := [.int p0, .int (-1)]) (c_X0_solve l D a g s p0 (-1) _ hw) gX0_freeHeightOf_X0_solve rfl ⟨by decide +kernel, by decide +kernel, (show (parseMethodDescriptor yX0_solve.desc).map (fun d => d.parameters.length) = some 2 from by decide +kernel)⟩ ⟨rfl, rfl⟩ ⟨Nat.le_of_ble_eq_true rfl, Nat.le_of_ble_eq_true rfl⟩ ⟨Nat.le_of_ble_eq_true rfl, Nat.le_of_ble_eq_true rfl⟩ 2 0 rfl rfl rfl rfl (Nat.le_of_ble_eq_true rfl) dX0_freeHeightOf_3 (fun s2 h3 => ?_)
  have hw := h3
  refine z_lconst C 0 dX0_freeHeightOf_6 (by decide) ?_
  refine z_topl (fun x4 ex4 => ?_)
  have hw := hw x4 ex4
  refine z_lstore_n (lv' := [(2, .long x4), (0, .ref (a 2)), (1, .int p0)]) C 2 dX0_freeHeightOf_7 rfl (by decide) rfl ?_
  refine z_iconst C 0 dX0_freeHeightOf_8 (by decide) ?_
  refine z_topi (fun x5 ex5 => ?_)
  have hw := hw x5 ex5
  refine z_istore (lv' := [(4, .int x5), (2, .long x4), (0, .ref (a 2)), (1, .int p0)]) C dX0_freeHeightOf_9 (by decide) rfl ?_
  refine z_sub (lv' := [(0, .ref (a 2)), (1, .int p0), (2, .long x4), (4, .int x5)]) [2, 3, 1, 0] rfl ?_
  obtain ⟨K6, n7, hK8, hw⟩ := hw
  have hx9 : ∀ (v11 : Int64) (s12 : zS), K6 v11 s12 → zV X D 6 0 0 (WX a g s12) 38 [(0, .ref (a 2)), (1, .int p0), (2, .long v11)] [] := by
    intro v11 s12 hw0
    have hw := hK8 v11 s12 hw0
    refine z_aload_n C 0 dX0_freeHeightOf_38 rfl ?_
    refine zg0_unknowns C i0 (List.mem_of_getElem? (i := 3) rfl) dX0_freeHeightOf_39 ?_
    refine z_i2l C dX0_freeHeightOf_42 ?_
    refine z_lconst C 1 dX0_freeHeightOf_43 (by decide) ?_
    refine z_ladd C dX0_freeHeightOf_44 ?_
    refine z_topl (fun x13 ex13 => ?_)
    have hw := hw x13 ex13
    refine z_lstore (lv' := [(4, .long x13), (0, .ref (a 2)), (1, .int p0), (2, .long v11)]) C dX0_freeHeightOf_45 (by decide) rfl ?_
    refine z_ldc2 C 100 (List.mem_of_getElem? (i := 4) rfl) dX0_freeHeightOf_47 ?_
    refine z_lload C 0 dX0_freeHeightOf_50 rfl ?_
    refine z_aload_n C 1 dX0_freeHeightOf_52 rfl ?_
    refine z_iload_n C 2 dX0_freeHeightOf_53 rfl ?_
    refine z_call0lV C hR hL (As := [.int p0]) (c_X0_riseOf l D a g s12 p0 _ hw) gX0_freeHeightOf_X0_riseOf rfl ⟨by decide +kernel, by decide +kernel, (show (parseMethodDescriptor yX0_riseOf.desc).map (fun d => d.parameters.length) = some 1 from by decide +kernel)⟩ ⟨rfl, rfl⟩ ⟨Nat.le_of_ble_eq_true rfl, Nat.le_of_ble_eq_true rfl⟩ ⟨Nat.le_of_ble_eq_true rfl, Nat.le_of_ble_eq_true rfl⟩ 2 0 rfl rfl rfl rfl (Nat.le_of_ble_eq_true rfl) dX0_freeHeightOf_54 (fun r14 s15 h16 => ?_)
    obtain ⟨es15, hw⟩ := h16
    subst es15
    refine z_lmul C dX0_freeHeightOf_57 ?_
    refine z_lload_n C 3 dX0_freeHeightOf_58 rfl ?_
    refine z_lsub C dX0_freeHeightOf_59 ?_
    refine z_lmul C dX0_freeHeightOf_60 ?_
    refine z_lload C 0 dX0_freeHeightOf_61 rfl ?_
    refine z_aload_n C 1 dX0_freeHeightOf_63 rfl ?_
    refine zg0_treeWeight C i0 (List.mem_of_getElem? (i := 5) rfl) dX0_freeHeightOf_64 ?_
    refine z_lmul C dX0_freeHeightOf_67 ?_
    refine z_call0lN C hR hL (As := [.long (100 * ((x13 * r14) - v11)), .long (x13 * (gJ s12 0))]) (c_X4_roundedDown l D a g s12 (100 * ((x13 * r14) - v11)) (x13 * (gJ s12 0)) _ hw) gX0_freeHeightOf_X4_roundedDown_n47 rfl (fun _ h => h.1) (List.mem_of_getElem? (i := 66) rfl) (List.mem_of_getElem? (i := 67) rfl) ⟨by decide +kernel, by decide +kernel, (show (parseMethodDescriptor yX4_roundedDown.desc).map (fun d => d.parameters.length) = some 2 from by decide +kernel)⟩ ⟨rfl, rfl⟩ ⟨Nat.le_of_ble_eq_true rfl, Nat.le_of_ble_eq_true rfl⟩ ⟨Nat.le_of_ble_eq_true rfl, Nat.le_of_ble_eq_true rfl⟩ rfl (Nat.le_of_ble_eq_true rfl) dX0_freeHeightOf_68 (fun r17 s18 h19 => ?_)
    obtain ⟨es18, hw⟩ := h19
    subst es18
    exact hE _ _ _ _ _ _ dX0_freeHeightOf_71 (Nat.le_refl _) (Nat.le_refl _) hw
  have lp10 : ∀ (n : Nat) (v20 : Int64) (v21 : Int32) (s22 : zS), W_X0_freeHeightOf_L11 p0 Q K6 n v20 v21 s22 → zV X D 6 0 0 (WX a g s22) 11 [(0, .ref (a 2)), (1, .int p0), (2, .long v20), (4, .int v21)] [] := by
    intro n
    induction n with
    | zero => intro v20 v21 s22 hw; exact False.elim hw
    | succ n ih =>
      intro v20 v21 s22 hw
      refine z_iload C 3 dX0_freeHeightOf_11 rfl ?_
      refine z_aload_n C 0 dX0_freeHeightOf_13 rfl ?_
      refine zg0_net C i0 (List.mem_of_getElem? (i := 1) rfl) dX0_freeHeightOf_14 ?_
      refine zg1_stations C i1 (List.mem_of_getElem? (i := 2) rfl) dX0_freeHeightOf_17 ?_
      refine z_icmp_ge C 38 dX0_freeHeightOf_20 (by decide) (fun hc => ?_) (fun hc => ?_)
      · have hw := hw.1 hc
        refine z_sub (lv' := [(0, .ref (a 2)), (1, .int p0), (2, .long v20)]) [0, 1, 2] rfl ?_
        exact hx9 _ _ hw
      · have hw := hw.2 hc
        refine z_lload_n C 2 dX0_freeHeightOf_23 rfl ?_
        refine z_aload_n C 0 dX0_freeHeightOf_24 rfl ?_
        refine z_iload C 3 dX0_freeHeightOf_25 rfl ?_
        refine z_call0lV C hR hL (As := [.int v21]) (c_X0_riseOf l D a g s22 v21 _ hw) gX0_freeHeightOf_X0_riseOf rfl ⟨by decide +kernel, by decide +kernel, (show (parseMethodDescriptor yX0_riseOf.desc).map (fun d => d.parameters.length) = some 1 from by decide +kernel)⟩ ⟨rfl, rfl⟩ ⟨Nat.le_of_ble_eq_true rfl, Nat.le_of_ble_eq_true rfl⟩ ⟨Nat.le_of_ble_eq_true rfl, Nat.le_of_ble_eq_true rfl⟩ 2 0 rfl rfl rfl rfl (Nat.le_of_ble_eq_true rfl) dX0_freeHeightOf_27 (fun r23 s24 h25 => ?_)
        obtain ⟨es24, hw⟩ := h25
        subst es24
        refine z_ladd C dX0_freeHeightOf_30 ?_
        refine z_topl (fun x26 ex26 => ?_)
        have hw := hw x26 ex26
        refine z_lstore_n (lv' := [(2, .long x26), (0, .ref (a 2)), (1, .int p0), (4, .int v21)]) C 2 dX0_freeHeightOf_31 rfl (by decide) rfl ?_
        obtain ⟨x27, ex27⟩ : ∃ z : Int32, z = v21 + 1 := ⟨_, rfl⟩
        have hw := hw x27 ex27
        refine z_iinc (lv' := [(4, .int x27), (2, .long x26), (0, .ref (a 2)), (1, .int p0)]) C 3 dX0_freeHeightOf_32 rfl (by rw [ex27]; rfl) (by decide) rfl ?_
        refine z_goto C 11 dX0_freeHeightOf_35 (by decide) ?_
        refine z_sub (lv' := [(0, .ref (a 2)), (1, .int p0), (2, .long x26), (4, .int x27)]) [2, 3, 1, 0] rfl ?_
        exact ih _ _ _ hw
  exact lp10 n7 _ _ _ hw
def W_X0_misfitOf (s : zS) (p0 : Int32) (Q : Int64 → zS → Prop) : Prop :=
    vp_in p0 14 ∧
    ∀ x2 : Int32, x2 = (gF s 3 (ix p0)) →
    W_X0_solve s x2 (-1) (fun s4 =>
    vp_in p0 14 ∧
    W_X0_riseOf s4 (gF s4 4 (ix p0)) (fun r7 =>
    W_X0_riseOf s4 x2 (fun r10 =>
    vp_in p0 14 ∧
    Q ((r7 - r10) - (((gF s4 5 (ix p0))).toInt64 * (gJ s4 0))) s4)))
set_option maxHeartbeats 4000000 in
set_option maxRecDepth 100000 in
theorem c_X0_misfitOf (l : Launch) (D : va_G) (a : Nat → Nat) (g : Nat → ClassId) (s : zS) (p0 : Int32) (Q : Int64 → zS → Prop) (hw : W_X0_misfitOf s p0 Q) : zMl l D (zT g) yX0_misfitOf wsX0_misfitOf ({ frames := 3, cells := 0, slots := 0, locals := 80 } : Room) [.ref (a 2), .int p0] (WX a g) s (fun r u => Q r u) := by
  have i0 : ∀ w ∈ u_ws RX0 TX0 6, w ∈ wsX0_misfitOf := fun _ h => (List.mem_cons_of_mem _ (List.mem_append_left _ (List.mem_append_right _ h)))
  have i1 : ∀ w ∈ u_ws RX1 TX1 10, w ∈ wsX0_misfitOf := fun _ h => (List.mem_cons_of_mem _ (List.mem_append_right _ h))
  refine zMl_start (cc := cX0_misfitOf) (maxL := 3) (lv0 := [(0, .ref (a 2)), (1, .int p0)]) (own := RX0) rfl (plainFor_of_name (by decide)) rfl (Nat.le_of_ble_eq_true rfl) rfl (fun X C hR hL hE => ?_)
  refine z_aload_n C 0 dX0_misfitOf_0 rfl ?_
  refine zg0_net C i0 (List.mem_of_getElem? (i := 1) rfl) dX0_misfitOf_1 ?_
  refine zg1_from C i1 (List.mem_of_getElem? (i := 2) rfl) dX0_misfitOf_4 ?_
  refine z_iload_n C 1 dX0_misfitOf_7 rfl ?_
  obtain ⟨b1, hw⟩ := hw
  refine zl1_from C b1 dX0_misfitOf_8 ?_
  refine z_topi (fun x2 ex2 => ?_)
  have hw := hw x2 ex2
  refine z_istore_n (lv' := [(2, .int x2), (0, .ref (a 2)), (1, .int p0)]) C 2 dX0_misfitOf_9 rfl (by decide) rfl ?_
  refine z_aload_n C 1 dX0_misfitOf_10 rfl ?_
  refine z_iload_n C 0 dX0_misfitOf_11 rfl ?_
  refine z_iconst C (-1) dX0_misfitOf_12 (by decide) ?_
  refine z_call0vV C hR hL (As := [.int x2, .int (-1)]) (c_X0_solve l D a g s x2 (-1) _ hw) gX0_misfitOf_X0_solve rfl ⟨by decide +kernel, by decide +kernel, (show (parseMethodDescriptor yX0_solve.desc).map (fun d => d.parameters.length) = some 2 from by decide +kernel)⟩ ⟨rfl, rfl⟩ ⟨Nat.le_of_ble_eq_true rfl, Nat.le_of_ble_eq_true rfl⟩ ⟨Nat.le_of_ble_eq_true rfl, Nat.le_of_ble_eq_true rfl⟩ 2 0 rfl rfl rfl rfl (Nat.le_of_ble_eq_true rfl) dX0_misfitOf_13 (fun s4 h5 => ?_)
  have hw := h5
  refine z_aload_n C 1 dX0_misfitOf_16 rfl ?_
  refine z_aload_n C 1 dX0_misfitOf_17 rfl ?_
  refine zg0_net C i0 (List.mem_of_getElem? (i := 1) rfl) dX0_misfitOf_18 ?_
  refine zg1_to C i1 (List.mem_of_getElem? (i := 3) rfl) dX0_misfitOf_21 ?_
  refine z_iload_n C 2 dX0_misfitOf_24 rfl ?_
  obtain ⟨b6, hw⟩ := hw
  refine zl1_to C b6 dX0_misfitOf_25 ?_
  refine z_call0lV C hR hL (As := [.int (gF s4 4 (ix p0))]) (c_X0_riseOf l D a g s4 (gF s4 4 (ix p0)) _ hw) gX0_misfitOf_X0_riseOf rfl ⟨by decide +kernel, by decide +kernel, (show (parseMethodDescriptor yX0_riseOf.desc).map (fun d => d.parameters.length) = some 1 from by decide +kernel)⟩ ⟨rfl, rfl⟩ ⟨Nat.le_of_ble_eq_true rfl, Nat.le_of_ble_eq_true rfl⟩ ⟨Nat.le_of_ble_eq_true rfl, Nat.le_of_ble_eq_true rfl⟩ 2 0 rfl rfl rfl rfl (Nat.le_of_ble_eq_true rfl) dX0_misfitOf_26 (fun r7 s8 h9 => ?_)
  obtain ⟨es8, hw⟩ := h9
  subst es8
  refine z_aload_n C 1 dX0_misfitOf_29 rfl ?_
  refine z_iload_n C 0 dX0_misfitOf_30 rfl ?_
  refine z_call0lV C hR hL (As := [.int x2]) (c_X0_riseOf l D a g s4 x2 _ hw) gX0_misfitOf_X0_riseOf rfl ⟨by decide +kernel, by decide +kernel, (show (parseMethodDescriptor yX0_riseOf.desc).map (fun d => d.parameters.length) = some 1 from by decide +kernel)⟩ ⟨rfl, rfl⟩ ⟨Nat.le_of_ble_eq_true rfl, Nat.le_of_ble_eq_true rfl⟩ ⟨Nat.le_of_ble_eq_true rfl, Nat.le_of_ble_eq_true rfl⟩ 2 0 rfl rfl rfl rfl (Nat.le_of_ble_eq_true rfl) dX0_misfitOf_31 (fun r10 s11 h12 => ?_)
  obtain ⟨es11, hw⟩ := h12
  subst es11
  refine z_lsub C dX0_misfitOf_34 ?_
  refine z_aload_n C 1 dX0_misfitOf_35 rfl ?_
  refine zg0_net C i0 (List.mem_of_getElem? (i := 1) rfl) dX0_misfitOf_36 ?_
  refine zg1_difference C i1 (List.mem_of_getElem? (i := 4) rfl) dX0_misfitOf_39 ?_
  refine z_iload_n C 2 dX0_misfitOf_42 rfl ?_
  obtain ⟨b13, hw⟩ := hw
  refine zl1_difference C b13 dX0_misfitOf_43 ?_
  refine z_i2l C dX0_misfitOf_44 ?_
  refine z_aload_n C 1 dX0_misfitOf_45 rfl ?_
  refine zg0_treeWeight C i0 (List.mem_of_getElem? (i := 5) rfl) dX0_misfitOf_46 ?_
  refine z_lmul C dX0_misfitOf_49 ?_
  refine z_lsub C dX0_misfitOf_50 ?_
  exact hE _ _ _ _ _ _ dX0_misfitOf_51 (Nat.le_refl _) (Nat.le_refl _) hw
def W_X0_residualOf (s : zS) (p0 : Int32) (Q : Int64 → zS → Prop) : Prop :=
    W_X0_misfitOf s p0 (fun r1 s2 =>
    ∀ x4 : Int64, x4 = r1 →
    W_X4_roundedDown s2 (100 * x4) (gJ s2 0) (fun r5 =>
    Q r5 s2))
set_option maxHeartbeats 4000000 in
set_option maxRecDepth 100000 in
theorem c_X0_residualOf (l : Launch) (D : va_G) (a : Nat → Nat) (g : Nat → ClassId) (s : zS) (p0 : Int32) (Q : Int64 → zS → Prop) (hw : W_X0_residualOf s p0 Q) : zMl l D (zT g) yX0_residualOf wsX0_residualOf ({ frames := 4, cells := 0, slots := 0, locals := 102 } : Room) [.ref (a 2), .int p0] (WX a g) s (fun r u => Q r u) := by
  have i0 : ∀ w ∈ u_ws RX0 TX0 6, w ∈ wsX0_residualOf := fun _ h => (List.mem_cons_of_mem _ (List.mem_append_left _ (List.mem_append_right _ h)))
  refine zMl_start (cc := cX0_residualOf) (maxL := 4) (lv0 := [(0, .ref (a 2)), (1, .int p0)]) (own := RX0) rfl (plainFor_of_name (by decide)) rfl (Nat.le_of_ble_eq_true rfl) rfl (fun X C hR hL hE => ?_)
  refine z_aload_n C 0 dX0_residualOf_0 rfl ?_
  refine z_iload_n C 1 dX0_residualOf_1 rfl ?_
  refine z_call0lV C hR hL (As := [.int p0]) (c_X0_misfitOf l D a g s p0 _ hw) gX0_residualOf_X0_misfitOf rfl ⟨by decide +kernel, by decide +kernel, (show (parseMethodDescriptor yX0_misfitOf.desc).map (fun d => d.parameters.length) = some 1 from by decide +kernel)⟩ ⟨rfl, rfl⟩ ⟨Nat.le_of_ble_eq_true rfl, Nat.le_of_ble_eq_true rfl⟩ ⟨Nat.le_of_ble_eq_true rfl, Nat.le_of_ble_eq_true rfl⟩ 2 0 rfl rfl rfl rfl (Nat.le_of_ble_eq_true rfl) dX0_residualOf_2 (fun r1 s2 h3 => ?_)
  have hw := h3
  refine z_topl (fun x4 ex4 => ?_)
  have hw := hw x4 ex4
  refine z_lstore_n (lv' := [(2, .long x4), (0, .ref (a 2)), (1, .int p0)]) C 2 dX0_residualOf_5 rfl (by decide) rfl ?_
  refine z_ldc2 C 100 (List.mem_of_getElem? (i := 1) rfl) dX0_residualOf_6 ?_
  refine z_lload_n C 0 dX0_residualOf_9 rfl ?_
  refine z_lmul C dX0_residualOf_10 ?_
  refine z_aload_n C 1 dX0_residualOf_11 rfl ?_
  refine zg0_treeWeight C i0 (List.mem_of_getElem? (i := 2) rfl) dX0_residualOf_12 ?_
  refine z_call0lN C hR hL (As := [.long (100 * x4), .long (gJ s2 0)]) (c_X4_roundedDown l D a g s2 (100 * x4) (gJ s2 0) _ hw) gX0_residualOf_X4_roundedDown_n47 rfl (fun _ h => h.1) (List.mem_of_getElem? (i := 70) rfl) (List.mem_of_getElem? (i := 71) rfl) ⟨by decide +kernel, by decide +kernel, (show (parseMethodDescriptor yX4_roundedDown.desc).map (fun d => d.parameters.length) = some 2 from by decide +kernel)⟩ ⟨rfl, rfl⟩ ⟨Nat.le_of_ble_eq_true rfl, Nat.le_of_ble_eq_true rfl⟩ ⟨Nat.le_of_ble_eq_true rfl, Nat.le_of_ble_eq_true rfl⟩ rfl (Nat.le_of_ble_eq_true rfl) dX0_residualOf_15 (fun r5 s6 h7 => ?_)
  obtain ⟨es6, hw⟩ := h7
  subst es6
  exact hE _ _ _ _ _ _ dX0_residualOf_18 (Nat.le_refl _) (Nat.le_refl _) hw
def W_X0_checkAgainst (s : zS) (p0 : Int32) (p1 : Int64) (Q : Int32 → zS → Prop) : Prop :=
    vp_in p0 14 ∧
    W_X0_solve s (gF s 3 (ix p0)) p0 (fun s3 =>
    W_X4_roundedDown s3 (1000 * (gJ s3 0)) p1 (fun r5 =>
    Q ((r5).toInt32) s3))
set_option maxHeartbeats 4000000 in
set_option maxRecDepth 100000 in
theorem c_X0_checkAgainst (l : Launch) (D : va_G) (a : Nat → Nat) (g : Nat → ClassId) (s : zS) (p0 : Int32) (p1 : Int64) (Q : Int32 → zS → Prop) (hw : W_X0_checkAgainst s p0 p1 Q) : zMi l D (zT g) yX0_checkAgainst wsX0_checkAgainst ({ frames := 3, cells := 0, slots := 0, locals := 80 } : Room) [.ref (a 2), .int p0, .long p1] (WX a g) s (fun r u => Q r u) := by
  have i0 : ∀ w ∈ u_ws RX0 TX0 6, w ∈ wsX0_checkAgainst := fun _ h => (List.mem_cons_of_mem _ (List.mem_append_left _ (List.mem_append_right _ h)))
  have i1 : ∀ w ∈ u_ws RX1 TX1 10, w ∈ wsX0_checkAgainst := fun _ h => (List.mem_cons_of_mem _ (List.mem_append_right _ h))
  refine zMi_start (cc := cX0_checkAgainst) (maxL := 4) (lv0 := [(0, .ref (a 2)), (1, .int p0), (2, .long p1)]) (own := RX0) rfl (plainFor_of_name (by decide)) rfl (Nat.le_of_ble_eq_true rfl) rfl (fun X C hR hL hE => ?_)
  refine z_aload_n C 0 dX0_checkAgainst_0 rfl ?_
  refine z_aload_n C 0 dX0_checkAgainst_1 rfl ?_
  refine zg0_net C i0 (List.mem_of_getElem? (i := 1) rfl) dX0_checkAgainst_2 ?_
  refine zg1_from C i1 (List.mem_of_getElem? (i := 2) rfl) dX0_checkAgainst_5 ?_
  refine z_iload_n C 1 dX0_checkAgainst_8 rfl ?_
  obtain ⟨b1, hw⟩ := hw
  refine zl1_from C b1 dX0_checkAgainst_9 ?_
  refine z_iload_n C 1 dX0_checkAgainst_10 rfl ?_
  refine z_call0vV C hR hL (As := [.int (gF s 3 (ix p0)), .int p0]) (c_X0_solve l D a g s (gF s 3 (ix p0)) p0 _ hw) gX0_checkAgainst_X0_solve rfl ⟨by decide +kernel, by decide +kernel, (show (parseMethodDescriptor yX0_solve.desc).map (fun d => d.parameters.length) = some 2 from by decide +kernel)⟩ ⟨rfl, rfl⟩ ⟨Nat.le_of_ble_eq_true rfl, Nat.le_of_ble_eq_true rfl⟩ ⟨Nat.le_of_ble_eq_true rfl, Nat.le_of_ble_eq_true rfl⟩ 2 0 rfl rfl rfl rfl (Nat.le_of_ble_eq_true rfl) dX0_checkAgainst_11 (fun s3 h4 => ?_)
  have hw := h4
  refine z_ldc2 C 1000 (List.mem_of_getElem? (i := 3) rfl) dX0_checkAgainst_14 ?_
  refine z_aload_n C 0 dX0_checkAgainst_17 rfl ?_
  refine zg0_treeWeight C i0 (List.mem_of_getElem? (i := 4) rfl) dX0_checkAgainst_18 ?_
  refine z_lmul C dX0_checkAgainst_21 ?_
  refine z_lload_n C 2 dX0_checkAgainst_22 rfl ?_
  refine z_call0lN C hR hL (As := [.long (1000 * (gJ s3 0)), .long p1]) (c_X4_roundedDown l D a g s3 (1000 * (gJ s3 0)) p1 _ hw) gX0_checkAgainst_X4_roundedDown_n47 rfl (fun _ h => h.1) (List.mem_of_getElem? (i := 62) rfl) (List.mem_of_getElem? (i := 63) rfl) ⟨by decide +kernel, by decide +kernel, (show (parseMethodDescriptor yX4_roundedDown.desc).map (fun d => d.parameters.length) = some 2 from by decide +kernel)⟩ ⟨rfl, rfl⟩ ⟨Nat.le_of_ble_eq_true rfl, Nat.le_of_ble_eq_true rfl⟩ ⟨Nat.le_of_ble_eq_true rfl, Nat.le_of_ble_eq_true rfl⟩ rfl (Nat.le_of_ble_eq_true rfl) dX0_checkAgainst_23 (fun r5 s6 h7 => ?_)
  obtain ⟨es6, hw⟩ := h7
  subst es6
  refine z_l2i C dX0_checkAgainst_26 ?_
  exact hE _ _ _ _ _ _ dX0_checkAgainst_27 rfl (Nat.le_refl _) (Nat.le_refl _) hw
def W_X0_checkOf (s : zS) (p0 : Int32) (Q : Int32 → zS → Prop) : Prop :=
    vp_in p0 14 ∧
    W_X0_treeWeightOf s (gF s 3 (ix p0)) (fun r2 s3 =>
    W_X0_checkAgainst s3 p0 r2 (fun r5 s6 =>
    Q r5 s6))
set_option maxHeartbeats 4000000 in
set_option maxRecDepth 100000 in
theorem c_X0_checkOf (l : Launch) (D : va_G) (a : Nat → Nat) (g : Nat → ClassId) (s : zS) (p0 : Int32) (Q : Int32 → zS → Prop) (hw : W_X0_checkOf s p0 Q) : zMi l D (zT g) yX0_checkOf wsX0_checkOf ({ frames := 4, cells := 0, slots := 0, locals := 103 } : Room) [.ref (a 2), .int p0] (WX a g) s (fun r u => Q r u) := by
  have i0 : ∀ w ∈ u_ws RX0 TX0 6, w ∈ wsX0_checkOf := fun _ h => (List.mem_cons_of_mem _ (List.mem_append_left _ (List.mem_append_right _ h)))
  have i1 : ∀ w ∈ u_ws RX1 TX1 10, w ∈ wsX0_checkOf := fun _ h => (List.mem_cons_of_mem _ (List.mem_append_right _ h))
  refine zMi_start (cc := cX0_checkOf) (maxL := 2) (lv0 := [(0, .ref (a 2)), (1, .int p0)]) (own := RX0) rfl (plainFor_of_name (by decide)) rfl (Nat.le_of_ble_eq_true rfl) rfl (fun X C hR hL hE => ?_)
  refine z_aload_n C 0 dX0_checkOf_0 rfl ?_
  refine z_iload_n C 1 dX0_checkOf_1 rfl ?_
  refine z_aload_n C 0 dX0_checkOf_2 rfl ?_
  refine z_aload_n C 0 dX0_checkOf_3 rfl ?_
  refine zg0_net C i0 (List.mem_of_getElem? (i := 1) rfl) dX0_checkOf_4 ?_
  refine zg1_from C i1 (List.mem_of_getElem? (i := 2) rfl) dX0_checkOf_7 ?_
  refine z_iload_n C 1 dX0_checkOf_10 rfl ?_
  obtain ⟨b1, hw⟩ := hw
  refine zl1_from C b1 dX0_checkOf_11 ?_
  refine z_call0lV C hR hL (As := [.int (gF s 3 (ix p0))]) (c_X0_treeWeightOf l D a g s (gF s 3 (ix p0)) _ hw) gX0_checkOf_X0_treeWeightOf rfl ⟨by decide +kernel, by decide +kernel, (show (parseMethodDescriptor yX0_treeWeightOf.desc).map (fun d => d.parameters.length) = some 1 from by decide +kernel)⟩ ⟨rfl, rfl⟩ ⟨Nat.le_of_ble_eq_true rfl, Nat.le_of_ble_eq_true rfl⟩ ⟨Nat.le_of_ble_eq_true rfl, Nat.le_of_ble_eq_true rfl⟩ 2 0 rfl rfl rfl rfl (Nat.le_of_ble_eq_true rfl) dX0_checkOf_12 (fun r2 s3 h4 => ?_)
  have hw := h4
  refine z_call0iV C hR hL (As := [.int p0, .long r2]) (c_X0_checkAgainst l D a g s3 p0 r2 _ hw) gX0_checkOf_X0_checkAgainst rfl ⟨by decide +kernel, by decide +kernel, (show (parseMethodDescriptor yX0_checkAgainst.desc).map (fun d => d.parameters.length) = some 2 from by decide +kernel)⟩ ⟨rfl, rfl⟩ ⟨Nat.le_of_ble_eq_true rfl, Nat.le_of_ble_eq_true rfl⟩ ⟨Nat.le_of_ble_eq_true rfl, Nat.le_of_ble_eq_true rfl⟩ 2 0 rfl rfl rfl rfl (Nat.le_of_ble_eq_true rfl) dX0_checkOf_15 (fun r5 s6 h7 => ?_)
  have hw := h7
  exact hE _ _ _ _ _ _ dX0_checkOf_18 rfl (Nat.le_refl _) (Nat.le_refl _) hw
def W_X0_scoreOf (s : zS) (p0 : Int32) (Q : Int64 → zS → Prop) : Prop :=
    W_X0_misfitOf s p0 (fun r1 s2 =>
    ∀ x4 : Int64, x4 = r1 →
    W_X4_roundedDown s2 (100 * (if 0 < x4 then x4 else -x4)) (gJ s2 0) (fun r5 =>
    ∀ x8 : Int64, x8 = r5 →
    W_X0_checkAgainst s2 p0 (gJ s2 0) (fun r9 s10 =>
    ∀ x12 : Int32, x12 = r9 →
    (¬ x12 = 0 →
    vp_in p0 14 ∧
    W_X4_roundedDown s10 ((x8 * x8) * ((gF s10 6 (ix p0))).toInt64) ((x12).toInt64) (fun r14 =>
    Q r14 s10)) ∧ (x12 = 0 →
    Q 0 s10))))
set_option maxHeartbeats 4000000 in
set_option maxRecDepth 100000 in
theorem c_X0_scoreOf (l : Launch) (D : va_G) (a : Nat → Nat) (g : Nat → ClassId) (s : zS) (p0 : Int32) (Q : Int64 → zS → Prop) (hw : W_X0_scoreOf s p0 Q) : zMl l D (zT g) yX0_scoreOf wsX0_scoreOf ({ frames := 4, cells := 0, slots := 0, locals := 103 } : Room) [.ref (a 2), .int p0] (WX a g) s (fun r u => Q r u) := by
  have i0 : ∀ w ∈ u_ws RX0 TX0 6, w ∈ wsX0_scoreOf := fun _ h => (List.mem_cons_of_mem _ (List.mem_append_left _ (List.mem_append_right _ h)))
  have i1 : ∀ w ∈ u_ws RX1 TX1 10, w ∈ wsX0_scoreOf := fun _ h => (List.mem_cons_of_mem _ (List.mem_append_right _ h))
  refine zMl_start (cc := cX0_scoreOf) (maxL := 7) (lv0 := [(0, .ref (a 2)), (1, .int p0)]) (own := RX0) rfl (plainFor_of_name (by decide)) rfl (Nat.le_of_ble_eq_true rfl) rfl (fun X C hR hL hE => ?_)
  refine z_aload_n C 0 dX0_scoreOf_0 rfl ?_
  refine z_iload_n C 1 dX0_scoreOf_1 rfl ?_
  refine z_call0lV C hR hL (As := [.int p0]) (c_X0_misfitOf l D a g s p0 _ hw) gX0_scoreOf_X0_misfitOf rfl ⟨by decide +kernel, by decide +kernel, (show (parseMethodDescriptor yX0_misfitOf.desc).map (fun d => d.parameters.length) = some 1 from by decide +kernel)⟩ ⟨rfl, rfl⟩ ⟨Nat.le_of_ble_eq_true rfl, Nat.le_of_ble_eq_true rfl⟩ ⟨Nat.le_of_ble_eq_true rfl, Nat.le_of_ble_eq_true rfl⟩ 2 0 rfl rfl rfl rfl (Nat.le_of_ble_eq_true rfl) dX0_scoreOf_2 (fun r1 s2 h3 => ?_)
  have hw := h3
  refine z_topl (fun x4 ex4 => ?_)
  have hw := hw x4 ex4
  refine z_lstore_n (lv' := [(2, .long x4), (0, .ref (a 2)), (1, .int p0)]) C 2 dX0_scoreOf_5 rfl (by decide) rfl ?_
  refine z_ldc2 C 100 (List.mem_of_getElem? (i := 1) rfl) dX0_scoreOf_6 ?_
  refine z_lload_n C 0 dX0_scoreOf_9 rfl ?_
  refine z_mabsl C _ hR (List.mem_of_getElem? (i := 2) rfl) (List.mem_of_getElem? (i := 3) rfl) (List.mem_of_getElem? (i := 4) rfl) (List.mem_of_getElem? (i := 5) rfl) ⟨Nat.le_of_ble_eq_true rfl, Nat.le_of_ble_eq_true rfl, Nat.le_of_ble_eq_true rfl, Nat.le_of_ble_eq_true rfl⟩ dX0_scoreOf_10 ?_
  refine z_lmul C dX0_scoreOf_13 ?_
  refine z_aload_n C 1 dX0_scoreOf_14 rfl ?_
  refine zg0_treeWeight C i0 (List.mem_of_getElem? (i := 6) rfl) dX0_scoreOf_15 ?_
  refine z_call0lN C hR hL (As := [.long (100 * (if 0 < x4 then x4 else -x4)), .long (gJ s2 0)]) (c_X4_roundedDown l D a g s2 (100 * (if 0 < x4 then x4 else -x4)) (gJ s2 0) _ hw) gX0_scoreOf_X4_roundedDown_n47 rfl (fun _ h => h.1) (List.mem_of_getElem? (i := 74) rfl) (List.mem_of_getElem? (i := 75) rfl) ⟨by decide +kernel, by decide +kernel, (show (parseMethodDescriptor yX4_roundedDown.desc).map (fun d => d.parameters.length) = some 2 from by decide +kernel)⟩ ⟨rfl, rfl⟩ ⟨Nat.le_of_ble_eq_true rfl, Nat.le_of_ble_eq_true rfl⟩ ⟨Nat.le_of_ble_eq_true rfl, Nat.le_of_ble_eq_true rfl⟩ rfl (Nat.le_of_ble_eq_true rfl) dX0_scoreOf_18 (fun r5 s6 h7 => ?_)
  obtain ⟨es6, hw⟩ := h7
  subst es6
  refine z_topl (fun x8 ex8 => ?_)
  have hw := hw x8 ex8
  refine z_lstore (lv' := [(4, .long x8), (2, .long x4), (0, .ref (a 2)), (1, .int p0)]) C dX0_scoreOf_21 (by decide) rfl ?_
  refine z_aload_n C 2 dX0_scoreOf_23 rfl ?_
  refine z_iload_n C 3 dX0_scoreOf_24 rfl ?_
  refine z_aload_n C 2 dX0_scoreOf_25 rfl ?_
  refine zg0_treeWeight C i0 (List.mem_of_getElem? (i := 6) rfl) dX0_scoreOf_26 ?_
  refine z_call0iV C hR hL (As := [.int p0, .long (gJ s2 0)]) (c_X0_checkAgainst l D a g s2 p0 (gJ s2 0) _ hw) gX0_scoreOf_X0_checkAgainst rfl ⟨by decide +kernel, by decide +kernel, (show (parseMethodDescriptor yX0_checkAgainst.desc).map (fun d => d.parameters.length) = some 2 from by decide +kernel)⟩ ⟨rfl, rfl⟩ ⟨Nat.le_of_ble_eq_true rfl, Nat.le_of_ble_eq_true rfl⟩ ⟨Nat.le_of_ble_eq_true rfl, Nat.le_of_ble_eq_true rfl⟩ 2 0 rfl rfl rfl rfl (Nat.le_of_ble_eq_true rfl) dX0_scoreOf_29 (fun r9 s10 h11 => ?_)
  have hw := h11
  refine z_topi (fun x12 ex12 => ?_)
  have hw := hw x12 ex12
  refine z_istore (lv' := [(6, .int x12), (4, .long x8), (2, .long x4), (0, .ref (a 2)), (1, .int p0)]) C dX0_scoreOf_32 (by decide) rfl ?_
  refine z_iload C 0 dX0_scoreOf_34 rfl ?_
  refine z_if_ne C 41 dX0_scoreOf_36 (by decide) (fun hc => ?_) (fun hc => ?_)
  · have hw := hw.1 hc
    refine z_lload C 1 dX0_scoreOf_41 rfl ?_
    refine z_lload C 1 dX0_scoreOf_43 rfl ?_
    refine z_lmul C dX0_scoreOf_45 ?_
    refine z_aload_n C 3 dX0_scoreOf_46 rfl ?_
    refine zg0_net C i0 (List.mem_of_getElem? (i := 7) rfl) dX0_scoreOf_47 ?_
    refine zg1_weight C i1 (List.mem_of_getElem? (i := 8) rfl) dX0_scoreOf_50 ?_
    refine z_iload_n C 4 dX0_scoreOf_53 rfl ?_
    obtain ⟨b13, hw⟩ := hw
    refine zl1_weight C b13 dX0_scoreOf_54 ?_
    refine z_i2l C dX0_scoreOf_55 ?_
    refine z_lmul C dX0_scoreOf_56 ?_
    refine z_iload C 0 dX0_scoreOf_57 rfl ?_
    refine z_i2l C dX0_scoreOf_59 ?_
    refine z_call0lN C hR hL (As := [.long ((x8 * x8) * ((gF s10 6 (ix p0))).toInt64), .long ((x12).toInt64)]) (c_X4_roundedDown l D a g s10 ((x8 * x8) * ((gF s10 6 (ix p0))).toInt64) ((x12).toInt64) _ hw) gX0_scoreOf_X4_roundedDown_n47 rfl (fun _ h => h.1) (List.mem_of_getElem? (i := 74) rfl) (List.mem_of_getElem? (i := 75) rfl) ⟨by decide +kernel, by decide +kernel, (show (parseMethodDescriptor yX4_roundedDown.desc).map (fun d => d.parameters.length) = some 2 from by decide +kernel)⟩ ⟨rfl, rfl⟩ ⟨Nat.le_of_ble_eq_true rfl, Nat.le_of_ble_eq_true rfl⟩ ⟨Nat.le_of_ble_eq_true rfl, Nat.le_of_ble_eq_true rfl⟩ rfl (Nat.le_of_ble_eq_true rfl) dX0_scoreOf_60 (fun r14 s15 h16 => ?_)
    obtain ⟨es15, hw⟩ := h16
    subst es15
    exact hE _ _ _ _ _ _ dX0_scoreOf_63 (Nat.le_refl _) (Nat.le_refl _) hw
  · have hw := hw.2 hc
    refine z_lconst C 0 dX0_scoreOf_39 (by decide) ?_
    exact hE _ _ _ _ _ _ dX0_scoreOf_40 (Nat.le_refl _) (Nat.le_refl _) hw
def W_X0_worstObservation_L7 (Q : Int32 → zS → Prop) (K : Int32 → zS → Prop) : Nat → Int32 → Int64 → Int32 → zS → Prop
  | 0, _, _, _, _ => False
  | n + 1, v11, v12, v13, s14 =>
    ((gI s14 1) ≤ v13 →
    K v11 s14) ∧ (¬ (gI s14 1) ≤ v13 →
    vp_in v13 14 ∧
    ∃ k16 : Int64 → zS → Prop, (∀ (v19 : Int64) (s20 : zS), k16 v19 s20 →
    ∀ x21 : Int64, x21 = v19 →
    (x21 ≤ v12 →
    ∀ x22 : Int32, x22 = v13 + 1 →
    W_X0_worstObservation_L7 Q K n v11 v12 x22 s20) ∧ (¬ x21 ≤ v12 →
    ∀ x23 : Int32, x23 = v13 →
    ∀ x24 : Int64, x24 = x21 →
    ∀ x25 : Int32, x25 = v13 + 1 →
    W_X0_worstObservation_L7 Q K n x23 x24 x25 s20)) ∧ (((gF s14 7 (ix v13)) = 0 →
    W_X0_scoreOf s14 v13 (fun r26 s27 =>
    k16 r26 s27)) ∧ (¬ (gF s14 7 (ix v13)) = 0 →
    k16 0 s14)))
def W_X0_worstObservation (s : zS) (Q : Int32 → zS → Prop) : Prop :=
    ∀ x1 : Int32, x1 = (-1) →
    ∀ x2 : Int64, x2 = 0 →
    ∀ x3 : Int32, x3 = 0 →
    ∃ (K4 : Int32 → zS → Prop) (n5 : Nat), (∀ (v9 : Int32) (s10 : zS), K4 v9 s10 →
    Q v9 s10) ∧ W_X0_worstObservation_L7 Q K4 n5 x1 x2 x3 s
set_option maxHeartbeats 4000000 in
set_option maxRecDepth 100000 in
theorem c_X0_worstObservation (l : Launch) (D : va_G) (a : Nat → Nat) (g : Nat → ClassId) (s : zS) (Q : Int32 → zS → Prop) (hw : W_X0_worstObservation s Q) : zMi l D (zT g) yX0_worstObservation wsX0_worstObservation ({ frames := 5, cells := 0, slots := 0, locals := 129 } : Room) [.ref (a 2)] (WX a g) s (fun r u => Q r u) := by
  have i0 : ∀ w ∈ u_ws RX0 TX0 6, w ∈ wsX0_worstObservation := fun _ h => (List.mem_cons_of_mem _ (List.mem_append_left _ (List.mem_append_right _ h)))
  have i1 : ∀ w ∈ u_ws RX1 TX1 10, w ∈ wsX0_worstObservation := fun _ h => (List.mem_cons_of_mem _ (List.mem_append_right _ h))
  refine zMi_start (cc := cX0_worstObservation) (maxL := 7) (lv0 := [(0, .ref (a 2))]) (own := RX0) rfl (plainFor_of_name (by decide)) rfl (Nat.le_of_ble_eq_true rfl) rfl (fun X C hR hL hE => ?_)
  refine z_iconst C (-1) dX0_worstObservation_0 (by decide) ?_
  refine z_topi (fun x1 ex1 => ?_)
  have hw := hw x1 ex1
  refine z_istore_n (lv' := [(1, .int x1), (0, .ref (a 2))]) C 1 dX0_worstObservation_1 rfl (by decide) rfl ?_
  refine z_lconst C 0 dX0_worstObservation_2 (by decide) ?_
  refine z_topl (fun x2 ex2 => ?_)
  have hw := hw x2 ex2
  refine z_lstore_n (lv' := [(2, .long x2), (1, .int x1), (0, .ref (a 2))]) C 2 dX0_worstObservation_3 rfl (by decide) rfl ?_
  refine z_iconst C 0 dX0_worstObservation_4 (by decide) ?_
  refine z_topi (fun x3 ex3 => ?_)
  have hw := hw x3 ex3
  refine z_istore (lv' := [(4, .int x3), (2, .long x2), (1, .int x1), (0, .ref (a 2))]) C dX0_worstObservation_5 (by decide) rfl ?_
  refine z_sub (lv' := [(0, .ref (a 2)), (1, .int x1), (2, .long x2), (4, .int x3)]) [3, 2, 1, 0] rfl ?_
  obtain ⟨K4, n5, hK6, hw⟩ := hw
  have hx7 : ∀ (v9 : Int32) (s10 : zS), K4 v9 s10 → zV X D 7 0 0 (WX a g s10) 63 [(1, .int v9)] [] := by
    intro v9 s10 hw0
    have hw := hK6 v9 s10 hw0
    refine z_iload_n C 0 dX0_worstObservation_63 rfl ?_
    exact hE _ _ _ _ _ _ dX0_worstObservation_64 rfl (Nat.le_refl _) (Nat.le_refl _) hw
  have lp8 : ∀ (n : Nat) (v11 : Int32) (v12 : Int64) (v13 : Int32) (s14 : zS), W_X0_worstObservation_L7 Q K4 n v11 v12 v13 s14 → zV X D 7 0 0 (WX a g s14) 7 [(0, .ref (a 2)), (1, .int v11), (2, .long v12), (4, .int v13)] [] := by
    intro n
    induction n with
    | zero => intro v11 v12 v13 s14 hw; exact False.elim hw
    | succ n ih =>
      intro v11 v12 v13 s14 hw
      refine z_iload C 3 dX0_worstObservation_7 rfl ?_
      refine z_aload_n C 0 dX0_worstObservation_9 rfl ?_
      refine zg0_net C i0 (List.mem_of_getElem? (i := 1) rfl) dX0_worstObservation_10 ?_
      refine zg1_observations C i1 (List.mem_of_getElem? (i := 2) rfl) dX0_worstObservation_13 ?_
      refine z_icmp_ge C 63 dX0_worstObservation_16 (by decide) (fun hc => ?_) (fun hc => ?_)
      · have hw := hw.1 hc
        refine z_sub (lv' := [(1, .int v11)]) [1] rfl ?_
        exact hx7 _ _ hw
      · have hw := hw.2 hc
        refine z_aload_n C 0 dX0_worstObservation_19 rfl ?_
        refine zg0_net C i0 (List.mem_of_getElem? (i := 1) rfl) dX0_worstObservation_20 ?_
        refine zg1_isWithdrawn C i1 (List.mem_of_getElem? (i := 3) rfl) dX0_worstObservation_23 ?_
        refine z_iload C 3 dX0_worstObservation_26 rfl ?_
        obtain ⟨b15, hw⟩ := hw
        refine zl1_isWithdrawn C b15 dX0_worstObservation_28 ?_
        obtain ⟨k16, hk17, hw⟩ := hw
        have hj18 : ∀ (v19 : Int64) (s20 : zS), k16 v19 s20 → zV X D 7 0 0 (WX a g s20) 42 [(0, .ref (a 2)), (1, .int v11), (2, .long v12), (4, .int v13)] [.long v19] := by
          intro v19 s20 hw0
          have hw := hk17 v19 s20 hw0
          refine z_topl (fun x21 ex21 => ?_)
          have hw := hw x21 ex21
          refine z_lstore (lv' := [(5, .long x21), (0, .ref (a 2)), (1, .int v11), (2, .long v12), (4, .int v13)]) C dX0_worstObservation_42 (by decide) rfl ?_
          refine z_lload C 0 dX0_worstObservation_44 rfl ?_
          refine z_lload_n C 3 dX0_worstObservation_46 rfl ?_
          refine z_lcmp_le C 57 dX0_worstObservation_47 dX0_worstObservation_48 (by decide) (fun hc => ?_) (fun hc => ?_)
          · have hw := hw.1 hc
            obtain ⟨x22, ex22⟩ : ∃ z : Int32, z = v13 + 1 := ⟨_, rfl⟩
            have hw := hw x22 ex22
            refine z_iinc (lv' := [(4, .int x22), (5, .long x21), (0, .ref (a 2)), (1, .int v11), (2, .long v12)]) C 4 dX0_worstObservation_57 rfl (by rw [ex22]; rfl) (by decide) rfl ?_
            refine z_goto C 7 dX0_worstObservation_60 (by decide) ?_
            refine z_sub (lv' := [(0, .ref (a 2)), (1, .int v11), (2, .long v12), (4, .int x22)]) [2, 3, 4, 0] rfl ?_
            exact ih _ _ _ _ hw
          · have hw := hw.2 hc
            refine z_iload C 4 dX0_worstObservation_51 rfl ?_
            refine z_topi (fun x23 ex23 => ?_)
            have hw := hw x23 ex23
            refine z_istore_n (lv' := [(1, .int x23), (5, .long x21), (0, .ref (a 2)), (2, .long v12), (4, .int v13)]) C 1 dX0_worstObservation_53 rfl (by decide) rfl ?_
            refine z_lload C 1 dX0_worstObservation_54 rfl ?_
            refine z_topl (fun x24 ex24 => ?_)
            have hw := hw x24 ex24
            refine z_lstore_n (lv' := [(2, .long x24), (1, .int x23), (5, .long x21), (0, .ref (a 2)), (4, .int v13)]) C 2 dX0_worstObservation_56 rfl (by decide) rfl ?_
            obtain ⟨x25, ex25⟩ : ∃ z : Int32, z = v13 + 1 := ⟨_, rfl⟩
            have hw := hw x25 ex25
            refine z_iinc (lv' := [(4, .int x25), (2, .long x24), (1, .int x23), (5, .long x21), (0, .ref (a 2))]) C 4 dX0_worstObservation_57 rfl (by rw [ex25]; rfl) (by decide) rfl ?_
            refine z_goto C 7 dX0_worstObservation_60 (by decide) ?_
            refine z_sub (lv' := [(0, .ref (a 2)), (1, .int x23), (2, .long x24), (4, .int x25)]) [4, 2, 1, 0] rfl ?_
            exact ih _ _ _ _ hw
        refine z_if_eq C 36 dX0_worstObservation_29 (by decide) (fun hc => ?_) (fun hc => ?_)
        · have hw := hw.1 hc
          refine z_aload_n C 0 dX0_worstObservation_36 rfl ?_
          refine z_iload C 3 dX0_worstObservation_37 rfl ?_
          refine z_call0lV C hR hL (As := [.int v13]) (c_X0_scoreOf l D a g s14 v13 _ hw) gX0_worstObservation_X0_scoreOf rfl ⟨by decide +kernel, by decide +kernel, (show (parseMethodDescriptor yX0_scoreOf.desc).map (fun d => d.parameters.length) = some 1 from by decide +kernel)⟩ ⟨rfl, rfl⟩ ⟨Nat.le_of_ble_eq_true rfl, Nat.le_of_ble_eq_true rfl⟩ ⟨Nat.le_of_ble_eq_true rfl, Nat.le_of_ble_eq_true rfl⟩ 2 0 rfl rfl rfl rfl (Nat.le_of_ble_eq_true rfl) dX0_worstObservation_39 (fun r26 s27 h28 => ?_)
          have hw := h28
          exact hj18 _ _ hw
        · have hw := hw.2 hc
          refine z_lconst C 0 dX0_worstObservation_32 (by decide) ?_
          refine z_goto C 42 dX0_worstObservation_33 (by decide) ?_
          exact hj18 _ _ hw
  exact lp8 n5 _ _ _ _ hw
