def W_X3_countTree (s : zS) (p0 : Int32) (p1 : Int64) (p2 : Int32) (Q : zS → Prop) : Prop :=
    ∀ s1 : zS, s1 = sJ s 1 ((gJ s 1) + p1) →
    vp_in p0 6 ∧
    vp_in (gI s1 6) 6 ∧
    vp_in p0 6 ∧
    vp_in (gI s1 5) 6 ∧
    ∀ s6 : zS, s6 = sJ s1 3 ((gJ s1 3) + (p1 * (((gF s1 (15 + (ix p0)) (ix (gI s1 6))) - (gF s1 (15 + (ix p0)) (ix (gI s1 5))))).toInt64)) →
    (p2 = 0 →
    Q s6) ∧ (¬ p2 = 0 →
    ∀ s7 : zS, s7 = sJ s6 2 ((gJ s6 2) + p1) →
    Q s7)
set_option maxHeartbeats 4000000 in
set_option maxRecDepth 100000 in
theorem c_X3_countTree (l : Launch) (D : va_G) (a : Nat → Nat) (g : Nat → ClassId) (s : zS) (p0 : Int32) (p1 : Int64) (p2 : Int32) (Q : zS → Prop) (hw : W_X3_countTree s p0 p1 p2 Q) : zMv l D (zT g) yX3_countTree wsX3_countTree ({ frames := 0, cells := 0, slots := 0, locals := 0 } : Room) [.ref (a 3), .int p0, .long p1, .int p2] (WX a g) s (fun u => Q u) := by
  have i3 : ∀ w ∈ u_ws RX3 TX3 10, w ∈ wsX3_countTree := fun _ h => (List.mem_cons_of_mem _ (List.mem_append_right _ h))
  refine zMv_start (cc := cX3_countTree) (maxL := 5) (lv0 := [(0, .ref (a 3)), (1, .int p0), (2, .long p1), (4, .int p2)]) (own := RX3) rfl (plainFor_of_name (by decide)) rfl (Nat.le_of_ble_eq_true rfl) rfl (fun X C hR hL hE => ?_)
  refine z_aload_n C 0 dX3_countTree_0 rfl ?_
  refine z_dup C dX3_countTree_1 rfl ?_
  refine zg3_weightOfAll C i3 (List.mem_of_getElem? (i := 1) rfl) dX3_countTree_2 ?_
  refine z_lload_n C 2 dX3_countTree_5 rfl ?_
  refine z_ladd C dX3_countTree_6 ?_
  refine zp3_weightOfAll C i3 (List.mem_of_getElem? (i := 1) rfl) dX3_countTree_7 ?_
  refine z_topsWX (fun s1 es1 => ?_)
  have hw := hw s1 es1
  refine z_aload_n C 0 dX3_countTree_10 rfl ?_
  refine z_dup C dX3_countTree_11 rfl ?_
  refine zg3_weightedRises C i3 (List.mem_of_getElem? (i := 2) rfl) dX3_countTree_12 ?_
  refine z_lload_n C 2 dX3_countTree_15 rfl ?_
  refine z_aload_n C 0 dX3_countTree_16 rfl ?_
  refine zg3_rise C i3 (List.mem_of_getElem? (i := 3) rfl) dX3_countTree_17 ?_
  refine z_iload_n C 1 dX3_countTree_20 rfl ?_
  obtain ⟨b2, hw⟩ := hw
  refine zr3_rise C b2 dX3_countTree_21 ?_
  refine z_aload_n C 0 dX3_countTree_22 rfl ?_
  refine zg3_askedStation C i3 (List.mem_of_getElem? (i := 4) rfl) dX3_countTree_23 ?_
  obtain ⟨b3, hw⟩ := hw
  refine zl3_rise C _ (z_lt b2) b3 dX3_countTree_26 ?_
  refine z_aload_n C 0 dX3_countTree_27 rfl ?_
  refine zg3_rise C i3 (List.mem_of_getElem? (i := 3) rfl) dX3_countTree_28 ?_
  refine z_iload_n C 1 dX3_countTree_31 rfl ?_
  obtain ⟨b4, hw⟩ := hw
  refine zr3_rise C b4 dX3_countTree_32 ?_
  refine z_aload_n C 0 dX3_countTree_33 rfl ?_
  refine zg3_datum C i3 (List.mem_of_getElem? (i := 5) rfl) dX3_countTree_34 ?_
  obtain ⟨b5, hw⟩ := hw
  refine zl3_rise C _ (z_lt b4) b5 dX3_countTree_37 ?_
  refine z_isub C dX3_countTree_38 ?_
  refine z_i2l C dX3_countTree_39 ?_
  refine z_lmul C dX3_countTree_40 ?_
  refine z_ladd C dX3_countTree_41 ?_
  refine zp3_weightedRises C i3 (List.mem_of_getElem? (i := 2) rfl) dX3_countTree_42 ?_
  refine z_topsWX (fun s6 es6 => ?_)
  have hw := hw s6 es6
  refine z_iload C 3 dX3_countTree_45 rfl ?_
  refine z_if_eq C 60 dX3_countTree_47 (by decide) (fun hc => ?_) (fun hc => ?_)
  · have hw := hw.1 hc
    exact hE _ _ _ _ _ dX3_countTree_60 (Nat.le_refl _) (Nat.le_refl _) hw
  · have hw := hw.2 hc
    refine z_aload_n C 0 dX3_countTree_50 rfl ?_
    refine z_dup C dX3_countTree_51 rfl ?_
    refine zg3_weightOfThoseWithAsked C i3 (List.mem_of_getElem? (i := 6) rfl) dX3_countTree_52 ?_
    refine z_lload_n C 2 dX3_countTree_55 rfl ?_
    refine z_ladd C dX3_countTree_56 ?_
    refine zp3_weightOfThoseWithAsked C i3 (List.mem_of_getElem? (i := 6) rfl) dX3_countTree_57 ?_
    refine z_topsWX (fun s7 es7 => ?_)
    have hw := hw s7 es7
    exact hE _ _ _ _ _ dX3_countTree_60 (Nat.le_refl _) (Nat.le_refl _) hw
def W_X3_joinsPieces (s : zS) (p0 : Int32) (p1 : Int32) (Q : Int32 → Prop) : Prop :=
    W_X1_isInPartOf s p1 (gI s 5) (fun r1 =>
    (r1 = 0 →
    Q 0) ∧ (¬ r1 = 0 →
    vp_in p0 6 ∧
    vp_in p1 14 ∧
    vp_in (gF s 3 (ix p1)) 6 ∧
    vp_in p0 6 ∧
    vp_in p1 14 ∧
    vp_in (gF s 4 (ix p1)) 6 ∧
    ((gF s (9 + (ix p0)) (ix (gF s 3 (ix p1)))) = (gF s (9 + (ix p0)) (ix (gF s 4 (ix p1)))) →
    Q 0) ∧ (¬ (gF s (9 + (ix p0)) (ix (gF s 3 (ix p1)))) = (gF s (9 + (ix p0)) (ix (gF s 4 (ix p1)))) →
    Q 1)))
set_option maxHeartbeats 4000000 in
set_option maxRecDepth 100000 in
theorem c_X3_joinsPieces (l : Launch) (D : va_G) (a : Nat → Nat) (g : Nat → ClassId) (s : zS) (p0 : Int32) (p1 : Int32) (Q : Int32 → Prop) (hw : W_X3_joinsPieces s p0 p1 Q) : zMi l D (zT g) yX3_joinsPieces wsX3_joinsPieces ({ frames := 2, cells := 0, slots := 0, locals := 44 } : Room) [.ref (a 3), .int p0, .int p1] (WX a g) s (fun r u => s = u ∧ Q r) := by
  have i1 : ∀ w ∈ u_ws RX1 TX1 10, w ∈ wsX3_joinsPieces := fun _ h => (List.mem_cons_of_mem _ (List.mem_append_right _ h))
  have i3 : ∀ w ∈ u_ws RX3 TX3 10, w ∈ wsX3_joinsPieces := fun _ h => (List.mem_cons_of_mem _ (List.mem_append_left _ (List.mem_append_right _ h)))
  refine zMi_start (cc := cX3_joinsPieces) (maxL := 3) (lv0 := [(0, .ref (a 3)), (1, .int p0), (2, .int p1)]) (own := RX3) rfl (plainFor_of_name (by decide)) rfl (Nat.le_of_ble_eq_true rfl) rfl (fun X C hR hL hE => ?_)
  refine z_aload_n C 0 dX3_joinsPieces_0 rfl ?_
  refine zg3_net C i3 (List.mem_of_getElem? (i := 1) rfl) dX3_joinsPieces_1 ?_
  refine z_iload_n C 2 dX3_joinsPieces_4 rfl ?_
  refine z_aload_n C 0 dX3_joinsPieces_5 rfl ?_
  refine zg3_datum C i3 (List.mem_of_getElem? (i := 2) rfl) dX3_joinsPieces_6 ?_
  refine z_call0iV C hR hL (As := [.int p1, .int (gI s 5)]) (c_X1_isInPartOf l D a g s p1 (gI s 5) _ hw) gX3_joinsPieces_X1_isInPartOf rfl ⟨by decide +kernel, by decide +kernel, (show (parseMethodDescriptor yX1_isInPartOf.desc).map (fun d => d.parameters.length) = some 2 from by decide +kernel)⟩ ⟨rfl, rfl⟩ ⟨Nat.le_of_ble_eq_true rfl, Nat.le_of_ble_eq_true rfl⟩ ⟨Nat.le_of_ble_eq_true rfl, Nat.le_of_ble_eq_true rfl⟩ 1 1 rfl rfl rfl rfl (Nat.le_of_ble_eq_true rfl) dX3_joinsPieces_9 (fun r1 s2 h3 => ?_)
  obtain ⟨es2, hw⟩ := h3
  subst es2
  refine z_if_eq C 54 dX3_joinsPieces_12 (by decide) (fun hc => ?_) (fun hc => ?_)
  · have hw := hw.1 hc
    refine z_iconst C 0 dX3_joinsPieces_54 (by decide) ?_
    exact hE _ _ _ _ _ _ dX3_joinsPieces_55 rfl (Nat.le_refl _) (Nat.le_refl _) ⟨rfl, hw⟩
  · have hw := hw.2 hc
    refine z_aload_n C 0 dX3_joinsPieces_15 rfl ?_
    refine zg3_piece C i3 (List.mem_of_getElem? (i := 3) rfl) dX3_joinsPieces_16 ?_
    refine z_iload_n C 1 dX3_joinsPieces_19 rfl ?_
    obtain ⟨b4, hw⟩ := hw
    refine zr3_piece C b4 dX3_joinsPieces_20 ?_
    refine z_aload_n C 0 dX3_joinsPieces_21 rfl ?_
    refine zg3_net C i3 (List.mem_of_getElem? (i := 1) rfl) dX3_joinsPieces_22 ?_
    refine zg1_from C i1 (List.mem_of_getElem? (i := 4) rfl) dX3_joinsPieces_25 ?_
    refine z_iload_n C 2 dX3_joinsPieces_28 rfl ?_
    obtain ⟨b5, hw⟩ := hw
    refine zl1_from C b5 dX3_joinsPieces_29 ?_
    obtain ⟨b6, hw⟩ := hw
    refine zl3_piece C _ (z_lt b4) b6 dX3_joinsPieces_30 ?_
    refine z_aload_n C 0 dX3_joinsPieces_31 rfl ?_
    refine zg3_piece C i3 (List.mem_of_getElem? (i := 3) rfl) dX3_joinsPieces_32 ?_
    refine z_iload_n C 1 dX3_joinsPieces_35 rfl ?_
    obtain ⟨b7, hw⟩ := hw
    refine zr3_piece C b7 dX3_joinsPieces_36 ?_
    refine z_aload_n C 0 dX3_joinsPieces_37 rfl ?_
    refine zg3_net C i3 (List.mem_of_getElem? (i := 1) rfl) dX3_joinsPieces_38 ?_
    refine zg1_to C i1 (List.mem_of_getElem? (i := 5) rfl) dX3_joinsPieces_41 ?_
    refine z_iload_n C 2 dX3_joinsPieces_44 rfl ?_
    obtain ⟨b8, hw⟩ := hw
    refine zl1_to C b8 dX3_joinsPieces_45 ?_
    obtain ⟨b9, hw⟩ := hw
    refine zl3_piece C _ (z_lt b7) b9 dX3_joinsPieces_46 ?_
    refine z_icmp_eq C 54 dX3_joinsPieces_47 (by decide) (fun hc => ?_) (fun hc => ?_)
    · have hw := hw.1 hc
      refine z_iconst C 0 dX3_joinsPieces_54 (by decide) ?_
      exact hE _ _ _ _ _ _ dX3_joinsPieces_55 rfl (Nat.le_refl _) (Nat.le_refl _) ⟨rfl, hw⟩
    · have hw := hw.2 hc
      refine z_iconst C 1 dX3_joinsPieces_50 (by decide) ?_
      refine z_goto C 55 dX3_joinsPieces_51 (by decide) ?_
      exact hE _ _ _ _ _ _ dX3_joinsPieces_55 rfl (Nat.le_refl _) (Nat.le_refl _) ⟨rfl, hw⟩
def W_X3_joinPieces_L54 (p0 : Int32) (x2 : Int32) (x4 : Int32) (x10 : Int32) (Q : zS → Prop) (K : zS → Prop) : Nat → Int32 → zS → Prop
  | 0, _, _ => False
  | n + 1, v18, s19 =>
    ((gI s19 0) ≤ v18 →
    K s19) ∧ (¬ (gI s19 0) ≤ v18 →
    vp_in p0 6 ∧
    vp_in v18 6 ∧
    vp_in p0 6 ∧
    vp_in x4 6 ∧
    ∃ k24 : Int32 → Prop, (∀ (v27 : Int32), k24 v27 →
    ∀ x28 : Int32, x28 = v27 →
    vp_in (p0 + 1) 6 ∧
    ∃ k30 : Int32 → Prop, (∀ (v33 : Int32), k30 v33 →
    vp_in v18 6 ∧
    ∀ s35 : zS, s35 = sF s19 (9 + (ix (p0 + 1))) (ix v18) v33 →
    vp_in (p0 + 1) 6 ∧
    (x28 = 0 →
    vp_in p0 6 ∧
    vp_in v18 6 ∧
    vp_in v18 6 ∧
    ∀ s40 : zS, s40 = sF s35 (15 + (ix (p0 + 1))) (ix v18) (gF s35 (15 + (ix p0)) (ix v18)) →
    ∀ x41 : Int32, x41 = v18 + 1 →
    W_X3_joinPieces_L54 p0 x2 x4 x10 Q K n x41 s40) ∧ (¬ x28 = 0 →
    vp_in p0 6 ∧
    vp_in v18 6 ∧
    vp_in v18 6 ∧
    ∀ s45 : zS, s45 = sF s35 (15 + (ix (p0 + 1))) (ix v18) ((gF s35 (15 + (ix p0)) (ix v18)) + x10) →
    ∀ x46 : Int32, x46 = v18 + 1 →
    W_X3_joinPieces_L54 p0 x2 x4 x10 Q K n x46 s45)) ∧ ((x28 = 0 →
    vp_in p0 6 ∧
    vp_in v18 6 ∧
    k30 (gF s19 (9 + (ix p0)) (ix v18))) ∧ (¬ x28 = 0 →
    vp_in p0 6 ∧
    vp_in x2 6 ∧
    k30 (gF s19 (9 + (ix p0)) (ix x2))))) ∧ ((¬ (gF s19 (9 + (ix p0)) (ix v18)) = (gF s19 (9 + (ix p0)) (ix x4)) →
    k24 0) ∧ ((gF s19 (9 + (ix p0)) (ix v18)) = (gF s19 (9 + (ix p0)) (ix x4)) →
    k24 1)))
def W_X3_joinPieces (s : zS) (p0 : Int32) (p1 : Int32) (Q : zS → Prop) : Prop :=
    vp_in p1 14 ∧
    ∀ x2 : Int32, x2 = (gF s 3 (ix p1)) →
    vp_in p1 14 ∧
    ∀ x4 : Int32, x4 = (gF s 4 (ix p1)) →
    vp_in p0 6 ∧
    vp_in x2 6 ∧
    vp_in p1 14 ∧
    vp_in p0 6 ∧
    vp_in x4 6 ∧
    ∀ x10 : Int32, x10 = (((gF s (15 + (ix p0)) (ix x2)) + (gF s 5 (ix p1))) - (gF s (15 + (ix p0)) (ix x4))) →
    ∀ x11 : Int32, x11 = 0 →
    ∃ (K12 : zS → Prop) (n13 : Nat), (∀  (s17 : zS), K12 s17 →
    Q s17) ∧ W_X3_joinPieces_L54 p0 x2 x4 x10 Q K12 n13 x11 s
set_option maxHeartbeats 4000000 in
set_option maxRecDepth 100000 in
theorem c_X3_joinPieces (l : Launch) (D : va_G) (a : Nat → Nat) (g : Nat → ClassId) (s : zS) (p0 : Int32) (p1 : Int32) (Q : zS → Prop) (hw : W_X3_joinPieces s p0 p1 Q) : zMv l D (zT g) yX3_joinPieces wsX3_joinPieces ({ frames := 0, cells := 0, slots := 0, locals := 0 } : Room) [.ref (a 3), .int p0, .int p1] (WX a g) s (fun u => Q u) := by
  have i1 : ∀ w ∈ u_ws RX1 TX1 10, w ∈ wsX3_joinPieces := fun _ h => (List.mem_cons_of_mem _ (List.mem_append_right _ h))
  have i3 : ∀ w ∈ u_ws RX3 TX3 10, w ∈ wsX3_joinPieces := fun _ h => (List.mem_cons_of_mem _ (List.mem_append_left _ (List.mem_append_right _ h)))
  refine zMv_start (cc := cX3_joinPieces) (maxL := 8) (lv0 := [(0, .ref (a 3)), (1, .int p0), (2, .int p1)]) (own := RX3) rfl (plainFor_of_name (by decide)) rfl (Nat.le_of_ble_eq_true rfl) rfl (fun X C hR hL hE => ?_)
  refine z_aload_n C 0 dX3_joinPieces_0 rfl ?_
  refine zg3_net C i3 (List.mem_of_getElem? (i := 1) rfl) dX3_joinPieces_1 ?_
  refine zg1_from C i1 (List.mem_of_getElem? (i := 2) rfl) dX3_joinPieces_4 ?_
  refine z_iload_n C 2 dX3_joinPieces_7 rfl ?_
  obtain ⟨b1, hw⟩ := hw
  refine zl1_from C b1 dX3_joinPieces_8 ?_
  refine z_topi (fun x2 ex2 => ?_)
  have hw := hw x2 ex2
  refine z_istore_n (lv' := [(3, .int x2), (0, .ref (a 3)), (1, .int p0), (2, .int p1)]) C 3 dX3_joinPieces_9 rfl (by decide) rfl ?_
  refine z_aload_n C 1 dX3_joinPieces_10 rfl ?_
  refine zg3_net C i3 (List.mem_of_getElem? (i := 1) rfl) dX3_joinPieces_11 ?_
  refine zg1_to C i1 (List.mem_of_getElem? (i := 3) rfl) dX3_joinPieces_14 ?_
  refine z_iload_n C 3 dX3_joinPieces_17 rfl ?_
  obtain ⟨b3, hw⟩ := hw
  refine zl1_to C b3 dX3_joinPieces_18 ?_
  refine z_topi (fun x4 ex4 => ?_)
  have hw := hw x4 ex4
  refine z_istore (lv' := [(4, .int x4), (3, .int x2), (0, .ref (a 3)), (1, .int p0), (2, .int p1)]) C dX3_joinPieces_19 (by decide) rfl ?_
  refine z_aload_n C 2 dX3_joinPieces_21 rfl ?_
  refine zg3_rise C i3 (List.mem_of_getElem? (i := 4) rfl) dX3_joinPieces_22 ?_
  refine z_iload_n C 3 dX3_joinPieces_25 rfl ?_
  obtain ⟨b5, hw⟩ := hw
  refine zr3_rise C b5 dX3_joinPieces_26 ?_
  refine z_iload_n C 1 dX3_joinPieces_27 rfl ?_
  obtain ⟨b6, hw⟩ := hw
  refine zl3_rise C _ (z_lt b5) b6 dX3_joinPieces_28 ?_
  refine z_aload_n C 2 dX3_joinPieces_29 rfl ?_
  refine zg3_net C i3 (List.mem_of_getElem? (i := 1) rfl) dX3_joinPieces_30 ?_
  refine zg1_difference C i1 (List.mem_of_getElem? (i := 5) rfl) dX3_joinPieces_33 ?_
  refine z_iload_n C 4 dX3_joinPieces_36 rfl ?_
  obtain ⟨b7, hw⟩ := hw
  refine zl1_difference C b7 dX3_joinPieces_37 ?_
  refine z_iadd C dX3_joinPieces_38 ?_
  refine z_aload_n C 2 dX3_joinPieces_39 rfl ?_
  refine zg3_rise C i3 (List.mem_of_getElem? (i := 4) rfl) dX3_joinPieces_40 ?_
  refine z_iload_n C 3 dX3_joinPieces_43 rfl ?_
  obtain ⟨b8, hw⟩ := hw
  refine zr3_rise C b8 dX3_joinPieces_44 ?_
  refine z_iload C 0 dX3_joinPieces_45 rfl ?_
  obtain ⟨b9, hw⟩ := hw
  refine zl3_rise C _ (z_lt b8) b9 dX3_joinPieces_47 ?_
  refine z_isub C dX3_joinPieces_48 ?_
  refine z_topi (fun x10 ex10 => ?_)
  have hw := hw x10 ex10
  refine z_istore (lv' := [(5, .int x10), (4, .int x4), (3, .int x2), (0, .ref (a 3)), (1, .int p0), (2, .int p1)]) C dX3_joinPieces_49 (by decide) rfl ?_
  refine z_iconst C 0 dX3_joinPieces_51 (by decide) ?_
  refine z_topi (fun x11 ex11 => ?_)
  have hw := hw x11 ex11
  refine z_istore (lv' := [(6, .int x11), (5, .int x10), (4, .int x4), (3, .int x2), (0, .ref (a 3)), (1, .int p0), (2, .int p1)]) C dX3_joinPieces_52 (by decide) rfl ?_
  refine z_sub (lv' := [(0, .ref (a 3)), (1, .int p0), (3, .int x2), (4, .int x4), (5, .int x10), (6, .int x11)]) [4, 5, 3, 2, 1, 0] rfl ?_
  obtain ⟨K12, n13, hK14, hw⟩ := hw
  have hx15 : ∀ (s17 : zS), K12 s17 → zV X D 8 0 0 (WX a g s17) 176 [] [] := by
    intro s17 hw0
    have hw := hK14 s17 hw0
    exact hE _ _ _ _ _ dX3_joinPieces_176 (Nat.le_refl _) (Nat.le_refl _) hw
  have lp16 : ∀ (n : Nat) (v18 : Int32) (s19 : zS), W_X3_joinPieces_L54 p0 x2 x4 x10 Q K12 n v18 s19 → zV X D 8 0 0 (WX a g s19) 54 [(0, .ref (a 3)), (1, .int p0), (3, .int x2), (4, .int x4), (5, .int x10), (6, .int v18)] [] := by
    intro n
    induction n with
    | zero => intro v18 s19 hw; exact False.elim hw
    | succ n ih =>
      intro v18 s19 hw
      refine z_iload C 5 dX3_joinPieces_54 rfl ?_
      refine z_aload_n C 0 dX3_joinPieces_56 rfl ?_
      refine zg3_net C i3 (List.mem_of_getElem? (i := 1) rfl) dX3_joinPieces_57 ?_
      refine zg1_stations C i1 (List.mem_of_getElem? (i := 6) rfl) dX3_joinPieces_60 ?_
      refine z_icmp_ge C 176 dX3_joinPieces_63 (by decide) (fun hc => ?_) (fun hc => ?_)
      · have hw := hw.1 hc
        refine z_sub (lv' := []) [] rfl ?_
        exact hx15 _ hw
      · have hw := hw.2 hc
        refine z_aload_n C 0 dX3_joinPieces_66 rfl ?_
        refine zg3_piece C i3 (List.mem_of_getElem? (i := 7) rfl) dX3_joinPieces_67 ?_
        refine z_iload_n C 1 dX3_joinPieces_70 rfl ?_
        obtain ⟨b20, hw⟩ := hw
        refine zr3_piece C b20 dX3_joinPieces_71 ?_
        refine z_iload C 5 dX3_joinPieces_72 rfl ?_
        obtain ⟨b21, hw⟩ := hw
        refine zl3_piece C _ (z_lt b20) b21 dX3_joinPieces_74 ?_
        refine z_aload_n C 0 dX3_joinPieces_75 rfl ?_
        refine zg3_piece C i3 (List.mem_of_getElem? (i := 7) rfl) dX3_joinPieces_76 ?_
        refine z_iload_n C 1 dX3_joinPieces_79 rfl ?_
        obtain ⟨b22, hw⟩ := hw
        refine zr3_piece C b22 dX3_joinPieces_80 ?_
        refine z_iload C 3 dX3_joinPieces_81 rfl ?_
        obtain ⟨b23, hw⟩ := hw
        refine zl3_piece C _ (z_lt b22) b23 dX3_joinPieces_83 ?_
        obtain ⟨k24, hk25, hw⟩ := hw
        have hj26 : ∀ (v27 : Int32), k24 v27 → zV X D 8 0 0 (WX a g s19) 92 [(0, .ref (a 3)), (1, .int p0), (3, .int x2), (4, .int x4), (5, .int x10), (6, .int v18)] [.int v27] := by
          intro v27 hw0
          have hw := hk25 v27 hw0
          refine z_topi (fun x28 ex28 => ?_)
          have hw := hw x28 ex28
          refine z_istore (lv' := [(7, .int x28), (0, .ref (a 3)), (1, .int p0), (3, .int x2), (4, .int x4), (5, .int x10), (6, .int v18)]) C dX3_joinPieces_92 (by decide) rfl ?_
          refine z_aload_n C 1 dX3_joinPieces_94 rfl ?_
          refine zg3_piece C i3 (List.mem_of_getElem? (i := 7) rfl) dX3_joinPieces_95 ?_
          refine z_iload_n C 2 dX3_joinPieces_98 rfl ?_
          refine z_iconst C 1 dX3_joinPieces_99 (by decide) ?_
          refine z_iadd C dX3_joinPieces_100 ?_
          obtain ⟨b29, hw⟩ := hw
          refine zr3_piece C b29 dX3_joinPieces_101 ?_
          refine z_iload C 6 dX3_joinPieces_102 rfl ?_
          refine z_iload C 0 dX3_joinPieces_104 rfl ?_
          obtain ⟨k30, hk31, hw⟩ := hw
          have hj32 : ∀ (v33 : Int32), k30 v33 → zV X D 8 0 0 (WX a g s19) 129 [(0, .ref (a 3)), (1, .int p0), (3, .int x2), (4, .int x4), (5, .int x10), (6, .int v18), (7, .int x28)] [.int v33, .int v18, .ref (a (20 + 1 + ix (p0 + 1)))] := by
            intro v33 hw0
            have hw := hk31 v33 hw0
            obtain ⟨b34, hw⟩ := hw
            refine zs3_piece C _ (z_lt b29) b34 dX3_joinPieces_129 ?_
            refine z_topsWX (fun s35 es35 => ?_)
            have hw := hw s35 es35
            refine z_aload_n C 0 dX3_joinPieces_130 rfl ?_
            refine zg3_rise C i3 (List.mem_of_getElem? (i := 4) rfl) dX3_joinPieces_131 ?_
            refine z_iload_n C 1 dX3_joinPieces_134 rfl ?_
            refine z_iconst C 1 dX3_joinPieces_135 (by decide) ?_
            refine z_iadd C dX3_joinPieces_136 ?_
            obtain ⟨b36, hw⟩ := hw
            refine zr3_rise C b36 dX3_joinPieces_137 ?_
            refine z_iload C 5 dX3_joinPieces_138 rfl ?_
            refine z_iload C 6 dX3_joinPieces_140 rfl ?_
            refine z_if_eq C 160 dX3_joinPieces_142 (by decide) (fun hc => ?_) (fun hc => ?_)
            · have hw := hw.1 hc
              refine z_aload_n C 0 dX3_joinPieces_160 rfl ?_
              refine zg3_rise C i3 (List.mem_of_getElem? (i := 4) rfl) dX3_joinPieces_161 ?_
              refine z_iload_n C 1 dX3_joinPieces_164 rfl ?_
              obtain ⟨b37, hw⟩ := hw
              refine zr3_rise C b37 dX3_joinPieces_165 ?_
              refine z_iload C 5 dX3_joinPieces_166 rfl ?_
              obtain ⟨b38, hw⟩ := hw
              refine zl3_rise C _ (z_lt b37) b38 dX3_joinPieces_168 ?_
              obtain ⟨b39, hw⟩ := hw
              refine zs3_rise C _ (z_lt b36) b39 dX3_joinPieces_169 ?_
              refine z_topsWX (fun s40 es40 => ?_)
              have hw := hw s40 es40
              obtain ⟨x41, ex41⟩ : ∃ z : Int32, z = v18 + 1 := ⟨_, rfl⟩
              have hw := hw x41 ex41
              refine z_iinc (lv' := [(6, .int x41), (0, .ref (a 3)), (1, .int p0), (3, .int x2), (4, .int x4), (5, .int x10), (7, .int x28)]) C 5 dX3_joinPieces_170 rfl (by rw [ex41]; rfl) (by decide) rfl ?_
              refine z_goto C 54 dX3_joinPieces_173 (by decide) ?_
              refine z_sub (lv' := [(0, .ref (a 3)), (1, .int p0), (3, .int x2), (4, .int x4), (5, .int x10), (6, .int x41)]) [1, 2, 3, 4, 5, 0] rfl ?_
              exact ih _ _ hw
            · have hw := hw.2 hc
              refine z_aload_n C 0 dX3_joinPieces_145 rfl ?_
              refine zg3_rise C i3 (List.mem_of_getElem? (i := 4) rfl) dX3_joinPieces_146 ?_
              refine z_iload_n C 1 dX3_joinPieces_149 rfl ?_
              obtain ⟨b42, hw⟩ := hw
              refine zr3_rise C b42 dX3_joinPieces_150 ?_
              refine z_iload C 5 dX3_joinPieces_151 rfl ?_
              obtain ⟨b43, hw⟩ := hw
              refine zl3_rise C _ (z_lt b42) b43 dX3_joinPieces_153 ?_
              refine z_iload C 4 dX3_joinPieces_154 rfl ?_
              refine z_iadd C dX3_joinPieces_156 ?_
              refine z_goto C 169 dX3_joinPieces_157 (by decide) ?_
              obtain ⟨b44, hw⟩ := hw
              refine zs3_rise C _ (z_lt b36) b44 dX3_joinPieces_169 ?_
              refine z_topsWX (fun s45 es45 => ?_)
              have hw := hw s45 es45
              obtain ⟨x46, ex46⟩ : ∃ z : Int32, z = v18 + 1 := ⟨_, rfl⟩
              have hw := hw x46 ex46
              refine z_iinc (lv' := [(6, .int x46), (0, .ref (a 3)), (1, .int p0), (3, .int x2), (4, .int x4), (5, .int x10), (7, .int x28)]) C 5 dX3_joinPieces_170 rfl (by rw [ex46]; rfl) (by decide) rfl ?_
              refine z_goto C 54 dX3_joinPieces_173 (by decide) ?_
              refine z_sub (lv' := [(0, .ref (a 3)), (1, .int p0), (3, .int x2), (4, .int x4), (5, .int x10), (6, .int x46)]) [1, 2, 3, 4, 5, 0] rfl ?_
              exact ih _ _ hw
          refine z_if_eq C 120 dX3_joinPieces_106 (by decide) (fun hc => ?_) (fun hc => ?_)
          · have hw := hw.1 hc
            refine z_aload_n C 1 dX3_joinPieces_120 rfl ?_
            refine zg3_piece C i3 (List.mem_of_getElem? (i := 7) rfl) dX3_joinPieces_121 ?_
            refine z_iload_n C 2 dX3_joinPieces_124 rfl ?_
            obtain ⟨b47, hw⟩ := hw
            refine zr3_piece C b47 dX3_joinPieces_125 ?_
            refine z_iload C 6 dX3_joinPieces_126 rfl ?_
            obtain ⟨b48, hw⟩ := hw
            refine zl3_piece C _ (z_lt b47) b48 dX3_joinPieces_128 ?_
            refine z_sub (lv' := [(0, .ref (a 3)), (1, .int p0), (3, .int x2), (4, .int x4), (5, .int x10), (6, .int v18), (7, .int x28)]) [1, 2, 3, 4, 5, 6, 0] rfl ?_
            exact hj32 _ hw
          · have hw := hw.2 hc
            refine z_aload_n C 1 dX3_joinPieces_109 rfl ?_
            refine zg3_piece C i3 (List.mem_of_getElem? (i := 7) rfl) dX3_joinPieces_110 ?_
            refine z_iload_n C 2 dX3_joinPieces_113 rfl ?_
            obtain ⟨b49, hw⟩ := hw
            refine zr3_piece C b49 dX3_joinPieces_114 ?_
            refine z_iload_n C 3 dX3_joinPieces_115 rfl ?_
            obtain ⟨b50, hw⟩ := hw
            refine zl3_piece C _ (z_lt b49) b50 dX3_joinPieces_116 ?_
            refine z_goto C 129 dX3_joinPieces_117 (by decide) ?_
            refine z_sub (lv' := [(0, .ref (a 3)), (1, .int p0), (3, .int x2), (4, .int x4), (5, .int x10), (6, .int v18), (7, .int x28)]) [1, 2, 3, 4, 5, 6, 0] rfl ?_
            exact hj32 _ hw
        refine z_icmp_ne C 91 dX3_joinPieces_84 (by decide) (fun hc => ?_) (fun hc => ?_)
        · have hw := hw.1 hc
          refine z_iconst C 0 dX3_joinPieces_91 (by decide) ?_
          exact hj26 _ hw
        · have hw := hw.2 hc
          refine z_iconst C 1 dX3_joinPieces_87 (by decide) ?_
          refine z_goto C 92 dX3_joinPieces_88 (by decide) ?_
          exact hj26 _ hw
  exact lp16 n13 _ _ hw
def W_X3_grow_L25 (rec : zS → Int32 → Int32 → Int64 → Int32 → (zS → Prop) → Prop) (p0 : Int32) (p2 : Int64) (p3 : Int32) (Q : zS → Prop) (K : zS → Prop) : Nat → Int32 → zS → Prop
  | 0, _, _ => False
  | n + 1, v11, s12 =>
    ((gI s12 1) ≤ v11 →
    K s12) ∧ (¬ (gI s12 1) ≤ v11 →
    W_X3_joinsPieces s12 p0 v11 (fun r13 =>
    (r13 = 0 →
    ∀ x16 : Int32, x16 = v11 + 1 →
    W_X3_grow_L25 rec p0 p2 p3 Q K n x16 s12) ∧ (¬ r13 = 0 →
    W_X3_joinPieces s12 p0 v11 (fun s18 =>
    ∃ k20 : Int32 → Prop, (∀ (v23 : Int32), k20 v23 →
    ∀ x24 : Int32, x24 = v23 →
    vp_in v11 14 ∧
    rec s18 (p0 + 1) (v11 + 1) (p2 * ((gF s18 6 (ix v11))).toInt64) x24 (fun s27 =>
    ∀ x29 : Int32, x29 = v11 + 1 →
    W_X3_grow_L25 rec p0 p2 p3 Q K n x29 s27)) ∧ ((¬ p3 = 0 →
    k20 1) ∧ (p3 = 0 →
    (¬ v11 = (gI s18 7) →
    k20 0) ∧ (v11 = (gI s18 7) →
    k20 1)))))))
def W_X3_grow_B (rec : zS → Int32 → Int32 → Int64 → Int32 → (zS → Prop) → Prop) (s : zS) (p0 : Int32) (p1 : Int32) (p2 : Int64) (p3 : Int32) (Q : zS → Prop) : Prop :=
    ((gI s 4) ≤ p0 →
    W_X3_countTree s p0 p2 p3 (fun s2 =>
    Q s2)) ∧ (¬ (gI s 4) ≤ p0 →
    (p0 < 5 →
    ∀ x4 : Int32, x4 = p1 →
    ∃ (K5 : zS → Prop) (n6 : Nat), (∀  (s10 : zS), K5 s10 →
    Q s10) ∧ W_X3_grow_L25 rec p0 p2 p3 Q K5 n6 x4 s) ∧ (¬ p0 < 5 →
    W_X3_countTree s p0 p2 p3 (fun s31 =>
    Q s31)))
def W_X3_grow : Nat → zS → Int32 → Int32 → Int64 → Int32 → (zS → Prop) → Prop
  | 0, _, _, _, _, _, _ => False
  | d + 1, s, p0, p1, p2, p3, Q => W_X3_grow_B (W_X3_grow d) s p0 p1 p2 p3 Q
set_option maxHeartbeats 4000000 in
set_option maxRecDepth 100000 in
theorem c_X3_grow (l : Launch) (D : va_G) (a : Nat → Nat) (g : Nat → ClassId) : ∀ (d : Nat) (s : zS) (p0 : Int32) (p1 : Int32) (p2 : Int64) (p3 : Int32) (Q : zS → Prop) (hw : W_X3_grow d s p0 p1 p2 p3 Q), zMv l D (zT g) yX3_grow wsX3_grow ({ frames := d + 3, cells := 0, slots := 0, locals := d * 27 + 66 } : Room) [.ref (a 3), .int p0, .int p1, .long p2, .int p3] (WX a g) s (fun u => Q u) := by
  intro d
  induction d with
  | zero => intro s p0 p1 p2 p3 Q hw; exact False.elim hw
  | succ d hrec =>
  intro s p0 p1 p2 p3 Q hw
  have i1 : ∀ w ∈ u_ws RX1 TX1 10, w ∈ wsX3_grow := fun _ h => (List.mem_cons_of_mem _ (List.mem_append_right _ h))
  have i3 : ∀ w ∈ u_ws RX3 TX3 10, w ∈ wsX3_grow := fun _ h => (List.mem_cons_of_mem _ (List.mem_append_left _ (List.mem_append_right _ h)))
  refine zMv_start (cc := cX3_grow) (maxL := 8) (lv0 := [(0, .ref (a 3)), (1, .int p0), (2, .int p1), (3, .long p2), (5, .int p3)]) (own := RX3) rfl (plainFor_of_name (by decide)) rfl (Nat.le_of_ble_eq_true rfl) rfl (fun X C hR hL hE => ?_)
  have hw : W_X3_grow_B (W_X3_grow d) s p0 p1 p2 p3 Q := hw
  refine z_iload_n C 1 dX3_grow_0 rfl ?_
  refine z_aload_n C 0 dX3_grow_1 rfl ?_
  refine zg3_branches C i3 (List.mem_of_getElem? (i := 1) rfl) dX3_grow_2 ?_
  refine z_icmp_ge C 13 dX3_grow_5 (by decide) (fun hc => ?_) (fun hc => ?_)
  · have hw := hw.1 hc
    refine z_aload_n C 0 dX3_grow_13 rfl ?_
    refine z_iload_n C 1 dX3_grow_14 rfl ?_
    refine z_lload_n C 3 dX3_grow_15 rfl ?_
    refine z_iload C 4 dX3_grow_16 rfl ?_
    refine z_call0vV C hR hL (As := [.int p0, .long p2, .int p3]) (c_X3_countTree l D a g s p0 p2 p3 _ hw) gX3_grow_X3_countTree rfl ⟨by decide +kernel, by decide +kernel, (show (parseMethodDescriptor yX3_countTree.desc).map (fun d => d.parameters.length) = some 3 from by decide +kernel)⟩ ⟨rfl, rfl⟩ ⟨by dsimp only; omega, by dsimp only; omega⟩ ⟨Nat.le_of_ble_eq_true rfl, Nat.le_of_ble_eq_true rfl⟩ 3 3 rfl rfl rfl rfl (Nat.le_of_ble_eq_true rfl) dX3_grow_18 (fun s2 h3 => ?_)
    have hw := h3
    exact hE _ _ _ _ _ dX3_grow_21 (Nat.le_refl _) (Nat.le_refl _) hw
  · have hw := hw.2 hc
    refine z_iload_n C 1 dX3_grow_8 rfl ?_
    refine z_iconst C 5 dX3_grow_9 (by decide) ?_
    refine z_icmp_lt C 22 dX3_grow_10 (by decide) (fun hc => ?_) (fun hc => ?_)
    · have hw := hw.1 hc
      refine z_iload_n C 2 dX3_grow_22 rfl ?_
      refine z_topi (fun x4 ex4 => ?_)
      have hw := hw x4 ex4
      refine z_istore (lv' := [(6, .int x4), (0, .ref (a 3)), (1, .int p0), (2, .int p1), (3, .long p2), (5, .int p3)]) C dX3_grow_23 (by decide) rfl ?_
      refine z_sub (lv' := [(0, .ref (a 3)), (1, .int p0), (3, .long p2), (5, .int p3), (6, .int x4)]) [1, 2, 4, 5, 0] rfl ?_
      obtain ⟨K5, n6, hK7, hw⟩ := hw
      have hx8 : ∀ (s10 : zS), K5 s10 → zV X D 8 0 0 (WX a g s10) 107 [] [] := by
        intro s10 hw0
        have hw := hK7 s10 hw0
        exact hE _ _ _ _ _ dX3_grow_107 (Nat.le_refl _) (Nat.le_refl _) hw
      have lp9 : ∀ (n : Nat) (v11 : Int32) (s12 : zS), W_X3_grow_L25 (W_X3_grow d) p0 p2 p3 Q K5 n v11 s12 → zV X D 8 0 0 (WX a g s12) 25 [(0, .ref (a 3)), (1, .int p0), (3, .long p2), (5, .int p3), (6, .int v11)] [] := by
        intro n
        induction n with
        | zero => intro v11 s12 hw; exact False.elim hw
        | succ n ih =>
          intro v11 s12 hw
          refine z_iload C 4 dX3_grow_25 rfl ?_
          refine z_aload_n C 0 dX3_grow_27 rfl ?_
          refine zg3_net C i3 (List.mem_of_getElem? (i := 2) rfl) dX3_grow_28 ?_
          refine zg1_observations C i1 (List.mem_of_getElem? (i := 3) rfl) dX3_grow_31 ?_
          refine z_icmp_ge C 107 dX3_grow_34 (by decide) (fun hc => ?_) (fun hc => ?_)
          · have hw := hw.1 hc
            refine z_sub (lv' := []) [] rfl ?_
            exact hx8 _ hw
          · have hw := hw.2 hc
            refine z_aload_n C 0 dX3_grow_37 rfl ?_
            refine z_iload_n C 1 dX3_grow_38 rfl ?_
            refine z_iload C 4 dX3_grow_39 rfl ?_
            refine z_call0iV C hR hL (As := [.int p0, .int v11]) (c_X3_joinsPieces l D a g s12 p0 v11 _ hw) gX3_grow_X3_joinsPieces rfl ⟨by decide +kernel, by decide +kernel, (show (parseMethodDescriptor yX3_joinsPieces.desc).map (fun d => d.parameters.length) = some 2 from by decide +kernel)⟩ ⟨rfl, rfl⟩ ⟨by dsimp only; omega, by dsimp only; omega⟩ ⟨Nat.le_of_ble_eq_true rfl, Nat.le_of_ble_eq_true rfl⟩ 3 3 rfl rfl rfl rfl (Nat.le_of_ble_eq_true rfl) dX3_grow_41 (fun r13 s14 h15 => ?_)
            obtain ⟨es14, hw⟩ := h15
            subst es14
            refine z_if_eq C 101 dX3_grow_44 (by decide) (fun hc => ?_) (fun hc => ?_)
            · have hw := hw.1 hc
              obtain ⟨x16, ex16⟩ : ∃ z : Int32, z = v11 + 1 := ⟨_, rfl⟩
              have hw := hw x16 ex16
              refine z_iinc (lv' := [(6, .int x16), (0, .ref (a 3)), (1, .int p0), (3, .long p2), (5, .int p3)]) C 4 dX3_grow_101 rfl (by rw [ex16]; rfl) (by decide) rfl ?_
              refine z_goto C 25 dX3_grow_104 (by decide) ?_
              refine z_sub (lv' := [(0, .ref (a 3)), (1, .int p0), (3, .long p2), (5, .int p3), (6, .int x16)]) [1, 2, 3, 4, 0] rfl ?_
              exact ih _ _ hw
            · have hw := hw.2 hc
              refine z_aload_n C 0 dX3_grow_47 rfl ?_
              refine z_iload_n C 1 dX3_grow_48 rfl ?_
              refine z_iload C 4 dX3_grow_49 rfl ?_
              refine z_call0vV C hR hL (As := [.int p0, .int v11]) (c_X3_joinPieces l D a g s12 p0 v11 _ hw) gX3_grow_X3_joinPieces rfl ⟨by decide +kernel, by decide +kernel, (show (parseMethodDescriptor yX3_joinPieces.desc).map (fun d => d.parameters.length) = some 2 from by decide +kernel)⟩ ⟨rfl, rfl⟩ ⟨by dsimp only; omega, by dsimp only; omega⟩ ⟨Nat.le_of_ble_eq_true rfl, Nat.le_of_ble_eq_true rfl⟩ 3 3 rfl rfl rfl rfl (Nat.le_of_ble_eq_true rfl) dX3_grow_51 (fun s18 h19 => ?_)
              have hw := h19
              refine z_iload C 3 dX3_grow_54 rfl ?_
              obtain ⟨k20, hk21, hw⟩ := hw
              have hj22 : ∀ (v23 : Int32), k20 v23 → zV X D 8 0 0 (WX a g s18) 73 [(0, .ref (a 3)), (1, .int p0), (3, .long p2), (5, .int p3), (6, .int v11)] [.int v23] := by
                intro v23 hw0
                have hw := hk21 v23 hw0
                refine z_topi (fun x24 ex24 => ?_)
                have hw := hw x24 ex24
                refine z_istore (lv' := [(7, .int x24), (0, .ref (a 3)), (1, .int p0), (3, .long p2), (5, .int p3), (6, .int v11)]) C dX3_grow_73 (by decide) rfl ?_
                refine z_aload_n C 1 dX3_grow_75 rfl ?_
                refine z_iload_n C 2 dX3_grow_76 rfl ?_
                refine z_iconst C 1 dX3_grow_77 (by decide) ?_
                refine z_iadd C dX3_grow_78 ?_
                refine z_iload C 5 dX3_grow_79 rfl ?_
                refine z_iconst C 1 dX3_grow_81 (by decide) ?_
                refine z_iadd C dX3_grow_82 ?_
                refine z_lload_n C 3 dX3_grow_83 rfl ?_
                refine z_aload_n C 1 dX3_grow_84 rfl ?_
                refine zg3_net C i3 (List.mem_of_getElem? (i := 2) rfl) dX3_grow_85 ?_
                refine zg1_weight C i1 (List.mem_of_getElem? (i := 5) rfl) dX3_grow_88 ?_
                refine z_iload C 5 dX3_grow_91 rfl ?_
                obtain ⟨b25, hw⟩ := hw
                refine zl1_weight C b25 dX3_grow_93 ?_
                refine z_i2l C dX3_grow_94 ?_
                refine z_lmul C dX3_grow_95 ?_
                refine z_iload C 0 dX3_grow_96 rfl ?_
                refine z_call0vS C hR hL (As := [.ref (a 3), .int (p0 + 1), .int (v11 + 1), .long (p2 * ((gF s18 6 (ix v11))).toInt64), .int x24]) (hrec s18 (p0 + 1) (v11 + 1) (p2 * ((gF s18 6 (ix v11))).toInt64) x24 _ hw) gX3_grow_X3_grow rfl ⟨by decide +kernel, by decide +kernel, (show (parseMethodDescriptor yX3_grow.desc).map (fun d => d.parameters.length) = some 5 from by decide +kernel)⟩ ⟨rfl, rfl⟩ ⟨by dsimp only; omega, by dsimp only; omega⟩ ⟨Nat.le_of_ble_eq_true rfl, Nat.le_of_ble_eq_true rfl⟩ rfl (Nat.le_of_ble_eq_true rfl) dX3_grow_98 (fun s27 h28 => ?_)
                have hw := h28
                obtain ⟨x29, ex29⟩ : ∃ z : Int32, z = v11 + 1 := ⟨_, rfl⟩
                have hw := hw x29 ex29
                refine z_iinc (lv' := [(6, .int x29), (7, .int x24), (0, .ref (a 3)), (1, .int p0), (3, .long p2), (5, .int p3)]) C 5 dX3_grow_101 rfl (by rw [ex29]; rfl) (by decide) rfl ?_
                refine z_goto C 25 dX3_grow_104 (by decide) ?_
                refine z_sub (lv' := [(0, .ref (a 3)), (1, .int p0), (3, .long p2), (5, .int p3), (6, .int x29)]) [2, 3, 4, 5, 0] rfl ?_
                exact ih _ _ hw
              refine z_if_ne C 68 dX3_grow_56 (by decide) (fun hc => ?_) (fun hc => ?_)
              · have hw := hw.1 hc
                refine z_iconst C 1 dX3_grow_68 (by decide) ?_
                refine z_goto C 73 dX3_grow_69 (by decide) ?_
                exact hj22 _ hw
              · have hw := hw.2 hc
                refine z_iload C 4 dX3_grow_59 rfl ?_
                refine z_aload_n C 0 dX3_grow_61 rfl ?_
                refine zg3_askedObservation C i3 (List.mem_of_getElem? (i := 4) rfl) dX3_grow_62 ?_
                refine z_icmp_ne C 72 dX3_grow_65 (by decide) (fun hc => ?_) (fun hc => ?_)
                · have hw := hw.1 hc
                  refine z_iconst C 0 dX3_grow_72 (by decide) ?_
                  exact hj22 _ hw
                · have hw := hw.2 hc
                  refine z_iconst C 1 dX3_grow_68 (by decide) ?_
                  refine z_goto C 73 dX3_grow_69 (by decide) ?_
                  exact hj22 _ hw
      exact lp9 n6 _ _ hw
    · have hw := hw.2 hc
      refine z_aload_n C 0 dX3_grow_13 rfl ?_
      refine z_iload_n C 1 dX3_grow_14 rfl ?_
      refine z_lload_n C 3 dX3_grow_15 rfl ?_
      refine z_iload C 4 dX3_grow_16 rfl ?_
      refine z_call0vV C hR hL (As := [.int p0, .long p2, .int p3]) (c_X3_countTree l D a g s p0 p2 p3 _ hw) gX3_grow_X3_countTree rfl ⟨by decide +kernel, by decide +kernel, (show (parseMethodDescriptor yX3_countTree.desc).map (fun d => d.parameters.length) = some 3 from by decide +kernel)⟩ ⟨rfl, rfl⟩ ⟨by dsimp only; omega, by dsimp only; omega⟩ ⟨Nat.le_of_ble_eq_true rfl, Nat.le_of_ble_eq_true rfl⟩ 3 3 rfl rfl rfl rfl (Nat.le_of_ble_eq_true rfl) dX3_grow_18 (fun s31 h32 => ?_)
      have hw := h32
      exact hE _ _ _ _ _ dX3_grow_21 (Nat.le_refl _) (Nat.le_refl _) hw
def W_X3_walk_L53 (Q : zS → Prop) (K : zS → Prop) : Nat → Int32 → zS → Prop
  | 0, _, _ => False
  | n + 1, v24, s25 =>
    ((gI s25 0) ≤ v24 →
    K s25) ∧ (¬ (gI s25 0) ≤ v24 →
    vp_in 0 6 ∧
    vp_in v24 6 ∧
    ∀ s28 : zS, s28 = sF s25 (9 + (ix 0)) (ix v24) v24 →
    vp_in 0 6 ∧
    vp_in v24 6 ∧
    ∀ s31 : zS, s31 = sF s28 (15 + (ix 0)) (ix v24) 0 →
    ∀ x32 : Int32, x32 = v24 + 1 →
    W_X3_walk_L53 Q K n x32 s31)
def W_X3_walk (s : zS) (p0 : Int32) (p1 : Int32) (Q : zS → Prop) : Prop :=
    ∀ s1 : zS, s1 = sI s 6 p0 →
    ∀ s2 : zS, s2 = sI s1 7 p1 →
    W_X1_datumOf s2 p0 (fun r3 =>
    ∀ s6 : zS, s6 = sI s2 5 r3 →
    W_X1_countStationsWith s6 p0 (fun r7 =>
    ∀ s10 : zS, s10 = sI s6 4 (r7 - 1) →
    ∀ s11 : zS, s11 = sJ s10 1 0 →
    ∀ s12 : zS, s12 = sJ s11 2 0 →
    ∀ s13 : zS, s13 = sJ s12 3 0 →
    ∀ x14 : Int32, x14 = 0 →
    ∃ (K15 : zS → Prop) (n16 : Nat), (∀ (s20 : zS), K15 s20 →
    W_X3_grow 6 s20 0 0 1 0 (fun s22 =>
    Q s22)) ∧ W_X3_walk_L53 Q K15 n16 x14 s13))
set_option maxHeartbeats 4000000 in
set_option maxRecDepth 100000 in
theorem c_X3_walk (l : Launch) (D : va_G) (a : Nat → Nat) (g : Nat → ClassId) (s : zS) (p0 : Int32) (p1 : Int32) (Q : zS → Prop) (hw : W_X3_walk s p0 p1 Q) : zMv l D (zT g) yX3_walk wsX3_walk ({ frames := 10, cells := 0, slots := 0, locals := 255 } : Room) [.ref (a 3), .int p0, .int p1] (WX a g) s (fun u => Q u) := by
  have i1 : ∀ w ∈ u_ws RX1 TX1 10, w ∈ wsX3_walk := fun _ h => (List.mem_cons_of_mem _ (List.mem_append_right _ h))
  have i3 : ∀ w ∈ u_ws RX3 TX3 10, w ∈ wsX3_walk := fun _ h => (List.mem_cons_of_mem _ (List.mem_append_left _ (List.mem_append_right _ h)))
  refine zMv_start (cc := cX3_walk) (maxL := 4) (lv0 := [(0, .ref (a 3)), (1, .int p0), (2, .int p1)]) (own := RX3) rfl (plainFor_of_name (by decide)) rfl (Nat.le_of_ble_eq_true rfl) rfl (fun X C hR hL hE => ?_)
  refine z_aload_n C 0 dX3_walk_0 rfl ?_
  refine z_iload_n C 1 dX3_walk_1 rfl ?_
  refine zp3_askedStation C i3 (List.mem_of_getElem? (i := 1) rfl) dX3_walk_2 ?_
  refine z_topsWX (fun s1 es1 => ?_)
  have hw := hw s1 es1
  refine z_aload_n C 0 dX3_walk_5 rfl ?_
  refine z_iload_n C 2 dX3_walk_6 rfl ?_
  refine zp3_askedObservation C i3 (List.mem_of_getElem? (i := 2) rfl) dX3_walk_7 ?_
  refine z_topsWX (fun s2 es2 => ?_)
  have hw := hw s2 es2
  refine z_aload_n C 0 dX3_walk_10 rfl ?_
  refine z_aload_n C 0 dX3_walk_11 rfl ?_
  refine zg3_net C i3 (List.mem_of_getElem? (i := 3) rfl) dX3_walk_12 ?_
  refine z_iload_n C 1 dX3_walk_15 rfl ?_
  refine z_call0iV C hR hL (As := [.int p0]) (c_X1_datumOf l D a g s2 p0 _ hw) gX3_walk_X1_datumOf rfl ⟨by decide +kernel, by decide +kernel, (show (parseMethodDescriptor yX1_datumOf.desc).map (fun d => d.parameters.length) = some 1 from by decide +kernel)⟩ ⟨rfl, rfl⟩ ⟨Nat.le_of_ble_eq_true rfl, Nat.le_of_ble_eq_true rfl⟩ ⟨Nat.le_of_ble_eq_true rfl, Nat.le_of_ble_eq_true rfl⟩ 1 1 rfl rfl rfl rfl (Nat.le_of_ble_eq_true rfl) dX3_walk_16 (fun r3 s4 h5 => ?_)
  obtain ⟨es4, hw⟩ := h5
  subst es4
  refine zp3_datum C i3 (List.mem_of_getElem? (i := 4) rfl) dX3_walk_19 ?_
  refine z_topsWX (fun s6 es6 => ?_)
  have hw := hw s6 es6
  refine z_aload_n C 0 dX3_walk_22 rfl ?_
  refine z_aload_n C 0 dX3_walk_23 rfl ?_
  refine zg3_net C i3 (List.mem_of_getElem? (i := 3) rfl) dX3_walk_24 ?_
  refine z_iload_n C 1 dX3_walk_27 rfl ?_
  refine z_call0iV C hR hL (As := [.int p0]) (c_X1_countStationsWith l D a g s6 p0 _ hw) gX3_walk_X1_countStationsWith rfl ⟨by decide +kernel, by decide +kernel, (show (parseMethodDescriptor yX1_countStationsWith.desc).map (fun d => d.parameters.length) = some 1 from by decide +kernel)⟩ ⟨rfl, rfl⟩ ⟨Nat.le_of_ble_eq_true rfl, Nat.le_of_ble_eq_true rfl⟩ ⟨Nat.le_of_ble_eq_true rfl, Nat.le_of_ble_eq_true rfl⟩ 1 1 rfl rfl rfl rfl (Nat.le_of_ble_eq_true rfl) dX3_walk_28 (fun r7 s8 h9 => ?_)
  obtain ⟨es8, hw⟩ := h9
  subst es8
  refine z_iconst C 1 dX3_walk_31 (by decide) ?_
  refine z_isub C dX3_walk_32 ?_
  refine zp3_branches C i3 (List.mem_of_getElem? (i := 5) rfl) dX3_walk_33 ?_
  refine z_topsWX (fun s10 es10 => ?_)
  have hw := hw s10 es10
  refine z_aload_n C 0 dX3_walk_36 rfl ?_
  refine z_lconst C 0 dX3_walk_37 (by decide) ?_
  refine zp3_weightOfAll C i3 (List.mem_of_getElem? (i := 6) rfl) dX3_walk_38 ?_
  refine z_topsWX (fun s11 es11 => ?_)
  have hw := hw s11 es11
  refine z_aload_n C 0 dX3_walk_41 rfl ?_
  refine z_lconst C 0 dX3_walk_42 (by decide) ?_
  refine zp3_weightOfThoseWithAsked C i3 (List.mem_of_getElem? (i := 7) rfl) dX3_walk_43 ?_
  refine z_topsWX (fun s12 es12 => ?_)
  have hw := hw s12 es12
  refine z_aload_n C 0 dX3_walk_46 rfl ?_
  refine z_lconst C 0 dX3_walk_47 (by decide) ?_
  refine zp3_weightedRises C i3 (List.mem_of_getElem? (i := 8) rfl) dX3_walk_48 ?_
  refine z_topsWX (fun s13 es13 => ?_)
  have hw := hw s13 es13
  refine z_iconst C 0 dX3_walk_51 (by decide) ?_
  refine z_topi (fun x14 ex14 => ?_)
  have hw := hw x14 ex14
  refine z_istore_n (lv' := [(3, .int x14), (0, .ref (a 3)), (1, .int p0), (2, .int p1)]) C 3 dX3_walk_52 rfl (by decide) rfl ?_
  refine z_sub (lv' := [(0, .ref (a 3)), (3, .int x14)]) [1, 0] rfl ?_
  obtain ⟨K15, n16, hK17, hw⟩ := hw
  have hx18 : ∀ (s20 : zS), K15 s20 → zV X D 4 0 0 (WX a g s20) 88 [(0, .ref (a 3))] [] := by
    intro s20 hw0
    have hw := hK17 s20 hw0
    refine z_aload_n C 0 dX3_walk_88 rfl ?_
    refine z_iconst C 0 dX3_walk_89 (by decide) ?_
    refine z_iconst C 0 dX3_walk_90 (by decide) ?_
    refine z_lconst C 1 dX3_walk_91 (by decide) ?_
    refine z_iconst C 0 dX3_walk_92 (by decide) ?_
    refine z_call0vS C hR hL (As := [.ref (a 3), .int 0, .int 0, .long 1, .int 0]) (c_X3_grow l D a g 6 s20 0 0 1 0 _ hw) gX3_walk_X3_grow rfl ⟨by decide +kernel, by decide +kernel, (show (parseMethodDescriptor yX3_grow.desc).map (fun d => d.parameters.length) = some 5 from by decide +kernel)⟩ ⟨rfl, rfl⟩ ⟨Nat.le_of_ble_eq_true rfl, Nat.le_of_ble_eq_true rfl⟩ ⟨Nat.le_of_ble_eq_true rfl, Nat.le_of_ble_eq_true rfl⟩ rfl (Nat.le_of_ble_eq_true rfl) dX3_walk_93 (fun s22 h23 => ?_)
    have hw := h23
    exact hE _ _ _ _ _ dX3_walk_96 (Nat.le_refl _) (Nat.le_refl _) hw
  have lp19 : ∀ (n : Nat) (v24 : Int32) (s25 : zS), W_X3_walk_L53 Q K15 n v24 s25 → zV X D 4 0 0 (WX a g s25) 53 [(0, .ref (a 3)), (3, .int v24)] [] := by
    intro n
    induction n with
    | zero => intro v24 s25 hw; exact False.elim hw
    | succ n ih =>
      intro v24 s25 hw
      refine z_iload_n C 1 dX3_walk_53 rfl ?_
      refine z_aload_n C 0 dX3_walk_54 rfl ?_
      refine zg3_net C i3 (List.mem_of_getElem? (i := 3) rfl) dX3_walk_55 ?_
      refine zg1_stations C i1 (List.mem_of_getElem? (i := 9) rfl) dX3_walk_58 ?_
      refine z_icmp_ge C 88 dX3_walk_61 (by decide) (fun hc => ?_) (fun hc => ?_)
      · have hw := hw.1 hc
        refine z_sub (lv' := [(0, .ref (a 3))]) [0] rfl ?_
        exact hx18 _ hw
      · have hw := hw.2 hc
        refine z_aload_n C 0 dX3_walk_64 rfl ?_
        refine zg3_piece C i3 (List.mem_of_getElem? (i := 10) rfl) dX3_walk_65 ?_
        refine z_iconst C 0 dX3_walk_68 (by decide) ?_
        obtain ⟨b26, hw⟩ := hw
        refine zr3_piece C b26 dX3_walk_69 ?_
        refine z_iload_n C 1 dX3_walk_70 rfl ?_
        refine z_iload_n C 1 dX3_walk_71 rfl ?_
        obtain ⟨b27, hw⟩ := hw
        refine zs3_piece C _ (z_lt b26) b27 dX3_walk_72 ?_
        refine z_topsWX (fun s28 es28 => ?_)
        have hw := hw s28 es28
        refine z_aload_n C 0 dX3_walk_73 rfl ?_
        refine zg3_rise C i3 (List.mem_of_getElem? (i := 11) rfl) dX3_walk_74 ?_
        refine z_iconst C 0 dX3_walk_77 (by decide) ?_
        obtain ⟨b29, hw⟩ := hw
        refine zr3_rise C b29 dX3_walk_78 ?_
        refine z_iload_n C 1 dX3_walk_79 rfl ?_
        refine z_iconst C 0 dX3_walk_80 (by decide) ?_
        obtain ⟨b30, hw⟩ := hw
        refine zs3_rise C _ (z_lt b29) b30 dX3_walk_81 ?_
        refine z_topsWX (fun s31 es31 => ?_)
        have hw := hw s31 es31
        obtain ⟨x32, ex32⟩ : ∃ z : Int32, z = v24 + 1 := ⟨_, rfl⟩
        have hw := hw x32 ex32
        refine z_iinc (lv' := [(3, .int x32), (0, .ref (a 3))]) C 1 dX3_walk_82 rfl (by rw [ex32]; rfl) (by decide) rfl ?_
        refine z_goto C 53 dX3_walk_85 (by decide) ?_
        refine z_sub (lv' := [(0, .ref (a 3)), (3, .int x32)]) [1, 0] rfl ?_
        exact ih _ _ hw
  exact lp19 n16 _ _ hw
def W_X3_heightOf (s : zS) (p0 : Int32) (Q : Int64 → zS → Prop) : Prop :=
    W_X3_walk s p0 (-1) (fun s2 =>
    vp_in (gI s2 5) 6 ∧
    ∀ x5 : Int64, x5 = ((gJ s2 3) + (((gF s2 1 (ix (gI s2 5)))).toInt64 * (gJ s2 1))) →
    W_X4_roundedDown s2 (100 * x5) (gJ s2 1) (fun r6 =>
    Q r6 s2))
set_option maxHeartbeats 4000000 in
set_option maxRecDepth 100000 in
theorem c_X3_heightOf (l : Launch) (D : va_G) (a : Nat → Nat) (g : Nat → ClassId) (s : zS) (p0 : Int32) (Q : Int64 → zS → Prop) (hw : W_X3_heightOf s p0 Q) : zMl l D (zT g) yX3_heightOf wsX3_heightOf ({ frames := 11, cells := 0, slots := 0, locals := 278 } : Room) [.ref (a 3), .int p0] (WX a g) s (fun r u => Q r u) := by
  have i1 : ∀ w ∈ u_ws RX1 TX1 10, w ∈ wsX3_heightOf := fun _ h => (List.mem_cons_of_mem _ (List.mem_append_right _ h))
  have i3 : ∀ w ∈ u_ws RX3 TX3 10, w ∈ wsX3_heightOf := fun _ h => (List.mem_cons_of_mem _ (List.mem_append_left _ (List.mem_append_right _ h)))
  refine zMl_start (cc := cX3_heightOf) (maxL := 4) (lv0 := [(0, .ref (a 3)), (1, .int p0)]) (own := RX3) rfl (plainFor_of_name (by decide)) rfl (Nat.le_of_ble_eq_true rfl) rfl (fun X C hR hL hE => ?_)
  refine z_aload_n C 0 dX3_heightOf_0 rfl ?_
  refine z_iload_n C 1 dX3_heightOf_1 rfl ?_
  refine z_iconst C (-1) dX3_heightOf_2 (by decide) ?_
  refine z_call0vV C hR hL (As := [.int p0, .int (-1)]) (c_X3_walk l D a g s p0 (-1) _ hw) gX3_heightOf_X3_walk rfl ⟨by decide +kernel, by decide +kernel, (show (parseMethodDescriptor yX3_walk.desc).map (fun d => d.parameters.length) = some 2 from by decide +kernel)⟩ ⟨rfl, rfl⟩ ⟨Nat.le_of_ble_eq_true rfl, Nat.le_of_ble_eq_true rfl⟩ ⟨Nat.le_of_ble_eq_true rfl, Nat.le_of_ble_eq_true rfl⟩ 3 3 rfl rfl rfl rfl (Nat.le_of_ble_eq_true rfl) dX3_heightOf_3 (fun s2 h3 => ?_)
  have hw := h3
  refine z_aload_n C 0 dX3_heightOf_6 rfl ?_
  refine zg3_weightedRises C i3 (List.mem_of_getElem? (i := 1) rfl) dX3_heightOf_7 ?_
  refine z_aload_n C 0 dX3_heightOf_10 rfl ?_
  refine zg3_net C i3 (List.mem_of_getElem? (i := 2) rfl) dX3_heightOf_11 ?_
  refine zg1_toldHeight C i1 (List.mem_of_getElem? (i := 3) rfl) dX3_heightOf_14 ?_
  refine z_aload_n C 0 dX3_heightOf_17 rfl ?_
  refine zg3_datum C i3 (List.mem_of_getElem? (i := 4) rfl) dX3_heightOf_18 ?_
  obtain ⟨b4, hw⟩ := hw
  refine zl1_toldHeight C b4 dX3_heightOf_21 ?_
  refine z_i2l C dX3_heightOf_22 ?_
  refine z_aload_n C 0 dX3_heightOf_23 rfl ?_
  refine zg3_weightOfAll C i3 (List.mem_of_getElem? (i := 5) rfl) dX3_heightOf_24 ?_
  refine z_lmul C dX3_heightOf_27 ?_
  refine z_ladd C dX3_heightOf_28 ?_
  refine z_topl (fun x5 ex5 => ?_)
  have hw := hw x5 ex5
  refine z_lstore_n (lv' := [(2, .long x5), (0, .ref (a 3)), (1, .int p0)]) C 2 dX3_heightOf_29 rfl (by decide) rfl ?_
  refine z_ldc2 C 100 (List.mem_of_getElem? (i := 6) rfl) dX3_heightOf_30 ?_
  refine z_lload_n C 0 dX3_heightOf_33 rfl ?_
  refine z_lmul C dX3_heightOf_34 ?_
  refine z_aload_n C 1 dX3_heightOf_35 rfl ?_
  refine zg3_weightOfAll C i3 (List.mem_of_getElem? (i := 5) rfl) dX3_heightOf_36 ?_
  refine z_call0lN C hR hL (As := [.long (100 * x5), .long (gJ s2 1)]) (c_X4_roundedDown l D a g s2 (100 * x5) (gJ s2 1) _ hw) gX3_heightOf_X4_roundedDown_n46 rfl (fun _ h => h.2) (List.mem_of_getElem? (i := 61) rfl) (List.mem_of_getElem? (i := 62) rfl) ⟨by decide +kernel, by decide +kernel, (show (parseMethodDescriptor yX4_roundedDown.desc).map (fun d => d.parameters.length) = some 2 from by decide +kernel)⟩ ⟨rfl, rfl⟩ ⟨Nat.le_of_ble_eq_true rfl, Nat.le_of_ble_eq_true rfl⟩ ⟨Nat.le_of_ble_eq_true rfl, Nat.le_of_ble_eq_true rfl⟩ rfl (Nat.le_of_ble_eq_true rfl) dX3_heightOf_39 (fun r6 s7 h8 => ?_)
  obtain ⟨es7, hw⟩ := h8
  subst es7
  exact hE _ _ _ _ _ _ dX3_heightOf_42 (Nat.le_refl _) (Nat.le_refl _) hw
def W_X3_checkOf (s : zS) (p0 : Int32) (Q : Int32 → zS → Prop) : Prop :=
    vp_in p0 14 ∧
    W_X3_walk s (gF s 3 (ix p0)) p0 (fun s3 =>
    W_X4_roundedDown s3 (1000 * ((gJ s3 1) - (gJ s3 2))) (gJ s3 1) (fun r5 =>
    Q ((r5).toInt32) s3))
set_option maxHeartbeats 4000000 in
set_option maxRecDepth 100000 in
theorem c_X3_checkOf (l : Launch) (D : va_G) (a : Nat → Nat) (g : Nat → ClassId) (s : zS) (p0 : Int32) (Q : Int32 → zS → Prop) (hw : W_X3_checkOf s p0 Q) : zMi l D (zT g) yX3_checkOf wsX3_checkOf ({ frames := 11, cells := 0, slots := 0, locals := 278 } : Room) [.ref (a 3), .int p0] (WX a g) s (fun r u => Q r u) := by
  have i1 : ∀ w ∈ u_ws RX1 TX1 10, w ∈ wsX3_checkOf := fun _ h => (List.mem_cons_of_mem _ (List.mem_append_right _ h))
  have i3 : ∀ w ∈ u_ws RX3 TX3 10, w ∈ wsX3_checkOf := fun _ h => (List.mem_cons_of_mem _ (List.mem_append_left _ (List.mem_append_right _ h)))
  refine zMi_start (cc := cX3_checkOf) (maxL := 2) (lv0 := [(0, .ref (a 3)), (1, .int p0)]) (own := RX3) rfl (plainFor_of_name (by decide)) rfl (Nat.le_of_ble_eq_true rfl) rfl (fun X C hR hL hE => ?_)
  refine z_aload_n C 0 dX3_checkOf_0 rfl ?_
  refine z_aload_n C 0 dX3_checkOf_1 rfl ?_
  refine zg3_net C i3 (List.mem_of_getElem? (i := 1) rfl) dX3_checkOf_2 ?_
  refine zg1_from C i1 (List.mem_of_getElem? (i := 2) rfl) dX3_checkOf_5 ?_
  refine z_iload_n C 1 dX3_checkOf_8 rfl ?_
  obtain ⟨b1, hw⟩ := hw
  refine zl1_from C b1 dX3_checkOf_9 ?_
  refine z_iload_n C 1 dX3_checkOf_10 rfl ?_
  refine z_call0vV C hR hL (As := [.int (gF s 3 (ix p0)), .int p0]) (c_X3_walk l D a g s (gF s 3 (ix p0)) p0 _ hw) gX3_checkOf_X3_walk rfl ⟨by decide +kernel, by decide +kernel, (show (parseMethodDescriptor yX3_walk.desc).map (fun d => d.parameters.length) = some 2 from by decide +kernel)⟩ ⟨rfl, rfl⟩ ⟨Nat.le_of_ble_eq_true rfl, Nat.le_of_ble_eq_true rfl⟩ ⟨Nat.le_of_ble_eq_true rfl, Nat.le_of_ble_eq_true rfl⟩ 3 3 rfl rfl rfl rfl (Nat.le_of_ble_eq_true rfl) dX3_checkOf_11 (fun s3 h4 => ?_)
  have hw := h4
  refine z_ldc2 C 1000 (List.mem_of_getElem? (i := 3) rfl) dX3_checkOf_14 ?_
  refine z_aload_n C 0 dX3_checkOf_17 rfl ?_
  refine zg3_weightOfAll C i3 (List.mem_of_getElem? (i := 4) rfl) dX3_checkOf_18 ?_
  refine z_aload_n C 0 dX3_checkOf_21 rfl ?_
  refine zg3_weightOfThoseWithAsked C i3 (List.mem_of_getElem? (i := 5) rfl) dX3_checkOf_22 ?_
  refine z_lsub C dX3_checkOf_25 ?_
  refine z_lmul C dX3_checkOf_26 ?_
  refine z_aload_n C 0 dX3_checkOf_27 rfl ?_
  refine zg3_weightOfAll C i3 (List.mem_of_getElem? (i := 4) rfl) dX3_checkOf_28 ?_
  refine z_call0lN C hR hL (As := [.long (1000 * ((gJ s3 1) - (gJ s3 2))), .long (gJ s3 1)]) (c_X4_roundedDown l D a g s3 (1000 * ((gJ s3 1) - (gJ s3 2))) (gJ s3 1) _ hw) gX3_checkOf_X4_roundedDown_n46 rfl (fun _ h => h.2) (List.mem_of_getElem? (i := 60) rfl) (List.mem_of_getElem? (i := 61) rfl) ⟨by decide +kernel, by decide +kernel, (show (parseMethodDescriptor yX4_roundedDown.desc).map (fun d => d.parameters.length) = some 2 from by decide +kernel)⟩ ⟨rfl, rfl⟩ ⟨Nat.le_of_ble_eq_true rfl, Nat.le_of_ble_eq_true rfl⟩ ⟨Nat.le_of_ble_eq_true rfl, Nat.le_of_ble_eq_true rfl⟩ rfl (Nat.le_of_ble_eq_true rfl) dX3_checkOf_31 (fun r5 s6 h7 => ?_)
  obtain ⟨es6, hw⟩ := h7
  subst es6
  refine z_l2i C dX3_checkOf_34 ?_
  exact hE _ _ _ _ _ _ dX3_checkOf_35 rfl (Nat.le_refl _) (Nat.le_refl _) hw
