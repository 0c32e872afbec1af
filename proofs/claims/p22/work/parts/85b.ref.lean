def W_L_isRefused_L533 (A : zNt) (P : zPa) (m t e : Nat → Int32) (x26 : Int64) (Q : Int32 → Prop) (K : Int32 → Prop) : Nat → Int32 → Int32 → Prop
  | 0, _, _ => False
  | n + 1, v83, v84 =>
    vp_in 1 4 ∧
    ((m (ix 1)) ≤ v84 →
    K v83) ∧ (¬ (m (ix 1)) ≤ v84 →
    (v83 = 0 →
    K v83) ∧ (¬ v83 = 0 →
    vp_in ((5 * v84) + 4) 64 ∧
    ((e (ix ((5 * v84) + 4))) = 0 →
    ∀ x89 : Int32, x89 = 1 →
    ∀ x90 : Int32, x90 = v84 + 1 →
    W_L_isRefused_L533 A P m t e x26 Q K n x89 x90) ∧ (¬ (e (ix ((5 * v84) + 4))) = 0 →
    (aAct A P (9) v84 (0) (0) (0)).2 = (A, P) ∧ ∀ r91 : Int64, aAct A P (9) v84 (0) (0) (0) = (r91, A, P) →
    (¬ r91 = (-161300000000000000) →
    ∀ x94 : Int32, x94 = 0 →
    ∀ x95 : Int32, x95 = v84 + 1 →
    W_L_isRefused_L533 A P m t e x26 Q K n x94 x95) ∧ (r91 = (-161300000000000000) →
    (aAct A P (10) v84 (0) (0) (0)).2 = (A, P) ∧ ∀ r96 : Int64, aAct A P (10) v84 (0) (0) (0) = (r96, A, P) →
    (¬ r96 = (-161300000000000000) →
    ∀ x99 : Int32, x99 = 0 →
    ∀ x100 : Int32, x100 = v84 + 1 →
    W_L_isRefused_L533 A P m t e x26 Q K n x99 x100) ∧ (r96 = (-161300000000000000) →
    (aAct A P (11) v84 (0) (0) (0)).2 = (A, P) ∧ ∀ r101 : Int64, aAct A P (11) v84 (0) (0) (0) = (r101, A, P) →
    (¬ r101 = (-161300000000000000) →
    ∀ x104 : Int32, x104 = 0 →
    ∀ x105 : Int32, x105 = v84 + 1 →
    W_L_isRefused_L533 A P m t e x26 Q K n x104 x105) ∧ (r101 = (-161300000000000000) →
    (aAct A P (12) v84 (0) (0) (0)).2 = (A, P) ∧ ∀ r106 : Int64, aAct A P (12) v84 (0) (0) (0) = (r106, A, P) →
    (¬ r106 = (-161300000000000000) →
    ∀ x109 : Int32, x109 = 0 →
    ∀ x110 : Int32, x110 = v84 + 1 →
    W_L_isRefused_L533 A P m t e x26 Q K n x109 x110) ∧ (r106 = (-161300000000000000) →
    ∀ x111 : Int32, x111 = 1 →
    ∀ x112 : Int32, x112 = v84 + 1 →
    W_L_isRefused_L533 A P m t e x26 Q K n x111 x112)))))))
def W_L_isRefused_L328 (A : zNt) (P : zPa) (m t e : Nat → Int32) (p0 : Int32) (x8 : Int32) (x15 : Int32) (x26 : Int64) (Q : Int32 → Prop) (K : Int32 → Prop) : Nat → Int32 → Int32 → Prop
  | 0, _, _ => False
  | n + 1, v113, v114 =>
    vp_in 0 4 ∧
    ((m (ix 0)) ≤ v114 →
    K v113) ∧ (¬ (m (ix 0)) ≤ v114 →
    (v113 = 0 →
    K v113) ∧ (¬ v113 = 0 →
    vp_in 0 4 ∧
    ¬ ((m (ix 0)) : Int32) = 0 ∧
    ∀ x120 : Int32, x120 = (irm (v114 + 1) (m (ix 0))) →
    ∃ k121 : Int32 → Prop, (∀ (v124 : Int32), k121 v124 →
    (aAct A P (1) v114 v124 (1) (0)).2 = (A, P) ∧ ∀ r127 : Int64, aAct A P (1) v114 v124 (1) (0) = (r127, A, P) →
    (¬ r127 = (-161200000000000000) →
    ∀ x130 : Int32, x130 = 0 →
    ∀ x131 : Int32, x131 = v114 + 1 →
    W_L_isRefused_L328 A P m t e p0 x8 x15 x26 Q K n x130 x131) ∧ (r127 = (-161200000000000000) →
    (aAct A P (2) v114 x15 (99999) (0)).2 = (A, P) ∧ ∀ r132 : Int64, aAct A P (2) v114 x15 (99999) (0) = (r132, A, P) →
    (¬ r132 = (-161100000000000000) →
    ∀ x135 : Int32, x135 = 0 →
    ∀ x136 : Int32, x136 = v114 + 1 →
    W_L_isRefused_L328 A P m t e p0 x8 x15 x26 Q K n x135 x136) ∧ (r132 = (-161100000000000000) →
    (aAct A P (2) v114 v114 (5) (1)).2 = (A, P) ∧ ∀ r137 : Int64, aAct A P (2) v114 v114 (5) (1) = (r137, A, P) →
    (¬ r137 = (-161200000000000000) →
    ∀ x140 : Int32, x140 = 0 →
    ∀ x141 : Int32, x141 = v114 + 1 →
    W_L_isRefused_L328 A P m t e p0 x8 x15 x26 Q K n x140 x141) ∧ (r137 = (-161200000000000000) →
    ∃ k142 : Int32 → Prop, (∀ (v145 : Int32), k142 v145 →
    (aAct A P (2) v114 x120 v145 (1)).2 = (A, P) ∧ ∀ r148 : Int64, aAct A P (2) v114 x120 v145 (1) = (r148, A, P) →
    (¬ r148 = (-161200000000000000) →
    ∀ x151 : Int32, x151 = 0 →
    ∀ x152 : Int32, x152 = v114 + 1 →
    W_L_isRefused_L328 A P m t e p0 x8 x15 x26 Q K n x151 x152) ∧ (r148 = (-161200000000000000) →
    ∃ k153 : Int32 → Prop, (∀ (v156 : Int32), k153 v156 →
    (aAct A P (2) v114 x120 (5) v156).2 = (A, P) ∧ ∀ r159 : Int64, aAct A P (2) v114 x120 (5) v156 = (r159, A, P) →
    (¬ r159 = (-161200000000000000) →
    ∀ x162 : Int32, x162 = 0 →
    ∀ x163 : Int32, x163 = v114 + 1 →
    W_L_isRefused_L328 A P m t e p0 x8 x15 x26 Q K n x162 x163) ∧ (r159 = (-161200000000000000) →
    vp_in 2 4 ∧
    ((m (ix 2)) < 10 →
    ∀ x165 : Int32, x165 = 1 →
    ∀ x166 : Int32, x166 = v114 + 1 →
    W_L_isRefused_L328 A P m t e p0 x8 x15 x26 Q K n x165 x166) ∧ (¬ (m (ix 2)) < 10 →
    (aAct A P (5) v114 (0) (0) (0)).2 = (A, P) ∧ ∀ r167 : Int64, aAct A P (5) v114 (0) (0) (0) = (r167, A, P) →
    (¬ r167 = (-161300000000000000) →
    ∀ x170 : Int32, x170 = 0 →
    ∀ x171 : Int32, x171 = v114 + 1 →
    W_L_isRefused_L328 A P m t e p0 x8 x15 x26 Q K n x170 x171) ∧ (r167 = (-161300000000000000) →
    ∀ x172 : Int32, x172 = 1 →
    ∀ x173 : Int32, x173 = v114 + 1 →
    W_L_isRefused_L328 A P m t e p0 x8 x15 x26 Q K n x172 x173)))) ∧ ((x8 = 0 →
    k153 6) ∧ (¬ x8 = 0 →
    ¬ (30 : Int32) = 0 ∧
    k153 (0 - (irm p0 30)))))) ∧ ((x8 = 0 →
    ¬ (30 : Int32) = 0 ∧
    k142 (10000 + (irm p0 30))) ∧ (¬ x8 = 0 →
    k142 (-10000))))))) ∧ ((x8 = 0 →
    k121 10000) ∧ (¬ x8 = 0 →
    ¬ (30 : Int32) = 0 ∧
    k121 ((-10000) - (irm p0 30))))))
def W_L_isRefused (A : zNt) (P : zPa) (m t e : Nat → Int32) (p0 : Int32) (Q : Int32 → Prop) : Prop :=
    ¬ (2 : Int32) = 0 ∧
    ∃ k2 : Int32 → Prop, (∀ (v5 : Int32), k2 v5 →
    ∀ x8 : Int32, x8 = v5 →
    ∃ k9 : Int32 → Prop, (∀ (v12 : Int32), k9 v12 →
    ∀ x15 : Int32, x15 = v12 →
    ∃ k16 : Int32 → Prop, (∀ (v19 : Int32), k16 v19 →
    ∀ x22 : Int32, x22 = v19 →
    W_L_all A P m t e (fun r23 =>
    ∀ x26 : Int64, x26 = r23 →
    (aAct A P (1) x15 (99999) (1) (0)).2 = (A, P) ∧ ∀ r27 : Int64, aAct A P (1) x15 (99999) (1) (0) = (r27, A, P) →
    ∃ k30 : Int32 → Prop, (∀ (v33 : Int32), k30 v33 →
    ∀ x36 : Int32, x36 = v33 →
    ∀ x37 : Int32, x37 = 0 →
    ∃ (K38 : Int32 → Prop) (n39 : Nat), n39 ≤ 16 ∧ (∀ (v44 : Int32), K38 v44 →
    ∀ x47 : Int32, x47 = 0 →
    ∃ (K48 : Int32 → Prop) (n49 : Nat), n49 ≤ 16 ∧ (∀ (v54 : Int32), K48 v54 →
    (v54 = 0 →
    narrow .boolean (.int 0) = .int 0 ∧ Q 0) ∧ (¬ v54 = 0 →
    vp_in 0 4 ∧
    ∃ k59 : Prop, (k59  →
    vp_in 1 4 ∧
    ∃ k65 : Prop, (k65  →
    W_L_all A P m t e (fun r70 =>
    (¬ r70 = x26 →
    narrow .boolean (.int 0) = .int 0 ∧ Q 0) ∧ (r70 = x26 →
    narrow .boolean (.int 1) = .int 1 ∧ Q 1))) ∧ (((m (ix 1)) < 14 →
    k65 ) ∧ (¬ (m (ix 1)) < 14 →
    (aAct A P (2) (0) (1) (5) (1)).2 = (A, P) ∧ ∀ r75 : Int64, aAct A P (2) (0) (1) (5) (1) = (r75, A, P) →
    (¬ r75 = (-161300000000000000) →
    narrow .boolean (.int 0) = .int 0 ∧ Q 0) ∧ (r75 = (-161300000000000000) →
    k65 )))) ∧ (((m (ix 0)) < 6 →
    k59 ) ∧ (¬ (m (ix 0)) < 6 →
    (aAct A P (0) (0) (0) (0) (0)).2 = (A, P) ∧ ∀ r79 : Int64, aAct A P (0) (0) (0) (0) (0) = (r79, A, P) →
    (¬ r79 = (-161300000000000000) →
    narrow .boolean (.int 0) = .int 0 ∧ Q 0) ∧ (r79 = (-161300000000000000) →
    k59 ))))) ∧ W_L_isRefused_L533 A P m t e x26 Q K48 n49 v44 x47) ∧ W_L_isRefused_L328 A P m t e p0 x8 x15 x26 Q K38 n39 x36 x37) ∧ ((¬ r27 = (-161100000000000000) →
    k30 0) ∧ (r27 = (-161100000000000000) →
    (aAct A P (2) x15 (0) (99999) (0)).2 = (A, P) ∧ ∀ r177 : Int64, aAct A P (2) x15 (0) (99999) (0) = (r177, A, P) →
    (¬ r177 = (-161100000000000000) →
    k30 0) ∧ (r177 = (-161100000000000000) →
    (aAct A P (3) x22 (1) (0) (0)).2 = (A, P) ∧ ∀ r180 : Int64, aAct A P (3) x22 (1) (0) (0) = (r180, A, P) →
    (¬ r180 = (-161100000000000000) →
    k30 0) ∧ (r180 = (-161100000000000000) →
    ∃ k183 : Int32 → Prop, (∀ (v186 : Int32), k183 v186 →
    (aAct A P (4) v186 (0) (0) (0)).2 = (A, P) ∧ ∀ r189 : Int64, aAct A P (4) v186 (0) (0) (0) = (r189, A, P) →
    (¬ r189 = (-161200000000000000) →
    k30 0) ∧ (r189 = (-161200000000000000) →
    (aAct A P (5) x15 (0) (0) (0)).2 = (A, P) ∧ ∀ r192 : Int64, aAct A P (5) x15 (0) (0) (0) = (r192, A, P) →
    (¬ r192 = (-161100000000000000) →
    k30 0) ∧ (r192 = (-161100000000000000) →
    (aAct A P (6) x15 (0) (0) (0)).2 = (A, P) ∧ ∀ r195 : Int64, aAct A P (6) x15 (0) (0) (0) = (r195, A, P) →
    (¬ r195 = (-161100000000000000) →
    k30 0) ∧ (r195 = (-161100000000000000) →
    (aAct A P (7) x15 (0) (0) (0)).2 = (A, P) ∧ ∀ r198 : Int64, aAct A P (7) x15 (0) (0) (0) = (r198, A, P) →
    (¬ r198 = (-161100000000000000) →
    k30 0) ∧ (r198 = (-161100000000000000) →
    (aAct A P (8) x15 (0) (0) (0)).2 = (A, P) ∧ ∀ r201 : Int64, aAct A P (8) x15 (0) (0) (0) = (r201, A, P) →
    (¬ r201 = (-161100000000000000) →
    k30 0) ∧ (r201 = (-161100000000000000) →
    (aAct A P (9) x22 (0) (0) (0)).2 = (A, P) ∧ ∀ r204 : Int64, aAct A P (9) x22 (0) (0) (0) = (r204, A, P) →
    (¬ r204 = (-161100000000000000) →
    k30 0) ∧ (r204 = (-161100000000000000) →
    (aAct A P (10) x22 (0) (0) (0)).2 = (A, P) ∧ ∀ r207 : Int64, aAct A P (10) x22 (0) (0) (0) = (r207, A, P) →
    (¬ r207 = (-161100000000000000) →
    k30 0) ∧ (r207 = (-161100000000000000) →
    (aAct A P (11) x22 (0) (0) (0)).2 = (A, P) ∧ ∀ r210 : Int64, aAct A P (11) x22 (0) (0) (0) = (r210, A, P) →
    (¬ r210 = (-161100000000000000) →
    k30 0) ∧ (r210 = (-161100000000000000) →
    (aAct A P (12) x22 (0) (0) (0)).2 = (A, P) ∧ ∀ r213 : Int64, aAct A P (12) x22 (0) (0) (0) = (r213, A, P) →
    (¬ r213 = (-161100000000000000) →
    k30 0) ∧ (r213 = (-161100000000000000) →
    (aAct A P (13) x15 (0) (0) (0)).2 = (A, P) ∧ ∀ r216 : Int64, aAct A P (13) x15 (0) (0) (0) = (r216, A, P) →
    (¬ r216 = (-161100000000000000) →
    k30 0) ∧ (r216 = (-161100000000000000) →
    k30 1))))))))))) ∧ ((x8 = 0 →
    ¬ (30 : Int32) = 0 ∧
    k183 (1000000001 + (irm p0 30))) ∧ (¬ x8 = 0 →
    ¬ (30 : Int32) = 0 ∧
    k183 ((-1) - (irm p0 30)))))))))) ∧ ((x8 = 0 →
    vp_in 1 4 ∧
    ¬ (30 : Int32) = 0 ∧
    k16 ((m (ix 1)) + (irm p0 30))) ∧ (¬ x8 = 0 →
    ¬ (30 : Int32) = 0 ∧
    k16 ((-1) - (irm p0 30))))) ∧ ((x8 = 0 →
    vp_in 0 4 ∧
    ¬ (30 : Int32) = 0 ∧
    k9 ((m (ix 0)) + (irm p0 30))) ∧ (¬ x8 = 0 →
    ¬ (30 : Int32) = 0 ∧
    k9 ((-1) - (irm p0 30))))) ∧ ((¬ (irm p0 2) = 0 →
    k2 0) ∧ ((irm p0 2) = 0 →
    k2 1))
set_option maxHeartbeats 8000000 in
set_option maxRecDepth 100000 in
theorem c_L_isRefused (l : Launch) (hst : l.stackTraces = false) (D : va_G) (a : Nat → Nat) (g : Nat → ClassId) (ea : Nat → Nat) (mo to eo : Nat) (A : zNt) (P : zPa) (m t e : Nat → Int32) (p0 : Int32) (s : zS) (hS : ST A P s) (Q : Int32 → Prop) (hw : W_L_isRefused A P m t e p0 Q) : zWi l D (zT g) ea yL_isRefused wsL_isRefused ({ frames := 15, cells := 781, slots := 4686, locals := 372 } : Room) [.ref (a 0), .ref mo, .ref eo, .int p0] (fun q => zFr g mo to eo m t e ++ WX a g q) s (fun r u => Q r ∧ ST A P u) := by
  refine zUi_start (ty := .boolean) (cc := cL_isRefused) (maxL := 12) (lv0 := [(0, .ref (a 0)), (1, .ref mo), (2, .ref eo), (3, .int p0)]) (own := RL) hst rfl (by decide +kernel) rfl (Nat.le_of_ble_eq_true rfl) rfl (fun X C hR hL CL hE => ?_)
  show zV X D 12 (0 + 0) (0 + 0) ((zFr g mo to eo m t e) ++ WX a g s) 0 [(0, .ref (a 0)), (1, .ref mo), (2, .ref eo), (3, .int p0)] []
  refine z_iload_n C 3 dL_isRefused_0 rfl ?_
  refine z_iconst C 2 dL_isRefused_1 (by decide) ?_
  obtain ⟨b1, hw⟩ := hw
  refine z_irem C dL_isRefused_2 b1 ?_
  obtain ⟨k2, hk3, hw⟩ := hw
  have hj4 : ∀ (v5 : Int32) (s6 : zS) (hS7 : ST A P s6), k2 v5 → zV X D 12 (0 + 0) (0 + 0) ((zFr g mo to eo m t e) ++ WX a g s6) 11 [(0, .ref (a 0)), (1, .ref mo), (2, .ref eo), (3, .int p0)] [.int v5] := by
    intro v5 s6 hS7 hw0
    have hw := hk3 v5 hw0
    refine z_topi (fun x8 ex8 => ?_)
    have hw := hw x8 ex8
    refine z_istore (lv' := [(4, .int x8), (0, .ref (a 0)), (1, .ref mo), (2, .ref eo), (3, .int p0)]) C dL_isRefused_11 (by decide) rfl ?_
    refine z_iload C 0 dL_isRefused_13 rfl ?_
    obtain ⟨k9, hk10, hw⟩ := hw
    have hj11 : ∀ (v12 : Int32) (s13 : zS) (hS14 : ST A P s13), k9 v12 → zV X D 12 (0 + 0) (0 + 0) ((zFr g mo to eo m t e) ++ WX a g s13) 35 [(0, .ref (a 0)), (1, .ref mo), (2, .ref eo), (3, .int p0), (4, .int x8)] [.int v12] := by
      intro v12 s13 hS14 hw0
      have hw := hk10 v12 hw0
      refine z_topi (fun x15 ex15 => ?_)
      have hw := hw x15 ex15
      refine z_istore (lv' := [(5, .int x15), (0, .ref (a 0)), (1, .ref mo), (2, .ref eo), (3, .int p0), (4, .int x8)]) C dL_isRefused_35 (by decide) rfl ?_
      refine z_iload C 5 dL_isRefused_37 rfl ?_
      obtain ⟨k16, hk17, hw⟩ := hw
      have hj18 : ∀ (v19 : Int32) (s20 : zS) (hS21 : ST A P s20), k16 v19 → zV X D 12 (0 + 0) (0 + 0) ((zFr g mo to eo m t e) ++ WX a g s20) 59 [(0, .ref (a 0)), (1, .ref mo), (2, .ref eo), (3, .int p0), (4, .int x8), (5, .int x15)] [.int v19] := by
        intro v19 s20 hS21 hw0
        have hw := hk17 v19 hw0
        refine z_topi (fun x22 ex22 => ?_)
        have hw := hw x22 ex22
        refine z_istore (lv' := [(6, .int x22), (0, .ref (a 0)), (1, .ref mo), (2, .ref eo), (3, .int p0), (4, .int x8), (5, .int x15)]) C dL_isRefused_59 (by decide) rfl ?_
        refine z_aload_n C 1 dL_isRefused_61 rfl ?_
        refine z_aload_n C 2 dL_isRefused_62 rfl ?_
        refine z_cul C hR hL CL (wf := fun q => (zFr g mo to eo m t e) ++ WX a g q) (u0 := s20) (As := [.ref (a 0), .ref mo]) (c_L_all l hst D a g ea mo to eo A P m t e s20 hS21 _ hw) gL_isRefused_L_all rfl ⟨by decide +kernel, by decide +kernel, (show (parseMethodDescriptor yL_all.desc).map (fun d => d.parameters.length) = some 2 from by decide +kernel)⟩ ⟨Nat.le_of_ble_eq_true rfl, Nat.le_of_ble_eq_true rfl⟩ ⟨by dsimp only; omega, by dsimp only; omega⟩ rfl (Nat.le_of_ble_eq_true rfl) dL_isRefused_63 (fun r23 s24 hk => ?_)
        refine z_widen (k := (0 + 128)) (n := (0 + 768)) (by dsimp only; omega) (by dsimp only; omega) ?_
        obtain ⟨hw, hS25⟩ := hk
        refine z_topl (fun x26 ex26 => ?_)
        have hw := hw x26 ex26
        refine z_lstore (lv' := [(7, .long x26), (6, .int x22), (0, .ref (a 0)), (1, .ref mo), (2, .ref eo), (3, .int p0), (4, .int x8), (5, .int x15)]) C dL_isRefused_66 (by decide) rfl ?_
        refine z_aload_n C 2 dL_isRefused_68 rfl ?_
        refine z_iconst C 1 dL_isRefused_69 (by decide) ?_
        refine z_iload C 7 dL_isRefused_70 rfl ?_
        refine z_ldc C 99999 (List.mem_of_getElem? (i := 1) rfl) dL_isRefused_72 ?_
        refine z_iconst C 1 dL_isRefused_74 (by decide) ?_
        refine z_iconst C 0 dL_isRefused_75 (by decide) ?_
        refine z_fwl C hR hL CL (wr := (zFr g mo to eo m t e)) (wf := WX a g) (u0 := s24) (As := [.ref (a 0), .int 1, .int x15, .int 99999, .int 1, .int 0]) (c_L_act l hst D a g ea A P s24 hS25 (1) x15 (99999) (1) (0)) gL_isRefused_L_act rfl ⟨by decide +kernel, by decide +kernel, (show (parseMethodDescriptor yL_act.desc).map (fun d => d.parameters.length) = some 6 from by decide +kernel)⟩ ⟨Nat.le_of_ble_eq_true rfl, Nat.le_of_ble_eq_true rfl⟩ ⟨by dsimp only; omega, by dsimp only; omega⟩ rfl (Nat.le_of_ble_eq_true rfl) dL_isRefused_76 (fun r27 s28 hk => ?_)
        refine z_widen (k := (0 + 131)) (n := (0 + 786)) (by dsimp only; omega) (by dsimp only; omega) ?_
        obtain ⟨A1, P1, eq, hq⟩ := hk
        obtain ⟨h9, hw⟩ := hw
        obtain ⟨er27, hS29⟩ := act_same eq hq h9
        have hw := hw r27 er27
        refine z_ldc2 C (-161100000000000000) (List.mem_of_getElem? (i := 2) rfl) dL_isRefused_79 ?_
        obtain ⟨k30, hk31, hw⟩ := hw
        have hj32 : ∀ (v33 : Int32) (s34 : zS) (hS35 : ST A P s34), k30 v33 → zV X D 12 (0 + 167) (0 + 1002) ((zFr g mo to eo m t e) ++ WX a g s34) 323 [(0, .ref (a 0)), (1, .ref mo), (2, .ref eo), (3, .int p0), (4, .int x8), (5, .int x15), (7, .long x26)] [.int v33] := by
          intro v33 s34 hS35 hw0
          have hw := hk31 v33 hw0
          refine z_topi (fun x36 ex36 => ?_)
          have hw := hw x36 ex36
          refine z_istore (lv' := [(9, .int x36), (0, .ref (a 0)), (1, .ref mo), (2, .ref eo), (3, .int p0), (4, .int x8), (5, .int x15), (7, .long x26)]) C dL_isRefused_323 (by decide) rfl ?_
          refine z_iconst C 0 dL_isRefused_325 (by decide) ?_
          refine z_topi (fun x37 ex37 => ?_)
          have hw := hw x37 ex37
          refine z_istore (lv' := [(10, .int x37), (9, .int x36), (0, .ref (a 0)), (1, .ref mo), (2, .ref eo), (3, .int p0), (4, .int x8), (5, .int x15), (7, .long x26)]) C dL_isRefused_326 (by decide) rfl ?_
          refine z_sub (lv' := [(0, .ref (a 0)), (1, .ref mo), (2, .ref eo), (3, .int p0), (4, .int x8), (5, .int x15), (7, .long x26), (9, .int x36), (10, .int x37)]) [2, 3, 4, 5, 6, 7, 8, 1, 0] rfl ?_
          obtain ⟨K38, n39, hn40, hK41, hw⟩ := hw
          have hx42 : ∀ (v44 : Int32) (s45 : zS) (hS46 : ST A P s45), K38 v44 → zV X D 12 (0 + 455) (0 + 2730) ((zFr g mo to eo m t e) ++ WX a g s45) 530 [(0, .ref (a 0)), (1, .ref mo), (2, .ref eo), (7, .long x26), (9, .int v44)] [] := by
            intro v44 s45 hS46 hw0
            have hw := hK41 v44 hw0
            refine z_iconst C 0 dL_isRefused_530 (by decide) ?_
            refine z_topi (fun x47 ex47 => ?_)
            have hw := hw x47 ex47
            refine z_istore (lv' := [(10, .int x47), (0, .ref (a 0)), (1, .ref mo), (2, .ref eo), (7, .long x26), (9, .int v44)]) C dL_isRefused_531 (by decide) rfl ?_
            refine z_sub (lv' := [(0, .ref (a 0)), (1, .ref mo), (2, .ref eo), (7, .long x26), (9, .int v44), (10, .int x47)]) [1, 2, 3, 4, 5, 0] rfl ?_
            obtain ⟨K48, n49, hn50, hK51, hw⟩ := hw
            have hx52 : ∀ (v54 : Int32) (s55 : zS) (hS56 : ST A P s55), K48 v54 → zV X D 12 (0 + 647) (0 + 3882) ((zFr g mo to eo m t e) ++ WX a g s55) 642 [(0, .ref (a 0)), (1, .ref mo), (7, .long x26), (9, .int v54)] [] := by
              intro v54 s55 hS56 hw0
              have hw := hK51 v54 hw0
              refine z_iload C 3 dL_isRefused_642 rfl ?_
              refine z_if_eq C 710 dL_isRefused_644 (by decide) (fun hc => ?_) (fun hc => ?_)
              · have hw := hw.1 hc
                refine z_iconst C 0 dL_isRefused_710 (by decide) ?_
                obtain ⟨b57, hw⟩ := hw
                exact hE _ _ _ s55 _ _ dL_isRefused_711 b57 (by dsimp only; omega) (by dsimp only; omega) ⟨hw, hS56⟩
              · have hw := hw.2 hc
                refine z_aload_n C 1 dL_isRefused_647 rfl ?_
                refine z_iconst C 0 dL_isRefused_648 (by decide) ?_
                obtain ⟨b58, hw⟩ := hw
                refine z_iald C 0 0 rfl rfl b58 dL_isRefused_649 ?_
                refine z_bipush C 6 dL_isRefused_650 (by decide) ?_
                obtain ⟨k59, hk60, hw⟩ := hw
                have hj61 : ∀ (s62 : zS) (hS63 : ST A P s62), k59  → zV X D 12 (0 + 650) (0 + 3900) ((zFr g mo to eo m t e) ++ WX a g s62) 671 [(0, .ref (a 0)), (1, .ref mo), (7, .long x26)] [] := by
                  intro s62 hS63 hw0
                  have hw := hk60  hw0
                  refine z_aload_n C 1 dL_isRefused_671 rfl ?_
                  refine z_iconst C 1 dL_isRefused_672 (by decide) ?_
                  obtain ⟨b64, hw⟩ := hw
                  refine z_iald C 0 0 rfl rfl b64 dL_isRefused_673 ?_
                  refine z_bipush C 14 dL_isRefused_674 (by decide) ?_
                  obtain ⟨k65, hk66, hw⟩ := hw
                  have hj67 : ∀ (s68 : zS) (hS69 : ST A P s68), k65  → zV X D 12 (0 + 653) (0 + 3918) ((zFr g mo to eo m t e) ++ WX a g s68) 695 [(0, .ref (a 0)), (1, .ref mo), (7, .long x26)] [] := by
                    intro s68 hS69 hw0
                    have hw := hk66  hw0
                    refine z_aload_n C 0 dL_isRefused_695 rfl ?_
                    refine z_aload_n C 1 dL_isRefused_696 rfl ?_
                    refine z_cul C hR hL CL (wf := fun q => (zFr g mo to eo m t e) ++ WX a g q) (u0 := s68) (As := [.ref (a 0), .ref mo]) (c_L_all l hst D a g ea mo to eo A P m t e s68 hS69 _ hw) gL_isRefused_L_all rfl ⟨by decide +kernel, by decide +kernel, (show (parseMethodDescriptor yL_all.desc).map (fun d => d.parameters.length) = some 2 from by decide +kernel)⟩ ⟨Nat.le_of_ble_eq_true rfl, Nat.le_of_ble_eq_true rfl⟩ ⟨by dsimp only; omega, by dsimp only; omega⟩ rfl (Nat.le_of_ble_eq_true rfl) dL_isRefused_697 (fun r70 s71 hk => ?_)
                    refine z_widen (k := (0 + 781)) (n := (0 + 4686)) (by dsimp only; omega) (by dsimp only; omega) ?_
                    obtain ⟨hw, hS72⟩ := hk
                    refine z_lload C 2 dL_isRefused_700 rfl ?_
                    refine z_lcmp_ne C 710 dL_isRefused_702 dL_isRefused_703 (by decide) (fun hc => ?_) (fun hc => ?_)
                    · have hw := hw.1 hc
                      refine z_iconst C 0 dL_isRefused_710 (by decide) ?_
                      obtain ⟨b73, hw⟩ := hw
                      exact hE _ _ _ s71 _ _ dL_isRefused_711 b73 (by dsimp only; omega) (by dsimp only; omega) ⟨hw, hS72⟩
                    · have hw := hw.2 hc
                      refine z_iconst C 1 dL_isRefused_706 (by decide) ?_
                      refine z_goto C 711 dL_isRefused_707 (by decide) ?_
                      obtain ⟨b74, hw⟩ := hw
                      exact hE _ _ _ s71 _ _ dL_isRefused_711 b74 (by dsimp only; omega) (by dsimp only; omega) ⟨hw, hS72⟩
                  refine z_icmp_lt C 695 dL_isRefused_676 (by decide) (fun hc => ?_) (fun hc => ?_)
                  · have hw := hw.1 hc
                    refine z_widen (k := (0 + 653)) (n := (0 + 3918)) (by omega) (by omega) ?_
                    exact hj67  s62 hS63 hw
                  · have hw := hw.2 hc
                    refine z_aload_n C 0 dL_isRefused_679 rfl ?_
                    refine z_iconst C 2 dL_isRefused_680 (by decide) ?_
                    refine z_iconst C 0 dL_isRefused_681 (by decide) ?_
                    refine z_iconst C 1 dL_isRefused_682 (by decide) ?_
                    refine z_iconst C 5 dL_isRefused_683 (by decide) ?_
                    refine z_iconst C 1 dL_isRefused_684 (by decide) ?_
                    refine z_fwl C hR hL CL (wr := (zFr g mo to eo m t e)) (wf := WX a g) (u0 := s62) (As := [.ref (a 0), .int 2, .int 0, .int 1, .int 5, .int 1]) (c_L_act l hst D a g ea A P s62 hS63 (2) (0) (1) (5) (1)) gL_isRefused_L_act rfl ⟨by decide +kernel, by decide +kernel, (show (parseMethodDescriptor yL_act.desc).map (fun d => d.parameters.length) = some 6 from by decide +kernel)⟩ ⟨Nat.le_of_ble_eq_true rfl, Nat.le_of_ble_eq_true rfl⟩ ⟨by dsimp only; omega, by dsimp only; omega⟩ rfl (Nat.le_of_ble_eq_true rfl) dL_isRefused_685 (fun r75 s76 hk => ?_)
                    refine z_widen (k := (0 + 653)) (n := (0 + 3918)) (by dsimp only; omega) (by dsimp only; omega) ?_
                    obtain ⟨A1, P1, eq, hq⟩ := hk
                    obtain ⟨h9, hw⟩ := hw
                    obtain ⟨er75, hS77⟩ := act_same eq hq h9
                    have hw := hw r75 er75
                    refine z_ldc2 C (-161300000000000000) (List.mem_of_getElem? (i := 5) rfl) dL_isRefused_688 ?_
                    refine z_lcmp_ne C 710 dL_isRefused_691 dL_isRefused_692 (by decide) (fun hc => ?_) (fun hc => ?_)
                    · have hw := hw.1 hc
                      refine z_iconst C 0 dL_isRefused_710 (by decide) ?_
                      obtain ⟨b78, hw⟩ := hw
                      exact hE _ _ _ s76 _ _ dL_isRefused_711 b78 (by dsimp only; omega) (by dsimp only; omega) ⟨hw, hS77⟩
                    · have hw := hw.2 hc
                      exact hj67  s76 hS77 hw
                refine z_icmp_lt C 671 dL_isRefused_652 (by decide) (fun hc => ?_) (fun hc => ?_)
                · have hw := hw.1 hc
                  refine z_sub (lv' := [(0, .ref (a 0)), (1, .ref mo), (7, .long x26)]) [0, 1, 2] rfl ?_
                  refine z_widen (k := (0 + 650)) (n := (0 + 3900)) (by omega) (by omega) ?_
                  exact hj61  s55 hS56 hw
                · have hw := hw.2 hc
                  refine z_aload_n C 0 dL_isRefused_655 rfl ?_
                  refine z_iconst C 0 dL_isRefused_656 (by decide) ?_
                  refine z_iconst C 0 dL_isRefused_657 (by decide) ?_
                  refine z_iconst C 0 dL_isRefused_658 (by decide) ?_
                  refine z_iconst C 0 dL_isRefused_659 (by decide) ?_
                  refine z_iconst C 0 dL_isRefused_660 (by decide) ?_
                  refine z_fwl C hR hL CL (wr := (zFr g mo to eo m t e)) (wf := WX a g) (u0 := s55) (As := [.ref (a 0), .int 0, .int 0, .int 0, .int 0, .int 0]) (c_L_act l hst D a g ea A P s55 hS56 (0) (0) (0) (0) (0)) gL_isRefused_L_act rfl ⟨by decide +kernel, by decide +kernel, (show (parseMethodDescriptor yL_act.desc).map (fun d => d.parameters.length) = some 6 from by decide +kernel)⟩ ⟨Nat.le_of_ble_eq_true rfl, Nat.le_of_ble_eq_true rfl⟩ ⟨by dsimp only; omega, by dsimp only; omega⟩ rfl (Nat.le_of_ble_eq_true rfl) dL_isRefused_661 (fun r79 s80 hk => ?_)
                  refine z_widen (k := (0 + 650)) (n := (0 + 3900)) (by dsimp only; omega) (by dsimp only; omega) ?_
                  obtain ⟨A1, P1, eq, hq⟩ := hk
                  obtain ⟨h9, hw⟩ := hw
                  obtain ⟨er79, hS81⟩ := act_same eq hq h9
                  have hw := hw r79 er79
                  refine z_ldc2 C (-161300000000000000) (List.mem_of_getElem? (i := 5) rfl) dL_isRefused_664 ?_
                  refine z_lcmp_ne C 710 dL_isRefused_667 dL_isRefused_668 (by decide) (fun hc => ?_) (fun hc => ?_)
                  · have hw := hw.1 hc
                    refine z_iconst C 0 dL_isRefused_710 (by decide) ?_
                    obtain ⟨b82, hw⟩ := hw
                    exact hE _ _ _ s80 _ _ dL_isRefused_711 b82 (by dsimp only; omega) (by dsimp only; omega) ⟨hw, hS81⟩
                  · have hw := hw.2 hc
                    refine z_sub (lv' := [(0, .ref (a 0)), (1, .ref mo), (7, .long x26)]) [0, 1, 2] rfl ?_
                    exact hj61  s80 hS81 hw
            have lp53 : ∀ n : Nat, n ≤ 16 → ∀ (v83 : Int32) (v84 : Int32) (s85 : zS) (hS86 : ST A P s85), W_L_isRefused_L533 A P m t e x26 Q K48 n v83 v84 → zV X D 12 ((0 + 455 + 12 * (16 - n)) + 0) ((0 + 2730 + 72 * (16 - n)) + 0) ((zFr g mo to eo m t e) ++ WX a g s85) 533 [(0, .ref (a 0)), (1, .ref mo), (2, .ref eo), (7, .long x26), (9, .int v83), (10, .int v84)] [] := by
              intro n
              induction n with
              | zero => intro _ v83 v84 s85 hS86 hw; exact False.elim hw
              | succ n ih =>
                intro hn v83 v84 s85 hS86 hw
                have hw : _ := hw
                refine z_iload C 5 dL_isRefused_533 rfl ?_
                refine z_aload_n C 1 dL_isRefused_535 rfl ?_
                refine z_iconst C 1 dL_isRefused_536 (by decide) ?_
                obtain ⟨b87, hw⟩ := hw
                refine z_iald C 0 0 rfl rfl b87 dL_isRefused_537 ?_
                refine z_icmp_ge C 642 dL_isRefused_538 (by decide) (fun hc => ?_) (fun hc => ?_)
                · have hw := hw.1 hc
                  refine z_sub (lv' := [(0, .ref (a 0)), (1, .ref mo), (7, .long x26), (9, .int v83)]) [0, 1, 3, 4] rfl ?_
                  refine z_widen (k := (0 + 647)) (n := (0 + 3882)) (by omega) (by omega) ?_
                  exact hx52 _ s85 hS86 hw
                · have hw := hw.2 hc
                  refine z_iload C 4 dL_isRefused_541 rfl ?_
                  refine z_if_eq C 642 dL_isRefused_543 (by decide) (fun hc => ?_) (fun hc => ?_)
                  · have hw := hw.1 hc
                    refine z_sub (lv' := [(0, .ref (a 0)), (1, .ref mo), (7, .long x26), (9, .int v83)]) [0, 1, 3, 4] rfl ?_
                    refine z_widen (k := (0 + 647)) (n := (0 + 3882)) (by omega) (by omega) ?_
                    exact hx52 _ s85 hS86 hw
                  · have hw := hw.2 hc
                    refine z_aload_n C 2 dL_isRefused_546 rfl ?_
                    refine z_iconst C 5 dL_isRefused_547 (by decide) ?_
                    refine z_iload C 5 dL_isRefused_548 rfl ?_
                    refine z_imul C dL_isRefused_550 ?_
                    refine z_iconst C 4 dL_isRefused_551 (by decide) ?_
                    refine z_iadd C dL_isRefused_552 ?_
                    obtain ⟨b88, hw⟩ := hw
                    refine z_iald C 2 0 rfl rfl b88 dL_isRefused_553 ?_
                    refine z_if_eq C 629 dL_isRefused_554 (by decide) (fun hc => ?_) (fun hc => ?_)
                    · have hw := hw.1 hc
                      refine z_iconst C 1 dL_isRefused_629 (by decide) ?_
                      refine z_goto C 634 dL_isRefused_630 (by decide) ?_
                      refine z_topi (fun x89 ex89 => ?_)
                      have hw := hw x89 ex89
                      refine z_istore (lv' := [(9, .int x89), (0, .ref (a 0)), (1, .ref mo), (2, .ref eo), (7, .long x26), (10, .int v84)]) C dL_isRefused_634 (by decide) rfl ?_
                      obtain ⟨x90, ex90⟩ : ∃ z : Int32, z = v84 + 1 := ⟨_, rfl⟩
                      have hw := hw x90 ex90
                      refine z_iinc (lv' := [(10, .int x90), (9, .int x89), (0, .ref (a 0)), (1, .ref mo), (2, .ref eo), (7, .long x26)]) C 5 dL_isRefused_636 rfl (by rw [ex90]; rfl) (by decide) rfl ?_
                      refine z_goto C 533 dL_isRefused_639 (by decide) ?_
                      refine z_sub (lv' := [(0, .ref (a 0)), (1, .ref mo), (2, .ref eo), (7, .long x26), (9, .int x89), (10, .int x90)]) [2, 3, 4, 5, 1, 0] rfl ?_
                      refine z_widen (k := ((0 + 455 + 12 * (16 - n)) + 0)) (n := ((0 + 2730 + 72 * (16 - n)) + 0)) (by omega) (by omega) ?_
                      exact ih (by omega) _ _ s85 hS86 hw
                    · have hw := hw.2 hc
                      refine z_aload_n C 0 dL_isRefused_557 rfl ?_
                      refine z_bipush C 9 dL_isRefused_558 (by decide) ?_
                      refine z_iload C 5 dL_isRefused_560 rfl ?_
                      refine z_iconst C 0 dL_isRefused_562 (by decide) ?_
                      refine z_iconst C 0 dL_isRefused_563 (by decide) ?_
                      refine z_iconst C 0 dL_isRefused_564 (by decide) ?_
                      refine z_fwl C hR hL CL (wr := (zFr g mo to eo m t e)) (wf := WX a g) (u0 := s85) (As := [.ref (a 0), .int 9, .int v84, .int 0, .int 0, .int 0]) (c_L_act l hst D a g ea A P s85 hS86 (9) v84 (0) (0) (0)) gL_isRefused_L_act rfl ⟨by decide +kernel, by decide +kernel, (show (parseMethodDescriptor yL_act.desc).map (fun d => d.parameters.length) = some 6 from by decide +kernel)⟩ ⟨Nat.le_of_ble_eq_true rfl, Nat.le_of_ble_eq_true rfl⟩ ⟨by dsimp only; omega, by dsimp only; omega⟩ rfl (Nat.le_of_ble_eq_true rfl) dL_isRefused_565 (fun r91 s92 hk => ?_)
                      refine z_widen (k := ((0 + 455 + 12 * (16 - (n + 1))) + 3)) (n := ((0 + 2730 + 72 * (16 - (n + 1))) + 18)) (by dsimp only; omega) (by dsimp only; omega) ?_
                      obtain ⟨A1, P1, eq, hq⟩ := hk
                      obtain ⟨h9, hw⟩ := hw
                      obtain ⟨er91, hS93⟩ := act_same eq hq h9
                      have hw := hw r91 er91
                      refine z_ldc2 C (-161300000000000000) (List.mem_of_getElem? (i := 5) rfl) dL_isRefused_568 ?_
                      refine z_lcmp_ne C 633 dL_isRefused_571 dL_isRefused_572 (by decide) (fun hc => ?_) (fun hc => ?_)
                      · have hw := hw.1 hc
                        refine z_iconst C 0 dL_isRefused_633 (by decide) ?_
                        refine z_topi (fun x94 ex94 => ?_)
                        have hw := hw x94 ex94
                        refine z_istore (lv' := [(9, .int x94), (0, .ref (a 0)), (1, .ref mo), (2, .ref eo), (7, .long x26), (10, .int v84)]) C dL_isRefused_634 (by decide) rfl ?_
                        obtain ⟨x95, ex95⟩ : ∃ z : Int32, z = v84 + 1 := ⟨_, rfl⟩
                        have hw := hw x95 ex95
                        refine z_iinc (lv' := [(10, .int x95), (9, .int x94), (0, .ref (a 0)), (1, .ref mo), (2, .ref eo), (7, .long x26)]) C 5 dL_isRefused_636 rfl (by rw [ex95]; rfl) (by decide) rfl ?_
                        refine z_goto C 533 dL_isRefused_639 (by decide) ?_
                        refine z_sub (lv' := [(0, .ref (a 0)), (1, .ref mo), (2, .ref eo), (7, .long x26), (9, .int x94), (10, .int x95)]) [2, 3, 4, 5, 1, 0] rfl ?_
                        refine z_widen (k := ((0 + 455 + 12 * (16 - n)) + 0)) (n := ((0 + 2730 + 72 * (16 - n)) + 0)) (by omega) (by omega) ?_
                        exact ih (by omega) _ _ s92 hS93 hw
                      · have hw := hw.2 hc
                        refine z_aload_n C 0 dL_isRefused_575 rfl ?_
                        refine z_bipush C 10 dL_isRefused_576 (by decide) ?_
                        refine z_iload C 5 dL_isRefused_578 rfl ?_
                        refine z_iconst C 0 dL_isRefused_580 (by decide) ?_
                        refine z_iconst C 0 dL_isRefused_581 (by decide) ?_
                        refine z_iconst C 0 dL_isRefused_582 (by decide) ?_
                        refine z_fwl C hR hL CL (wr := (zFr g mo to eo m t e)) (wf := WX a g) (u0 := s92) (As := [.ref (a 0), .int 10, .int v84, .int 0, .int 0, .int 0]) (c_L_act l hst D a g ea A P s92 hS93 (10) v84 (0) (0) (0)) gL_isRefused_L_act rfl ⟨by decide +kernel, by decide +kernel, (show (parseMethodDescriptor yL_act.desc).map (fun d => d.parameters.length) = some 6 from by decide +kernel)⟩ ⟨Nat.le_of_ble_eq_true rfl, Nat.le_of_ble_eq_true rfl⟩ ⟨by dsimp only; omega, by dsimp only; omega⟩ rfl (Nat.le_of_ble_eq_true rfl) dL_isRefused_583 (fun r96 s97 hk => ?_)
                        refine z_widen (k := ((0 + 455 + 12 * (16 - (n + 1))) + 6)) (n := ((0 + 2730 + 72 * (16 - (n + 1))) + 36)) (by dsimp only; omega) (by dsimp only; omega) ?_
                        obtain ⟨A1, P1, eq, hq⟩ := hk
                        obtain ⟨h9, hw⟩ := hw
                        obtain ⟨er96, hS98⟩ := act_same eq hq h9
                        have hw := hw r96 er96
                        refine z_ldc2 C (-161300000000000000) (List.mem_of_getElem? (i := 5) rfl) dL_isRefused_586 ?_
                        refine z_lcmp_ne C 633 dL_isRefused_589 dL_isRefused_590 (by decide) (fun hc => ?_) (fun hc => ?_)
                        · have hw := hw.1 hc
                          refine z_iconst C 0 dL_isRefused_633 (by decide) ?_
                          refine z_topi (fun x99 ex99 => ?_)
                          have hw := hw x99 ex99
                          refine z_istore (lv' := [(9, .int x99), (0, .ref (a 0)), (1, .ref mo), (2, .ref eo), (7, .long x26), (10, .int v84)]) C dL_isRefused_634 (by decide) rfl ?_
                          obtain ⟨x100, ex100⟩ : ∃ z : Int32, z = v84 + 1 := ⟨_, rfl⟩
                          have hw := hw x100 ex100
                          refine z_iinc (lv' := [(10, .int x100), (9, .int x99), (0, .ref (a 0)), (1, .ref mo), (2, .ref eo), (7, .long x26)]) C 5 dL_isRefused_636 rfl (by rw [ex100]; rfl) (by decide) rfl ?_
                          refine z_goto C 533 dL_isRefused_639 (by decide) ?_
                          refine z_sub (lv' := [(0, .ref (a 0)), (1, .ref mo), (2, .ref eo), (7, .long x26), (9, .int x99), (10, .int x100)]) [2, 3, 4, 5, 1, 0] rfl ?_
                          refine z_widen (k := ((0 + 455 + 12 * (16 - n)) + 0)) (n := ((0 + 2730 + 72 * (16 - n)) + 0)) (by omega) (by omega) ?_
                          exact ih (by omega) _ _ s97 hS98 hw
                        · have hw := hw.2 hc
                          refine z_aload_n C 0 dL_isRefused_593 rfl ?_
                          refine z_bipush C 11 dL_isRefused_594 (by decide) ?_
                          refine z_iload C 5 dL_isRefused_596 rfl ?_
                          refine z_iconst C 0 dL_isRefused_598 (by decide) ?_
                          refine z_iconst C 0 dL_isRefused_599 (by decide) ?_
                          refine z_iconst C 0 dL_isRefused_600 (by decide) ?_
                          refine z_fwl C hR hL CL (wr := (zFr g mo to eo m t e)) (wf := WX a g) (u0 := s97) (As := [.ref (a 0), .int 11, .int v84, .int 0, .int 0, .int 0]) (c_L_act l hst D a g ea A P s97 hS98 (11) v84 (0) (0) (0)) gL_isRefused_L_act rfl ⟨by decide +kernel, by decide +kernel, (show (parseMethodDescriptor yL_act.desc).map (fun d => d.parameters.length) = some 6 from by decide +kernel)⟩ ⟨Nat.le_of_ble_eq_true rfl, Nat.le_of_ble_eq_true rfl⟩ ⟨by dsimp only; omega, by dsimp only; omega⟩ rfl (Nat.le_of_ble_eq_true rfl) dL_isRefused_601 (fun r101 s102 hk => ?_)
                          refine z_widen (k := ((0 + 455 + 12 * (16 - (n + 1))) + 9)) (n := ((0 + 2730 + 72 * (16 - (n + 1))) + 54)) (by dsimp only; omega) (by dsimp only; omega) ?_
                          obtain ⟨A1, P1, eq, hq⟩ := hk
                          obtain ⟨h9, hw⟩ := hw
                          obtain ⟨er101, hS103⟩ := act_same eq hq h9
                          have hw := hw r101 er101
                          refine z_ldc2 C (-161300000000000000) (List.mem_of_getElem? (i := 5) rfl) dL_isRefused_604 ?_
                          refine z_lcmp_ne C 633 dL_isRefused_607 dL_isRefused_608 (by decide) (fun hc => ?_) (fun hc => ?_)
                          · have hw := hw.1 hc
                            refine z_iconst C 0 dL_isRefused_633 (by decide) ?_
                            refine z_topi (fun x104 ex104 => ?_)
                            have hw := hw x104 ex104
                            refine z_istore (lv' := [(9, .int x104), (0, .ref (a 0)), (1, .ref mo), (2, .ref eo), (7, .long x26), (10, .int v84)]) C dL_isRefused_634 (by decide) rfl ?_
                            obtain ⟨x105, ex105⟩ : ∃ z : Int32, z = v84 + 1 := ⟨_, rfl⟩
                            have hw := hw x105 ex105
                            refine z_iinc (lv' := [(10, .int x105), (9, .int x104), (0, .ref (a 0)), (1, .ref mo), (2, .ref eo), (7, .long x26)]) C 5 dL_isRefused_636 rfl (by rw [ex105]; rfl) (by decide) rfl ?_
                            refine z_goto C 533 dL_isRefused_639 (by decide) ?_
                            refine z_sub (lv' := [(0, .ref (a 0)), (1, .ref mo), (2, .ref eo), (7, .long x26), (9, .int x104), (10, .int x105)]) [2, 3, 4, 5, 1, 0] rfl ?_
                            refine z_widen (k := ((0 + 455 + 12 * (16 - n)) + 0)) (n := ((0 + 2730 + 72 * (16 - n)) + 0)) (by omega) (by omega) ?_
                            exact ih (by omega) _ _ s102 hS103 hw
                          · have hw := hw.2 hc
                            refine z_aload_n C 0 dL_isRefused_611 rfl ?_
                            refine z_bipush C 12 dL_isRefused_612 (by decide) ?_
                            refine z_iload C 5 dL_isRefused_614 rfl ?_
                            refine z_iconst C 0 dL_isRefused_616 (by decide) ?_
                            refine z_iconst C 0 dL_isRefused_617 (by decide) ?_
                            refine z_iconst C 0 dL_isRefused_618 (by decide) ?_
                            refine z_fwl C hR hL CL (wr := (zFr g mo to eo m t e)) (wf := WX a g) (u0 := s102) (As := [.ref (a 0), .int 12, .int v84, .int 0, .int 0, .int 0]) (c_L_act l hst D a g ea A P s102 hS103 (12) v84 (0) (0) (0)) gL_isRefused_L_act rfl ⟨by decide +kernel, by decide +kernel, (show (parseMethodDescriptor yL_act.desc).map (fun d => d.parameters.length) = some 6 from by decide +kernel)⟩ ⟨Nat.le_of_ble_eq_true rfl, Nat.le_of_ble_eq_true rfl⟩ ⟨by dsimp only; omega, by dsimp only; omega⟩ rfl (Nat.le_of_ble_eq_true rfl) dL_isRefused_619 (fun r106 s107 hk => ?_)
                            refine z_widen (k := ((0 + 455 + 12 * (16 - (n + 1))) + 12)) (n := ((0 + 2730 + 72 * (16 - (n + 1))) + 72)) (by dsimp only; omega) (by dsimp only; omega) ?_
                            obtain ⟨A1, P1, eq, hq⟩ := hk
                            obtain ⟨h9, hw⟩ := hw
                            obtain ⟨er106, hS108⟩ := act_same eq hq h9
                            have hw := hw r106 er106
                            refine z_ldc2 C (-161300000000000000) (List.mem_of_getElem? (i := 5) rfl) dL_isRefused_622 ?_
                            refine z_lcmp_ne C 633 dL_isRefused_625 dL_isRefused_626 (by decide) (fun hc => ?_) (fun hc => ?_)
                            · have hw := hw.1 hc
                              refine z_iconst C 0 dL_isRefused_633 (by decide) ?_
                              refine z_topi (fun x109 ex109 => ?_)
                              have hw := hw x109 ex109
                              refine z_istore (lv' := [(9, .int x109), (0, .ref (a 0)), (1, .ref mo), (2, .ref eo), (7, .long x26), (10, .int v84)]) C dL_isRefused_634 (by decide) rfl ?_
                              obtain ⟨x110, ex110⟩ : ∃ z : Int32, z = v84 + 1 := ⟨_, rfl⟩
                              have hw := hw x110 ex110
                              refine z_iinc (lv' := [(10, .int x110), (9, .int x109), (0, .ref (a 0)), (1, .ref mo), (2, .ref eo), (7, .long x26)]) C 5 dL_isRefused_636 rfl (by rw [ex110]; rfl) (by decide) rfl ?_
                              refine z_goto C 533 dL_isRefused_639 (by decide) ?_
                              refine z_sub (lv' := [(0, .ref (a 0)), (1, .ref mo), (2, .ref eo), (7, .long x26), (9, .int x109), (10, .int x110)]) [2, 3, 4, 5, 1, 0] rfl ?_
                              refine z_widen (k := ((0 + 455 + 12 * (16 - n)) + 0)) (n := ((0 + 2730 + 72 * (16 - n)) + 0)) (by omega) (by omega) ?_
                              exact ih (by omega) _ _ s107 hS108 hw
                            · have hw := hw.2 hc
                              refine z_iconst C 1 dL_isRefused_629 (by decide) ?_
                              refine z_goto C 634 dL_isRefused_630 (by decide) ?_
                              refine z_topi (fun x111 ex111 => ?_)
                              have hw := hw x111 ex111
                              refine z_istore (lv' := [(9, .int x111), (0, .ref (a 0)), (1, .ref mo), (2, .ref eo), (7, .long x26), (10, .int v84)]) C dL_isRefused_634 (by decide) rfl ?_
                              obtain ⟨x112, ex112⟩ : ∃ z : Int32, z = v84 + 1 := ⟨_, rfl⟩
                              have hw := hw x112 ex112
                              refine z_iinc (lv' := [(10, .int x112), (9, .int x111), (0, .ref (a 0)), (1, .ref mo), (2, .ref eo), (7, .long x26)]) C 5 dL_isRefused_636 rfl (by rw [ex112]; rfl) (by decide) rfl ?_
                              refine z_goto C 533 dL_isRefused_639 (by decide) ?_
                              refine z_sub (lv' := [(0, .ref (a 0)), (1, .ref mo), (2, .ref eo), (7, .long x26), (9, .int x111), (10, .int x112)]) [2, 3, 4, 5, 1, 0] rfl ?_
                              refine z_widen (k := ((0 + 455 + 12 * (16 - n)) + 0)) (n := ((0 + 2730 + 72 * (16 - n)) + 0)) (by omega) (by omega) ?_
                              exact ih (by omega) _ _ s107 hS108 hw
            refine z_widen (k := (0 + 455 + 12 * (16 - n49)) + 0) (n := (0 + 2730 + 72 * (16 - n49)) + 0) (by omega) (by omega) ?_
            exact lp53 n49 hn50 _ _ s45 hS46 hw
          have lp43 : ∀ n : Nat, n ≤ 16 → ∀ (v113 : Int32) (v114 : Int32) (s115 : zS) (hS116 : ST A P s115), W_L_isRefused_L328 A P m t e p0 x8 x15 x26 Q K38 n v113 v114 → zV X D 12 ((0 + 167 + 18 * (16 - n)) + 0) ((0 + 1002 + 108 * (16 - n)) + 0) ((zFr g mo to eo m t e) ++ WX a g s115) 328 [(0, .ref (a 0)), (1, .ref mo), (2, .ref eo), (3, .int p0), (4, .int x8), (5, .int x15), (7, .long x26), (9, .int v113), (10, .int v114)] [] := by
            intro n
            induction n with
            | zero => intro _ v113 v114 s115 hS116 hw; exact False.elim hw
            | succ n ih =>
              intro hn v113 v114 s115 hS116 hw
              have hw : _ := hw
              refine z_iload C 8 dL_isRefused_328 rfl ?_
              refine z_aload_n C 1 dL_isRefused_330 rfl ?_
              refine z_iconst C 0 dL_isRefused_331 (by decide) ?_
              obtain ⟨b117, hw⟩ := hw
              refine z_iald C 0 0 rfl rfl b117 dL_isRefused_332 ?_
              refine z_icmp_ge C 530 dL_isRefused_333 (by decide) (fun hc => ?_) (fun hc => ?_)
              · have hw := hw.1 hc
                refine z_sub (lv' := [(0, .ref (a 0)), (1, .ref mo), (2, .ref eo), (7, .long x26), (9, .int v113)]) [0, 1, 2, 6, 7] rfl ?_
                refine z_widen (k := (0 + 455)) (n := (0 + 2730)) (by omega) (by omega) ?_
                exact hx42 _ s115 hS116 hw
              · have hw := hw.2 hc
                refine z_iload C 7 dL_isRefused_336 rfl ?_
                refine z_if_eq C 530 dL_isRefused_338 (by decide) (fun hc => ?_) (fun hc => ?_)
                · have hw := hw.1 hc
                  refine z_sub (lv' := [(0, .ref (a 0)), (1, .ref mo), (2, .ref eo), (7, .long x26), (9, .int v113)]) [0, 1, 2, 6, 7] rfl ?_
                  refine z_widen (k := (0 + 455)) (n := (0 + 2730)) (by omega) (by omega) ?_
                  exact hx42 _ s115 hS116 hw
                · have hw := hw.2 hc
                  refine z_iload C 8 dL_isRefused_341 rfl ?_
                  refine z_iconst C 1 dL_isRefused_343 (by decide) ?_
                  refine z_iadd C dL_isRefused_344 ?_
                  refine z_aload_n C 1 dL_isRefused_345 rfl ?_
                  refine z_iconst C 0 dL_isRefused_346 (by decide) ?_
                  obtain ⟨b118, hw⟩ := hw
                  refine z_iald C 0 0 rfl rfl b118 dL_isRefused_347 ?_
                  obtain ⟨b119, hw⟩ := hw
                  refine z_irem C dL_isRefused_348 b119 ?_
                  refine z_topi (fun x120 ex120 => ?_)
                  have hw := hw x120 ex120
                  refine z_istore (lv' := [(11, .int x120), (0, .ref (a 0)), (1, .ref mo), (2, .ref eo), (3, .int p0), (4, .int x8), (5, .int x15), (7, .long x26), (9, .int v113), (10, .int v114)]) C dL_isRefused_349 (by decide) rfl ?_
                  refine z_aload_n C 1 dL_isRefused_351 rfl ?_
                  refine z_iconst C 1 dL_isRefused_352 (by decide) ?_
                  refine z_iload C 9 dL_isRefused_353 rfl ?_
                  refine z_iload C 5 dL_isRefused_355 rfl ?_
                  obtain ⟨k121, hk122, hw⟩ := hw
                  have hj123 : ∀ (v124 : Int32) (s125 : zS) (hS126 : ST A P s125), k121 v124 → zV X D 12 ((0 + 167 + 18 * (16 - (n + 1))) + 0) ((0 + 1002 + 108 * (16 - (n + 1))) + 0) ((zFr g mo to eo m t e) ++ WX a g s125) 374 [(0, .ref (a 0)), (1, .ref mo), (2, .ref eo), (3, .int p0), (4, .int x8), (5, .int x15), (7, .long x26), (10, .int v114), (11, .int x120)] [.int v124, .int v114, .int 1, .ref (a 0)] := by
                    intro v124 s125 hS126 hw0
                    have hw := hk122 v124 hw0
                    refine z_iconst C 1 dL_isRefused_374 (by decide) ?_
                    refine z_iconst C 0 dL_isRefused_375 (by decide) ?_
                    refine z_fwl C hR hL CL (wr := (zFr g mo to eo m t e)) (wf := WX a g) (u0 := s125) (As := [.ref (a 0), .int 1, .int v114, .int v124, .int 1, .int 0]) (c_L_act l hst D a g ea A P s125 hS126 (1) v114 v124 (1) (0)) gL_isRefused_L_act rfl ⟨by decide +kernel, by decide +kernel, (show (parseMethodDescriptor yL_act.desc).map (fun d => d.parameters.length) = some 6 from by decide +kernel)⟩ ⟨Nat.le_of_ble_eq_true rfl, Nat.le_of_ble_eq_true rfl⟩ ⟨by dsimp only; omega, by dsimp only; omega⟩ rfl (Nat.le_of_ble_eq_true rfl) dL_isRefused_376 (fun r127 s128 hk => ?_)
                    refine z_widen (k := ((0 + 167 + 18 * (16 - (n + 1))) + 3)) (n := ((0 + 1002 + 108 * (16 - (n + 1))) + 18)) (by dsimp only; omega) (by dsimp only; omega) ?_
                    obtain ⟨A1, P1, eq, hq⟩ := hk
                    obtain ⟨h9, hw⟩ := hw
                    obtain ⟨er127, hS129⟩ := act_same eq hq h9
                    have hw := hw r127 er127
                    refine z_ldc2 C (-161200000000000000) (List.mem_of_getElem? (i := 4) rfl) dL_isRefused_379 ?_
                    refine z_lcmp_ne C 521 dL_isRefused_382 dL_isRefused_383 (by decide) (fun hc => ?_) (fun hc => ?_)
                    · have hw := hw.1 hc
                      refine z_iconst C 0 dL_isRefused_521 (by decide) ?_
                      refine z_topi (fun x130 ex130 => ?_)
                      have hw := hw x130 ex130
                      refine z_istore (lv' := [(9, .int x130), (0, .ref (a 0)), (1, .ref mo), (2, .ref eo), (3, .int p0), (4, .int x8), (5, .int x15), (7, .long x26), (10, .int v114), (11, .int x120)]) C dL_isRefused_522 (by decide) rfl ?_
                      obtain ⟨x131, ex131⟩ : ∃ z : Int32, z = v114 + 1 := ⟨_, rfl⟩
                      have hw := hw x131 ex131
                      refine z_iinc (lv' := [(10, .int x131), (9, .int x130), (0, .ref (a 0)), (1, .ref mo), (2, .ref eo), (3, .int p0), (4, .int x8), (5, .int x15), (7, .long x26), (11, .int x120)]) C 8 dL_isRefused_524 rfl (by rw [ex131]; rfl) (by decide) rfl ?_
                      refine z_goto C 328 dL_isRefused_527 (by decide) ?_
                      refine z_sub (lv' := [(0, .ref (a 0)), (1, .ref mo), (2, .ref eo), (3, .int p0), (4, .int x8), (5, .int x15), (7, .long x26), (9, .int x130), (10, .int x131)]) [2, 3, 4, 5, 6, 7, 8, 1, 0] rfl ?_
                      refine z_widen (k := ((0 + 167 + 18 * (16 - n)) + 0)) (n := ((0 + 1002 + 108 * (16 - n)) + 0)) (by omega) (by omega) ?_
                      exact ih (by omega) _ _ s128 hS129 hw
                    · have hw := hw.2 hc
                      refine z_aload_n C 0 dL_isRefused_386 rfl ?_
                      refine z_iconst C 2 dL_isRefused_387 (by decide) ?_
                      refine z_iload C 7 dL_isRefused_388 rfl ?_
                      refine z_iload C 5 dL_isRefused_390 rfl ?_
                      refine z_ldc C 99999 (List.mem_of_getElem? (i := 1) rfl) dL_isRefused_392 ?_
                      refine z_iconst C 0 dL_isRefused_394 (by decide) ?_
                      refine z_fwl C hR hL CL (wr := (zFr g mo to eo m t e)) (wf := WX a g) (u0 := s128) (As := [.ref (a 0), .int 2, .int v114, .int x15, .int 99999, .int 0]) (c_L_act l hst D a g ea A P s128 hS129 (2) v114 x15 (99999) (0)) gL_isRefused_L_act rfl ⟨by decide +kernel, by decide +kernel, (show (parseMethodDescriptor yL_act.desc).map (fun d => d.parameters.length) = some 6 from by decide +kernel)⟩ ⟨Nat.le_of_ble_eq_true rfl, Nat.le_of_ble_eq_true rfl⟩ ⟨by dsimp only; omega, by dsimp only; omega⟩ rfl (Nat.le_of_ble_eq_true rfl) dL_isRefused_395 (fun r132 s133 hk => ?_)
                      refine z_widen (k := ((0 + 167 + 18 * (16 - (n + 1))) + 6)) (n := ((0 + 1002 + 108 * (16 - (n + 1))) + 36)) (by dsimp only; omega) (by dsimp only; omega) ?_
                      obtain ⟨A1, P1, eq, hq⟩ := hk
                      obtain ⟨h9, hw⟩ := hw
                      obtain ⟨er132, hS134⟩ := act_same eq hq h9
                      have hw := hw r132 er132
                      refine z_ldc2 C (-161100000000000000) (List.mem_of_getElem? (i := 2) rfl) dL_isRefused_398 ?_
                      refine z_lcmp_ne C 521 dL_isRefused_401 dL_isRefused_402 (by decide) (fun hc => ?_) (fun hc => ?_)
                      · have hw := hw.1 hc
                        refine z_iconst C 0 dL_isRefused_521 (by decide) ?_
                        refine z_topi (fun x135 ex135 => ?_)
                        have hw := hw x135 ex135
                        refine z_istore (lv' := [(9, .int x135), (0, .ref (a 0)), (1, .ref mo), (2, .ref eo), (3, .int p0), (4, .int x8), (5, .int x15), (7, .long x26), (10, .int v114), (11, .int x120)]) C dL_isRefused_522 (by decide) rfl ?_
                        obtain ⟨x136, ex136⟩ : ∃ z : Int32, z = v114 + 1 := ⟨_, rfl⟩
                        have hw := hw x136 ex136
                        refine z_iinc (lv' := [(10, .int x136), (9, .int x135), (0, .ref (a 0)), (1, .ref mo), (2, .ref eo), (3, .int p0), (4, .int x8), (5, .int x15), (7, .long x26), (11, .int x120)]) C 8 dL_isRefused_524 rfl (by rw [ex136]; rfl) (by decide) rfl ?_
                        refine z_goto C 328 dL_isRefused_527 (by decide) ?_
                        refine z_sub (lv' := [(0, .ref (a 0)), (1, .ref mo), (2, .ref eo), (3, .int p0), (4, .int x8), (5, .int x15), (7, .long x26), (9, .int x135), (10, .int x136)]) [2, 3, 4, 5, 6, 7, 8, 1, 0] rfl ?_
                        refine z_widen (k := ((0 + 167 + 18 * (16 - n)) + 0)) (n := ((0 + 1002 + 108 * (16 - n)) + 0)) (by omega) (by omega) ?_
                        exact ih (by omega) _ _ s133 hS134 hw
                      · have hw := hw.2 hc
                        refine z_aload_n C 0 dL_isRefused_405 rfl ?_
                        refine z_iconst C 2 dL_isRefused_406 (by decide) ?_
                        refine z_iload C 7 dL_isRefused_407 rfl ?_
                        refine z_iload C 7 dL_isRefused_409 rfl ?_
                        refine z_iconst C 5 dL_isRefused_411 (by decide) ?_
                        refine z_iconst C 1 dL_isRefused_412 (by decide) ?_
                        refine z_fwl C hR hL CL (wr := (zFr g mo to eo m t e)) (wf := WX a g) (u0 := s133) (As := [.ref (a 0), .int 2, .int v114, .int v114, .int 5, .int 1]) (c_L_act l hst D a g ea A P s133 hS134 (2) v114 v114 (5) (1)) gL_isRefused_L_act rfl ⟨by decide +kernel, by decide +kernel, (show (parseMethodDescriptor yL_act.desc).map (fun d => d.parameters.length) = some 6 from by decide +kernel)⟩ ⟨Nat.le_of_ble_eq_true rfl, Nat.le_of_ble_eq_true rfl⟩ ⟨by dsimp only; omega, by dsimp only; omega⟩ rfl (Nat.le_of_ble_eq_true rfl) dL_isRefused_413 (fun r137 s138 hk => ?_)
                        refine z_widen (k := ((0 + 167 + 18 * (16 - (n + 1))) + 9)) (n := ((0 + 1002 + 108 * (16 - (n + 1))) + 54)) (by dsimp only; omega) (by dsimp only; omega) ?_
                        obtain ⟨A1, P1, eq, hq⟩ := hk
                        obtain ⟨h9, hw⟩ := hw
                        obtain ⟨er137, hS139⟩ := act_same eq hq h9
                        have hw := hw r137 er137
                        refine z_ldc2 C (-161200000000000000) (List.mem_of_getElem? (i := 4) rfl) dL_isRefused_416 ?_
                        refine z_lcmp_ne C 521 dL_isRefused_419 dL_isRefused_420 (by decide) (fun hc => ?_) (fun hc => ?_)
                        · have hw := hw.1 hc
                          refine z_iconst C 0 dL_isRefused_521 (by decide) ?_
                          refine z_topi (fun x140 ex140 => ?_)
                          have hw := hw x140 ex140
                          refine z_istore (lv' := [(9, .int x140), (0, .ref (a 0)), (1, .ref mo), (2, .ref eo), (3, .int p0), (4, .int x8), (5, .int x15), (7, .long x26), (10, .int v114), (11, .int x120)]) C dL_isRefused_522 (by decide) rfl ?_
                          obtain ⟨x141, ex141⟩ : ∃ z : Int32, z = v114 + 1 := ⟨_, rfl⟩
                          have hw := hw x141 ex141
                          refine z_iinc (lv' := [(10, .int x141), (9, .int x140), (0, .ref (a 0)), (1, .ref mo), (2, .ref eo), (3, .int p0), (4, .int x8), (5, .int x15), (7, .long x26), (11, .int x120)]) C 8 dL_isRefused_524 rfl (by rw [ex141]; rfl) (by decide) rfl ?_
                          refine z_goto C 328 dL_isRefused_527 (by decide) ?_
                          refine z_sub (lv' := [(0, .ref (a 0)), (1, .ref mo), (2, .ref eo), (3, .int p0), (4, .int x8), (5, .int x15), (7, .long x26), (9, .int x140), (10, .int x141)]) [2, 3, 4, 5, 6, 7, 8, 1, 0] rfl ?_
                          refine z_widen (k := ((0 + 167 + 18 * (16 - n)) + 0)) (n := ((0 + 1002 + 108 * (16 - n)) + 0)) (by omega) (by omega) ?_
                          exact ih (by omega) _ _ s138 hS139 hw
                        · have hw := hw.2 hc
                          refine z_aload_n C 0 dL_isRefused_423 rfl ?_
                          refine z_iconst C 2 dL_isRefused_424 (by decide) ?_
                          refine z_iload C 7 dL_isRefused_425 rfl ?_
                          refine z_iload C 8 dL_isRefused_427 rfl ?_
                          refine z_iload C 4 dL_isRefused_429 rfl ?_
                          obtain ⟨k142, hk143, hw⟩ := hw
                          have hj144 : ∀ (v145 : Int32) (s146 : zS) (hS147 : ST A P s146), k142 v145 → zV X D 12 ((0 + 167 + 18 * (16 - (n + 1))) + 9) ((0 + 1002 + 108 * (16 - (n + 1))) + 54) ((zFr g mo to eo m t e) ++ WX a g s146) 448 [(0, .ref (a 0)), (1, .ref mo), (2, .ref eo), (3, .int p0), (4, .int x8), (5, .int x15), (7, .long x26), (10, .int v114), (11, .int x120)] [.int v145, .int x120, .int v114, .int 2, .ref (a 0)] := by
                            intro v145 s146 hS147 hw0
                            have hw := hk143 v145 hw0
                            refine z_iconst C 1 dL_isRefused_448 (by decide) ?_
                            refine z_fwl C hR hL CL (wr := (zFr g mo to eo m t e)) (wf := WX a g) (u0 := s146) (As := [.ref (a 0), .int 2, .int v114, .int x120, .int v145, .int 1]) (c_L_act l hst D a g ea A P s146 hS147 (2) v114 x120 v145 (1)) gL_isRefused_L_act rfl ⟨by decide +kernel, by decide +kernel, (show (parseMethodDescriptor yL_act.desc).map (fun d => d.parameters.length) = some 6 from by decide +kernel)⟩ ⟨Nat.le_of_ble_eq_true rfl, Nat.le_of_ble_eq_true rfl⟩ ⟨by dsimp only; omega, by dsimp only; omega⟩ rfl (Nat.le_of_ble_eq_true rfl) dL_isRefused_449 (fun r148 s149 hk => ?_)
                            refine z_widen (k := ((0 + 167 + 18 * (16 - (n + 1))) + 12)) (n := ((0 + 1002 + 108 * (16 - (n + 1))) + 72)) (by dsimp only; omega) (by dsimp only; omega) ?_
                            obtain ⟨A1, P1, eq, hq⟩ := hk
                            obtain ⟨h9, hw⟩ := hw
                            obtain ⟨er148, hS150⟩ := act_same eq hq h9
                            have hw := hw r148 er148
                            refine z_ldc2 C (-161200000000000000) (List.mem_of_getElem? (i := 4) rfl) dL_isRefused_452 ?_
                            refine z_lcmp_ne C 521 dL_isRefused_455 dL_isRefused_456 (by decide) (fun hc => ?_) (fun hc => ?_)
                            · have hw := hw.1 hc
                              refine z_iconst C 0 dL_isRefused_521 (by decide) ?_
                              refine z_topi (fun x151 ex151 => ?_)
                              have hw := hw x151 ex151
                              refine z_istore (lv' := [(9, .int x151), (0, .ref (a 0)), (1, .ref mo), (2, .ref eo), (3, .int p0), (4, .int x8), (5, .int x15), (7, .long x26), (10, .int v114), (11, .int x120)]) C dL_isRefused_522 (by decide) rfl ?_
                              obtain ⟨x152, ex152⟩ : ∃ z : Int32, z = v114 + 1 := ⟨_, rfl⟩
                              have hw := hw x152 ex152
                              refine z_iinc (lv' := [(10, .int x152), (9, .int x151), (0, .ref (a 0)), (1, .ref mo), (2, .ref eo), (3, .int p0), (4, .int x8), (5, .int x15), (7, .long x26), (11, .int x120)]) C 8 dL_isRefused_524 rfl (by rw [ex152]; rfl) (by decide) rfl ?_
                              refine z_goto C 328 dL_isRefused_527 (by decide) ?_
                              refine z_sub (lv' := [(0, .ref (a 0)), (1, .ref mo), (2, .ref eo), (3, .int p0), (4, .int x8), (5, .int x15), (7, .long x26), (9, .int x151), (10, .int x152)]) [2, 3, 4, 5, 6, 7, 8, 1, 0] rfl ?_
                              refine z_widen (k := ((0 + 167 + 18 * (16 - n)) + 0)) (n := ((0 + 1002 + 108 * (16 - n)) + 0)) (by omega) (by omega) ?_
                              exact ih (by omega) _ _ s149 hS150 hw
                            · have hw := hw.2 hc
                              refine z_aload_n C 0 dL_isRefused_459 rfl ?_
                              refine z_iconst C 2 dL_isRefused_460 (by decide) ?_
                              refine z_iload C 7 dL_isRefused_461 rfl ?_
                              refine z_iload C 8 dL_isRefused_463 rfl ?_
                              refine z_iconst C 5 dL_isRefused_465 (by decide) ?_
                              refine z_iload C 4 dL_isRefused_466 rfl ?_
                              obtain ⟨k153, hk154, hw⟩ := hw
                              have hj155 : ∀ (v156 : Int32) (s157 : zS) (hS158 : ST A P s157), k153 v156 → zV X D 12 ((0 + 167 + 18 * (16 - (n + 1))) + 12) ((0 + 1002 + 108 * (16 - (n + 1))) + 72) ((zFr g mo to eo m t e) ++ WX a g s157) 482 [(0, .ref (a 0)), (1, .ref mo), (2, .ref eo), (3, .int p0), (4, .int x8), (5, .int x15), (7, .long x26), (10, .int v114)] [.int v156, .int 5, .int x120, .int v114, .int 2, .ref (a 0)] := by
                                intro v156 s157 hS158 hw0
                                have hw := hk154 v156 hw0
                                refine z_fwl C hR hL CL (wr := (zFr g mo to eo m t e)) (wf := WX a g) (u0 := s157) (As := [.ref (a 0), .int 2, .int v114, .int x120, .int 5, .int v156]) (c_L_act l hst D a g ea A P s157 hS158 (2) v114 x120 (5) v156) gL_isRefused_L_act rfl ⟨by decide +kernel, by decide +kernel, (show (parseMethodDescriptor yL_act.desc).map (fun d => d.parameters.length) = some 6 from by decide +kernel)⟩ ⟨Nat.le_of_ble_eq_true rfl, Nat.le_of_ble_eq_true rfl⟩ ⟨by dsimp only; omega, by dsimp only; omega⟩ rfl (Nat.le_of_ble_eq_true rfl) dL_isRefused_482 (fun r159 s160 hk => ?_)
                                refine z_widen (k := ((0 + 167 + 18 * (16 - (n + 1))) + 15)) (n := ((0 + 1002 + 108 * (16 - (n + 1))) + 90)) (by dsimp only; omega) (by dsimp only; omega) ?_
                                obtain ⟨A1, P1, eq, hq⟩ := hk
                                obtain ⟨h9, hw⟩ := hw
                                obtain ⟨er159, hS161⟩ := act_same eq hq h9
                                have hw := hw r159 er159
                                refine z_ldc2 C (-161200000000000000) (List.mem_of_getElem? (i := 4) rfl) dL_isRefused_485 ?_
                                refine z_lcmp_ne C 521 dL_isRefused_488 dL_isRefused_489 (by decide) (fun hc => ?_) (fun hc => ?_)
                                · have hw := hw.1 hc
                                  refine z_iconst C 0 dL_isRefused_521 (by decide) ?_
                                  refine z_topi (fun x162 ex162 => ?_)
                                  have hw := hw x162 ex162
                                  refine z_istore (lv' := [(9, .int x162), (0, .ref (a 0)), (1, .ref mo), (2, .ref eo), (3, .int p0), (4, .int x8), (5, .int x15), (7, .long x26), (10, .int v114)]) C dL_isRefused_522 (by decide) rfl ?_
                                  obtain ⟨x163, ex163⟩ : ∃ z : Int32, z = v114 + 1 := ⟨_, rfl⟩
                                  have hw := hw x163 ex163
                                  refine z_iinc (lv' := [(10, .int x163), (9, .int x162), (0, .ref (a 0)), (1, .ref mo), (2, .ref eo), (3, .int p0), (4, .int x8), (5, .int x15), (7, .long x26)]) C 8 dL_isRefused_524 rfl (by rw [ex163]; rfl) (by decide) rfl ?_
                                  refine z_goto C 328 dL_isRefused_527 (by decide) ?_
                                  refine z_sub (lv' := [(0, .ref (a 0)), (1, .ref mo), (2, .ref eo), (3, .int p0), (4, .int x8), (5, .int x15), (7, .long x26), (9, .int x162), (10, .int x163)]) [2, 3, 4, 5, 6, 7, 8, 1, 0] rfl ?_
                                  refine z_widen (k := ((0 + 167 + 18 * (16 - n)) + 0)) (n := ((0 + 1002 + 108 * (16 - n)) + 0)) (by omega) (by omega) ?_
                                  exact ih (by omega) _ _ s160 hS161 hw
                                · have hw := hw.2 hc
                                  refine z_aload_n C 1 dL_isRefused_492 rfl ?_
                                  refine z_iconst C 2 dL_isRefused_493 (by decide) ?_
                                  obtain ⟨b164, hw⟩ := hw
                                  refine z_iald C 0 0 rfl rfl b164 dL_isRefused_494 ?_
                                  refine z_bipush C 10 dL_isRefused_495 (by decide) ?_
                                  refine z_icmp_lt C 517 dL_isRefused_497 (by decide) (fun hc => ?_) (fun hc => ?_)
                                  · have hw := hw.1 hc
                                    refine z_iconst C 1 dL_isRefused_517 (by decide) ?_
                                    refine z_goto C 522 dL_isRefused_518 (by decide) ?_
                                    refine z_topi (fun x165 ex165 => ?_)
                                    have hw := hw x165 ex165
                                    refine z_istore (lv' := [(9, .int x165), (0, .ref (a 0)), (1, .ref mo), (2, .ref eo), (3, .int p0), (4, .int x8), (5, .int x15), (7, .long x26), (10, .int v114)]) C dL_isRefused_522 (by decide) rfl ?_
                                    obtain ⟨x166, ex166⟩ : ∃ z : Int32, z = v114 + 1 := ⟨_, rfl⟩
                                    have hw := hw x166 ex166
                                    refine z_iinc (lv' := [(10, .int x166), (9, .int x165), (0, .ref (a 0)), (1, .ref mo), (2, .ref eo), (3, .int p0), (4, .int x8), (5, .int x15), (7, .long x26)]) C 8 dL_isRefused_524 rfl (by rw [ex166]; rfl) (by decide) rfl ?_
                                    refine z_goto C 328 dL_isRefused_527 (by decide) ?_
                                    refine z_sub (lv' := [(0, .ref (a 0)), (1, .ref mo), (2, .ref eo), (3, .int p0), (4, .int x8), (5, .int x15), (7, .long x26), (9, .int x165), (10, .int x166)]) [2, 3, 4, 5, 6, 7, 8, 1, 0] rfl ?_
                                    refine z_widen (k := ((0 + 167 + 18 * (16 - n)) + 0)) (n := ((0 + 1002 + 108 * (16 - n)) + 0)) (by omega) (by omega) ?_
                                    exact ih (by omega) _ _ s160 hS161 hw
                                  · have hw := hw.2 hc
                                    refine z_aload_n C 0 dL_isRefused_500 rfl ?_
                                    refine z_iconst C 5 dL_isRefused_501 (by decide) ?_
                                    refine z_iload C 7 dL_isRefused_502 rfl ?_
                                    refine z_iconst C 0 dL_isRefused_504 (by decide) ?_
                                    refine z_iconst C 0 dL_isRefused_505 (by decide) ?_
                                    refine z_iconst C 0 dL_isRefused_506 (by decide) ?_
                                    refine z_fwl C hR hL CL (wr := (zFr g mo to eo m t e)) (wf := WX a g) (u0 := s160) (As := [.ref (a 0), .int 5, .int v114, .int 0, .int 0, .int 0]) (c_L_act l hst D a g ea A P s160 hS161 (5) v114 (0) (0) (0)) gL_isRefused_L_act rfl ⟨by decide +kernel, by decide +kernel, (show (parseMethodDescriptor yL_act.desc).map (fun d => d.parameters.length) = some 6 from by decide +kernel)⟩ ⟨Nat.le_of_ble_eq_true rfl, Nat.le_of_ble_eq_true rfl⟩ ⟨by dsimp only; omega, by dsimp only; omega⟩ rfl (Nat.le_of_ble_eq_true rfl) dL_isRefused_507 (fun r167 s168 hk => ?_)
                                    refine z_widen (k := ((0 + 167 + 18 * (16 - (n + 1))) + 18)) (n := ((0 + 1002 + 108 * (16 - (n + 1))) + 108)) (by dsimp only; omega) (by dsimp only; omega) ?_
                                    obtain ⟨A1, P1, eq, hq⟩ := hk
                                    obtain ⟨h9, hw⟩ := hw
                                    obtain ⟨er167, hS169⟩ := act_same eq hq h9
                                    have hw := hw r167 er167
                                    refine z_ldc2 C (-161300000000000000) (List.mem_of_getElem? (i := 5) rfl) dL_isRefused_510 ?_
                                    refine z_lcmp_ne C 521 dL_isRefused_513 dL_isRefused_514 (by decide) (fun hc => ?_) (fun hc => ?_)
                                    · have hw := hw.1 hc
                                      refine z_iconst C 0 dL_isRefused_521 (by decide) ?_
                                      refine z_topi (fun x170 ex170 => ?_)
                                      have hw := hw x170 ex170
                                      refine z_istore (lv' := [(9, .int x170), (0, .ref (a 0)), (1, .ref mo), (2, .ref eo), (3, .int p0), (4, .int x8), (5, .int x15), (7, .long x26), (10, .int v114)]) C dL_isRefused_522 (by decide) rfl ?_
                                      obtain ⟨x171, ex171⟩ : ∃ z : Int32, z = v114 + 1 := ⟨_, rfl⟩
                                      have hw := hw x171 ex171
                                      refine z_iinc (lv' := [(10, .int x171), (9, .int x170), (0, .ref (a 0)), (1, .ref mo), (2, .ref eo), (3, .int p0), (4, .int x8), (5, .int x15), (7, .long x26)]) C 8 dL_isRefused_524 rfl (by rw [ex171]; rfl) (by decide) rfl ?_
                                      refine z_goto C 328 dL_isRefused_527 (by decide) ?_
                                      refine z_sub (lv' := [(0, .ref (a 0)), (1, .ref mo), (2, .ref eo), (3, .int p0), (4, .int x8), (5, .int x15), (7, .long x26), (9, .int x170), (10, .int x171)]) [2, 3, 4, 5, 6, 7, 8, 1, 0] rfl ?_
                                      refine z_widen (k := ((0 + 167 + 18 * (16 - n)) + 0)) (n := ((0 + 1002 + 108 * (16 - n)) + 0)) (by omega) (by omega) ?_
                                      exact ih (by omega) _ _ s168 hS169 hw
                                    · have hw := hw.2 hc
                                      refine z_iconst C 1 dL_isRefused_517 (by decide) ?_
                                      refine z_goto C 522 dL_isRefused_518 (by decide) ?_
                                      refine z_topi (fun x172 ex172 => ?_)
                                      have hw := hw x172 ex172
                                      refine z_istore (lv' := [(9, .int x172), (0, .ref (a 0)), (1, .ref mo), (2, .ref eo), (3, .int p0), (4, .int x8), (5, .int x15), (7, .long x26), (10, .int v114)]) C dL_isRefused_522 (by decide) rfl ?_
                                      obtain ⟨x173, ex173⟩ : ∃ z : Int32, z = v114 + 1 := ⟨_, rfl⟩
                                      have hw := hw x173 ex173
                                      refine z_iinc (lv' := [(10, .int x173), (9, .int x172), (0, .ref (a 0)), (1, .ref mo), (2, .ref eo), (3, .int p0), (4, .int x8), (5, .int x15), (7, .long x26)]) C 8 dL_isRefused_524 rfl (by rw [ex173]; rfl) (by decide) rfl ?_
                                      refine z_goto C 328 dL_isRefused_527 (by decide) ?_
                                      refine z_sub (lv' := [(0, .ref (a 0)), (1, .ref mo), (2, .ref eo), (3, .int p0), (4, .int x8), (5, .int x15), (7, .long x26), (9, .int x172), (10, .int x173)]) [2, 3, 4, 5, 6, 7, 8, 1, 0] rfl ?_
                                      refine z_widen (k := ((0 + 167 + 18 * (16 - n)) + 0)) (n := ((0 + 1002 + 108 * (16 - n)) + 0)) (by omega) (by omega) ?_
                                      exact ih (by omega) _ _ s168 hS169 hw
                              refine z_if_eq C 480 dL_isRefused_468 (by decide) (fun hc => ?_) (fun hc => ?_)
                              · have hw := hw.1 hc
                                refine z_bipush C 6 dL_isRefused_480 (by decide) ?_
                                refine z_sub (lv' := [(0, .ref (a 0)), (1, .ref mo), (2, .ref eo), (3, .int p0), (4, .int x8), (5, .int x15), (7, .long x26), (10, .int v114)]) [0, 1, 2, 3, 4, 5, 6, 7] rfl ?_
                                exact hj155 _ s149 hS150 hw
                              · have hw := hw.2 hc
                                refine z_iconst C 0 dL_isRefused_471 (by decide) ?_
                                refine z_iload_n C 3 dL_isRefused_472 rfl ?_
                                refine z_bipush C 30 dL_isRefused_473 (by decide) ?_
                                obtain ⟨b174, hw⟩ := hw
                                refine z_irem C dL_isRefused_475 b174 ?_
                                refine z_isub C dL_isRefused_476 ?_
                                refine z_goto C 482 dL_isRefused_477 (by decide) ?_
                                refine z_sub (lv' := [(0, .ref (a 0)), (1, .ref mo), (2, .ref eo), (3, .int p0), (4, .int x8), (5, .int x15), (7, .long x26), (10, .int v114)]) [0, 1, 2, 3, 4, 5, 6, 7] rfl ?_
                                exact hj155 _ s149 hS150 hw
                          refine z_if_eq C 440 dL_isRefused_431 (by decide) (fun hc => ?_) (fun hc => ?_)
                          · have hw := hw.1 hc
                            refine z_sipush C 10000 dL_isRefused_440 (by decide) ?_
                            refine z_iload_n C 3 dL_isRefused_443 rfl ?_
                            refine z_bipush C 30 dL_isRefused_444 (by decide) ?_
                            obtain ⟨b175, hw⟩ := hw
                            refine z_irem C dL_isRefused_446 b175 ?_
                            refine z_iadd C dL_isRefused_447 ?_
                            exact hj144 _ s138 hS139 hw
                          · have hw := hw.2 hc
                            refine z_sipush C (-10000) dL_isRefused_434 (by decide) ?_
                            refine z_goto C 448 dL_isRefused_437 (by decide) ?_
                            exact hj144 _ s138 hS139 hw
                  refine z_if_eq C 371 dL_isRefused_357 (by decide) (fun hc => ?_) (fun hc => ?_)
                  · have hw := hw.1 hc
                    refine z_sipush C 10000 dL_isRefused_371 (by decide) ?_
                    refine z_sub (lv' := [(0, .ref (a 0)), (1, .ref mo), (2, .ref eo), (3, .int p0), (4, .int x8), (5, .int x15), (7, .long x26), (10, .int v114), (11, .int x120)]) [1, 2, 3, 4, 5, 6, 7, 9, 0] rfl ?_
                    exact hj123 _ s115 hS116 hw
                  · have hw := hw.2 hc
                    refine z_sipush C (-10000) dL_isRefused_360 (by decide) ?_
                    refine z_iload_n C 4 dL_isRefused_363 rfl ?_
                    refine z_bipush C 30 dL_isRefused_364 (by decide) ?_
                    obtain ⟨b176, hw⟩ := hw
                    refine z_irem C dL_isRefused_366 b176 ?_
                    refine z_isub C dL_isRefused_367 ?_
                    refine z_goto C 374 dL_isRefused_368 (by decide) ?_
                    refine z_sub (lv' := [(0, .ref (a 0)), (1, .ref mo), (2, .ref eo), (3, .int p0), (4, .int x8), (5, .int x15), (7, .long x26), (10, .int v114), (11, .int x120)]) [1, 2, 3, 4, 5, 6, 7, 9, 0] rfl ?_
                    exact hj123 _ s115 hS116 hw
          refine z_widen (k := (0 + 167 + 18 * (16 - n39)) + 0) (n := (0 + 1002 + 108 * (16 - n39)) + 0) (by omega) (by omega) ?_
          exact lp43 n39 hn40 _ _ s34 hS35 hw
        refine z_lcmp_ne C 322 dL_isRefused_82 dL_isRefused_83 (by decide) (fun hc => ?_) (fun hc => ?_)
        · have hw := hw.1 hc
          refine z_iconst C 0 dL_isRefused_322 (by decide) ?_
          refine z_sub (lv' := [(0, .ref (a 0)), (1, .ref mo), (2, .ref eo), (3, .int p0), (4, .int x8), (5, .int x15), (7, .long x26)]) [2, 3, 4, 5, 6, 7, 0] rfl ?_
          refine z_widen (k := (0 + 167)) (n := (0 + 1002)) (by omega) (by omega) ?_
          exact hj32 _ s28 hS29 hw
        · have hw := hw.2 hc
          refine z_aload_n C 2 dL_isRefused_86 rfl ?_
          refine z_iconst C 2 dL_isRefused_87 (by decide) ?_
          refine z_iload C 7 dL_isRefused_88 rfl ?_
          refine z_iconst C 0 dL_isRefused_90 (by decide) ?_
          refine z_ldc C 99999 (List.mem_of_getElem? (i := 1) rfl) dL_isRefused_91 ?_
          refine z_iconst C 0 dL_isRefused_93 (by decide) ?_
          refine z_fwl C hR hL CL (wr := (zFr g mo to eo m t e)) (wf := WX a g) (u0 := s28) (As := [.ref (a 0), .int 2, .int x15, .int 0, .int 99999, .int 0]) (c_L_act l hst D a g ea A P s28 hS29 (2) x15 (0) (99999) (0)) gL_isRefused_L_act rfl ⟨by decide +kernel, by decide +kernel, (show (parseMethodDescriptor yL_act.desc).map (fun d => d.parameters.length) = some 6 from by decide +kernel)⟩ ⟨Nat.le_of_ble_eq_true rfl, Nat.le_of_ble_eq_true rfl⟩ ⟨by dsimp only; omega, by dsimp only; omega⟩ rfl (Nat.le_of_ble_eq_true rfl) dL_isRefused_94 (fun r177 s178 hk => ?_)
          refine z_widen (k := (0 + 134)) (n := (0 + 804)) (by dsimp only; omega) (by dsimp only; omega) ?_
          obtain ⟨A1, P1, eq, hq⟩ := hk
          obtain ⟨h9, hw⟩ := hw
          obtain ⟨er177, hS179⟩ := act_same eq hq h9
          have hw := hw r177 er177
          refine z_ldc2 C (-161100000000000000) (List.mem_of_getElem? (i := 2) rfl) dL_isRefused_97 ?_
          refine z_lcmp_ne C 322 dL_isRefused_100 dL_isRefused_101 (by decide) (fun hc => ?_) (fun hc => ?_)
          · have hw := hw.1 hc
            refine z_iconst C 0 dL_isRefused_322 (by decide) ?_
            refine z_sub (lv' := [(0, .ref (a 0)), (1, .ref mo), (2, .ref eo), (3, .int p0), (4, .int x8), (5, .int x15), (7, .long x26)]) [2, 3, 4, 5, 6, 7, 0] rfl ?_
            refine z_widen (k := (0 + 167)) (n := (0 + 1002)) (by omega) (by omega) ?_
            exact hj32 _ s178 hS179 hw
          · have hw := hw.2 hc
            refine z_aload_n C 2 dL_isRefused_104 rfl ?_
            refine z_iconst C 3 dL_isRefused_105 (by decide) ?_
            refine z_iload C 1 dL_isRefused_106 rfl ?_
            refine z_iconst C 1 dL_isRefused_108 (by decide) ?_
            refine z_iconst C 0 dL_isRefused_109 (by decide) ?_
            refine z_iconst C 0 dL_isRefused_110 (by decide) ?_
            refine z_fwl C hR hL CL (wr := (zFr g mo to eo m t e)) (wf := WX a g) (u0 := s178) (As := [.ref (a 0), .int 3, .int x22, .int 1, .int 0, .int 0]) (c_L_act l hst D a g ea A P s178 hS179 (3) x22 (1) (0) (0)) gL_isRefused_L_act rfl ⟨by decide +kernel, by decide +kernel, (show (parseMethodDescriptor yL_act.desc).map (fun d => d.parameters.length) = some 6 from by decide +kernel)⟩ ⟨Nat.le_of_ble_eq_true rfl, Nat.le_of_ble_eq_true rfl⟩ ⟨by dsimp only; omega, by dsimp only; omega⟩ rfl (Nat.le_of_ble_eq_true rfl) dL_isRefused_111 (fun r180 s181 hk => ?_)
            refine z_widen (k := (0 + 137)) (n := (0 + 822)) (by dsimp only; omega) (by dsimp only; omega) ?_
            obtain ⟨A1, P1, eq, hq⟩ := hk
            obtain ⟨h9, hw⟩ := hw
            obtain ⟨er180, hS182⟩ := act_same eq hq h9
            have hw := hw r180 er180
            refine z_ldc2 C (-161100000000000000) (List.mem_of_getElem? (i := 2) rfl) dL_isRefused_114 ?_
            refine z_lcmp_ne C 322 dL_isRefused_117 dL_isRefused_118 (by decide) (fun hc => ?_) (fun hc => ?_)
            · have hw := hw.1 hc
              refine z_iconst C 0 dL_isRefused_322 (by decide) ?_
              refine z_sub (lv' := [(0, .ref (a 0)), (1, .ref mo), (2, .ref eo), (3, .int p0), (4, .int x8), (5, .int x15), (7, .long x26)]) [2, 3, 4, 5, 6, 7, 0] rfl ?_
              refine z_widen (k := (0 + 167)) (n := (0 + 1002)) (by omega) (by omega) ?_
              exact hj32 _ s181 hS182 hw
            · have hw := hw.2 hc
              refine z_aload_n C 2 dL_isRefused_121 rfl ?_
              refine z_iconst C 4 dL_isRefused_122 (by decide) ?_
              refine z_iload C 6 dL_isRefused_123 rfl ?_
              obtain ⟨k183, hk184, hw⟩ := hw
              have hj185 : ∀ (v186 : Int32) (s187 : zS) (hS188 : ST A P s187), k183 v186 → zV X D 12 (0 + 137) (0 + 822) ((zFr g mo to eo m t e) ++ WX a g s187) 144 [(0, .ref (a 0)), (1, .ref mo), (2, .ref eo), (3, .int p0), (4, .int x8), (5, .int x15), (6, .int x22), (7, .long x26)] [.int v186, .int 4, .ref (a 0)] := by
                intro v186 s187 hS188 hw0
                have hw := hk184 v186 hw0
                refine z_iconst C 0 dL_isRefused_144 (by decide) ?_
                refine z_iconst C 0 dL_isRefused_145 (by decide) ?_
                refine z_iconst C 0 dL_isRefused_146 (by decide) ?_
                refine z_fwl C hR hL CL (wr := (zFr g mo to eo m t e)) (wf := WX a g) (u0 := s187) (As := [.ref (a 0), .int 4, .int v186, .int 0, .int 0, .int 0]) (c_L_act l hst D a g ea A P s187 hS188 (4) v186 (0) (0) (0)) gL_isRefused_L_act rfl ⟨by decide +kernel, by decide +kernel, (show (parseMethodDescriptor yL_act.desc).map (fun d => d.parameters.length) = some 6 from by decide +kernel)⟩ ⟨Nat.le_of_ble_eq_true rfl, Nat.le_of_ble_eq_true rfl⟩ ⟨by dsimp only; omega, by dsimp only; omega⟩ rfl (Nat.le_of_ble_eq_true rfl) dL_isRefused_147 (fun r189 s190 hk => ?_)
                refine z_widen (k := (0 + 140)) (n := (0 + 840)) (by dsimp only; omega) (by dsimp only; omega) ?_
                obtain ⟨A1, P1, eq, hq⟩ := hk
                obtain ⟨h9, hw⟩ := hw
                obtain ⟨er189, hS191⟩ := act_same eq hq h9
                have hw := hw r189 er189
                refine z_ldc2 C (-161200000000000000) (List.mem_of_getElem? (i := 4) rfl) dL_isRefused_150 ?_
                refine z_lcmp_ne C 322 dL_isRefused_153 dL_isRefused_154 (by decide) (fun hc => ?_) (fun hc => ?_)
                · have hw := hw.1 hc
                  refine z_iconst C 0 dL_isRefused_322 (by decide) ?_
                  refine z_sub (lv' := [(0, .ref (a 0)), (1, .ref mo), (2, .ref eo), (3, .int p0), (4, .int x8), (5, .int x15), (7, .long x26)]) [0, 1, 2, 3, 4, 5, 7] rfl ?_
                  refine z_widen (k := (0 + 167)) (n := (0 + 1002)) (by omega) (by omega) ?_
                  exact hj32 _ s190 hS191 hw
                · have hw := hw.2 hc
                  refine z_aload_n C 0 dL_isRefused_157 rfl ?_
                  refine z_iconst C 5 dL_isRefused_158 (by decide) ?_
                  refine z_iload C 5 dL_isRefused_159 rfl ?_
                  refine z_iconst C 0 dL_isRefused_161 (by decide) ?_
                  refine z_iconst C 0 dL_isRefused_162 (by decide) ?_
                  refine z_iconst C 0 dL_isRefused_163 (by decide) ?_
                  refine z_fwl C hR hL CL (wr := (zFr g mo to eo m t e)) (wf := WX a g) (u0 := s190) (As := [.ref (a 0), .int 5, .int x15, .int 0, .int 0, .int 0]) (c_L_act l hst D a g ea A P s190 hS191 (5) x15 (0) (0) (0)) gL_isRefused_L_act rfl ⟨by decide +kernel, by decide +kernel, (show (parseMethodDescriptor yL_act.desc).map (fun d => d.parameters.length) = some 6 from by decide +kernel)⟩ ⟨Nat.le_of_ble_eq_true rfl, Nat.le_of_ble_eq_true rfl⟩ ⟨by dsimp only; omega, by dsimp only; omega⟩ rfl (Nat.le_of_ble_eq_true rfl) dL_isRefused_164 (fun r192 s193 hk => ?_)
                  refine z_widen (k := (0 + 143)) (n := (0 + 858)) (by dsimp only; omega) (by dsimp only; omega) ?_
                  obtain ⟨A1, P1, eq, hq⟩ := hk
                  obtain ⟨h9, hw⟩ := hw
                  obtain ⟨er192, hS194⟩ := act_same eq hq h9
                  have hw := hw r192 er192
                  refine z_ldc2 C (-161100000000000000) (List.mem_of_getElem? (i := 2) rfl) dL_isRefused_167 ?_
                  refine z_lcmp_ne C 322 dL_isRefused_170 dL_isRefused_171 (by decide) (fun hc => ?_) (fun hc => ?_)
                  · have hw := hw.1 hc
                    refine z_iconst C 0 dL_isRefused_322 (by decide) ?_
                    refine z_sub (lv' := [(0, .ref (a 0)), (1, .ref mo), (2, .ref eo), (3, .int p0), (4, .int x8), (5, .int x15), (7, .long x26)]) [0, 1, 2, 3, 4, 5, 7] rfl ?_
                    refine z_widen (k := (0 + 167)) (n := (0 + 1002)) (by omega) (by omega) ?_
                    exact hj32 _ s193 hS194 hw
                  · have hw := hw.2 hc
                    refine z_aload_n C 0 dL_isRefused_174 rfl ?_
                    refine z_bipush C 6 dL_isRefused_175 (by decide) ?_
                    refine z_iload C 5 dL_isRefused_177 rfl ?_
                    refine z_iconst C 0 dL_isRefused_179 (by decide) ?_
                    refine z_iconst C 0 dL_isRefused_180 (by decide) ?_
                    refine z_iconst C 0 dL_isRefused_181 (by decide) ?_
                    refine z_fwl C hR hL CL (wr := (zFr g mo to eo m t e)) (wf := WX a g) (u0 := s193) (As := [.ref (a 0), .int 6, .int x15, .int 0, .int 0, .int 0]) (c_L_act l hst D a g ea A P s193 hS194 (6) x15 (0) (0) (0)) gL_isRefused_L_act rfl ⟨by decide +kernel, by decide +kernel, (show (parseMethodDescriptor yL_act.desc).map (fun d => d.parameters.length) = some 6 from by decide +kernel)⟩ ⟨Nat.le_of_ble_eq_true rfl, Nat.le_of_ble_eq_true rfl⟩ ⟨by dsimp only; omega, by dsimp only; omega⟩ rfl (Nat.le_of_ble_eq_true rfl) dL_isRefused_182 (fun r195 s196 hk => ?_)
                    refine z_widen (k := (0 + 146)) (n := (0 + 876)) (by dsimp only; omega) (by dsimp only; omega) ?_
                    obtain ⟨A1, P1, eq, hq⟩ := hk
                    obtain ⟨h9, hw⟩ := hw
                    obtain ⟨er195, hS197⟩ := act_same eq hq h9
                    have hw := hw r195 er195
                    refine z_ldc2 C (-161100000000000000) (List.mem_of_getElem? (i := 2) rfl) dL_isRefused_185 ?_
                    refine z_lcmp_ne C 322 dL_isRefused_188 dL_isRefused_189 (by decide) (fun hc => ?_) (fun hc => ?_)
                    · have hw := hw.1 hc
                      refine z_iconst C 0 dL_isRefused_322 (by decide) ?_
                      refine z_sub (lv' := [(0, .ref (a 0)), (1, .ref mo), (2, .ref eo), (3, .int p0), (4, .int x8), (5, .int x15), (7, .long x26)]) [0, 1, 2, 3, 4, 5, 7] rfl ?_
                      refine z_widen (k := (0 + 167)) (n := (0 + 1002)) (by omega) (by omega) ?_
                      exact hj32 _ s196 hS197 hw
                    · have hw := hw.2 hc
                      refine z_aload_n C 0 dL_isRefused_192 rfl ?_
                      refine z_bipush C 7 dL_isRefused_193 (by decide) ?_
                      refine z_iload C 5 dL_isRefused_195 rfl ?_
                      refine z_iconst C 0 dL_isRefused_197 (by decide) ?_
                      refine z_iconst C 0 dL_isRefused_198 (by decide) ?_
                      refine z_iconst C 0 dL_isRefused_199 (by decide) ?_
                      refine z_fwl C hR hL CL (wr := (zFr g mo to eo m t e)) (wf := WX a g) (u0 := s196) (As := [.ref (a 0), .int 7, .int x15, .int 0, .int 0, .int 0]) (c_L_act l hst D a g ea A P s196 hS197 (7) x15 (0) (0) (0)) gL_isRefused_L_act rfl ⟨by decide +kernel, by decide +kernel, (show (parseMethodDescriptor yL_act.desc).map (fun d => d.parameters.length) = some 6 from by decide +kernel)⟩ ⟨Nat.le_of_ble_eq_true rfl, Nat.le_of_ble_eq_true rfl⟩ ⟨by dsimp only; omega, by dsimp only; omega⟩ rfl (Nat.le_of_ble_eq_true rfl) dL_isRefused_200 (fun r198 s199 hk => ?_)
                      refine z_widen (k := (0 + 149)) (n := (0 + 894)) (by dsimp only; omega) (by dsimp only; omega) ?_
                      obtain ⟨A1, P1, eq, hq⟩ := hk
                      obtain ⟨h9, hw⟩ := hw
                      obtain ⟨er198, hS200⟩ := act_same eq hq h9
                      have hw := hw r198 er198
                      refine z_ldc2 C (-161100000000000000) (List.mem_of_getElem? (i := 2) rfl) dL_isRefused_203 ?_
                      refine z_lcmp_ne C 322 dL_isRefused_206 dL_isRefused_207 (by decide) (fun hc => ?_) (fun hc => ?_)
                      · have hw := hw.1 hc
                        refine z_iconst C 0 dL_isRefused_322 (by decide) ?_
                        refine z_sub (lv' := [(0, .ref (a 0)), (1, .ref mo), (2, .ref eo), (3, .int p0), (4, .int x8), (5, .int x15), (7, .long x26)]) [0, 1, 2, 3, 4, 5, 7] rfl ?_
                        refine z_widen (k := (0 + 167)) (n := (0 + 1002)) (by omega) (by omega) ?_
                        exact hj32 _ s199 hS200 hw
                      · have hw := hw.2 hc
                        refine z_aload_n C 0 dL_isRefused_210 rfl ?_
                        refine z_bipush C 8 dL_isRefused_211 (by decide) ?_
                        refine z_iload C 5 dL_isRefused_213 rfl ?_
                        refine z_iconst C 0 dL_isRefused_215 (by decide) ?_
                        refine z_iconst C 0 dL_isRefused_216 (by decide) ?_
                        refine z_iconst C 0 dL_isRefused_217 (by decide) ?_
                        refine z_fwl C hR hL CL (wr := (zFr g mo to eo m t e)) (wf := WX a g) (u0 := s199) (As := [.ref (a 0), .int 8, .int x15, .int 0, .int 0, .int 0]) (c_L_act l hst D a g ea A P s199 hS200 (8) x15 (0) (0) (0)) gL_isRefused_L_act rfl ⟨by decide +kernel, by decide +kernel, (show (parseMethodDescriptor yL_act.desc).map (fun d => d.parameters.length) = some 6 from by decide +kernel)⟩ ⟨Nat.le_of_ble_eq_true rfl, Nat.le_of_ble_eq_true rfl⟩ ⟨by dsimp only; omega, by dsimp only; omega⟩ rfl (Nat.le_of_ble_eq_true rfl) dL_isRefused_218 (fun r201 s202 hk => ?_)
                        refine z_widen (k := (0 + 152)) (n := (0 + 912)) (by dsimp only; omega) (by dsimp only; omega) ?_
                        obtain ⟨A1, P1, eq, hq⟩ := hk
                        obtain ⟨h9, hw⟩ := hw
                        obtain ⟨er201, hS203⟩ := act_same eq hq h9
                        have hw := hw r201 er201
                        refine z_ldc2 C (-161100000000000000) (List.mem_of_getElem? (i := 2) rfl) dL_isRefused_221 ?_
                        refine z_lcmp_ne C 322 dL_isRefused_224 dL_isRefused_225 (by decide) (fun hc => ?_) (fun hc => ?_)
                        · have hw := hw.1 hc
                          refine z_iconst C 0 dL_isRefused_322 (by decide) ?_
                          refine z_sub (lv' := [(0, .ref (a 0)), (1, .ref mo), (2, .ref eo), (3, .int p0), (4, .int x8), (5, .int x15), (7, .long x26)]) [0, 1, 2, 3, 4, 5, 7] rfl ?_
                          refine z_widen (k := (0 + 167)) (n := (0 + 1002)) (by omega) (by omega) ?_
                          exact hj32 _ s202 hS203 hw
                        · have hw := hw.2 hc
                          refine z_aload_n C 0 dL_isRefused_228 rfl ?_
                          refine z_bipush C 9 dL_isRefused_229 (by decide) ?_
                          refine z_iload C 6 dL_isRefused_231 rfl ?_
                          refine z_iconst C 0 dL_isRefused_233 (by decide) ?_
                          refine z_iconst C 0 dL_isRefused_234 (by decide) ?_
                          refine z_iconst C 0 dL_isRefused_235 (by decide) ?_
                          refine z_fwl C hR hL CL (wr := (zFr g mo to eo m t e)) (wf := WX a g) (u0 := s202) (As := [.ref (a 0), .int 9, .int x22, .int 0, .int 0, .int 0]) (c_L_act l hst D a g ea A P s202 hS203 (9) x22 (0) (0) (0)) gL_isRefused_L_act rfl ⟨by decide +kernel, by decide +kernel, (show (parseMethodDescriptor yL_act.desc).map (fun d => d.parameters.length) = some 6 from by decide +kernel)⟩ ⟨Nat.le_of_ble_eq_true rfl, Nat.le_of_ble_eq_true rfl⟩ ⟨by dsimp only; omega, by dsimp only; omega⟩ rfl (Nat.le_of_ble_eq_true rfl) dL_isRefused_236 (fun r204 s205 hk => ?_)
                          refine z_widen (k := (0 + 155)) (n := (0 + 930)) (by dsimp only; omega) (by dsimp only; omega) ?_
                          obtain ⟨A1, P1, eq, hq⟩ := hk
                          obtain ⟨h9, hw⟩ := hw
                          obtain ⟨er204, hS206⟩ := act_same eq hq h9
                          have hw := hw r204 er204
                          refine z_ldc2 C (-161100000000000000) (List.mem_of_getElem? (i := 2) rfl) dL_isRefused_239 ?_
                          refine z_lcmp_ne C 322 dL_isRefused_242 dL_isRefused_243 (by decide) (fun hc => ?_) (fun hc => ?_)
                          · have hw := hw.1 hc
                            refine z_iconst C 0 dL_isRefused_322 (by decide) ?_
                            refine z_sub (lv' := [(0, .ref (a 0)), (1, .ref mo), (2, .ref eo), (3, .int p0), (4, .int x8), (5, .int x15), (7, .long x26)]) [0, 1, 2, 3, 4, 5, 7] rfl ?_
                            refine z_widen (k := (0 + 167)) (n := (0 + 1002)) (by omega) (by omega) ?_
                            exact hj32 _ s205 hS206 hw
                          · have hw := hw.2 hc
                            refine z_aload_n C 0 dL_isRefused_246 rfl ?_
                            refine z_bipush C 10 dL_isRefused_247 (by decide) ?_
                            refine z_iload C 6 dL_isRefused_249 rfl ?_
                            refine z_iconst C 0 dL_isRefused_251 (by decide) ?_
                            refine z_iconst C 0 dL_isRefused_252 (by decide) ?_
                            refine z_iconst C 0 dL_isRefused_253 (by decide) ?_
                            refine z_fwl C hR hL CL (wr := (zFr g mo to eo m t e)) (wf := WX a g) (u0 := s205) (As := [.ref (a 0), .int 10, .int x22, .int 0, .int 0, .int 0]) (c_L_act l hst D a g ea A P s205 hS206 (10) x22 (0) (0) (0)) gL_isRefused_L_act rfl ⟨by decide +kernel, by decide +kernel, (show (parseMethodDescriptor yL_act.desc).map (fun d => d.parameters.length) = some 6 from by decide +kernel)⟩ ⟨Nat.le_of_ble_eq_true rfl, Nat.le_of_ble_eq_true rfl⟩ ⟨by dsimp only; omega, by dsimp only; omega⟩ rfl (Nat.le_of_ble_eq_true rfl) dL_isRefused_254 (fun r207 s208 hk => ?_)
                            refine z_widen (k := (0 + 158)) (n := (0 + 948)) (by dsimp only; omega) (by dsimp only; omega) ?_
                            obtain ⟨A1, P1, eq, hq⟩ := hk
                            obtain ⟨h9, hw⟩ := hw
                            obtain ⟨er207, hS209⟩ := act_same eq hq h9
                            have hw := hw r207 er207
                            refine z_ldc2 C (-161100000000000000) (List.mem_of_getElem? (i := 2) rfl) dL_isRefused_257 ?_
                            refine z_lcmp_ne C 322 dL_isRefused_260 dL_isRefused_261 (by decide) (fun hc => ?_) (fun hc => ?_)
                            · have hw := hw.1 hc
                              refine z_iconst C 0 dL_isRefused_322 (by decide) ?_
                              refine z_sub (lv' := [(0, .ref (a 0)), (1, .ref mo), (2, .ref eo), (3, .int p0), (4, .int x8), (5, .int x15), (7, .long x26)]) [0, 1, 2, 3, 4, 5, 7] rfl ?_
                              refine z_widen (k := (0 + 167)) (n := (0 + 1002)) (by omega) (by omega) ?_
                              exact hj32 _ s208 hS209 hw
                            · have hw := hw.2 hc
                              refine z_aload_n C 0 dL_isRefused_264 rfl ?_
                              refine z_bipush C 11 dL_isRefused_265 (by decide) ?_
                              refine z_iload C 6 dL_isRefused_267 rfl ?_
                              refine z_iconst C 0 dL_isRefused_269 (by decide) ?_
                              refine z_iconst C 0 dL_isRefused_270 (by decide) ?_
                              refine z_iconst C 0 dL_isRefused_271 (by decide) ?_
                              refine z_fwl C hR hL CL (wr := (zFr g mo to eo m t e)) (wf := WX a g) (u0 := s208) (As := [.ref (a 0), .int 11, .int x22, .int 0, .int 0, .int 0]) (c_L_act l hst D a g ea A P s208 hS209 (11) x22 (0) (0) (0)) gL_isRefused_L_act rfl ⟨by decide +kernel, by decide +kernel, (show (parseMethodDescriptor yL_act.desc).map (fun d => d.parameters.length) = some 6 from by decide +kernel)⟩ ⟨Nat.le_of_ble_eq_true rfl, Nat.le_of_ble_eq_true rfl⟩ ⟨by dsimp only; omega, by dsimp only; omega⟩ rfl (Nat.le_of_ble_eq_true rfl) dL_isRefused_272 (fun r210 s211 hk => ?_)
                              refine z_widen (k := (0 + 161)) (n := (0 + 966)) (by dsimp only; omega) (by dsimp only; omega) ?_
                              obtain ⟨A1, P1, eq, hq⟩ := hk
                              obtain ⟨h9, hw⟩ := hw
                              obtain ⟨er210, hS212⟩ := act_same eq hq h9
                              have hw := hw r210 er210
                              refine z_ldc2 C (-161100000000000000) (List.mem_of_getElem? (i := 2) rfl) dL_isRefused_275 ?_
                              refine z_lcmp_ne C 322 dL_isRefused_278 dL_isRefused_279 (by decide) (fun hc => ?_) (fun hc => ?_)
                              · have hw := hw.1 hc
                                refine z_iconst C 0 dL_isRefused_322 (by decide) ?_
                                refine z_sub (lv' := [(0, .ref (a 0)), (1, .ref mo), (2, .ref eo), (3, .int p0), (4, .int x8), (5, .int x15), (7, .long x26)]) [0, 1, 2, 3, 4, 5, 7] rfl ?_
                                refine z_widen (k := (0 + 167)) (n := (0 + 1002)) (by omega) (by omega) ?_
                                exact hj32 _ s211 hS212 hw
                              · have hw := hw.2 hc
                                refine z_aload_n C 0 dL_isRefused_282 rfl ?_
                                refine z_bipush C 12 dL_isRefused_283 (by decide) ?_
                                refine z_iload C 6 dL_isRefused_285 rfl ?_
                                refine z_iconst C 0 dL_isRefused_287 (by decide) ?_
                                refine z_iconst C 0 dL_isRefused_288 (by decide) ?_
                                refine z_iconst C 0 dL_isRefused_289 (by decide) ?_
                                refine z_fwl C hR hL CL (wr := (zFr g mo to eo m t e)) (wf := WX a g) (u0 := s211) (As := [.ref (a 0), .int 12, .int x22, .int 0, .int 0, .int 0]) (c_L_act l hst D a g ea A P s211 hS212 (12) x22 (0) (0) (0)) gL_isRefused_L_act rfl ⟨by decide +kernel, by decide +kernel, (show (parseMethodDescriptor yL_act.desc).map (fun d => d.parameters.length) = some 6 from by decide +kernel)⟩ ⟨Nat.le_of_ble_eq_true rfl, Nat.le_of_ble_eq_true rfl⟩ ⟨by dsimp only; omega, by dsimp only; omega⟩ rfl (Nat.le_of_ble_eq_true rfl) dL_isRefused_290 (fun r213 s214 hk => ?_)
                                refine z_widen (k := (0 + 164)) (n := (0 + 984)) (by dsimp only; omega) (by dsimp only; omega) ?_
                                obtain ⟨A1, P1, eq, hq⟩ := hk
                                obtain ⟨h9, hw⟩ := hw
                                obtain ⟨er213, hS215⟩ := act_same eq hq h9
                                have hw := hw r213 er213
                                refine z_ldc2 C (-161100000000000000) (List.mem_of_getElem? (i := 2) rfl) dL_isRefused_293 ?_
                                refine z_lcmp_ne C 322 dL_isRefused_296 dL_isRefused_297 (by decide) (fun hc => ?_) (fun hc => ?_)
                                · have hw := hw.1 hc
                                  refine z_iconst C 0 dL_isRefused_322 (by decide) ?_
                                  refine z_sub (lv' := [(0, .ref (a 0)), (1, .ref mo), (2, .ref eo), (3, .int p0), (4, .int x8), (5, .int x15), (7, .long x26)]) [0, 1, 2, 3, 4, 5, 7] rfl ?_
                                  refine z_widen (k := (0 + 167)) (n := (0 + 1002)) (by omega) (by omega) ?_
                                  exact hj32 _ s214 hS215 hw
                                · have hw := hw.2 hc
                                  refine z_aload_n C 0 dL_isRefused_300 rfl ?_
                                  refine z_bipush C 13 dL_isRefused_301 (by decide) ?_
                                  refine z_iload C 5 dL_isRefused_303 rfl ?_
                                  refine z_iconst C 0 dL_isRefused_305 (by decide) ?_
                                  refine z_iconst C 0 dL_isRefused_306 (by decide) ?_
                                  refine z_iconst C 0 dL_isRefused_307 (by decide) ?_
                                  refine z_fwl C hR hL CL (wr := (zFr g mo to eo m t e)) (wf := WX a g) (u0 := s214) (As := [.ref (a 0), .int 13, .int x15, .int 0, .int 0, .int 0]) (c_L_act l hst D a g ea A P s214 hS215 (13) x15 (0) (0) (0)) gL_isRefused_L_act rfl ⟨by decide +kernel, by decide +kernel, (show (parseMethodDescriptor yL_act.desc).map (fun d => d.parameters.length) = some 6 from by decide +kernel)⟩ ⟨Nat.le_of_ble_eq_true rfl, Nat.le_of_ble_eq_true rfl⟩ ⟨by dsimp only; omega, by dsimp only; omega⟩ rfl (Nat.le_of_ble_eq_true rfl) dL_isRefused_308 (fun r216 s217 hk => ?_)
                                  refine z_widen (k := (0 + 167)) (n := (0 + 1002)) (by dsimp only; omega) (by dsimp only; omega) ?_
                                  obtain ⟨A1, P1, eq, hq⟩ := hk
                                  obtain ⟨h9, hw⟩ := hw
                                  obtain ⟨er216, hS218⟩ := act_same eq hq h9
                                  have hw := hw r216 er216
                                  refine z_ldc2 C (-161100000000000000) (List.mem_of_getElem? (i := 2) rfl) dL_isRefused_311 ?_
                                  refine z_lcmp_ne C 322 dL_isRefused_314 dL_isRefused_315 (by decide) (fun hc => ?_) (fun hc => ?_)
                                  · have hw := hw.1 hc
                                    refine z_iconst C 0 dL_isRefused_322 (by decide) ?_
                                    refine z_sub (lv' := [(0, .ref (a 0)), (1, .ref mo), (2, .ref eo), (3, .int p0), (4, .int x8), (5, .int x15), (7, .long x26)]) [0, 1, 2, 3, 4, 5, 7] rfl ?_
                                    exact hj32 _ s217 hS218 hw
                                  · have hw := hw.2 hc
                                    refine z_iconst C 1 dL_isRefused_318 (by decide) ?_
                                    refine z_goto C 323 dL_isRefused_319 (by decide) ?_
                                    refine z_sub (lv' := [(0, .ref (a 0)), (1, .ref mo), (2, .ref eo), (3, .int p0), (4, .int x8), (5, .int x15), (7, .long x26)]) [0, 1, 2, 3, 4, 5, 7] rfl ?_
                                    exact hj32 _ s217 hS218 hw
              refine z_if_eq C 137 dL_isRefused_125 (by decide) (fun hc => ?_) (fun hc => ?_)
              · have hw := hw.1 hc
                refine z_ldc C 1000000001 (List.mem_of_getElem? (i := 3) rfl) dL_isRefused_137 ?_
                refine z_iload_n C 5 dL_isRefused_139 rfl ?_
                refine z_bipush C 30 dL_isRefused_140 (by decide) ?_
                obtain ⟨b219, hw⟩ := hw
                refine z_irem C dL_isRefused_142 b219 ?_
                refine z_iadd C dL_isRefused_143 ?_
                refine z_sub (lv' := [(0, .ref (a 0)), (1, .ref mo), (2, .ref eo), (3, .int p0), (4, .int x8), (5, .int x15), (6, .int x22), (7, .long x26)]) [2, 3, 4, 5, 6, 7, 1, 0] rfl ?_
                exact hj185 _ s181 hS182 hw
              · have hw := hw.2 hc
                refine z_iconst C (-1) dL_isRefused_128 (by decide) ?_
                refine z_iload_n C 5 dL_isRefused_129 rfl ?_
                refine z_bipush C 30 dL_isRefused_130 (by decide) ?_
                obtain ⟨b220, hw⟩ := hw
                refine z_irem C dL_isRefused_132 b220 ?_
                refine z_isub C dL_isRefused_133 ?_
                refine z_goto C 144 dL_isRefused_134 (by decide) ?_
                refine z_sub (lv' := [(0, .ref (a 0)), (1, .ref mo), (2, .ref eo), (3, .int p0), (4, .int x8), (5, .int x15), (6, .int x22), (7, .long x26)]) [2, 3, 4, 5, 6, 7, 1, 0] rfl ?_
                exact hj185 _ s181 hS182 hw
      refine z_if_eq C 51 dL_isRefused_39 (by decide) (fun hc => ?_) (fun hc => ?_)
      · have hw := hw.1 hc
        refine z_aload_n C 2 dL_isRefused_51 rfl ?_
        refine z_iconst C 1 dL_isRefused_52 (by decide) ?_
        obtain ⟨b221, hw⟩ := hw
        refine z_iald C 0 0 rfl rfl b221 dL_isRefused_53 ?_
        refine z_iload_n C 4 dL_isRefused_54 rfl ?_
        refine z_bipush C 30 dL_isRefused_55 (by decide) ?_
        obtain ⟨b222, hw⟩ := hw
        refine z_irem C dL_isRefused_57 b222 ?_
        refine z_iadd C dL_isRefused_58 ?_
        refine z_sub (lv' := [(0, .ref (a 0)), (1, .ref mo), (2, .ref eo), (3, .int p0), (4, .int x8), (5, .int x15)]) [1, 2, 3, 4, 5, 0] rfl ?_
        exact hj18 _ s13 hS14 hw
      · have hw := hw.2 hc
        refine z_iconst C (-1) dL_isRefused_42 (by decide) ?_
        refine z_iload_n C 4 dL_isRefused_43 rfl ?_
        refine z_bipush C 30 dL_isRefused_44 (by decide) ?_
        obtain ⟨b223, hw⟩ := hw
        refine z_irem C dL_isRefused_46 b223 ?_
        refine z_isub C dL_isRefused_47 ?_
        refine z_goto C 59 dL_isRefused_48 (by decide) ?_
        refine z_sub (lv' := [(0, .ref (a 0)), (1, .ref mo), (2, .ref eo), (3, .int p0), (4, .int x8), (5, .int x15)]) [1, 2, 3, 4, 5, 0] rfl ?_
        exact hj18 _ s13 hS14 hw
    refine z_if_eq C 27 dL_isRefused_15 (by decide) (fun hc => ?_) (fun hc => ?_)
    · have hw := hw.1 hc
      refine z_aload_n C 2 dL_isRefused_27 rfl ?_
      refine z_iconst C 0 dL_isRefused_28 (by decide) ?_
      obtain ⟨b224, hw⟩ := hw
      refine z_iald C 0 0 rfl rfl b224 dL_isRefused_29 ?_
      refine z_iload_n C 4 dL_isRefused_30 rfl ?_
      refine z_bipush C 30 dL_isRefused_31 (by decide) ?_
      obtain ⟨b225, hw⟩ := hw
      refine z_irem C dL_isRefused_33 b225 ?_
      refine z_iadd C dL_isRefused_34 ?_
      refine z_sub (lv' := [(0, .ref (a 0)), (1, .ref mo), (2, .ref eo), (3, .int p0), (4, .int x8)]) [1, 2, 3, 4, 0] rfl ?_
      exact hj11 _ s6 hS7 hw
    · have hw := hw.2 hc
      refine z_iconst C (-1) dL_isRefused_18 (by decide) ?_
      refine z_iload_n C 4 dL_isRefused_19 rfl ?_
      refine z_bipush C 30 dL_isRefused_20 (by decide) ?_
      obtain ⟨b226, hw⟩ := hw
      refine z_irem C dL_isRefused_22 b226 ?_
      refine z_isub C dL_isRefused_23 ?_
      refine z_goto C 35 dL_isRefused_24 (by decide) ?_
      refine z_sub (lv' := [(0, .ref (a 0)), (1, .ref mo), (2, .ref eo), (3, .int p0), (4, .int x8)]) [1, 2, 3, 4, 0] rfl ?_
      exact hj11 _ s6 hS7 hw
  refine z_if_ne C 10 dL_isRefused_3 (by decide) (fun hc => ?_) (fun hc => ?_)
  · have hw := hw.1 hc
    refine z_iconst C 0 dL_isRefused_10 (by decide) ?_
    exact hj4 _ s hS hw
  · have hw := hw.2 hc
    refine z_iconst C 1 dL_isRefused_6 (by decide) ?_
    refine z_goto C 11 dL_isRefused_7 (by decide) ?_
    exact hj4 _ s hS hw
