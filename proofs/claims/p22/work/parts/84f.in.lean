theorem wsL_law_in0 : ∀ w ∈ wsL_law0, w ∈ lw_tbl := by
  unfold wsL_law0
  exact List.forall_mem_append.mpr ⟨List.forall_mem_append.mpr ⟨List.forall_mem_append.mpr ⟨List.forall_mem_append.mpr ⟨List.forall_mem_append.mpr ⟨List.forall_mem_append.mpr ⟨List.forall_mem_append.mpr ⟨lin_wsL_law0_r1, List.forall_mem_append.mpr ⟨lin_wsL_law0_r2, List.forall_mem_append.mpr ⟨lin_wsL_law0_r3, List.forall_mem_append.mpr ⟨lin_wsL_law0_r4, List.forall_mem_append.mpr ⟨lin_wsL_law0_r5, List.forall_mem_append.mpr ⟨lin_wsL_law0_r6, List.forall_mem_append.mpr ⟨lin_wsL_law0_r7, List.forall_mem_append.mpr ⟨lin_wsL_law0_r8, List.forall_mem_append.mpr ⟨lin_wsL_law0_r9, List.forall_mem_append.mpr ⟨lin_wsL_law0_r10, List.forall_mem_append.mpr ⟨lin_wsL_law0_r11, List.forall_mem_append.mpr ⟨lin_wsL_law0_r12, List.forall_mem_append.mpr ⟨lin_wsL_law0_r13, List.forall_mem_append.mpr ⟨lin_wsL_law0_r14, List.forall_mem_append.mpr ⟨lin_wsL_law0_r15, List.forall_mem_append.mpr ⟨lin_wsL_law0_r16, List.forall_mem_append.mpr ⟨lin_wsL_law0_r17, lin_wsL_law0_r18⟩⟩⟩⟩⟩⟩⟩⟩⟩⟩⟩⟩⟩⟩⟩⟩⟩, lin_wsX40⟩, lin_wsX10⟩, lin_wsX00⟩, lin_wsX30⟩, lin_wsX20⟩, fun _ h => absurd h List.not_mem_nil⟩
theorem wsL_law_x0 : ∀ w ∈ (vx_atS RX4 167 "java/lang/IndexOutOfBoundsException" ["java/lang/RuntimeException", "java/lang/Exception"]).filter goodWord, w ∈ lw_tbl := by decide +kernel
theorem wsL_law_x1 : ∀ w ∈ (vx_atS RX4 47 "java/lang/IllegalStateException" ["java/lang/RuntimeException", "java/lang/Exception"]).filter goodWord, w ∈ lw_tbl := by decide +kernel
theorem wsL_law_x2 : ∀ w ∈ (vx_atS RX4 66 "java/lang/IllegalArgumentException" ["java/lang/RuntimeException", "java/lang/Exception"]).filter goodWord, w ∈ lw_tbl := by decide +kernel
theorem wsL_law_in : ∀ w ∈ wsL_law, w ∈ lw_tbl := fun w h => (List.mem_append.mp h).elim (fun h => (List.mem_append.mp h).elim (fun h => (List.mem_append.mp h).elim (fun h => wsL_law_in0 w h) (fun h => wsL_law_x0 w h)) (fun h => wsL_law_x1 w h)) (fun h => wsL_law_x2 w h)
theorem inX0 : ∀ w ∈ wsX00, w ∈ lw_tbl := fun w h => wsL_law_in w (inlX0 w h)
theorem inX1 : ∀ w ∈ wsX10, w ∈ lw_tbl := fun w h => wsL_law_in w (inlX1 w h)
theorem inX2 : ∀ w ∈ wsX20, w ∈ lw_tbl := fun w h => wsL_law_in w (inlX2 w h)
theorem inX3 : ∀ w ∈ wsX30, w ∈ lw_tbl := fun w h => wsL_law_in w (inlX3 w h)
theorem inX4 : ∀ w ∈ wsX40, w ∈ lw_tbl := fun w h => wsL_law_in w (inlX4 w h)
theorem inX5 : ∀ w ∈ wsX50, w ∈ lw_tbl := by decide +kernel
