theorem lit_wsL_law0_r9_16 : Cond.classLink RL 63 "java/lang/IllegalArgumentException" ∈ lw_tbl := by decide +kernel
theorem lit_wsL_law0_r9_17 : Cond.classLink RL 67 "java/lang/IllegalStateException" ∈ lw_tbl := by decide +kernel
theorem lit_wsL_law0_r9_18 : Cond.methodLink RL 9 yX4_station ∈ lw_tbl := by decide +kernel
theorem lit_wsL_law0_r9_19 : Cond.instanceMethod yX4_station ∈ lw_tbl := by decide +kernel
theorem lit_wsL_law0_r9_20 : Cond.selects RX4 yX4_station yX4_station ∈ lw_tbl := by decide +kernel
theorem lit_wsL_law0_r9_22 : Cond.classLink RX4 43 "java/lang/IllegalStateException" ∈ lw_tbl := by decide +kernel
theorem lit_wsL_law0_r9_23 : Cond.initialized "java/lang/IllegalStateException" ∈ lw_tbl := by decide +kernel
set_option maxRecDepth 20000 in
theorem lin_wsL_law0_r9 : ∀ w ∈ wsL_law0_r9, w ∈ lw_tbl := List.forall_mem_cons.mpr ⟨lit_wsL_law0_r9_0, List.forall_mem_cons.mpr ⟨lit_wsL_law0_r9_1, List.forall_mem_cons.mpr ⟨(List.mem_of_getElem? (i := 535) rfl), List.forall_mem_cons.mpr ⟨lit_wsL_law0_r9_3, List.forall_mem_cons.mpr ⟨lit_wsL_law0_r9_4, List.forall_mem_cons.mpr ⟨lit_wsL_law0_r9_5, List.forall_mem_cons.mpr ⟨lit_wsL_law0_r9_6, List.forall_mem_cons.mpr ⟨(List.mem_of_getElem? (i := 397) rfl), List.forall_mem_cons.mpr ⟨lit_wsL_law0_r9_8, List.forall_mem_cons.mpr ⟨lit_wsL_law0_r9_9, List.forall_mem_cons.mpr ⟨lit_wsL_law0_r9_10, List.forall_mem_cons.mpr ⟨(List.mem_of_getElem? (i := 410) rfl), List.forall_mem_cons.mpr ⟨lit_wsL_law0_r9_12, List.forall_mem_cons.mpr ⟨lit_wsL_law0_r9_13, List.forall_mem_cons.mpr ⟨lit_wsL_law0_r9_14, List.forall_mem_cons.mpr ⟨lit_wsL_law0_r9_15, List.forall_mem_cons.mpr ⟨lit_wsL_law0_r9_16, List.forall_mem_cons.mpr ⟨lit_wsL_law0_r9_17, List.forall_mem_cons.mpr ⟨lit_wsL_law0_r9_18, List.forall_mem_cons.mpr ⟨lit_wsL_law0_r9_19, List.forall_mem_cons.mpr ⟨lit_wsL_law0_r9_20, List.forall_mem_cons.mpr ⟨(List.mem_of_getElem? (i := 433) rfl), List.forall_mem_cons.mpr ⟨lit_wsL_law0_r9_22, List.forall_mem_cons.mpr ⟨lit_wsL_law0_r9_23, (fun _ h => absurd h List.not_mem_nil)⟩⟩⟩⟩⟩⟩⟩⟩⟩⟩⟩⟩⟩⟩⟩⟩⟩⟩⟩⟩⟩⟩⟩⟩
theorem lit_wsL_law0_r10_0 : Cond.fieldLink RX4 39 "TheodoliteRow$Net" "stations" "I" ∈ lw_tbl := by decide +kernel
theorem lit_wsL_law0_r10_1 : Cond.methodLink RX4 50 yX1_addStation ∈ lw_tbl := by decide +kernel
theorem lit_wsL_law0_r10_2 : Cond.instanceMethod yX1_addStation ∈ lw_tbl := by decide +kernel
theorem lit_wsL_law0_r10_3 : Cond.selects RX1 yX1_addStation yX1_addStation ∈ lw_tbl := by decide +kernel
theorem lit_wsL_law0_r10_5 : Cond.methodLink RX1 44 yX1_markParts ∈ lw_tbl := by decide +kernel
theorem lit_wsL_law0_r10_6 : Cond.instanceMethod yX1_markParts ∈ lw_tbl := by decide +kernel
theorem lit_wsL_law0_r10_7 : Cond.selects RX1 yX1_markParts yX1_markParts ∈ lw_tbl := by decide +kernel
theorem lit_wsL_law0_r10_9 : Cond.fieldLink RX1 41 "TheodoliteRow$Net" "observations" "I" ∈ lw_tbl := by decide +kernel
theorem lit_wsL_law0_r10_10 : Cond.methodLink RX1 47 yX1_mergeParts ∈ lw_tbl := by decide +kernel
theorem lit_wsL_law0_r10_11 : Cond.instanceMethod yX1_mergeParts ∈ lw_tbl := by decide +kernel
theorem lit_wsL_law0_r10_12 : Cond.selects RX1 yX1_mergeParts yX1_mergeParts ∈ lw_tbl := by decide +kernel
theorem lit_wsL_law0_r10_14 : Cond.methodLink RX1 51 Lib.Math.min.name ∈ lw_tbl := by decide +kernel
theorem lit_wsL_law0_r10_15 : Cond.static Lib.Math.min.name ∈ lw_tbl := by decide +kernel
theorem lit_wsL_law0_r10_17 : Cond.methodLink RX1 57 Lib.Math.max.name ∈ lw_tbl := by decide +kernel
theorem lit_wsL_law0_r10_18 : Cond.static Lib.Math.max.name ∈ lw_tbl := by decide +kernel
theorem lit_wsL_law0_r10_20 : Cond.methodLink RL 15 yX4_datum ∈ lw_tbl := by decide +kernel
theorem lit_wsL_law0_r10_21 : Cond.instanceMethod yX4_datum ∈ lw_tbl := by decide +kernel
theorem lit_wsL_law0_r10_22 : Cond.selects RX4 yX4_datum yX4_datum ∈ lw_tbl := by decide +kernel
set_option maxRecDepth 20000 in
theorem lin_wsL_law0_r10 : ∀ w ∈ wsL_law0_r10, w ∈ lw_tbl := List.forall_mem_cons.mpr ⟨lit_wsL_law0_r10_0, List.forall_mem_cons.mpr ⟨lit_wsL_law0_r10_1, List.forall_mem_cons.mpr ⟨lit_wsL_law0_r10_2, List.forall_mem_cons.mpr ⟨lit_wsL_law0_r10_3, List.forall_mem_cons.mpr ⟨(List.mem_of_getElem? (i := 438) rfl), List.forall_mem_cons.mpr ⟨lit_wsL_law0_r10_5, List.forall_mem_cons.mpr ⟨lit_wsL_law0_r10_6, List.forall_mem_cons.mpr ⟨lit_wsL_law0_r10_7, List.forall_mem_cons.mpr ⟨(List.mem_of_getElem? (i := 442) rfl), List.forall_mem_cons.mpr ⟨lit_wsL_law0_r10_9, List.forall_mem_cons.mpr ⟨lit_wsL_law0_r10_10, List.forall_mem_cons.mpr ⟨lit_wsL_law0_r10_11, List.forall_mem_cons.mpr ⟨lit_wsL_law0_r10_12, List.forall_mem_cons.mpr ⟨(List.mem_of_getElem? (i := 446) rfl), List.forall_mem_cons.mpr ⟨lit_wsL_law0_r10_14, List.forall_mem_cons.mpr ⟨lit_wsL_law0_r10_15, List.forall_mem_cons.mpr ⟨(List.mem_of_getElem? (i := 449) rfl), List.forall_mem_cons.mpr ⟨lit_wsL_law0_r10_17, List.forall_mem_cons.mpr ⟨lit_wsL_law0_r10_18, List.forall_mem_cons.mpr ⟨(List.mem_of_getElem? (i := 452) rfl), List.forall_mem_cons.mpr ⟨lit_wsL_law0_r10_20, List.forall_mem_cons.mpr ⟨lit_wsL_law0_r10_21, List.forall_mem_cons.mpr ⟨lit_wsL_law0_r10_22, List.forall_mem_cons.mpr ⟨(List.mem_of_getElem? (i := 456) rfl), (fun _ h => absurd h List.not_mem_nil)⟩⟩⟩⟩⟩⟩⟩⟩⟩⟩⟩⟩⟩⟩⟩⟩⟩⟩⟩⟩⟩⟩⟩⟩
theorem lit_wsL_law0_r11_0 : Cond.classLink RX4 62 "java/lang/IllegalArgumentException" ∈ lw_tbl := by decide +kernel
theorem lit_wsL_law0_r11_1 : Cond.initialized "java/lang/IllegalArgumentException" ∈ lw_tbl := by decide +kernel
theorem lit_wsL_law0_r11_2 : Cond.methodLink RX4 58 yX4_isBeyond ∈ lw_tbl := by decide +kernel
theorem lit_wsL_law0_r11_3 : Cond.static yX4_isBeyond ∈ lw_tbl := by decide +kernel
theorem lit_wsL_law0_r11_5 : Cond.methodLink RX4 67 yX1_tellHeight ∈ lw_tbl := by decide +kernel
theorem lit_wsL_law0_r11_6 : Cond.instanceMethod yX1_tellHeight ∈ lw_tbl := by decide +kernel
theorem lit_wsL_law0_r11_7 : Cond.selects RX1 yX1_tellHeight yX1_tellHeight ∈ lw_tbl := by decide +kernel
theorem lit_wsL_law0_r11_9 : Cond.methodLink RL 19 yX4_observe ∈ lw_tbl := by decide +kernel
theorem lit_wsL_law0_r11_10 : Cond.instanceMethod yX4_observe ∈ lw_tbl := by decide +kernel
theorem lit_wsL_law0_r11_11 : Cond.selects RX4 yX4_observe yX4_observe ∈ lw_tbl := by decide +kernel
theorem lit_wsL_law0_r11_13 : Cond.fieldLink RX4 77 "TheodoliteRow$Net" "observations" "I" ∈ lw_tbl := by decide +kernel
theorem lit_wsL_law0_r11_14 : Cond.methodLink RX4 82 yX1_addObservation ∈ lw_tbl := by decide +kernel
theorem lit_wsL_law0_r11_15 : Cond.instanceMethod yX1_addObservation ∈ lw_tbl := by decide +kernel
theorem lit_wsL_law0_r11_16 : Cond.selects RX1 yX1_addObservation yX1_addObservation ∈ lw_tbl := by decide +kernel
theorem lit_wsL_law0_r11_18 : Cond.methodLink RL 23 yX4_withdraw ∈ lw_tbl := by decide +kernel
theorem lit_wsL_law0_r11_19 : Cond.instanceMethod yX4_withdraw ∈ lw_tbl := by decide +kernel
theorem lit_wsL_law0_r11_20 : Cond.selects RX4 yX4_withdraw yX4_withdraw ∈ lw_tbl := by decide +kernel
theorem lit_wsL_law0_r11_22 : Cond.methodLink RX4 86 yX4_needObservation ∈ lw_tbl := by decide +kernel
theorem lit_wsL_law0_r11_23 : Cond.instanceMethod yX4_needObservation ∈ lw_tbl := by decide +kernel
set_option maxRecDepth 20000 in
theorem lin_wsL_law0_r11 : ∀ w ∈ wsL_law0_r11, w ∈ lw_tbl := List.forall_mem_cons.mpr ⟨lit_wsL_law0_r11_0, List.forall_mem_cons.mpr ⟨lit_wsL_law0_r11_1, List.forall_mem_cons.mpr ⟨lit_wsL_law0_r11_2, List.forall_mem_cons.mpr ⟨lit_wsL_law0_r11_3, List.forall_mem_cons.mpr ⟨(List.mem_of_getElem? (i := 459) rfl), List.forall_mem_cons.mpr ⟨lit_wsL_law0_r11_5, List.forall_mem_cons.mpr ⟨lit_wsL_law0_r11_6, List.forall_mem_cons.mpr ⟨lit_wsL_law0_r11_7, List.forall_mem_cons.mpr ⟨(List.mem_of_getElem? (i := 479) rfl), List.forall_mem_cons.mpr ⟨lit_wsL_law0_r11_9, List.forall_mem_cons.mpr ⟨lit_wsL_law0_r11_10, List.forall_mem_cons.mpr ⟨lit_wsL_law0_r11_11, List.forall_mem_cons.mpr ⟨(List.mem_of_getElem? (i := 483) rfl), List.forall_mem_cons.mpr ⟨lit_wsL_law0_r11_13, List.forall_mem_cons.mpr ⟨lit_wsL_law0_r11_14, List.forall_mem_cons.mpr ⟨lit_wsL_law0_r11_15, List.forall_mem_cons.mpr ⟨lit_wsL_law0_r11_16, List.forall_mem_cons.mpr ⟨(List.mem_of_getElem? (i := 491) rfl), List.forall_mem_cons.mpr ⟨lit_wsL_law0_r11_18, List.forall_mem_cons.mpr ⟨lit_wsL_law0_r11_19, List.forall_mem_cons.mpr ⟨lit_wsL_law0_r11_20, List.forall_mem_cons.mpr ⟨(List.mem_of_getElem? (i := 495) rfl), List.forall_mem_cons.mpr ⟨lit_wsL_law0_r11_22, List.forall_mem_cons.mpr ⟨lit_wsL_law0_r11_23, (fun _ h => absurd h List.not_mem_nil)⟩⟩⟩⟩⟩⟩⟩⟩⟩⟩⟩⟩⟩⟩⟩⟩⟩⟩⟩⟩⟩⟩⟩⟩
theorem lit_wsL_law0_r12_0 : Cond.selects RX4 yX4_needObservation yX4_needObservation ∈ lw_tbl := by decide +kernel
theorem lit_wsL_law0_r12_2 : Cond.methodLink RX4 168 yX1_hasObservation ∈ lw_tbl := by decide +kernel
theorem lit_wsL_law0_r12_3 : Cond.instanceMethod yX1_hasObservation ∈ lw_tbl := by decide +kernel
theorem lit_wsL_law0_r12_4 : Cond.selects RX1 yX1_hasObservation yX1_hasObservation ∈ lw_tbl := by decide +kernel
theorem lit_wsL_law0_r12_6 : Cond.methodLink RX4 89 yX1_setWithdrawn ∈ lw_tbl := by decide +kernel
theorem lit_wsL_law0_r12_7 : Cond.instanceMethod yX1_setWithdrawn ∈ lw_tbl := by decide +kernel
theorem lit_wsL_law0_r12_8 : Cond.selects RX1 yX1_setWithdrawn yX1_setWithdrawn ∈ lw_tbl := by decide +kernel
theorem lit_wsL_law0_r12_10 : Cond.methodLink RL 27 yX4_clean ∈ lw_tbl := by decide +kernel
theorem lit_wsL_law0_r12_11 : Cond.instanceMethod yX4_clean ∈ lw_tbl := by decide +kernel
theorem lit_wsL_law0_r12_12 : Cond.selects RX4 yX4_clean yX4_clean ∈ lw_tbl := by decide +kernel
theorem lit_wsL_law0_r12_14 : Cond.constant RX4 93 (1000000000) ∈ lw_tbl := by decide +kernel
theorem lit_wsL_law0_r12_15 : Cond.methodLink RX4 99 yX0_scoreOf ∈ lw_tbl := by decide +kernel
theorem lit_wsL_law0_r12_16 : Cond.methodLink RL 31 yX4_go ∈ lw_tbl := by decide +kernel
theorem lit_wsL_law0_r12_17 : Cond.instanceMethod yX4_go ∈ lw_tbl := by decide +kernel
theorem lit_wsL_law0_r12_18 : Cond.selects RX4 yX4_go yX4_go ∈ lw_tbl := by decide +kernel
theorem lit_wsL_law0_r12_20 : Cond.fieldLink RX4 103 "TheodoliteRow$Path" "length" "I" ∈ lw_tbl := by decide +kernel
theorem lit_wsL_law0_r12_21 : Cond.fieldLink RX4 112 "TheodoliteRow$Path" "last" "I" ∈ lw_tbl := by decide +kernel
theorem lit_wsL_law0_r12_22 : Cond.methodLink RX4 108 yX2_begin ∈ lw_tbl := by decide +kernel
theorem lit_wsL_law0_r12_23 : Cond.instanceMethod yX2_begin ∈ lw_tbl := by decide +kernel
set_option maxRecDepth 20000 in
theorem lin_wsL_law0_r12 : ∀ w ∈ wsL_law0_r12, w ∈ lw_tbl := List.forall_mem_cons.mpr ⟨lit_wsL_law0_r12_0, List.forall_mem_cons.mpr ⟨(List.mem_of_getElem? (i := 228) rfl), List.forall_mem_cons.mpr ⟨lit_wsL_law0_r12_2, List.forall_mem_cons.mpr ⟨lit_wsL_law0_r12_3, List.forall_mem_cons.mpr ⟨lit_wsL_law0_r12_4, List.forall_mem_cons.mpr ⟨(List.mem_of_getElem? (i := 232) rfl), List.forall_mem_cons.mpr ⟨lit_wsL_law0_r12_6, List.forall_mem_cons.mpr ⟨lit_wsL_law0_r12_7, List.forall_mem_cons.mpr ⟨lit_wsL_law0_r12_8, List.forall_mem_cons.mpr ⟨(List.mem_of_getElem? (i := 499) rfl), List.forall_mem_cons.mpr ⟨lit_wsL_law0_r12_10, List.forall_mem_cons.mpr ⟨lit_wsL_law0_r12_11, List.forall_mem_cons.mpr ⟨lit_wsL_law0_r12_12, List.forall_mem_cons.mpr ⟨(List.mem_of_getElem? (i := 503) rfl), List.forall_mem_cons.mpr ⟨lit_wsL_law0_r12_14, List.forall_mem_cons.mpr ⟨lit_wsL_law0_r12_15, List.forall_mem_cons.mpr ⟨lit_wsL_law0_r12_16, List.forall_mem_cons.mpr ⟨lit_wsL_law0_r12_17, List.forall_mem_cons.mpr ⟨lit_wsL_law0_r12_18, List.forall_mem_cons.mpr ⟨(List.mem_of_getElem? (i := 509) rfl), List.forall_mem_cons.mpr ⟨lit_wsL_law0_r12_20, List.forall_mem_cons.mpr ⟨lit_wsL_law0_r12_21, List.forall_mem_cons.mpr ⟨lit_wsL_law0_r12_22, List.forall_mem_cons.mpr ⟨lit_wsL_law0_r12_23, (fun _ h => absurd h List.not_mem_nil)⟩⟩⟩⟩⟩⟩⟩⟩⟩⟩⟩⟩⟩⟩⟩⟩⟩⟩⟩⟩⟩⟩⟩⟩
theorem lit_wsL_law0_r13_0 : Cond.selects RX2 yX2_begin yX2_begin ∈ lw_tbl := by decide +kernel
theorem lit_wsL_law0_r13_2 : Cond.fieldLink RX2 13 "TheodoliteRow$Path" "first" "I" ∈ lw_tbl := by decide +kernel
theorem lit_wsL_law0_r13_3 : Cond.fieldLink RX2 16 "TheodoliteRow$Path" "last" "I" ∈ lw_tbl := by decide +kernel
theorem lit_wsL_law0_r13_4 : Cond.methodLink RX4 115 yX1_lowestBetween ∈ lw_tbl := by decide +kernel
theorem lit_wsL_law0_r13_5 : Cond.instanceMethod yX1_lowestBetween ∈ lw_tbl := by decide +kernel
theorem lit_wsL_law0_r13_6 : Cond.selects RX1 yX1_lowestBetween yX1_lowestBetween ∈ lw_tbl := by decide +kernel
theorem lit_wsL_law0_r13_8 : Cond.methodLink RX4 121 yX1_differenceFrom ∈ lw_tbl := by decide +kernel
theorem lit_wsL_law0_r13_9 : Cond.instanceMethod yX1_differenceFrom ∈ lw_tbl := by decide +kernel
theorem lit_wsL_law0_r13_10 : Cond.selects RX1 yX1_differenceFrom yX1_differenceFrom ∈ lw_tbl := by decide +kernel
theorem lit_wsL_law0_r13_12 : Cond.methodLink RX4 124 yX2_goOn ∈ lw_tbl := by decide +kernel
theorem lit_wsL_law0_r13_13 : Cond.instanceMethod yX2_goOn ∈ lw_tbl := by decide +kernel
theorem lit_wsL_law0_r13_14 : Cond.selects RX2 yX2_goOn yX2_goOn ∈ lw_tbl := by decide +kernel
theorem lit_wsL_law0_r13_16 : Cond.fieldLink RX2 19 "TheodoliteRow$Path" "total" "I" ∈ lw_tbl := by decide +kernel
theorem lit_wsL_law0_r13_17 : Cond.methodLink RL 38 yX4_heightAnew ∈ lw_tbl := by decide +kernel
theorem lit_wsL_law0_r13_18 : Cond.instanceMethod yX4_heightAnew ∈ lw_tbl := by decide +kernel
theorem lit_wsL_law0_r13_19 : Cond.selects RX4 yX4_heightAnew yX4_heightAnew ∈ lw_tbl := by decide +kernel
theorem lit_wsL_law0_r13_21 : Cond.methodLink RX4 139 yX3_heightOf ∈ lw_tbl := by decide +kernel
theorem lit_wsL_law0_r13_22 : Cond.instanceMethod yX3_heightOf ∈ lw_tbl := by decide +kernel
theorem lit_wsL_law0_r13_23 : Cond.selects RX3 yX3_heightOf yX3_heightOf ∈ lw_tbl := by decide +kernel
set_option maxRecDepth 20000 in
theorem lin_wsL_law0_r13 : ∀ w ∈ wsL_law0_r13, w ∈ lw_tbl := List.forall_mem_cons.mpr ⟨lit_wsL_law0_r13_0, List.forall_mem_cons.mpr ⟨(List.mem_of_getElem? (i := 514) rfl), List.forall_mem_cons.mpr ⟨lit_wsL_law0_r13_2, List.forall_mem_cons.mpr ⟨lit_wsL_law0_r13_3, List.forall_mem_cons.mpr ⟨lit_wsL_law0_r13_4, List.forall_mem_cons.mpr ⟨lit_wsL_law0_r13_5, List.forall_mem_cons.mpr ⟨lit_wsL_law0_r13_6, List.forall_mem_cons.mpr ⟨(List.mem_of_getElem? (i := 518) rfl), List.forall_mem_cons.mpr ⟨lit_wsL_law0_r13_8, List.forall_mem_cons.mpr ⟨lit_wsL_law0_r13_9, List.forall_mem_cons.mpr ⟨lit_wsL_law0_r13_10, List.forall_mem_cons.mpr ⟨(List.mem_of_getElem? (i := 523) rfl), List.forall_mem_cons.mpr ⟨lit_wsL_law0_r13_12, List.forall_mem_cons.mpr ⟨lit_wsL_law0_r13_13, List.forall_mem_cons.mpr ⟨lit_wsL_law0_r13_14, List.forall_mem_cons.mpr ⟨(List.mem_of_getElem? (i := 527) rfl), List.forall_mem_cons.mpr ⟨lit_wsL_law0_r13_16, List.forall_mem_cons.mpr ⟨lit_wsL_law0_r13_17, List.forall_mem_cons.mpr ⟨lit_wsL_law0_r13_18, List.forall_mem_cons.mpr ⟨lit_wsL_law0_r13_19, List.forall_mem_cons.mpr ⟨(List.mem_of_getElem? (i := 539) rfl), List.forall_mem_cons.mpr ⟨lit_wsL_law0_r13_21, List.forall_mem_cons.mpr ⟨lit_wsL_law0_r13_22, List.forall_mem_cons.mpr ⟨lit_wsL_law0_r13_23, (fun _ h => absurd h List.not_mem_nil)⟩⟩⟩⟩⟩⟩⟩⟩⟩⟩⟩⟩⟩⟩⟩⟩⟩⟩⟩⟩⟩⟩⟩⟩
theorem lit_wsL_law0_r14_1 : Cond.fieldLink RX3 27 "TheodoliteRow$TreeWalk" "weightedRises" "J" ∈ lw_tbl := by decide +kernel
theorem lit_wsL_law0_r14_2 : Cond.fieldLink RX3 31 "TheodoliteRow$Net" "toldHeight" "[I" ∈ lw_tbl := by decide +kernel
theorem lit_wsL_law0_r14_3 : Cond.fieldLink RX3 37 "TheodoliteRow$TreeWalk" "datum" "I" ∈ lw_tbl := by decide +kernel
