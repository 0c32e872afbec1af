theorem lit_wsL_law0_r14_4 : Cond.fieldLink RX3 41 "TheodoliteRow$TreeWalk" "weightOfAll" "J" ∈ lw_tbl := by decide +kernel
theorem lit_wsL_law0_r14_5 : Cond.constantLong RX3 44 (100) ∈ lw_tbl := by decide +kernel
theorem lit_wsL_law0_r14_6 : Cond.methodLink RX3 23 yX3_walk ∈ lw_tbl := by decide +kernel
theorem lit_wsL_law0_r14_7 : Cond.instanceMethod yX3_walk ∈ lw_tbl := by decide +kernel
theorem lit_wsL_law0_r14_8 : Cond.selects RX3 yX3_walk yX3_walk ∈ lw_tbl := by decide +kernel
theorem lit_wsL_law0_r14_10 : Cond.fieldLink RX3 58 "TheodoliteRow$TreeWalk" "askedStation" "I" ∈ lw_tbl := by decide +kernel
theorem lit_wsL_law0_r14_11 : Cond.fieldLink RX3 61 "TheodoliteRow$TreeWalk" "askedObservation" "I" ∈ lw_tbl := by decide +kernel
theorem lit_wsL_law0_r14_12 : Cond.fieldLink RX3 71 "TheodoliteRow$TreeWalk" "branches" "I" ∈ lw_tbl := by decide +kernel
theorem lit_wsL_law0_r14_13 : Cond.fieldLink RX3 55 "TheodoliteRow$TreeWalk" "weightOfThoseWithAsked" "J" ∈ lw_tbl := by decide +kernel
theorem lit_wsL_law0_r14_14 : Cond.fieldLink RX3 74 "TheodoliteRow$Net" "stations" "I" ∈ lw_tbl := by decide +kernel
theorem lit_wsL_law0_r14_15 : Cond.methodLink RX3 64 yX1_datumOf ∈ lw_tbl := by decide +kernel
theorem lit_wsL_law0_r14_16 : Cond.methodLink RX3 68 yX1_countStationsWith ∈ lw_tbl := by decide +kernel
theorem lit_wsL_law0_r14_17 : Cond.instanceMethod yX1_countStationsWith ∈ lw_tbl := by decide +kernel
theorem lit_wsL_law0_r14_18 : Cond.selects RX1 yX1_countStationsWith yX1_countStationsWith ∈ lw_tbl := by decide +kernel
theorem lit_wsL_law0_r14_20 : Cond.methodLink RX3 77 yX3_grow ∈ lw_tbl := by decide +kernel
theorem lit_wsL_law0_r14_21 : Cond.static yX3_grow ∈ lw_tbl := by decide +kernel
theorem lit_wsL_law0_r14_23 : Cond.fieldLink RX3 85 "TheodoliteRow$Net" "observations" "I" ∈ lw_tbl := by decide +kernel
set_option maxRecDepth 20000 in
theorem lin_wsL_law0_r14 : ∀ w ∈ wsL_law0_r14, w ∈ lw_tbl := List.forall_mem_cons.mpr ⟨(List.mem_of_getElem? (i := 543) rfl), List.forall_mem_cons.mpr ⟨lit_wsL_law0_r14_1, List.forall_mem_cons.mpr ⟨lit_wsL_law0_r14_2, List.forall_mem_cons.mpr ⟨lit_wsL_law0_r14_3, List.forall_mem_cons.mpr ⟨lit_wsL_law0_r14_4, List.forall_mem_cons.mpr ⟨lit_wsL_law0_r14_5, List.forall_mem_cons.mpr ⟨lit_wsL_law0_r14_6, List.forall_mem_cons.mpr ⟨lit_wsL_law0_r14_7, List.forall_mem_cons.mpr ⟨lit_wsL_law0_r14_8, List.forall_mem_cons.mpr ⟨(List.mem_of_getElem? (i := 547) rfl), List.forall_mem_cons.mpr ⟨lit_wsL_law0_r14_10, List.forall_mem_cons.mpr ⟨lit_wsL_law0_r14_11, List.forall_mem_cons.mpr ⟨lit_wsL_law0_r14_12, List.forall_mem_cons.mpr ⟨lit_wsL_law0_r14_13, List.forall_mem_cons.mpr ⟨lit_wsL_law0_r14_14, List.forall_mem_cons.mpr ⟨lit_wsL_law0_r14_15, List.forall_mem_cons.mpr ⟨lit_wsL_law0_r14_16, List.forall_mem_cons.mpr ⟨lit_wsL_law0_r14_17, List.forall_mem_cons.mpr ⟨lit_wsL_law0_r14_18, List.forall_mem_cons.mpr ⟨(List.mem_of_getElem? (i := 552) rfl), List.forall_mem_cons.mpr ⟨lit_wsL_law0_r14_20, List.forall_mem_cons.mpr ⟨lit_wsL_law0_r14_21, List.forall_mem_cons.mpr ⟨(List.mem_of_getElem? (i := 555) rfl), List.forall_mem_cons.mpr ⟨lit_wsL_law0_r14_23, (fun _ h => absurd h List.not_mem_nil)⟩⟩⟩⟩⟩⟩⟩⟩⟩⟩⟩⟩⟩⟩⟩⟩⟩⟩⟩⟩⟩⟩⟩⟩
theorem lit_wsL_law0_r15_0 : Cond.fieldLink RX3 95 "TheodoliteRow$Net" "weight" "[I" ∈ lw_tbl := by decide +kernel
theorem lit_wsL_law0_r15_1 : Cond.methodLink RX3 81 yX3_countTree ∈ lw_tbl := by decide +kernel
theorem lit_wsL_law0_r15_2 : Cond.instanceMethod yX3_countTree ∈ lw_tbl := by decide +kernel
theorem lit_wsL_law0_r15_3 : Cond.selects RX3 yX3_countTree yX3_countTree ∈ lw_tbl := by decide +kernel
theorem lit_wsL_law0_r15_5 : Cond.methodLink RX3 88 yX3_joinsPieces ∈ lw_tbl := by decide +kernel
theorem lit_wsL_law0_r15_6 : Cond.instanceMethod yX3_joinsPieces ∈ lw_tbl := by decide +kernel
theorem lit_wsL_law0_r15_7 : Cond.selects RX3 yX3_joinsPieces yX3_joinsPieces ∈ lw_tbl := by decide +kernel
theorem lit_wsL_law0_r15_9 : Cond.fieldLink RX3 50 "TheodoliteRow$Net" "from" "[I" ∈ lw_tbl := by decide +kernel
theorem lit_wsL_law0_r15_10 : Cond.fieldLink RX3 101 "TheodoliteRow$Net" "to" "[I" ∈ lw_tbl := by decide +kernel
theorem lit_wsL_law0_r15_11 : Cond.methodLink RX3 98 yX1_isInPartOf ∈ lw_tbl := by decide +kernel
theorem lit_wsL_law0_r15_12 : Cond.methodLink RX3 92 yX3_joinPieces ∈ lw_tbl := by decide +kernel
theorem lit_wsL_law0_r15_13 : Cond.instanceMethod yX3_joinPieces ∈ lw_tbl := by decide +kernel
theorem lit_wsL_law0_r15_14 : Cond.selects RX3 yX3_joinPieces yX3_joinPieces ∈ lw_tbl := by decide +kernel
theorem lit_wsL_law0_r15_16 : Cond.fieldLink RX3 104 "TheodoliteRow$Net" "difference" "[I" ∈ lw_tbl := by decide +kernel
theorem lit_wsL_law0_r15_17 : Cond.methodLink RL 41 yX4_free ∈ lw_tbl := by decide +kernel
theorem lit_wsL_law0_r15_18 : Cond.instanceMethod yX4_free ∈ lw_tbl := by decide +kernel
theorem lit_wsL_law0_r15_19 : Cond.selects RX4 yX4_free yX4_free ∈ lw_tbl := by decide +kernel
theorem lit_wsL_law0_r15_21 : Cond.methodLink RX4 140 yX0_freeHeightOf ∈ lw_tbl := by decide +kernel
theorem lit_wsL_law0_r15_22 : Cond.instanceMethod yX0_freeHeightOf ∈ lw_tbl := by decide +kernel
theorem lit_wsL_law0_r15_23 : Cond.selects RX0 yX0_freeHeightOf yX0_freeHeightOf ∈ lw_tbl := by decide +kernel
set_option maxRecDepth 20000 in
theorem lin_wsL_law0_r15 : ∀ w ∈ wsL_law0_r15, w ∈ lw_tbl := List.forall_mem_cons.mpr ⟨lit_wsL_law0_r15_0, List.forall_mem_cons.mpr ⟨lit_wsL_law0_r15_1, List.forall_mem_cons.mpr ⟨lit_wsL_law0_r15_2, List.forall_mem_cons.mpr ⟨lit_wsL_law0_r15_3, List.forall_mem_cons.mpr ⟨(List.mem_of_getElem? (i := 559) rfl), List.forall_mem_cons.mpr ⟨lit_wsL_law0_r15_5, List.forall_mem_cons.mpr ⟨lit_wsL_law0_r15_6, List.forall_mem_cons.mpr ⟨lit_wsL_law0_r15_7, List.forall_mem_cons.mpr ⟨(List.mem_of_getElem? (i := 563) rfl), List.forall_mem_cons.mpr ⟨lit_wsL_law0_r15_9, List.forall_mem_cons.mpr ⟨lit_wsL_law0_r15_10, List.forall_mem_cons.mpr ⟨lit_wsL_law0_r15_11, List.forall_mem_cons.mpr ⟨lit_wsL_law0_r15_12, List.forall_mem_cons.mpr ⟨lit_wsL_law0_r15_13, List.forall_mem_cons.mpr ⟨lit_wsL_law0_r15_14, List.forall_mem_cons.mpr ⟨(List.mem_of_getElem? (i := 568) rfl), List.forall_mem_cons.mpr ⟨lit_wsL_law0_r15_16, List.forall_mem_cons.mpr ⟨lit_wsL_law0_r15_17, List.forall_mem_cons.mpr ⟨lit_wsL_law0_r15_18, List.forall_mem_cons.mpr ⟨lit_wsL_law0_r15_19, List.forall_mem_cons.mpr ⟨(List.mem_of_getElem? (i := 574) rfl), List.forall_mem_cons.mpr ⟨lit_wsL_law0_r15_21, List.forall_mem_cons.mpr ⟨lit_wsL_law0_r15_22, List.forall_mem_cons.mpr ⟨lit_wsL_law0_r15_23, (fun _ h => absurd h List.not_mem_nil)⟩⟩⟩⟩⟩⟩⟩⟩⟩⟩⟩⟩⟩⟩⟩⟩⟩⟩⟩⟩⟩⟩⟩⟩
theorem lit_wsL_law0_r16_1 : Cond.methodLink RL 44 yX4_residual ∈ lw_tbl := by decide +kernel
theorem lit_wsL_law0_r16_2 : Cond.instanceMethod yX4_residual ∈ lw_tbl := by decide +kernel
theorem lit_wsL_law0_r16_3 : Cond.selects RX4 yX4_residual yX4_residual ∈ lw_tbl := by decide +kernel
theorem lit_wsL_law0_r16_5 : Cond.methodLink RX4 143 yX4_needObservationInNet ∈ lw_tbl := by decide +kernel
theorem lit_wsL_law0_r16_6 : Cond.instanceMethod yX4_needObservationInNet ∈ lw_tbl := by decide +kernel
theorem lit_wsL_law0_r16_7 : Cond.selects RX4 yX4_needObservationInNet yX4_needObservationInNet ∈ lw_tbl := by decide +kernel
theorem lit_wsL_law0_r16_9 : Cond.fieldLink RX4 173 "TheodoliteRow$Net" "isWithdrawn" "[Z" ∈ lw_tbl := by decide +kernel
theorem lit_wsL_law0_r16_10 : Cond.methodLink RX4 146 yX0_residualOf ∈ lw_tbl := by decide +kernel
theorem lit_wsL_law0_r16_11 : Cond.instanceMethod yX0_residualOf ∈ lw_tbl := by decide +kernel
theorem lit_wsL_law0_r16_12 : Cond.selects RX0 yX0_residualOf yX0_residualOf ∈ lw_tbl := by decide +kernel
theorem lit_wsL_law0_r16_14 : Cond.methodLink RL 47 yX4_check ∈ lw_tbl := by decide +kernel
theorem lit_wsL_law0_r16_15 : Cond.instanceMethod yX4_check ∈ lw_tbl := by decide +kernel
theorem lit_wsL_law0_r16_16 : Cond.selects RX4 yX4_check yX4_check ∈ lw_tbl := by decide +kernel
theorem lit_wsL_law0_r16_18 : Cond.methodLink RX4 149 yX0_checkOf ∈ lw_tbl := by decide +kernel
theorem lit_wsL_law0_r16_19 : Cond.instanceMethod yX0_checkOf ∈ lw_tbl := by decide +kernel
theorem lit_wsL_law0_r16_20 : Cond.selects RX0 yX0_checkOf yX0_checkOf ∈ lw_tbl := by decide +kernel
theorem lit_wsL_law0_r16_22 : Cond.methodLink RX0 63 yX0_treeWeightOf ∈ lw_tbl := by decide +kernel
theorem lit_wsL_law0_r16_23 : Cond.methodLink RL 50 yX4_checkAnew ∈ lw_tbl := by decide +kernel
set_option maxRecDepth 20000 in
theorem lin_wsL_law0_r16 : ∀ w ∈ wsL_law0_r16, w ∈ lw_tbl := List.forall_mem_cons.mpr ⟨(List.mem_of_getElem? (i := 578) rfl), List.forall_mem_cons.mpr ⟨lit_wsL_law0_r16_1, List.forall_mem_cons.mpr ⟨lit_wsL_law0_r16_2, List.forall_mem_cons.mpr ⟨lit_wsL_law0_r16_3, List.forall_mem_cons.mpr ⟨(List.mem_of_getElem? (i := 582) rfl), List.forall_mem_cons.mpr ⟨lit_wsL_law0_r16_5, List.forall_mem_cons.mpr ⟨lit_wsL_law0_r16_6, List.forall_mem_cons.mpr ⟨lit_wsL_law0_r16_7, List.forall_mem_cons.mpr ⟨(List.mem_of_getElem? (i := 224) rfl), List.forall_mem_cons.mpr ⟨lit_wsL_law0_r16_9, List.forall_mem_cons.mpr ⟨lit_wsL_law0_r16_10, List.forall_mem_cons.mpr ⟨lit_wsL_law0_r16_11, List.forall_mem_cons.mpr ⟨lit_wsL_law0_r16_12, List.forall_mem_cons.mpr ⟨(List.mem_of_getElem? (i := 586) rfl), List.forall_mem_cons.mpr ⟨lit_wsL_law0_r16_14, List.forall_mem_cons.mpr ⟨lit_wsL_law0_r16_15, List.forall_mem_cons.mpr ⟨lit_wsL_law0_r16_16, List.forall_mem_cons.mpr ⟨(List.mem_of_getElem? (i := 590) rfl), List.forall_mem_cons.mpr ⟨lit_wsL_law0_r16_18, List.forall_mem_cons.mpr ⟨lit_wsL_law0_r16_19, List.forall_mem_cons.mpr ⟨lit_wsL_law0_r16_20, List.forall_mem_cons.mpr ⟨(List.mem_of_getElem? (i := 594) rfl), List.forall_mem_cons.mpr ⟨lit_wsL_law0_r16_22, List.forall_mem_cons.mpr ⟨lit_wsL_law0_r16_23, (fun _ h => absurd h List.not_mem_nil)⟩⟩⟩⟩⟩⟩⟩⟩⟩⟩⟩⟩⟩⟩⟩⟩⟩⟩⟩⟩⟩⟩⟩⟩
theorem lit_wsL_law0_r17_0 : Cond.instanceMethod yX4_checkAnew ∈ lw_tbl := by decide +kernel
theorem lit_wsL_law0_r17_1 : Cond.selects RX4 yX4_checkAnew yX4_checkAnew ∈ lw_tbl := by decide +kernel
theorem lit_wsL_law0_r17_3 : Cond.methodLink RX4 152 yX3_checkOf ∈ lw_tbl := by decide +kernel
theorem lit_wsL_law0_r17_4 : Cond.instanceMethod yX3_checkOf ∈ lw_tbl := by decide +kernel
theorem lit_wsL_law0_r17_5 : Cond.selects RX3 yX3_checkOf yX3_checkOf ∈ lw_tbl := by decide +kernel
theorem lit_wsL_law0_r17_7 : Cond.constantLong RX3 53 (1000) ∈ lw_tbl := by decide +kernel
theorem lit_wsL_law0_r17_8 : Cond.methodLink RL 53 yX4_score ∈ lw_tbl := by decide +kernel
theorem lit_wsL_law0_r17_9 : Cond.instanceMethod yX4_score ∈ lw_tbl := by decide +kernel
theorem lit_wsL_law0_r17_10 : Cond.selects RX4 yX4_score yX4_score ∈ lw_tbl := by decide +kernel
theorem lit_wsL_law0_r17_12 : Cond.methodLink RL 111 yL_areSound ∈ lw_tbl := by decide +kernel
theorem lit_wsL_law0_r17_13 : Cond.static yL_areSound ∈ lw_tbl := by decide +kernel
theorem lit_wsL_law0_r17_15 : Cond.constantLong RL 98 (100) ∈ lw_tbl := by decide +kernel
theorem lit_wsL_law0_r17_16 : Cond.constantLong RL 100 (-6000000) ∈ lw_tbl := by decide +kernel
theorem lit_wsL_law0_r17_17 : Cond.constantLong RL 102 (6000000) ∈ lw_tbl := by decide +kernel
theorem lit_wsL_law0_r17_18 : Cond.constantLong RL 104 (1000) ∈ lw_tbl := by decide +kernel
theorem lit_wsL_law0_r17_19 : Cond.methodLink RL 115 yL_dice ∈ lw_tbl := by decide +kernel
theorem lit_wsL_law0_r17_20 : Cond.static yL_dice ∈ lw_tbl := by decide +kernel
theorem lit_wsL_law0_r17_22 : Cond.constant RL 7 (1744701421) ∈ lw_tbl := by decide +kernel
theorem lit_wsL_law0_r17_23 : Cond.constant RL 8 (2147483647) ∈ lw_tbl := by decide +kernel
set_option maxRecDepth 20000 in
theorem lin_wsL_law0_r17 : ∀ w ∈ wsL_law0_r17, w ∈ lw_tbl := List.forall_mem_cons.mpr ⟨lit_wsL_law0_r17_0, List.forall_mem_cons.mpr ⟨lit_wsL_law0_r17_1, List.forall_mem_cons.mpr ⟨(List.mem_of_getElem? (i := 599) rfl), List.forall_mem_cons.mpr ⟨lit_wsL_law0_r17_3, List.forall_mem_cons.mpr ⟨lit_wsL_law0_r17_4, List.forall_mem_cons.mpr ⟨lit_wsL_law0_r17_5, List.forall_mem_cons.mpr ⟨(List.mem_of_getElem? (i := 603) rfl), List.forall_mem_cons.mpr ⟨lit_wsL_law0_r17_7, List.forall_mem_cons.mpr ⟨lit_wsL_law0_r17_8, List.forall_mem_cons.mpr ⟨lit_wsL_law0_r17_9, List.forall_mem_cons.mpr ⟨lit_wsL_law0_r17_10, List.forall_mem_cons.mpr ⟨(List.mem_of_getElem? (i := 220) rfl), List.forall_mem_cons.mpr ⟨lit_wsL_law0_r17_12, List.forall_mem_cons.mpr ⟨lit_wsL_law0_r17_13, List.forall_mem_cons.mpr ⟨(List.mem_of_getElem? (i := 621) rfl), List.forall_mem_cons.mpr ⟨lit_wsL_law0_r17_15, List.forall_mem_cons.mpr ⟨lit_wsL_law0_r17_16, List.forall_mem_cons.mpr ⟨lit_wsL_law0_r17_17, List.forall_mem_cons.mpr ⟨lit_wsL_law0_r17_18, List.forall_mem_cons.mpr ⟨lit_wsL_law0_r17_19, List.forall_mem_cons.mpr ⟨lit_wsL_law0_r17_20, List.forall_mem_cons.mpr ⟨(List.mem_of_getElem? (i := 421) rfl), List.forall_mem_cons.mpr ⟨lit_wsL_law0_r17_22, List.forall_mem_cons.mpr ⟨lit_wsL_law0_r17_23, (fun _ h => absurd h List.not_mem_nil)⟩⟩⟩⟩⟩⟩⟩⟩⟩⟩⟩⟩⟩⟩⟩⟩⟩⟩⟩⟩⟩⟩⟩⟩
theorem lit_wsL_law0_r18_0 : Cond.methodLink RL 119 yX4_end ∈ lw_tbl := by decide +kernel
theorem lit_wsL_law0_r18_1 : Cond.instanceMethod yX4_end ∈ lw_tbl := by decide +kernel
theorem lit_wsL_law0_r18_2 : Cond.selects RX4 yX4_end yX4_end ∈ lw_tbl := by decide +kernel
theorem lit_wsL_law0_r18_4 : Cond.methodLink RX4 127 yX2_clear ∈ lw_tbl := by decide +kernel
theorem lit_wsL_law0_r18_5 : Cond.instanceMethod yX2_clear ∈ lw_tbl := by decide +kernel
theorem lit_wsL_law0_r18_6 : Cond.selects RX2 yX2_clear yX2_clear ∈ lw_tbl := by decide +kernel
theorem lit_wsL_law0_r18_8 : Cond.methodLink RL 122 yX4_isClosed ∈ lw_tbl := by decide +kernel
theorem lit_wsL_law0_r18_9 : Cond.instanceMethod yX4_isClosed ∈ lw_tbl := by decide +kernel
theorem lit_wsL_law0_r18_10 : Cond.selects RX4 yX4_isClosed yX4_isClosed ∈ lw_tbl := by decide +kernel
theorem lit_wsL_law0_r18_12 : Cond.fieldLink RX4 133 "TheodoliteRow$Path" "first" "I" ∈ lw_tbl := by decide +kernel
set_option maxRecDepth 20000 in
theorem lin_wsL_law0_r18 : ∀ w ∈ wsL_law0_r18, w ∈ lw_tbl := List.forall_mem_cons.mpr ⟨lit_wsL_law0_r18_0, List.forall_mem_cons.mpr ⟨lit_wsL_law0_r18_1, List.forall_mem_cons.mpr ⟨lit_wsL_law0_r18_2, List.forall_mem_cons.mpr ⟨(List.mem_of_getElem? (i := 204) rfl), List.forall_mem_cons.mpr ⟨lit_wsL_law0_r18_4, List.forall_mem_cons.mpr ⟨lit_wsL_law0_r18_5, List.forall_mem_cons.mpr ⟨lit_wsL_law0_r18_6, List.forall_mem_cons.mpr ⟨(List.mem_of_getElem? (i := 208) rfl), List.forall_mem_cons.mpr ⟨lit_wsL_law0_r18_8, List.forall_mem_cons.mpr ⟨lit_wsL_law0_r18_9, List.forall_mem_cons.mpr ⟨lit_wsL_law0_r18_10, List.forall_mem_cons.mpr ⟨(List.mem_of_getElem? (i := 216) rfl), List.forall_mem_cons.mpr ⟨lit_wsL_law0_r18_12, (fun _ h => absurd h List.not_mem_nil)⟩⟩⟩⟩⟩⟩⟩⟩⟩⟩⟩⟩⟩
set_option maxRecDepth 20000 in
theorem lin_wsX40 : ∀ w ∈ wsX40, w ∈ lw_tbl := by decide +kernel
