theorem dL_station_0 : decode cL_station 0 = .ok (.aload_n 1, 1) := by decide +kernel
theorem dL_station_1 : decode cL_station 1 = .ok (.iconst 0, 1) := by decide +kernel
theorem dL_station_2 : decode cL_station 2 = .ok (.aload_n 0, 1) := by decide +kernel
theorem dL_station_3 : decode cL_station 3 = .ok (.invokevirtual 7, 3) := by decide +kernel
theorem dL_station_6 : decode cL_station 6 = .ok (.i2l, 1) := by decide +kernel
theorem dL_station_7 : decode cL_station 7 = .ok (.lastore, 1) := by decide +kernel
theorem dL_station_8 : decode cL_station 8 = .ok (.goto 6, 3) := by decide +kernel
theorem dL_station_11 : decode cL_station 11 = .ok (.astore_n 2, 1) := by decide +kernel
theorem dL_station_12 : decode cL_station 12 = .ok (.iconst 1, 1) := by decide +kernel
theorem dL_station_13 : decode cL_station 13 = .ok (.ireturn, 1) := by decide +kernel
theorem dL_station_14 : decode cL_station 14 = .ok (.iconst 0, 1) := by decide +kernel
theorem dL_station_15 : decode cL_station 15 = .ok (.ireturn, 1) := by decide +kernel
theorem dL_datum_0 : decode cL_datum 0 = .ok (.aload 4, 2) := by decide +kernel
theorem dL_datum_2 : decode cL_datum 2 = .ok (.iconst 0, 1) := by decide +kernel
theorem dL_datum_3 : decode cL_datum 3 = .ok (.aload_n 0, 1) := by decide +kernel
theorem dL_datum_4 : decode cL_datum 4 = .ok (.iload_n 1, 1) := by decide +kernel
theorem dL_datum_5 : decode cL_datum 5 = .ok (.iload_n 2, 1) := by decide +kernel
theorem dL_datum_6 : decode cL_datum 6 = .ok (.iload_n 3, 1) := by decide +kernel
theorem dL_datum_7 : decode cL_datum 7 = .ok (.invokevirtual 15, 3) := by decide +kernel
theorem dL_datum_10 : decode cL_datum 10 = .ok (.ifCond .eq 7, 3) := by decide +kernel
theorem dL_datum_13 : decode cL_datum 13 = .ok (.lconst 1, 1) := by decide +kernel
theorem dL_datum_14 : decode cL_datum 14 = .ok (.goto 4, 3) := by decide +kernel
theorem dL_datum_17 : decode cL_datum 17 = .ok (.lconst 0, 1) := by decide +kernel
theorem dL_datum_18 : decode cL_datum 18 = .ok (.lastore, 1) := by decide +kernel
theorem dL_datum_19 : decode cL_datum 19 = .ok (.goto 11, 3) := by decide +kernel
theorem dL_datum_22 : decode cL_datum 22 = .ok (.astore 5, 2) := by decide +kernel
theorem dL_datum_24 : decode cL_datum 24 = .ok (.iconst 1, 1) := by decide +kernel
theorem dL_datum_25 : decode cL_datum 25 = .ok (.ireturn, 1) := by decide +kernel
theorem dL_datum_26 : decode cL_datum 26 = .ok (.astore 5, 2) := by decide +kernel
theorem dL_datum_28 : decode cL_datum 28 = .ok (.iconst 2, 1) := by decide +kernel
theorem dL_datum_29 : decode cL_datum 29 = .ok (.ireturn, 1) := by decide +kernel
theorem dL_datum_30 : decode cL_datum 30 = .ok (.iconst 0, 1) := by decide +kernel
theorem dL_datum_31 : decode cL_datum 31 = .ok (.ireturn, 1) := by decide +kernel
theorem dL_observe_0 : decode cL_observe 0 = .ok (.aload 5, 2) := by decide +kernel
theorem dL_observe_2 : decode cL_observe 2 = .ok (.iconst 0, 1) := by decide +kernel
theorem dL_observe_3 : decode cL_observe 3 = .ok (.aload_n 0, 1) := by decide +kernel
theorem dL_observe_4 : decode cL_observe 4 = .ok (.iload_n 1, 1) := by decide +kernel
theorem dL_observe_5 : decode cL_observe 5 = .ok (.iload_n 2, 1) := by decide +kernel
theorem dL_observe_6 : decode cL_observe 6 = .ok (.iload_n 3, 1) := by decide +kernel
theorem dL_observe_7 : decode cL_observe 7 = .ok (.iload 4, 2) := by decide +kernel
theorem dL_observe_9 : decode cL_observe 9 = .ok (.invokevirtual 23, 3) := by decide +kernel
theorem dL_observe_12 : decode cL_observe 12 = .ok (.i2l, 1) := by decide +kernel
theorem dL_observe_13 : decode cL_observe 13 = .ok (.lastore, 1) := by decide +kernel
theorem dL_observe_14 : decode cL_observe 14 = .ok (.goto 15, 3) := by decide +kernel
theorem dL_observe_17 : decode cL_observe 17 = .ok (.astore 6, 2) := by decide +kernel
theorem dL_observe_19 : decode cL_observe 19 = .ok (.iconst 1, 1) := by decide +kernel
theorem dL_observe_20 : decode cL_observe 20 = .ok (.ireturn, 1) := by decide +kernel
theorem dL_observe_21 : decode cL_observe 21 = .ok (.astore 6, 2) := by decide +kernel
theorem dL_observe_23 : decode cL_observe 23 = .ok (.iconst 2, 1) := by decide +kernel
theorem dL_observe_24 : decode cL_observe 24 = .ok (.ireturn, 1) := by decide +kernel
theorem dL_observe_25 : decode cL_observe 25 = .ok (.astore 6, 2) := by decide +kernel
theorem dL_observe_27 : decode cL_observe 27 = .ok (.iconst 3, 1) := by decide +kernel
theorem dL_observe_28 : decode cL_observe 28 = .ok (.ireturn, 1) := by decide +kernel
theorem dL_observe_29 : decode cL_observe 29 = .ok (.iconst 0, 1) := by decide +kernel
theorem dL_observe_30 : decode cL_observe 30 = .ok (.ireturn, 1) := by decide +kernel
theorem dL_withdraw_0 : decode cL_withdraw 0 = .ok (.aload_n 3, 1) := by decide +kernel
theorem dL_withdraw_1 : decode cL_withdraw 1 = .ok (.iconst 0, 1) := by decide +kernel
theorem dL_withdraw_2 : decode cL_withdraw 2 = .ok (.aload_n 0, 1) := by decide +kernel
theorem dL_withdraw_3 : decode cL_withdraw 3 = .ok (.iload_n 1, 1) := by decide +kernel
theorem dL_withdraw_4 : decode cL_withdraw 4 = .ok (.iload_n 2, 1) := by decide +kernel
theorem dL_withdraw_5 : decode cL_withdraw 5 = .ok (.invokevirtual 27, 3) := by decide +kernel
theorem dL_withdraw_8 : decode cL_withdraw 8 = .ok (.ifCond .eq 7, 3) := by decide +kernel
theorem dL_withdraw_11 : decode cL_withdraw 11 = .ok (.lconst 1, 1) := by decide +kernel
theorem dL_withdraw_12 : decode cL_withdraw 12 = .ok (.goto 4, 3) := by decide +kernel
theorem dL_withdraw_15 : decode cL_withdraw 15 = .ok (.lconst 0, 1) := by decide +kernel
theorem dL_withdraw_16 : decode cL_withdraw 16 = .ok (.lastore, 1) := by decide +kernel
theorem dL_withdraw_17 : decode cL_withdraw 17 = .ok (.goto 7, 3) := by decide +kernel
theorem dL_withdraw_20 : decode cL_withdraw 20 = .ok (.astore 4, 2) := by decide +kernel
theorem dL_withdraw_22 : decode cL_withdraw 22 = .ok (.iconst 1, 1) := by decide +kernel
theorem dL_withdraw_23 : decode cL_withdraw 23 = .ok (.ireturn, 1) := by decide +kernel
theorem dL_withdraw_24 : decode cL_withdraw 24 = .ok (.iconst 0, 1) := by decide +kernel
theorem dL_withdraw_25 : decode cL_withdraw 25 = .ok (.ireturn, 1) := by decide +kernel
theorem dL_clean_0 : decode cL_clean 0 = .ok (.aload_n 2, 1) := by decide +kernel
theorem dL_clean_1 : decode cL_clean 1 = .ok (.iconst 0, 1) := by decide +kernel
theorem dL_clean_2 : decode cL_clean 2 = .ok (.aload_n 0, 1) := by decide +kernel
theorem dL_clean_3 : decode cL_clean 3 = .ok (.iload_n 1, 1) := by decide +kernel
theorem dL_clean_4 : decode cL_clean 4 = .ok (.invokevirtual 31, 3) := by decide +kernel
theorem dL_clean_7 : decode cL_clean 7 = .ok (.i2l, 1) := by decide +kernel
theorem dL_clean_8 : decode cL_clean 8 = .ok (.lastore, 1) := by decide +kernel
theorem dL_clean_9 : decode cL_clean 9 = .ok (.goto 6, 3) := by decide +kernel
theorem dL_clean_12 : decode cL_clean 12 = .ok (.astore_n 3, 1) := by decide +kernel
theorem dL_clean_13 : decode cL_clean 13 = .ok (.iconst 1, 1) := by decide +kernel
theorem dL_clean_14 : decode cL_clean 14 = .ok (.ireturn, 1) := by decide +kernel
theorem dL_clean_15 : decode cL_clean 15 = .ok (.iconst 0, 1) := by decide +kernel
theorem dL_clean_16 : decode cL_clean 16 = .ok (.ireturn, 1) := by decide +kernel
theorem dL_go_0 : decode cL_go 0 = .ok (.aload_n 2, 1) := by decide +kernel
theorem dL_go_1 : decode cL_go 1 = .ok (.iconst 0, 1) := by decide +kernel
theorem dL_go_2 : decode cL_go 2 = .ok (.aload_n 0, 1) := by decide +kernel
theorem dL_go_3 : decode cL_go 3 = .ok (.iload_n 1, 1) := by decide +kernel
theorem dL_go_4 : decode cL_go 4 = .ok (.invokevirtual 35, 3) := by decide +kernel
theorem dL_go_7 : decode cL_go 7 = .ok (.i2l, 1) := by decide +kernel
theorem dL_go_8 : decode cL_go 8 = .ok (.lastore, 1) := by decide +kernel
theorem dL_go_9 : decode cL_go 9 = .ok (.goto 9, 3) := by decide +kernel
theorem dL_go_12 : decode cL_go 12 = .ok (.astore_n 3, 1) := by decide +kernel
theorem dL_go_13 : decode cL_go 13 = .ok (.iconst 1, 1) := by decide +kernel
theorem dL_go_14 : decode cL_go 14 = .ok (.ireturn, 1) := by decide +kernel
theorem dL_go_15 : decode cL_go 15 = .ok (.astore_n 3, 1) := by decide +kernel
theorem dL_go_16 : decode cL_go 16 = .ok (.iconst 2, 1) := by decide +kernel
theorem dL_go_17 : decode cL_go 17 = .ok (.ireturn, 1) := by decide +kernel
theorem dL_go_18 : decode cL_go 18 = .ok (.iconst 0, 1) := by decide +kernel
theorem dL_go_19 : decode cL_go 19 = .ok (.ireturn, 1) := by decide +kernel
theorem dL_height_0 : decode cL_height 0 = .ok (.aload_n 2, 1) := by decide +kernel
theorem dL_height_1 : decode cL_height 1 = .ok (.iconst 0, 1) := by decide +kernel
theorem dL_height_2 : decode cL_height 2 = .ok (.aload_n 0, 1) := by decide +kernel
theorem dL_height_3 : decode cL_height 3 = .ok (.iload_n 1, 1) := by decide +kernel
theorem dL_height_4 : decode cL_height 4 = .ok (.invokevirtual 38, 3) := by decide +kernel
theorem dL_height_7 : decode cL_height 7 = .ok (.lastore, 1) := by decide +kernel
theorem dL_height_8 : decode cL_height 8 = .ok (.goto 6, 3) := by decide +kernel
theorem dL_height_11 : decode cL_height 11 = .ok (.astore_n 3, 1) := by decide +kernel
theorem dL_height_12 : decode cL_height 12 = .ok (.iconst 1, 1) := by decide +kernel
theorem dL_height_13 : decode cL_height 13 = .ok (.ireturn, 1) := by decide +kernel
theorem dL_height_14 : decode cL_height 14 = .ok (.iconst 0, 1) := by decide +kernel
theorem dL_height_15 : decode cL_height 15 = .ok (.ireturn, 1) := by decide +kernel
theorem dL_heightAnew_0 : decode cL_heightAnew 0 = .ok (.aload_n 2, 1) := by decide +kernel
theorem dL_heightAnew_1 : decode cL_heightAnew 1 = .ok (.iconst 0, 1) := by decide +kernel
theorem dL_heightAnew_2 : decode cL_heightAnew 2 = .ok (.aload_n 0, 1) := by decide +kernel
theorem dL_heightAnew_3 : decode cL_heightAnew 3 = .ok (.iload_n 1, 1) := by decide +kernel
theorem dL_heightAnew_4 : decode cL_heightAnew 4 = .ok (.invokevirtual 42, 3) := by decide +kernel
theorem dL_heightAnew_7 : decode cL_heightAnew 7 = .ok (.lastore, 1) := by decide +kernel
theorem dL_heightAnew_8 : decode cL_heightAnew 8 = .ok (.goto 6, 3) := by decide +kernel
theorem dL_heightAnew_11 : decode cL_heightAnew 11 = .ok (.astore_n 3, 1) := by decide +kernel
theorem dL_heightAnew_12 : decode cL_heightAnew 12 = .ok (.iconst 1, 1) := by decide +kernel
theorem dL_heightAnew_13 : decode cL_heightAnew 13 = .ok (.ireturn, 1) := by decide +kernel
theorem dL_heightAnew_14 : decode cL_heightAnew 14 = .ok (.iconst 0, 1) := by decide +kernel
theorem dL_heightAnew_15 : decode cL_heightAnew 15 = .ok (.ireturn, 1) := by decide +kernel
theorem dL_free_0 : decode cL_free 0 = .ok (.aload_n 2, 1) := by decide +kernel
theorem dL_free_1 : decode cL_free 1 = .ok (.iconst 0, 1) := by decide +kernel
theorem dL_free_2 : decode cL_free 2 = .ok (.aload_n 0, 1) := by decide +kernel
theorem dL_free_3 : decode cL_free 3 = .ok (.iload_n 1, 1) := by decide +kernel
theorem dL_free_4 : decode cL_free 4 = .ok (.invokevirtual 45, 3) := by decide +kernel
theorem dL_free_7 : decode cL_free 7 = .ok (.lastore, 1) := by decide +kernel
theorem dL_free_8 : decode cL_free 8 = .ok (.goto 6, 3) := by decide +kernel
theorem dL_free_11 : decode cL_free 11 = .ok (.astore_n 3, 1) := by decide +kernel
theorem dL_free_12 : decode cL_free 12 = .ok (.iconst 1, 1) := by decide +kernel
theorem dL_free_13 : decode cL_free 13 = .ok (.ireturn, 1) := by decide +kernel
theorem dL_free_14 : decode cL_free 14 = .ok (.iconst 0, 1) := by decide +kernel
theorem dL_free_15 : decode cL_free 15 = .ok (.ireturn, 1) := by decide +kernel
theorem dL_residual_0 : decode cL_residual 0 = .ok (.aload_n 2, 1) := by decide +kernel
theorem dL_residual_1 : decode cL_residual 1 = .ok (.iconst 0, 1) := by decide +kernel
theorem dL_residual_2 : decode cL_residual 2 = .ok (.aload_n 0, 1) := by decide +kernel
theorem dL_residual_3 : decode cL_residual 3 = .ok (.iload_n 1, 1) := by decide +kernel
theorem dL_residual_4 : decode cL_residual 4 = .ok (.invokevirtual 48, 3) := by decide +kernel
theorem dL_residual_7 : decode cL_residual 7 = .ok (.lastore, 1) := by decide +kernel
theorem dL_residual_8 : decode cL_residual 8 = .ok (.goto 9, 3) := by decide +kernel
theorem dL_residual_11 : decode cL_residual 11 = .ok (.astore_n 3, 1) := by decide +kernel
theorem dL_residual_12 : decode cL_residual 12 = .ok (.iconst 1, 1) := by decide +kernel
theorem dL_residual_13 : decode cL_residual 13 = .ok (.ireturn, 1) := by decide +kernel
theorem dL_residual_14 : decode cL_residual 14 = .ok (.astore_n 3, 1) := by decide +kernel
theorem dL_residual_15 : decode cL_residual 15 = .ok (.iconst 2, 1) := by decide +kernel
theorem dL_residual_16 : decode cL_residual 16 = .ok (.ireturn, 1) := by decide +kernel
theorem dL_residual_17 : decode cL_residual 17 = .ok (.iconst 0, 1) := by decide +kernel
theorem dL_residual_18 : decode cL_residual 18 = .ok (.ireturn, 1) := by decide +kernel
theorem dL_check_0 : decode cL_check 0 = .ok (.aload_n 2, 1) := by decide +kernel
theorem dL_check_1 : decode cL_check 1 = .ok (.iconst 0, 1) := by decide +kernel
theorem dL_check_2 : decode cL_check 2 = .ok (.aload_n 0, 1) := by decide +kernel
theorem dL_check_3 : decode cL_check 3 = .ok (.iload_n 1, 1) := by decide +kernel
theorem dL_check_4 : decode cL_check 4 = .ok (.invokevirtual 51, 3) := by decide +kernel
theorem dL_check_7 : decode cL_check 7 = .ok (.i2l, 1) := by decide +kernel
theorem dL_check_8 : decode cL_check 8 = .ok (.lastore, 1) := by decide +kernel
theorem dL_check_9 : decode cL_check 9 = .ok (.goto 9, 3) := by decide +kernel
theorem dL_check_12 : decode cL_check 12 = .ok (.astore_n 3, 1) := by decide +kernel
theorem dL_check_13 : decode cL_check 13 = .ok (.iconst 1, 1) := by decide +kernel
theorem dL_check_14 : decode cL_check 14 = .ok (.ireturn, 1) := by decide +kernel
theorem dL_check_15 : decode cL_check 15 = .ok (.astore_n 3, 1) := by decide +kernel
theorem dL_check_16 : decode cL_check 16 = .ok (.iconst 2, 1) := by decide +kernel
theorem dL_check_17 : decode cL_check 17 = .ok (.ireturn, 1) := by decide +kernel
theorem dL_check_18 : decode cL_check 18 = .ok (.iconst 0, 1) := by decide +kernel
theorem dL_check_19 : decode cL_check 19 = .ok (.ireturn, 1) := by decide +kernel
theorem dL_checkAnew_0 : decode cL_checkAnew 0 = .ok (.aload_n 2, 1) := by decide +kernel
theorem dL_checkAnew_1 : decode cL_checkAnew 1 = .ok (.iconst 0, 1) := by decide +kernel
theorem dL_checkAnew_2 : decode cL_checkAnew 2 = .ok (.aload_n 0, 1) := by decide +kernel
theorem dL_checkAnew_3 : decode cL_checkAnew 3 = .ok (.iload_n 1, 1) := by decide +kernel
theorem dL_checkAnew_4 : decode cL_checkAnew 4 = .ok (.invokevirtual 54, 3) := by decide +kernel
theorem dL_checkAnew_7 : decode cL_checkAnew 7 = .ok (.i2l, 1) := by decide +kernel
theorem dL_checkAnew_8 : decode cL_checkAnew 8 = .ok (.lastore, 1) := by decide +kernel
theorem dL_checkAnew_9 : decode cL_checkAnew 9 = .ok (.goto 9, 3) := by decide +kernel
theorem dL_checkAnew_12 : decode cL_checkAnew 12 = .ok (.astore_n 3, 1) := by decide +kernel
theorem dL_checkAnew_13 : decode cL_checkAnew 13 = .ok (.iconst 1, 1) := by decide +kernel
theorem dL_checkAnew_14 : decode cL_checkAnew 14 = .ok (.ireturn, 1) := by decide +kernel
theorem dL_checkAnew_15 : decode cL_checkAnew 15 = .ok (.astore_n 3, 1) := by decide +kernel
theorem dL_checkAnew_16 : decode cL_checkAnew 16 = .ok (.iconst 2, 1) := by decide +kernel
theorem dL_checkAnew_17 : decode cL_checkAnew 17 = .ok (.ireturn, 1) := by decide +kernel
theorem dL_checkAnew_18 : decode cL_checkAnew 18 = .ok (.iconst 0, 1) := by decide +kernel
theorem dL_checkAnew_19 : decode cL_checkAnew 19 = .ok (.ireturn, 1) := by decide +kernel
theorem dL_score_0 : decode cL_score 0 = .ok (.aload_n 2, 1) := by decide +kernel
theorem dL_score_1 : decode cL_score 1 = .ok (.iconst 0, 1) := by decide +kernel
theorem dL_score_2 : decode cL_score 2 = .ok (.aload_n 0, 1) := by decide +kernel
theorem dL_score_3 : decode cL_score 3 = .ok (.iload_n 1, 1) := by decide +kernel
theorem dL_score_4 : decode cL_score 4 = .ok (.invokevirtual 57, 3) := by decide +kernel
theorem dL_score_7 : decode cL_score 7 = .ok (.lastore, 1) := by decide +kernel
theorem dL_score_8 : decode cL_score 8 = .ok (.goto 9, 3) := by decide +kernel
theorem dL_score_11 : decode cL_score 11 = .ok (.astore_n 3, 1) := by decide +kernel
theorem dL_score_12 : decode cL_score 12 = .ok (.iconst 1, 1) := by decide +kernel
theorem dL_score_13 : decode cL_score 13 = .ok (.ireturn, 1) := by decide +kernel
theorem dL_score_14 : decode cL_score 14 = .ok (.astore_n 3, 1) := by decide +kernel
theorem dL_score_15 : decode cL_score 15 = .ok (.iconst 2, 1) := by decide +kernel
theorem dL_score_16 : decode cL_score 16 = .ok (.ireturn, 1) := by decide +kernel
theorem dL_score_17 : decode cL_score 17 = .ok (.iconst 0, 1) := by decide +kernel
theorem dL_score_18 : decode cL_score 18 = .ok (.ireturn, 1) := by decide +kernel
theorem dL_trees_0 : decode cL_trees 0 = .ok (.aload_n 2, 1) := by decide +kernel
theorem dL_trees_1 : decode cL_trees 1 = .ok (.iconst 0, 1) := by decide +kernel
theorem dL_trees_2 : decode cL_trees 2 = .ok (.aload_n 0, 1) := by decide +kernel
theorem dL_trees_3 : decode cL_trees 3 = .ok (.iload_n 1, 1) := by decide +kernel
theorem dL_trees_4 : decode cL_trees 4 = .ok (.invokevirtual 60, 3) := by decide +kernel
theorem dL_trees_7 : decode cL_trees 7 = .ok (.lastore, 1) := by decide +kernel
theorem dL_trees_8 : decode cL_trees 8 = .ok (.goto 6, 3) := by decide +kernel
theorem dL_trees_11 : decode cL_trees 11 = .ok (.astore_n 3, 1) := by decide +kernel
theorem dL_trees_12 : decode cL_trees 12 = .ok (.iconst 1, 1) := by decide +kernel
theorem dL_trees_13 : decode cL_trees 13 = .ok (.ireturn, 1) := by decide +kernel
theorem dL_trees_14 : decode cL_trees 14 = .ok (.iconst 0, 1) := by decide +kernel
theorem dL_trees_15 : decode cL_trees 15 = .ok (.ireturn, 1) := by decide +kernel
