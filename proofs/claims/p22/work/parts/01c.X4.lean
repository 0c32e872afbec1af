theorem dX4_init_0 : decode cX4_init 0 = .ok (.aload_n 0, 1) := by decide +kernel
theorem dX4_init_1 : decode cX4_init 1 = .ok (.invokespecial 1, 3) := by decide +kernel
theorem dX4_init_4 : decode cX4_init 4 = .ok (.aload_n 0, 1) := by decide +kernel
theorem dX4_init_5 : decode cX4_init 5 = .ok (.new 7, 3) := by decide +kernel
theorem dX4_init_8 : decode cX4_init 8 = .ok (.dup, 1) := by decide +kernel
theorem dX4_init_9 : decode cX4_init 9 = .ok (.invokespecial 9, 3) := by decide +kernel
theorem dX4_init_12 : decode cX4_init 12 = .ok (.putfield 10, 3) := by decide +kernel
theorem dX4_init_15 : decode cX4_init 15 = .ok (.aload_n 0, 1) := by decide +kernel
theorem dX4_init_16 : decode cX4_init 16 = .ok (.new 16, 3) := by decide +kernel
theorem dX4_init_19 : decode cX4_init 19 = .ok (.dup, 1) := by decide +kernel
theorem dX4_init_20 : decode cX4_init 20 = .ok (.aload_n 0, 1) := by decide +kernel
theorem dX4_init_21 : decode cX4_init 21 = .ok (.getfield 10, 3) := by decide +kernel
theorem dX4_init_24 : decode cX4_init 24 = .ok (.invokespecial 18, 3) := by decide +kernel
theorem dX4_init_27 : decode cX4_init 27 = .ok (.putfield 21, 3) := by decide +kernel
theorem dX4_init_30 : decode cX4_init 30 = .ok (.aload_n 0, 1) := by decide +kernel
theorem dX4_init_31 : decode cX4_init 31 = .ok (.new 25, 3) := by decide +kernel
theorem dX4_init_34 : decode cX4_init 34 = .ok (.dup, 1) := by decide +kernel
theorem dX4_init_35 : decode cX4_init 35 = .ok (.aload_n 0, 1) := by decide +kernel
theorem dX4_init_36 : decode cX4_init 36 = .ok (.getfield 10, 3) := by decide +kernel
theorem dX4_init_39 : decode cX4_init 39 = .ok (.invokespecial 27, 3) := by decide +kernel
theorem dX4_init_42 : decode cX4_init 42 = .ok (.putfield 28, 3) := by decide +kernel
theorem dX4_init_45 : decode cX4_init 45 = .ok (.aload_n 0, 1) := by decide +kernel
theorem dX4_init_46 : decode cX4_init 46 = .ok (.new 32, 3) := by decide +kernel
theorem dX4_init_49 : decode cX4_init 49 = .ok (.dup, 1) := by decide +kernel
theorem dX4_init_50 : decode cX4_init 50 = .ok (.invokespecial 34, 3) := by decide +kernel
theorem dX4_init_53 : decode cX4_init 53 = .ok (.putfield 35, 3) := by decide +kernel
theorem dX4_init_56 : decode cX4_init 56 = .ok (.return_, 1) := by decide +kernel
set_option maxRecDepth 20000 in
theorem ggX4_station_X1_addStation : GoodIn wsX4_station wsX1_addStation := goodIn_r _ [9, 10, 11, 12, 13, 8, 14, 15, 16, 17, 18, 19, 20, 21, 22, 23, 24, 25, 26, 27, 28, 29, 30, 35, 36, 37, 38, 39, 40, 41, 42, 43, 44] (by decide +kernel) (by decide +kernel)
set_option maxRecDepth 20000 in
theorem gX4_station_X1_addStation : GoodIn wsX4_station (wsV RX4 50 RX1 yX1_addStation wsX1_addStation) := goodIn_app (goodIn_of _ (by decide +kernel)) ggX4_station_X1_addStation
theorem dX4_station_0 : decode cX4_station 0 = .ok (.aload_n 0, 1) := by decide +kernel
theorem dX4_station_1 : decode cX4_station 1 = .ok (.getfield 10, 3) := by decide +kernel
theorem dX4_station_4 : decode cX4_station 4 = .ok (.getfield 39, 3) := by decide +kernel
theorem dX4_station_7 : decode cX4_station 7 = .ok (.bipush 6, 2) := by decide +kernel
theorem dX4_station_9 : decode cX4_station 9 = .ok (.if_icmp .lt 13, 3) := by decide +kernel
theorem dX4_station_12 : decode cX4_station 12 = .ok (.new 43, 3) := by decide +kernel
theorem dX4_station_15 : decode cX4_station 15 = .ok (.dup, 1) := by decide +kernel
theorem dX4_station_16 : decode cX4_station 16 = .ok (.ldc 45, 2) := by decide +kernel
theorem dX4_station_18 : decode cX4_station 18 = .ok (.invokespecial 47, 3) := by decide +kernel
theorem dX4_station_21 : decode cX4_station 21 = .ok (.athrow, 1) := by decide +kernel
theorem dX4_station_22 : decode cX4_station 22 = .ok (.aload_n 0, 1) := by decide +kernel
theorem dX4_station_23 : decode cX4_station 23 = .ok (.getfield 10, 3) := by decide +kernel
theorem dX4_station_26 : decode cX4_station 26 = .ok (.invokevirtual 50, 3) := by decide +kernel
theorem dX4_station_29 : decode cX4_station 29 = .ok (.ireturn, 1) := by decide +kernel
set_option maxRecDepth 20000 in
theorem ggX4_datum_X4_needStation : GoodIn wsX4_datum wsX4_needStation := goodIn_ca (goodIn_r _ [8, 9, 10, 3, 11, 12, 13, 14, 15, 16, 26, 27, 28, 29, 30, 31, 32, 33, 34, 35, 36, 37, 38, 39] (by decide +kernel) (by decide +kernel)) (goodIn_sub (fun _ h => List.mem_cons_of_mem _ (List.mem_append_right _ h)) (by decide +kernel))
set_option maxRecDepth 20000 in
theorem gX4_datum_X4_needStation : GoodIn wsX4_datum (wsV RX4 54 RX4 yX4_needStation wsX4_needStation) := goodIn_app (goodIn_of _ (by decide +kernel)) ggX4_datum_X4_needStation
set_option maxRecDepth 20000 in
theorem ggX4_datum_X4_isBeyond : GoodIn wsX4_datum wsX4_isBeyond := goodIn_r _ [19] (by decide +kernel) (by decide +kernel)
set_option maxRecDepth 20000 in
theorem gX4_datum_X4_isBeyond : GoodIn wsX4_datum (va_wsS RX4 58 yX4_isBeyond wsX4_isBeyond) := goodIn_app (goodIn_of _ (by decide +kernel)) ggX4_datum_X4_isBeyond
set_option maxRecDepth 20000 in
theorem ggX4_datum_X1_tellHeight : GoodIn wsX4_datum wsX1_tellHeight := goodIn_r _ [23, 24, 25, 30, 31, 32, 33, 34, 35, 36, 37, 38, 39] (by decide +kernel) (by decide +kernel)
set_option maxRecDepth 20000 in
theorem gX4_datum_X1_tellHeight : GoodIn wsX4_datum (wsV RX4 67 RX1 yX1_tellHeight wsX1_tellHeight) := goodIn_app (goodIn_of _ (by decide +kernel)) ggX4_datum_X1_tellHeight
theorem dX4_datum_0 : decode cX4_datum 0 = .ok (.aload_n 0, 1) := by decide +kernel
theorem dX4_datum_1 : decode cX4_datum 1 = .ok (.iload_n 1, 1) := by decide +kernel
theorem dX4_datum_2 : decode cX4_datum 2 = .ok (.invokevirtual 54, 3) := by decide +kernel
theorem dX4_datum_5 : decode cX4_datum 5 = .ok (.iload_n 3, 1) := by decide +kernel
theorem dX4_datum_6 : decode cX4_datum 6 = .ok (.ifCond .eq 26, 3) := by decide +kernel
theorem dX4_datum_9 : decode cX4_datum 9 = .ok (.iload_n 2, 1) := by decide +kernel
theorem dX4_datum_10 : decode cX4_datum 10 = .ok (.sipush (-9999), 3) := by decide +kernel
theorem dX4_datum_13 : decode cX4_datum 13 = .ok (.sipush 9999, 3) := by decide +kernel
theorem dX4_datum_16 : decode cX4_datum 16 = .ok (.invokestatic 58, 3) := by decide +kernel
theorem dX4_datum_19 : decode cX4_datum 19 = .ok (.ifCond .eq 13, 3) := by decide +kernel
theorem dX4_datum_22 : decode cX4_datum 22 = .ok (.new 62, 3) := by decide +kernel
theorem dX4_datum_25 : decode cX4_datum 25 = .ok (.dup, 1) := by decide +kernel
theorem dX4_datum_26 : decode cX4_datum 26 = .ok (.ldc 64, 2) := by decide +kernel
theorem dX4_datum_28 : decode cX4_datum 28 = .ok (.invokespecial 66, 3) := by decide +kernel
theorem dX4_datum_31 : decode cX4_datum 31 = .ok (.athrow, 1) := by decide +kernel
theorem dX4_datum_32 : decode cX4_datum 32 = .ok (.aload_n 0, 1) := by decide +kernel
theorem dX4_datum_33 : decode cX4_datum 33 = .ok (.getfield 10, 3) := by decide +kernel
theorem dX4_datum_36 : decode cX4_datum 36 = .ok (.iload_n 1, 1) := by decide +kernel
theorem dX4_datum_37 : decode cX4_datum 37 = .ok (.iload_n 2, 1) := by decide +kernel
theorem dX4_datum_38 : decode cX4_datum 38 = .ok (.iload_n 3, 1) := by decide +kernel
theorem dX4_datum_39 : decode cX4_datum 39 = .ok (.invokevirtual 67, 3) := by decide +kernel
theorem dX4_datum_42 : decode cX4_datum 42 = .ok (.ireturn, 1) := by decide +kernel
set_option maxRecDepth 20000 in
theorem ggX4_observe_X4_needStation : GoodIn wsX4_observe wsX4_needStation := goodIn_ca (goodIn_r _ [11, 12, 13, 5, 14, 15, 16, 17, 18, 19, 49, 50, 51, 52, 53, 54, 55, 56, 57, 58, 59, 60, 61, 62] (by decide +kernel) (by decide +kernel)) (goodIn_sub (fun _ h => List.mem_cons_of_mem _ (List.mem_append_right _ h)) (by decide +kernel))
set_option maxRecDepth 20000 in
theorem gX4_observe_X4_needStation : GoodIn wsX4_observe (wsV RX4 54 RX4 yX4_needStation wsX4_needStation) := goodIn_app (goodIn_of _ (by decide +kernel)) ggX4_observe_X4_needStation
set_option maxRecDepth 20000 in
theorem ggX4_observe_X4_isBeyond : GoodIn wsX4_observe wsX4_isBeyond := goodIn_r _ [22] (by decide +kernel) (by decide +kernel)
set_option maxRecDepth 20000 in
theorem gX4_observe_X4_isBeyond : GoodIn wsX4_observe (va_wsS RX4 58 yX4_isBeyond wsX4_isBeyond) := goodIn_app (goodIn_of _ (by decide +kernel)) ggX4_observe_X4_isBeyond
set_option maxRecDepth 20000 in
theorem ggX4_observe_X1_addObservation : GoodIn wsX4_observe wsX1_addObservation := goodIn_r _ [26, 27, 28, 29, 30, 31, 32, 33, 34, 17, 35, 19, 36, 37, 38, 39, 40, 41, 42, 43, 44, 45, 46, 47, 48, 53, 54, 55, 56, 57, 58, 59, 60, 61, 62] (by decide +kernel) (by decide +kernel)
set_option maxRecDepth 20000 in
theorem gX4_observe_X1_addObservation : GoodIn wsX4_observe (wsV RX4 82 RX1 yX1_addObservation wsX1_addObservation) := goodIn_app (goodIn_of _ (by decide +kernel)) ggX4_observe_X1_addObservation
theorem dX4_observe_0 : decode cX4_observe 0 = .ok (.aload_n 0, 1) := by decide +kernel
theorem dX4_observe_1 : decode cX4_observe 1 = .ok (.iload_n 1, 1) := by decide +kernel
theorem dX4_observe_2 : decode cX4_observe 2 = .ok (.invokevirtual 54, 3) := by decide +kernel
theorem dX4_observe_5 : decode cX4_observe 5 = .ok (.aload_n 0, 1) := by decide +kernel
theorem dX4_observe_6 : decode cX4_observe 6 = .ok (.iload_n 2, 1) := by decide +kernel
theorem dX4_observe_7 : decode cX4_observe 7 = .ok (.invokevirtual 54, 3) := by decide +kernel
theorem dX4_observe_10 : decode cX4_observe 10 = .ok (.iload_n 1, 1) := by decide +kernel
theorem dX4_observe_11 : decode cX4_observe 11 = .ok (.iload_n 2, 1) := by decide +kernel
theorem dX4_observe_12 : decode cX4_observe 12 = .ok (.if_icmp .ne 13, 3) := by decide +kernel
theorem dX4_observe_15 : decode cX4_observe 15 = .ok (.new 62, 3) := by decide +kernel
theorem dX4_observe_18 : decode cX4_observe 18 = .ok (.dup, 1) := by decide +kernel
theorem dX4_observe_19 : decode cX4_observe 19 = .ok (.ldc 71, 2) := by decide +kernel
theorem dX4_observe_21 : decode cX4_observe 21 = .ok (.invokespecial 66, 3) := by decide +kernel
theorem dX4_observe_24 : decode cX4_observe 24 = .ok (.athrow, 1) := by decide +kernel
theorem dX4_observe_25 : decode cX4_observe 25 = .ok (.iload_n 3, 1) := by decide +kernel
theorem dX4_observe_26 : decode cX4_observe 26 = .ok (.sipush (-9999), 3) := by decide +kernel
theorem dX4_observe_29 : decode cX4_observe 29 = .ok (.sipush 9999, 3) := by decide +kernel
theorem dX4_observe_32 : decode cX4_observe 32 = .ok (.invokestatic 58, 3) := by decide +kernel
theorem dX4_observe_35 : decode cX4_observe 35 = .ok (.ifCond .eq 13, 3) := by decide +kernel
theorem dX4_observe_38 : decode cX4_observe 38 = .ok (.new 62, 3) := by decide +kernel
theorem dX4_observe_41 : decode cX4_observe 41 = .ok (.dup, 1) := by decide +kernel
theorem dX4_observe_42 : decode cX4_observe 42 = .ok (.ldc 73, 2) := by decide +kernel
theorem dX4_observe_44 : decode cX4_observe 44 = .ok (.invokespecial 66, 3) := by decide +kernel
theorem dX4_observe_47 : decode cX4_observe 47 = .ok (.athrow, 1) := by decide +kernel
theorem dX4_observe_48 : decode cX4_observe 48 = .ok (.iload 4, 2) := by decide +kernel
theorem dX4_observe_50 : decode cX4_observe 50 = .ok (.iconst 1, 1) := by decide +kernel
theorem dX4_observe_51 : decode cX4_observe 51 = .ok (.iconst 5, 1) := by decide +kernel
theorem dX4_observe_52 : decode cX4_observe 52 = .ok (.invokestatic 58, 3) := by decide +kernel
theorem dX4_observe_55 : decode cX4_observe 55 = .ok (.ifCond .eq 13, 3) := by decide +kernel
theorem dX4_observe_58 : decode cX4_observe 58 = .ok (.new 62, 3) := by decide +kernel
theorem dX4_observe_61 : decode cX4_observe 61 = .ok (.dup, 1) := by decide +kernel
theorem dX4_observe_62 : decode cX4_observe 62 = .ok (.ldc 75, 2) := by decide +kernel
theorem dX4_observe_64 : decode cX4_observe 64 = .ok (.invokespecial 66, 3) := by decide +kernel
theorem dX4_observe_67 : decode cX4_observe 67 = .ok (.athrow, 1) := by decide +kernel
theorem dX4_observe_68 : decode cX4_observe 68 = .ok (.aload_n 0, 1) := by decide +kernel
theorem dX4_observe_69 : decode cX4_observe 69 = .ok (.getfield 10, 3) := by decide +kernel
theorem dX4_observe_72 : decode cX4_observe 72 = .ok (.getfield 77, 3) := by decide +kernel
theorem dX4_observe_75 : decode cX4_observe 75 = .ok (.bipush 14, 2) := by decide +kernel
theorem dX4_observe_77 : decode cX4_observe 77 = .ok (.if_icmp .lt 13, 3) := by decide +kernel
theorem dX4_observe_80 : decode cX4_observe 80 = .ok (.new 43, 3) := by decide +kernel
theorem dX4_observe_83 : decode cX4_observe 83 = .ok (.dup, 1) := by decide +kernel
theorem dX4_observe_84 : decode cX4_observe 84 = .ok (.ldc 80, 2) := by decide +kernel
theorem dX4_observe_86 : decode cX4_observe 86 = .ok (.invokespecial 47, 3) := by decide +kernel
theorem dX4_observe_89 : decode cX4_observe 89 = .ok (.athrow, 1) := by decide +kernel
theorem dX4_observe_90 : decode cX4_observe 90 = .ok (.aload_n 0, 1) := by decide +kernel
theorem dX4_observe_91 : decode cX4_observe 91 = .ok (.getfield 10, 3) := by decide +kernel
theorem dX4_observe_94 : decode cX4_observe 94 = .ok (.iload_n 1, 1) := by decide +kernel
theorem dX4_observe_95 : decode cX4_observe 95 = .ok (.iload_n 2, 1) := by decide +kernel
theorem dX4_observe_96 : decode cX4_observe 96 = .ok (.iload_n 3, 1) := by decide +kernel
theorem dX4_observe_97 : decode cX4_observe 97 = .ok (.iload 4, 2) := by decide +kernel
theorem dX4_observe_99 : decode cX4_observe 99 = .ok (.invokevirtual 82, 3) := by decide +kernel
theorem dX4_observe_102 : decode cX4_observe 102 = .ok (.ireturn, 1) := by decide +kernel
set_option maxRecDepth 20000 in
theorem ggX4_withdraw_X4_needObservation : GoodIn wsX4_withdraw wsX4_needObservation := goodIn_ca (goodIn_r _ [6, 7, 8, 1, 9, 10, 11, 12, 13, 14, 39, 40, 41, 42, 43, 44, 45, 46, 47, 48, 49, 50, 51, 52] (by decide +kernel) (by decide +kernel)) (goodIn_sub (fun _ h => List.mem_cons_of_mem _ (List.mem_append_right _ h)) (by decide +kernel))
set_option maxRecDepth 20000 in
theorem gX4_withdraw_X4_needObservation : GoodIn wsX4_withdraw (wsV RX4 86 RX4 yX4_needObservation wsX4_needObservation) := goodIn_app (goodIn_of _ (by decide +kernel)) ggX4_withdraw_X4_needObservation
set_option maxRecDepth 20000 in
theorem ggX4_withdraw_X1_setWithdrawn : GoodIn wsX4_withdraw wsX1_setWithdrawn := goodIn_r _ [18, 19, 20, 21, 22, 12, 23, 24, 25, 14, 26, 27, 28, 29, 30, 31, 32, 33, 34, 35, 36, 37, 38, 43, 44, 45, 46, 47, 48, 49, 50, 51, 52] (by decide +kernel) (by decide +kernel)
set_option maxRecDepth 20000 in
theorem gX4_withdraw_X1_setWithdrawn : GoodIn wsX4_withdraw (wsV RX4 89 RX1 yX1_setWithdrawn wsX1_setWithdrawn) := goodIn_app (goodIn_of _ (by decide +kernel)) ggX4_withdraw_X1_setWithdrawn
theorem dX4_withdraw_0 : decode cX4_withdraw 0 = .ok (.aload_n 0, 1) := by decide +kernel
theorem dX4_withdraw_1 : decode cX4_withdraw 1 = .ok (.iload_n 1, 1) := by decide +kernel
theorem dX4_withdraw_2 : decode cX4_withdraw 2 = .ok (.invokevirtual 86, 3) := by decide +kernel
theorem dX4_withdraw_5 : decode cX4_withdraw 5 = .ok (.aload_n 0, 1) := by decide +kernel
theorem dX4_withdraw_6 : decode cX4_withdraw 6 = .ok (.getfield 10, 3) := by decide +kernel
theorem dX4_withdraw_9 : decode cX4_withdraw 9 = .ok (.iload_n 1, 1) := by decide +kernel
theorem dX4_withdraw_10 : decode cX4_withdraw 10 = .ok (.iload_n 2, 1) := by decide +kernel
theorem dX4_withdraw_11 : decode cX4_withdraw 11 = .ok (.invokevirtual 89, 3) := by decide +kernel
theorem dX4_withdraw_14 : decode cX4_withdraw 14 = .ok (.ireturn, 1) := by decide +kernel
set_option maxRecDepth 20000 in
theorem ggX4_clean_X4_isBeyond : GoodIn wsX4_clean wsX4_isBeyond := goodIn_r _ [9] (by decide +kernel) (by decide +kernel)
set_option maxRecDepth 20000 in
theorem gX4_clean_X4_isBeyond : GoodIn wsX4_clean (va_wsS RX4 58 yX4_isBeyond wsX4_isBeyond) := goodIn_app (goodIn_of _ (by decide +kernel)) ggX4_clean_X4_isBeyond
set_option maxRecDepth 20000 in
theorem ggX4_clean_X0_worstObservation : GoodIn wsX4_clean wsX0_worstObservation := goodIn_r _ [14, 15, 16, 17, 18, 19, 20, 13, 21, 22, 23, 24, 25, 26, 27, 28, 29, 30, 31, 32, 33, 34, 35, 36, 37, 38, 39, 40, 41, 42, 43, 44, 45, 46, 47, 48, 49, 50, 51, 52, 53, 54, 55, 56, 57, 58, 59, 60, 61, 62, 63, 64, 65, 66, 67, 68, 69, 70, 71, 72, 73, 74, 75, 76, 77, 78, 79, 80, 81, 82, 83, 84, 85, 86, 87, 88, 89, 90, 91, 92, 8, 93, 94, 95, 96, 97, 98, 99, 100, 101, 102, 128, 129, 130, 131, 132, 133, 134, 135, 136, 137, 138, 139, 140, 141, 142, 143] (by decide +kernel) (by decide +kernel)
set_option maxRecDepth 20000 in
theorem gX4_clean_X0_worstObservation : GoodIn wsX4_clean (wsV RX4 96 RX0 yX0_worstObservation wsX0_worstObservation) := goodIn_app (goodIn_of _ (by decide +kernel)) ggX4_clean_X0_worstObservation
set_option maxRecDepth 20000 in
theorem ggX4_clean_X0_scoreOf : GoodIn wsX4_clean wsX0_scoreOf := goodIn_r _ [21, 22, 23, 24, 25, 26, 27, 15, 28, 29, 30, 31, 13, 32, 33, 34, 35, 36, 37, 38, 39, 40, 16, 41, 42, 43, 44, 45, 46, 47, 48, 49, 50, 51, 52, 53, 54, 55, 56, 57, 58, 59, 60, 61, 62, 63, 64, 65, 66, 67, 68, 69, 70, 71, 72, 73, 74, 75, 76, 77, 78, 79, 80, 81, 82, 83, 84, 85, 86, 87, 88, 89, 90, 91, 92, 8, 93, 94, 95, 96, 97, 98, 99, 100, 101, 102, 128, 129, 130, 131, 132, 133, 134, 135, 136, 137, 138, 139, 140, 141, 142, 143] (by decide +kernel) (by decide +kernel)
set_option maxRecDepth 20000 in
theorem gX4_clean_X0_scoreOf : GoodIn wsX4_clean (wsV RX4 99 RX0 yX0_scoreOf wsX0_scoreOf) := goodIn_app (goodIn_of _ (by decide +kernel)) ggX4_clean_X0_scoreOf
set_option maxRecDepth 20000 in
theorem ggX4_clean_X1_setWithdrawn : GoodIn wsX4_clean wsX1_setWithdrawn := goodIn_r _ [107, 70, 108, 109, 110, 44, 111, 46, 48, 112, 71, 113, 114, 115, 116, 117, 118, 119, 25, 120, 121, 122, 123, 134, 135, 136, 137, 138, 139, 140, 141, 142, 143] (by decide +kernel) (by decide +kernel)
set_option maxRecDepth 20000 in
theorem gX4_clean_X1_setWithdrawn : GoodIn wsX4_clean (wsV RX4 89 RX1 yX1_setWithdrawn wsX1_setWithdrawn) := goodIn_app (goodIn_of _ (by decide +kernel)) ggX4_clean_X1_setWithdrawn
theorem dX4_clean_0 : decode cX4_clean 0 = .ok (.iload_n 1, 1) := by decide +kernel
theorem dX4_clean_1 : decode cX4_clean 1 = .ok (.iconst 0, 1) := by decide +kernel
theorem dX4_clean_2 : decode cX4_clean 2 = .ok (.ldc 93, 2) := by decide +kernel
theorem dX4_clean_4 : decode cX4_clean 4 = .ok (.invokestatic 58, 3) := by decide +kernel
theorem dX4_clean_7 : decode cX4_clean 7 = .ok (.ifCond .eq 13, 3) := by decide +kernel
theorem dX4_clean_10 : decode cX4_clean 10 = .ok (.new 62, 3) := by decide +kernel
theorem dX4_clean_13 : decode cX4_clean 13 = .ok (.dup, 1) := by decide +kernel
theorem dX4_clean_14 : decode cX4_clean 14 = .ok (.ldc 94, 2) := by decide +kernel
theorem dX4_clean_16 : decode cX4_clean 16 = .ok (.invokespecial 66, 3) := by decide +kernel
theorem dX4_clean_19 : decode cX4_clean 19 = .ok (.athrow, 1) := by decide +kernel
theorem dX4_clean_20 : decode cX4_clean 20 = .ok (.iconst 0, 1) := by decide +kernel
theorem dX4_clean_21 : decode cX4_clean 21 = .ok (.istore_n 2, 1) := by decide +kernel
theorem dX4_clean_22 : decode cX4_clean 22 = .ok (.iload_n 2, 1) := by decide +kernel
theorem dX4_clean_23 : decode cX4_clean 23 = .ok (.bipush 14, 2) := by decide +kernel
theorem dX4_clean_25 : decode cX4_clean 25 = .ok (.if_icmp .ge 48, 3) := by decide +kernel
theorem dX4_clean_28 : decode cX4_clean 28 = .ok (.aload_n 0, 1) := by decide +kernel
theorem dX4_clean_29 : decode cX4_clean 29 = .ok (.getfield 21, 3) := by decide +kernel
theorem dX4_clean_32 : decode cX4_clean 32 = .ok (.invokevirtual 96, 3) := by decide +kernel
theorem dX4_clean_35 : decode cX4_clean 35 = .ok (.istore_n 3, 1) := by decide +kernel
theorem dX4_clean_36 : decode cX4_clean 36 = .ok (.iload_n 3, 1) := by decide +kernel
theorem dX4_clean_37 : decode cX4_clean 37 = .ok (.iconst (-1), 1) := by decide +kernel
theorem dX4_clean_38 : decode cX4_clean 38 = .ok (.if_icmp .eq 17, 3) := by decide +kernel
theorem dX4_clean_41 : decode cX4_clean 41 = .ok (.aload_n 0, 1) := by decide +kernel
theorem dX4_clean_42 : decode cX4_clean 42 = .ok (.getfield 21, 3) := by decide +kernel
theorem dX4_clean_45 : decode cX4_clean 45 = .ok (.iload_n 3, 1) := by decide +kernel
theorem dX4_clean_46 : decode cX4_clean 46 = .ok (.invokevirtual 99, 3) := by decide +kernel
theorem dX4_clean_49 : decode cX4_clean 49 = .ok (.iload_n 1, 1) := by decide +kernel
theorem dX4_clean_50 : decode cX4_clean 50 = .ok (.i2l, 1) := by decide +kernel
theorem dX4_clean_51 : decode cX4_clean 51 = .ok (.lcmp, 1) := by decide +kernel
theorem dX4_clean_52 : decode cX4_clean 52 = .ok (.ifCond .gt 5, 3) := by decide +kernel
theorem dX4_clean_55 : decode cX4_clean 55 = .ok (.iload_n 2, 1) := by decide +kernel
theorem dX4_clean_56 : decode cX4_clean 56 = .ok (.ireturn, 1) := by decide +kernel
theorem dX4_clean_57 : decode cX4_clean 57 = .ok (.aload_n 0, 1) := by decide +kernel
theorem dX4_clean_58 : decode cX4_clean 58 = .ok (.getfield 10, 3) := by decide +kernel
theorem dX4_clean_61 : decode cX4_clean 61 = .ok (.iload_n 3, 1) := by decide +kernel
theorem dX4_clean_62 : decode cX4_clean 62 = .ok (.iconst 1, 1) := by decide +kernel
theorem dX4_clean_63 : decode cX4_clean 63 = .ok (.invokevirtual 89, 3) := by decide +kernel
theorem dX4_clean_66 : decode cX4_clean 66 = .ok (.pop, 1) := by decide +kernel
theorem dX4_clean_67 : decode cX4_clean 67 = .ok (.iinc 2 1, 3) := by decide +kernel
theorem dX4_clean_70 : decode cX4_clean 70 = .ok (.goto (-48), 3) := by decide +kernel
theorem dX4_clean_73 : decode cX4_clean 73 = .ok (.bipush 14, 2) := by decide +kernel
theorem dX4_clean_75 : decode cX4_clean 75 = .ok (.ireturn, 1) := by decide +kernel
set_option maxRecDepth 20000 in
theorem ggX4_go_X4_needStation : GoodIn wsX4_go wsX4_needStation := goodIn_ca (goodIn_r _ [11, 12, 13, 5, 14, 15, 16, 17, 18, 19, 46, 47, 48, 49, 54, 55, 56, 57, 58, 59, 60, 61, 62, 63] (by decide +kernel) (by decide +kernel)) (goodIn_sub (fun _ h => List.mem_cons_of_mem _ (List.mem_append_right _ h)) (by decide +kernel))
set_option maxRecDepth 20000 in
theorem gX4_go_X4_needStation : GoodIn wsX4_go (wsV RX4 54 RX4 yX4_needStation wsX4_needStation) := goodIn_app (goodIn_of _ (by decide +kernel)) ggX4_go_X4_needStation
set_option maxRecDepth 20000 in
theorem ggX4_go_X2_begin : GoodIn wsX4_go wsX2_begin := goodIn_r _ [24, 25, 26, 27, 50, 51, 52, 53] (by decide +kernel) (by decide +kernel)
set_option maxRecDepth 20000 in
theorem gX4_go_X2_begin : GoodIn wsX4_go (wsV RX4 108 RX2 yX2_begin wsX2_begin) := goodIn_app (goodIn_of _ (by decide +kernel)) ggX4_go_X2_begin
set_option maxRecDepth 20000 in
theorem ggX4_go_X1_lowestBetween : GoodIn wsX4_go wsX1_lowestBetween := goodIn_r _ [31, 32, 33, 34, 35, 54, 55, 56, 57, 58, 59, 60, 61, 62, 63] (by decide +kernel) (by decide +kernel)
set_option maxRecDepth 20000 in
theorem gX4_go_X1_lowestBetween : GoodIn wsX4_go (wsV RX4 115 RX1 yX1_lowestBetween wsX1_lowestBetween) := goodIn_app (goodIn_of _ (by decide +kernel)) ggX4_go_X1_lowestBetween
set_option maxRecDepth 20000 in
theorem ggX4_go_X1_differenceFrom : GoodIn wsX4_go wsX1_differenceFrom := goodIn_r _ [39, 33, 40, 54, 55, 56, 57, 58, 59, 60, 61, 62, 63] (by decide +kernel) (by decide +kernel)
set_option maxRecDepth 20000 in
theorem gX4_go_X1_differenceFrom : GoodIn wsX4_go (wsV RX4 121 RX1 yX1_differenceFrom wsX1_differenceFrom) := goodIn_app (goodIn_of _ (by decide +kernel)) ggX4_go_X1_differenceFrom
set_option maxRecDepth 20000 in
theorem ggX4_go_X2_goOn : GoodIn wsX4_go wsX2_goOn := goodIn_r _ [44, 26, 45, 27, 50, 51, 52, 53] (by decide +kernel) (by decide +kernel)
set_option maxRecDepth 20000 in
theorem gX4_go_X2_goOn : GoodIn wsX4_go (wsV RX4 124 RX2 yX2_goOn wsX2_goOn) := goodIn_app (goodIn_of _ (by decide +kernel)) ggX4_go_X2_goOn
theorem dX4_go_0 : decode cX4_go 0 = .ok (.aload_n 0, 1) := by decide +kernel
theorem dX4_go_1 : decode cX4_go 1 = .ok (.iload_n 1, 1) := by decide +kernel
theorem dX4_go_2 : decode cX4_go 2 = .ok (.invokevirtual 54, 3) := by decide +kernel
theorem dX4_go_5 : decode cX4_go 5 = .ok (.aload_n 0, 1) := by decide +kernel
theorem dX4_go_6 : decode cX4_go 6 = .ok (.getfield 35, 3) := by decide +kernel
theorem dX4_go_9 : decode cX4_go 9 = .ok (.getfield 103, 3) := by decide +kernel
theorem dX4_go_12 : decode cX4_go 12 = .ok (.bipush 10, 2) := by decide +kernel
theorem dX4_go_14 : decode cX4_go 14 = .ok (.if_icmp .lt 13, 3) := by decide +kernel
theorem dX4_go_17 : decode cX4_go 17 = .ok (.new 43, 3) := by decide +kernel
theorem dX4_go_20 : decode cX4_go 20 = .ok (.dup, 1) := by decide +kernel
theorem dX4_go_21 : decode cX4_go 21 = .ok (.ldc 106, 2) := by decide +kernel
theorem dX4_go_23 : decode cX4_go 23 = .ok (.invokespecial 47, 3) := by decide +kernel
theorem dX4_go_26 : decode cX4_go 26 = .ok (.athrow, 1) := by decide +kernel
theorem dX4_go_27 : decode cX4_go 27 = .ok (.aload_n 0, 1) := by decide +kernel
theorem dX4_go_28 : decode cX4_go 28 = .ok (.getfield 35, 3) := by decide +kernel
theorem dX4_go_31 : decode cX4_go 31 = .ok (.getfield 103, 3) := by decide +kernel
theorem dX4_go_34 : decode cX4_go 34 = .ok (.ifCond .ne 12, 3) := by decide +kernel
theorem dX4_go_37 : decode cX4_go 37 = .ok (.aload_n 0, 1) := by decide +kernel
theorem dX4_go_38 : decode cX4_go 38 = .ok (.getfield 35, 3) := by decide +kernel
theorem dX4_go_41 : decode cX4_go 41 = .ok (.iload_n 1, 1) := by decide +kernel
theorem dX4_go_42 : decode cX4_go 42 = .ok (.invokevirtual 108, 3) := by decide +kernel
theorem dX4_go_45 : decode cX4_go 45 = .ok (.ireturn, 1) := by decide +kernel
theorem dX4_go_46 : decode cX4_go 46 = .ok (.aload_n 0, 1) := by decide +kernel
theorem dX4_go_47 : decode cX4_go 47 = .ok (.getfield 10, 3) := by decide +kernel
theorem dX4_go_50 : decode cX4_go 50 = .ok (.aload_n 0, 1) := by decide +kernel
theorem dX4_go_51 : decode cX4_go 51 = .ok (.getfield 35, 3) := by decide +kernel
theorem dX4_go_54 : decode cX4_go 54 = .ok (.getfield 112, 3) := by decide +kernel
theorem dX4_go_57 : decode cX4_go 57 = .ok (.iload_n 1, 1) := by decide +kernel
theorem dX4_go_58 : decode cX4_go 58 = .ok (.invokevirtual 115, 3) := by decide +kernel
theorem dX4_go_61 : decode cX4_go 61 = .ok (.istore_n 2, 1) := by decide +kernel
theorem dX4_go_62 : decode cX4_go 62 = .ok (.iload_n 2, 1) := by decide +kernel
theorem dX4_go_63 : decode cX4_go 63 = .ok (.iconst (-1), 1) := by decide +kernel
theorem dX4_go_64 : decode cX4_go 64 = .ok (.if_icmp .ne 13, 3) := by decide +kernel
theorem dX4_go_67 : decode cX4_go 67 = .ok (.new 43, 3) := by decide +kernel
theorem dX4_go_70 : decode cX4_go 70 = .ok (.dup, 1) := by decide +kernel
theorem dX4_go_71 : decode cX4_go 71 = .ok (.ldc 119, 2) := by decide +kernel
theorem dX4_go_73 : decode cX4_go 73 = .ok (.invokespecial 47, 3) := by decide +kernel
theorem dX4_go_76 : decode cX4_go 76 = .ok (.athrow, 1) := by decide +kernel
theorem dX4_go_77 : decode cX4_go 77 = .ok (.aload_n 0, 1) := by decide +kernel
theorem dX4_go_78 : decode cX4_go 78 = .ok (.getfield 35, 3) := by decide +kernel
theorem dX4_go_81 : decode cX4_go 81 = .ok (.iload_n 1, 1) := by decide +kernel
theorem dX4_go_82 : decode cX4_go 82 = .ok (.aload_n 0, 1) := by decide +kernel
theorem dX4_go_83 : decode cX4_go 83 = .ok (.getfield 10, 3) := by decide +kernel
theorem dX4_go_86 : decode cX4_go 86 = .ok (.aload_n 0, 1) := by decide +kernel
theorem dX4_go_87 : decode cX4_go 87 = .ok (.getfield 35, 3) := by decide +kernel
theorem dX4_go_90 : decode cX4_go 90 = .ok (.getfield 112, 3) := by decide +kernel
theorem dX4_go_93 : decode cX4_go 93 = .ok (.iload_n 2, 1) := by decide +kernel
theorem dX4_go_94 : decode cX4_go 94 = .ok (.invokevirtual 121, 3) := by decide +kernel
theorem dX4_go_97 : decode cX4_go 97 = .ok (.invokevirtual 124, 3) := by decide +kernel
theorem dX4_go_100 : decode cX4_go 100 = .ok (.ireturn, 1) := by decide +kernel
set_option maxRecDepth 20000 in
theorem ggX4_end_X2_clear : GoodIn wsX4_end wsX2_clear := goodIn_r _ [6, 7, 8, 13, 14, 15, 16] (by decide +kernel) (by decide +kernel)
set_option maxRecDepth 20000 in
theorem gX4_end_X2_clear : GoodIn wsX4_end (wsV RX4 127 RX2 yX2_clear wsX2_clear) := goodIn_app (goodIn_of _ (by decide +kernel)) ggX4_end_X2_clear
theorem dX4_end_0 : decode cX4_end 0 = .ok (.aload_n 0, 1) := by decide +kernel
theorem dX4_end_1 : decode cX4_end 1 = .ok (.getfield 35, 3) := by decide +kernel
theorem dX4_end_4 : decode cX4_end 4 = .ok (.invokevirtual 127, 3) := by decide +kernel
theorem dX4_end_7 : decode cX4_end 7 = .ok (.ireturn, 1) := by decide +kernel
theorem dX4_sum_0 : decode cX4_sum 0 = .ok (.aload_n 0, 1) := by decide +kernel
theorem dX4_sum_1 : decode cX4_sum 1 = .ok (.getfield 35, 3) := by decide +kernel
theorem dX4_sum_4 : decode cX4_sum 4 = .ok (.getfield 130, 3) := by decide +kernel
theorem dX4_sum_7 : decode cX4_sum 7 = .ok (.ireturn, 1) := by decide +kernel
theorem dX4_isClosed_0 : decode cX4_isClosed 0 = .ok (.aload_n 0, 1) := by decide +kernel
theorem dX4_isClosed_1 : decode cX4_isClosed 1 = .ok (.getfield 35, 3) := by decide +kernel
theorem dX4_isClosed_4 : decode cX4_isClosed 4 = .ok (.getfield 103, 3) := by decide +kernel
theorem dX4_isClosed_7 : decode cX4_isClosed 7 = .ok (.ifCond .le 34, 3) := by decide +kernel
theorem dX4_isClosed_10 : decode cX4_isClosed 10 = .ok (.aload_n 0, 1) := by decide +kernel
theorem dX4_isClosed_11 : decode cX4_isClosed 11 = .ok (.getfield 35, 3) := by decide +kernel
theorem dX4_isClosed_14 : decode cX4_isClosed 14 = .ok (.getfield 133, 3) := by decide +kernel
theorem dX4_isClosed_17 : decode cX4_isClosed 17 = .ok (.aload_n 0, 1) := by decide +kernel
theorem dX4_isClosed_18 : decode cX4_isClosed 18 = .ok (.getfield 35, 3) := by decide +kernel
theorem dX4_isClosed_21 : decode cX4_isClosed 21 = .ok (.getfield 112, 3) := by decide +kernel
theorem dX4_isClosed_24 : decode cX4_isClosed 24 = .ok (.if_icmp .ne 17, 3) := by decide +kernel
theorem dX4_isClosed_27 : decode cX4_isClosed 27 = .ok (.aload_n 0, 1) := by decide +kernel
theorem dX4_isClosed_28 : decode cX4_isClosed 28 = .ok (.getfield 35, 3) := by decide +kernel
theorem dX4_isClosed_31 : decode cX4_isClosed 31 = .ok (.getfield 130, 3) := by decide +kernel
theorem dX4_isClosed_34 : decode cX4_isClosed 34 = .ok (.ifCond .ne 7, 3) := by decide +kernel
theorem dX4_isClosed_37 : decode cX4_isClosed 37 = .ok (.iconst 1, 1) := by decide +kernel
theorem dX4_isClosed_38 : decode cX4_isClosed 38 = .ok (.goto 4, 3) := by decide +kernel
theorem dX4_isClosed_41 : decode cX4_isClosed 41 = .ok (.iconst 0, 1) := by decide +kernel
theorem dX4_isClosed_42 : decode cX4_isClosed 42 = .ok (.ireturn, 1) := by decide +kernel
set_option maxRecDepth 20000 in
theorem ggX4_height_X4_needStation : GoodIn wsX4_height wsX4_needStation := goodIn_ca (goodIn_r _ [6, 7, 8, 9, 10, 11, 12, 13, 14, 15, 90, 91, 92, 93, 94, 95, 96, 97, 98, 99, 100, 101, 102, 103] (by decide +kernel) (by decide +kernel)) (goodIn_sub (fun _ h => List.mem_cons_of_mem _ (List.mem_append_right _ h)) (by decide +kernel))
set_option maxRecDepth 20000 in
theorem gX4_height_X4_needStation : GoodIn wsX4_height (wsV RX4 54 RX4 yX4_needStation wsX4_needStation) := goodIn_app (goodIn_of _ (by decide +kernel)) ggX4_height_X4_needStation
set_option maxRecDepth 20000 in
theorem ggX4_height_X0_heightOf : GoodIn wsX4_height wsX0_heightOf := goodIn_r _ [20, 21, 22, 23, 24, 25, 26, 27, 28, 19, 29, 30, 31, 32, 33, 13, 34, 15, 35, 36, 37, 38, 39, 40, 41, 42, 43, 44, 45, 46, 47, 48, 49, 50, 51, 52, 53, 54, 55, 56, 57, 58, 59, 60, 61, 62, 63, 64, 65, 66, 67, 68, 69, 70, 71, 72, 73, 74, 75, 76, 77, 78, 79, 80, 81, 82, 83, 84, 5, 85, 86, 87, 88, 89, 104, 105, 106, 107, 108, 109, 94, 95, 96, 97, 98, 99, 100, 101, 102, 103] (by decide +kernel) (by decide +kernel)
set_option maxRecDepth 20000 in
theorem gX4_height_X0_heightOf : GoodIn wsX4_height (wsV RX4 136 RX0 yX0_heightOf wsX0_heightOf) := goodIn_app (goodIn_of _ (by decide +kernel)) ggX4_height_X0_heightOf
theorem dX4_height_0 : decode cX4_height 0 = .ok (.aload_n 0, 1) := by decide +kernel
theorem dX4_height_1 : decode cX4_height 1 = .ok (.iload_n 1, 1) := by decide +kernel
theorem dX4_height_2 : decode cX4_height 2 = .ok (.invokevirtual 54, 3) := by decide +kernel
theorem dX4_height_5 : decode cX4_height 5 = .ok (.aload_n 0, 1) := by decide +kernel
theorem dX4_height_6 : decode cX4_height 6 = .ok (.getfield 21, 3) := by decide +kernel
theorem dX4_height_9 : decode cX4_height 9 = .ok (.iload_n 1, 1) := by decide +kernel
theorem dX4_height_10 : decode cX4_height 10 = .ok (.invokevirtual 136, 3) := by decide +kernel
theorem dX4_height_13 : decode cX4_height 13 = .ok (.lreturn, 1) := by decide +kernel
set_option maxRecDepth 20000 in
theorem ggX4_heightAnew_X4_needStation : GoodIn wsX4_heightAnew wsX4_needStation := goodIn_ca (goodIn_r _ [6, 7, 8, 9, 10, 11, 12, 13, 14, 15, 84, 85, 86, 87, 88, 89, 90, 91, 92, 93, 94, 95, 96, 97] (by decide +kernel) (by decide +kernel)) (goodIn_sub (fun _ h => List.mem_cons_of_mem _ (List.mem_append_right _ h)) (by decide +kernel))
set_option maxRecDepth 20000 in
theorem gX4_heightAnew_X4_needStation : GoodIn wsX4_heightAnew (wsV RX4 54 RX4 yX4_needStation wsX4_needStation) := goodIn_app (goodIn_of _ (by decide +kernel)) ggX4_heightAnew_X4_needStation
set_option maxRecDepth 20000 in
theorem ggX4_heightAnew_X3_heightOf : GoodIn wsX4_heightAnew wsX3_heightOf := goodIn_r _ [20, 21, 22, 23, 24, 25, 26, 27, 28, 29, 19, 30, 31, 32, 33, 34, 35, 36, 37, 38, 39, 40, 13, 41, 15, 42, 43, 44, 45, 46, 47, 48, 49, 50, 51, 52, 53, 54, 55, 56, 57, 58, 59, 60, 61, 62, 63, 64, 65, 66, 67, 68, 69, 70, 71, 72, 73, 74, 75, 76, 77, 78, 5, 79, 80, 81, 82, 83, 98, 99, 100, 101, 102, 103, 104, 105, 106, 107, 88, 89, 90, 91, 92, 93, 94, 95, 96, 97] (by decide +kernel) (by decide +kernel)
set_option maxRecDepth 20000 in
theorem gX4_heightAnew_X3_heightOf : GoodIn wsX4_heightAnew (wsV RX4 139 RX3 yX3_heightOf wsX3_heightOf) := goodIn_app (goodIn_of _ (by decide +kernel)) ggX4_heightAnew_X3_heightOf
theorem dX4_heightAnew_0 : decode cX4_heightAnew 0 = .ok (.aload_n 0, 1) := by decide +kernel
theorem dX4_heightAnew_1 : decode cX4_heightAnew 1 = .ok (.iload_n 1, 1) := by decide +kernel
theorem dX4_heightAnew_2 : decode cX4_heightAnew 2 = .ok (.invokevirtual 54, 3) := by decide +kernel
theorem dX4_heightAnew_5 : decode cX4_heightAnew 5 = .ok (.aload_n 0, 1) := by decide +kernel
theorem dX4_heightAnew_6 : decode cX4_heightAnew 6 = .ok (.getfield 28, 3) := by decide +kernel
theorem dX4_heightAnew_9 : decode cX4_heightAnew 9 = .ok (.iload_n 1, 1) := by decide +kernel
theorem dX4_heightAnew_10 : decode cX4_heightAnew 10 = .ok (.invokevirtual 139, 3) := by decide +kernel
theorem dX4_heightAnew_13 : decode cX4_heightAnew 13 = .ok (.lreturn, 1) := by decide +kernel
set_option maxRecDepth 20000 in
theorem ggX4_free_X4_needStation : GoodIn wsX4_free wsX4_needStation := goodIn_ca (goodIn_r _ [6, 7, 8, 9, 10, 11, 12, 13, 14, 15, 89, 90, 91, 92, 93, 94, 95, 96, 97, 98, 99, 100, 101, 102] (by decide +kernel) (by decide +kernel)) (goodIn_sub (fun _ h => List.mem_cons_of_mem _ (List.mem_append_right _ h)) (by decide +kernel))
set_option maxRecDepth 20000 in
theorem gX4_free_X4_needStation : GoodIn wsX4_free (wsV RX4 54 RX4 yX4_needStation wsX4_needStation) := goodIn_app (goodIn_of _ (by decide +kernel)) ggX4_free_X4_needStation
set_option maxRecDepth 20000 in
theorem ggX4_free_X0_freeHeightOf : GoodIn wsX4_free wsX0_freeHeightOf := goodIn_r _ [20, 21, 22, 23, 24, 25, 26, 27, 28, 19, 29, 30, 31, 32, 33, 34, 13, 35, 15, 36, 37, 38, 39, 40, 41, 42, 43, 44, 45, 46, 47, 48, 49, 50, 51, 52, 53, 54, 55, 56, 57, 58, 59, 60, 61, 62, 63, 64, 65, 66, 67, 68, 69, 70, 71, 72, 73, 74, 75, 76, 77, 78, 79, 80, 81, 82, 83, 5, 84, 85, 86, 87, 88, 103, 104, 105, 106, 107, 108, 93, 94, 95, 96, 97, 98, 99, 100, 101, 102] (by decide +kernel) (by decide +kernel)
set_option maxRecDepth 20000 in
theorem gX4_free_X0_freeHeightOf : GoodIn wsX4_free (wsV RX4 140 RX0 yX0_freeHeightOf wsX0_freeHeightOf) := goodIn_app (goodIn_of _ (by decide +kernel)) ggX4_free_X0_freeHeightOf
theorem dX4_free_0 : decode cX4_free 0 = .ok (.aload_n 0, 1) := by decide +kernel
theorem dX4_free_1 : decode cX4_free 1 = .ok (.iload_n 1, 1) := by decide +kernel
theorem dX4_free_2 : decode cX4_free 2 = .ok (.invokevirtual 54, 3) := by decide +kernel
theorem dX4_free_5 : decode cX4_free 5 = .ok (.aload_n 0, 1) := by decide +kernel
theorem dX4_free_6 : decode cX4_free 6 = .ok (.getfield 21, 3) := by decide +kernel
theorem dX4_free_9 : decode cX4_free 9 = .ok (.iload_n 1, 1) := by decide +kernel
theorem dX4_free_10 : decode cX4_free 10 = .ok (.invokevirtual 140, 3) := by decide +kernel
theorem dX4_free_13 : decode cX4_free 13 = .ok (.lreturn, 1) := by decide +kernel
set_option maxRecDepth 20000 in
theorem ggX4_residual_X4_needObservationInNet : GoodIn wsX4_residual wsX4_needObservationInNet := goodIn_ca (goodIn_ca (goodIn_r _ [6, 7, 8, 9, 10, 11, 12, 13, 5, 14, 15, 16, 17, 18, 19, 20, 21, 22, 101, 102, 103, 104, 105, 106, 107, 108, 109, 110, 111, 112, 113, 114] (by decide +kernel) (by decide +kernel)) (goodIn_sub (fun _ h => List.mem_cons_of_mem _ (List.mem_append_left _ (List.mem_append_right _ h))) (by decide +kernel))) (goodIn_sub (fun _ h => List.mem_cons_of_mem _ (List.mem_append_right _ h)) (by decide +kernel))
set_option maxRecDepth 20000 in
theorem gX4_residual_X4_needObservationInNet : GoodIn wsX4_residual (wsV RX4 143 RX4 yX4_needObservationInNet wsX4_needObservationInNet) := goodIn_app (goodIn_of _ (by decide +kernel)) ggX4_residual_X4_needObservationInNet
set_option maxRecDepth 20000 in
theorem ggX4_residual_X0_residualOf : GoodIn wsX4_residual wsX0_residualOf := goodIn_r _ [27, 28, 29, 30, 31, 32, 26, 33, 34, 35, 36, 37, 38, 39, 40, 41, 42, 43, 44, 45, 46, 20, 47, 48, 49, 50, 51, 52, 53, 54, 55, 56, 57, 58, 59, 60, 61, 62, 63, 64, 65, 66, 67, 68, 69, 70, 71, 72, 73, 74, 75, 76, 77, 78, 79, 80, 81, 82, 83, 84, 85, 86, 87, 88, 89, 90, 91, 92, 93, 94, 95, 5, 96, 97, 98, 99, 100, 115, 116, 117, 118, 119, 120, 105, 106, 107, 108, 109, 110, 111, 112, 113, 114] (by decide +kernel) (by decide +kernel)
set_option maxRecDepth 20000 in
theorem gX4_residual_X0_residualOf : GoodIn wsX4_residual (wsV RX4 146 RX0 yX0_residualOf wsX0_residualOf) := goodIn_app (goodIn_of _ (by decide +kernel)) ggX4_residual_X0_residualOf
theorem dX4_residual_0 : decode cX4_residual 0 = .ok (.aload_n 0, 1) := by decide +kernel
theorem dX4_residual_1 : decode cX4_residual 1 = .ok (.iload_n 1, 1) := by decide +kernel
theorem dX4_residual_2 : decode cX4_residual 2 = .ok (.invokevirtual 143, 3) := by decide +kernel
theorem dX4_residual_5 : decode cX4_residual 5 = .ok (.aload_n 0, 1) := by decide +kernel
theorem dX4_residual_6 : decode cX4_residual 6 = .ok (.getfield 21, 3) := by decide +kernel
theorem dX4_residual_9 : decode cX4_residual 9 = .ok (.iload_n 1, 1) := by decide +kernel
theorem dX4_residual_10 : decode cX4_residual 10 = .ok (.invokevirtual 146, 3) := by decide +kernel
theorem dX4_residual_13 : decode cX4_residual 13 = .ok (.lreturn, 1) := by decide +kernel
set_option maxRecDepth 20000 in
theorem ggX4_check_X4_needObservationInNet : GoodIn wsX4_check wsX4_needObservationInNet := goodIn_ca (goodIn_ca (goodIn_r _ [6, 7, 8, 9, 10, 11, 12, 13, 5, 14, 15, 16, 17, 18, 19, 20, 21, 22, 101, 102, 103, 104, 105, 106, 107, 108, 109, 110, 111, 112, 113, 114] (by decide +kernel) (by decide +kernel)) (goodIn_sub (fun _ h => List.mem_cons_of_mem _ (List.mem_append_left _ (List.mem_append_right _ h))) (by decide +kernel))) (goodIn_sub (fun _ h => List.mem_cons_of_mem _ (List.mem_append_right _ h)) (by decide +kernel))
set_option maxRecDepth 20000 in
theorem gX4_check_X4_needObservationInNet : GoodIn wsX4_check (wsV RX4 143 RX4 yX4_needObservationInNet wsX4_needObservationInNet) := goodIn_app (goodIn_of _ (by decide +kernel)) ggX4_check_X4_needObservationInNet
set_option maxRecDepth 20000 in
theorem ggX4_check_X0_checkOf : GoodIn wsX4_check wsX0_checkOf := goodIn_r _ [27, 28, 29, 30, 31, 32, 26, 33, 34, 35, 36, 37, 38, 39, 40, 41, 42, 43, 20, 44, 45, 46, 47, 48, 49, 50, 51, 52, 53, 54, 55, 56, 57, 58, 59, 60, 61, 62, 63, 64, 65, 66, 67, 68, 69, 70, 71, 72, 73, 74, 75, 76, 77, 78, 79, 80, 81, 82, 83, 84, 85, 86, 87, 88, 89, 90, 91, 92, 93, 94, 95, 5, 96, 97, 98, 99, 100, 115, 116, 117, 118, 119, 120, 105, 106, 107, 108, 109, 110, 111, 112, 113, 114] (by decide +kernel) (by decide +kernel)
set_option maxRecDepth 20000 in
theorem gX4_check_X0_checkOf : GoodIn wsX4_check (wsV RX4 149 RX0 yX0_checkOf wsX0_checkOf) := goodIn_app (goodIn_of _ (by decide +kernel)) ggX4_check_X0_checkOf
theorem dX4_check_0 : decode cX4_check 0 = .ok (.aload_n 0, 1) := by decide +kernel
theorem dX4_check_1 : decode cX4_check 1 = .ok (.iload_n 1, 1) := by decide +kernel
theorem dX4_check_2 : decode cX4_check 2 = .ok (.invokevirtual 143, 3) := by decide +kernel
theorem dX4_check_5 : decode cX4_check 5 = .ok (.aload_n 0, 1) := by decide +kernel
theorem dX4_check_6 : decode cX4_check 6 = .ok (.getfield 21, 3) := by decide +kernel
theorem dX4_check_9 : decode cX4_check 9 = .ok (.iload_n 1, 1) := by decide +kernel
theorem dX4_check_10 : decode cX4_check 10 = .ok (.invokevirtual 149, 3) := by decide +kernel
theorem dX4_check_13 : decode cX4_check 13 = .ok (.ireturn, 1) := by decide +kernel
set_option maxRecDepth 20000 in
theorem ggX4_checkAnew_X4_needObservationInNet : GoodIn wsX4_checkAnew wsX4_needObservationInNet := goodIn_ca (goodIn_ca (goodIn_r _ [6, 7, 8, 9, 10, 11, 12, 13, 5, 14, 15, 16, 17, 18, 19, 20, 21, 22, 91, 92, 93, 94, 95, 96, 97, 98, 99, 100, 101, 102, 103, 104] (by decide +kernel) (by decide +kernel)) (goodIn_sub (fun _ h => List.mem_cons_of_mem _ (List.mem_append_left _ (List.mem_append_right _ h))) (by decide +kernel))) (goodIn_sub (fun _ h => List.mem_cons_of_mem _ (List.mem_append_right _ h)) (by decide +kernel))
set_option maxRecDepth 20000 in
theorem gX4_checkAnew_X4_needObservationInNet : GoodIn wsX4_checkAnew (wsV RX4 143 RX4 yX4_needObservationInNet wsX4_needObservationInNet) := goodIn_app (goodIn_of _ (by decide +kernel)) ggX4_checkAnew_X4_needObservationInNet
set_option maxRecDepth 20000 in
theorem ggX4_checkAnew_X3_checkOf : GoodIn wsX4_checkAnew wsX3_checkOf := goodIn_r _ [27, 28, 29, 30, 31, 32, 33, 34, 35, 26, 36, 37, 38, 39, 40, 41, 42, 43, 44, 45, 46, 47, 20, 48, 49, 50, 51, 52, 53, 54, 55, 56, 57, 58, 59, 60, 61, 62, 63, 64, 65, 66, 67, 68, 69, 70, 71, 72, 73, 74, 75, 76, 77, 78, 79, 80, 81, 82, 83, 84, 85, 5, 86, 87, 88, 89, 90, 105, 106, 107, 108, 109, 110, 111, 112, 113, 114, 95, 96, 97, 98, 99, 100, 101, 102, 103, 104] (by decide +kernel) (by decide +kernel)
set_option maxRecDepth 20000 in
theorem gX4_checkAnew_X3_checkOf : GoodIn wsX4_checkAnew (wsV RX4 152 RX3 yX3_checkOf wsX3_checkOf) := goodIn_app (goodIn_of _ (by decide +kernel)) ggX4_checkAnew_X3_checkOf
theorem dX4_checkAnew_0 : decode cX4_checkAnew 0 = .ok (.aload_n 0, 1) := by decide +kernel
theorem dX4_checkAnew_1 : decode cX4_checkAnew 1 = .ok (.iload_n 1, 1) := by decide +kernel
theorem dX4_checkAnew_2 : decode cX4_checkAnew 2 = .ok (.invokevirtual 143, 3) := by decide +kernel
theorem dX4_checkAnew_5 : decode cX4_checkAnew 5 = .ok (.aload_n 0, 1) := by decide +kernel
theorem dX4_checkAnew_6 : decode cX4_checkAnew 6 = .ok (.getfield 28, 3) := by decide +kernel
theorem dX4_checkAnew_9 : decode cX4_checkAnew 9 = .ok (.iload_n 1, 1) := by decide +kernel
theorem dX4_checkAnew_10 : decode cX4_checkAnew 10 = .ok (.invokevirtual 152, 3) := by decide +kernel
theorem dX4_checkAnew_13 : decode cX4_checkAnew 13 = .ok (.ireturn, 1) := by decide +kernel
set_option maxRecDepth 20000 in
theorem ggX4_score_X4_needObservationInNet : GoodIn wsX4_score wsX4_needObservationInNet := goodIn_ca (goodIn_ca (goodIn_r _ [6, 7, 8, 9, 10, 11, 12, 13, 5, 14, 15, 16, 17, 18, 19, 20, 21, 22, 110, 111, 112, 113, 114, 115, 116, 117, 118, 119, 120, 121, 122, 123] (by decide +kernel) (by decide +kernel)) (goodIn_sub (fun _ h => List.mem_cons_of_mem _ (List.mem_append_left _ (List.mem_append_right _ h))) (by decide +kernel))) (goodIn_sub (fun _ h => List.mem_cons_of_mem _ (List.mem_append_right _ h)) (by decide +kernel))
set_option maxRecDepth 20000 in
theorem gX4_score_X4_needObservationInNet : GoodIn wsX4_score (wsV RX4 143 RX4 yX4_needObservationInNet wsX4_needObservationInNet) := goodIn_app (goodIn_of _ (by decide +kernel)) ggX4_score_X4_needObservationInNet
set_option maxRecDepth 20000 in
theorem ggX4_score_X0_scoreOf : GoodIn wsX4_score wsX0_scoreOf := goodIn_r _ [27, 28, 29, 30, 31, 32, 33, 34, 35, 36, 37, 38, 26, 39, 40, 41, 42, 43, 44, 45, 46, 47, 48, 49, 50, 51, 20, 52, 53, 54, 55, 56, 57, 58, 59, 60, 61, 62, 63, 64, 65, 66, 67, 68, 69, 70, 71, 72, 73, 74, 75, 76, 77, 78, 79, 80, 81, 82, 83, 84, 85, 86, 87, 88, 89, 90, 91, 92, 93, 94, 95, 96, 97, 98, 99, 5, 100, 101, 102, 103, 104, 105, 106, 107, 108, 109, 124, 125, 126, 127, 128, 129, 114, 115, 116, 117, 118, 119, 120, 121, 122, 123] (by decide +kernel) (by decide +kernel)
set_option maxRecDepth 20000 in
theorem gX4_score_X0_scoreOf : GoodIn wsX4_score (wsV RX4 99 RX0 yX0_scoreOf wsX0_scoreOf) := goodIn_app (goodIn_of _ (by decide +kernel)) ggX4_score_X0_scoreOf
theorem dX4_score_0 : decode cX4_score 0 = .ok (.aload_n 0, 1) := by decide +kernel
theorem dX4_score_1 : decode cX4_score 1 = .ok (.iload_n 1, 1) := by decide +kernel
theorem dX4_score_2 : decode cX4_score 2 = .ok (.invokevirtual 143, 3) := by decide +kernel
theorem dX4_score_5 : decode cX4_score 5 = .ok (.aload_n 0, 1) := by decide +kernel
theorem dX4_score_6 : decode cX4_score 6 = .ok (.getfield 21, 3) := by decide +kernel
theorem dX4_score_9 : decode cX4_score 9 = .ok (.iload_n 1, 1) := by decide +kernel
theorem dX4_score_10 : decode cX4_score 10 = .ok (.invokevirtual 99, 3) := by decide +kernel
theorem dX4_score_13 : decode cX4_score 13 = .ok (.lreturn, 1) := by decide +kernel
set_option maxRecDepth 20000 in
theorem ggX4_worst_X0_worstObservation : GoodIn wsX4_worst wsX0_worstObservation := goodIn_r _ [6, 7, 8, 9, 10, 11, 12, 5, 13, 14, 15, 16, 17, 18, 19, 20, 21, 22, 23, 24, 25, 26, 27, 28, 29, 30, 31, 32, 33, 34, 35, 36, 37, 38, 39, 40, 41, 42, 43, 44, 45, 46, 47, 48, 49, 50, 51, 52, 53, 54, 55, 56, 57, 58, 59, 60, 61, 62, 63, 64, 65, 66, 67, 68, 69, 70, 71, 72, 73, 74, 75, 76, 77, 78, 79, 80, 81, 82, 83, 84, 85, 86, 87, 88, 89, 90, 91, 92, 93, 94, 95, 100, 101, 102, 103, 104, 105, 106, 107, 108, 109, 110, 111, 112, 113, 114, 115] (by decide +kernel) (by decide +kernel)
set_option maxRecDepth 20000 in
theorem gX4_worst_X0_worstObservation : GoodIn wsX4_worst (wsV RX4 96 RX0 yX0_worstObservation wsX0_worstObservation) := goodIn_app (goodIn_of _ (by decide +kernel)) ggX4_worst_X0_worstObservation
theorem dX4_worst_0 : decode cX4_worst 0 = .ok (.aload_n 0, 1) := by decide +kernel
theorem dX4_worst_1 : decode cX4_worst 1 = .ok (.getfield 21, 3) := by decide +kernel
theorem dX4_worst_4 : decode cX4_worst 4 = .ok (.invokevirtual 96, 3) := by decide +kernel
theorem dX4_worst_7 : decode cX4_worst 7 = .ok (.ireturn, 1) := by decide +kernel
set_option maxRecDepth 20000 in
theorem ggX4_trees_X4_needStation : GoodIn wsX4_trees wsX4_needStation := goodIn_ca (goodIn_r _ [6, 7, 8, 9, 10, 11, 12, 13, 14, 15, 78, 79, 80, 81, 82, 83, 84, 85, 86, 87, 88, 89, 90, 91] (by decide +kernel) (by decide +kernel)) (goodIn_sub (fun _ h => List.mem_cons_of_mem _ (List.mem_append_right _ h)) (by decide +kernel))
set_option maxRecDepth 20000 in
theorem gX4_trees_X4_needStation : GoodIn wsX4_trees (wsV RX4 54 RX4 yX4_needStation wsX4_needStation) := goodIn_app (goodIn_of _ (by decide +kernel)) ggX4_trees_X4_needStation
set_option maxRecDepth 20000 in
theorem ggX4_trees_X0_treeWeightOf : GoodIn wsX4_trees wsX0_treeWeightOf := goodIn_r _ [20, 21, 22, 23, 24, 19, 25, 26, 27, 28, 29, 30, 31, 13, 32, 15, 33, 34, 35, 36, 37, 38, 39, 40, 41, 42, 43, 44, 45, 46, 47, 48, 49, 50, 51, 52, 53, 54, 55, 56, 57, 58, 59, 60, 61, 62, 63, 64, 65, 66, 67, 68, 69, 70, 71, 72, 73, 74, 75, 76, 77, 92, 93, 94, 95, 96, 97, 82, 83, 84, 85, 86, 87, 88, 89, 90, 91] (by decide +kernel) (by decide +kernel)
set_option maxRecDepth 20000 in
theorem gX4_trees_X0_treeWeightOf : GoodIn wsX4_trees (wsV RX4 153 RX0 yX0_treeWeightOf wsX0_treeWeightOf) := goodIn_app (goodIn_of _ (by decide +kernel)) ggX4_trees_X0_treeWeightOf
theorem dX4_trees_0 : decode cX4_trees 0 = .ok (.aload_n 0, 1) := by decide +kernel
theorem dX4_trees_1 : decode cX4_trees 1 = .ok (.iload_n 1, 1) := by decide +kernel
theorem dX4_trees_2 : decode cX4_trees 2 = .ok (.invokevirtual 54, 3) := by decide +kernel
theorem dX4_trees_5 : decode cX4_trees 5 = .ok (.aload_n 0, 1) := by decide +kernel
theorem dX4_trees_6 : decode cX4_trees 6 = .ok (.getfield 21, 3) := by decide +kernel
theorem dX4_trees_9 : decode cX4_trees 9 = .ok (.iload_n 1, 1) := by decide +kernel
theorem dX4_trees_10 : decode cX4_trees 10 = .ok (.invokevirtual 153, 3) := by decide +kernel
theorem dX4_trees_13 : decode cX4_trees 13 = .ok (.lreturn, 1) := by decide +kernel
set_option maxRecDepth 20000 in
theorem ggX4_parts_X1_countParts : GoodIn wsX4_parts wsX1_countParts := goodIn_r _ [6, 7, 8, 13, 14, 15, 16, 17, 18, 19, 20, 21, 22] (by decide +kernel) (by decide +kernel)
set_option maxRecDepth 20000 in
theorem gX4_parts_X1_countParts : GoodIn wsX4_parts (wsV RX4 156 RX1 yX1_countParts wsX1_countParts) := goodIn_app (goodIn_of _ (by decide +kernel)) ggX4_parts_X1_countParts
theorem dX4_parts_0 : decode cX4_parts 0 = .ok (.aload_n 0, 1) := by decide +kernel
theorem dX4_parts_1 : decode cX4_parts 1 = .ok (.getfield 10, 3) := by decide +kernel
theorem dX4_parts_4 : decode cX4_parts 4 = .ok (.invokevirtual 156, 3) := by decide +kernel
theorem dX4_parts_7 : decode cX4_parts 7 = .ok (.ireturn, 1) := by decide +kernel
set_option maxRecDepth 20000 in
theorem ggX4_needStation_X1_hasStation : GoodIn wsX4_needStation wsX1_hasStation := goodIn_r _ [8, 9, 14, 15, 16, 17, 18, 19, 20, 21, 22, 23] (by decide +kernel) (by decide +kernel)
set_option maxRecDepth 20000 in
theorem gX4_needStation_X1_hasStation : GoodIn wsX4_needStation (wsV RX4 159 RX1 yX1_hasStation wsX1_hasStation) := goodIn_app (goodIn_of _ (by decide +kernel)) ggX4_needStation_X1_hasStation
theorem dX4_needStation_0 : decode cX4_needStation 0 = .ok (.aload_n 0, 1) := by decide +kernel
theorem dX4_needStation_1 : decode cX4_needStation 1 = .ok (.getfield 10, 3) := by decide +kernel
theorem dX4_needStation_4 : decode cX4_needStation 4 = .ok (.iload_n 1, 1) := by decide +kernel
theorem dX4_needStation_5 : decode cX4_needStation 5 = .ok (.invokevirtual 159, 3) := by decide +kernel
theorem dX4_needStation_8 : decode cX4_needStation 8 = .ok (.ifCond .ne 13, 3) := by decide +kernel
theorem dX4_needStation_11 : decode cX4_needStation 11 = .ok (.new 163, 3) := by decide +kernel
theorem dX4_needStation_14 : decode cX4_needStation 14 = .ok (.dup, 1) := by decide +kernel
theorem dX4_needStation_15 : decode cX4_needStation 15 = .ok (.ldc 165, 2) := by decide +kernel
theorem dX4_needStation_17 : decode cX4_needStation 17 = .ok (.invokespecial 167, 3) := by decide +kernel
theorem dX4_needStation_20 : decode cX4_needStation 20 = .ok (.athrow, 1) := by decide +kernel
theorem dX4_needStation_21 : decode cX4_needStation 21 = .ok (.return_, 1) := by decide +kernel
set_option maxRecDepth 20000 in
theorem ggX4_needObservation_X1_hasObservation : GoodIn wsX4_needObservation wsX1_hasObservation := goodIn_r _ [8, 9, 14, 15, 16, 17, 18, 19, 20, 21, 22, 23] (by decide +kernel) (by decide +kernel)
set_option maxRecDepth 20000 in
theorem gX4_needObservation_X1_hasObservation : GoodIn wsX4_needObservation (wsV RX4 168 RX1 yX1_hasObservation wsX1_hasObservation) := goodIn_app (goodIn_of _ (by decide +kernel)) ggX4_needObservation_X1_hasObservation
theorem dX4_needObservation_0 : decode cX4_needObservation 0 = .ok (.aload_n 0, 1) := by decide +kernel
theorem dX4_needObservation_1 : decode cX4_needObservation 1 = .ok (.getfield 10, 3) := by decide +kernel
theorem dX4_needObservation_4 : decode cX4_needObservation 4 = .ok (.iload_n 1, 1) := by decide +kernel
theorem dX4_needObservation_5 : decode cX4_needObservation 5 = .ok (.invokevirtual 168, 3) := by decide +kernel
theorem dX4_needObservation_8 : decode cX4_needObservation 8 = .ok (.ifCond .ne 13, 3) := by decide +kernel
theorem dX4_needObservation_11 : decode cX4_needObservation 11 = .ok (.new 163, 3) := by decide +kernel
theorem dX4_needObservation_14 : decode cX4_needObservation 14 = .ok (.dup, 1) := by decide +kernel
theorem dX4_needObservation_15 : decode cX4_needObservation 15 = .ok (.ldc 171, 2) := by decide +kernel
theorem dX4_needObservation_17 : decode cX4_needObservation 17 = .ok (.invokespecial 167, 3) := by decide +kernel
theorem dX4_needObservation_20 : decode cX4_needObservation 20 = .ok (.athrow, 1) := by decide +kernel
theorem dX4_needObservation_21 : decode cX4_needObservation 21 = .ok (.return_, 1) := by decide +kernel
set_option maxRecDepth 20000 in
theorem ggX4_needObservationInNet_X4_needObservation : GoodIn wsX4_needObservationInNet wsX4_needObservation := goodIn_ca (goodIn_r _ [9, 10, 11, 3, 12, 13, 14, 15, 16, 17, 18, 19, 20, 21, 22, 23, 24, 25, 26, 27, 28, 29, 30, 31] (by decide +kernel) (by decide +kernel)) (goodIn_sub (fun _ h => List.mem_cons_of_mem _ (List.mem_append_right _ h)) (by decide +kernel))
set_option maxRecDepth 20000 in
theorem gX4_needObservationInNet_X4_needObservation : GoodIn wsX4_needObservationInNet (wsV RX4 86 RX4 yX4_needObservation wsX4_needObservation) := goodIn_app (goodIn_of _ (by decide +kernel)) ggX4_needObservationInNet_X4_needObservation
theorem dX4_needObservationInNet_0 : decode cX4_needObservationInNet 0 = .ok (.aload_n 0, 1) := by decide +kernel
theorem dX4_needObservationInNet_1 : decode cX4_needObservationInNet 1 = .ok (.iload_n 1, 1) := by decide +kernel
theorem dX4_needObservationInNet_2 : decode cX4_needObservationInNet 2 = .ok (.invokevirtual 86, 3) := by decide +kernel
theorem dX4_needObservationInNet_5 : decode cX4_needObservationInNet 5 = .ok (.aload_n 0, 1) := by decide +kernel
theorem dX4_needObservationInNet_6 : decode cX4_needObservationInNet 6 = .ok (.getfield 10, 3) := by decide +kernel
theorem dX4_needObservationInNet_9 : decode cX4_needObservationInNet 9 = .ok (.getfield 173, 3) := by decide +kernel
theorem dX4_needObservationInNet_12 : decode cX4_needObservationInNet 12 = .ok (.iload_n 1, 1) := by decide +kernel
theorem dX4_needObservationInNet_13 : decode cX4_needObservationInNet 13 = .ok (.baload, 1) := by decide +kernel
theorem dX4_needObservationInNet_14 : decode cX4_needObservationInNet 14 = .ok (.ifCond .eq 13, 3) := by decide +kernel
theorem dX4_needObservationInNet_17 : decode cX4_needObservationInNet 17 = .ok (.new 43, 3) := by decide +kernel
theorem dX4_needObservationInNet_20 : decode cX4_needObservationInNet 20 = .ok (.dup, 1) := by decide +kernel
theorem dX4_needObservationInNet_21 : decode cX4_needObservationInNet 21 = .ok (.ldc 177, 2) := by decide +kernel
theorem dX4_needObservationInNet_23 : decode cX4_needObservationInNet 23 = .ok (.invokespecial 47, 3) := by decide +kernel
theorem dX4_needObservationInNet_26 : decode cX4_needObservationInNet 26 = .ok (.athrow, 1) := by decide +kernel
theorem dX4_needObservationInNet_27 : decode cX4_needObservationInNet 27 = .ok (.return_, 1) := by decide +kernel
theorem dX4_isBeyond_0 : decode cX4_isBeyond 0 = .ok (.iload_n 0, 1) := by decide +kernel
theorem dX4_isBeyond_1 : decode cX4_isBeyond 1 = .ok (.iload_n 1, 1) := by decide +kernel
theorem dX4_isBeyond_2 : decode cX4_isBeyond 2 = .ok (.if_icmp .lt 8, 3) := by decide +kernel
theorem dX4_isBeyond_5 : decode cX4_isBeyond 5 = .ok (.iload_n 0, 1) := by decide +kernel
theorem dX4_isBeyond_6 : decode cX4_isBeyond 6 = .ok (.iload_n 2, 1) := by decide +kernel
theorem dX4_isBeyond_7 : decode cX4_isBeyond 7 = .ok (.if_icmp .le 7, 3) := by decide +kernel
theorem dX4_isBeyond_10 : decode cX4_isBeyond 10 = .ok (.iconst 1, 1) := by decide +kernel
theorem dX4_isBeyond_11 : decode cX4_isBeyond 11 = .ok (.goto 4, 3) := by decide +kernel
theorem dX4_isBeyond_14 : decode cX4_isBeyond 14 = .ok (.iconst 0, 1) := by decide +kernel
theorem dX4_isBeyond_15 : decode cX4_isBeyond 15 = .ok (.ireturn, 1) := by decide +kernel
set_option maxRecDepth 20000 in
theorem ggX4_roundedDown_J9_floorDiv_f86c9 : GoodIn wsX4_roundedDown wsJ9_floorDiv_f86c9 := goodIn_r _ [4] (by decide +kernel) (by decide +kernel)
set_option maxRecDepth 20000 in
theorem gX4_roundedDown_J9_floorDiv_f86c9 : GoodIn wsX4_roundedDown (va_wsS RX4 179 yJ9_floorDiv_f86c9 wsJ9_floorDiv_f86c9) := goodIn_app (goodIn_of _ (by decide +kernel)) ggX4_roundedDown_J9_floorDiv_f86c9
theorem dX4_roundedDown_0 : decode cX4_roundedDown 0 = .ok (.lload_n 2, 1) := by decide +kernel
theorem dX4_roundedDown_1 : decode cX4_roundedDown 1 = .ok (.lconst 0, 1) := by decide +kernel
theorem dX4_roundedDown_2 : decode cX4_roundedDown 2 = .ok (.lcmp, 1) := by decide +kernel
theorem dX4_roundedDown_3 : decode cX4_roundedDown 3 = .ok (.ifCond .ne 7, 3) := by decide +kernel
theorem dX4_roundedDown_6 : decode cX4_roundedDown 6 = .ok (.lconst 0, 1) := by decide +kernel
theorem dX4_roundedDown_7 : decode cX4_roundedDown 7 = .ok (.goto 8, 3) := by decide +kernel
theorem dX4_roundedDown_10 : decode cX4_roundedDown 10 = .ok (.lload_n 0, 1) := by decide +kernel
theorem dX4_roundedDown_11 : decode cX4_roundedDown 11 = .ok (.lload_n 2, 1) := by decide +kernel
theorem dX4_roundedDown_12 : decode cX4_roundedDown 12 = .ok (.invokestatic 179, 3) := by decide +kernel
theorem dX4_roundedDown_15 : decode cX4_roundedDown 15 = .ok (.lreturn, 1) := by decide +kernel
