theorem dX0_init_0 : decode cX0_init 0 = .ok (.aload_n 0, 1) := by decide +kernel
theorem dX0_init_1 : decode cX0_init 1 = .ok (.invokespecial 3, 3) := by decide +kernel
theorem dX0_init_4 : decode cX0_init 4 = .ok (.aload_n 0, 1) := by decide +kernel
theorem dX0_init_5 : decode cX0_init 5 = .ok (.aload_n 1, 1) := by decide +kernel
theorem dX0_init_6 : decode cX0_init 6 = .ok (.putfield 9, 3) := by decide +kernel
theorem dX0_init_9 : decode cX0_init 9 = .ok (.aload_n 0, 1) := by decide +kernel
theorem dX0_init_10 : decode cX0_init 10 = .ok (.bipush 6, 2) := by decide +kernel
theorem dX0_init_12 : decode cX0_init 12 = .ok (.newarray .int, 2) := by decide +kernel
theorem dX0_init_14 : decode cX0_init 14 = .ok (.putfield 15, 3) := by decide +kernel
theorem dX0_init_17 : decode cX0_init 17 = .ok (.aload_n 0, 1) := by decide +kernel
theorem dX0_init_18 : decode cX0_init 18 = .ok (.iconst 5, 1) := by decide +kernel
theorem dX0_init_19 : decode cX0_init 19 = .ok (.bipush 6, 2) := by decide +kernel
theorem dX0_init_21 : decode cX0_init 21 = .ok (.multianewarray 19 2, 4) := by decide +kernel
theorem dX0_init_25 : decode cX0_init 25 = .ok (.putfield 21, 3) := by decide +kernel
theorem dX0_init_28 : decode cX0_init 28 = .ok (.return_, 1) := by decide +kernel
set_option maxRecDepth 20000 in
theorem ggX0_heightOf_X0_solve : GoodIn wsX0_heightOf wsX0_solve := goodIn_r _ [10, 1, 3, 11, 12, 13, 14, 15, 16, 17, 18, 19, 20, 21, 22, 23, 24, 25, 26, 9, 27, 28, 29, 30, 31, 32, 33, 34, 35, 36, 37, 38, 39, 40, 41, 42, 43, 44, 45, 46, 47, 48, 49, 50, 51, 52, 53, 54, 55, 56, 57, 58, 4, 59, 60, 61, 62, 74, 75, 76, 77, 78, 79, 80, 81, 82, 83, 84, 85, 86, 87, 88, 89] (by decide +kernel) (by decide +kernel)
set_option maxRecDepth 20000 in
theorem gX0_heightOf_X0_solve : GoodIn wsX0_heightOf (wsV RX0 24 RX0 yX0_solve wsX0_solve) := goodIn_app (goodIn_of _ (by decide +kernel)) ggX0_heightOf_X0_solve
set_option maxRecDepth 20000 in
theorem ggX0_heightOf_X0_riseOf : GoodIn wsX0_heightOf wsX0_riseOf := goodIn_r _ [66, 30, 36, 74, 75, 76, 77, 78, 79] (by decide +kernel) (by decide +kernel)
set_option maxRecDepth 20000 in
theorem gX0_heightOf_X0_riseOf : GoodIn wsX0_heightOf (wsV RX0 28 RX0 yX0_riseOf wsX0_riseOf) := goodIn_app (goodIn_of _ (by decide +kernel)) ggX0_heightOf_X0_riseOf
set_option maxRecDepth 20000 in
theorem ggX0_heightOf_X4_roundedDown : GoodIn wsX0_heightOf wsX4_roundedDown := goodIn_r _ [69, 70, 71, 72, 73] (by decide +kernel) (by decide +kernel)
set_option maxRecDepth 20000 in
theorem gX0_heightOf_X4_roundedDown_n47 : GoodIn wsX0_heightOf (wsX4_roundedDown) := ggX0_heightOf_X4_roundedDown
theorem dX0_heightOf_0 : decode cX0_heightOf 0 = .ok (.aload_n 0, 1) := by decide +kernel
theorem dX0_heightOf_1 : decode cX0_heightOf 1 = .ok (.iload_n 1, 1) := by decide +kernel
theorem dX0_heightOf_2 : decode cX0_heightOf 2 = .ok (.iconst (-1), 1) := by decide +kernel
theorem dX0_heightOf_3 : decode cX0_heightOf 3 = .ok (.invokevirtual 24, 3) := by decide +kernel
theorem dX0_heightOf_6 : decode cX0_heightOf 6 = .ok (.aload_n 0, 1) := by decide +kernel
theorem dX0_heightOf_7 : decode cX0_heightOf 7 = .ok (.iload_n 1, 1) := by decide +kernel
theorem dX0_heightOf_8 : decode cX0_heightOf 8 = .ok (.invokevirtual 28, 3) := by decide +kernel
theorem dX0_heightOf_11 : decode cX0_heightOf 11 = .ok (.aload_n 0, 1) := by decide +kernel
theorem dX0_heightOf_12 : decode cX0_heightOf 12 = .ok (.getfield 9, 3) := by decide +kernel
theorem dX0_heightOf_15 : decode cX0_heightOf 15 = .ok (.getfield 32, 3) := by decide +kernel
theorem dX0_heightOf_18 : decode cX0_heightOf 18 = .ok (.aload_n 0, 1) := by decide +kernel
theorem dX0_heightOf_19 : decode cX0_heightOf 19 = .ok (.getfield 37, 3) := by decide +kernel
theorem dX0_heightOf_22 : decode cX0_heightOf 22 = .ok (.iaload, 1) := by decide +kernel
theorem dX0_heightOf_23 : decode cX0_heightOf 23 = .ok (.i2l, 1) := by decide +kernel
theorem dX0_heightOf_24 : decode cX0_heightOf 24 = .ok (.aload_n 0, 1) := by decide +kernel
theorem dX0_heightOf_25 : decode cX0_heightOf 25 = .ok (.getfield 41, 3) := by decide +kernel
theorem dX0_heightOf_28 : decode cX0_heightOf 28 = .ok (.lmul, 1) := by decide +kernel
theorem dX0_heightOf_29 : decode cX0_heightOf 29 = .ok (.ladd, 1) := by decide +kernel
theorem dX0_heightOf_30 : decode cX0_heightOf 30 = .ok (.lstore_n 2, 1) := by decide +kernel
theorem dX0_heightOf_31 : decode cX0_heightOf 31 = .ok (.ldc2_w 45, 3) := by decide +kernel
theorem dX0_heightOf_34 : decode cX0_heightOf 34 = .ok (.lload_n 2, 1) := by decide +kernel
theorem dX0_heightOf_35 : decode cX0_heightOf 35 = .ok (.lmul, 1) := by decide +kernel
theorem dX0_heightOf_36 : decode cX0_heightOf 36 = .ok (.aload_n 0, 1) := by decide +kernel
theorem dX0_heightOf_37 : decode cX0_heightOf 37 = .ok (.getfield 41, 3) := by decide +kernel
theorem dX0_heightOf_40 : decode cX0_heightOf 40 = .ok (.invokestatic 47, 3) := by decide +kernel
theorem dX0_heightOf_43 : decode cX0_heightOf 43 = .ok (.lreturn, 1) := by decide +kernel
set_option maxRecDepth 20000 in
theorem ggX0_freeHeightOf_X0_solve : GoodIn wsX0_freeHeightOf wsX0_solve := goodIn_r _ [10, 1, 11, 12, 13, 14, 15, 16, 17, 18, 19, 20, 21, 22, 23, 24, 25, 26, 27, 9, 28, 3, 2, 29, 30, 31, 32, 33, 34, 35, 36, 37, 38, 39, 40, 41, 42, 43, 44, 45, 46, 47, 48, 49, 50, 51, 52, 53, 54, 55, 56, 57, 5, 58, 59, 60, 61, 73, 74, 75, 76, 77, 78, 79, 80, 81, 82, 83, 84, 85, 86, 87, 88] (by decide +kernel) (by decide +kernel)
set_option maxRecDepth 20000 in
theorem gX0_freeHeightOf_X0_solve : GoodIn wsX0_freeHeightOf (wsV RX0 24 RX0 yX0_solve wsX0_solve) := goodIn_app (goodIn_of _ (by decide +kernel)) ggX0_freeHeightOf_X0_solve
set_option maxRecDepth 20000 in
theorem ggX0_freeHeightOf_X0_riseOf : GoodIn wsX0_freeHeightOf wsX0_riseOf := goodIn_r _ [65, 29, 35, 73, 74, 75, 76, 77, 78] (by decide +kernel) (by decide +kernel)
set_option maxRecDepth 20000 in
theorem gX0_freeHeightOf_X0_riseOf : GoodIn wsX0_freeHeightOf (wsV RX0 28 RX0 yX0_riseOf wsX0_riseOf) := goodIn_app (goodIn_of _ (by decide +kernel)) ggX0_freeHeightOf_X0_riseOf
set_option maxRecDepth 20000 in
theorem ggX0_freeHeightOf_X4_roundedDown : GoodIn wsX0_freeHeightOf wsX4_roundedDown := goodIn_r _ [68, 69, 70, 71, 72] (by decide +kernel) (by decide +kernel)
set_option maxRecDepth 20000 in
theorem gX0_freeHeightOf_X4_roundedDown_n47 : GoodIn wsX0_freeHeightOf (wsX4_roundedDown) := ggX0_freeHeightOf_X4_roundedDown
theorem dX0_freeHeightOf_0 : decode cX0_freeHeightOf 0 = .ok (.aload_n 0, 1) := by decide +kernel
theorem dX0_freeHeightOf_1 : decode cX0_freeHeightOf 1 = .ok (.iload_n 1, 1) := by decide +kernel
theorem dX0_freeHeightOf_2 : decode cX0_freeHeightOf 2 = .ok (.iconst (-1), 1) := by decide +kernel
theorem dX0_freeHeightOf_3 : decode cX0_freeHeightOf 3 = .ok (.invokevirtual 24, 3) := by decide +kernel
theorem dX0_freeHeightOf_6 : decode cX0_freeHeightOf 6 = .ok (.lconst 0, 1) := by decide +kernel
theorem dX0_freeHeightOf_7 : decode cX0_freeHeightOf 7 = .ok (.lstore_n 2, 1) := by decide +kernel
theorem dX0_freeHeightOf_8 : decode cX0_freeHeightOf 8 = .ok (.iconst 0, 1) := by decide +kernel
theorem dX0_freeHeightOf_9 : decode cX0_freeHeightOf 9 = .ok (.istore 4, 2) := by decide +kernel
theorem dX0_freeHeightOf_11 : decode cX0_freeHeightOf 11 = .ok (.iload 4, 2) := by decide +kernel
theorem dX0_freeHeightOf_13 : decode cX0_freeHeightOf 13 = .ok (.aload_n 0, 1) := by decide +kernel
theorem dX0_freeHeightOf_14 : decode cX0_freeHeightOf 14 = .ok (.getfield 9, 3) := by decide +kernel
theorem dX0_freeHeightOf_17 : decode cX0_freeHeightOf 17 = .ok (.getfield 51, 3) := by decide +kernel
theorem dX0_freeHeightOf_20 : decode cX0_freeHeightOf 20 = .ok (.if_icmp .ge 18, 3) := by decide +kernel
theorem dX0_freeHeightOf_23 : decode cX0_freeHeightOf 23 = .ok (.lload_n 2, 1) := by decide +kernel
theorem dX0_freeHeightOf_24 : decode cX0_freeHeightOf 24 = .ok (.aload_n 0, 1) := by decide +kernel
theorem dX0_freeHeightOf_25 : decode cX0_freeHeightOf 25 = .ok (.iload 4, 2) := by decide +kernel
theorem dX0_freeHeightOf_27 : decode cX0_freeHeightOf 27 = .ok (.invokevirtual 28, 3) := by decide +kernel
theorem dX0_freeHeightOf_30 : decode cX0_freeHeightOf 30 = .ok (.ladd, 1) := by decide +kernel
theorem dX0_freeHeightOf_31 : decode cX0_freeHeightOf 31 = .ok (.lstore_n 2, 1) := by decide +kernel
theorem dX0_freeHeightOf_32 : decode cX0_freeHeightOf 32 = .ok (.iinc 4 1, 3) := by decide +kernel
theorem dX0_freeHeightOf_35 : decode cX0_freeHeightOf 35 = .ok (.goto (-24), 3) := by decide +kernel
theorem dX0_freeHeightOf_38 : decode cX0_freeHeightOf 38 = .ok (.aload_n 0, 1) := by decide +kernel
theorem dX0_freeHeightOf_39 : decode cX0_freeHeightOf 39 = .ok (.getfield 54, 3) := by decide +kernel
theorem dX0_freeHeightOf_42 : decode cX0_freeHeightOf 42 = .ok (.i2l, 1) := by decide +kernel
theorem dX0_freeHeightOf_43 : decode cX0_freeHeightOf 43 = .ok (.lconst 1, 1) := by decide +kernel
theorem dX0_freeHeightOf_44 : decode cX0_freeHeightOf 44 = .ok (.ladd, 1) := by decide +kernel
theorem dX0_freeHeightOf_45 : decode cX0_freeHeightOf 45 = .ok (.lstore 4, 2) := by decide +kernel
theorem dX0_freeHeightOf_47 : decode cX0_freeHeightOf 47 = .ok (.ldc2_w 45, 3) := by decide +kernel
theorem dX0_freeHeightOf_50 : decode cX0_freeHeightOf 50 = .ok (.lload 4, 2) := by decide +kernel
theorem dX0_freeHeightOf_52 : decode cX0_freeHeightOf 52 = .ok (.aload_n 0, 1) := by decide +kernel
theorem dX0_freeHeightOf_53 : decode cX0_freeHeightOf 53 = .ok (.iload_n 1, 1) := by decide +kernel
theorem dX0_freeHeightOf_54 : decode cX0_freeHeightOf 54 = .ok (.invokevirtual 28, 3) := by decide +kernel
theorem dX0_freeHeightOf_57 : decode cX0_freeHeightOf 57 = .ok (.lmul, 1) := by decide +kernel
theorem dX0_freeHeightOf_58 : decode cX0_freeHeightOf 58 = .ok (.lload_n 2, 1) := by decide +kernel
theorem dX0_freeHeightOf_59 : decode cX0_freeHeightOf 59 = .ok (.lsub, 1) := by decide +kernel
theorem dX0_freeHeightOf_60 : decode cX0_freeHeightOf 60 = .ok (.lmul, 1) := by decide +kernel
theorem dX0_freeHeightOf_61 : decode cX0_freeHeightOf 61 = .ok (.lload 4, 2) := by decide +kernel
theorem dX0_freeHeightOf_63 : decode cX0_freeHeightOf 63 = .ok (.aload_n 0, 1) := by decide +kernel
theorem dX0_freeHeightOf_64 : decode cX0_freeHeightOf 64 = .ok (.getfield 41, 3) := by decide +kernel
theorem dX0_freeHeightOf_67 : decode cX0_freeHeightOf 67 = .ok (.lmul, 1) := by decide +kernel
theorem dX0_freeHeightOf_68 : decode cX0_freeHeightOf 68 = .ok (.invokestatic 47, 3) := by decide +kernel
theorem dX0_freeHeightOf_71 : decode cX0_freeHeightOf 71 = .ok (.lreturn, 1) := by decide +kernel
set_option maxRecDepth 20000 in
theorem ggX0_treeWeightOf_X0_solve : GoodIn wsX0_treeWeightOf wsX0_solve := goodIn_r _ [6, 7, 8, 9, 10, 11, 12, 13, 14, 15, 16, 17, 18, 19, 20, 21, 22, 23, 24, 5, 25, 26, 27, 28, 29, 30, 31, 32, 33, 34, 35, 36, 37, 38, 39, 40, 41, 42, 43, 44, 45, 46, 47, 48, 49, 50, 51, 52, 53, 54, 55, 56, 1, 57, 58, 59, 60, 61, 62, 63, 64, 65, 66, 67, 68, 69, 70, 71, 72, 73, 74, 75, 76] (by decide +kernel) (by decide +kernel)
set_option maxRecDepth 20000 in
theorem gX0_treeWeightOf_X0_solve : GoodIn wsX0_treeWeightOf (wsV RX0 24 RX0 yX0_solve wsX0_solve) := goodIn_app (goodIn_of _ (by decide +kernel)) ggX0_treeWeightOf_X0_solve
theorem dX0_treeWeightOf_0 : decode cX0_treeWeightOf 0 = .ok (.aload_n 0, 1) := by decide +kernel
theorem dX0_treeWeightOf_1 : decode cX0_treeWeightOf 1 = .ok (.iload_n 1, 1) := by decide +kernel
theorem dX0_treeWeightOf_2 : decode cX0_treeWeightOf 2 = .ok (.iconst (-1), 1) := by decide +kernel
theorem dX0_treeWeightOf_3 : decode cX0_treeWeightOf 3 = .ok (.invokevirtual 24, 3) := by decide +kernel
theorem dX0_treeWeightOf_6 : decode cX0_treeWeightOf 6 = .ok (.aload_n 0, 1) := by decide +kernel
theorem dX0_treeWeightOf_7 : decode cX0_treeWeightOf 7 = .ok (.getfield 41, 3) := by decide +kernel
theorem dX0_treeWeightOf_10 : decode cX0_treeWeightOf 10 = .ok (.lreturn, 1) := by decide +kernel
set_option maxRecDepth 20000 in
theorem ggX0_residualOf_X0_misfitOf : GoodIn wsX0_residualOf wsX0_misfitOf := goodIn_r _ [7, 8, 9, 10, 11, 2, 12, 13, 14, 6, 15, 16, 17, 18, 19, 20, 21, 22, 23, 24, 25, 26, 27, 28, 29, 30, 31, 32, 33, 34, 35, 36, 37, 38, 39, 40, 41, 42, 43, 44, 45, 46, 47, 48, 49, 50, 51, 52, 53, 54, 55, 56, 57, 58, 59, 60, 61, 62, 63, 64, 65, 66, 67, 68, 69, 77, 78, 79, 80, 81, 82, 83, 84, 85, 86, 87, 88, 89, 90, 91, 92] (by decide +kernel) (by decide +kernel)
set_option maxRecDepth 20000 in
theorem gX0_residualOf_X0_misfitOf : GoodIn wsX0_residualOf (wsV RX0 57 RX0 yX0_misfitOf wsX0_misfitOf) := goodIn_app (goodIn_of _ (by decide +kernel)) ggX0_residualOf_X0_misfitOf
set_option maxRecDepth 20000 in
theorem ggX0_residualOf_X4_roundedDown : GoodIn wsX0_residualOf wsX4_roundedDown := goodIn_r _ [72, 73, 74, 75, 76] (by decide +kernel) (by decide +kernel)
set_option maxRecDepth 20000 in
theorem gX0_residualOf_X4_roundedDown_n47 : GoodIn wsX0_residualOf (wsX4_roundedDown) := ggX0_residualOf_X4_roundedDown
theorem dX0_residualOf_0 : decode cX0_residualOf 0 = .ok (.aload_n 0, 1) := by decide +kernel
theorem dX0_residualOf_1 : decode cX0_residualOf 1 = .ok (.iload_n 1, 1) := by decide +kernel
theorem dX0_residualOf_2 : decode cX0_residualOf 2 = .ok (.invokevirtual 57, 3) := by decide +kernel
theorem dX0_residualOf_5 : decode cX0_residualOf 5 = .ok (.lstore_n 2, 1) := by decide +kernel
theorem dX0_residualOf_6 : decode cX0_residualOf 6 = .ok (.ldc2_w 45, 3) := by decide +kernel
theorem dX0_residualOf_9 : decode cX0_residualOf 9 = .ok (.lload_n 2, 1) := by decide +kernel
theorem dX0_residualOf_10 : decode cX0_residualOf 10 = .ok (.lmul, 1) := by decide +kernel
theorem dX0_residualOf_11 : decode cX0_residualOf 11 = .ok (.aload_n 0, 1) := by decide +kernel
theorem dX0_residualOf_12 : decode cX0_residualOf 12 = .ok (.getfield 41, 3) := by decide +kernel
theorem dX0_residualOf_15 : decode cX0_residualOf 15 = .ok (.invokestatic 47, 3) := by decide +kernel
theorem dX0_residualOf_18 : decode cX0_residualOf 18 = .ok (.lreturn, 1) := by decide +kernel
set_option maxRecDepth 20000 in
theorem ggX0_checkOf_X0_treeWeightOf : GoodIn wsX0_checkOf wsX0_treeWeightOf := goodIn_r _ [7, 8, 9, 10, 11, 6, 12, 1, 13, 14, 15, 16, 17, 18, 19, 20, 21, 22, 23, 24, 25, 26, 27, 28, 29, 30, 31, 32, 33, 34, 35, 36, 37, 38, 39, 40, 41, 42, 43, 44, 45, 46, 47, 48, 49, 2, 50, 51, 52, 53, 54, 55, 56, 57, 58, 59, 60, 61, 62, 63, 64, 77, 78, 79, 80, 81, 82, 83, 84, 85, 86, 87, 88, 89, 90, 91, 92] (by decide +kernel) (by decide +kernel)
set_option maxRecDepth 20000 in
theorem gX0_checkOf_X0_treeWeightOf : GoodIn wsX0_checkOf (wsV RX0 63 RX0 yX0_treeWeightOf wsX0_treeWeightOf) := goodIn_app (goodIn_of _ (by decide +kernel)) ggX0_checkOf_X0_treeWeightOf
set_option maxRecDepth 20000 in
theorem ggX0_checkOf_X0_checkAgainst : GoodIn wsX0_checkOf wsX0_checkAgainst := goodIn_r _ [68, 1, 2, 69, 8, 9, 10, 11, 6, 12, 13, 14, 15, 16, 17, 18, 19, 20, 21, 22, 23, 24, 25, 26, 27, 28, 29, 30, 31, 32, 33, 34, 35, 36, 37, 38, 39, 40, 41, 42, 43, 44, 45, 46, 47, 48, 49, 50, 51, 52, 53, 54, 55, 56, 57, 58, 59, 60, 61, 62, 63, 64, 70, 71, 72, 73, 74, 75, 76, 77, 78, 79, 80, 81, 82, 83, 84, 85, 86, 87, 88, 89, 90, 91, 92] (by decide +kernel) (by decide +kernel)
set_option maxRecDepth 20000 in
theorem gX0_checkOf_X0_checkAgainst : GoodIn wsX0_checkOf (wsV RX0 66 RX0 yX0_checkAgainst wsX0_checkAgainst) := goodIn_app (goodIn_of _ (by decide +kernel)) ggX0_checkOf_X0_checkAgainst
theorem dX0_checkOf_0 : decode cX0_checkOf 0 = .ok (.aload_n 0, 1) := by decide +kernel
theorem dX0_checkOf_1 : decode cX0_checkOf 1 = .ok (.iload_n 1, 1) := by decide +kernel
theorem dX0_checkOf_2 : decode cX0_checkOf 2 = .ok (.aload_n 0, 1) := by decide +kernel
theorem dX0_checkOf_3 : decode cX0_checkOf 3 = .ok (.aload_n 0, 1) := by decide +kernel
theorem dX0_checkOf_4 : decode cX0_checkOf 4 = .ok (.getfield 9, 3) := by decide +kernel
theorem dX0_checkOf_7 : decode cX0_checkOf 7 = .ok (.getfield 60, 3) := by decide +kernel
theorem dX0_checkOf_10 : decode cX0_checkOf 10 = .ok (.iload_n 1, 1) := by decide +kernel
theorem dX0_checkOf_11 : decode cX0_checkOf 11 = .ok (.iaload, 1) := by decide +kernel
theorem dX0_checkOf_12 : decode cX0_checkOf 12 = .ok (.invokevirtual 63, 3) := by decide +kernel
theorem dX0_checkOf_15 : decode cX0_checkOf 15 = .ok (.invokevirtual 66, 3) := by decide +kernel
theorem dX0_checkOf_18 : decode cX0_checkOf 18 = .ok (.ireturn, 1) := by decide +kernel
set_option maxRecDepth 20000 in
theorem ggX0_scoreOf_X0_misfitOf : GoodIn wsX0_scoreOf wsX0_misfitOf := goodIn_r _ [13, 7, 14, 15, 16, 6, 17, 18, 19, 12, 20, 21, 22, 23, 24, 25, 26, 27, 28, 29, 30, 31, 32, 33, 34, 35, 36, 37, 38, 39, 40, 41, 42, 43, 44, 45, 46, 47, 48, 49, 50, 51, 52, 53, 54, 55, 56, 57, 8, 58, 59, 60, 61, 62, 63, 64, 65, 66, 67, 68, 69, 70, 71, 72, 73, 86, 87, 88, 89, 90, 91, 92, 93, 94, 95, 96, 97, 98, 99, 100, 101] (by decide +kernel) (by decide +kernel)
set_option maxRecDepth 20000 in
theorem gX0_scoreOf_X0_misfitOf : GoodIn wsX0_scoreOf (wsV RX0 57 RX0 yX0_misfitOf wsX0_misfitOf) := goodIn_app (goodIn_of _ (by decide +kernel)) ggX0_scoreOf_X0_misfitOf
set_option maxRecDepth 20000 in
theorem ggX0_scoreOf_X4_roundedDown : GoodIn wsX0_scoreOf wsX4_roundedDown := goodIn_r _ [76, 77, 78, 79, 80] (by decide +kernel) (by decide +kernel)
set_option maxRecDepth 20000 in
theorem gX0_scoreOf_X4_roundedDown_n47 : GoodIn wsX0_scoreOf (wsX4_roundedDown) := ggX0_scoreOf_X4_roundedDown
set_option maxRecDepth 20000 in
theorem ggX0_scoreOf_X0_checkAgainst : GoodIn wsX0_scoreOf wsX0_checkAgainst := goodIn_r _ [84, 7, 14, 85, 6, 17, 18, 19, 12, 20, 21, 22, 23, 24, 25, 26, 27, 28, 29, 30, 31, 32, 33, 34, 35, 36, 37, 38, 39, 40, 41, 42, 43, 44, 45, 46, 47, 48, 49, 50, 51, 52, 53, 54, 55, 56, 57, 15, 8, 16, 58, 59, 60, 61, 62, 63, 64, 65, 66, 67, 68, 69, 74, 75, 76, 77, 78, 79, 80, 86, 87, 88, 89, 90, 91, 92, 93, 94, 95, 96, 97, 98, 99, 100, 101] (by decide +kernel) (by decide +kernel)
set_option maxRecDepth 20000 in
theorem gX0_scoreOf_X0_checkAgainst : GoodIn wsX0_scoreOf (wsV RX0 66 RX0 yX0_checkAgainst wsX0_checkAgainst) := goodIn_app (goodIn_of _ (by decide +kernel)) ggX0_scoreOf_X0_checkAgainst
theorem dX0_scoreOf_0 : decode cX0_scoreOf 0 = .ok (.aload_n 0, 1) := by decide +kernel
theorem dX0_scoreOf_1 : decode cX0_scoreOf 1 = .ok (.iload_n 1, 1) := by decide +kernel
theorem dX0_scoreOf_2 : decode cX0_scoreOf 2 = .ok (.invokevirtual 57, 3) := by decide +kernel
theorem dX0_scoreOf_5 : decode cX0_scoreOf 5 = .ok (.lstore_n 2, 1) := by decide +kernel
theorem dX0_scoreOf_6 : decode cX0_scoreOf 6 = .ok (.ldc2_w 45, 3) := by decide +kernel
theorem dX0_scoreOf_9 : decode cX0_scoreOf 9 = .ok (.lload_n 2, 1) := by decide +kernel
theorem dX0_scoreOf_10 : decode cX0_scoreOf 10 = .ok (.invokestatic 70, 3) := by decide +kernel
theorem dX0_scoreOf_13 : decode cX0_scoreOf 13 = .ok (.lmul, 1) := by decide +kernel
theorem dX0_scoreOf_14 : decode cX0_scoreOf 14 = .ok (.aload_n 0, 1) := by decide +kernel
theorem dX0_scoreOf_15 : decode cX0_scoreOf 15 = .ok (.getfield 41, 3) := by decide +kernel
theorem dX0_scoreOf_18 : decode cX0_scoreOf 18 = .ok (.invokestatic 47, 3) := by decide +kernel
theorem dX0_scoreOf_21 : decode cX0_scoreOf 21 = .ok (.lstore 4, 2) := by decide +kernel
theorem dX0_scoreOf_23 : decode cX0_scoreOf 23 = .ok (.aload_n 0, 1) := by decide +kernel
theorem dX0_scoreOf_24 : decode cX0_scoreOf 24 = .ok (.iload_n 1, 1) := by decide +kernel
theorem dX0_scoreOf_25 : decode cX0_scoreOf 25 = .ok (.aload_n 0, 1) := by decide +kernel
theorem dX0_scoreOf_26 : decode cX0_scoreOf 26 = .ok (.getfield 41, 3) := by decide +kernel
theorem dX0_scoreOf_29 : decode cX0_scoreOf 29 = .ok (.invokevirtual 66, 3) := by decide +kernel
theorem dX0_scoreOf_32 : decode cX0_scoreOf 32 = .ok (.istore 6, 2) := by decide +kernel
theorem dX0_scoreOf_34 : decode cX0_scoreOf 34 = .ok (.iload 6, 2) := by decide +kernel
theorem dX0_scoreOf_36 : decode cX0_scoreOf 36 = .ok (.ifCond .ne 5, 3) := by decide +kernel
theorem dX0_scoreOf_39 : decode cX0_scoreOf 39 = .ok (.lconst 0, 1) := by decide +kernel
theorem dX0_scoreOf_40 : decode cX0_scoreOf 40 = .ok (.lreturn, 1) := by decide +kernel
theorem dX0_scoreOf_41 : decode cX0_scoreOf 41 = .ok (.lload 4, 2) := by decide +kernel
theorem dX0_scoreOf_43 : decode cX0_scoreOf 43 = .ok (.lload 4, 2) := by decide +kernel
theorem dX0_scoreOf_45 : decode cX0_scoreOf 45 = .ok (.lmul, 1) := by decide +kernel
theorem dX0_scoreOf_46 : decode cX0_scoreOf 46 = .ok (.aload_n 0, 1) := by decide +kernel
theorem dX0_scoreOf_47 : decode cX0_scoreOf 47 = .ok (.getfield 9, 3) := by decide +kernel
theorem dX0_scoreOf_50 : decode cX0_scoreOf 50 = .ok (.getfield 76, 3) := by decide +kernel
theorem dX0_scoreOf_53 : decode cX0_scoreOf 53 = .ok (.iload_n 1, 1) := by decide +kernel
theorem dX0_scoreOf_54 : decode cX0_scoreOf 54 = .ok (.iaload, 1) := by decide +kernel
theorem dX0_scoreOf_55 : decode cX0_scoreOf 55 = .ok (.i2l, 1) := by decide +kernel
theorem dX0_scoreOf_56 : decode cX0_scoreOf 56 = .ok (.lmul, 1) := by decide +kernel
theorem dX0_scoreOf_57 : decode cX0_scoreOf 57 = .ok (.iload 6, 2) := by decide +kernel
theorem dX0_scoreOf_59 : decode cX0_scoreOf 59 = .ok (.i2l, 1) := by decide +kernel
theorem dX0_scoreOf_60 : decode cX0_scoreOf 60 = .ok (.invokestatic 47, 3) := by decide +kernel
theorem dX0_scoreOf_63 : decode cX0_scoreOf 63 = .ok (.lreturn, 1) := by decide +kernel
set_option maxRecDepth 20000 in
theorem ggX0_worstObservation_X0_scoreOf : GoodIn wsX0_worstObservation wsX0_scoreOf := goodIn_r _ [8, 9, 10, 11, 12, 13, 14, 1, 15, 16, 17, 18, 7, 19, 20, 21, 22, 23, 24, 25, 26, 27, 2, 28, 29, 30, 31, 32, 33, 34, 35, 36, 37, 38, 39, 40, 41, 42, 43, 44, 45, 46, 47, 48, 49, 50, 51, 52, 53, 54, 55, 56, 57, 58, 59, 60, 61, 62, 63, 64, 65, 66, 67, 68, 69, 70, 71, 72, 73, 74, 75, 76, 77, 78, 79, 80, 81, 82, 83, 84, 85, 86, 87, 88, 89, 90, 91, 92, 93, 94, 95, 96, 97, 98, 99, 100, 101, 102, 103, 104, 105, 106] (by decide +kernel) (by decide +kernel)
set_option maxRecDepth 20000 in
theorem gX0_worstObservation_X0_scoreOf : GoodIn wsX0_worstObservation (wsV RX0 86 RX0 yX0_scoreOf wsX0_scoreOf) := goodIn_app (goodIn_of _ (by decide +kernel)) ggX0_worstObservation_X0_scoreOf
theorem dX0_worstObservation_0 : decode cX0_worstObservation 0 = .ok (.iconst (-1), 1) := by decide +kernel
theorem dX0_worstObservation_1 : decode cX0_worstObservation 1 = .ok (.istore_n 1, 1) := by decide +kernel
theorem dX0_worstObservation_2 : decode cX0_worstObservation 2 = .ok (.lconst 0, 1) := by decide +kernel
theorem dX0_worstObservation_3 : decode cX0_worstObservation 3 = .ok (.lstore_n 2, 1) := by decide +kernel
theorem dX0_worstObservation_4 : decode cX0_worstObservation 4 = .ok (.iconst 0, 1) := by decide +kernel
theorem dX0_worstObservation_5 : decode cX0_worstObservation 5 = .ok (.istore 4, 2) := by decide +kernel
theorem dX0_worstObservation_7 : decode cX0_worstObservation 7 = .ok (.iload 4, 2) := by decide +kernel
theorem dX0_worstObservation_9 : decode cX0_worstObservation 9 = .ok (.aload_n 0, 1) := by decide +kernel
theorem dX0_worstObservation_10 : decode cX0_worstObservation 10 = .ok (.getfield 9, 3) := by decide +kernel
theorem dX0_worstObservation_13 : decode cX0_worstObservation 13 = .ok (.getfield 79, 3) := by decide +kernel
theorem dX0_worstObservation_16 : decode cX0_worstObservation 16 = .ok (.if_icmp .ge 47, 3) := by decide +kernel
theorem dX0_worstObservation_19 : decode cX0_worstObservation 19 = .ok (.aload_n 0, 1) := by decide +kernel
theorem dX0_worstObservation_20 : decode cX0_worstObservation 20 = .ok (.getfield 9, 3) := by decide +kernel
theorem dX0_worstObservation_23 : decode cX0_worstObservation 23 = .ok (.getfield 82, 3) := by decide +kernel
theorem dX0_worstObservation_26 : decode cX0_worstObservation 26 = .ok (.iload 4, 2) := by decide +kernel
theorem dX0_worstObservation_28 : decode cX0_worstObservation 28 = .ok (.baload, 1) := by decide +kernel
theorem dX0_worstObservation_29 : decode cX0_worstObservation 29 = .ok (.ifCond .eq 7, 3) := by decide +kernel
theorem dX0_worstObservation_32 : decode cX0_worstObservation 32 = .ok (.lconst 0, 1) := by decide +kernel
theorem dX0_worstObservation_33 : decode cX0_worstObservation 33 = .ok (.goto 9, 3) := by decide +kernel
theorem dX0_worstObservation_36 : decode cX0_worstObservation 36 = .ok (.aload_n 0, 1) := by decide +kernel
theorem dX0_worstObservation_37 : decode cX0_worstObservation 37 = .ok (.iload 4, 2) := by decide +kernel
theorem dX0_worstObservation_39 : decode cX0_worstObservation 39 = .ok (.invokevirtual 86, 3) := by decide +kernel
theorem dX0_worstObservation_42 : decode cX0_worstObservation 42 = .ok (.lstore 5, 2) := by decide +kernel
theorem dX0_worstObservation_44 : decode cX0_worstObservation 44 = .ok (.lload 5, 2) := by decide +kernel
theorem dX0_worstObservation_46 : decode cX0_worstObservation 46 = .ok (.lload_n 2, 1) := by decide +kernel
theorem dX0_worstObservation_47 : decode cX0_worstObservation 47 = .ok (.lcmp, 1) := by decide +kernel
theorem dX0_worstObservation_48 : decode cX0_worstObservation 48 = .ok (.ifCond .le 9, 3) := by decide +kernel
theorem dX0_worstObservation_51 : decode cX0_worstObservation 51 = .ok (.iload 4, 2) := by decide +kernel
theorem dX0_worstObservation_53 : decode cX0_worstObservation 53 = .ok (.istore_n 1, 1) := by decide +kernel
theorem dX0_worstObservation_54 : decode cX0_worstObservation 54 = .ok (.lload 5, 2) := by decide +kernel
theorem dX0_worstObservation_56 : decode cX0_worstObservation 56 = .ok (.lstore_n 2, 1) := by decide +kernel
theorem dX0_worstObservation_57 : decode cX0_worstObservation 57 = .ok (.iinc 4 1, 3) := by decide +kernel
theorem dX0_worstObservation_60 : decode cX0_worstObservation 60 = .ok (.goto (-53), 3) := by decide +kernel
theorem dX0_worstObservation_63 : decode cX0_worstObservation 63 = .ok (.iload_n 1, 1) := by decide +kernel
theorem dX0_worstObservation_64 : decode cX0_worstObservation 64 = .ok (.ireturn, 1) := by decide +kernel
set_option maxRecDepth 20000 in
theorem ggX0_misfitOf_X0_solve : GoodIn wsX0_misfitOf wsX0_solve := goodIn_r _ [10, 1, 11, 12, 13, 14, 15, 16, 17, 18, 19, 20, 21, 22, 23, 24, 25, 26, 27, 9, 28, 29, 30, 31, 32, 33, 34, 35, 36, 37, 38, 39, 40, 41, 42, 43, 44, 45, 46, 47, 2, 3, 48, 4, 49, 50, 51, 52, 53, 54, 55, 56, 5, 57, 58, 59, 60, 65, 66, 67, 68, 69, 70, 71, 72, 73, 74, 75, 76, 77, 78, 79, 80] (by decide +kernel) (by decide +kernel)
set_option maxRecDepth 20000 in
theorem gX0_misfitOf_X0_solve : GoodIn wsX0_misfitOf (wsV RX0 24 RX0 yX0_solve wsX0_solve) := goodIn_app (goodIn_of _ (by decide +kernel)) ggX0_misfitOf_X0_solve
set_option maxRecDepth 20000 in
theorem ggX0_misfitOf_X0_riseOf : GoodIn wsX0_misfitOf wsX0_riseOf := goodIn_r _ [64, 31, 37, 65, 66, 67, 68, 69, 70] (by decide +kernel) (by decide +kernel)
set_option maxRecDepth 20000 in
theorem gX0_misfitOf_X0_riseOf : GoodIn wsX0_misfitOf (wsV RX0 28 RX0 yX0_riseOf wsX0_riseOf) := goodIn_app (goodIn_of _ (by decide +kernel)) ggX0_misfitOf_X0_riseOf
theorem dX0_misfitOf_0 : decode cX0_misfitOf 0 = .ok (.aload_n 0, 1) := by decide +kernel
theorem dX0_misfitOf_1 : decode cX0_misfitOf 1 = .ok (.getfield 9, 3) := by decide +kernel
theorem dX0_misfitOf_4 : decode cX0_misfitOf 4 = .ok (.getfield 60, 3) := by decide +kernel
theorem dX0_misfitOf_7 : decode cX0_misfitOf 7 = .ok (.iload_n 1, 1) := by decide +kernel
theorem dX0_misfitOf_8 : decode cX0_misfitOf 8 = .ok (.iaload, 1) := by decide +kernel
theorem dX0_misfitOf_9 : decode cX0_misfitOf 9 = .ok (.istore_n 2, 1) := by decide +kernel
theorem dX0_misfitOf_10 : decode cX0_misfitOf 10 = .ok (.aload_n 0, 1) := by decide +kernel
theorem dX0_misfitOf_11 : decode cX0_misfitOf 11 = .ok (.iload_n 2, 1) := by decide +kernel
theorem dX0_misfitOf_12 : decode cX0_misfitOf 12 = .ok (.iconst (-1), 1) := by decide +kernel
theorem dX0_misfitOf_13 : decode cX0_misfitOf 13 = .ok (.invokevirtual 24, 3) := by decide +kernel
theorem dX0_misfitOf_16 : decode cX0_misfitOf 16 = .ok (.aload_n 0, 1) := by decide +kernel
theorem dX0_misfitOf_17 : decode cX0_misfitOf 17 = .ok (.aload_n 0, 1) := by decide +kernel
theorem dX0_misfitOf_18 : decode cX0_misfitOf 18 = .ok (.getfield 9, 3) := by decide +kernel
theorem dX0_misfitOf_21 : decode cX0_misfitOf 21 = .ok (.getfield 89, 3) := by decide +kernel
theorem dX0_misfitOf_24 : decode cX0_misfitOf 24 = .ok (.iload_n 1, 1) := by decide +kernel
theorem dX0_misfitOf_25 : decode cX0_misfitOf 25 = .ok (.iaload, 1) := by decide +kernel
theorem dX0_misfitOf_26 : decode cX0_misfitOf 26 = .ok (.invokevirtual 28, 3) := by decide +kernel
theorem dX0_misfitOf_29 : decode cX0_misfitOf 29 = .ok (.aload_n 0, 1) := by decide +kernel
theorem dX0_misfitOf_30 : decode cX0_misfitOf 30 = .ok (.iload_n 2, 1) := by decide +kernel
theorem dX0_misfitOf_31 : decode cX0_misfitOf 31 = .ok (.invokevirtual 28, 3) := by decide +kernel
theorem dX0_misfitOf_34 : decode cX0_misfitOf 34 = .ok (.lsub, 1) := by decide +kernel
theorem dX0_misfitOf_35 : decode cX0_misfitOf 35 = .ok (.aload_n 0, 1) := by decide +kernel
theorem dX0_misfitOf_36 : decode cX0_misfitOf 36 = .ok (.getfield 9, 3) := by decide +kernel
theorem dX0_misfitOf_39 : decode cX0_misfitOf 39 = .ok (.getfield 92, 3) := by decide +kernel
theorem dX0_misfitOf_42 : decode cX0_misfitOf 42 = .ok (.iload_n 1, 1) := by decide +kernel
theorem dX0_misfitOf_43 : decode cX0_misfitOf 43 = .ok (.iaload, 1) := by decide +kernel
theorem dX0_misfitOf_44 : decode cX0_misfitOf 44 = .ok (.i2l, 1) := by decide +kernel
theorem dX0_misfitOf_45 : decode cX0_misfitOf 45 = .ok (.aload_n 0, 1) := by decide +kernel
theorem dX0_misfitOf_46 : decode cX0_misfitOf 46 = .ok (.getfield 41, 3) := by decide +kernel
theorem dX0_misfitOf_49 : decode cX0_misfitOf 49 = .ok (.lmul, 1) := by decide +kernel
theorem dX0_misfitOf_50 : decode cX0_misfitOf 50 = .ok (.lsub, 1) := by decide +kernel
theorem dX0_misfitOf_51 : decode cX0_misfitOf 51 = .ok (.lreturn, 1) := by decide +kernel
set_option maxRecDepth 20000 in
theorem ggX0_checkAgainst_X0_solve : GoodIn wsX0_checkAgainst wsX0_solve := goodIn_r _ [9, 1, 10, 11, 12, 13, 14, 15, 16, 17, 18, 19, 20, 21, 22, 23, 24, 25, 26, 8, 27, 28, 29, 30, 31, 32, 33, 34, 35, 36, 37, 38, 39, 40, 41, 42, 43, 44, 45, 46, 2, 47, 48, 49, 50, 51, 52, 53, 54, 55, 56, 57, 4, 58, 59, 60, 61, 69, 70, 71, 72, 73, 74, 75, 76, 77, 78, 79, 80, 81, 82, 83, 84] (by decide +kernel) (by decide +kernel)
set_option maxRecDepth 20000 in
theorem gX0_checkAgainst_X0_solve : GoodIn wsX0_checkAgainst (wsV RX0 24 RX0 yX0_solve wsX0_solve) := goodIn_app (goodIn_of _ (by decide +kernel)) ggX0_checkAgainst_X0_solve
set_option maxRecDepth 20000 in
theorem ggX0_checkAgainst_X4_roundedDown : GoodIn wsX0_checkAgainst wsX4_roundedDown := goodIn_r _ [64, 65, 66, 67, 68] (by decide +kernel) (by decide +kernel)
set_option maxRecDepth 20000 in
theorem gX0_checkAgainst_X4_roundedDown_n47 : GoodIn wsX0_checkAgainst (wsX4_roundedDown) := ggX0_checkAgainst_X4_roundedDown
theorem dX0_checkAgainst_0 : decode cX0_checkAgainst 0 = .ok (.aload_n 0, 1) := by decide +kernel
theorem dX0_checkAgainst_1 : decode cX0_checkAgainst 1 = .ok (.aload_n 0, 1) := by decide +kernel
theorem dX0_checkAgainst_2 : decode cX0_checkAgainst 2 = .ok (.getfield 9, 3) := by decide +kernel
theorem dX0_checkAgainst_5 : decode cX0_checkAgainst 5 = .ok (.getfield 60, 3) := by decide +kernel
theorem dX0_checkAgainst_8 : decode cX0_checkAgainst 8 = .ok (.iload_n 1, 1) := by decide +kernel
theorem dX0_checkAgainst_9 : decode cX0_checkAgainst 9 = .ok (.iaload, 1) := by decide +kernel
theorem dX0_checkAgainst_10 : decode cX0_checkAgainst 10 = .ok (.iload_n 1, 1) := by decide +kernel
theorem dX0_checkAgainst_11 : decode cX0_checkAgainst 11 = .ok (.invokevirtual 24, 3) := by decide +kernel
theorem dX0_checkAgainst_14 : decode cX0_checkAgainst 14 = .ok (.ldc2_w 95, 3) := by decide +kernel
theorem dX0_checkAgainst_17 : decode cX0_checkAgainst 17 = .ok (.aload_n 0, 1) := by decide +kernel
theorem dX0_checkAgainst_18 : decode cX0_checkAgainst 18 = .ok (.getfield 41, 3) := by decide +kernel
theorem dX0_checkAgainst_21 : decode cX0_checkAgainst 21 = .ok (.lmul, 1) := by decide +kernel
theorem dX0_checkAgainst_22 : decode cX0_checkAgainst 22 = .ok (.lload_n 2, 1) := by decide +kernel
theorem dX0_checkAgainst_23 : decode cX0_checkAgainst 23 = .ok (.invokestatic 47, 3) := by decide +kernel
theorem dX0_checkAgainst_26 : decode cX0_checkAgainst 26 = .ok (.l2i, 1) := by decide +kernel
theorem dX0_checkAgainst_27 : decode cX0_checkAgainst 27 = .ok (.ireturn, 1) := by decide +kernel
theorem dX0_riseOf_0 : decode cX0_riseOf 0 = .ok (.aload_n 0, 1) := by decide +kernel
theorem dX0_riseOf_1 : decode cX0_riseOf 1 = .ok (.getfield 15, 3) := by decide +kernel
theorem dX0_riseOf_4 : decode cX0_riseOf 4 = .ok (.iload_n 1, 1) := by decide +kernel
theorem dX0_riseOf_5 : decode cX0_riseOf 5 = .ok (.iaload, 1) := by decide +kernel
theorem dX0_riseOf_6 : decode cX0_riseOf 6 = .ok (.istore_n 2, 1) := by decide +kernel
theorem dX0_riseOf_7 : decode cX0_riseOf 7 = .ok (.iload_n 2, 1) := by decide +kernel
theorem dX0_riseOf_8 : decode cX0_riseOf 8 = .ok (.iconst (-1), 1) := by decide +kernel
theorem dX0_riseOf_9 : decode cX0_riseOf 9 = .ok (.if_icmp .ne 7, 3) := by decide +kernel
theorem dX0_riseOf_12 : decode cX0_riseOf 12 = .ok (.lconst 0, 1) := by decide +kernel
theorem dX0_riseOf_13 : decode cX0_riseOf 13 = .ok (.goto 11, 3) := by decide +kernel
theorem dX0_riseOf_16 : decode cX0_riseOf 16 = .ok (.aload_n 0, 1) := by decide +kernel
theorem dX0_riseOf_17 : decode cX0_riseOf 17 = .ok (.getfield 21, 3) := by decide +kernel
theorem dX0_riseOf_20 : decode cX0_riseOf 20 = .ok (.iload_n 2, 1) := by decide +kernel
theorem dX0_riseOf_21 : decode cX0_riseOf 21 = .ok (.aaload, 1) := by decide +kernel
theorem dX0_riseOf_22 : decode cX0_riseOf 22 = .ok (.iconst 5, 1) := by decide +kernel
theorem dX0_riseOf_23 : decode cX0_riseOf 23 = .ok (.laload, 1) := by decide +kernel
theorem dX0_riseOf_24 : decode cX0_riseOf 24 = .ok (.lreturn, 1) := by decide +kernel
set_option maxRecDepth 20000 in
theorem ggX0_solve_X1_datumOf : GoodIn wsX0_solve wsX1_datumOf := goodIn_r _ [8, 9, 10, 11, 12, 13, 14, 7, 15, 63, 64, 65, 66, 67, 68, 69, 70, 71, 72] (by decide +kernel) (by decide +kernel)
set_option maxRecDepth 20000 in
theorem gX0_solve_X1_datumOf : GoodIn wsX0_solve (wsV RX0 97 RX1 yX1_datumOf wsX1_datumOf) := goodIn_app (goodIn_of _ (by decide +kernel)) ggX0_solve_X1_datumOf
set_option maxRecDepth 20000 in
theorem ggX0_solve_X0_numberUnknowns : GoodIn wsX0_solve wsX0_numberUnknowns := goodIn_r _ [20, 21, 1, 22, 2, 23, 24, 13, 14, 7, 15, 11, 57, 58, 59, 60, 61, 62, 63, 64, 65, 66, 67, 68, 69, 70, 71, 72] (by decide +kernel) (by decide +kernel)
set_option maxRecDepth 20000 in
theorem gX0_solve_X0_numberUnknowns : GoodIn wsX0_solve (wsV RX0 101 RX0 yX0_numberUnknowns wsX0_numberUnknowns) := goodIn_app (goodIn_of _ (by decide +kernel)) ggX0_solve_X0_numberUnknowns
set_option maxRecDepth 20000 in
theorem ggX0_solve_X0_clearCells : GoodIn wsX0_solve wsX0_clearCells := goodIn_r _ [28, 29, 57, 58, 59, 60, 61, 62] (by decide +kernel) (by decide +kernel)
set_option maxRecDepth 20000 in
theorem gX0_solve_X0_clearCells : GoodIn wsX0_solve (wsV RX0 104 RX0 yX0_clearCells wsX0_clearCells) := goodIn_app (goodIn_of _ (by decide +kernel)) ggX0_solve_X0_clearCells
set_option maxRecDepth 20000 in
theorem ggX0_solve_X1_isInPartOf : GoodIn wsX0_solve wsX1_isInPartOf := goodIn_r _ [33, 34, 35, 12, 13, 14, 7, 15, 11, 63, 64, 65, 66, 67, 68, 69, 70, 71, 72] (by decide +kernel) (by decide +kernel)
set_option maxRecDepth 20000 in
theorem gX0_solve_X1_isInPartOf : GoodIn wsX0_solve (wsV RX0 107 RX1 yX1_isInPartOf wsX1_isInPartOf) := goodIn_app (goodIn_of _ (by decide +kernel)) ggX0_solve_X1_isInPartOf
set_option maxRecDepth 20000 in
theorem ggX0_solve_X0_addToCells : GoodIn wsX0_solve wsX0_addToCells := goodIn_r _ [39, 23, 1, 40, 41, 42, 43, 44, 45, 46, 19, 47, 29, 57, 58, 59, 60, 61, 62, 63, 64, 65, 66, 67, 68, 69, 70, 71, 72] (by decide +kernel) (by decide +kernel)
set_option maxRecDepth 20000 in
theorem gX0_solve_X0_addToCells : GoodIn wsX0_solve (wsV RX0 111 RX0 yX0_addToCells wsX0_addToCells) := goodIn_app (goodIn_of _ (by decide +kernel)) ggX0_solve_X0_addToCells
set_option maxRecDepth 20000 in
theorem ggX0_solve_X0_eliminate : GoodIn wsX0_solve wsX0_eliminate := goodIn_r _ [51, 21, 29, 52, 53, 54, 55, 19, 56, 57, 58, 59, 60, 61, 62] (by decide +kernel) (by decide +kernel)
set_option maxRecDepth 20000 in
theorem gX0_solve_X0_eliminate : GoodIn wsX0_solve (wsV RX0 115 RX0 yX0_eliminate wsX0_eliminate) := goodIn_app (goodIn_of _ (by decide +kernel)) ggX0_solve_X0_eliminate
theorem dX0_solve_0 : decode cX0_solve 0 = .ok (.aload_n 0, 1) := by decide +kernel
theorem dX0_solve_1 : decode cX0_solve 1 = .ok (.aload_n 0, 1) := by decide +kernel
theorem dX0_solve_2 : decode cX0_solve 2 = .ok (.getfield 9, 3) := by decide +kernel
theorem dX0_solve_5 : decode cX0_solve 5 = .ok (.iload_n 1, 1) := by decide +kernel
theorem dX0_solve_6 : decode cX0_solve 6 = .ok (.invokevirtual 97, 3) := by decide +kernel
theorem dX0_solve_9 : decode cX0_solve 9 = .ok (.putfield 37, 3) := by decide +kernel
theorem dX0_solve_12 : decode cX0_solve 12 = .ok (.aload_n 0, 1) := by decide +kernel
theorem dX0_solve_13 : decode cX0_solve 13 = .ok (.invokevirtual 101, 3) := by decide +kernel
theorem dX0_solve_16 : decode cX0_solve 16 = .ok (.aload_n 0, 1) := by decide +kernel
theorem dX0_solve_17 : decode cX0_solve 17 = .ok (.invokevirtual 104, 3) := by decide +kernel
theorem dX0_solve_20 : decode cX0_solve 20 = .ok (.iconst 0, 1) := by decide +kernel
theorem dX0_solve_21 : decode cX0_solve 21 = .ok (.istore_n 3, 1) := by decide +kernel
theorem dX0_solve_22 : decode cX0_solve 22 = .ok (.iload_n 3, 1) := by decide +kernel
theorem dX0_solve_23 : decode cX0_solve 23 = .ok (.aload_n 0, 1) := by decide +kernel
theorem dX0_solve_24 : decode cX0_solve 24 = .ok (.getfield 9, 3) := by decide +kernel
theorem dX0_solve_27 : decode cX0_solve 27 = .ok (.getfield 79, 3) := by decide +kernel
theorem dX0_solve_30 : decode cX0_solve 30 = .ok (.if_icmp .ge 34, 3) := by decide +kernel
theorem dX0_solve_33 : decode cX0_solve 33 = .ok (.iload_n 3, 1) := by decide +kernel
theorem dX0_solve_34 : decode cX0_solve 34 = .ok (.iload_n 2, 1) := by decide +kernel
theorem dX0_solve_35 : decode cX0_solve 35 = .ok (.if_icmp .eq 23, 3) := by decide +kernel
theorem dX0_solve_38 : decode cX0_solve 38 = .ok (.aload_n 0, 1) := by decide +kernel
theorem dX0_solve_39 : decode cX0_solve 39 = .ok (.getfield 9, 3) := by decide +kernel
theorem dX0_solve_42 : decode cX0_solve 42 = .ok (.iload_n 3, 1) := by decide +kernel
theorem dX0_solve_43 : decode cX0_solve 43 = .ok (.aload_n 0, 1) := by decide +kernel
theorem dX0_solve_44 : decode cX0_solve 44 = .ok (.getfield 37, 3) := by decide +kernel
theorem dX0_solve_47 : decode cX0_solve 47 = .ok (.invokevirtual 107, 3) := by decide +kernel
theorem dX0_solve_50 : decode cX0_solve 50 = .ok (.ifCond .eq 8, 3) := by decide +kernel
theorem dX0_solve_53 : decode cX0_solve 53 = .ok (.aload_n 0, 1) := by decide +kernel
theorem dX0_solve_54 : decode cX0_solve 54 = .ok (.iload_n 3, 1) := by decide +kernel
theorem dX0_solve_55 : decode cX0_solve 55 = .ok (.invokevirtual 111, 3) := by decide +kernel
theorem dX0_solve_58 : decode cX0_solve 58 = .ok (.iinc 3 1, 3) := by decide +kernel
theorem dX0_solve_61 : decode cX0_solve 61 = .ok (.goto (-39), 3) := by decide +kernel
theorem dX0_solve_64 : decode cX0_solve 64 = .ok (.aload_n 0, 1) := by decide +kernel
theorem dX0_solve_65 : decode cX0_solve 65 = .ok (.invokevirtual 115, 3) := by decide +kernel
theorem dX0_solve_68 : decode cX0_solve 68 = .ok (.return_, 1) := by decide +kernel
set_option maxRecDepth 20000 in
theorem ggX0_numberUnknowns_X1_areInOnePart : GoodIn wsX0_numberUnknowns wsX1_areInOnePart := goodIn_r _ [10, 11, 18, 19, 20, 21, 22, 23, 24, 25, 26, 27] (by decide +kernel) (by decide +kernel)
set_option maxRecDepth 20000 in
theorem gX0_numberUnknowns_X1_areInOnePart : GoodIn wsX0_numberUnknowns (wsV RX0 118 RX1 yX1_areInOnePart wsX1_areInOnePart) := goodIn_app (goodIn_of _ (by decide +kernel)) ggX0_numberUnknowns_X1_areInOnePart
theorem dX0_numberUnknowns_0 : decode cX0_numberUnknowns 0 = .ok (.aload_n 0, 1) := by decide +kernel
theorem dX0_numberUnknowns_1 : decode cX0_numberUnknowns 1 = .ok (.iconst 0, 1) := by decide +kernel
theorem dX0_numberUnknowns_2 : decode cX0_numberUnknowns 2 = .ok (.putfield 54, 3) := by decide +kernel
theorem dX0_numberUnknowns_5 : decode cX0_numberUnknowns 5 = .ok (.iconst 0, 1) := by decide +kernel
theorem dX0_numberUnknowns_6 : decode cX0_numberUnknowns 6 = .ok (.istore_n 1, 1) := by decide +kernel
theorem dX0_numberUnknowns_7 : decode cX0_numberUnknowns 7 = .ok (.iload_n 1, 1) := by decide +kernel
theorem dX0_numberUnknowns_8 : decode cX0_numberUnknowns 8 = .ok (.aload_n 0, 1) := by decide +kernel
theorem dX0_numberUnknowns_9 : decode cX0_numberUnknowns 9 = .ok (.getfield 9, 3) := by decide +kernel
theorem dX0_numberUnknowns_12 : decode cX0_numberUnknowns 12 = .ok (.getfield 51, 3) := by decide +kernel
theorem dX0_numberUnknowns_15 : decode cX0_numberUnknowns 15 = .ok (.if_icmp .ge 70, 3) := by decide +kernel
theorem dX0_numberUnknowns_18 : decode cX0_numberUnknowns 18 = .ok (.iload_n 1, 1) := by decide +kernel
theorem dX0_numberUnknowns_19 : decode cX0_numberUnknowns 19 = .ok (.aload_n 0, 1) := by decide +kernel
theorem dX0_numberUnknowns_20 : decode cX0_numberUnknowns 20 = .ok (.getfield 37, 3) := by decide +kernel
theorem dX0_numberUnknowns_23 : decode cX0_numberUnknowns 23 = .ok (.if_icmp .eq 22, 3) := by decide +kernel
theorem dX0_numberUnknowns_26 : decode cX0_numberUnknowns 26 = .ok (.aload_n 0, 1) := by decide +kernel
theorem dX0_numberUnknowns_27 : decode cX0_numberUnknowns 27 = .ok (.getfield 9, 3) := by decide +kernel
theorem dX0_numberUnknowns_30 : decode cX0_numberUnknowns 30 = .ok (.iload_n 1, 1) := by decide +kernel
theorem dX0_numberUnknowns_31 : decode cX0_numberUnknowns 31 = .ok (.aload_n 0, 1) := by decide +kernel
theorem dX0_numberUnknowns_32 : decode cX0_numberUnknowns 32 = .ok (.getfield 37, 3) := by decide +kernel
theorem dX0_numberUnknowns_35 : decode cX0_numberUnknowns 35 = .ok (.invokevirtual 118, 3) := by decide +kernel
theorem dX0_numberUnknowns_38 : decode cX0_numberUnknowns 38 = .ok (.ifCond .eq 7, 3) := by decide +kernel
theorem dX0_numberUnknowns_41 : decode cX0_numberUnknowns 41 = .ok (.iconst 1, 1) := by decide +kernel
theorem dX0_numberUnknowns_42 : decode cX0_numberUnknowns 42 = .ok (.goto 4, 3) := by decide +kernel
theorem dX0_numberUnknowns_45 : decode cX0_numberUnknowns 45 = .ok (.iconst 0, 1) := by decide +kernel
theorem dX0_numberUnknowns_46 : decode cX0_numberUnknowns 46 = .ok (.istore_n 2, 1) := by decide +kernel
theorem dX0_numberUnknowns_47 : decode cX0_numberUnknowns 47 = .ok (.aload_n 0, 1) := by decide +kernel
theorem dX0_numberUnknowns_48 : decode cX0_numberUnknowns 48 = .ok (.getfield 15, 3) := by decide +kernel
theorem dX0_numberUnknowns_51 : decode cX0_numberUnknowns 51 = .ok (.iload_n 1, 1) := by decide +kernel
theorem dX0_numberUnknowns_52 : decode cX0_numberUnknowns 52 = .ok (.iload_n 2, 1) := by decide +kernel
theorem dX0_numberUnknowns_53 : decode cX0_numberUnknowns 53 = .ok (.ifCond .eq 10, 3) := by decide +kernel
theorem dX0_numberUnknowns_56 : decode cX0_numberUnknowns 56 = .ok (.aload_n 0, 1) := by decide +kernel
theorem dX0_numberUnknowns_57 : decode cX0_numberUnknowns 57 = .ok (.getfield 54, 3) := by decide +kernel
theorem dX0_numberUnknowns_60 : decode cX0_numberUnknowns 60 = .ok (.goto 4, 3) := by decide +kernel
theorem dX0_numberUnknowns_63 : decode cX0_numberUnknowns 63 = .ok (.iconst (-1), 1) := by decide +kernel
theorem dX0_numberUnknowns_64 : decode cX0_numberUnknowns 64 = .ok (.iastore, 1) := by decide +kernel
theorem dX0_numberUnknowns_65 : decode cX0_numberUnknowns 65 = .ok (.iload_n 2, 1) := by decide +kernel
theorem dX0_numberUnknowns_66 : decode cX0_numberUnknowns 66 = .ok (.ifCond .eq 13, 3) := by decide +kernel
theorem dX0_numberUnknowns_69 : decode cX0_numberUnknowns 69 = .ok (.aload_n 0, 1) := by decide +kernel
theorem dX0_numberUnknowns_70 : decode cX0_numberUnknowns 70 = .ok (.dup, 1) := by decide +kernel
theorem dX0_numberUnknowns_71 : decode cX0_numberUnknowns 71 = .ok (.getfield 54, 3) := by decide +kernel
theorem dX0_numberUnknowns_74 : decode cX0_numberUnknowns 74 = .ok (.iconst 1, 1) := by decide +kernel
theorem dX0_numberUnknowns_75 : decode cX0_numberUnknowns 75 = .ok (.iadd, 1) := by decide +kernel
theorem dX0_numberUnknowns_76 : decode cX0_numberUnknowns 76 = .ok (.putfield 54, 3) := by decide +kernel
theorem dX0_numberUnknowns_79 : decode cX0_numberUnknowns 79 = .ok (.iinc 1 1, 3) := by decide +kernel
theorem dX0_numberUnknowns_82 : decode cX0_numberUnknowns 82 = .ok (.goto (-75), 3) := by decide +kernel
theorem dX0_numberUnknowns_85 : decode cX0_numberUnknowns 85 = .ok (.return_, 1) := by decide +kernel
theorem dX0_clearCells_0 : decode cX0_clearCells 0 = .ok (.iconst 0, 1) := by decide +kernel
theorem dX0_clearCells_1 : decode cX0_clearCells 1 = .ok (.istore_n 1, 1) := by decide +kernel
theorem dX0_clearCells_2 : decode cX0_clearCells 2 = .ok (.iload_n 1, 1) := by decide +kernel
theorem dX0_clearCells_3 : decode cX0_clearCells 3 = .ok (.iconst 5, 1) := by decide +kernel
theorem dX0_clearCells_4 : decode cX0_clearCells 4 = .ok (.if_icmp .ge 32, 3) := by decide +kernel
theorem dX0_clearCells_7 : decode cX0_clearCells 7 = .ok (.iconst 0, 1) := by decide +kernel
theorem dX0_clearCells_8 : decode cX0_clearCells 8 = .ok (.istore_n 2, 1) := by decide +kernel
theorem dX0_clearCells_9 : decode cX0_clearCells 9 = .ok (.iload_n 2, 1) := by decide +kernel
theorem dX0_clearCells_10 : decode cX0_clearCells 10 = .ok (.bipush 6, 2) := by decide +kernel
theorem dX0_clearCells_12 : decode cX0_clearCells 12 = .ok (.if_icmp .ge 18, 3) := by decide +kernel
theorem dX0_clearCells_15 : decode cX0_clearCells 15 = .ok (.aload_n 0, 1) := by decide +kernel
theorem dX0_clearCells_16 : decode cX0_clearCells 16 = .ok (.getfield 21, 3) := by decide +kernel
theorem dX0_clearCells_19 : decode cX0_clearCells 19 = .ok (.iload_n 1, 1) := by decide +kernel
theorem dX0_clearCells_20 : decode cX0_clearCells 20 = .ok (.aaload, 1) := by decide +kernel
theorem dX0_clearCells_21 : decode cX0_clearCells 21 = .ok (.iload_n 2, 1) := by decide +kernel
theorem dX0_clearCells_22 : decode cX0_clearCells 22 = .ok (.lconst 0, 1) := by decide +kernel
theorem dX0_clearCells_23 : decode cX0_clearCells 23 = .ok (.lastore, 1) := by decide +kernel
theorem dX0_clearCells_24 : decode cX0_clearCells 24 = .ok (.iinc 2 1, 3) := by decide +kernel
theorem dX0_clearCells_27 : decode cX0_clearCells 27 = .ok (.goto (-18), 3) := by decide +kernel
theorem dX0_clearCells_30 : decode cX0_clearCells 30 = .ok (.iinc 1 1, 3) := by decide +kernel
theorem dX0_clearCells_33 : decode cX0_clearCells 33 = .ok (.goto (-31), 3) := by decide +kernel
theorem dX0_clearCells_36 : decode cX0_clearCells 36 = .ok (.return_, 1) := by decide +kernel
set_option maxRecDepth 20000 in
theorem ggX0_addToCells_X0_addToRow : GoodIn wsX0_addToCells wsX0_addToRow := goodIn_r _ [11, 12, 13, 14, 15, 16, 17, 18] (by decide +kernel) (by decide +kernel)
set_option maxRecDepth 20000 in
theorem gX0_addToCells_X0_addToRow : GoodIn wsX0_addToCells (wsV RX0 121 RX0 yX0_addToRow wsX0_addToRow) := goodIn_app (goodIn_of _ (by decide +kernel)) ggX0_addToCells_X0_addToRow
theorem dX0_addToCells_0 : decode cX0_addToCells 0 = .ok (.aload_n 0, 1) := by decide +kernel
theorem dX0_addToCells_1 : decode cX0_addToCells 1 = .ok (.getfield 15, 3) := by decide +kernel
theorem dX0_addToCells_4 : decode cX0_addToCells 4 = .ok (.aload_n 0, 1) := by decide +kernel
theorem dX0_addToCells_5 : decode cX0_addToCells 5 = .ok (.getfield 9, 3) := by decide +kernel
theorem dX0_addToCells_8 : decode cX0_addToCells 8 = .ok (.getfield 60, 3) := by decide +kernel
theorem dX0_addToCells_11 : decode cX0_addToCells 11 = .ok (.iload_n 1, 1) := by decide +kernel
theorem dX0_addToCells_12 : decode cX0_addToCells 12 = .ok (.iaload, 1) := by decide +kernel
theorem dX0_addToCells_13 : decode cX0_addToCells 13 = .ok (.iaload, 1) := by decide +kernel
theorem dX0_addToCells_14 : decode cX0_addToCells 14 = .ok (.istore_n 2, 1) := by decide +kernel
theorem dX0_addToCells_15 : decode cX0_addToCells 15 = .ok (.aload_n 0, 1) := by decide +kernel
theorem dX0_addToCells_16 : decode cX0_addToCells 16 = .ok (.getfield 15, 3) := by decide +kernel
theorem dX0_addToCells_19 : decode cX0_addToCells 19 = .ok (.aload_n 0, 1) := by decide +kernel
theorem dX0_addToCells_20 : decode cX0_addToCells 20 = .ok (.getfield 9, 3) := by decide +kernel
theorem dX0_addToCells_23 : decode cX0_addToCells 23 = .ok (.getfield 89, 3) := by decide +kernel
theorem dX0_addToCells_26 : decode cX0_addToCells 26 = .ok (.iload_n 1, 1) := by decide +kernel
theorem dX0_addToCells_27 : decode cX0_addToCells 27 = .ok (.iaload, 1) := by decide +kernel
theorem dX0_addToCells_28 : decode cX0_addToCells 28 = .ok (.iaload, 1) := by decide +kernel
theorem dX0_addToCells_29 : decode cX0_addToCells 29 = .ok (.istore_n 3, 1) := by decide +kernel
theorem dX0_addToCells_30 : decode cX0_addToCells 30 = .ok (.aload_n 0, 1) := by decide +kernel
theorem dX0_addToCells_31 : decode cX0_addToCells 31 = .ok (.getfield 9, 3) := by decide +kernel
theorem dX0_addToCells_34 : decode cX0_addToCells 34 = .ok (.getfield 76, 3) := by decide +kernel
theorem dX0_addToCells_37 : decode cX0_addToCells 37 = .ok (.iload_n 1, 1) := by decide +kernel
theorem dX0_addToCells_38 : decode cX0_addToCells 38 = .ok (.iaload, 1) := by decide +kernel
theorem dX0_addToCells_39 : decode cX0_addToCells 39 = .ok (.i2l, 1) := by decide +kernel
theorem dX0_addToCells_40 : decode cX0_addToCells 40 = .ok (.lstore 4, 2) := by decide +kernel
theorem dX0_addToCells_42 : decode cX0_addToCells 42 = .ok (.lload 4, 2) := by decide +kernel
theorem dX0_addToCells_44 : decode cX0_addToCells 44 = .ok (.aload_n 0, 1) := by decide +kernel
theorem dX0_addToCells_45 : decode cX0_addToCells 45 = .ok (.getfield 9, 3) := by decide +kernel
theorem dX0_addToCells_48 : decode cX0_addToCells 48 = .ok (.getfield 92, 3) := by decide +kernel
theorem dX0_addToCells_51 : decode cX0_addToCells 51 = .ok (.iload_n 1, 1) := by decide +kernel
theorem dX0_addToCells_52 : decode cX0_addToCells 52 = .ok (.iaload, 1) := by decide +kernel
theorem dX0_addToCells_53 : decode cX0_addToCells 53 = .ok (.i2l, 1) := by decide +kernel
theorem dX0_addToCells_54 : decode cX0_addToCells 54 = .ok (.lmul, 1) := by decide +kernel
theorem dX0_addToCells_55 : decode cX0_addToCells 55 = .ok (.lstore 6, 2) := by decide +kernel
theorem dX0_addToCells_57 : decode cX0_addToCells 57 = .ok (.aload_n 0, 1) := by decide +kernel
theorem dX0_addToCells_58 : decode cX0_addToCells 58 = .ok (.iload_n 3, 1) := by decide +kernel
theorem dX0_addToCells_59 : decode cX0_addToCells 59 = .ok (.iload_n 2, 1) := by decide +kernel
theorem dX0_addToCells_60 : decode cX0_addToCells 60 = .ok (.lload 4, 2) := by decide +kernel
theorem dX0_addToCells_62 : decode cX0_addToCells 62 = .ok (.lload 6, 2) := by decide +kernel
theorem dX0_addToCells_64 : decode cX0_addToCells 64 = .ok (.invokevirtual 121, 3) := by decide +kernel
theorem dX0_addToCells_67 : decode cX0_addToCells 67 = .ok (.aload_n 0, 1) := by decide +kernel
theorem dX0_addToCells_68 : decode cX0_addToCells 68 = .ok (.iload_n 2, 1) := by decide +kernel
theorem dX0_addToCells_69 : decode cX0_addToCells 69 = .ok (.iload_n 3, 1) := by decide +kernel
theorem dX0_addToCells_70 : decode cX0_addToCells 70 = .ok (.lload 4, 2) := by decide +kernel
theorem dX0_addToCells_72 : decode cX0_addToCells 72 = .ok (.lload 6, 2) := by decide +kernel
theorem dX0_addToCells_74 : decode cX0_addToCells 74 = .ok (.lneg, 1) := by decide +kernel
theorem dX0_addToCells_75 : decode cX0_addToCells 75 = .ok (.invokevirtual 121, 3) := by decide +kernel
theorem dX0_addToCells_78 : decode cX0_addToCells 78 = .ok (.return_, 1) := by decide +kernel
theorem dX0_addToRow_0 : decode cX0_addToRow 0 = .ok (.iload_n 1, 1) := by decide +kernel
theorem dX0_addToRow_1 : decode cX0_addToRow 1 = .ok (.iconst (-1), 1) := by decide +kernel
theorem dX0_addToRow_2 : decode cX0_addToRow 2 = .ok (.if_icmp .ne 4, 3) := by decide +kernel
theorem dX0_addToRow_5 : decode cX0_addToRow 5 = .ok (.return_, 1) := by decide +kernel
theorem dX0_addToRow_6 : decode cX0_addToRow 6 = .ok (.aload_n 0, 1) := by decide +kernel
theorem dX0_addToRow_7 : decode cX0_addToRow 7 = .ok (.getfield 21, 3) := by decide +kernel
theorem dX0_addToRow_10 : decode cX0_addToRow 10 = .ok (.iload_n 1, 1) := by decide +kernel
theorem dX0_addToRow_11 : decode cX0_addToRow 11 = .ok (.aaload, 1) := by decide +kernel
theorem dX0_addToRow_12 : decode cX0_addToRow 12 = .ok (.iload_n 1, 1) := by decide +kernel
theorem dX0_addToRow_13 : decode cX0_addToRow 13 = .ok (.dup2, 1) := by decide +kernel
theorem dX0_addToRow_14 : decode cX0_addToRow 14 = .ok (.laload, 1) := by decide +kernel
theorem dX0_addToRow_15 : decode cX0_addToRow 15 = .ok (.lload_n 3, 1) := by decide +kernel
theorem dX0_addToRow_16 : decode cX0_addToRow 16 = .ok (.ladd, 1) := by decide +kernel
theorem dX0_addToRow_17 : decode cX0_addToRow 17 = .ok (.lastore, 1) := by decide +kernel
theorem dX0_addToRow_18 : decode cX0_addToRow 18 = .ok (.aload_n 0, 1) := by decide +kernel
theorem dX0_addToRow_19 : decode cX0_addToRow 19 = .ok (.getfield 21, 3) := by decide +kernel
theorem dX0_addToRow_22 : decode cX0_addToRow 22 = .ok (.iload_n 1, 1) := by decide +kernel
theorem dX0_addToRow_23 : decode cX0_addToRow 23 = .ok (.aaload, 1) := by decide +kernel
theorem dX0_addToRow_24 : decode cX0_addToRow 24 = .ok (.iconst 5, 1) := by decide +kernel
theorem dX0_addToRow_25 : decode cX0_addToRow 25 = .ok (.dup2, 1) := by decide +kernel
theorem dX0_addToRow_26 : decode cX0_addToRow 26 = .ok (.laload, 1) := by decide +kernel
theorem dX0_addToRow_27 : decode cX0_addToRow 27 = .ok (.lload 5, 2) := by decide +kernel
theorem dX0_addToRow_29 : decode cX0_addToRow 29 = .ok (.ladd, 1) := by decide +kernel
theorem dX0_addToRow_30 : decode cX0_addToRow 30 = .ok (.lastore, 1) := by decide +kernel
theorem dX0_addToRow_31 : decode cX0_addToRow 31 = .ok (.iload_n 2, 1) := by decide +kernel
theorem dX0_addToRow_32 : decode cX0_addToRow 32 = .ok (.iconst (-1), 1) := by decide +kernel
theorem dX0_addToRow_33 : decode cX0_addToRow 33 = .ok (.if_icmp .eq 15, 3) := by decide +kernel
theorem dX0_addToRow_36 : decode cX0_addToRow 36 = .ok (.aload_n 0, 1) := by decide +kernel
theorem dX0_addToRow_37 : decode cX0_addToRow 37 = .ok (.getfield 21, 3) := by decide +kernel
theorem dX0_addToRow_40 : decode cX0_addToRow 40 = .ok (.iload_n 1, 1) := by decide +kernel
theorem dX0_addToRow_41 : decode cX0_addToRow 41 = .ok (.aaload, 1) := by decide +kernel
theorem dX0_addToRow_42 : decode cX0_addToRow 42 = .ok (.iload_n 2, 1) := by decide +kernel
theorem dX0_addToRow_43 : decode cX0_addToRow 43 = .ok (.dup2, 1) := by decide +kernel
theorem dX0_addToRow_44 : decode cX0_addToRow 44 = .ok (.laload, 1) := by decide +kernel
theorem dX0_addToRow_45 : decode cX0_addToRow 45 = .ok (.lload_n 3, 1) := by decide +kernel
theorem dX0_addToRow_46 : decode cX0_addToRow 46 = .ok (.lsub, 1) := by decide +kernel
theorem dX0_addToRow_47 : decode cX0_addToRow 47 = .ok (.lastore, 1) := by decide +kernel
theorem dX0_addToRow_48 : decode cX0_addToRow 48 = .ok (.return_, 1) := by decide +kernel
set_option maxRecDepth 20000 in
theorem ggX0_eliminate_X0_clearColumn : GoodIn wsX0_eliminate wsX0_clearColumn := goodIn_r _ [8, 2, 9, 10, 11, 12, 13, 14] (by decide +kernel) (by decide +kernel)
set_option maxRecDepth 20000 in
theorem gX0_eliminate_X0_clearColumn : GoodIn wsX0_eliminate (wsV RX0 125 RX0 yX0_clearColumn wsX0_clearColumn) := goodIn_app (goodIn_of _ (by decide +kernel)) ggX0_eliminate_X0_clearColumn
theorem dX0_eliminate_0 : decode cX0_eliminate 0 = .ok (.lconst 1, 1) := by decide +kernel
theorem dX0_eliminate_1 : decode cX0_eliminate 1 = .ok (.lstore_n 1, 1) := by decide +kernel
theorem dX0_eliminate_2 : decode cX0_eliminate 2 = .ok (.iconst 0, 1) := by decide +kernel
theorem dX0_eliminate_3 : decode cX0_eliminate 3 = .ok (.istore_n 3, 1) := by decide +kernel
theorem dX0_eliminate_4 : decode cX0_eliminate 4 = .ok (.iload_n 3, 1) := by decide +kernel
theorem dX0_eliminate_5 : decode cX0_eliminate 5 = .ok (.aload_n 0, 1) := by decide +kernel
theorem dX0_eliminate_6 : decode cX0_eliminate 6 = .ok (.getfield 54, 3) := by decide +kernel
theorem dX0_eliminate_9 : decode cX0_eliminate 9 = .ok (.if_icmp .ge 67, 3) := by decide +kernel
theorem dX0_eliminate_12 : decode cX0_eliminate 12 = .ok (.aload_n 0, 1) := by decide +kernel
theorem dX0_eliminate_13 : decode cX0_eliminate 13 = .ok (.getfield 21, 3) := by decide +kernel
theorem dX0_eliminate_16 : decode cX0_eliminate 16 = .ok (.iload_n 3, 1) := by decide +kernel
theorem dX0_eliminate_17 : decode cX0_eliminate 17 = .ok (.aaload, 1) := by decide +kernel
theorem dX0_eliminate_18 : decode cX0_eliminate 18 = .ok (.iload_n 3, 1) := by decide +kernel
theorem dX0_eliminate_19 : decode cX0_eliminate 19 = .ok (.laload, 1) := by decide +kernel
theorem dX0_eliminate_20 : decode cX0_eliminate 20 = .ok (.lstore 4, 2) := by decide +kernel
theorem dX0_eliminate_22 : decode cX0_eliminate 22 = .ok (.lload 4, 2) := by decide +kernel
theorem dX0_eliminate_24 : decode cX0_eliminate 24 = .ok (.lconst 0, 1) := by decide +kernel
theorem dX0_eliminate_25 : decode cX0_eliminate 25 = .ok (.lcmp, 1) := by decide +kernel
theorem dX0_eliminate_26 : decode cX0_eliminate 26 = .ok (.ifCond .ne 9, 3) := by decide +kernel
theorem dX0_eliminate_29 : decode cX0_eliminate 29 = .ok (.aload_n 0, 1) := by decide +kernel
theorem dX0_eliminate_30 : decode cX0_eliminate 30 = .ok (.lconst 0, 1) := by decide +kernel
theorem dX0_eliminate_31 : decode cX0_eliminate 31 = .ok (.putfield 41, 3) := by decide +kernel
theorem dX0_eliminate_34 : decode cX0_eliminate 34 = .ok (.return_, 1) := by decide +kernel
theorem dX0_eliminate_35 : decode cX0_eliminate 35 = .ok (.iconst 0, 1) := by decide +kernel
theorem dX0_eliminate_36 : decode cX0_eliminate 36 = .ok (.istore 6, 2) := by decide +kernel
theorem dX0_eliminate_38 : decode cX0_eliminate 38 = .ok (.iload 6, 2) := by decide +kernel
theorem dX0_eliminate_40 : decode cX0_eliminate 40 = .ok (.aload_n 0, 1) := by decide +kernel
theorem dX0_eliminate_41 : decode cX0_eliminate 41 = .ok (.getfield 54, 3) := by decide +kernel
theorem dX0_eliminate_44 : decode cX0_eliminate 44 = .ok (.if_icmp .ge 23, 3) := by decide +kernel
theorem dX0_eliminate_47 : decode cX0_eliminate 47 = .ok (.iload 6, 2) := by decide +kernel
theorem dX0_eliminate_49 : decode cX0_eliminate 49 = .ok (.iload_n 3, 1) := by decide +kernel
theorem dX0_eliminate_50 : decode cX0_eliminate 50 = .ok (.if_icmp .eq 11, 3) := by decide +kernel
theorem dX0_eliminate_53 : decode cX0_eliminate 53 = .ok (.aload_n 0, 1) := by decide +kernel
theorem dX0_eliminate_54 : decode cX0_eliminate 54 = .ok (.iload 6, 2) := by decide +kernel
theorem dX0_eliminate_56 : decode cX0_eliminate 56 = .ok (.iload_n 3, 1) := by decide +kernel
theorem dX0_eliminate_57 : decode cX0_eliminate 57 = .ok (.lload_n 1, 1) := by decide +kernel
theorem dX0_eliminate_58 : decode cX0_eliminate 58 = .ok (.invokevirtual 125, 3) := by decide +kernel
theorem dX0_eliminate_61 : decode cX0_eliminate 61 = .ok (.iinc 6 1, 3) := by decide +kernel
theorem dX0_eliminate_64 : decode cX0_eliminate 64 = .ok (.goto (-26), 3) := by decide +kernel
theorem dX0_eliminate_67 : decode cX0_eliminate 67 = .ok (.lload 4, 2) := by decide +kernel
theorem dX0_eliminate_69 : decode cX0_eliminate 69 = .ok (.lstore_n 1, 1) := by decide +kernel
theorem dX0_eliminate_70 : decode cX0_eliminate 70 = .ok (.iinc 3 1, 3) := by decide +kernel
theorem dX0_eliminate_73 : decode cX0_eliminate 73 = .ok (.goto (-69), 3) := by decide +kernel
theorem dX0_eliminate_76 : decode cX0_eliminate 76 = .ok (.aload_n 0, 1) := by decide +kernel
theorem dX0_eliminate_77 : decode cX0_eliminate 77 = .ok (.lload_n 1, 1) := by decide +kernel
theorem dX0_eliminate_78 : decode cX0_eliminate 78 = .ok (.putfield 41, 3) := by decide +kernel
theorem dX0_eliminate_81 : decode cX0_eliminate 81 = .ok (.return_, 1) := by decide +kernel
theorem dX0_clearColumn_0 : decode cX0_clearColumn 0 = .ok (.aload_n 0, 1) := by decide +kernel
theorem dX0_clearColumn_1 : decode cX0_clearColumn 1 = .ok (.getfield 21, 3) := by decide +kernel
theorem dX0_clearColumn_4 : decode cX0_clearColumn 4 = .ok (.iload_n 2, 1) := by decide +kernel
theorem dX0_clearColumn_5 : decode cX0_clearColumn 5 = .ok (.aaload, 1) := by decide +kernel
theorem dX0_clearColumn_6 : decode cX0_clearColumn 6 = .ok (.iload_n 2, 1) := by decide +kernel
theorem dX0_clearColumn_7 : decode cX0_clearColumn 7 = .ok (.laload, 1) := by decide +kernel
theorem dX0_clearColumn_8 : decode cX0_clearColumn 8 = .ok (.lstore 5, 2) := by decide +kernel
theorem dX0_clearColumn_10 : decode cX0_clearColumn 10 = .ok (.aload_n 0, 1) := by decide +kernel
theorem dX0_clearColumn_11 : decode cX0_clearColumn 11 = .ok (.getfield 21, 3) := by decide +kernel
theorem dX0_clearColumn_14 : decode cX0_clearColumn 14 = .ok (.iload_n 1, 1) := by decide +kernel
theorem dX0_clearColumn_15 : decode cX0_clearColumn 15 = .ok (.aaload, 1) := by decide +kernel
theorem dX0_clearColumn_16 : decode cX0_clearColumn 16 = .ok (.iload_n 2, 1) := by decide +kernel
theorem dX0_clearColumn_17 : decode cX0_clearColumn 17 = .ok (.laload, 1) := by decide +kernel
theorem dX0_clearColumn_18 : decode cX0_clearColumn 18 = .ok (.lstore 7, 2) := by decide +kernel
theorem dX0_clearColumn_20 : decode cX0_clearColumn 20 = .ok (.iconst 0, 1) := by decide +kernel
theorem dX0_clearColumn_21 : decode cX0_clearColumn 21 = .ok (.istore 9, 2) := by decide +kernel
theorem dX0_clearColumn_23 : decode cX0_clearColumn 23 = .ok (.iload 9, 2) := by decide +kernel
theorem dX0_clearColumn_25 : decode cX0_clearColumn 25 = .ok (.bipush 6, 2) := by decide +kernel
theorem dX0_clearColumn_27 : decode cX0_clearColumn 27 = .ok (.if_icmp .ge 59, 3) := by decide +kernel
theorem dX0_clearColumn_30 : decode cX0_clearColumn 30 = .ok (.lload 5, 2) := by decide +kernel
theorem dX0_clearColumn_32 : decode cX0_clearColumn 32 = .ok (.aload_n 0, 1) := by decide +kernel
theorem dX0_clearColumn_33 : decode cX0_clearColumn 33 = .ok (.getfield 21, 3) := by decide +kernel
theorem dX0_clearColumn_36 : decode cX0_clearColumn 36 = .ok (.iload_n 1, 1) := by decide +kernel
theorem dX0_clearColumn_37 : decode cX0_clearColumn 37 = .ok (.aaload, 1) := by decide +kernel
theorem dX0_clearColumn_38 : decode cX0_clearColumn 38 = .ok (.iload 9, 2) := by decide +kernel
theorem dX0_clearColumn_40 : decode cX0_clearColumn 40 = .ok (.laload, 1) := by decide +kernel
theorem dX0_clearColumn_41 : decode cX0_clearColumn 41 = .ok (.lmul, 1) := by decide +kernel
theorem dX0_clearColumn_42 : decode cX0_clearColumn 42 = .ok (.lload 7, 2) := by decide +kernel
theorem dX0_clearColumn_44 : decode cX0_clearColumn 44 = .ok (.aload_n 0, 1) := by decide +kernel
theorem dX0_clearColumn_45 : decode cX0_clearColumn 45 = .ok (.getfield 21, 3) := by decide +kernel
theorem dX0_clearColumn_48 : decode cX0_clearColumn 48 = .ok (.iload_n 2, 1) := by decide +kernel
theorem dX0_clearColumn_49 : decode cX0_clearColumn 49 = .ok (.aaload, 1) := by decide +kernel
theorem dX0_clearColumn_50 : decode cX0_clearColumn 50 = .ok (.iload 9, 2) := by decide +kernel
theorem dX0_clearColumn_52 : decode cX0_clearColumn 52 = .ok (.laload, 1) := by decide +kernel
theorem dX0_clearColumn_53 : decode cX0_clearColumn 53 = .ok (.lmul, 1) := by decide +kernel
theorem dX0_clearColumn_54 : decode cX0_clearColumn 54 = .ok (.lsub, 1) := by decide +kernel
theorem dX0_clearColumn_55 : decode cX0_clearColumn 55 = .ok (.lstore 10, 2) := by decide +kernel
theorem dX0_clearColumn_57 : decode cX0_clearColumn 57 = .ok (.aload_n 0, 1) := by decide +kernel
theorem dX0_clearColumn_58 : decode cX0_clearColumn 58 = .ok (.getfield 21, 3) := by decide +kernel
theorem dX0_clearColumn_61 : decode cX0_clearColumn 61 = .ok (.iload_n 1, 1) := by decide +kernel
theorem dX0_clearColumn_62 : decode cX0_clearColumn 62 = .ok (.aaload, 1) := by decide +kernel
theorem dX0_clearColumn_63 : decode cX0_clearColumn 63 = .ok (.iload 9, 2) := by decide +kernel
theorem dX0_clearColumn_65 : decode cX0_clearColumn 65 = .ok (.lload_n 3, 1) := by decide +kernel
theorem dX0_clearColumn_66 : decode cX0_clearColumn 66 = .ok (.lconst 0, 1) := by decide +kernel
theorem dX0_clearColumn_67 : decode cX0_clearColumn 67 = .ok (.lcmp, 1) := by decide +kernel
theorem dX0_clearColumn_68 : decode cX0_clearColumn 68 = .ok (.ifCond .ne 7, 3) := by decide +kernel
theorem dX0_clearColumn_71 : decode cX0_clearColumn 71 = .ok (.lconst 0, 1) := by decide +kernel
theorem dX0_clearColumn_72 : decode cX0_clearColumn 72 = .ok (.goto 7, 3) := by decide +kernel
theorem dX0_clearColumn_75 : decode cX0_clearColumn 75 = .ok (.lload 10, 2) := by decide +kernel
theorem dX0_clearColumn_77 : decode cX0_clearColumn 77 = .ok (.lload_n 3, 1) := by decide +kernel
theorem dX0_clearColumn_78 : decode cX0_clearColumn 78 = .ok (.ldiv, 1) := by decide +kernel
theorem dX0_clearColumn_79 : decode cX0_clearColumn 79 = .ok (.lastore, 1) := by decide +kernel
theorem dX0_clearColumn_80 : decode cX0_clearColumn 80 = .ok (.iinc 9 1, 3) := by decide +kernel
theorem dX0_clearColumn_83 : decode cX0_clearColumn 83 = .ok (.goto (-60), 3) := by decide +kernel
theorem dX0_clearColumn_86 : decode cX0_clearColumn 86 = .ok (.return_, 1) := by decide +kernel
