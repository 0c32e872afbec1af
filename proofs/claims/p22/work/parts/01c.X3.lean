theorem dX3_init_0 : decode cX3_init 0 = .ok (.aload_n 0, 1) := by decide +kernel
theorem dX3_init_1 : decode cX3_init 1 = .ok (.invokespecial 3, 3) := by decide +kernel
theorem dX3_init_4 : decode cX3_init 4 = .ok (.aload_n 0, 1) := by decide +kernel
theorem dX3_init_5 : decode cX3_init 5 = .ok (.aload_n 1, 1) := by decide +kernel
theorem dX3_init_6 : decode cX3_init 6 = .ok (.putfield 9, 3) := by decide +kernel
theorem dX3_init_9 : decode cX3_init 9 = .ok (.aload_n 0, 1) := by decide +kernel
theorem dX3_init_10 : decode cX3_init 10 = .ok (.bipush 6, 2) := by decide +kernel
theorem dX3_init_12 : decode cX3_init 12 = .ok (.bipush 6, 2) := by decide +kernel
theorem dX3_init_14 : decode cX3_init 14 = .ok (.multianewarray 15 2, 4) := by decide +kernel
theorem dX3_init_18 : decode cX3_init 18 = .ok (.putfield 17, 3) := by decide +kernel
theorem dX3_init_21 : decode cX3_init 21 = .ok (.aload_n 0, 1) := by decide +kernel
theorem dX3_init_22 : decode cX3_init 22 = .ok (.bipush 6, 2) := by decide +kernel
theorem dX3_init_24 : decode cX3_init 24 = .ok (.bipush 6, 2) := by decide +kernel
theorem dX3_init_26 : decode cX3_init 26 = .ok (.multianewarray 15 2, 4) := by decide +kernel
theorem dX3_init_30 : decode cX3_init 30 = .ok (.putfield 20, 3) := by decide +kernel
theorem dX3_init_33 : decode cX3_init 33 = .ok (.return_, 1) := by decide +kernel
set_option maxRecDepth 20000 in
theorem ggX3_heightOf_X3_walk : GoodIn wsX3_heightOf wsX3_walk := goodIn_r _ [11, 12, 13, 2, 4, 14, 5, 15, 1, 16, 17, 18, 19, 20, 21, 22, 23, 24, 25, 26, 27, 28, 29, 30, 31, 32, 33, 34, 35, 36, 10, 37, 38, 39, 40, 41, 42, 43, 44, 45, 46, 47, 48, 49, 50, 51, 52, 53, 54, 55, 56, 57, 58, 59, 60, 68, 69, 70, 71, 72, 73, 74, 75, 76, 77, 78, 79, 80, 81, 82, 83, 84, 85, 86, 87] (by decide +kernel) (by decide +kernel)
set_option maxRecDepth 20000 in
theorem gX3_heightOf_X3_walk : GoodIn wsX3_heightOf (wsV RX3 23 RX3 yX3_walk wsX3_walk) := goodIn_app (goodIn_of _ (by decide +kernel)) ggX3_heightOf_X3_walk
set_option maxRecDepth 20000 in
theorem ggX3_heightOf_X4_roundedDown : GoodIn wsX3_heightOf wsX4_roundedDown := goodIn_r _ [63, 64, 65, 66, 67] (by decide +kernel) (by decide +kernel)
set_option maxRecDepth 20000 in
theorem gX3_heightOf_X4_roundedDown_n46 : GoodIn wsX3_heightOf (wsX4_roundedDown) := ggX3_heightOf_X4_roundedDown
theorem dX3_heightOf_0 : decode cX3_heightOf 0 = .ok (.aload_n 0, 1) := by decide +kernel
theorem dX3_heightOf_1 : decode cX3_heightOf 1 = .ok (.iload_n 1, 1) := by decide +kernel
theorem dX3_heightOf_2 : decode cX3_heightOf 2 = .ok (.iconst (-1), 1) := by decide +kernel
theorem dX3_heightOf_3 : decode cX3_heightOf 3 = .ok (.invokevirtual 23, 3) := by decide +kernel
theorem dX3_heightOf_6 : decode cX3_heightOf 6 = .ok (.aload_n 0, 1) := by decide +kernel
theorem dX3_heightOf_7 : decode cX3_heightOf 7 = .ok (.getfield 27, 3) := by decide +kernel
theorem dX3_heightOf_10 : decode cX3_heightOf 10 = .ok (.aload_n 0, 1) := by decide +kernel
theorem dX3_heightOf_11 : decode cX3_heightOf 11 = .ok (.getfield 9, 3) := by decide +kernel
theorem dX3_heightOf_14 : decode cX3_heightOf 14 = .ok (.getfield 31, 3) := by decide +kernel
theorem dX3_heightOf_17 : decode cX3_heightOf 17 = .ok (.aload_n 0, 1) := by decide +kernel
theorem dX3_heightOf_18 : decode cX3_heightOf 18 = .ok (.getfield 37, 3) := by decide +kernel
theorem dX3_heightOf_21 : decode cX3_heightOf 21 = .ok (.iaload, 1) := by decide +kernel
theorem dX3_heightOf_22 : decode cX3_heightOf 22 = .ok (.i2l, 1) := by decide +kernel
theorem dX3_heightOf_23 : decode cX3_heightOf 23 = .ok (.aload_n 0, 1) := by decide +kernel
theorem dX3_heightOf_24 : decode cX3_heightOf 24 = .ok (.getfield 41, 3) := by decide +kernel
theorem dX3_heightOf_27 : decode cX3_heightOf 27 = .ok (.lmul, 1) := by decide +kernel
theorem dX3_heightOf_28 : decode cX3_heightOf 28 = .ok (.ladd, 1) := by decide +kernel
theorem dX3_heightOf_29 : decode cX3_heightOf 29 = .ok (.lstore_n 2, 1) := by decide +kernel
theorem dX3_heightOf_30 : decode cX3_heightOf 30 = .ok (.ldc2_w 44, 3) := by decide +kernel
theorem dX3_heightOf_33 : decode cX3_heightOf 33 = .ok (.lload_n 2, 1) := by decide +kernel
theorem dX3_heightOf_34 : decode cX3_heightOf 34 = .ok (.lmul, 1) := by decide +kernel
theorem dX3_heightOf_35 : decode cX3_heightOf 35 = .ok (.aload_n 0, 1) := by decide +kernel
theorem dX3_heightOf_36 : decode cX3_heightOf 36 = .ok (.getfield 41, 3) := by decide +kernel
theorem dX3_heightOf_39 : decode cX3_heightOf 39 = .ok (.invokestatic 46, 3) := by decide +kernel
theorem dX3_heightOf_42 : decode cX3_heightOf 42 = .ok (.lreturn, 1) := by decide +kernel
set_option maxRecDepth 20000 in
theorem ggX3_checkOf_X3_walk : GoodIn wsX3_checkOf wsX3_walk := goodIn_r _ [10, 11, 12, 1, 13, 14, 4, 5, 15, 16, 17, 18, 19, 20, 21, 22, 23, 24, 25, 26, 27, 28, 29, 30, 31, 32, 33, 34, 35, 36, 9, 37, 38, 39, 40, 41, 42, 43, 44, 45, 46, 47, 2, 48, 49, 50, 51, 52, 53, 54, 55, 56, 57, 58, 59, 67, 68, 69, 70, 71, 72, 73, 74, 75, 76, 77, 78, 79, 80, 81, 82, 83, 84, 85, 86] (by decide +kernel) (by decide +kernel)
set_option maxRecDepth 20000 in
theorem gX3_checkOf_X3_walk : GoodIn wsX3_checkOf (wsV RX3 23 RX3 yX3_walk wsX3_walk) := goodIn_app (goodIn_of _ (by decide +kernel)) ggX3_checkOf_X3_walk
set_option maxRecDepth 20000 in
theorem ggX3_checkOf_X4_roundedDown : GoodIn wsX3_checkOf wsX4_roundedDown := goodIn_r _ [62, 63, 64, 65, 66] (by decide +kernel) (by decide +kernel)
set_option maxRecDepth 20000 in
theorem gX3_checkOf_X4_roundedDown_n46 : GoodIn wsX3_checkOf (wsX4_roundedDown) := ggX3_checkOf_X4_roundedDown
theorem dX3_checkOf_0 : decode cX3_checkOf 0 = .ok (.aload_n 0, 1) := by decide +kernel
theorem dX3_checkOf_1 : decode cX3_checkOf 1 = .ok (.aload_n 0, 1) := by decide +kernel
theorem dX3_checkOf_2 : decode cX3_checkOf 2 = .ok (.getfield 9, 3) := by decide +kernel
theorem dX3_checkOf_5 : decode cX3_checkOf 5 = .ok (.getfield 50, 3) := by decide +kernel
theorem dX3_checkOf_8 : decode cX3_checkOf 8 = .ok (.iload_n 1, 1) := by decide +kernel
theorem dX3_checkOf_9 : decode cX3_checkOf 9 = .ok (.iaload, 1) := by decide +kernel
theorem dX3_checkOf_10 : decode cX3_checkOf 10 = .ok (.iload_n 1, 1) := by decide +kernel
theorem dX3_checkOf_11 : decode cX3_checkOf 11 = .ok (.invokevirtual 23, 3) := by decide +kernel
theorem dX3_checkOf_14 : decode cX3_checkOf 14 = .ok (.ldc2_w 53, 3) := by decide +kernel
theorem dX3_checkOf_17 : decode cX3_checkOf 17 = .ok (.aload_n 0, 1) := by decide +kernel
theorem dX3_checkOf_18 : decode cX3_checkOf 18 = .ok (.getfield 41, 3) := by decide +kernel
theorem dX3_checkOf_21 : decode cX3_checkOf 21 = .ok (.aload_n 0, 1) := by decide +kernel
theorem dX3_checkOf_22 : decode cX3_checkOf 22 = .ok (.getfield 55, 3) := by decide +kernel
theorem dX3_checkOf_25 : decode cX3_checkOf 25 = .ok (.lsub, 1) := by decide +kernel
theorem dX3_checkOf_26 : decode cX3_checkOf 26 = .ok (.lmul, 1) := by decide +kernel
theorem dX3_checkOf_27 : decode cX3_checkOf 27 = .ok (.aload_n 0, 1) := by decide +kernel
theorem dX3_checkOf_28 : decode cX3_checkOf 28 = .ok (.getfield 41, 3) := by decide +kernel
theorem dX3_checkOf_31 : decode cX3_checkOf 31 = .ok (.invokestatic 46, 3) := by decide +kernel
theorem dX3_checkOf_34 : decode cX3_checkOf 34 = .ok (.l2i, 1) := by decide +kernel
theorem dX3_checkOf_35 : decode cX3_checkOf 35 = .ok (.ireturn, 1) := by decide +kernel
set_option maxRecDepth 20000 in
theorem ggX3_walk_X1_datumOf : GoodIn wsX3_walk wsX1_datumOf := goodIn_r _ [16, 17, 18, 19, 20, 21, 22, 15, 23, 65, 66, 67, 68, 69, 70, 71, 72, 73, 74] (by decide +kernel) (by decide +kernel)
set_option maxRecDepth 20000 in
theorem gX3_walk_X1_datumOf : GoodIn wsX3_walk (wsV RX3 64 RX1 yX1_datumOf wsX1_datumOf) := goodIn_app (goodIn_of _ (by decide +kernel)) ggX3_walk_X1_datumOf
set_option maxRecDepth 20000 in
theorem ggX3_walk_X1_countStationsWith : GoodIn wsX3_walk wsX1_countStationsWith := goodIn_r _ [27, 17, 20, 21, 22, 15, 23, 19, 65, 66, 67, 68, 69, 70, 71, 72, 73, 74] (by decide +kernel) (by decide +kernel)
set_option maxRecDepth 20000 in
theorem gX3_walk_X1_countStationsWith : GoodIn wsX3_walk (wsV RX3 68 RX1 yX1_countStationsWith wsX1_countStationsWith) := goodIn_app (goodIn_of _ (by decide +kernel)) ggX3_walk_X1_countStationsWith
set_option maxRecDepth 20000 in
theorem ggX3_walk_X3_grow : GoodIn wsX3_walk wsX3_grow := goodIn_r _ [31, 5, 3, 32, 2, 33, 34, 35, 36, 30, 37, 6, 8, 11, 1, 4, 7, 38, 39, 40, 41, 10, 42, 43, 44, 45, 46, 15, 47, 48, 49, 20, 21, 22, 23, 19, 50, 51, 52, 53, 54, 9, 28, 29, 55, 56, 57, 58, 59, 60, 61, 62, 63, 64, 65, 66, 67, 68, 69, 70, 71, 72, 73, 74] (by decide +kernel) (by decide +kernel)
set_option maxRecDepth 20000 in
theorem gX3_walk_X3_grow : GoodIn wsX3_walk (va_wsS RX3 77 yX3_grow wsX3_grow) := goodIn_app (goodIn_of _ (by decide +kernel)) ggX3_walk_X3_grow
theorem dX3_walk_0 : decode cX3_walk 0 = .ok (.aload_n 0, 1) := by decide +kernel
theorem dX3_walk_1 : decode cX3_walk 1 = .ok (.iload_n 1, 1) := by decide +kernel
theorem dX3_walk_2 : decode cX3_walk 2 = .ok (.putfield 58, 3) := by decide +kernel
theorem dX3_walk_5 : decode cX3_walk 5 = .ok (.aload_n 0, 1) := by decide +kernel
theorem dX3_walk_6 : decode cX3_walk 6 = .ok (.iload_n 2, 1) := by decide +kernel
theorem dX3_walk_7 : decode cX3_walk 7 = .ok (.putfield 61, 3) := by decide +kernel
theorem dX3_walk_10 : decode cX3_walk 10 = .ok (.aload_n 0, 1) := by decide +kernel
theorem dX3_walk_11 : decode cX3_walk 11 = .ok (.aload_n 0, 1) := by decide +kernel
theorem dX3_walk_12 : decode cX3_walk 12 = .ok (.getfield 9, 3) := by decide +kernel
theorem dX3_walk_15 : decode cX3_walk 15 = .ok (.iload_n 1, 1) := by decide +kernel
theorem dX3_walk_16 : decode cX3_walk 16 = .ok (.invokevirtual 64, 3) := by decide +kernel
theorem dX3_walk_19 : decode cX3_walk 19 = .ok (.putfield 37, 3) := by decide +kernel
theorem dX3_walk_22 : decode cX3_walk 22 = .ok (.aload_n 0, 1) := by decide +kernel
theorem dX3_walk_23 : decode cX3_walk 23 = .ok (.aload_n 0, 1) := by decide +kernel
theorem dX3_walk_24 : decode cX3_walk 24 = .ok (.getfield 9, 3) := by decide +kernel
theorem dX3_walk_27 : decode cX3_walk 27 = .ok (.iload_n 1, 1) := by decide +kernel
theorem dX3_walk_28 : decode cX3_walk 28 = .ok (.invokevirtual 68, 3) := by decide +kernel
theorem dX3_walk_31 : decode cX3_walk 31 = .ok (.iconst 1, 1) := by decide +kernel
theorem dX3_walk_32 : decode cX3_walk 32 = .ok (.isub, 1) := by decide +kernel
theorem dX3_walk_33 : decode cX3_walk 33 = .ok (.putfield 71, 3) := by decide +kernel
theorem dX3_walk_36 : decode cX3_walk 36 = .ok (.aload_n 0, 1) := by decide +kernel
theorem dX3_walk_37 : decode cX3_walk 37 = .ok (.lconst 0, 1) := by decide +kernel
theorem dX3_walk_38 : decode cX3_walk 38 = .ok (.putfield 41, 3) := by decide +kernel
theorem dX3_walk_41 : decode cX3_walk 41 = .ok (.aload_n 0, 1) := by decide +kernel
theorem dX3_walk_42 : decode cX3_walk 42 = .ok (.lconst 0, 1) := by decide +kernel
theorem dX3_walk_43 : decode cX3_walk 43 = .ok (.putfield 55, 3) := by decide +kernel
theorem dX3_walk_46 : decode cX3_walk 46 = .ok (.aload_n 0, 1) := by decide +kernel
theorem dX3_walk_47 : decode cX3_walk 47 = .ok (.lconst 0, 1) := by decide +kernel
theorem dX3_walk_48 : decode cX3_walk 48 = .ok (.putfield 27, 3) := by decide +kernel
theorem dX3_walk_51 : decode cX3_walk 51 = .ok (.iconst 0, 1) := by decide +kernel
theorem dX3_walk_52 : decode cX3_walk 52 = .ok (.istore_n 3, 1) := by decide +kernel
theorem dX3_walk_53 : decode cX3_walk 53 = .ok (.iload_n 3, 1) := by decide +kernel
theorem dX3_walk_54 : decode cX3_walk 54 = .ok (.aload_n 0, 1) := by decide +kernel
theorem dX3_walk_55 : decode cX3_walk 55 = .ok (.getfield 9, 3) := by decide +kernel
theorem dX3_walk_58 : decode cX3_walk 58 = .ok (.getfield 74, 3) := by decide +kernel
theorem dX3_walk_61 : decode cX3_walk 61 = .ok (.if_icmp .ge 27, 3) := by decide +kernel
theorem dX3_walk_64 : decode cX3_walk 64 = .ok (.aload_n 0, 1) := by decide +kernel
theorem dX3_walk_65 : decode cX3_walk 65 = .ok (.getfield 17, 3) := by decide +kernel
theorem dX3_walk_68 : decode cX3_walk 68 = .ok (.iconst 0, 1) := by decide +kernel
theorem dX3_walk_69 : decode cX3_walk 69 = .ok (.aaload, 1) := by decide +kernel
theorem dX3_walk_70 : decode cX3_walk 70 = .ok (.iload_n 3, 1) := by decide +kernel
theorem dX3_walk_71 : decode cX3_walk 71 = .ok (.iload_n 3, 1) := by decide +kernel
theorem dX3_walk_72 : decode cX3_walk 72 = .ok (.iastore, 1) := by decide +kernel
theorem dX3_walk_73 : decode cX3_walk 73 = .ok (.aload_n 0, 1) := by decide +kernel
theorem dX3_walk_74 : decode cX3_walk 74 = .ok (.getfield 20, 3) := by decide +kernel
theorem dX3_walk_77 : decode cX3_walk 77 = .ok (.iconst 0, 1) := by decide +kernel
theorem dX3_walk_78 : decode cX3_walk 78 = .ok (.aaload, 1) := by decide +kernel
theorem dX3_walk_79 : decode cX3_walk 79 = .ok (.iload_n 3, 1) := by decide +kernel
theorem dX3_walk_80 : decode cX3_walk 80 = .ok (.iconst 0, 1) := by decide +kernel
theorem dX3_walk_81 : decode cX3_walk 81 = .ok (.iastore, 1) := by decide +kernel
theorem dX3_walk_82 : decode cX3_walk 82 = .ok (.iinc 3 1, 3) := by decide +kernel
theorem dX3_walk_85 : decode cX3_walk 85 = .ok (.goto (-32), 3) := by decide +kernel
theorem dX3_walk_88 : decode cX3_walk 88 = .ok (.aload_n 0, 1) := by decide +kernel
theorem dX3_walk_89 : decode cX3_walk 89 = .ok (.iconst 0, 1) := by decide +kernel
theorem dX3_walk_90 : decode cX3_walk 90 = .ok (.iconst 0, 1) := by decide +kernel
theorem dX3_walk_91 : decode cX3_walk 91 = .ok (.lconst 1, 1) := by decide +kernel
theorem dX3_walk_92 : decode cX3_walk 92 = .ok (.iconst 0, 1) := by decide +kernel
theorem dX3_walk_93 : decode cX3_walk 93 = .ok (.invokestatic 77, 3) := by decide +kernel
theorem dX3_walk_96 : decode cX3_walk 96 = .ok (.return_, 1) := by decide +kernel
set_option maxRecDepth 20000 in
theorem ggX3_grow_X3_countTree : GoodIn wsX3_grow wsX3_countTree := goodIn_r _ [10, 11, 12, 13, 14, 15, 16, 44, 45, 46, 47, 48, 49, 50, 51, 52, 53] (by decide +kernel) (by decide +kernel)
set_option maxRecDepth 20000 in
theorem gX3_grow_X3_countTree : GoodIn wsX3_grow (wsV RX3 81 RX3 yX3_countTree wsX3_countTree) := goodIn_app (goodIn_of _ (by decide +kernel)) ggX3_grow_X3_countTree
set_option maxRecDepth 20000 in
theorem ggX3_grow_X3_joinsPieces : GoodIn wsX3_grow wsX3_joinsPieces := goodIn_r _ [20, 2, 15, 21, 22, 23, 24, 25, 26, 27, 28, 29, 30, 31, 32, 33, 34, 35, 44, 45, 46, 47, 48, 49, 50, 51, 52, 53, 54, 55, 56, 57, 58, 59, 60, 61, 62, 63] (by decide +kernel) (by decide +kernel)
set_option maxRecDepth 20000 in
theorem gX3_grow_X3_joinsPieces : GoodIn wsX3_grow (wsV RX3 88 RX3 yX3_joinsPieces wsX3_joinsPieces) := goodIn_app (goodIn_of _ (by decide +kernel)) ggX3_grow_X3_joinsPieces
set_option maxRecDepth 20000 in
theorem ggX3_grow_X3_joinPieces : GoodIn wsX3_grow wsX3_joinPieces := goodIn_r _ [39, 2, 22, 23, 13, 40, 41, 21, 44, 45, 46, 47, 48, 49, 50, 51, 52, 53, 54, 55, 56, 57, 58, 59, 60, 61, 62, 63] (by decide +kernel) (by decide +kernel)
set_option maxRecDepth 20000 in
theorem gX3_grow_X3_joinPieces : GoodIn wsX3_grow (wsV RX3 92 RX3 yX3_joinPieces wsX3_joinPieces) := goodIn_app (goodIn_of _ (by decide +kernel)) ggX3_grow_X3_joinPieces
set_option maxRecDepth 20000 in
theorem ggX3_grow_X3_grow : GoodIn wsX3_grow wsX3_grow := goodIn_r _ [0, 1, 2, 3, 4, 5, 6, 7, 8, 9, 10, 11, 12, 13, 14, 15, 16, 17, 18, 19, 20, 21, 22, 23, 24, 25, 26, 27, 28, 29, 30, 31, 32, 33, 34, 35, 36, 37, 38, 39, 40, 41, 42, 43, 44, 45, 46, 47, 48, 49, 50, 51, 52, 53, 54, 55, 56, 57, 58, 59, 60, 61, 62, 63] (by decide +kernel) (by decide +kernel)
set_option maxRecDepth 20000 in
theorem gX3_grow_X3_grow : GoodIn wsX3_grow (va_wsS RX3 77 yX3_grow wsX3_grow) := goodIn_app (goodIn_of _ (by decide +kernel)) ggX3_grow_X3_grow
theorem dX3_grow_0 : decode cX3_grow 0 = .ok (.iload_n 1, 1) := by decide +kernel
theorem dX3_grow_1 : decode cX3_grow 1 = .ok (.aload_n 0, 1) := by decide +kernel
theorem dX3_grow_2 : decode cX3_grow 2 = .ok (.getfield 71, 3) := by decide +kernel
theorem dX3_grow_5 : decode cX3_grow 5 = .ok (.if_icmp .ge 8, 3) := by decide +kernel
theorem dX3_grow_8 : decode cX3_grow 8 = .ok (.iload_n 1, 1) := by decide +kernel
theorem dX3_grow_9 : decode cX3_grow 9 = .ok (.iconst 5, 1) := by decide +kernel
theorem dX3_grow_10 : decode cX3_grow 10 = .ok (.if_icmp .lt 12, 3) := by decide +kernel
theorem dX3_grow_13 : decode cX3_grow 13 = .ok (.aload_n 0, 1) := by decide +kernel
theorem dX3_grow_14 : decode cX3_grow 14 = .ok (.iload_n 1, 1) := by decide +kernel
theorem dX3_grow_15 : decode cX3_grow 15 = .ok (.lload_n 3, 1) := by decide +kernel
theorem dX3_grow_16 : decode cX3_grow 16 = .ok (.iload 5, 2) := by decide +kernel
theorem dX3_grow_18 : decode cX3_grow 18 = .ok (.invokevirtual 81, 3) := by decide +kernel
theorem dX3_grow_21 : decode cX3_grow 21 = .ok (.return_, 1) := by decide +kernel
theorem dX3_grow_22 : decode cX3_grow 22 = .ok (.iload_n 2, 1) := by decide +kernel
theorem dX3_grow_23 : decode cX3_grow 23 = .ok (.istore 6, 2) := by decide +kernel
theorem dX3_grow_25 : decode cX3_grow 25 = .ok (.iload 6, 2) := by decide +kernel
theorem dX3_grow_27 : decode cX3_grow 27 = .ok (.aload_n 0, 1) := by decide +kernel
theorem dX3_grow_28 : decode cX3_grow 28 = .ok (.getfield 9, 3) := by decide +kernel
theorem dX3_grow_31 : decode cX3_grow 31 = .ok (.getfield 85, 3) := by decide +kernel
theorem dX3_grow_34 : decode cX3_grow 34 = .ok (.if_icmp .ge 73, 3) := by decide +kernel
theorem dX3_grow_37 : decode cX3_grow 37 = .ok (.aload_n 0, 1) := by decide +kernel
theorem dX3_grow_38 : decode cX3_grow 38 = .ok (.iload_n 1, 1) := by decide +kernel
theorem dX3_grow_39 : decode cX3_grow 39 = .ok (.iload 6, 2) := by decide +kernel
theorem dX3_grow_41 : decode cX3_grow 41 = .ok (.invokevirtual 88, 3) := by decide +kernel
theorem dX3_grow_44 : decode cX3_grow 44 = .ok (.ifCond .eq 57, 3) := by decide +kernel
theorem dX3_grow_47 : decode cX3_grow 47 = .ok (.aload_n 0, 1) := by decide +kernel
theorem dX3_grow_48 : decode cX3_grow 48 = .ok (.iload_n 1, 1) := by decide +kernel
theorem dX3_grow_49 : decode cX3_grow 49 = .ok (.iload 6, 2) := by decide +kernel
theorem dX3_grow_51 : decode cX3_grow 51 = .ok (.invokevirtual 92, 3) := by decide +kernel
theorem dX3_grow_54 : decode cX3_grow 54 = .ok (.iload 5, 2) := by decide +kernel
theorem dX3_grow_56 : decode cX3_grow 56 = .ok (.ifCond .ne 12, 3) := by decide +kernel
theorem dX3_grow_59 : decode cX3_grow 59 = .ok (.iload 6, 2) := by decide +kernel
theorem dX3_grow_61 : decode cX3_grow 61 = .ok (.aload_n 0, 1) := by decide +kernel
theorem dX3_grow_62 : decode cX3_grow 62 = .ok (.getfield 61, 3) := by decide +kernel
theorem dX3_grow_65 : decode cX3_grow 65 = .ok (.if_icmp .ne 7, 3) := by decide +kernel
theorem dX3_grow_68 : decode cX3_grow 68 = .ok (.iconst 1, 1) := by decide +kernel
theorem dX3_grow_69 : decode cX3_grow 69 = .ok (.goto 4, 3) := by decide +kernel
theorem dX3_grow_72 : decode cX3_grow 72 = .ok (.iconst 0, 1) := by decide +kernel
theorem dX3_grow_73 : decode cX3_grow 73 = .ok (.istore 7, 2) := by decide +kernel
theorem dX3_grow_75 : decode cX3_grow 75 = .ok (.aload_n 0, 1) := by decide +kernel
theorem dX3_grow_76 : decode cX3_grow 76 = .ok (.iload_n 1, 1) := by decide +kernel
theorem dX3_grow_77 : decode cX3_grow 77 = .ok (.iconst 1, 1) := by decide +kernel
theorem dX3_grow_78 : decode cX3_grow 78 = .ok (.iadd, 1) := by decide +kernel
theorem dX3_grow_79 : decode cX3_grow 79 = .ok (.iload 6, 2) := by decide +kernel
theorem dX3_grow_81 : decode cX3_grow 81 = .ok (.iconst 1, 1) := by decide +kernel
theorem dX3_grow_82 : decode cX3_grow 82 = .ok (.iadd, 1) := by decide +kernel
theorem dX3_grow_83 : decode cX3_grow 83 = .ok (.lload_n 3, 1) := by decide +kernel
theorem dX3_grow_84 : decode cX3_grow 84 = .ok (.aload_n 0, 1) := by decide +kernel
theorem dX3_grow_85 : decode cX3_grow 85 = .ok (.getfield 9, 3) := by decide +kernel
theorem dX3_grow_88 : decode cX3_grow 88 = .ok (.getfield 95, 3) := by decide +kernel
theorem dX3_grow_91 : decode cX3_grow 91 = .ok (.iload 6, 2) := by decide +kernel
theorem dX3_grow_93 : decode cX3_grow 93 = .ok (.iaload, 1) := by decide +kernel
theorem dX3_grow_94 : decode cX3_grow 94 = .ok (.i2l, 1) := by decide +kernel
theorem dX3_grow_95 : decode cX3_grow 95 = .ok (.lmul, 1) := by decide +kernel
theorem dX3_grow_96 : decode cX3_grow 96 = .ok (.iload 7, 2) := by decide +kernel
theorem dX3_grow_98 : decode cX3_grow 98 = .ok (.invokestatic 77, 3) := by decide +kernel
theorem dX3_grow_101 : decode cX3_grow 101 = .ok (.iinc 6 1, 3) := by decide +kernel
theorem dX3_grow_104 : decode cX3_grow 104 = .ok (.goto (-79), 3) := by decide +kernel
theorem dX3_grow_107 : decode cX3_grow 107 = .ok (.return_, 1) := by decide +kernel
set_option maxRecDepth 20000 in
theorem ggX3_joinsPieces_X1_isInPartOf : GoodIn wsX3_joinsPieces wsX1_isInPartOf := goodIn_r _ [10, 11, 12, 13, 14, 15, 9, 16, 17, 28, 29, 30, 31, 32, 33, 34, 35, 36, 37] (by decide +kernel) (by decide +kernel)
set_option maxRecDepth 20000 in
theorem gX3_joinsPieces_X1_isInPartOf : GoodIn wsX3_joinsPieces (wsV RX3 98 RX1 yX1_isInPartOf wsX1_isInPartOf) := goodIn_app (goodIn_of _ (by decide +kernel)) ggX3_joinsPieces_X1_isInPartOf
theorem dX3_joinsPieces_0 : decode cX3_joinsPieces 0 = .ok (.aload_n 0, 1) := by decide +kernel
theorem dX3_joinsPieces_1 : decode cX3_joinsPieces 1 = .ok (.getfield 9, 3) := by decide +kernel
theorem dX3_joinsPieces_4 : decode cX3_joinsPieces 4 = .ok (.iload_n 2, 1) := by decide +kernel
theorem dX3_joinsPieces_5 : decode cX3_joinsPieces 5 = .ok (.aload_n 0, 1) := by decide +kernel
theorem dX3_joinsPieces_6 : decode cX3_joinsPieces 6 = .ok (.getfield 37, 3) := by decide +kernel
theorem dX3_joinsPieces_9 : decode cX3_joinsPieces 9 = .ok (.invokevirtual 98, 3) := by decide +kernel
theorem dX3_joinsPieces_12 : decode cX3_joinsPieces 12 = .ok (.ifCond .eq 42, 3) := by decide +kernel
theorem dX3_joinsPieces_15 : decode cX3_joinsPieces 15 = .ok (.aload_n 0, 1) := by decide +kernel
theorem dX3_joinsPieces_16 : decode cX3_joinsPieces 16 = .ok (.getfield 17, 3) := by decide +kernel
theorem dX3_joinsPieces_19 : decode cX3_joinsPieces 19 = .ok (.iload_n 1, 1) := by decide +kernel
theorem dX3_joinsPieces_20 : decode cX3_joinsPieces 20 = .ok (.aaload, 1) := by decide +kernel
theorem dX3_joinsPieces_21 : decode cX3_joinsPieces 21 = .ok (.aload_n 0, 1) := by decide +kernel
theorem dX3_joinsPieces_22 : decode cX3_joinsPieces 22 = .ok (.getfield 9, 3) := by decide +kernel
theorem dX3_joinsPieces_25 : decode cX3_joinsPieces 25 = .ok (.getfield 50, 3) := by decide +kernel
theorem dX3_joinsPieces_28 : decode cX3_joinsPieces 28 = .ok (.iload_n 2, 1) := by decide +kernel
theorem dX3_joinsPieces_29 : decode cX3_joinsPieces 29 = .ok (.iaload, 1) := by decide +kernel
theorem dX3_joinsPieces_30 : decode cX3_joinsPieces 30 = .ok (.iaload, 1) := by decide +kernel
theorem dX3_joinsPieces_31 : decode cX3_joinsPieces 31 = .ok (.aload_n 0, 1) := by decide +kernel
theorem dX3_joinsPieces_32 : decode cX3_joinsPieces 32 = .ok (.getfield 17, 3) := by decide +kernel
theorem dX3_joinsPieces_35 : decode cX3_joinsPieces 35 = .ok (.iload_n 1, 1) := by decide +kernel
theorem dX3_joinsPieces_36 : decode cX3_joinsPieces 36 = .ok (.aaload, 1) := by decide +kernel
theorem dX3_joinsPieces_37 : decode cX3_joinsPieces 37 = .ok (.aload_n 0, 1) := by decide +kernel
theorem dX3_joinsPieces_38 : decode cX3_joinsPieces 38 = .ok (.getfield 9, 3) := by decide +kernel
theorem dX3_joinsPieces_41 : decode cX3_joinsPieces 41 = .ok (.getfield 101, 3) := by decide +kernel
theorem dX3_joinsPieces_44 : decode cX3_joinsPieces 44 = .ok (.iload_n 2, 1) := by decide +kernel
theorem dX3_joinsPieces_45 : decode cX3_joinsPieces 45 = .ok (.iaload, 1) := by decide +kernel
theorem dX3_joinsPieces_46 : decode cX3_joinsPieces 46 = .ok (.iaload, 1) := by decide +kernel
theorem dX3_joinsPieces_47 : decode cX3_joinsPieces 47 = .ok (.if_icmp .eq 7, 3) := by decide +kernel
theorem dX3_joinsPieces_50 : decode cX3_joinsPieces 50 = .ok (.iconst 1, 1) := by decide +kernel
theorem dX3_joinsPieces_51 : decode cX3_joinsPieces 51 = .ok (.goto 4, 3) := by decide +kernel
theorem dX3_joinsPieces_54 : decode cX3_joinsPieces 54 = .ok (.iconst 0, 1) := by decide +kernel
theorem dX3_joinsPieces_55 : decode cX3_joinsPieces 55 = .ok (.ireturn, 1) := by decide +kernel
theorem dX3_joinPieces_0 : decode cX3_joinPieces 0 = .ok (.aload_n 0, 1) := by decide +kernel
theorem dX3_joinPieces_1 : decode cX3_joinPieces 1 = .ok (.getfield 9, 3) := by decide +kernel
theorem dX3_joinPieces_4 : decode cX3_joinPieces 4 = .ok (.getfield 50, 3) := by decide +kernel
theorem dX3_joinPieces_7 : decode cX3_joinPieces 7 = .ok (.iload_n 2, 1) := by decide +kernel
theorem dX3_joinPieces_8 : decode cX3_joinPieces 8 = .ok (.iaload, 1) := by decide +kernel
theorem dX3_joinPieces_9 : decode cX3_joinPieces 9 = .ok (.istore_n 3, 1) := by decide +kernel
theorem dX3_joinPieces_10 : decode cX3_joinPieces 10 = .ok (.aload_n 0, 1) := by decide +kernel
theorem dX3_joinPieces_11 : decode cX3_joinPieces 11 = .ok (.getfield 9, 3) := by decide +kernel
theorem dX3_joinPieces_14 : decode cX3_joinPieces 14 = .ok (.getfield 101, 3) := by decide +kernel
theorem dX3_joinPieces_17 : decode cX3_joinPieces 17 = .ok (.iload_n 2, 1) := by decide +kernel
theorem dX3_joinPieces_18 : decode cX3_joinPieces 18 = .ok (.iaload, 1) := by decide +kernel
theorem dX3_joinPieces_19 : decode cX3_joinPieces 19 = .ok (.istore 4, 2) := by decide +kernel
theorem dX3_joinPieces_21 : decode cX3_joinPieces 21 = .ok (.aload_n 0, 1) := by decide +kernel
theorem dX3_joinPieces_22 : decode cX3_joinPieces 22 = .ok (.getfield 20, 3) := by decide +kernel
theorem dX3_joinPieces_25 : decode cX3_joinPieces 25 = .ok (.iload_n 1, 1) := by decide +kernel
theorem dX3_joinPieces_26 : decode cX3_joinPieces 26 = .ok (.aaload, 1) := by decide +kernel
theorem dX3_joinPieces_27 : decode cX3_joinPieces 27 = .ok (.iload_n 3, 1) := by decide +kernel
theorem dX3_joinPieces_28 : decode cX3_joinPieces 28 = .ok (.iaload, 1) := by decide +kernel
theorem dX3_joinPieces_29 : decode cX3_joinPieces 29 = .ok (.aload_n 0, 1) := by decide +kernel
theorem dX3_joinPieces_30 : decode cX3_joinPieces 30 = .ok (.getfield 9, 3) := by decide +kernel
theorem dX3_joinPieces_33 : decode cX3_joinPieces 33 = .ok (.getfield 104, 3) := by decide +kernel
theorem dX3_joinPieces_36 : decode cX3_joinPieces 36 = .ok (.iload_n 2, 1) := by decide +kernel
theorem dX3_joinPieces_37 : decode cX3_joinPieces 37 = .ok (.iaload, 1) := by decide +kernel
theorem dX3_joinPieces_38 : decode cX3_joinPieces 38 = .ok (.iadd, 1) := by decide +kernel
theorem dX3_joinPieces_39 : decode cX3_joinPieces 39 = .ok (.aload_n 0, 1) := by decide +kernel
theorem dX3_joinPieces_40 : decode cX3_joinPieces 40 = .ok (.getfield 20, 3) := by decide +kernel
theorem dX3_joinPieces_43 : decode cX3_joinPieces 43 = .ok (.iload_n 1, 1) := by decide +kernel
theorem dX3_joinPieces_44 : decode cX3_joinPieces 44 = .ok (.aaload, 1) := by decide +kernel
theorem dX3_joinPieces_45 : decode cX3_joinPieces 45 = .ok (.iload 4, 2) := by decide +kernel
theorem dX3_joinPieces_47 : decode cX3_joinPieces 47 = .ok (.iaload, 1) := by decide +kernel
theorem dX3_joinPieces_48 : decode cX3_joinPieces 48 = .ok (.isub, 1) := by decide +kernel
theorem dX3_joinPieces_49 : decode cX3_joinPieces 49 = .ok (.istore 5, 2) := by decide +kernel
theorem dX3_joinPieces_51 : decode cX3_joinPieces 51 = .ok (.iconst 0, 1) := by decide +kernel
theorem dX3_joinPieces_52 : decode cX3_joinPieces 52 = .ok (.istore 6, 2) := by decide +kernel
theorem dX3_joinPieces_54 : decode cX3_joinPieces 54 = .ok (.iload 6, 2) := by decide +kernel
theorem dX3_joinPieces_56 : decode cX3_joinPieces 56 = .ok (.aload_n 0, 1) := by decide +kernel
theorem dX3_joinPieces_57 : decode cX3_joinPieces 57 = .ok (.getfield 9, 3) := by decide +kernel
theorem dX3_joinPieces_60 : decode cX3_joinPieces 60 = .ok (.getfield 74, 3) := by decide +kernel
theorem dX3_joinPieces_63 : decode cX3_joinPieces 63 = .ok (.if_icmp .ge 113, 3) := by decide +kernel
theorem dX3_joinPieces_66 : decode cX3_joinPieces 66 = .ok (.aload_n 0, 1) := by decide +kernel
theorem dX3_joinPieces_67 : decode cX3_joinPieces 67 = .ok (.getfield 17, 3) := by decide +kernel
theorem dX3_joinPieces_70 : decode cX3_joinPieces 70 = .ok (.iload_n 1, 1) := by decide +kernel
theorem dX3_joinPieces_71 : decode cX3_joinPieces 71 = .ok (.aaload, 1) := by decide +kernel
theorem dX3_joinPieces_72 : decode cX3_joinPieces 72 = .ok (.iload 6, 2) := by decide +kernel
theorem dX3_joinPieces_74 : decode cX3_joinPieces 74 = .ok (.iaload, 1) := by decide +kernel
theorem dX3_joinPieces_75 : decode cX3_joinPieces 75 = .ok (.aload_n 0, 1) := by decide +kernel
theorem dX3_joinPieces_76 : decode cX3_joinPieces 76 = .ok (.getfield 17, 3) := by decide +kernel
theorem dX3_joinPieces_79 : decode cX3_joinPieces 79 = .ok (.iload_n 1, 1) := by decide +kernel
theorem dX3_joinPieces_80 : decode cX3_joinPieces 80 = .ok (.aaload, 1) := by decide +kernel
theorem dX3_joinPieces_81 : decode cX3_joinPieces 81 = .ok (.iload 4, 2) := by decide +kernel
theorem dX3_joinPieces_83 : decode cX3_joinPieces 83 = .ok (.iaload, 1) := by decide +kernel
theorem dX3_joinPieces_84 : decode cX3_joinPieces 84 = .ok (.if_icmp .ne 7, 3) := by decide +kernel
theorem dX3_joinPieces_87 : decode cX3_joinPieces 87 = .ok (.iconst 1, 1) := by decide +kernel
theorem dX3_joinPieces_88 : decode cX3_joinPieces 88 = .ok (.goto 4, 3) := by decide +kernel
theorem dX3_joinPieces_91 : decode cX3_joinPieces 91 = .ok (.iconst 0, 1) := by decide +kernel
theorem dX3_joinPieces_92 : decode cX3_joinPieces 92 = .ok (.istore 7, 2) := by decide +kernel
theorem dX3_joinPieces_94 : decode cX3_joinPieces 94 = .ok (.aload_n 0, 1) := by decide +kernel
theorem dX3_joinPieces_95 : decode cX3_joinPieces 95 = .ok (.getfield 17, 3) := by decide +kernel
theorem dX3_joinPieces_98 : decode cX3_joinPieces 98 = .ok (.iload_n 1, 1) := by decide +kernel
theorem dX3_joinPieces_99 : decode cX3_joinPieces 99 = .ok (.iconst 1, 1) := by decide +kernel
theorem dX3_joinPieces_100 : decode cX3_joinPieces 100 = .ok (.iadd, 1) := by decide +kernel
theorem dX3_joinPieces_101 : decode cX3_joinPieces 101 = .ok (.aaload, 1) := by decide +kernel
theorem dX3_joinPieces_102 : decode cX3_joinPieces 102 = .ok (.iload 6, 2) := by decide +kernel
theorem dX3_joinPieces_104 : decode cX3_joinPieces 104 = .ok (.iload 7, 2) := by decide +kernel
theorem dX3_joinPieces_106 : decode cX3_joinPieces 106 = .ok (.ifCond .eq 14, 3) := by decide +kernel
theorem dX3_joinPieces_109 : decode cX3_joinPieces 109 = .ok (.aload_n 0, 1) := by decide +kernel
theorem dX3_joinPieces_110 : decode cX3_joinPieces 110 = .ok (.getfield 17, 3) := by decide +kernel
theorem dX3_joinPieces_113 : decode cX3_joinPieces 113 = .ok (.iload_n 1, 1) := by decide +kernel
theorem dX3_joinPieces_114 : decode cX3_joinPieces 114 = .ok (.aaload, 1) := by decide +kernel
theorem dX3_joinPieces_115 : decode cX3_joinPieces 115 = .ok (.iload_n 3, 1) := by decide +kernel
theorem dX3_joinPieces_116 : decode cX3_joinPieces 116 = .ok (.iaload, 1) := by decide +kernel
theorem dX3_joinPieces_117 : decode cX3_joinPieces 117 = .ok (.goto 12, 3) := by decide +kernel
theorem dX3_joinPieces_120 : decode cX3_joinPieces 120 = .ok (.aload_n 0, 1) := by decide +kernel
theorem dX3_joinPieces_121 : decode cX3_joinPieces 121 = .ok (.getfield 17, 3) := by decide +kernel
theorem dX3_joinPieces_124 : decode cX3_joinPieces 124 = .ok (.iload_n 1, 1) := by decide +kernel
theorem dX3_joinPieces_125 : decode cX3_joinPieces 125 = .ok (.aaload, 1) := by decide +kernel
theorem dX3_joinPieces_126 : decode cX3_joinPieces 126 = .ok (.iload 6, 2) := by decide +kernel
theorem dX3_joinPieces_128 : decode cX3_joinPieces 128 = .ok (.iaload, 1) := by decide +kernel
theorem dX3_joinPieces_129 : decode cX3_joinPieces 129 = .ok (.iastore, 1) := by decide +kernel
theorem dX3_joinPieces_130 : decode cX3_joinPieces 130 = .ok (.aload_n 0, 1) := by decide +kernel
theorem dX3_joinPieces_131 : decode cX3_joinPieces 131 = .ok (.getfield 20, 3) := by decide +kernel
theorem dX3_joinPieces_134 : decode cX3_joinPieces 134 = .ok (.iload_n 1, 1) := by decide +kernel
theorem dX3_joinPieces_135 : decode cX3_joinPieces 135 = .ok (.iconst 1, 1) := by decide +kernel
theorem dX3_joinPieces_136 : decode cX3_joinPieces 136 = .ok (.iadd, 1) := by decide +kernel
theorem dX3_joinPieces_137 : decode cX3_joinPieces 137 = .ok (.aaload, 1) := by decide +kernel
theorem dX3_joinPieces_138 : decode cX3_joinPieces 138 = .ok (.iload 6, 2) := by decide +kernel
theorem dX3_joinPieces_140 : decode cX3_joinPieces 140 = .ok (.iload 7, 2) := by decide +kernel
theorem dX3_joinPieces_142 : decode cX3_joinPieces 142 = .ok (.ifCond .eq 18, 3) := by decide +kernel
theorem dX3_joinPieces_145 : decode cX3_joinPieces 145 = .ok (.aload_n 0, 1) := by decide +kernel
theorem dX3_joinPieces_146 : decode cX3_joinPieces 146 = .ok (.getfield 20, 3) := by decide +kernel
theorem dX3_joinPieces_149 : decode cX3_joinPieces 149 = .ok (.iload_n 1, 1) := by decide +kernel
theorem dX3_joinPieces_150 : decode cX3_joinPieces 150 = .ok (.aaload, 1) := by decide +kernel
theorem dX3_joinPieces_151 : decode cX3_joinPieces 151 = .ok (.iload 6, 2) := by decide +kernel
theorem dX3_joinPieces_153 : decode cX3_joinPieces 153 = .ok (.iaload, 1) := by decide +kernel
theorem dX3_joinPieces_154 : decode cX3_joinPieces 154 = .ok (.iload 5, 2) := by decide +kernel
theorem dX3_joinPieces_156 : decode cX3_joinPieces 156 = .ok (.iadd, 1) := by decide +kernel
theorem dX3_joinPieces_157 : decode cX3_joinPieces 157 = .ok (.goto 12, 3) := by decide +kernel
theorem dX3_joinPieces_160 : decode cX3_joinPieces 160 = .ok (.aload_n 0, 1) := by decide +kernel
theorem dX3_joinPieces_161 : decode cX3_joinPieces 161 = .ok (.getfield 20, 3) := by decide +kernel
theorem dX3_joinPieces_164 : decode cX3_joinPieces 164 = .ok (.iload_n 1, 1) := by decide +kernel
theorem dX3_joinPieces_165 : decode cX3_joinPieces 165 = .ok (.aaload, 1) := by decide +kernel
theorem dX3_joinPieces_166 : decode cX3_joinPieces 166 = .ok (.iload 6, 2) := by decide +kernel
theorem dX3_joinPieces_168 : decode cX3_joinPieces 168 = .ok (.iaload, 1) := by decide +kernel
theorem dX3_joinPieces_169 : decode cX3_joinPieces 169 = .ok (.iastore, 1) := by decide +kernel
theorem dX3_joinPieces_170 : decode cX3_joinPieces 170 = .ok (.iinc 6 1, 3) := by decide +kernel
theorem dX3_joinPieces_173 : decode cX3_joinPieces 173 = .ok (.goto (-119), 3) := by decide +kernel
theorem dX3_joinPieces_176 : decode cX3_joinPieces 176 = .ok (.return_, 1) := by decide +kernel
theorem dX3_countTree_0 : decode cX3_countTree 0 = .ok (.aload_n 0, 1) := by decide +kernel
theorem dX3_countTree_1 : decode cX3_countTree 1 = .ok (.dup, 1) := by decide +kernel
theorem dX3_countTree_2 : decode cX3_countTree 2 = .ok (.getfield 41, 3) := by decide +kernel
theorem dX3_countTree_5 : decode cX3_countTree 5 = .ok (.lload_n 2, 1) := by decide +kernel
theorem dX3_countTree_6 : decode cX3_countTree 6 = .ok (.ladd, 1) := by decide +kernel
theorem dX3_countTree_7 : decode cX3_countTree 7 = .ok (.putfield 41, 3) := by decide +kernel
theorem dX3_countTree_10 : decode cX3_countTree 10 = .ok (.aload_n 0, 1) := by decide +kernel
theorem dX3_countTree_11 : decode cX3_countTree 11 = .ok (.dup, 1) := by decide +kernel
theorem dX3_countTree_12 : decode cX3_countTree 12 = .ok (.getfield 27, 3) := by decide +kernel
theorem dX3_countTree_15 : decode cX3_countTree 15 = .ok (.lload_n 2, 1) := by decide +kernel
theorem dX3_countTree_16 : decode cX3_countTree 16 = .ok (.aload_n 0, 1) := by decide +kernel
theorem dX3_countTree_17 : decode cX3_countTree 17 = .ok (.getfield 20, 3) := by decide +kernel
theorem dX3_countTree_20 : decode cX3_countTree 20 = .ok (.iload_n 1, 1) := by decide +kernel
theorem dX3_countTree_21 : decode cX3_countTree 21 = .ok (.aaload, 1) := by decide +kernel
theorem dX3_countTree_22 : decode cX3_countTree 22 = .ok (.aload_n 0, 1) := by decide +kernel
theorem dX3_countTree_23 : decode cX3_countTree 23 = .ok (.getfield 58, 3) := by decide +kernel
theorem dX3_countTree_26 : decode cX3_countTree 26 = .ok (.iaload, 1) := by decide +kernel
theorem dX3_countTree_27 : decode cX3_countTree 27 = .ok (.aload_n 0, 1) := by decide +kernel
theorem dX3_countTree_28 : decode cX3_countTree 28 = .ok (.getfield 20, 3) := by decide +kernel
theorem dX3_countTree_31 : decode cX3_countTree 31 = .ok (.iload_n 1, 1) := by decide +kernel
theorem dX3_countTree_32 : decode cX3_countTree 32 = .ok (.aaload, 1) := by decide +kernel
theorem dX3_countTree_33 : decode cX3_countTree 33 = .ok (.aload_n 0, 1) := by decide +kernel
theorem dX3_countTree_34 : decode cX3_countTree 34 = .ok (.getfield 37, 3) := by decide +kernel
theorem dX3_countTree_37 : decode cX3_countTree 37 = .ok (.iaload, 1) := by decide +kernel
theorem dX3_countTree_38 : decode cX3_countTree 38 = .ok (.isub, 1) := by decide +kernel
theorem dX3_countTree_39 : decode cX3_countTree 39 = .ok (.i2l, 1) := by decide +kernel
theorem dX3_countTree_40 : decode cX3_countTree 40 = .ok (.lmul, 1) := by decide +kernel
theorem dX3_countTree_41 : decode cX3_countTree 41 = .ok (.ladd, 1) := by decide +kernel
theorem dX3_countTree_42 : decode cX3_countTree 42 = .ok (.putfield 27, 3) := by decide +kernel
theorem dX3_countTree_45 : decode cX3_countTree 45 = .ok (.iload 4, 2) := by decide +kernel
theorem dX3_countTree_47 : decode cX3_countTree 47 = .ok (.ifCond .eq 13, 3) := by decide +kernel
theorem dX3_countTree_50 : decode cX3_countTree 50 = .ok (.aload_n 0, 1) := by decide +kernel
theorem dX3_countTree_51 : decode cX3_countTree 51 = .ok (.dup, 1) := by decide +kernel
theorem dX3_countTree_52 : decode cX3_countTree 52 = .ok (.getfield 55, 3) := by decide +kernel
theorem dX3_countTree_55 : decode cX3_countTree 55 = .ok (.lload_n 2, 1) := by decide +kernel
theorem dX3_countTree_56 : decode cX3_countTree 56 = .ok (.ladd, 1) := by decide +kernel
theorem dX3_countTree_57 : decode cX3_countTree 57 = .ok (.putfield 55, 3) := by decide +kernel
theorem dX3_countTree_60 : decode cX3_countTree 60 = .ok (.return_, 1) := by decide +kernel
set_option maxRecDepth 20000 in
theorem ggX4_init_X1_init : GoodIn wsX4_init wsX1_init := goodIn_r _ [22, 23, 2, 3, 24, 25, 26, 27, 28, 29, 30, 31, 32, 33, 56, 57, 58, 59, 60, 61, 62, 63, 64, 65] (by decide +kernel) (by decide +kernel)
set_option maxRecDepth 20000 in
theorem gX4_init_X1_init : GoodIn wsX4_init (wsX1_init) := ggX4_init_X1_init
set_option maxRecDepth 20000 in
theorem ggX4_init_X0_init : GoodIn wsX4_init wsX0_init := goodIn_r _ [36, 37, 2, 3, 38, 26, 39, 40, 41, 42, 70, 71, 72, 73, 74, 75] (by decide +kernel) (by decide +kernel)
set_option maxRecDepth 20000 in
theorem gX4_init_X0_init : GoodIn wsX4_init (wsX0_init) := ggX4_init_X0_init
set_option maxRecDepth 20000 in
theorem ggX4_init_X3_init : GoodIn wsX4_init wsX3_init := goodIn_r _ [45, 46, 2, 3, 47, 48, 26, 49, 50, 76, 77, 78, 79, 80, 81, 82, 83, 84, 85] (by decide +kernel) (by decide +kernel)
set_option maxRecDepth 20000 in
theorem gX4_init_X3_init : GoodIn wsX4_init (wsX3_init) := ggX4_init_X3_init
set_option maxRecDepth 20000 in
theorem ggX4_init_X2_init : GoodIn wsX4_init wsX2_init := goodIn_r _ [53, 54, 2, 3, 55, 86, 87, 88, 89] (by decide +kernel) (by decide +kernel)
set_option maxRecDepth 20000 in
theorem gX4_init_X2_init : GoodIn wsX4_init (wsX2_init) := ggX4_init_X2_init
