theorem dX1_init_0 : decode cX1_init 0 = .ok (.aload_n 0, 1) := by decide +kernel
theorem dX1_init_1 : decode cX1_init 1 = .ok (.invokespecial 3, 3) := by decide +kernel
theorem dX1_init_4 : decode cX1_init 4 = .ok (.aload_n 0, 1) := by decide +kernel
theorem dX1_init_5 : decode cX1_init 5 = .ok (.bipush 6, 2) := by decide +kernel
theorem dX1_init_7 : decode cX1_init 7 = .ok (.newarray .boolean, 2) := by decide +kernel
theorem dX1_init_9 : decode cX1_init 9 = .ok (.putfield 9, 3) := by decide +kernel
theorem dX1_init_12 : decode cX1_init 12 = .ok (.aload_n 0, 1) := by decide +kernel
theorem dX1_init_13 : decode cX1_init 13 = .ok (.bipush 6, 2) := by decide +kernel
theorem dX1_init_15 : decode cX1_init 15 = .ok (.newarray .int, 2) := by decide +kernel
theorem dX1_init_17 : decode cX1_init 17 = .ok (.putfield 15, 3) := by decide +kernel
theorem dX1_init_20 : decode cX1_init 20 = .ok (.aload_n 0, 1) := by decide +kernel
theorem dX1_init_21 : decode cX1_init 21 = .ok (.bipush 6, 2) := by decide +kernel
theorem dX1_init_23 : decode cX1_init 23 = .ok (.newarray .int, 2) := by decide +kernel
theorem dX1_init_25 : decode cX1_init 25 = .ok (.putfield 19, 3) := by decide +kernel
theorem dX1_init_28 : decode cX1_init 28 = .ok (.aload_n 0, 1) := by decide +kernel
theorem dX1_init_29 : decode cX1_init 29 = .ok (.bipush 14, 2) := by decide +kernel
theorem dX1_init_31 : decode cX1_init 31 = .ok (.newarray .int, 2) := by decide +kernel
theorem dX1_init_33 : decode cX1_init 33 = .ok (.putfield 22, 3) := by decide +kernel
theorem dX1_init_36 : decode cX1_init 36 = .ok (.aload_n 0, 1) := by decide +kernel
theorem dX1_init_37 : decode cX1_init 37 = .ok (.bipush 14, 2) := by decide +kernel
theorem dX1_init_39 : decode cX1_init 39 = .ok (.newarray .int, 2) := by decide +kernel
theorem dX1_init_41 : decode cX1_init 41 = .ok (.putfield 25, 3) := by decide +kernel
theorem dX1_init_44 : decode cX1_init 44 = .ok (.aload_n 0, 1) := by decide +kernel
theorem dX1_init_45 : decode cX1_init 45 = .ok (.bipush 14, 2) := by decide +kernel
theorem dX1_init_47 : decode cX1_init 47 = .ok (.newarray .int, 2) := by decide +kernel
theorem dX1_init_49 : decode cX1_init 49 = .ok (.putfield 28, 3) := by decide +kernel
theorem dX1_init_52 : decode cX1_init 52 = .ok (.aload_n 0, 1) := by decide +kernel
theorem dX1_init_53 : decode cX1_init 53 = .ok (.bipush 14, 2) := by decide +kernel
theorem dX1_init_55 : decode cX1_init 55 = .ok (.newarray .int, 2) := by decide +kernel
theorem dX1_init_57 : decode cX1_init 57 = .ok (.putfield 31, 3) := by decide +kernel
theorem dX1_init_60 : decode cX1_init 60 = .ok (.aload_n 0, 1) := by decide +kernel
theorem dX1_init_61 : decode cX1_init 61 = .ok (.bipush 14, 2) := by decide +kernel
theorem dX1_init_63 : decode cX1_init 63 = .ok (.newarray .boolean, 2) := by decide +kernel
theorem dX1_init_65 : decode cX1_init 65 = .ok (.putfield 34, 3) := by decide +kernel
theorem dX1_init_68 : decode cX1_init 68 = .ok (.return_, 1) := by decide +kernel
theorem dX1_hasStation_0 : decode cX1_hasStation 0 = .ok (.iload_n 1, 1) := by decide +kernel
theorem dX1_hasStation_1 : decode cX1_hasStation 1 = .ok (.ifCond .lt 15, 3) := by decide +kernel
theorem dX1_hasStation_4 : decode cX1_hasStation 4 = .ok (.iload_n 1, 1) := by decide +kernel
theorem dX1_hasStation_5 : decode cX1_hasStation 5 = .ok (.aload_n 0, 1) := by decide +kernel
theorem dX1_hasStation_6 : decode cX1_hasStation 6 = .ok (.getfield 37, 3) := by decide +kernel
theorem dX1_hasStation_9 : decode cX1_hasStation 9 = .ok (.if_icmp .ge 7, 3) := by decide +kernel
theorem dX1_hasStation_12 : decode cX1_hasStation 12 = .ok (.iconst 1, 1) := by decide +kernel
theorem dX1_hasStation_13 : decode cX1_hasStation 13 = .ok (.goto 4, 3) := by decide +kernel
theorem dX1_hasStation_16 : decode cX1_hasStation 16 = .ok (.iconst 0, 1) := by decide +kernel
theorem dX1_hasStation_17 : decode cX1_hasStation 17 = .ok (.ireturn, 1) := by decide +kernel
theorem dX1_hasObservation_0 : decode cX1_hasObservation 0 = .ok (.iload_n 1, 1) := by decide +kernel
theorem dX1_hasObservation_1 : decode cX1_hasObservation 1 = .ok (.ifCond .lt 15, 3) := by decide +kernel
theorem dX1_hasObservation_4 : decode cX1_hasObservation 4 = .ok (.iload_n 1, 1) := by decide +kernel
theorem dX1_hasObservation_5 : decode cX1_hasObservation 5 = .ok (.aload_n 0, 1) := by decide +kernel
theorem dX1_hasObservation_6 : decode cX1_hasObservation 6 = .ok (.getfield 41, 3) := by decide +kernel
theorem dX1_hasObservation_9 : decode cX1_hasObservation 9 = .ok (.if_icmp .ge 7, 3) := by decide +kernel
theorem dX1_hasObservation_12 : decode cX1_hasObservation 12 = .ok (.iconst 1, 1) := by decide +kernel
theorem dX1_hasObservation_13 : decode cX1_hasObservation 13 = .ok (.goto 4, 3) := by decide +kernel
theorem dX1_hasObservation_16 : decode cX1_hasObservation 16 = .ok (.iconst 0, 1) := by decide +kernel
theorem dX1_hasObservation_17 : decode cX1_hasObservation 17 = .ok (.ireturn, 1) := by decide +kernel
set_option maxRecDepth 20000 in
theorem ggX1_addStation_X1_markParts : GoodIn wsX1_addStation wsX1_markParts := goodIn_r _ [6, 1, 7, 8, 9, 10, 11, 12, 13, 14, 5, 15, 16, 17, 18, 19, 20, 21, 22, 23, 24, 25, 26, 27, 28, 29, 30, 31, 32] (by decide +kernel) (by decide +kernel)
set_option maxRecDepth 20000 in
theorem gX1_addStation_X1_markParts : GoodIn wsX1_addStation (wsV RX1 44 RX1 yX1_markParts wsX1_markParts) := goodIn_app (goodIn_of _ (by decide +kernel)) ggX1_addStation_X1_markParts
theorem dX1_addStation_0 : decode cX1_addStation 0 = .ok (.aload_n 0, 1) := by decide +kernel
theorem dX1_addStation_1 : decode cX1_addStation 1 = .ok (.getfield 37, 3) := by decide +kernel
theorem dX1_addStation_4 : decode cX1_addStation 4 = .ok (.istore_n 1, 1) := by decide +kernel
theorem dX1_addStation_5 : decode cX1_addStation 5 = .ok (.aload_n 0, 1) := by decide +kernel
theorem dX1_addStation_6 : decode cX1_addStation 6 = .ok (.iload_n 1, 1) := by decide +kernel
theorem dX1_addStation_7 : decode cX1_addStation 7 = .ok (.iconst 1, 1) := by decide +kernel
theorem dX1_addStation_8 : decode cX1_addStation 8 = .ok (.iadd, 1) := by decide +kernel
theorem dX1_addStation_9 : decode cX1_addStation 9 = .ok (.putfield 37, 3) := by decide +kernel
theorem dX1_addStation_12 : decode cX1_addStation 12 = .ok (.aload_n 0, 1) := by decide +kernel
theorem dX1_addStation_13 : decode cX1_addStation 13 = .ok (.invokevirtual 44, 3) := by decide +kernel
theorem dX1_addStation_16 : decode cX1_addStation 16 = .ok (.iload_n 1, 1) := by decide +kernel
theorem dX1_addStation_17 : decode cX1_addStation 17 = .ok (.ireturn, 1) := by decide +kernel
theorem dX1_tellHeight_0 : decode cX1_tellHeight 0 = .ok (.aload_n 0, 1) := by decide +kernel
theorem dX1_tellHeight_1 : decode cX1_tellHeight 1 = .ok (.getfield 9, 3) := by decide +kernel
theorem dX1_tellHeight_4 : decode cX1_tellHeight 4 = .ok (.iload_n 1, 1) := by decide +kernel
theorem dX1_tellHeight_5 : decode cX1_tellHeight 5 = .ok (.baload, 1) := by decide +kernel
theorem dX1_tellHeight_6 : decode cX1_tellHeight 6 = .ok (.istore 4, 2) := by decide +kernel
theorem dX1_tellHeight_8 : decode cX1_tellHeight 8 = .ok (.aload_n 0, 1) := by decide +kernel
theorem dX1_tellHeight_9 : decode cX1_tellHeight 9 = .ok (.getfield 9, 3) := by decide +kernel
theorem dX1_tellHeight_12 : decode cX1_tellHeight 12 = .ok (.iload_n 1, 1) := by decide +kernel
theorem dX1_tellHeight_13 : decode cX1_tellHeight 13 = .ok (.iload_n 3, 1) := by decide +kernel
theorem dX1_tellHeight_14 : decode cX1_tellHeight 14 = .ok (.bastore, 1) := by decide +kernel
theorem dX1_tellHeight_15 : decode cX1_tellHeight 15 = .ok (.aload_n 0, 1) := by decide +kernel
theorem dX1_tellHeight_16 : decode cX1_tellHeight 16 = .ok (.getfield 15, 3) := by decide +kernel
theorem dX1_tellHeight_19 : decode cX1_tellHeight 19 = .ok (.iload_n 1, 1) := by decide +kernel
theorem dX1_tellHeight_20 : decode cX1_tellHeight 20 = .ok (.iload_n 3, 1) := by decide +kernel
theorem dX1_tellHeight_21 : decode cX1_tellHeight 21 = .ok (.ifCond .eq 7, 3) := by decide +kernel
theorem dX1_tellHeight_24 : decode cX1_tellHeight 24 = .ok (.iload_n 2, 1) := by decide +kernel
theorem dX1_tellHeight_25 : decode cX1_tellHeight 25 = .ok (.goto 4, 3) := by decide +kernel
theorem dX1_tellHeight_28 : decode cX1_tellHeight 28 = .ok (.iconst 0, 1) := by decide +kernel
theorem dX1_tellHeight_29 : decode cX1_tellHeight 29 = .ok (.iastore, 1) := by decide +kernel
theorem dX1_tellHeight_30 : decode cX1_tellHeight 30 = .ok (.iload 4, 2) := by decide +kernel
theorem dX1_tellHeight_32 : decode cX1_tellHeight 32 = .ok (.ireturn, 1) := by decide +kernel
set_option maxRecDepth 20000 in
theorem ggX1_addObservation_X1_markParts : GoodIn wsX1_addObservation wsX1_markParts := goodIn_r _ [10, 11, 12, 1, 13, 2, 3, 14, 15, 16, 9, 17, 18, 19, 20, 21, 22, 23, 24, 25, 26, 27, 28, 29, 30, 31, 32, 33, 34] (by decide +kernel) (by decide +kernel)
set_option maxRecDepth 20000 in
theorem gX1_addObservation_X1_markParts : GoodIn wsX1_addObservation (wsV RX1 44 RX1 yX1_markParts wsX1_markParts) := goodIn_app (goodIn_of _ (by decide +kernel)) ggX1_addObservation_X1_markParts
theorem dX1_addObservation_0 : decode cX1_addObservation 0 = .ok (.aload_n 0, 1) := by decide +kernel
theorem dX1_addObservation_1 : decode cX1_addObservation 1 = .ok (.getfield 41, 3) := by decide +kernel
theorem dX1_addObservation_4 : decode cX1_addObservation 4 = .ok (.istore 5, 2) := by decide +kernel
theorem dX1_addObservation_6 : decode cX1_addObservation 6 = .ok (.aload_n 0, 1) := by decide +kernel
theorem dX1_addObservation_7 : decode cX1_addObservation 7 = .ok (.getfield 22, 3) := by decide +kernel
theorem dX1_addObservation_10 : decode cX1_addObservation 10 = .ok (.iload 5, 2) := by decide +kernel
theorem dX1_addObservation_12 : decode cX1_addObservation 12 = .ok (.iload_n 1, 1) := by decide +kernel
theorem dX1_addObservation_13 : decode cX1_addObservation 13 = .ok (.iastore, 1) := by decide +kernel
theorem dX1_addObservation_14 : decode cX1_addObservation 14 = .ok (.aload_n 0, 1) := by decide +kernel
theorem dX1_addObservation_15 : decode cX1_addObservation 15 = .ok (.getfield 25, 3) := by decide +kernel
theorem dX1_addObservation_18 : decode cX1_addObservation 18 = .ok (.iload 5, 2) := by decide +kernel
theorem dX1_addObservation_20 : decode cX1_addObservation 20 = .ok (.iload_n 2, 1) := by decide +kernel
theorem dX1_addObservation_21 : decode cX1_addObservation 21 = .ok (.iastore, 1) := by decide +kernel
theorem dX1_addObservation_22 : decode cX1_addObservation 22 = .ok (.aload_n 0, 1) := by decide +kernel
theorem dX1_addObservation_23 : decode cX1_addObservation 23 = .ok (.getfield 28, 3) := by decide +kernel
theorem dX1_addObservation_26 : decode cX1_addObservation 26 = .ok (.iload 5, 2) := by decide +kernel
theorem dX1_addObservation_28 : decode cX1_addObservation 28 = .ok (.iload_n 3, 1) := by decide +kernel
theorem dX1_addObservation_29 : decode cX1_addObservation 29 = .ok (.iastore, 1) := by decide +kernel
theorem dX1_addObservation_30 : decode cX1_addObservation 30 = .ok (.aload_n 0, 1) := by decide +kernel
theorem dX1_addObservation_31 : decode cX1_addObservation 31 = .ok (.getfield 31, 3) := by decide +kernel
theorem dX1_addObservation_34 : decode cX1_addObservation 34 = .ok (.iload 5, 2) := by decide +kernel
theorem dX1_addObservation_36 : decode cX1_addObservation 36 = .ok (.iload 4, 2) := by decide +kernel
theorem dX1_addObservation_38 : decode cX1_addObservation 38 = .ok (.iastore, 1) := by decide +kernel
theorem dX1_addObservation_39 : decode cX1_addObservation 39 = .ok (.aload_n 0, 1) := by decide +kernel
theorem dX1_addObservation_40 : decode cX1_addObservation 40 = .ok (.iload 5, 2) := by decide +kernel
theorem dX1_addObservation_42 : decode cX1_addObservation 42 = .ok (.iconst 1, 1) := by decide +kernel
theorem dX1_addObservation_43 : decode cX1_addObservation 43 = .ok (.iadd, 1) := by decide +kernel
theorem dX1_addObservation_44 : decode cX1_addObservation 44 = .ok (.putfield 41, 3) := by decide +kernel
theorem dX1_addObservation_47 : decode cX1_addObservation 47 = .ok (.aload_n 0, 1) := by decide +kernel
theorem dX1_addObservation_48 : decode cX1_addObservation 48 = .ok (.invokevirtual 44, 3) := by decide +kernel
theorem dX1_addObservation_51 : decode cX1_addObservation 51 = .ok (.iload 5, 2) := by decide +kernel
theorem dX1_addObservation_53 : decode cX1_addObservation 53 = .ok (.ireturn, 1) := by decide +kernel
set_option maxRecDepth 20000 in
theorem ggX1_setWithdrawn_X1_markParts : GoodIn wsX1_setWithdrawn wsX1_markParts := goodIn_r _ [6, 7, 8, 9, 1, 10, 11, 12, 13, 14, 5, 15, 16, 17, 18, 19, 20, 21, 22, 23, 24, 25, 26, 27, 28, 29, 30, 31, 32] (by decide +kernel) (by decide +kernel)
set_option maxRecDepth 20000 in
theorem gX1_setWithdrawn_X1_markParts : GoodIn wsX1_setWithdrawn (wsV RX1 44 RX1 yX1_markParts wsX1_markParts) := goodIn_app (goodIn_of _ (by decide +kernel)) ggX1_setWithdrawn_X1_markParts
theorem dX1_setWithdrawn_0 : decode cX1_setWithdrawn 0 = .ok (.aload_n 0, 1) := by decide +kernel
theorem dX1_setWithdrawn_1 : decode cX1_setWithdrawn 1 = .ok (.getfield 34, 3) := by decide +kernel
theorem dX1_setWithdrawn_4 : decode cX1_setWithdrawn 4 = .ok (.iload_n 1, 1) := by decide +kernel
theorem dX1_setWithdrawn_5 : decode cX1_setWithdrawn 5 = .ok (.baload, 1) := by decide +kernel
theorem dX1_setWithdrawn_6 : decode cX1_setWithdrawn 6 = .ok (.istore_n 3, 1) := by decide +kernel
theorem dX1_setWithdrawn_7 : decode cX1_setWithdrawn 7 = .ok (.aload_n 0, 1) := by decide +kernel
theorem dX1_setWithdrawn_8 : decode cX1_setWithdrawn 8 = .ok (.getfield 34, 3) := by decide +kernel
theorem dX1_setWithdrawn_11 : decode cX1_setWithdrawn 11 = .ok (.iload_n 1, 1) := by decide +kernel
theorem dX1_setWithdrawn_12 : decode cX1_setWithdrawn 12 = .ok (.iload_n 2, 1) := by decide +kernel
theorem dX1_setWithdrawn_13 : decode cX1_setWithdrawn 13 = .ok (.bastore, 1) := by decide +kernel
theorem dX1_setWithdrawn_14 : decode cX1_setWithdrawn 14 = .ok (.aload_n 0, 1) := by decide +kernel
theorem dX1_setWithdrawn_15 : decode cX1_setWithdrawn 15 = .ok (.invokevirtual 44, 3) := by decide +kernel
theorem dX1_setWithdrawn_18 : decode cX1_setWithdrawn 18 = .ok (.iload_n 3, 1) := by decide +kernel
theorem dX1_setWithdrawn_19 : decode cX1_setWithdrawn 19 = .ok (.ireturn, 1) := by decide +kernel
set_option maxRecDepth 20000 in
theorem ggX1_markParts_X1_mergeParts : GoodIn wsX1_markParts wsX1_mergeParts := goodIn_r _ [11, 12, 13, 14, 15, 16, 17, 18, 1, 2, 19, 20, 21, 22, 23, 24, 25, 26, 27, 28] (by decide +kernel) (by decide +kernel)
set_option maxRecDepth 20000 in
theorem gX1_markParts_X1_mergeParts : GoodIn wsX1_markParts (wsV RX1 47 RX1 yX1_mergeParts wsX1_mergeParts) := goodIn_app (goodIn_of _ (by decide +kernel)) ggX1_markParts_X1_mergeParts
theorem dX1_markParts_0 : decode cX1_markParts 0 = .ok (.iconst 0, 1) := by decide +kernel
theorem dX1_markParts_1 : decode cX1_markParts 1 = .ok (.istore_n 1, 1) := by decide +kernel
theorem dX1_markParts_2 : decode cX1_markParts 2 = .ok (.iload_n 1, 1) := by decide +kernel
theorem dX1_markParts_3 : decode cX1_markParts 3 = .ok (.aload_n 0, 1) := by decide +kernel
theorem dX1_markParts_4 : decode cX1_markParts 4 = .ok (.getfield 37, 3) := by decide +kernel
theorem dX1_markParts_7 : decode cX1_markParts 7 = .ok (.if_icmp .ge 16, 3) := by decide +kernel
theorem dX1_markParts_10 : decode cX1_markParts 10 = .ok (.aload_n 0, 1) := by decide +kernel
theorem dX1_markParts_11 : decode cX1_markParts 11 = .ok (.getfield 19, 3) := by decide +kernel
theorem dX1_markParts_14 : decode cX1_markParts 14 = .ok (.iload_n 1, 1) := by decide +kernel
theorem dX1_markParts_15 : decode cX1_markParts 15 = .ok (.iload_n 1, 1) := by decide +kernel
theorem dX1_markParts_16 : decode cX1_markParts 16 = .ok (.iastore, 1) := by decide +kernel
theorem dX1_markParts_17 : decode cX1_markParts 17 = .ok (.iinc 1 1, 3) := by decide +kernel
theorem dX1_markParts_20 : decode cX1_markParts 20 = .ok (.goto (-18), 3) := by decide +kernel
theorem dX1_markParts_23 : decode cX1_markParts 23 = .ok (.iconst 0, 1) := by decide +kernel
theorem dX1_markParts_24 : decode cX1_markParts 24 = .ok (.istore_n 1, 1) := by decide +kernel
theorem dX1_markParts_25 : decode cX1_markParts 25 = .ok (.iload_n 1, 1) := by decide +kernel
theorem dX1_markParts_26 : decode cX1_markParts 26 = .ok (.aload_n 0, 1) := by decide +kernel
theorem dX1_markParts_27 : decode cX1_markParts 27 = .ok (.getfield 41, 3) := by decide +kernel
theorem dX1_markParts_30 : decode cX1_markParts 30 = .ok (.if_icmp .ge 44, 3) := by decide +kernel
theorem dX1_markParts_33 : decode cX1_markParts 33 = .ok (.aload_n 0, 1) := by decide +kernel
theorem dX1_markParts_34 : decode cX1_markParts 34 = .ok (.getfield 34, 3) := by decide +kernel
theorem dX1_markParts_37 : decode cX1_markParts 37 = .ok (.iload_n 1, 1) := by decide +kernel
theorem dX1_markParts_38 : decode cX1_markParts 38 = .ok (.baload, 1) := by decide +kernel
theorem dX1_markParts_39 : decode cX1_markParts 39 = .ok (.ifCond .ne 29, 3) := by decide +kernel
theorem dX1_markParts_42 : decode cX1_markParts 42 = .ok (.aload_n 0, 1) := by decide +kernel
theorem dX1_markParts_43 : decode cX1_markParts 43 = .ok (.aload_n 0, 1) := by decide +kernel
theorem dX1_markParts_44 : decode cX1_markParts 44 = .ok (.getfield 19, 3) := by decide +kernel
theorem dX1_markParts_47 : decode cX1_markParts 47 = .ok (.aload_n 0, 1) := by decide +kernel
theorem dX1_markParts_48 : decode cX1_markParts 48 = .ok (.getfield 22, 3) := by decide +kernel
theorem dX1_markParts_51 : decode cX1_markParts 51 = .ok (.iload_n 1, 1) := by decide +kernel
theorem dX1_markParts_52 : decode cX1_markParts 52 = .ok (.iaload, 1) := by decide +kernel
theorem dX1_markParts_53 : decode cX1_markParts 53 = .ok (.iaload, 1) := by decide +kernel
theorem dX1_markParts_54 : decode cX1_markParts 54 = .ok (.aload_n 0, 1) := by decide +kernel
theorem dX1_markParts_55 : decode cX1_markParts 55 = .ok (.getfield 19, 3) := by decide +kernel
theorem dX1_markParts_58 : decode cX1_markParts 58 = .ok (.aload_n 0, 1) := by decide +kernel
theorem dX1_markParts_59 : decode cX1_markParts 59 = .ok (.getfield 25, 3) := by decide +kernel
theorem dX1_markParts_62 : decode cX1_markParts 62 = .ok (.iload_n 1, 1) := by decide +kernel
theorem dX1_markParts_63 : decode cX1_markParts 63 = .ok (.iaload, 1) := by decide +kernel
theorem dX1_markParts_64 : decode cX1_markParts 64 = .ok (.iaload, 1) := by decide +kernel
theorem dX1_markParts_65 : decode cX1_markParts 65 = .ok (.invokevirtual 47, 3) := by decide +kernel
theorem dX1_markParts_68 : decode cX1_markParts 68 = .ok (.iinc 1 1, 3) := by decide +kernel
theorem dX1_markParts_71 : decode cX1_markParts 71 = .ok (.goto (-46), 3) := by decide +kernel
theorem dX1_markParts_74 : decode cX1_markParts 74 = .ok (.return_, 1) := by decide +kernel
theorem dX1_mergeParts_0 : decode cX1_mergeParts 0 = .ok (.iload_n 1, 1) := by decide +kernel
theorem dX1_mergeParts_1 : decode cX1_mergeParts 1 = .ok (.iload_n 2, 1) := by decide +kernel
theorem dX1_mergeParts_2 : decode cX1_mergeParts 2 = .ok (.invokestatic 51, 3) := by decide +kernel
theorem dX1_mergeParts_5 : decode cX1_mergeParts 5 = .ok (.istore_n 3, 1) := by decide +kernel
theorem dX1_mergeParts_6 : decode cX1_mergeParts 6 = .ok (.iload_n 1, 1) := by decide +kernel
theorem dX1_mergeParts_7 : decode cX1_mergeParts 7 = .ok (.iload_n 2, 1) := by decide +kernel
theorem dX1_mergeParts_8 : decode cX1_mergeParts 8 = .ok (.invokestatic 57, 3) := by decide +kernel
theorem dX1_mergeParts_11 : decode cX1_mergeParts 11 = .ok (.istore 4, 2) := by decide +kernel
theorem dX1_mergeParts_13 : decode cX1_mergeParts 13 = .ok (.iconst 0, 1) := by decide +kernel
theorem dX1_mergeParts_14 : decode cX1_mergeParts 14 = .ok (.istore 5, 2) := by decide +kernel
theorem dX1_mergeParts_16 : decode cX1_mergeParts 16 = .ok (.iload 5, 2) := by decide +kernel
theorem dX1_mergeParts_18 : decode cX1_mergeParts 18 = .ok (.aload_n 0, 1) := by decide +kernel
theorem dX1_mergeParts_19 : decode cX1_mergeParts 19 = .ok (.getfield 37, 3) := by decide +kernel
theorem dX1_mergeParts_22 : decode cX1_mergeParts 22 = .ok (.if_icmp .ge 29, 3) := by decide +kernel
theorem dX1_mergeParts_25 : decode cX1_mergeParts 25 = .ok (.aload_n 0, 1) := by decide +kernel
theorem dX1_mergeParts_26 : decode cX1_mergeParts 26 = .ok (.getfield 19, 3) := by decide +kernel
theorem dX1_mergeParts_29 : decode cX1_mergeParts 29 = .ok (.iload 5, 2) := by decide +kernel
theorem dX1_mergeParts_31 : decode cX1_mergeParts 31 = .ok (.iaload, 1) := by decide +kernel
theorem dX1_mergeParts_32 : decode cX1_mergeParts 32 = .ok (.iload 4, 2) := by decide +kernel
theorem dX1_mergeParts_34 : decode cX1_mergeParts 34 = .ok (.if_icmp .ne 11, 3) := by decide +kernel
theorem dX1_mergeParts_37 : decode cX1_mergeParts 37 = .ok (.aload_n 0, 1) := by decide +kernel
theorem dX1_mergeParts_38 : decode cX1_mergeParts 38 = .ok (.getfield 19, 3) := by decide +kernel
theorem dX1_mergeParts_41 : decode cX1_mergeParts 41 = .ok (.iload 5, 2) := by decide +kernel
theorem dX1_mergeParts_43 : decode cX1_mergeParts 43 = .ok (.iload_n 3, 1) := by decide +kernel
theorem dX1_mergeParts_44 : decode cX1_mergeParts 44 = .ok (.iastore, 1) := by decide +kernel
theorem dX1_mergeParts_45 : decode cX1_mergeParts 45 = .ok (.iinc 5 1, 3) := by decide +kernel
theorem dX1_mergeParts_48 : decode cX1_mergeParts 48 = .ok (.goto (-32), 3) := by decide +kernel
theorem dX1_mergeParts_51 : decode cX1_mergeParts 51 = .ok (.return_, 1) := by decide +kernel
theorem dX1_countParts_0 : decode cX1_countParts 0 = .ok (.iconst 0, 1) := by decide +kernel
theorem dX1_countParts_1 : decode cX1_countParts 1 = .ok (.istore_n 1, 1) := by decide +kernel
theorem dX1_countParts_2 : decode cX1_countParts 2 = .ok (.iconst 0, 1) := by decide +kernel
theorem dX1_countParts_3 : decode cX1_countParts 3 = .ok (.istore_n 2, 1) := by decide +kernel
theorem dX1_countParts_4 : decode cX1_countParts 4 = .ok (.iload_n 2, 1) := by decide +kernel
theorem dX1_countParts_5 : decode cX1_countParts 5 = .ok (.aload_n 0, 1) := by decide +kernel
theorem dX1_countParts_6 : decode cX1_countParts 6 = .ok (.getfield 37, 3) := by decide +kernel
theorem dX1_countParts_9 : decode cX1_countParts 9 = .ok (.if_icmp .ge 22, 3) := by decide +kernel
theorem dX1_countParts_12 : decode cX1_countParts 12 = .ok (.aload_n 0, 1) := by decide +kernel
theorem dX1_countParts_13 : decode cX1_countParts 13 = .ok (.getfield 19, 3) := by decide +kernel
theorem dX1_countParts_16 : decode cX1_countParts 16 = .ok (.iload_n 2, 1) := by decide +kernel
theorem dX1_countParts_17 : decode cX1_countParts 17 = .ok (.iaload, 1) := by decide +kernel
theorem dX1_countParts_18 : decode cX1_countParts 18 = .ok (.iload_n 2, 1) := by decide +kernel
theorem dX1_countParts_19 : decode cX1_countParts 19 = .ok (.if_icmp .ne 6, 3) := by decide +kernel
theorem dX1_countParts_22 : decode cX1_countParts 22 = .ok (.iinc 1 1, 3) := by decide +kernel
theorem dX1_countParts_25 : decode cX1_countParts 25 = .ok (.iinc 2 1, 3) := by decide +kernel
theorem dX1_countParts_28 : decode cX1_countParts 28 = .ok (.goto (-24), 3) := by decide +kernel
theorem dX1_countParts_31 : decode cX1_countParts 31 = .ok (.iload_n 1, 1) := by decide +kernel
theorem dX1_countParts_32 : decode cX1_countParts 32 = .ok (.ireturn, 1) := by decide +kernel
set_option maxRecDepth 20000 in
theorem ggX1_countStationsWith_X1_areInOnePart : GoodIn wsX1_countStationsWith wsX1_areInOnePart := goodIn_r _ [6, 7, 8, 9, 10, 11, 12, 13, 14, 15, 16, 17] (by decide +kernel) (by decide +kernel)
set_option maxRecDepth 20000 in
theorem gX1_countStationsWith_X1_areInOnePart : GoodIn wsX1_countStationsWith (wsV RX1 60 RX1 yX1_areInOnePart wsX1_areInOnePart) := goodIn_app (goodIn_of _ (by decide +kernel)) ggX1_countStationsWith_X1_areInOnePart
theorem dX1_countStationsWith_0 : decode cX1_countStationsWith 0 = .ok (.iconst 0, 1) := by decide +kernel
theorem dX1_countStationsWith_1 : decode cX1_countStationsWith 1 = .ok (.istore_n 2, 1) := by decide +kernel
theorem dX1_countStationsWith_2 : decode cX1_countStationsWith 2 = .ok (.iconst 0, 1) := by decide +kernel
theorem dX1_countStationsWith_3 : decode cX1_countStationsWith 3 = .ok (.istore_n 3, 1) := by decide +kernel
theorem dX1_countStationsWith_4 : decode cX1_countStationsWith 4 = .ok (.iload_n 3, 1) := by decide +kernel
theorem dX1_countStationsWith_5 : decode cX1_countStationsWith 5 = .ok (.aload_n 0, 1) := by decide +kernel
theorem dX1_countStationsWith_6 : decode cX1_countStationsWith 6 = .ok (.getfield 37, 3) := by decide +kernel
theorem dX1_countStationsWith_9 : decode cX1_countStationsWith 9 = .ok (.if_icmp .ge 21, 3) := by decide +kernel
theorem dX1_countStationsWith_12 : decode cX1_countStationsWith 12 = .ok (.aload_n 0, 1) := by decide +kernel
theorem dX1_countStationsWith_13 : decode cX1_countStationsWith 13 = .ok (.iload_n 3, 1) := by decide +kernel
theorem dX1_countStationsWith_14 : decode cX1_countStationsWith 14 = .ok (.iload_n 1, 1) := by decide +kernel
theorem dX1_countStationsWith_15 : decode cX1_countStationsWith 15 = .ok (.invokevirtual 60, 3) := by decide +kernel
theorem dX1_countStationsWith_18 : decode cX1_countStationsWith 18 = .ok (.ifCond .eq 6, 3) := by decide +kernel
theorem dX1_countStationsWith_21 : decode cX1_countStationsWith 21 = .ok (.iinc 2 1, 3) := by decide +kernel
theorem dX1_countStationsWith_24 : decode cX1_countStationsWith 24 = .ok (.iinc 3 1, 3) := by decide +kernel
theorem dX1_countStationsWith_27 : decode cX1_countStationsWith 27 = .ok (.goto (-23), 3) := by decide +kernel
theorem dX1_countStationsWith_30 : decode cX1_countStationsWith 30 = .ok (.iload_n 2, 1) := by decide +kernel
theorem dX1_countStationsWith_31 : decode cX1_countStationsWith 31 = .ok (.ireturn, 1) := by decide +kernel
theorem dX1_areInOnePart_0 : decode cX1_areInOnePart 0 = .ok (.aload_n 0, 1) := by decide +kernel
theorem dX1_areInOnePart_1 : decode cX1_areInOnePart 1 = .ok (.getfield 19, 3) := by decide +kernel
theorem dX1_areInOnePart_4 : decode cX1_areInOnePart 4 = .ok (.iload_n 1, 1) := by decide +kernel
theorem dX1_areInOnePart_5 : decode cX1_areInOnePart 5 = .ok (.iaload, 1) := by decide +kernel
theorem dX1_areInOnePart_6 : decode cX1_areInOnePart 6 = .ok (.aload_n 0, 1) := by decide +kernel
theorem dX1_areInOnePart_7 : decode cX1_areInOnePart 7 = .ok (.getfield 19, 3) := by decide +kernel
theorem dX1_areInOnePart_10 : decode cX1_areInOnePart 10 = .ok (.iload_n 2, 1) := by decide +kernel
theorem dX1_areInOnePart_11 : decode cX1_areInOnePart 11 = .ok (.iaload, 1) := by decide +kernel
theorem dX1_areInOnePart_12 : decode cX1_areInOnePart 12 = .ok (.if_icmp .ne 7, 3) := by decide +kernel
theorem dX1_areInOnePart_15 : decode cX1_areInOnePart 15 = .ok (.iconst 1, 1) := by decide +kernel
theorem dX1_areInOnePart_16 : decode cX1_areInOnePart 16 = .ok (.goto 4, 3) := by decide +kernel
theorem dX1_areInOnePart_19 : decode cX1_areInOnePart 19 = .ok (.iconst 0, 1) := by decide +kernel
theorem dX1_areInOnePart_20 : decode cX1_areInOnePart 20 = .ok (.ireturn, 1) := by decide +kernel
set_option maxRecDepth 20000 in
theorem ggX1_isInPartOf_X1_areInOnePart : GoodIn wsX1_isInPartOf wsX1_areInOnePart := goodIn_r _ [7, 8, 9, 10, 11, 12, 13, 14, 15, 16, 17, 18] (by decide +kernel) (by decide +kernel)
set_option maxRecDepth 20000 in
theorem gX1_isInPartOf_X1_areInOnePart : GoodIn wsX1_isInPartOf (wsV RX1 60 RX1 yX1_areInOnePart wsX1_areInOnePart) := goodIn_app (goodIn_of _ (by decide +kernel)) ggX1_isInPartOf_X1_areInOnePart
theorem dX1_isInPartOf_0 : decode cX1_isInPartOf 0 = .ok (.aload_n 0, 1) := by decide +kernel
theorem dX1_isInPartOf_1 : decode cX1_isInPartOf 1 = .ok (.getfield 34, 3) := by decide +kernel
theorem dX1_isInPartOf_4 : decode cX1_isInPartOf 4 = .ok (.iload_n 1, 1) := by decide +kernel
theorem dX1_isInPartOf_5 : decode cX1_isInPartOf 5 = .ok (.baload, 1) := by decide +kernel
theorem dX1_isInPartOf_6 : decode cX1_isInPartOf 6 = .ok (.ifCond .ne 21, 3) := by decide +kernel
theorem dX1_isInPartOf_9 : decode cX1_isInPartOf 9 = .ok (.aload_n 0, 1) := by decide +kernel
theorem dX1_isInPartOf_10 : decode cX1_isInPartOf 10 = .ok (.aload_n 0, 1) := by decide +kernel
theorem dX1_isInPartOf_11 : decode cX1_isInPartOf 11 = .ok (.getfield 22, 3) := by decide +kernel
theorem dX1_isInPartOf_14 : decode cX1_isInPartOf 14 = .ok (.iload_n 1, 1) := by decide +kernel
theorem dX1_isInPartOf_15 : decode cX1_isInPartOf 15 = .ok (.iaload, 1) := by decide +kernel
theorem dX1_isInPartOf_16 : decode cX1_isInPartOf 16 = .ok (.iload_n 2, 1) := by decide +kernel
theorem dX1_isInPartOf_17 : decode cX1_isInPartOf 17 = .ok (.invokevirtual 60, 3) := by decide +kernel
theorem dX1_isInPartOf_20 : decode cX1_isInPartOf 20 = .ok (.ifCond .eq 7, 3) := by decide +kernel
theorem dX1_isInPartOf_23 : decode cX1_isInPartOf 23 = .ok (.iconst 1, 1) := by decide +kernel
theorem dX1_isInPartOf_24 : decode cX1_isInPartOf 24 = .ok (.goto 4, 3) := by decide +kernel
theorem dX1_isInPartOf_27 : decode cX1_isInPartOf 27 = .ok (.iconst 0, 1) := by decide +kernel
theorem dX1_isInPartOf_28 : decode cX1_isInPartOf 28 = .ok (.ireturn, 1) := by decide +kernel
set_option maxRecDepth 20000 in
theorem ggX1_datumOf_X1_areInOnePart : GoodIn wsX1_datumOf wsX1_areInOnePart := goodIn_r _ [8, 3, 9, 10, 11, 12, 13, 14, 15, 16, 17, 18] (by decide +kernel) (by decide +kernel)
set_option maxRecDepth 20000 in
theorem gX1_datumOf_X1_areInOnePart : GoodIn wsX1_datumOf (wsV RX1 60 RX1 yX1_areInOnePart wsX1_areInOnePart) := goodIn_app (goodIn_of _ (by decide +kernel)) ggX1_datumOf_X1_areInOnePart
theorem dX1_datumOf_0 : decode cX1_datumOf 0 = .ok (.iconst 0, 1) := by decide +kernel
theorem dX1_datumOf_1 : decode cX1_datumOf 1 = .ok (.istore_n 2, 1) := by decide +kernel
theorem dX1_datumOf_2 : decode cX1_datumOf 2 = .ok (.iload_n 2, 1) := by decide +kernel
theorem dX1_datumOf_3 : decode cX1_datumOf 3 = .ok (.aload_n 0, 1) := by decide +kernel
theorem dX1_datumOf_4 : decode cX1_datumOf 4 = .ok (.getfield 37, 3) := by decide +kernel
theorem dX1_datumOf_7 : decode cX1_datumOf 7 = .ok (.if_icmp .ge 29, 3) := by decide +kernel
theorem dX1_datumOf_10 : decode cX1_datumOf 10 = .ok (.aload_n 0, 1) := by decide +kernel
theorem dX1_datumOf_11 : decode cX1_datumOf 11 = .ok (.getfield 9, 3) := by decide +kernel
theorem dX1_datumOf_14 : decode cX1_datumOf 14 = .ok (.iload_n 2, 1) := by decide +kernel
theorem dX1_datumOf_15 : decode cX1_datumOf 15 = .ok (.baload, 1) := by decide +kernel
theorem dX1_datumOf_16 : decode cX1_datumOf 16 = .ok (.ifCond .eq 14, 3) := by decide +kernel
theorem dX1_datumOf_19 : decode cX1_datumOf 19 = .ok (.aload_n 0, 1) := by decide +kernel
theorem dX1_datumOf_20 : decode cX1_datumOf 20 = .ok (.iload_n 2, 1) := by decide +kernel
theorem dX1_datumOf_21 : decode cX1_datumOf 21 = .ok (.iload_n 1, 1) := by decide +kernel
theorem dX1_datumOf_22 : decode cX1_datumOf 22 = .ok (.invokevirtual 60, 3) := by decide +kernel
theorem dX1_datumOf_25 : decode cX1_datumOf 25 = .ok (.ifCond .eq 5, 3) := by decide +kernel
theorem dX1_datumOf_28 : decode cX1_datumOf 28 = .ok (.iload_n 2, 1) := by decide +kernel
theorem dX1_datumOf_29 : decode cX1_datumOf 29 = .ok (.ireturn, 1) := by decide +kernel
theorem dX1_datumOf_30 : decode cX1_datumOf 30 = .ok (.iinc 2 1, 3) := by decide +kernel
theorem dX1_datumOf_33 : decode cX1_datumOf 33 = .ok (.goto (-31), 3) := by decide +kernel
theorem dX1_datumOf_36 : decode cX1_datumOf 36 = .ok (.aload_n 0, 1) := by decide +kernel
theorem dX1_datumOf_37 : decode cX1_datumOf 37 = .ok (.getfield 19, 3) := by decide +kernel
theorem dX1_datumOf_40 : decode cX1_datumOf 40 = .ok (.iload_n 1, 1) := by decide +kernel
theorem dX1_datumOf_41 : decode cX1_datumOf 41 = .ok (.iaload, 1) := by decide +kernel
theorem dX1_datumOf_42 : decode cX1_datumOf 42 = .ok (.ireturn, 1) := by decide +kernel
theorem dX1_lowestBetween_0 : decode cX1_lowestBetween 0 = .ok (.iconst 0, 1) := by decide +kernel
theorem dX1_lowestBetween_1 : decode cX1_lowestBetween 1 = .ok (.istore_n 3, 1) := by decide +kernel
theorem dX1_lowestBetween_2 : decode cX1_lowestBetween 2 = .ok (.iload_n 3, 1) := by decide +kernel
theorem dX1_lowestBetween_3 : decode cX1_lowestBetween 3 = .ok (.aload_n 0, 1) := by decide +kernel
theorem dX1_lowestBetween_4 : decode cX1_lowestBetween 4 = .ok (.getfield 41, 3) := by decide +kernel
theorem dX1_lowestBetween_7 : decode cX1_lowestBetween 7 = .ok (.if_icmp .ge 84, 3) := by decide +kernel
theorem dX1_lowestBetween_10 : decode cX1_lowestBetween 10 = .ok (.aload_n 0, 1) := by decide +kernel
theorem dX1_lowestBetween_11 : decode cX1_lowestBetween 11 = .ok (.getfield 22, 3) := by decide +kernel
theorem dX1_lowestBetween_14 : decode cX1_lowestBetween 14 = .ok (.iload_n 3, 1) := by decide +kernel
theorem dX1_lowestBetween_15 : decode cX1_lowestBetween 15 = .ok (.iaload, 1) := by decide +kernel
theorem dX1_lowestBetween_16 : decode cX1_lowestBetween 16 = .ok (.iload_n 1, 1) := by decide +kernel
theorem dX1_lowestBetween_17 : decode cX1_lowestBetween 17 = .ok (.if_icmp .ne 17, 3) := by decide +kernel
theorem dX1_lowestBetween_20 : decode cX1_lowestBetween 20 = .ok (.aload_n 0, 1) := by decide +kernel
theorem dX1_lowestBetween_21 : decode cX1_lowestBetween 21 = .ok (.getfield 25, 3) := by decide +kernel
theorem dX1_lowestBetween_24 : decode cX1_lowestBetween 24 = .ok (.iload_n 3, 1) := by decide +kernel
theorem dX1_lowestBetween_25 : decode cX1_lowestBetween 25 = .ok (.iaload, 1) := by decide +kernel
theorem dX1_lowestBetween_26 : decode cX1_lowestBetween 26 = .ok (.iload_n 2, 1) := by decide +kernel
theorem dX1_lowestBetween_27 : decode cX1_lowestBetween 27 = .ok (.if_icmp .ne 7, 3) := by decide +kernel
theorem dX1_lowestBetween_30 : decode cX1_lowestBetween 30 = .ok (.iconst 1, 1) := by decide +kernel
theorem dX1_lowestBetween_31 : decode cX1_lowestBetween 31 = .ok (.goto 4, 3) := by decide +kernel
theorem dX1_lowestBetween_34 : decode cX1_lowestBetween 34 = .ok (.iconst 0, 1) := by decide +kernel
theorem dX1_lowestBetween_35 : decode cX1_lowestBetween 35 = .ok (.istore 4, 2) := by decide +kernel
theorem dX1_lowestBetween_37 : decode cX1_lowestBetween 37 = .ok (.aload_n 0, 1) := by decide +kernel
theorem dX1_lowestBetween_38 : decode cX1_lowestBetween 38 = .ok (.getfield 22, 3) := by decide +kernel
theorem dX1_lowestBetween_41 : decode cX1_lowestBetween 41 = .ok (.iload_n 3, 1) := by decide +kernel
theorem dX1_lowestBetween_42 : decode cX1_lowestBetween 42 = .ok (.iaload, 1) := by decide +kernel
theorem dX1_lowestBetween_43 : decode cX1_lowestBetween 43 = .ok (.iload_n 2, 1) := by decide +kernel
theorem dX1_lowestBetween_44 : decode cX1_lowestBetween 44 = .ok (.if_icmp .ne 17, 3) := by decide +kernel
theorem dX1_lowestBetween_47 : decode cX1_lowestBetween 47 = .ok (.aload_n 0, 1) := by decide +kernel
theorem dX1_lowestBetween_48 : decode cX1_lowestBetween 48 = .ok (.getfield 25, 3) := by decide +kernel
theorem dX1_lowestBetween_51 : decode cX1_lowestBetween 51 = .ok (.iload_n 3, 1) := by decide +kernel
theorem dX1_lowestBetween_52 : decode cX1_lowestBetween 52 = .ok (.iaload, 1) := by decide +kernel
theorem dX1_lowestBetween_53 : decode cX1_lowestBetween 53 = .ok (.iload_n 1, 1) := by decide +kernel
theorem dX1_lowestBetween_54 : decode cX1_lowestBetween 54 = .ok (.if_icmp .ne 7, 3) := by decide +kernel
theorem dX1_lowestBetween_57 : decode cX1_lowestBetween 57 = .ok (.iconst 1, 1) := by decide +kernel
theorem dX1_lowestBetween_58 : decode cX1_lowestBetween 58 = .ok (.goto 4, 3) := by decide +kernel
theorem dX1_lowestBetween_61 : decode cX1_lowestBetween 61 = .ok (.iconst 0, 1) := by decide +kernel
theorem dX1_lowestBetween_62 : decode cX1_lowestBetween 62 = .ok (.istore 5, 2) := by decide +kernel
theorem dX1_lowestBetween_64 : decode cX1_lowestBetween 64 = .ok (.aload_n 0, 1) := by decide +kernel
theorem dX1_lowestBetween_65 : decode cX1_lowestBetween 65 = .ok (.getfield 34, 3) := by decide +kernel
theorem dX1_lowestBetween_68 : decode cX1_lowestBetween 68 = .ok (.iload_n 3, 1) := by decide +kernel
theorem dX1_lowestBetween_69 : decode cX1_lowestBetween 69 = .ok (.baload, 1) := by decide +kernel
theorem dX1_lowestBetween_70 : decode cX1_lowestBetween 70 = .ok (.ifCond .ne 15, 3) := by decide +kernel
theorem dX1_lowestBetween_73 : decode cX1_lowestBetween 73 = .ok (.iload 4, 2) := by decide +kernel
theorem dX1_lowestBetween_75 : decode cX1_lowestBetween 75 = .ok (.ifCond .ne 8, 3) := by decide +kernel
theorem dX1_lowestBetween_78 : decode cX1_lowestBetween 78 = .ok (.iload 5, 2) := by decide +kernel
theorem dX1_lowestBetween_80 : decode cX1_lowestBetween 80 = .ok (.ifCond .eq 5, 3) := by decide +kernel
theorem dX1_lowestBetween_83 : decode cX1_lowestBetween 83 = .ok (.iload_n 3, 1) := by decide +kernel
theorem dX1_lowestBetween_84 : decode cX1_lowestBetween 84 = .ok (.ireturn, 1) := by decide +kernel
theorem dX1_lowestBetween_85 : decode cX1_lowestBetween 85 = .ok (.iinc 3 1, 3) := by decide +kernel
theorem dX1_lowestBetween_88 : decode cX1_lowestBetween 88 = .ok (.goto (-86), 3) := by decide +kernel
theorem dX1_lowestBetween_91 : decode cX1_lowestBetween 91 = .ok (.iconst (-1), 1) := by decide +kernel
theorem dX1_lowestBetween_92 : decode cX1_lowestBetween 92 = .ok (.ireturn, 1) := by decide +kernel
theorem dX1_differenceFrom_0 : decode cX1_differenceFrom 0 = .ok (.aload_n 0, 1) := by decide +kernel
theorem dX1_differenceFrom_1 : decode cX1_differenceFrom 1 = .ok (.getfield 22, 3) := by decide +kernel
theorem dX1_differenceFrom_4 : decode cX1_differenceFrom 4 = .ok (.iload_n 2, 1) := by decide +kernel
theorem dX1_differenceFrom_5 : decode cX1_differenceFrom 5 = .ok (.iaload, 1) := by decide +kernel
theorem dX1_differenceFrom_6 : decode cX1_differenceFrom 6 = .ok (.iload_n 1, 1) := by decide +kernel
theorem dX1_differenceFrom_7 : decode cX1_differenceFrom 7 = .ok (.if_icmp .ne 12, 3) := by decide +kernel
theorem dX1_differenceFrom_10 : decode cX1_differenceFrom 10 = .ok (.aload_n 0, 1) := by decide +kernel
theorem dX1_differenceFrom_11 : decode cX1_differenceFrom 11 = .ok (.getfield 28, 3) := by decide +kernel
theorem dX1_differenceFrom_14 : decode cX1_differenceFrom 14 = .ok (.iload_n 2, 1) := by decide +kernel
theorem dX1_differenceFrom_15 : decode cX1_differenceFrom 15 = .ok (.iaload, 1) := by decide +kernel
theorem dX1_differenceFrom_16 : decode cX1_differenceFrom 16 = .ok (.goto 10, 3) := by decide +kernel
theorem dX1_differenceFrom_19 : decode cX1_differenceFrom 19 = .ok (.aload_n 0, 1) := by decide +kernel
theorem dX1_differenceFrom_20 : decode cX1_differenceFrom 20 = .ok (.getfield 28, 3) := by decide +kernel
theorem dX1_differenceFrom_23 : decode cX1_differenceFrom 23 = .ok (.iload_n 2, 1) := by decide +kernel
theorem dX1_differenceFrom_24 : decode cX1_differenceFrom 24 = .ok (.iaload, 1) := by decide +kernel
theorem dX1_differenceFrom_25 : decode cX1_differenceFrom 25 = .ok (.ineg, 1) := by decide +kernel
theorem dX1_differenceFrom_26 : decode cX1_differenceFrom 26 = .ok (.ireturn, 1) := by decide +kernel
