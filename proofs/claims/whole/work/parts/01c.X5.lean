theorem dX5_init_0 : decode cX5_init 0 = .ok (.aload_n 0, 1) := by decide +kernel
theorem dX5_init_1 : decode cX5_init 1 = .ok (.invokespecial 1, 3) := by decide +kernel
theorem dX5_init_4 : decode cX5_init 4 = .ok (.aload_n 0, 1) := by decide +kernel
theorem dX5_init_5 : decode cX5_init 5 = .ok (.bipush 6, 2) := by decide +kernel
theorem dX5_init_7 : decode cX5_init 7 = .ok (.newarray .boolean, 2) := by decide +kernel
theorem dX5_init_9 : decode cX5_init 9 = .ok (.putfield 7, 3) := by decide +kernel
theorem dX5_init_12 : decode cX5_init 12 = .ok (.aload_n 0, 1) := by decide +kernel
theorem dX5_init_13 : decode cX5_init 13 = .ok (.bipush 6, 2) := by decide +kernel
theorem dX5_init_15 : decode cX5_init 15 = .ok (.newarray .int, 2) := by decide +kernel
theorem dX5_init_17 : decode cX5_init 17 = .ok (.putfield 13, 3) := by decide +kernel
theorem dX5_init_20 : decode cX5_init 20 = .ok (.aload_n 0, 1) := by decide +kernel
theorem dX5_init_21 : decode cX5_init 21 = .ok (.bipush 14, 2) := by decide +kernel
theorem dX5_init_23 : decode cX5_init 23 = .ok (.newarray .int, 2) := by decide +kernel
theorem dX5_init_25 : decode cX5_init 25 = .ok (.putfield 17, 3) := by decide +kernel
theorem dX5_init_28 : decode cX5_init 28 = .ok (.aload_n 0, 1) := by decide +kernel
theorem dX5_init_29 : decode cX5_init 29 = .ok (.bipush 14, 2) := by decide +kernel
theorem dX5_init_31 : decode cX5_init 31 = .ok (.newarray .int, 2) := by decide +kernel
theorem dX5_init_33 : decode cX5_init 33 = .ok (.putfield 20, 3) := by decide +kernel
theorem dX5_init_36 : decode cX5_init 36 = .ok (.aload_n 0, 1) := by decide +kernel
theorem dX5_init_37 : decode cX5_init 37 = .ok (.bipush 14, 2) := by decide +kernel
theorem dX5_init_39 : decode cX5_init 39 = .ok (.newarray .int, 2) := by decide +kernel
theorem dX5_init_41 : decode cX5_init 41 = .ok (.putfield 23, 3) := by decide +kernel
theorem dX5_init_44 : decode cX5_init 44 = .ok (.aload_n 0, 1) := by decide +kernel
theorem dX5_init_45 : decode cX5_init 45 = .ok (.bipush 14, 2) := by decide +kernel
theorem dX5_init_47 : decode cX5_init 47 = .ok (.newarray .int, 2) := by decide +kernel
theorem dX5_init_49 : decode cX5_init 49 = .ok (.putfield 26, 3) := by decide +kernel
theorem dX5_init_52 : decode cX5_init 52 = .ok (.aload_n 0, 1) := by decide +kernel
theorem dX5_init_53 : decode cX5_init 53 = .ok (.bipush 14, 2) := by decide +kernel
theorem dX5_init_55 : decode cX5_init 55 = .ok (.newarray .boolean, 2) := by decide +kernel
theorem dX5_init_57 : decode cX5_init 57 = .ok (.putfield 29, 3) := by decide +kernel
theorem dX5_init_60 : decode cX5_init 60 = .ok (.aload_n 0, 1) := by decide +kernel
theorem dX5_init_61 : decode cX5_init 61 = .ok (.bipush 10, 2) := by decide +kernel
theorem dX5_init_63 : decode cX5_init 63 = .ok (.newarray .int, 2) := by decide +kernel
theorem dX5_init_65 : decode cX5_init 65 = .ok (.putfield 32, 3) := by decide +kernel
theorem dX5_init_68 : decode cX5_init 68 = .ok (.aload_n 0, 1) := by decide +kernel
theorem dX5_init_69 : decode cX5_init 69 = .ok (.bipush 6, 2) := by decide +kernel
theorem dX5_init_71 : decode cX5_init 71 = .ok (.newarray .boolean, 2) := by decide +kernel
theorem dX5_init_73 : decode cX5_init 73 = .ok (.putfield 35, 3) := by decide +kernel
theorem dX5_init_76 : decode cX5_init 76 = .ok (.aload_n 0, 1) := by decide +kernel
theorem dX5_init_77 : decode cX5_init 77 = .ok (.bipush 42, 2) := by decide +kernel
theorem dX5_init_79 : decode cX5_init 79 = .ok (.newarray .long, 2) := by decide +kernel
theorem dX5_init_81 : decode cX5_init 81 = .ok (.putfield 38, 3) := by decide +kernel
theorem dX5_init_84 : decode cX5_init 84 = .ok (.aload_n 0, 1) := by decide +kernel
theorem dX5_init_85 : decode cX5_init 85 = .ok (.bipush 6, 2) := by decide +kernel
theorem dX5_init_87 : decode cX5_init 87 = .ok (.newarray .long, 2) := by decide +kernel
theorem dX5_init_89 : decode cX5_init 89 = .ok (.putfield 42, 3) := by decide +kernel
theorem dX5_init_92 : decode cX5_init 92 = .ok (.aload_n 0, 1) := by decide +kernel
theorem dX5_init_93 : decode cX5_init 93 = .ok (.iconst 0, 1) := by decide +kernel
theorem dX5_init_94 : decode cX5_init 94 = .ok (.putfield 45, 3) := by decide +kernel
theorem dX5_init_97 : decode cX5_init 97 = .ok (.return_, 1) := by decide +kernel
theorem dX5_thrown_0 : decode cX5_thrown 0 = .ok (.aload_n 0, 1) := by decide +kernel
theorem dX5_thrown_1 : decode cX5_thrown 1 = .ok (.getfield 49, 3) := by decide +kernel
theorem dX5_thrown_4 : decode cX5_thrown 4 = .ok (.ireturn, 1) := by decide +kernel
theorem dX5_goes_0 : decode cX5_goes 0 = .ok (.aload_n 0, 1) := by decide +kernel
theorem dX5_goes_1 : decode cX5_goes 1 = .ok (.iload_n 1, 1) := by decide +kernel
theorem dX5_goes_2 : decode cX5_goes 2 = .ok (.putfield 49, 3) := by decide +kernel
theorem dX5_goes_5 : decode cX5_goes 5 = .ok (.iload_n 1, 1) := by decide +kernel
theorem dX5_goes_6 : decode cX5_goes 6 = .ok (.ifCond .ne 7, 3) := by decide +kernel
theorem dX5_goes_9 : decode cX5_goes 9 = .ok (.iconst 1, 1) := by decide +kernel
theorem dX5_goes_10 : decode cX5_goes 10 = .ok (.goto 4, 3) := by decide +kernel
theorem dX5_goes_13 : decode cX5_goes 13 = .ok (.iconst 0, 1) := by decide +kernel
theorem dX5_goes_14 : decode cX5_goes 14 = .ok (.ireturn, 1) := by decide +kernel
theorem dX5_isBetween_0 : decode cX5_isBetween 0 = .ok (.iload_n 0, 1) := by decide +kernel
theorem dX5_isBetween_1 : decode cX5_isBetween 1 = .ok (.iload_n 1, 1) := by decide +kernel
theorem dX5_isBetween_2 : decode cX5_isBetween 2 = .ok (.if_icmp .lt 12, 3) := by decide +kernel
theorem dX5_isBetween_5 : decode cX5_isBetween 5 = .ok (.iload_n 0, 1) := by decide +kernel
theorem dX5_isBetween_6 : decode cX5_isBetween 6 = .ok (.iload_n 2, 1) := by decide +kernel
theorem dX5_isBetween_7 : decode cX5_isBetween 7 = .ok (.if_icmp .gt 7, 3) := by decide +kernel
theorem dX5_isBetween_10 : decode cX5_isBetween 10 = .ok (.iconst 1, 1) := by decide +kernel
theorem dX5_isBetween_11 : decode cX5_isBetween 11 = .ok (.goto 4, 3) := by decide +kernel
theorem dX5_isBetween_14 : decode cX5_isBetween 14 = .ok (.iconst 0, 1) := by decide +kernel
theorem dX5_isBetween_15 : decode cX5_isBetween 15 = .ok (.ireturn, 1) := by decide +kernel
set_option maxRecDepth 20000 in
theorem ggX5_isStation_X5_isBetween : GoodIn wsX5_isStation wsX5_isBetween := goodIn_r _ [5] (by decide +kernel) (by decide +kernel)
set_option maxRecDepth 20000 in
theorem gX5_isStation_X5_isBetween : GoodIn wsX5_isStation (va_wsS RX5 55 yX5_isBetween wsX5_isBetween) := goodIn_app (goodIn_of _ (by decide +kernel)) ggX5_isStation_X5_isBetween
theorem dX5_isStation_0 : decode cX5_isStation 0 = .ok (.iload_n 1, 1) := by decide +kernel
theorem dX5_isStation_1 : decode cX5_isStation 1 = .ok (.iconst 0, 1) := by decide +kernel
theorem dX5_isStation_2 : decode cX5_isStation 2 = .ok (.aload_n 0, 1) := by decide +kernel
theorem dX5_isStation_3 : decode cX5_isStation 3 = .ok (.getfield 52, 3) := by decide +kernel
theorem dX5_isStation_6 : decode cX5_isStation 6 = .ok (.iconst 1, 1) := by decide +kernel
theorem dX5_isStation_7 : decode cX5_isStation 7 = .ok (.isub, 1) := by decide +kernel
theorem dX5_isStation_8 : decode cX5_isStation 8 = .ok (.invokestatic 55, 3) := by decide +kernel
theorem dX5_isStation_11 : decode cX5_isStation 11 = .ok (.ireturn, 1) := by decide +kernel
set_option maxRecDepth 20000 in
theorem ggX5_isObservation_X5_isBetween : GoodIn wsX5_isObservation wsX5_isBetween := goodIn_r _ [5] (by decide +kernel) (by decide +kernel)
set_option maxRecDepth 20000 in
theorem gX5_isObservation_X5_isBetween : GoodIn wsX5_isObservation (va_wsS RX5 55 yX5_isBetween wsX5_isBetween) := goodIn_app (goodIn_of _ (by decide +kernel)) ggX5_isObservation_X5_isBetween
theorem dX5_isObservation_0 : decode cX5_isObservation 0 = .ok (.iload_n 1, 1) := by decide +kernel
theorem dX5_isObservation_1 : decode cX5_isObservation 1 = .ok (.iconst 0, 1) := by decide +kernel
theorem dX5_isObservation_2 : decode cX5_isObservation 2 = .ok (.aload_n 0, 1) := by decide +kernel
theorem dX5_isObservation_3 : decode cX5_isObservation 3 = .ok (.getfield 59, 3) := by decide +kernel
theorem dX5_isObservation_6 : decode cX5_isObservation 6 = .ok (.iconst 1, 1) := by decide +kernel
theorem dX5_isObservation_7 : decode cX5_isObservation 7 = .ok (.isub, 1) := by decide +kernel
theorem dX5_isObservation_8 : decode cX5_isObservation 8 = .ok (.invokestatic 55, 3) := by decide +kernel
theorem dX5_isObservation_11 : decode cX5_isObservation 11 = .ok (.ireturn, 1) := by decide +kernel
set_option maxRecDepth 20000 in
theorem ggX5_station_X5_goes : GoodIn wsX5_station wsX5_goes := goodIn_r _ [6, 7, 8, 9, 10, 11, 12, 13, 14, 15, 16, 17, 18, 19, 20, 21, 22, 23, 24, 25] (by decide +kernel) (by decide +kernel)
set_option maxRecDepth 20000 in
theorem gX5_station_X5_goes : GoodIn wsX5_station (wsV RX5 62 RX5 yX5_goes wsX5_goes) := goodIn_app (goodIn_of _ (by decide +kernel)) ggX5_station_X5_goes
theorem dX5_station_0 : decode cX5_station 0 = .ok (.aload_n 0, 1) := by decide +kernel
theorem dX5_station_1 : decode cX5_station 1 = .ok (.aload_n 0, 1) := by decide +kernel
theorem dX5_station_2 : decode cX5_station 2 = .ok (.getfield 52, 3) := by decide +kernel
theorem dX5_station_5 : decode cX5_station 5 = .ok (.bipush 6, 2) := by decide +kernel
theorem dX5_station_7 : decode cX5_station 7 = .ok (.if_icmp .ne 7, 3) := by decide +kernel
theorem dX5_station_10 : decode cX5_station 10 = .ok (.iconst 1, 1) := by decide +kernel
theorem dX5_station_11 : decode cX5_station 11 = .ok (.goto 4, 3) := by decide +kernel
theorem dX5_station_14 : decode cX5_station 14 = .ok (.iconst 0, 1) := by decide +kernel
theorem dX5_station_15 : decode cX5_station 15 = .ok (.invokevirtual 62, 3) := by decide +kernel
theorem dX5_station_18 : decode cX5_station 18 = .ok (.ifCond .ne 5, 3) := by decide +kernel
theorem dX5_station_21 : decode cX5_station 21 = .ok (.iconst 0, 1) := by decide +kernel
theorem dX5_station_22 : decode cX5_station 22 = .ok (.ireturn, 1) := by decide +kernel
theorem dX5_station_23 : decode cX5_station 23 = .ok (.aload_n 0, 1) := by decide +kernel
theorem dX5_station_24 : decode cX5_station 24 = .ok (.dup, 1) := by decide +kernel
theorem dX5_station_25 : decode cX5_station 25 = .ok (.getfield 52, 3) := by decide +kernel
theorem dX5_station_28 : decode cX5_station 28 = .ok (.iconst 1, 1) := by decide +kernel
theorem dX5_station_29 : decode cX5_station 29 = .ok (.iadd, 1) := by decide +kernel
theorem dX5_station_30 : decode cX5_station 30 = .ok (.putfield 52, 3) := by decide +kernel
theorem dX5_station_33 : decode cX5_station 33 = .ok (.aload_n 0, 1) := by decide +kernel
theorem dX5_station_34 : decode cX5_station 34 = .ok (.getfield 52, 3) := by decide +kernel
theorem dX5_station_37 : decode cX5_station 37 = .ok (.iconst 1, 1) := by decide +kernel
theorem dX5_station_38 : decode cX5_station 38 = .ok (.isub, 1) := by decide +kernel
theorem dX5_station_39 : decode cX5_station 39 = .ok (.ireturn, 1) := by decide +kernel
set_option maxRecDepth 20000 in
theorem ggX5_datum_X5_isStation : GoodIn wsX5_datum wsX5_isStation := goodIn_r _ [7, 8, 9, 10, 6, 11, 17, 18, 19, 20, 21, 22, 23, 24, 25, 26, 27, 28, 29, 30, 31, 32, 33, 34] (by decide +kernel) (by decide +kernel)
set_option maxRecDepth 20000 in
theorem gX5_datum_X5_isStation : GoodIn wsX5_datum (wsV RX5 66 RX5 yX5_isStation wsX5_isStation) := goodIn_app (goodIn_of _ (by decide +kernel)) ggX5_datum_X5_isStation
set_option maxRecDepth 20000 in
theorem ggX5_datum_X5_isBetween : GoodIn wsX5_datum wsX5_isBetween := goodIn_r _ [11] (by decide +kernel) (by decide +kernel)
set_option maxRecDepth 20000 in
theorem gX5_datum_X5_isBetween : GoodIn wsX5_datum (va_wsS RX5 55 yX5_isBetween wsX5_isBetween) := goodIn_app (goodIn_of _ (by decide +kernel)) ggX5_datum_X5_isBetween
set_option maxRecDepth 20000 in
theorem ggX5_datum_X5_goes : GoodIn wsX5_datum wsX5_goes := goodIn_r _ [15, 16, 17, 18, 19, 20, 21, 22, 23, 24, 25, 26, 27, 28, 29, 30, 31, 32, 33, 34] (by decide +kernel) (by decide +kernel)
set_option maxRecDepth 20000 in
theorem gX5_datum_X5_goes : GoodIn wsX5_datum (wsV RX5 62 RX5 yX5_goes wsX5_goes) := goodIn_app (goodIn_of _ (by decide +kernel)) ggX5_datum_X5_goes
theorem dX5_datum_0 : decode cX5_datum 0 = .ok (.aload_n 0, 1) := by decide +kernel
theorem dX5_datum_1 : decode cX5_datum 1 = .ok (.aload_n 0, 1) := by decide +kernel
theorem dX5_datum_2 : decode cX5_datum 2 = .ok (.iload_n 1, 1) := by decide +kernel
theorem dX5_datum_3 : decode cX5_datum 3 = .ok (.invokevirtual 66, 3) := by decide +kernel
theorem dX5_datum_6 : decode cX5_datum 6 = .ok (.ifCond .ne 7, 3) := by decide +kernel
theorem dX5_datum_9 : decode cX5_datum 9 = .ok (.iconst 1, 1) := by decide +kernel
theorem dX5_datum_10 : decode cX5_datum 10 = .ok (.goto 25, 3) := by decide +kernel
theorem dX5_datum_13 : decode cX5_datum 13 = .ok (.iload_n 3, 1) := by decide +kernel
theorem dX5_datum_14 : decode cX5_datum 14 = .ok (.ifCond .eq 20, 3) := by decide +kernel
theorem dX5_datum_17 : decode cX5_datum 17 = .ok (.iload_n 2, 1) := by decide +kernel
theorem dX5_datum_18 : decode cX5_datum 18 = .ok (.sipush (-9999), 3) := by decide +kernel
theorem dX5_datum_21 : decode cX5_datum 21 = .ok (.sipush 9999, 3) := by decide +kernel
theorem dX5_datum_24 : decode cX5_datum 24 = .ok (.invokestatic 55, 3) := by decide +kernel
theorem dX5_datum_27 : decode cX5_datum 27 = .ok (.ifCond .ne 7, 3) := by decide +kernel
theorem dX5_datum_30 : decode cX5_datum 30 = .ok (.iconst 2, 1) := by decide +kernel
theorem dX5_datum_31 : decode cX5_datum 31 = .ok (.goto 4, 3) := by decide +kernel
theorem dX5_datum_34 : decode cX5_datum 34 = .ok (.iconst 0, 1) := by decide +kernel
theorem dX5_datum_35 : decode cX5_datum 35 = .ok (.invokevirtual 62, 3) := by decide +kernel
theorem dX5_datum_38 : decode cX5_datum 38 = .ok (.ifCond .ne 5, 3) := by decide +kernel
theorem dX5_datum_41 : decode cX5_datum 41 = .ok (.iconst 0, 1) := by decide +kernel
theorem dX5_datum_42 : decode cX5_datum 42 = .ok (.ireturn, 1) := by decide +kernel
theorem dX5_datum_43 : decode cX5_datum 43 = .ok (.aload_n 0, 1) := by decide +kernel
theorem dX5_datum_44 : decode cX5_datum 44 = .ok (.getfield 7, 3) := by decide +kernel
theorem dX5_datum_47 : decode cX5_datum 47 = .ok (.iload_n 1, 1) := by decide +kernel
theorem dX5_datum_48 : decode cX5_datum 48 = .ok (.baload, 1) := by decide +kernel
theorem dX5_datum_49 : decode cX5_datum 49 = .ok (.istore 4, 2) := by decide +kernel
theorem dX5_datum_51 : decode cX5_datum 51 = .ok (.aload_n 0, 1) := by decide +kernel
theorem dX5_datum_52 : decode cX5_datum 52 = .ok (.getfield 7, 3) := by decide +kernel
theorem dX5_datum_55 : decode cX5_datum 55 = .ok (.iload_n 1, 1) := by decide +kernel
theorem dX5_datum_56 : decode cX5_datum 56 = .ok (.iload_n 3, 1) := by decide +kernel
theorem dX5_datum_57 : decode cX5_datum 57 = .ok (.bastore, 1) := by decide +kernel
theorem dX5_datum_58 : decode cX5_datum 58 = .ok (.aload_n 0, 1) := by decide +kernel
theorem dX5_datum_59 : decode cX5_datum 59 = .ok (.getfield 13, 3) := by decide +kernel
theorem dX5_datum_62 : decode cX5_datum 62 = .ok (.iload_n 1, 1) := by decide +kernel
theorem dX5_datum_63 : decode cX5_datum 63 = .ok (.iload_n 3, 1) := by decide +kernel
theorem dX5_datum_64 : decode cX5_datum 64 = .ok (.ifCond .eq 7, 3) := by decide +kernel
theorem dX5_datum_67 : decode cX5_datum 67 = .ok (.iload_n 2, 1) := by decide +kernel
theorem dX5_datum_68 : decode cX5_datum 68 = .ok (.goto 4, 3) := by decide +kernel
theorem dX5_datum_71 : decode cX5_datum 71 = .ok (.iconst 0, 1) := by decide +kernel
theorem dX5_datum_72 : decode cX5_datum 72 = .ok (.iastore, 1) := by decide +kernel
theorem dX5_datum_73 : decode cX5_datum 73 = .ok (.iload 4, 2) := by decide +kernel
theorem dX5_datum_75 : decode cX5_datum 75 = .ok (.ireturn, 1) := by decide +kernel
set_option maxRecDepth 20000 in
theorem ggX5_observe_X5_isStation : GoodIn wsX5_observe wsX5_isStation := goodIn_r _ [10, 11, 12, 13, 9, 14, 20, 21, 22, 23, 24, 25, 26, 27, 28, 29, 30, 31, 32, 33, 34, 35, 36, 37] (by decide +kernel) (by decide +kernel)
set_option maxRecDepth 20000 in
theorem gX5_observe_X5_isStation : GoodIn wsX5_observe (wsV RX5 66 RX5 yX5_isStation wsX5_isStation) := goodIn_app (goodIn_of _ (by decide +kernel)) ggX5_observe_X5_isStation
set_option maxRecDepth 20000 in
theorem ggX5_observe_X5_isBetween : GoodIn wsX5_observe wsX5_isBetween := goodIn_r _ [14] (by decide +kernel) (by decide +kernel)
set_option maxRecDepth 20000 in
theorem gX5_observe_X5_isBetween : GoodIn wsX5_observe (va_wsS RX5 55 yX5_isBetween wsX5_isBetween) := goodIn_app (goodIn_of _ (by decide +kernel)) ggX5_observe_X5_isBetween
set_option maxRecDepth 20000 in
theorem ggX5_observe_X5_goes : GoodIn wsX5_observe wsX5_goes := goodIn_r _ [18, 19, 20, 21, 22, 23, 24, 25, 26, 27, 28, 29, 30, 31, 32, 33, 34, 35, 36, 37] (by decide +kernel) (by decide +kernel)
set_option maxRecDepth 20000 in
theorem gX5_observe_X5_goes : GoodIn wsX5_observe (wsV RX5 62 RX5 yX5_goes wsX5_goes) := goodIn_app (goodIn_of _ (by decide +kernel)) ggX5_observe_X5_goes
theorem dX5_observe_0 : decode cX5_observe 0 = .ok (.aload_n 0, 1) := by decide +kernel
theorem dX5_observe_1 : decode cX5_observe 1 = .ok (.iload_n 1, 1) := by decide +kernel
theorem dX5_observe_2 : decode cX5_observe 2 = .ok (.invokevirtual 66, 3) := by decide +kernel
theorem dX5_observe_5 : decode cX5_observe 5 = .ok (.ifCond .eq 15, 3) := by decide +kernel
theorem dX5_observe_8 : decode cX5_observe 8 = .ok (.aload_n 0, 1) := by decide +kernel
theorem dX5_observe_9 : decode cX5_observe 9 = .ok (.iload_n 2, 1) := by decide +kernel
theorem dX5_observe_10 : decode cX5_observe 10 = .ok (.invokevirtual 66, 3) := by decide +kernel
theorem dX5_observe_13 : decode cX5_observe 13 = .ok (.ifCond .eq 7, 3) := by decide +kernel
theorem dX5_observe_16 : decode cX5_observe 16 = .ok (.iconst 1, 1) := by decide +kernel
theorem dX5_observe_17 : decode cX5_observe 17 = .ok (.goto 4, 3) := by decide +kernel
theorem dX5_observe_20 : decode cX5_observe 20 = .ok (.iconst 0, 1) := by decide +kernel
theorem dX5_observe_21 : decode cX5_observe 21 = .ok (.istore 5, 2) := by decide +kernel
theorem dX5_observe_23 : decode cX5_observe 23 = .ok (.iload_n 1, 1) := by decide +kernel
theorem dX5_observe_24 : decode cX5_observe 24 = .ok (.iload_n 2, 1) := by decide +kernel
theorem dX5_observe_25 : decode cX5_observe 25 = .ok (.if_icmp .eq 30, 3) := by decide +kernel
theorem dX5_observe_28 : decode cX5_observe 28 = .ok (.iload_n 3, 1) := by decide +kernel
theorem dX5_observe_29 : decode cX5_observe 29 = .ok (.sipush (-9999), 3) := by decide +kernel
theorem dX5_observe_32 : decode cX5_observe 32 = .ok (.sipush 9999, 3) := by decide +kernel
theorem dX5_observe_35 : decode cX5_observe 35 = .ok (.invokestatic 55, 3) := by decide +kernel
theorem dX5_observe_38 : decode cX5_observe 38 = .ok (.ifCond .eq 17, 3) := by decide +kernel
theorem dX5_observe_41 : decode cX5_observe 41 = .ok (.iload 4, 2) := by decide +kernel
theorem dX5_observe_43 : decode cX5_observe 43 = .ok (.iconst 1, 1) := by decide +kernel
theorem dX5_observe_44 : decode cX5_observe 44 = .ok (.iconst 5, 1) := by decide +kernel
theorem dX5_observe_45 : decode cX5_observe 45 = .ok (.invokestatic 55, 3) := by decide +kernel
theorem dX5_observe_48 : decode cX5_observe 48 = .ok (.ifCond .eq 7, 3) := by decide +kernel
theorem dX5_observe_51 : decode cX5_observe 51 = .ok (.iconst 1, 1) := by decide +kernel
theorem dX5_observe_52 : decode cX5_observe 52 = .ok (.goto 4, 3) := by decide +kernel
theorem dX5_observe_55 : decode cX5_observe 55 = .ok (.iconst 0, 1) := by decide +kernel
theorem dX5_observe_56 : decode cX5_observe 56 = .ok (.istore 6, 2) := by decide +kernel
theorem dX5_observe_58 : decode cX5_observe 58 = .ok (.aload_n 0, 1) := by decide +kernel
theorem dX5_observe_59 : decode cX5_observe 59 = .ok (.iload 5, 2) := by decide +kernel
theorem dX5_observe_61 : decode cX5_observe 61 = .ok (.ifCond .ne 7, 3) := by decide +kernel
theorem dX5_observe_64 : decode cX5_observe 64 = .ok (.iconst 1, 1) := by decide +kernel
theorem dX5_observe_65 : decode cX5_observe 65 = .ok (.goto 26, 3) := by decide +kernel
theorem dX5_observe_68 : decode cX5_observe 68 = .ok (.iload 6, 2) := by decide +kernel
theorem dX5_observe_70 : decode cX5_observe 70 = .ok (.ifCond .ne 7, 3) := by decide +kernel
theorem dX5_observe_73 : decode cX5_observe 73 = .ok (.iconst 2, 1) := by decide +kernel
theorem dX5_observe_74 : decode cX5_observe 74 = .ok (.goto 17, 3) := by decide +kernel
theorem dX5_observe_77 : decode cX5_observe 77 = .ok (.aload_n 0, 1) := by decide +kernel
theorem dX5_observe_78 : decode cX5_observe 78 = .ok (.getfield 59, 3) := by decide +kernel
theorem dX5_observe_81 : decode cX5_observe 81 = .ok (.bipush 14, 2) := by decide +kernel
theorem dX5_observe_83 : decode cX5_observe 83 = .ok (.if_icmp .ne 7, 3) := by decide +kernel
theorem dX5_observe_86 : decode cX5_observe 86 = .ok (.iconst 3, 1) := by decide +kernel
theorem dX5_observe_87 : decode cX5_observe 87 = .ok (.goto 4, 3) := by decide +kernel
theorem dX5_observe_90 : decode cX5_observe 90 = .ok (.iconst 0, 1) := by decide +kernel
theorem dX5_observe_91 : decode cX5_observe 91 = .ok (.invokevirtual 62, 3) := by decide +kernel
theorem dX5_observe_94 : decode cX5_observe 94 = .ok (.ifCond .ne 5, 3) := by decide +kernel
theorem dX5_observe_97 : decode cX5_observe 97 = .ok (.iconst 0, 1) := by decide +kernel
theorem dX5_observe_98 : decode cX5_observe 98 = .ok (.ireturn, 1) := by decide +kernel
theorem dX5_observe_99 : decode cX5_observe 99 = .ok (.aload_n 0, 1) := by decide +kernel
theorem dX5_observe_100 : decode cX5_observe 100 = .ok (.getfield 17, 3) := by decide +kernel
theorem dX5_observe_103 : decode cX5_observe 103 = .ok (.aload_n 0, 1) := by decide +kernel
theorem dX5_observe_104 : decode cX5_observe 104 = .ok (.getfield 59, 3) := by decide +kernel
theorem dX5_observe_107 : decode cX5_observe 107 = .ok (.iload_n 1, 1) := by decide +kernel
theorem dX5_observe_108 : decode cX5_observe 108 = .ok (.iastore, 1) := by decide +kernel
theorem dX5_observe_109 : decode cX5_observe 109 = .ok (.aload_n 0, 1) := by decide +kernel
theorem dX5_observe_110 : decode cX5_observe 110 = .ok (.getfield 20, 3) := by decide +kernel
theorem dX5_observe_113 : decode cX5_observe 113 = .ok (.aload_n 0, 1) := by decide +kernel
theorem dX5_observe_114 : decode cX5_observe 114 = .ok (.getfield 59, 3) := by decide +kernel
theorem dX5_observe_117 : decode cX5_observe 117 = .ok (.iload_n 2, 1) := by decide +kernel
theorem dX5_observe_118 : decode cX5_observe 118 = .ok (.iastore, 1) := by decide +kernel
theorem dX5_observe_119 : decode cX5_observe 119 = .ok (.aload_n 0, 1) := by decide +kernel
theorem dX5_observe_120 : decode cX5_observe 120 = .ok (.getfield 23, 3) := by decide +kernel
theorem dX5_observe_123 : decode cX5_observe 123 = .ok (.aload_n 0, 1) := by decide +kernel
theorem dX5_observe_124 : decode cX5_observe 124 = .ok (.getfield 59, 3) := by decide +kernel
theorem dX5_observe_127 : decode cX5_observe 127 = .ok (.iload_n 3, 1) := by decide +kernel
theorem dX5_observe_128 : decode cX5_observe 128 = .ok (.iastore, 1) := by decide +kernel
theorem dX5_observe_129 : decode cX5_observe 129 = .ok (.aload_n 0, 1) := by decide +kernel
theorem dX5_observe_130 : decode cX5_observe 130 = .ok (.getfield 26, 3) := by decide +kernel
theorem dX5_observe_133 : decode cX5_observe 133 = .ok (.aload_n 0, 1) := by decide +kernel
theorem dX5_observe_134 : decode cX5_observe 134 = .ok (.getfield 59, 3) := by decide +kernel
theorem dX5_observe_137 : decode cX5_observe 137 = .ok (.iload 4, 2) := by decide +kernel
theorem dX5_observe_139 : decode cX5_observe 139 = .ok (.iastore, 1) := by decide +kernel
theorem dX5_observe_140 : decode cX5_observe 140 = .ok (.aload_n 0, 1) := by decide +kernel
theorem dX5_observe_141 : decode cX5_observe 141 = .ok (.dup, 1) := by decide +kernel
theorem dX5_observe_142 : decode cX5_observe 142 = .ok (.getfield 59, 3) := by decide +kernel
theorem dX5_observe_145 : decode cX5_observe 145 = .ok (.iconst 1, 1) := by decide +kernel
theorem dX5_observe_146 : decode cX5_observe 146 = .ok (.iadd, 1) := by decide +kernel
theorem dX5_observe_147 : decode cX5_observe 147 = .ok (.putfield 59, 3) := by decide +kernel
theorem dX5_observe_150 : decode cX5_observe 150 = .ok (.aload_n 0, 1) := by decide +kernel
theorem dX5_observe_151 : decode cX5_observe 151 = .ok (.getfield 59, 3) := by decide +kernel
theorem dX5_observe_154 : decode cX5_observe 154 = .ok (.iconst 1, 1) := by decide +kernel
theorem dX5_observe_155 : decode cX5_observe 155 = .ok (.isub, 1) := by decide +kernel
theorem dX5_observe_156 : decode cX5_observe 156 = .ok (.ireturn, 1) := by decide +kernel
set_option maxRecDepth 20000 in
theorem ggX5_withdraw_X5_isObservation : GoodIn wsX5_withdraw wsX5_isObservation := goodIn_r _ [6, 7, 8, 9, 5, 10, 16, 17, 18, 19, 20, 21, 22, 23, 24, 25, 26, 27, 28, 29, 30, 31, 32, 33] (by decide +kernel) (by decide +kernel)
set_option maxRecDepth 20000 in
theorem gX5_withdraw_X5_isObservation : GoodIn wsX5_withdraw (wsV RX5 69 RX5 yX5_isObservation wsX5_isObservation) := goodIn_app (goodIn_of _ (by decide +kernel)) ggX5_withdraw_X5_isObservation
set_option maxRecDepth 20000 in
theorem ggX5_withdraw_X5_goes : GoodIn wsX5_withdraw wsX5_goes := goodIn_r _ [14, 15, 16, 17, 18, 19, 20, 21, 22, 23, 24, 25, 26, 27, 28, 29, 30, 31, 32, 33] (by decide +kernel) (by decide +kernel)
set_option maxRecDepth 20000 in
theorem gX5_withdraw_X5_goes : GoodIn wsX5_withdraw (wsV RX5 62 RX5 yX5_goes wsX5_goes) := goodIn_app (goodIn_of _ (by decide +kernel)) ggX5_withdraw_X5_goes
theorem dX5_withdraw_0 : decode cX5_withdraw 0 = .ok (.aload_n 0, 1) := by decide +kernel
theorem dX5_withdraw_1 : decode cX5_withdraw 1 = .ok (.aload_n 0, 1) := by decide +kernel
theorem dX5_withdraw_2 : decode cX5_withdraw 2 = .ok (.iload_n 1, 1) := by decide +kernel
theorem dX5_withdraw_3 : decode cX5_withdraw 3 = .ok (.invokevirtual 69, 3) := by decide +kernel
theorem dX5_withdraw_6 : decode cX5_withdraw 6 = .ok (.ifCond .eq 7, 3) := by decide +kernel
theorem dX5_withdraw_9 : decode cX5_withdraw 9 = .ok (.iconst 0, 1) := by decide +kernel
theorem dX5_withdraw_10 : decode cX5_withdraw 10 = .ok (.goto 4, 3) := by decide +kernel
theorem dX5_withdraw_13 : decode cX5_withdraw 13 = .ok (.iconst 1, 1) := by decide +kernel
theorem dX5_withdraw_14 : decode cX5_withdraw 14 = .ok (.invokevirtual 62, 3) := by decide +kernel
theorem dX5_withdraw_17 : decode cX5_withdraw 17 = .ok (.ifCond .ne 5, 3) := by decide +kernel
theorem dX5_withdraw_20 : decode cX5_withdraw 20 = .ok (.iconst 0, 1) := by decide +kernel
theorem dX5_withdraw_21 : decode cX5_withdraw 21 = .ok (.ireturn, 1) := by decide +kernel
theorem dX5_withdraw_22 : decode cX5_withdraw 22 = .ok (.aload_n 0, 1) := by decide +kernel
theorem dX5_withdraw_23 : decode cX5_withdraw 23 = .ok (.getfield 29, 3) := by decide +kernel
theorem dX5_withdraw_26 : decode cX5_withdraw 26 = .ok (.iload_n 1, 1) := by decide +kernel
theorem dX5_withdraw_27 : decode cX5_withdraw 27 = .ok (.baload, 1) := by decide +kernel
theorem dX5_withdraw_28 : decode cX5_withdraw 28 = .ok (.istore_n 3, 1) := by decide +kernel
theorem dX5_withdraw_29 : decode cX5_withdraw 29 = .ok (.aload_n 0, 1) := by decide +kernel
theorem dX5_withdraw_30 : decode cX5_withdraw 30 = .ok (.getfield 29, 3) := by decide +kernel
theorem dX5_withdraw_33 : decode cX5_withdraw 33 = .ok (.iload_n 1, 1) := by decide +kernel
theorem dX5_withdraw_34 : decode cX5_withdraw 34 = .ok (.iload_n 2, 1) := by decide +kernel
theorem dX5_withdraw_35 : decode cX5_withdraw 35 = .ok (.bastore, 1) := by decide +kernel
theorem dX5_withdraw_36 : decode cX5_withdraw 36 = .ok (.iload_n 3, 1) := by decide +kernel
theorem dX5_withdraw_37 : decode cX5_withdraw 37 = .ok (.ireturn, 1) := by decide +kernel
theorem dX5_reaches_0 : decode cX5_reaches 0 = .ok (.iconst 0, 1) := by decide +kernel
theorem dX5_reaches_1 : decode cX5_reaches 1 = .ok (.istore_n 2, 1) := by decide +kernel
theorem dX5_reaches_2 : decode cX5_reaches 2 = .ok (.iload_n 2, 1) := by decide +kernel
theorem dX5_reaches_3 : decode cX5_reaches 3 = .ok (.bipush 6, 2) := by decide +kernel
theorem dX5_reaches_5 : decode cX5_reaches 5 = .ok (.if_icmp .ge 25, 3) := by decide +kernel
theorem dX5_reaches_8 : decode cX5_reaches 8 = .ok (.aload_n 0, 1) := by decide +kernel
theorem dX5_reaches_9 : decode cX5_reaches 9 = .ok (.getfield 35, 3) := by decide +kernel
theorem dX5_reaches_12 : decode cX5_reaches 12 = .ok (.iload_n 2, 1) := by decide +kernel
theorem dX5_reaches_13 : decode cX5_reaches 13 = .ok (.iload_n 2, 1) := by decide +kernel
theorem dX5_reaches_14 : decode cX5_reaches 14 = .ok (.iload_n 1, 1) := by decide +kernel
theorem dX5_reaches_15 : decode cX5_reaches 15 = .ok (.if_icmp .ne 7, 3) := by decide +kernel
theorem dX5_reaches_18 : decode cX5_reaches 18 = .ok (.iconst 1, 1) := by decide +kernel
theorem dX5_reaches_19 : decode cX5_reaches 19 = .ok (.goto 4, 3) := by decide +kernel
theorem dX5_reaches_22 : decode cX5_reaches 22 = .ok (.iconst 0, 1) := by decide +kernel
theorem dX5_reaches_23 : decode cX5_reaches 23 = .ok (.bastore, 1) := by decide +kernel
theorem dX5_reaches_24 : decode cX5_reaches 24 = .ok (.iinc 2 1, 3) := by decide +kernel
theorem dX5_reaches_27 : decode cX5_reaches 27 = .ok (.goto (-25), 3) := by decide +kernel
theorem dX5_reaches_30 : decode cX5_reaches 30 = .ok (.iconst 0, 1) := by decide +kernel
theorem dX5_reaches_31 : decode cX5_reaches 31 = .ok (.istore_n 2, 1) := by decide +kernel
theorem dX5_reaches_32 : decode cX5_reaches 32 = .ok (.iload_n 2, 1) := by decide +kernel
theorem dX5_reaches_33 : decode cX5_reaches 33 = .ok (.bipush 6, 2) := by decide +kernel
theorem dX5_reaches_35 : decode cX5_reaches 35 = .ok (.if_icmp .ge 83, 3) := by decide +kernel
theorem dX5_reaches_38 : decode cX5_reaches 38 = .ok (.iconst 0, 1) := by decide +kernel
theorem dX5_reaches_39 : decode cX5_reaches 39 = .ok (.istore_n 3, 1) := by decide +kernel
theorem dX5_reaches_40 : decode cX5_reaches 40 = .ok (.iload_n 3, 1) := by decide +kernel
theorem dX5_reaches_41 : decode cX5_reaches 41 = .ok (.aload_n 0, 1) := by decide +kernel
theorem dX5_reaches_42 : decode cX5_reaches 42 = .ok (.getfield 59, 3) := by decide +kernel
theorem dX5_reaches_45 : decode cX5_reaches 45 = .ok (.if_icmp .ge 67, 3) := by decide +kernel
theorem dX5_reaches_48 : decode cX5_reaches 48 = .ok (.aload_n 0, 1) := by decide +kernel
theorem dX5_reaches_49 : decode cX5_reaches 49 = .ok (.getfield 29, 3) := by decide +kernel
theorem dX5_reaches_52 : decode cX5_reaches 52 = .ok (.iload_n 3, 1) := by decide +kernel
theorem dX5_reaches_53 : decode cX5_reaches 53 = .ok (.baload, 1) := by decide +kernel
theorem dX5_reaches_54 : decode cX5_reaches 54 = .ok (.ifCond .ne 52, 3) := by decide +kernel
theorem dX5_reaches_57 : decode cX5_reaches 57 = .ok (.aload_n 0, 1) := by decide +kernel
theorem dX5_reaches_58 : decode cX5_reaches 58 = .ok (.getfield 35, 3) := by decide +kernel
theorem dX5_reaches_61 : decode cX5_reaches 61 = .ok (.aload_n 0, 1) := by decide +kernel
theorem dX5_reaches_62 : decode cX5_reaches 62 = .ok (.getfield 17, 3) := by decide +kernel
theorem dX5_reaches_65 : decode cX5_reaches 65 = .ok (.iload_n 3, 1) := by decide +kernel
theorem dX5_reaches_66 : decode cX5_reaches 66 = .ok (.iaload, 1) := by decide +kernel
theorem dX5_reaches_67 : decode cX5_reaches 67 = .ok (.baload, 1) := by decide +kernel
theorem dX5_reaches_68 : decode cX5_reaches 68 = .ok (.aload_n 0, 1) := by decide +kernel
theorem dX5_reaches_69 : decode cX5_reaches 69 = .ok (.getfield 35, 3) := by decide +kernel
theorem dX5_reaches_72 : decode cX5_reaches 72 = .ok (.aload_n 0, 1) := by decide +kernel
theorem dX5_reaches_73 : decode cX5_reaches 73 = .ok (.getfield 20, 3) := by decide +kernel
theorem dX5_reaches_76 : decode cX5_reaches 76 = .ok (.iload_n 3, 1) := by decide +kernel
theorem dX5_reaches_77 : decode cX5_reaches 77 = .ok (.iaload, 1) := by decide +kernel
theorem dX5_reaches_78 : decode cX5_reaches 78 = .ok (.baload, 1) := by decide +kernel
theorem dX5_reaches_79 : decode cX5_reaches 79 = .ok (.if_icmp .eq 27, 3) := by decide +kernel
theorem dX5_reaches_82 : decode cX5_reaches 82 = .ok (.aload_n 0, 1) := by decide +kernel
theorem dX5_reaches_83 : decode cX5_reaches 83 = .ok (.getfield 35, 3) := by decide +kernel
theorem dX5_reaches_86 : decode cX5_reaches 86 = .ok (.aload_n 0, 1) := by decide +kernel
theorem dX5_reaches_87 : decode cX5_reaches 87 = .ok (.getfield 17, 3) := by decide +kernel
theorem dX5_reaches_90 : decode cX5_reaches 90 = .ok (.iload_n 3, 1) := by decide +kernel
theorem dX5_reaches_91 : decode cX5_reaches 91 = .ok (.iaload, 1) := by decide +kernel
theorem dX5_reaches_92 : decode cX5_reaches 92 = .ok (.iconst 1, 1) := by decide +kernel
theorem dX5_reaches_93 : decode cX5_reaches 93 = .ok (.bastore, 1) := by decide +kernel
theorem dX5_reaches_94 : decode cX5_reaches 94 = .ok (.aload_n 0, 1) := by decide +kernel
theorem dX5_reaches_95 : decode cX5_reaches 95 = .ok (.getfield 35, 3) := by decide +kernel
theorem dX5_reaches_98 : decode cX5_reaches 98 = .ok (.aload_n 0, 1) := by decide +kernel
theorem dX5_reaches_99 : decode cX5_reaches 99 = .ok (.getfield 20, 3) := by decide +kernel
theorem dX5_reaches_102 : decode cX5_reaches 102 = .ok (.iload_n 3, 1) := by decide +kernel
theorem dX5_reaches_103 : decode cX5_reaches 103 = .ok (.iaload, 1) := by decide +kernel
theorem dX5_reaches_104 : decode cX5_reaches 104 = .ok (.iconst 1, 1) := by decide +kernel
theorem dX5_reaches_105 : decode cX5_reaches 105 = .ok (.bastore, 1) := by decide +kernel
theorem dX5_reaches_106 : decode cX5_reaches 106 = .ok (.iinc 3 1, 3) := by decide +kernel
theorem dX5_reaches_109 : decode cX5_reaches 109 = .ok (.goto (-69), 3) := by decide +kernel
theorem dX5_reaches_112 : decode cX5_reaches 112 = .ok (.iinc 2 1, 3) := by decide +kernel
theorem dX5_reaches_115 : decode cX5_reaches 115 = .ok (.goto (-83), 3) := by decide +kernel
theorem dX5_reaches_118 : decode cX5_reaches 118 = .ok (.aload_n 0, 1) := by decide +kernel
theorem dX5_reaches_119 : decode cX5_reaches 119 = .ok (.iconst (-1), 1) := by decide +kernel
theorem dX5_reaches_120 : decode cX5_reaches 120 = .ok (.putfield 72, 3) := by decide +kernel
theorem dX5_reaches_123 : decode cX5_reaches 123 = .ok (.aload_n 0, 1) := by decide +kernel
theorem dX5_reaches_124 : decode cX5_reaches 124 = .ok (.getfield 52, 3) := by decide +kernel
theorem dX5_reaches_127 : decode cX5_reaches 127 = .ok (.iconst 1, 1) := by decide +kernel
theorem dX5_reaches_128 : decode cX5_reaches 128 = .ok (.isub, 1) := by decide +kernel
theorem dX5_reaches_129 : decode cX5_reaches 129 = .ok (.istore_n 2, 1) := by decide +kernel
theorem dX5_reaches_130 : decode cX5_reaches 130 = .ok (.iload_n 2, 1) := by decide +kernel
theorem dX5_reaches_131 : decode cX5_reaches 131 = .ok (.ifCond .lt 59, 3) := by decide +kernel
theorem dX5_reaches_134 : decode cX5_reaches 134 = .ok (.aload_n 0, 1) := by decide +kernel
theorem dX5_reaches_135 : decode cX5_reaches 135 = .ok (.aload_n 0, 1) := by decide +kernel
theorem dX5_reaches_136 : decode cX5_reaches 136 = .ok (.getfield 35, 3) := by decide +kernel
theorem dX5_reaches_139 : decode cX5_reaches 139 = .ok (.iload_n 2, 1) := by decide +kernel
theorem dX5_reaches_140 : decode cX5_reaches 140 = .ok (.baload, 1) := by decide +kernel
theorem dX5_reaches_141 : decode cX5_reaches 141 = .ok (.ifCond .eq 36, 3) := by decide +kernel
theorem dX5_reaches_144 : decode cX5_reaches 144 = .ok (.aload_n 0, 1) := by decide +kernel
theorem dX5_reaches_145 : decode cX5_reaches 145 = .ok (.getfield 7, 3) := by decide +kernel
theorem dX5_reaches_148 : decode cX5_reaches 148 = .ok (.iload_n 2, 1) := by decide +kernel
theorem dX5_reaches_149 : decode cX5_reaches 149 = .ok (.baload, 1) := by decide +kernel
theorem dX5_reaches_150 : decode cX5_reaches 150 = .ok (.ifCond .ne 23, 3) := by decide +kernel
theorem dX5_reaches_153 : decode cX5_reaches 153 = .ok (.aload_n 0, 1) := by decide +kernel
theorem dX5_reaches_154 : decode cX5_reaches 154 = .ok (.getfield 72, 3) := by decide +kernel
theorem dX5_reaches_157 : decode cX5_reaches 157 = .ok (.iconst (-1), 1) := by decide +kernel
theorem dX5_reaches_158 : decode cX5_reaches 158 = .ok (.if_icmp .eq 15, 3) := by decide +kernel
theorem dX5_reaches_161 : decode cX5_reaches 161 = .ok (.aload_n 0, 1) := by decide +kernel
theorem dX5_reaches_162 : decode cX5_reaches 162 = .ok (.getfield 7, 3) := by decide +kernel
theorem dX5_reaches_165 : decode cX5_reaches 165 = .ok (.aload_n 0, 1) := by decide +kernel
theorem dX5_reaches_166 : decode cX5_reaches 166 = .ok (.getfield 72, 3) := by decide +kernel
theorem dX5_reaches_169 : decode cX5_reaches 169 = .ok (.baload, 1) := by decide +kernel
theorem dX5_reaches_170 : decode cX5_reaches 170 = .ok (.ifCond .ne 7, 3) := by decide +kernel
theorem dX5_reaches_173 : decode cX5_reaches 173 = .ok (.iload_n 2, 1) := by decide +kernel
theorem dX5_reaches_174 : decode cX5_reaches 174 = .ok (.goto 7, 3) := by decide +kernel
theorem dX5_reaches_177 : decode cX5_reaches 177 = .ok (.aload_n 0, 1) := by decide +kernel
theorem dX5_reaches_178 : decode cX5_reaches 178 = .ok (.getfield 72, 3) := by decide +kernel
theorem dX5_reaches_181 : decode cX5_reaches 181 = .ok (.putfield 72, 3) := by decide +kernel
theorem dX5_reaches_184 : decode cX5_reaches 184 = .ok (.iinc 2 (-1), 3) := by decide +kernel
theorem dX5_reaches_187 : decode cX5_reaches 187 = .ok (.goto (-57), 3) := by decide +kernel
theorem dX5_reaches_190 : decode cX5_reaches 190 = .ok (.return_, 1) := by decide +kernel
theorem dX5_adds_0 : decode cX5_adds 0 = .ok (.iload_n 1, 1) := by decide +kernel
theorem dX5_adds_1 : decode cX5_adds 1 = .ok (.aload_n 0, 1) := by decide +kernel
theorem dX5_adds_2 : decode cX5_adds 2 = .ok (.getfield 72, 3) := by decide +kernel
theorem dX5_adds_5 : decode cX5_adds 5 = .ok (.if_icmp .eq 26, 3) := by decide +kernel
theorem dX5_adds_8 : decode cX5_adds 8 = .ok (.iload_n 2, 1) := by decide +kernel
theorem dX5_adds_9 : decode cX5_adds 9 = .ok (.aload_n 0, 1) := by decide +kernel
theorem dX5_adds_10 : decode cX5_adds 10 = .ok (.getfield 72, 3) := by decide +kernel
theorem dX5_adds_13 : decode cX5_adds 13 = .ok (.if_icmp .eq 18, 3) := by decide +kernel
theorem dX5_adds_16 : decode cX5_adds 16 = .ok (.aload_n 0, 1) := by decide +kernel
theorem dX5_adds_17 : decode cX5_adds 17 = .ok (.getfield 38, 3) := by decide +kernel
theorem dX5_adds_20 : decode cX5_adds 20 = .ok (.bipush 7, 2) := by decide +kernel
theorem dX5_adds_22 : decode cX5_adds 22 = .ok (.iload_n 1, 1) := by decide +kernel
theorem dX5_adds_23 : decode cX5_adds 23 = .ok (.imul, 1) := by decide +kernel
theorem dX5_adds_24 : decode cX5_adds 24 = .ok (.iload_n 2, 1) := by decide +kernel
theorem dX5_adds_25 : decode cX5_adds 25 = .ok (.iadd, 1) := by decide +kernel
theorem dX5_adds_26 : decode cX5_adds 26 = .ok (.dup2, 1) := by decide +kernel
theorem dX5_adds_27 : decode cX5_adds 27 = .ok (.laload, 1) := by decide +kernel
theorem dX5_adds_28 : decode cX5_adds 28 = .ok (.lload_n 3, 1) := by decide +kernel
theorem dX5_adds_29 : decode cX5_adds 29 = .ok (.ladd, 1) := by decide +kernel
theorem dX5_adds_30 : decode cX5_adds 30 = .ok (.lastore, 1) := by decide +kernel
theorem dX5_adds_31 : decode cX5_adds 31 = .ok (.return_, 1) := by decide +kernel
set_option maxRecDepth 20000 in
theorem ggX5_lays_X5_adds : GoodIn wsX5_lays wsX5_adds := goodIn_r _ [13, 3, 1, 14, 15, 16, 17, 18, 19, 20, 21, 22, 23, 24, 25, 26, 27, 28, 29, 30, 31] (by decide +kernel) (by decide +kernel)
set_option maxRecDepth 20000 in
theorem gX5_lays_X5_adds : GoodIn wsX5_lays (wsV RX5 75 RX5 yX5_adds wsX5_adds) := goodIn_app (goodIn_of _ (by decide +kernel)) ggX5_lays_X5_adds
theorem dX5_lays_0 : decode cX5_lays 0 = .ok (.iconst 0, 1) := by decide +kernel
theorem dX5_lays_1 : decode cX5_lays 1 = .ok (.istore_n 1, 1) := by decide +kernel
theorem dX5_lays_2 : decode cX5_lays 2 = .ok (.iload_n 1, 1) := by decide +kernel
theorem dX5_lays_3 : decode cX5_lays 3 = .ok (.bipush 42, 2) := by decide +kernel
theorem dX5_lays_5 : decode cX5_lays 5 = .ok (.if_icmp .ge 16, 3) := by decide +kernel
theorem dX5_lays_8 : decode cX5_lays 8 = .ok (.aload_n 0, 1) := by decide +kernel
theorem dX5_lays_9 : decode cX5_lays 9 = .ok (.getfield 38, 3) := by decide +kernel
theorem dX5_lays_12 : decode cX5_lays 12 = .ok (.iload_n 1, 1) := by decide +kernel
theorem dX5_lays_13 : decode cX5_lays 13 = .ok (.lconst 0, 1) := by decide +kernel
theorem dX5_lays_14 : decode cX5_lays 14 = .ok (.lastore, 1) := by decide +kernel
theorem dX5_lays_15 : decode cX5_lays 15 = .ok (.iinc 1 1, 3) := by decide +kernel
theorem dX5_lays_18 : decode cX5_lays 18 = .ok (.goto (-16), 3) := by decide +kernel
theorem dX5_lays_21 : decode cX5_lays 21 = .ok (.iconst 0, 1) := by decide +kernel
theorem dX5_lays_22 : decode cX5_lays 22 = .ok (.istore_n 1, 1) := by decide +kernel
theorem dX5_lays_23 : decode cX5_lays 23 = .ok (.iload_n 1, 1) := by decide +kernel
theorem dX5_lays_24 : decode cX5_lays 24 = .ok (.bipush 6, 2) := by decide +kernel
theorem dX5_lays_26 : decode cX5_lays 26 = .ok (.if_icmp .ge 42, 3) := by decide +kernel
theorem dX5_lays_29 : decode cX5_lays 29 = .ok (.aload_n 0, 1) := by decide +kernel
theorem dX5_lays_30 : decode cX5_lays 30 = .ok (.getfield 38, 3) := by decide +kernel
theorem dX5_lays_33 : decode cX5_lays 33 = .ok (.bipush 7, 2) := by decide +kernel
theorem dX5_lays_35 : decode cX5_lays 35 = .ok (.iload_n 1, 1) := by decide +kernel
theorem dX5_lays_36 : decode cX5_lays 36 = .ok (.imul, 1) := by decide +kernel
theorem dX5_lays_37 : decode cX5_lays 37 = .ok (.iload_n 1, 1) := by decide +kernel
theorem dX5_lays_38 : decode cX5_lays 38 = .ok (.iadd, 1) := by decide +kernel
theorem dX5_lays_39 : decode cX5_lays 39 = .ok (.aload_n 0, 1) := by decide +kernel
theorem dX5_lays_40 : decode cX5_lays 40 = .ok (.getfield 35, 3) := by decide +kernel
theorem dX5_lays_43 : decode cX5_lays 43 = .ok (.iload_n 1, 1) := by decide +kernel
theorem dX5_lays_44 : decode cX5_lays 44 = .ok (.baload, 1) := by decide +kernel
theorem dX5_lays_45 : decode cX5_lays 45 = .ok (.ifCond .eq 15, 3) := by decide +kernel
theorem dX5_lays_48 : decode cX5_lays 48 = .ok (.iload_n 1, 1) := by decide +kernel
theorem dX5_lays_49 : decode cX5_lays 49 = .ok (.aload_n 0, 1) := by decide +kernel
theorem dX5_lays_50 : decode cX5_lays 50 = .ok (.getfield 72, 3) := by decide +kernel
theorem dX5_lays_53 : decode cX5_lays 53 = .ok (.if_icmp .eq 7, 3) := by decide +kernel
theorem dX5_lays_56 : decode cX5_lays 56 = .ok (.lconst 0, 1) := by decide +kernel
theorem dX5_lays_57 : decode cX5_lays 57 = .ok (.goto 4, 3) := by decide +kernel
theorem dX5_lays_60 : decode cX5_lays 60 = .ok (.lconst 1, 1) := by decide +kernel
theorem dX5_lays_61 : decode cX5_lays 61 = .ok (.lastore, 1) := by decide +kernel
theorem dX5_lays_62 : decode cX5_lays 62 = .ok (.iinc 1 1, 3) := by decide +kernel
theorem dX5_lays_65 : decode cX5_lays 65 = .ok (.goto (-42), 3) := by decide +kernel
theorem dX5_lays_68 : decode cX5_lays 68 = .ok (.iconst 0, 1) := by decide +kernel
theorem dX5_lays_69 : decode cX5_lays 69 = .ok (.istore_n 1, 1) := by decide +kernel
theorem dX5_lays_70 : decode cX5_lays 70 = .ok (.iload_n 1, 1) := by decide +kernel
theorem dX5_lays_71 : decode cX5_lays 71 = .ok (.aload_n 0, 1) := by decide +kernel
theorem dX5_lays_72 : decode cX5_lays 72 = .ok (.getfield 59, 3) := by decide +kernel
theorem dX5_lays_75 : decode cX5_lays 75 = .ok (.if_icmp .ge 126, 3) := by decide +kernel
theorem dX5_lays_78 : decode cX5_lays 78 = .ok (.aload_n 0, 1) := by decide +kernel
theorem dX5_lays_79 : decode cX5_lays 79 = .ok (.getfield 29, 3) := by decide +kernel
theorem dX5_lays_82 : decode cX5_lays 82 = .ok (.iload_n 1, 1) := by decide +kernel
theorem dX5_lays_83 : decode cX5_lays 83 = .ok (.baload, 1) := by decide +kernel
theorem dX5_lays_84 : decode cX5_lays 84 = .ok (.ifCond .ne 111, 3) := by decide +kernel
theorem dX5_lays_87 : decode cX5_lays 87 = .ok (.aload_n 0, 1) := by decide +kernel
theorem dX5_lays_88 : decode cX5_lays 88 = .ok (.getfield 35, 3) := by decide +kernel
theorem dX5_lays_91 : decode cX5_lays 91 = .ok (.aload_n 0, 1) := by decide +kernel
theorem dX5_lays_92 : decode cX5_lays 92 = .ok (.getfield 17, 3) := by decide +kernel
theorem dX5_lays_95 : decode cX5_lays 95 = .ok (.iload_n 1, 1) := by decide +kernel
theorem dX5_lays_96 : decode cX5_lays 96 = .ok (.iaload, 1) := by decide +kernel
theorem dX5_lays_97 : decode cX5_lays 97 = .ok (.baload, 1) := by decide +kernel
theorem dX5_lays_98 : decode cX5_lays 98 = .ok (.ifCond .eq 97, 3) := by decide +kernel
theorem dX5_lays_101 : decode cX5_lays 101 = .ok (.aload_n 0, 1) := by decide +kernel
theorem dX5_lays_102 : decode cX5_lays 102 = .ok (.aload_n 0, 1) := by decide +kernel
theorem dX5_lays_103 : decode cX5_lays 103 = .ok (.getfield 17, 3) := by decide +kernel
theorem dX5_lays_106 : decode cX5_lays 106 = .ok (.iload_n 1, 1) := by decide +kernel
theorem dX5_lays_107 : decode cX5_lays 107 = .ok (.iaload, 1) := by decide +kernel
theorem dX5_lays_108 : decode cX5_lays 108 = .ok (.aload_n 0, 1) := by decide +kernel
theorem dX5_lays_109 : decode cX5_lays 109 = .ok (.getfield 17, 3) := by decide +kernel
theorem dX5_lays_112 : decode cX5_lays 112 = .ok (.iload_n 1, 1) := by decide +kernel
theorem dX5_lays_113 : decode cX5_lays 113 = .ok (.iaload, 1) := by decide +kernel
theorem dX5_lays_114 : decode cX5_lays 114 = .ok (.aload_n 0, 1) := by decide +kernel
theorem dX5_lays_115 : decode cX5_lays 115 = .ok (.getfield 26, 3) := by decide +kernel
theorem dX5_lays_118 : decode cX5_lays 118 = .ok (.iload_n 1, 1) := by decide +kernel
theorem dX5_lays_119 : decode cX5_lays 119 = .ok (.iaload, 1) := by decide +kernel
theorem dX5_lays_120 : decode cX5_lays 120 = .ok (.i2l, 1) := by decide +kernel
theorem dX5_lays_121 : decode cX5_lays 121 = .ok (.invokevirtual 75, 3) := by decide +kernel
theorem dX5_lays_124 : decode cX5_lays 124 = .ok (.aload_n 0, 1) := by decide +kernel
theorem dX5_lays_125 : decode cX5_lays 125 = .ok (.aload_n 0, 1) := by decide +kernel
theorem dX5_lays_126 : decode cX5_lays 126 = .ok (.getfield 20, 3) := by decide +kernel
theorem dX5_lays_129 : decode cX5_lays 129 = .ok (.iload_n 1, 1) := by decide +kernel
theorem dX5_lays_130 : decode cX5_lays 130 = .ok (.iaload, 1) := by decide +kernel
theorem dX5_lays_131 : decode cX5_lays 131 = .ok (.aload_n 0, 1) := by decide +kernel
theorem dX5_lays_132 : decode cX5_lays 132 = .ok (.getfield 20, 3) := by decide +kernel
theorem dX5_lays_135 : decode cX5_lays 135 = .ok (.iload_n 1, 1) := by decide +kernel
theorem dX5_lays_136 : decode cX5_lays 136 = .ok (.iaload, 1) := by decide +kernel
theorem dX5_lays_137 : decode cX5_lays 137 = .ok (.aload_n 0, 1) := by decide +kernel
theorem dX5_lays_138 : decode cX5_lays 138 = .ok (.getfield 26, 3) := by decide +kernel
theorem dX5_lays_141 : decode cX5_lays 141 = .ok (.iload_n 1, 1) := by decide +kernel
theorem dX5_lays_142 : decode cX5_lays 142 = .ok (.iaload, 1) := by decide +kernel
theorem dX5_lays_143 : decode cX5_lays 143 = .ok (.i2l, 1) := by decide +kernel
theorem dX5_lays_144 : decode cX5_lays 144 = .ok (.invokevirtual 75, 3) := by decide +kernel
theorem dX5_lays_147 : decode cX5_lays 147 = .ok (.aload_n 0, 1) := by decide +kernel
theorem dX5_lays_148 : decode cX5_lays 148 = .ok (.aload_n 0, 1) := by decide +kernel
theorem dX5_lays_149 : decode cX5_lays 149 = .ok (.getfield 17, 3) := by decide +kernel
theorem dX5_lays_152 : decode cX5_lays 152 = .ok (.iload_n 1, 1) := by decide +kernel
theorem dX5_lays_153 : decode cX5_lays 153 = .ok (.iaload, 1) := by decide +kernel
theorem dX5_lays_154 : decode cX5_lays 154 = .ok (.aload_n 0, 1) := by decide +kernel
theorem dX5_lays_155 : decode cX5_lays 155 = .ok (.getfield 20, 3) := by decide +kernel
theorem dX5_lays_158 : decode cX5_lays 158 = .ok (.iload_n 1, 1) := by decide +kernel
theorem dX5_lays_159 : decode cX5_lays 159 = .ok (.iaload, 1) := by decide +kernel
theorem dX5_lays_160 : decode cX5_lays 160 = .ok (.aload_n 0, 1) := by decide +kernel
theorem dX5_lays_161 : decode cX5_lays 161 = .ok (.getfield 26, 3) := by decide +kernel
theorem dX5_lays_164 : decode cX5_lays 164 = .ok (.iload_n 1, 1) := by decide +kernel
theorem dX5_lays_165 : decode cX5_lays 165 = .ok (.iaload, 1) := by decide +kernel
theorem dX5_lays_166 : decode cX5_lays 166 = .ok (.ineg, 1) := by decide +kernel
theorem dX5_lays_167 : decode cX5_lays 167 = .ok (.i2l, 1) := by decide +kernel
theorem dX5_lays_168 : decode cX5_lays 168 = .ok (.invokevirtual 75, 3) := by decide +kernel
theorem dX5_lays_171 : decode cX5_lays 171 = .ok (.aload_n 0, 1) := by decide +kernel
theorem dX5_lays_172 : decode cX5_lays 172 = .ok (.aload_n 0, 1) := by decide +kernel
theorem dX5_lays_173 : decode cX5_lays 173 = .ok (.getfield 20, 3) := by decide +kernel
theorem dX5_lays_176 : decode cX5_lays 176 = .ok (.iload_n 1, 1) := by decide +kernel
theorem dX5_lays_177 : decode cX5_lays 177 = .ok (.iaload, 1) := by decide +kernel
theorem dX5_lays_178 : decode cX5_lays 178 = .ok (.aload_n 0, 1) := by decide +kernel
theorem dX5_lays_179 : decode cX5_lays 179 = .ok (.getfield 17, 3) := by decide +kernel
theorem dX5_lays_182 : decode cX5_lays 182 = .ok (.iload_n 1, 1) := by decide +kernel
theorem dX5_lays_183 : decode cX5_lays 183 = .ok (.iaload, 1) := by decide +kernel
theorem dX5_lays_184 : decode cX5_lays 184 = .ok (.aload_n 0, 1) := by decide +kernel
theorem dX5_lays_185 : decode cX5_lays 185 = .ok (.getfield 26, 3) := by decide +kernel
theorem dX5_lays_188 : decode cX5_lays 188 = .ok (.iload_n 1, 1) := by decide +kernel
theorem dX5_lays_189 : decode cX5_lays 189 = .ok (.iaload, 1) := by decide +kernel
theorem dX5_lays_190 : decode cX5_lays 190 = .ok (.ineg, 1) := by decide +kernel
theorem dX5_lays_191 : decode cX5_lays 191 = .ok (.i2l, 1) := by decide +kernel
theorem dX5_lays_192 : decode cX5_lays 192 = .ok (.invokevirtual 75, 3) := by decide +kernel
theorem dX5_lays_195 : decode cX5_lays 195 = .ok (.iinc 1 1, 3) := by decide +kernel
theorem dX5_lays_198 : decode cX5_lays 198 = .ok (.goto (-128), 3) := by decide +kernel
theorem dX5_lays_201 : decode cX5_lays 201 = .ok (.return_, 1) := by decide +kernel
set_option maxRecDepth 20000 in
theorem ggX5_laysDifferences_X5_adds : GoodIn wsX5_laysDifferences wsX5_adds := goodIn_r _ [12, 13, 14, 15, 16, 17, 18, 19, 20, 21, 22, 23, 24, 25, 26, 27, 28, 29, 30, 31, 32] (by decide +kernel) (by decide +kernel)
set_option maxRecDepth 20000 in
theorem gX5_laysDifferences_X5_adds : GoodIn wsX5_laysDifferences (wsV RX5 75 RX5 yX5_adds wsX5_adds) := goodIn_app (goodIn_of _ (by decide +kernel)) ggX5_laysDifferences_X5_adds
theorem dX5_laysDifferences_0 : decode cX5_laysDifferences 0 = .ok (.iconst 0, 1) := by decide +kernel
theorem dX5_laysDifferences_1 : decode cX5_laysDifferences 1 = .ok (.istore_n 1, 1) := by decide +kernel
theorem dX5_laysDifferences_2 : decode cX5_laysDifferences 2 = .ok (.iload_n 1, 1) := by decide +kernel
theorem dX5_laysDifferences_3 : decode cX5_laysDifferences 3 = .ok (.aload_n 0, 1) := by decide +kernel
theorem dX5_laysDifferences_4 : decode cX5_laysDifferences 4 = .ok (.getfield 59, 3) := by decide +kernel
theorem dX5_laysDifferences_7 : decode cX5_laysDifferences 7 = .ok (.if_icmp .ge 87, 3) := by decide +kernel
theorem dX5_laysDifferences_10 : decode cX5_laysDifferences 10 = .ok (.aload_n 0, 1) := by decide +kernel
theorem dX5_laysDifferences_11 : decode cX5_laysDifferences 11 = .ok (.getfield 29, 3) := by decide +kernel
theorem dX5_laysDifferences_14 : decode cX5_laysDifferences 14 = .ok (.iload_n 1, 1) := by decide +kernel
theorem dX5_laysDifferences_15 : decode cX5_laysDifferences 15 = .ok (.baload, 1) := by decide +kernel
theorem dX5_laysDifferences_16 : decode cX5_laysDifferences 16 = .ok (.ifCond .ne 72, 3) := by decide +kernel
theorem dX5_laysDifferences_19 : decode cX5_laysDifferences 19 = .ok (.aload_n 0, 1) := by decide +kernel
theorem dX5_laysDifferences_20 : decode cX5_laysDifferences 20 = .ok (.getfield 35, 3) := by decide +kernel
theorem dX5_laysDifferences_23 : decode cX5_laysDifferences 23 = .ok (.aload_n 0, 1) := by decide +kernel
theorem dX5_laysDifferences_24 : decode cX5_laysDifferences 24 = .ok (.getfield 17, 3) := by decide +kernel
theorem dX5_laysDifferences_27 : decode cX5_laysDifferences 27 = .ok (.iload_n 1, 1) := by decide +kernel
theorem dX5_laysDifferences_28 : decode cX5_laysDifferences 28 = .ok (.iaload, 1) := by decide +kernel
theorem dX5_laysDifferences_29 : decode cX5_laysDifferences 29 = .ok (.baload, 1) := by decide +kernel
theorem dX5_laysDifferences_30 : decode cX5_laysDifferences 30 = .ok (.ifCond .eq 58, 3) := by decide +kernel
theorem dX5_laysDifferences_33 : decode cX5_laysDifferences 33 = .ok (.aload_n 0, 1) := by decide +kernel
theorem dX5_laysDifferences_34 : decode cX5_laysDifferences 34 = .ok (.aload_n 0, 1) := by decide +kernel
theorem dX5_laysDifferences_35 : decode cX5_laysDifferences 35 = .ok (.getfield 20, 3) := by decide +kernel
theorem dX5_laysDifferences_38 : decode cX5_laysDifferences 38 = .ok (.iload_n 1, 1) := by decide +kernel
theorem dX5_laysDifferences_39 : decode cX5_laysDifferences 39 = .ok (.iaload, 1) := by decide +kernel
theorem dX5_laysDifferences_40 : decode cX5_laysDifferences 40 = .ok (.bipush 6, 2) := by decide +kernel
theorem dX5_laysDifferences_42 : decode cX5_laysDifferences 42 = .ok (.aload_n 0, 1) := by decide +kernel
theorem dX5_laysDifferences_43 : decode cX5_laysDifferences 43 = .ok (.getfield 26, 3) := by decide +kernel
theorem dX5_laysDifferences_46 : decode cX5_laysDifferences 46 = .ok (.iload_n 1, 1) := by decide +kernel
theorem dX5_laysDifferences_47 : decode cX5_laysDifferences 47 = .ok (.iaload, 1) := by decide +kernel
theorem dX5_laysDifferences_48 : decode cX5_laysDifferences 48 = .ok (.i2l, 1) := by decide +kernel
theorem dX5_laysDifferences_49 : decode cX5_laysDifferences 49 = .ok (.aload_n 0, 1) := by decide +kernel
theorem dX5_laysDifferences_50 : decode cX5_laysDifferences 50 = .ok (.getfield 23, 3) := by decide +kernel
theorem dX5_laysDifferences_53 : decode cX5_laysDifferences 53 = .ok (.iload_n 1, 1) := by decide +kernel
theorem dX5_laysDifferences_54 : decode cX5_laysDifferences 54 = .ok (.iaload, 1) := by decide +kernel
theorem dX5_laysDifferences_55 : decode cX5_laysDifferences 55 = .ok (.i2l, 1) := by decide +kernel
theorem dX5_laysDifferences_56 : decode cX5_laysDifferences 56 = .ok (.lmul, 1) := by decide +kernel
theorem dX5_laysDifferences_57 : decode cX5_laysDifferences 57 = .ok (.invokevirtual 75, 3) := by decide +kernel
theorem dX5_laysDifferences_60 : decode cX5_laysDifferences 60 = .ok (.aload_n 0, 1) := by decide +kernel
theorem dX5_laysDifferences_61 : decode cX5_laysDifferences 61 = .ok (.aload_n 0, 1) := by decide +kernel
theorem dX5_laysDifferences_62 : decode cX5_laysDifferences 62 = .ok (.getfield 17, 3) := by decide +kernel
theorem dX5_laysDifferences_65 : decode cX5_laysDifferences 65 = .ok (.iload_n 1, 1) := by decide +kernel
theorem dX5_laysDifferences_66 : decode cX5_laysDifferences 66 = .ok (.iaload, 1) := by decide +kernel
theorem dX5_laysDifferences_67 : decode cX5_laysDifferences 67 = .ok (.bipush 6, 2) := by decide +kernel
theorem dX5_laysDifferences_69 : decode cX5_laysDifferences 69 = .ok (.aload_n 0, 1) := by decide +kernel
theorem dX5_laysDifferences_70 : decode cX5_laysDifferences 70 = .ok (.getfield 26, 3) := by decide +kernel
theorem dX5_laysDifferences_73 : decode cX5_laysDifferences 73 = .ok (.iload_n 1, 1) := by decide +kernel
theorem dX5_laysDifferences_74 : decode cX5_laysDifferences 74 = .ok (.iaload, 1) := by decide +kernel
theorem dX5_laysDifferences_75 : decode cX5_laysDifferences 75 = .ok (.ineg, 1) := by decide +kernel
theorem dX5_laysDifferences_76 : decode cX5_laysDifferences 76 = .ok (.i2l, 1) := by decide +kernel
theorem dX5_laysDifferences_77 : decode cX5_laysDifferences 77 = .ok (.aload_n 0, 1) := by decide +kernel
theorem dX5_laysDifferences_78 : decode cX5_laysDifferences 78 = .ok (.getfield 23, 3) := by decide +kernel
theorem dX5_laysDifferences_81 : decode cX5_laysDifferences 81 = .ok (.iload_n 1, 1) := by decide +kernel
theorem dX5_laysDifferences_82 : decode cX5_laysDifferences 82 = .ok (.iaload, 1) := by decide +kernel
theorem dX5_laysDifferences_83 : decode cX5_laysDifferences 83 = .ok (.i2l, 1) := by decide +kernel
theorem dX5_laysDifferences_84 : decode cX5_laysDifferences 84 = .ok (.lmul, 1) := by decide +kernel
theorem dX5_laysDifferences_85 : decode cX5_laysDifferences 85 = .ok (.invokevirtual 75, 3) := by decide +kernel
theorem dX5_laysDifferences_88 : decode cX5_laysDifferences 88 = .ok (.iinc 1 1, 3) := by decide +kernel
theorem dX5_laysDifferences_91 : decode cX5_laysDifferences 91 = .ok (.goto (-89), 3) := by decide +kernel
theorem dX5_laysDifferences_94 : decode cX5_laysDifferences 94 = .ok (.return_, 1) := by decide +kernel
theorem dX5_solves_0 : decode cX5_solves 0 = .ok (.lconst 1, 1) := by decide +kernel
theorem dX5_solves_1 : decode cX5_solves 1 = .ok (.lstore_n 1, 1) := by decide +kernel
theorem dX5_solves_2 : decode cX5_solves 2 = .ok (.iconst 0, 1) := by decide +kernel
theorem dX5_solves_3 : decode cX5_solves 3 = .ok (.istore_n 3, 1) := by decide +kernel
theorem dX5_solves_4 : decode cX5_solves 4 = .ok (.iload_n 3, 1) := by decide +kernel
theorem dX5_solves_5 : decode cX5_solves 5 = .ok (.bipush 6, 2) := by decide +kernel
theorem dX5_solves_7 : decode cX5_solves 7 = .ok (.if_icmp .ge 122, 3) := by decide +kernel
theorem dX5_solves_10 : decode cX5_solves 10 = .ok (.aload_n 0, 1) := by decide +kernel
theorem dX5_solves_11 : decode cX5_solves 11 = .ok (.getfield 38, 3) := by decide +kernel
theorem dX5_solves_14 : decode cX5_solves 14 = .ok (.bipush 7, 2) := by decide +kernel
theorem dX5_solves_16 : decode cX5_solves 16 = .ok (.iload_n 3, 1) := by decide +kernel
theorem dX5_solves_17 : decode cX5_solves 17 = .ok (.imul, 1) := by decide +kernel
theorem dX5_solves_18 : decode cX5_solves 18 = .ok (.iload_n 3, 1) := by decide +kernel
theorem dX5_solves_19 : decode cX5_solves 19 = .ok (.iadd, 1) := by decide +kernel
theorem dX5_solves_20 : decode cX5_solves 20 = .ok (.laload, 1) := by decide +kernel
theorem dX5_solves_21 : decode cX5_solves 21 = .ok (.lstore 4, 2) := by decide +kernel
theorem dX5_solves_23 : decode cX5_solves 23 = .ok (.iconst 0, 1) := by decide +kernel
theorem dX5_solves_24 : decode cX5_solves 24 = .ok (.istore 6, 2) := by decide +kernel
theorem dX5_solves_26 : decode cX5_solves 26 = .ok (.iload 6, 2) := by decide +kernel
theorem dX5_solves_28 : decode cX5_solves 28 = .ok (.bipush 6, 2) := by decide +kernel
theorem dX5_solves_30 : decode cX5_solves 30 = .ok (.if_icmp .ge 90, 3) := by decide +kernel
theorem dX5_solves_33 : decode cX5_solves 33 = .ok (.aload_n 0, 1) := by decide +kernel
theorem dX5_solves_34 : decode cX5_solves 34 = .ok (.getfield 38, 3) := by decide +kernel
theorem dX5_solves_37 : decode cX5_solves 37 = .ok (.bipush 7, 2) := by decide +kernel
theorem dX5_solves_39 : decode cX5_solves 39 = .ok (.iload 6, 2) := by decide +kernel
theorem dX5_solves_41 : decode cX5_solves 41 = .ok (.imul, 1) := by decide +kernel
theorem dX5_solves_42 : decode cX5_solves 42 = .ok (.iload_n 3, 1) := by decide +kernel
theorem dX5_solves_43 : decode cX5_solves 43 = .ok (.iadd, 1) := by decide +kernel
theorem dX5_solves_44 : decode cX5_solves 44 = .ok (.laload, 1) := by decide +kernel
theorem dX5_solves_45 : decode cX5_solves 45 = .ok (.lstore 7, 2) := by decide +kernel
theorem dX5_solves_47 : decode cX5_solves 47 = .ok (.iconst 0, 1) := by decide +kernel
theorem dX5_solves_48 : decode cX5_solves 48 = .ok (.istore 9, 2) := by decide +kernel
theorem dX5_solves_50 : decode cX5_solves 50 = .ok (.iload 9, 2) := by decide +kernel
theorem dX5_solves_52 : decode cX5_solves 52 = .ok (.bipush 7, 2) := by decide +kernel
theorem dX5_solves_54 : decode cX5_solves 54 = .ok (.if_icmp .ge 60, 3) := by decide +kernel
theorem dX5_solves_57 : decode cX5_solves 57 = .ok (.iload 6, 2) := by decide +kernel
theorem dX5_solves_59 : decode cX5_solves 59 = .ok (.iload_n 3, 1) := by decide +kernel
theorem dX5_solves_60 : decode cX5_solves 60 = .ok (.if_icmp .eq 54, 3) := by decide +kernel
theorem dX5_solves_63 : decode cX5_solves 63 = .ok (.bipush 7, 2) := by decide +kernel
theorem dX5_solves_65 : decode cX5_solves 65 = .ok (.iload 6, 2) := by decide +kernel
theorem dX5_solves_67 : decode cX5_solves 67 = .ok (.imul, 1) := by decide +kernel
theorem dX5_solves_68 : decode cX5_solves 68 = .ok (.iload 9, 2) := by decide +kernel
theorem dX5_solves_70 : decode cX5_solves 70 = .ok (.iadd, 1) := by decide +kernel
theorem dX5_solves_71 : decode cX5_solves 71 = .ok (.istore 10, 2) := by decide +kernel
theorem dX5_solves_73 : decode cX5_solves 73 = .ok (.aload_n 0, 1) := by decide +kernel
theorem dX5_solves_74 : decode cX5_solves 74 = .ok (.getfield 38, 3) := by decide +kernel
theorem dX5_solves_77 : decode cX5_solves 77 = .ok (.iload 10, 2) := by decide +kernel
theorem dX5_solves_79 : decode cX5_solves 79 = .ok (.lload 4, 2) := by decide +kernel
theorem dX5_solves_81 : decode cX5_solves 81 = .ok (.aload_n 0, 1) := by decide +kernel
theorem dX5_solves_82 : decode cX5_solves 82 = .ok (.getfield 38, 3) := by decide +kernel
theorem dX5_solves_85 : decode cX5_solves 85 = .ok (.iload 10, 2) := by decide +kernel
theorem dX5_solves_87 : decode cX5_solves 87 = .ok (.laload, 1) := by decide +kernel
theorem dX5_solves_88 : decode cX5_solves 88 = .ok (.lmul, 1) := by decide +kernel
theorem dX5_solves_89 : decode cX5_solves 89 = .ok (.lload 7, 2) := by decide +kernel
theorem dX5_solves_91 : decode cX5_solves 91 = .ok (.aload_n 0, 1) := by decide +kernel
theorem dX5_solves_92 : decode cX5_solves 92 = .ok (.getfield 38, 3) := by decide +kernel
theorem dX5_solves_95 : decode cX5_solves 95 = .ok (.bipush 7, 2) := by decide +kernel
theorem dX5_solves_97 : decode cX5_solves 97 = .ok (.iload_n 3, 1) := by decide +kernel
theorem dX5_solves_98 : decode cX5_solves 98 = .ok (.imul, 1) := by decide +kernel
theorem dX5_solves_99 : decode cX5_solves 99 = .ok (.iload 9, 2) := by decide +kernel
theorem dX5_solves_101 : decode cX5_solves 101 = .ok (.iadd, 1) := by decide +kernel
theorem dX5_solves_102 : decode cX5_solves 102 = .ok (.laload, 1) := by decide +kernel
theorem dX5_solves_103 : decode cX5_solves 103 = .ok (.lmul, 1) := by decide +kernel
theorem dX5_solves_104 : decode cX5_solves 104 = .ok (.lsub, 1) := by decide +kernel
theorem dX5_solves_105 : decode cX5_solves 105 = .ok (.lload_n 1, 1) := by decide +kernel
theorem dX5_solves_106 : decode cX5_solves 106 = .ok (.ldiv, 1) := by decide +kernel
theorem dX5_solves_107 : decode cX5_solves 107 = .ok (.lastore, 1) := by decide +kernel
theorem dX5_solves_108 : decode cX5_solves 108 = .ok (.iinc 9 1, 3) := by decide +kernel
theorem dX5_solves_111 : decode cX5_solves 111 = .ok (.goto (-61), 3) := by decide +kernel
theorem dX5_solves_114 : decode cX5_solves 114 = .ok (.iinc 6 1, 3) := by decide +kernel
theorem dX5_solves_117 : decode cX5_solves 117 = .ok (.goto (-91), 3) := by decide +kernel
theorem dX5_solves_120 : decode cX5_solves 120 = .ok (.lload 4, 2) := by decide +kernel
theorem dX5_solves_122 : decode cX5_solves 122 = .ok (.lstore_n 1, 1) := by decide +kernel
theorem dX5_solves_123 : decode cX5_solves 123 = .ok (.iinc 3 1, 3) := by decide +kernel
theorem dX5_solves_126 : decode cX5_solves 126 = .ok (.goto (-122), 3) := by decide +kernel
theorem dX5_solves_129 : decode cX5_solves 129 = .ok (.aload_n 0, 1) := by decide +kernel
theorem dX5_solves_130 : decode cX5_solves 130 = .ok (.lload_n 1, 1) := by decide +kernel
theorem dX5_solves_131 : decode cX5_solves 131 = .ok (.putfield 79, 3) := by decide +kernel
theorem dX5_solves_134 : decode cX5_solves 134 = .ok (.iconst 0, 1) := by decide +kernel
theorem dX5_solves_135 : decode cX5_solves 135 = .ok (.istore_n 3, 1) := by decide +kernel
theorem dX5_solves_136 : decode cX5_solves 136 = .ok (.iload_n 3, 1) := by decide +kernel
theorem dX5_solves_137 : decode cX5_solves 137 = .ok (.bipush 6, 2) := by decide +kernel
theorem dX5_solves_139 : decode cX5_solves 139 = .ok (.if_icmp .ge 40, 3) := by decide +kernel
theorem dX5_solves_142 : decode cX5_solves 142 = .ok (.aload_n 0, 1) := by decide +kernel
theorem dX5_solves_143 : decode cX5_solves 143 = .ok (.getfield 42, 3) := by decide +kernel
theorem dX5_solves_146 : decode cX5_solves 146 = .ok (.iload_n 3, 1) := by decide +kernel
theorem dX5_solves_147 : decode cX5_solves 147 = .ok (.aload_n 0, 1) := by decide +kernel
theorem dX5_solves_148 : decode cX5_solves 148 = .ok (.getfield 35, 3) := by decide +kernel
theorem dX5_solves_151 : decode cX5_solves 151 = .ok (.iload_n 3, 1) := by decide +kernel
theorem dX5_solves_152 : decode cX5_solves 152 = .ok (.baload, 1) := by decide +kernel
theorem dX5_solves_153 : decode cX5_solves 153 = .ok (.ifCond .eq 18, 3) := by decide +kernel
theorem dX5_solves_156 : decode cX5_solves 156 = .ok (.aload_n 0, 1) := by decide +kernel
theorem dX5_solves_157 : decode cX5_solves 157 = .ok (.getfield 38, 3) := by decide +kernel
theorem dX5_solves_160 : decode cX5_solves 160 = .ok (.bipush 7, 2) := by decide +kernel
theorem dX5_solves_162 : decode cX5_solves 162 = .ok (.iload_n 3, 1) := by decide +kernel
theorem dX5_solves_163 : decode cX5_solves 163 = .ok (.imul, 1) := by decide +kernel
theorem dX5_solves_164 : decode cX5_solves 164 = .ok (.bipush 6, 2) := by decide +kernel
theorem dX5_solves_166 : decode cX5_solves 166 = .ok (.iadd, 1) := by decide +kernel
theorem dX5_solves_167 : decode cX5_solves 167 = .ok (.laload, 1) := by decide +kernel
theorem dX5_solves_168 : decode cX5_solves 168 = .ok (.goto 4, 3) := by decide +kernel
theorem dX5_solves_171 : decode cX5_solves 171 = .ok (.lconst 0, 1) := by decide +kernel
theorem dX5_solves_172 : decode cX5_solves 172 = .ok (.lastore, 1) := by decide +kernel
theorem dX5_solves_173 : decode cX5_solves 173 = .ok (.iinc 3 1, 3) := by decide +kernel
theorem dX5_solves_176 : decode cX5_solves 176 = .ok (.goto (-40), 3) := by decide +kernel
theorem dX5_solves_179 : decode cX5_solves 179 = .ok (.return_, 1) := by decide +kernel
set_option maxRecDepth 20000 in
theorem ggX5_finds_X5_reaches : GoodIn wsX5_finds wsX5_reaches := goodIn_r _ [5, 6, 7, 8, 9, 10, 11, 12, 13, 35, 36, 37, 38, 39, 40, 41, 42, 43, 44, 45, 46, 47, 48, 49, 50, 51, 52] (by decide +kernel) (by decide +kernel)
set_option maxRecDepth 20000 in
theorem gX5_finds_X5_reaches : GoodIn wsX5_finds (wsV RX5 83 RX5 yX5_reaches wsX5_reaches) := goodIn_app (goodIn_of _ (by decide +kernel)) ggX5_finds_X5_reaches
set_option maxRecDepth 20000 in
theorem ggX5_finds_X5_lays : GoodIn wsX5_finds wsX5_lays := goodIn_r _ [17, 18, 6, 11, 7, 8, 9, 19, 10, 20, 21, 22, 4, 23, 35, 36, 37, 38, 39, 40, 41, 42, 43, 44, 45, 46, 47, 48, 49, 50, 51, 52] (by decide +kernel) (by decide +kernel)
set_option maxRecDepth 20000 in
theorem gX5_finds_X5_lays : GoodIn wsX5_finds (wsV RX5 87 RX5 yX5_lays wsX5_lays) := goodIn_app (goodIn_of _ (by decide +kernel)) ggX5_finds_X5_lays
set_option maxRecDepth 20000 in
theorem ggX5_finds_X5_laysDifferences : GoodIn wsX5_finds wsX5_laysDifferences := goodIn_r _ [27, 7, 8, 6, 9, 10, 19, 28, 20, 21, 22, 4, 23, 11, 18, 35, 36, 37, 38, 39, 40, 41, 42, 43, 44, 45, 46, 47, 48, 49, 50, 51, 52] (by decide +kernel) (by decide +kernel)
set_option maxRecDepth 20000 in
theorem gX5_finds_X5_laysDifferences : GoodIn wsX5_finds (wsV RX5 90 RX5 yX5_laysDifferences wsX5_laysDifferences) := goodIn_app (goodIn_of _ (by decide +kernel)) ggX5_finds_X5_laysDifferences
set_option maxRecDepth 20000 in
theorem ggX5_finds_X5_solves : GoodIn wsX5_finds wsX5_solves := goodIn_r _ [32, 18, 33, 34, 6, 35, 36, 37, 38, 39, 40, 41, 42, 43, 44, 45, 46, 47, 48, 49, 50, 51, 52] (by decide +kernel) (by decide +kernel)
set_option maxRecDepth 20000 in
theorem gX5_finds_X5_solves : GoodIn wsX5_finds (wsV RX5 93 RX5 yX5_solves wsX5_solves) := goodIn_app (goodIn_of _ (by decide +kernel)) ggX5_finds_X5_solves
theorem dX5_finds_0 : decode cX5_finds 0 = .ok (.aload_n 0, 1) := by decide +kernel
theorem dX5_finds_1 : decode cX5_finds 1 = .ok (.iload_n 1, 1) := by decide +kernel
theorem dX5_finds_2 : decode cX5_finds 2 = .ok (.invokevirtual 83, 3) := by decide +kernel
theorem dX5_finds_5 : decode cX5_finds 5 = .ok (.aload_n 0, 1) := by decide +kernel
theorem dX5_finds_6 : decode cX5_finds 6 = .ok (.invokevirtual 87, 3) := by decide +kernel
theorem dX5_finds_9 : decode cX5_finds 9 = .ok (.aload_n 0, 1) := by decide +kernel
theorem dX5_finds_10 : decode cX5_finds 10 = .ok (.invokevirtual 90, 3) := by decide +kernel
theorem dX5_finds_13 : decode cX5_finds 13 = .ok (.aload_n 0, 1) := by decide +kernel
theorem dX5_finds_14 : decode cX5_finds 14 = .ok (.invokevirtual 93, 3) := by decide +kernel
theorem dX5_finds_17 : decode cX5_finds 17 = .ok (.return_, 1) := by decide +kernel
theorem dX5_floor_0 : decode cX5_floor 0 = .ok (.lload_n 0, 1) := by decide +kernel
theorem dX5_floor_1 : decode cX5_floor 1 = .ok (.lload_n 2, 1) := by decide +kernel
theorem dX5_floor_2 : decode cX5_floor 2 = .ok (.ldiv, 1) := by decide +kernel
theorem dX5_floor_3 : decode cX5_floor 3 = .ok (.lstore 4, 2) := by decide +kernel
theorem dX5_floor_5 : decode cX5_floor 5 = .ok (.lload 4, 2) := by decide +kernel
theorem dX5_floor_7 : decode cX5_floor 7 = .ok (.lload_n 2, 1) := by decide +kernel
theorem dX5_floor_8 : decode cX5_floor 8 = .ok (.lmul, 1) := by decide +kernel
theorem dX5_floor_9 : decode cX5_floor 9 = .ok (.lload_n 0, 1) := by decide +kernel
theorem dX5_floor_10 : decode cX5_floor 10 = .ok (.lcmp, 1) := by decide +kernel
theorem dX5_floor_11 : decode cX5_floor 11 = .ok (.ifCond .le 10, 3) := by decide +kernel
theorem dX5_floor_14 : decode cX5_floor 14 = .ok (.lload 4, 2) := by decide +kernel
theorem dX5_floor_16 : decode cX5_floor 16 = .ok (.lconst 1, 1) := by decide +kernel
theorem dX5_floor_17 : decode cX5_floor 17 = .ok (.lsub, 1) := by decide +kernel
theorem dX5_floor_18 : decode cX5_floor 18 = .ok (.goto 5, 3) := by decide +kernel
theorem dX5_floor_21 : decode cX5_floor 21 = .ok (.lload 4, 2) := by decide +kernel
theorem dX5_floor_23 : decode cX5_floor 23 = .ok (.lreturn, 1) := by decide +kernel
theorem dX5_size_0 : decode cX5_size 0 = .ok (.lload_n 0, 1) := by decide +kernel
theorem dX5_size_1 : decode cX5_size 1 = .ok (.lconst 0, 1) := by decide +kernel
theorem dX5_size_2 : decode cX5_size 2 = .ok (.lcmp, 1) := by decide +kernel
theorem dX5_size_3 : decode cX5_size 3 = .ok (.ifCond .ge 8, 3) := by decide +kernel
theorem dX5_size_6 : decode cX5_size 6 = .ok (.lload_n 0, 1) := by decide +kernel
theorem dX5_size_7 : decode cX5_size 7 = .ok (.lneg, 1) := by decide +kernel
theorem dX5_size_8 : decode cX5_size 8 = .ok (.goto 4, 3) := by decide +kernel
theorem dX5_size_11 : decode cX5_size 11 = .ok (.lload_n 0, 1) := by decide +kernel
theorem dX5_size_12 : decode cX5_size 12 = .ok (.lreturn, 1) := by decide +kernel
set_option maxRecDepth 20000 in
theorem ggX5_heightOf_X5_finds : GoodIn wsX5_heightOf wsX5_finds := goodIn_r _ [10, 11, 12, 13, 9, 14, 15, 16, 17, 18, 19, 3, 20, 21, 22, 23, 24, 25, 26, 27, 28, 29, 30, 31, 32, 33, 34, 35, 36, 37, 38, 39, 40, 5, 4, 44, 45, 46, 47, 48, 49, 50, 51, 52, 53, 54, 55, 56, 57, 58, 59, 60, 61] (by decide +kernel) (by decide +kernel)
set_option maxRecDepth 20000 in
theorem gX5_heightOf_X5_finds : GoodIn wsX5_heightOf (wsV RX5 96 RX5 yX5_finds wsX5_finds) := goodIn_app (goodIn_of _ (by decide +kernel)) ggX5_heightOf_X5_finds
set_option maxRecDepth 20000 in
theorem ggX5_heightOf_X5_floor : GoodIn wsX5_heightOf wsX5_floor := goodIn_r _ [43] (by decide +kernel) (by decide +kernel)
set_option maxRecDepth 20000 in
theorem gX5_heightOf_X5_floor : GoodIn wsX5_heightOf (va_wsS RX5 101 yX5_floor wsX5_floor) := goodIn_app (goodIn_of _ (by decide +kernel)) ggX5_heightOf_X5_floor
theorem dX5_heightOf_0 : decode cX5_heightOf 0 = .ok (.aload_n 0, 1) := by decide +kernel
theorem dX5_heightOf_1 : decode cX5_heightOf 1 = .ok (.iload_n 1, 1) := by decide +kernel
theorem dX5_heightOf_2 : decode cX5_heightOf 2 = .ok (.invokevirtual 96, 3) := by decide +kernel
theorem dX5_heightOf_5 : decode cX5_heightOf 5 = .ok (.ldc2_w 99, 3) := by decide +kernel
theorem dX5_heightOf_8 : decode cX5_heightOf 8 = .ok (.aload_n 0, 1) := by decide +kernel
theorem dX5_heightOf_9 : decode cX5_heightOf 9 = .ok (.getfield 13, 3) := by decide +kernel
theorem dX5_heightOf_12 : decode cX5_heightOf 12 = .ok (.aload_n 0, 1) := by decide +kernel
theorem dX5_heightOf_13 : decode cX5_heightOf 13 = .ok (.getfield 72, 3) := by decide +kernel
theorem dX5_heightOf_16 : decode cX5_heightOf 16 = .ok (.iaload, 1) := by decide +kernel
theorem dX5_heightOf_17 : decode cX5_heightOf 17 = .ok (.i2l, 1) := by decide +kernel
theorem dX5_heightOf_18 : decode cX5_heightOf 18 = .ok (.lmul, 1) := by decide +kernel
theorem dX5_heightOf_19 : decode cX5_heightOf 19 = .ok (.ldc2_w 99, 3) := by decide +kernel
theorem dX5_heightOf_22 : decode cX5_heightOf 22 = .ok (.aload_n 0, 1) := by decide +kernel
theorem dX5_heightOf_23 : decode cX5_heightOf 23 = .ok (.getfield 42, 3) := by decide +kernel
theorem dX5_heightOf_26 : decode cX5_heightOf 26 = .ok (.iload_n 1, 1) := by decide +kernel
theorem dX5_heightOf_27 : decode cX5_heightOf 27 = .ok (.laload, 1) := by decide +kernel
theorem dX5_heightOf_28 : decode cX5_heightOf 28 = .ok (.lmul, 1) := by decide +kernel
theorem dX5_heightOf_29 : decode cX5_heightOf 29 = .ok (.aload_n 0, 1) := by decide +kernel
theorem dX5_heightOf_30 : decode cX5_heightOf 30 = .ok (.getfield 79, 3) := by decide +kernel
theorem dX5_heightOf_33 : decode cX5_heightOf 33 = .ok (.invokestatic 101, 3) := by decide +kernel
theorem dX5_heightOf_36 : decode cX5_heightOf 36 = .ok (.ladd, 1) := by decide +kernel
theorem dX5_heightOf_37 : decode cX5_heightOf 37 = .ok (.lreturn, 1) := by decide +kernel
set_option maxRecDepth 20000 in
theorem ggX5_height_X5_isStation : GoodIn wsX5_height wsX5_isStation := goodIn_r _ [5, 6, 7, 8, 4, 9, 60, 61, 62, 63, 64, 65, 66, 67, 68, 69, 70, 71, 72, 73, 74, 75, 76, 77] (by decide +kernel) (by decide +kernel)
set_option maxRecDepth 20000 in
theorem gX5_height_X5_isStation : GoodIn wsX5_height (wsV RX5 66 RX5 yX5_isStation wsX5_isStation) := goodIn_app (goodIn_of _ (by decide +kernel)) ggX5_height_X5_isStation
set_option maxRecDepth 20000 in
theorem ggX5_height_X5_goes : GoodIn wsX5_height wsX5_goes := goodIn_r _ [13, 14, 60, 61, 62, 63, 64, 65, 66, 67, 68, 69, 70, 71, 72, 73, 74, 75, 76, 77] (by decide +kernel) (by decide +kernel)
set_option maxRecDepth 20000 in
theorem gX5_height_X5_goes : GoodIn wsX5_height (wsV RX5 62 RX5 yX5_goes wsX5_goes) := goodIn_app (goodIn_of _ (by decide +kernel)) ggX5_height_X5_goes
set_option maxRecDepth 20000 in
theorem ggX5_height_X5_heightOf : GoodIn wsX5_height wsX5_heightOf := goodIn_r _ [18, 19, 20, 21, 22, 23, 24, 25, 26, 4, 27, 28, 29, 30, 31, 32, 33, 34, 35, 36, 6, 37, 38, 39, 40, 41, 42, 43, 44, 45, 46, 47, 48, 49, 50, 51, 52, 53, 54, 55, 56, 57, 58, 59, 60, 61, 62, 63, 64, 65, 66, 67, 68, 69, 70, 71, 72, 73, 74, 75, 76, 77] (by decide +kernel) (by decide +kernel)
set_option maxRecDepth 20000 in
theorem gX5_height_X5_heightOf : GoodIn wsX5_height (wsV RX5 105 RX5 yX5_heightOf wsX5_heightOf) := goodIn_app (goodIn_of _ (by decide +kernel)) ggX5_height_X5_heightOf
theorem dX5_height_0 : decode cX5_height 0 = .ok (.aload_n 0, 1) := by decide +kernel
theorem dX5_height_1 : decode cX5_height 1 = .ok (.aload_n 0, 1) := by decide +kernel
theorem dX5_height_2 : decode cX5_height 2 = .ok (.iload_n 1, 1) := by decide +kernel
theorem dX5_height_3 : decode cX5_height 3 = .ok (.invokevirtual 66, 3) := by decide +kernel
theorem dX5_height_6 : decode cX5_height 6 = .ok (.ifCond .eq 7, 3) := by decide +kernel
theorem dX5_height_9 : decode cX5_height 9 = .ok (.iconst 0, 1) := by decide +kernel
theorem dX5_height_10 : decode cX5_height 10 = .ok (.goto 4, 3) := by decide +kernel
theorem dX5_height_13 : decode cX5_height 13 = .ok (.iconst 1, 1) := by decide +kernel
theorem dX5_height_14 : decode cX5_height 14 = .ok (.invokevirtual 62, 3) := by decide +kernel
theorem dX5_height_17 : decode cX5_height 17 = .ok (.ifCond .eq 11, 3) := by decide +kernel
theorem dX5_height_20 : decode cX5_height 20 = .ok (.aload_n 0, 1) := by decide +kernel
theorem dX5_height_21 : decode cX5_height 21 = .ok (.iload_n 1, 1) := by decide +kernel
theorem dX5_height_22 : decode cX5_height 22 = .ok (.invokevirtual 105, 3) := by decide +kernel
theorem dX5_height_25 : decode cX5_height 25 = .ok (.goto 4, 3) := by decide +kernel
theorem dX5_height_28 : decode cX5_height 28 = .ok (.lconst 0, 1) := by decide +kernel
theorem dX5_height_29 : decode cX5_height 29 = .ok (.lreturn, 1) := by decide +kernel
set_option maxRecDepth 20000 in
theorem ggX5_heightAnew_X5_isStation : GoodIn wsX5_heightAnew wsX5_isStation := goodIn_r _ [5, 6, 7, 8, 4, 9, 60, 61, 62, 63, 64, 65, 66, 67, 68, 69, 70, 71, 72, 73, 74, 75, 76, 77] (by decide +kernel) (by decide +kernel)
set_option maxRecDepth 20000 in
theorem gX5_heightAnew_X5_isStation : GoodIn wsX5_heightAnew (wsV RX5 66 RX5 yX5_isStation wsX5_isStation) := goodIn_app (goodIn_of _ (by decide +kernel)) ggX5_heightAnew_X5_isStation
set_option maxRecDepth 20000 in
theorem ggX5_heightAnew_X5_goes : GoodIn wsX5_heightAnew wsX5_goes := goodIn_r _ [13, 14, 60, 61, 62, 63, 64, 65, 66, 67, 68, 69, 70, 71, 72, 73, 74, 75, 76, 77] (by decide +kernel) (by decide +kernel)
set_option maxRecDepth 20000 in
theorem gX5_heightAnew_X5_goes : GoodIn wsX5_heightAnew (wsV RX5 62 RX5 yX5_goes wsX5_goes) := goodIn_app (goodIn_of _ (by decide +kernel)) ggX5_heightAnew_X5_goes
set_option maxRecDepth 20000 in
theorem ggX5_heightAnew_X5_heightOf : GoodIn wsX5_heightAnew wsX5_heightOf := goodIn_r _ [18, 19, 20, 21, 22, 23, 24, 25, 26, 4, 27, 28, 29, 30, 31, 32, 33, 34, 35, 36, 6, 37, 38, 39, 40, 41, 42, 43, 44, 45, 46, 47, 48, 49, 50, 51, 52, 53, 54, 55, 56, 57, 58, 59, 60, 61, 62, 63, 64, 65, 66, 67, 68, 69, 70, 71, 72, 73, 74, 75, 76, 77] (by decide +kernel) (by decide +kernel)
set_option maxRecDepth 20000 in
theorem gX5_heightAnew_X5_heightOf : GoodIn wsX5_heightAnew (wsV RX5 105 RX5 yX5_heightOf wsX5_heightOf) := goodIn_app (goodIn_of _ (by decide +kernel)) ggX5_heightAnew_X5_heightOf
theorem dX5_heightAnew_0 : decode cX5_heightAnew 0 = .ok (.aload_n 0, 1) := by decide +kernel
theorem dX5_heightAnew_1 : decode cX5_heightAnew 1 = .ok (.aload_n 0, 1) := by decide +kernel
theorem dX5_heightAnew_2 : decode cX5_heightAnew 2 = .ok (.iload_n 1, 1) := by decide +kernel
theorem dX5_heightAnew_3 : decode cX5_heightAnew 3 = .ok (.invokevirtual 66, 3) := by decide +kernel
theorem dX5_heightAnew_6 : decode cX5_heightAnew 6 = .ok (.ifCond .eq 7, 3) := by decide +kernel
theorem dX5_heightAnew_9 : decode cX5_heightAnew 9 = .ok (.iconst 0, 1) := by decide +kernel
theorem dX5_heightAnew_10 : decode cX5_heightAnew 10 = .ok (.goto 4, 3) := by decide +kernel
theorem dX5_heightAnew_13 : decode cX5_heightAnew 13 = .ok (.iconst 1, 1) := by decide +kernel
theorem dX5_heightAnew_14 : decode cX5_heightAnew 14 = .ok (.invokevirtual 62, 3) := by decide +kernel
theorem dX5_heightAnew_17 : decode cX5_heightAnew 17 = .ok (.ifCond .eq 11, 3) := by decide +kernel
theorem dX5_heightAnew_20 : decode cX5_heightAnew 20 = .ok (.aload_n 0, 1) := by decide +kernel
theorem dX5_heightAnew_21 : decode cX5_heightAnew 21 = .ok (.iload_n 1, 1) := by decide +kernel
theorem dX5_heightAnew_22 : decode cX5_heightAnew 22 = .ok (.invokevirtual 105, 3) := by decide +kernel
theorem dX5_heightAnew_25 : decode cX5_heightAnew 25 = .ok (.goto 4, 3) := by decide +kernel
theorem dX5_heightAnew_28 : decode cX5_heightAnew 28 = .ok (.lconst 0, 1) := by decide +kernel
theorem dX5_heightAnew_29 : decode cX5_heightAnew 29 = .ok (.lreturn, 1) := by decide +kernel
set_option maxRecDepth 20000 in
theorem ggX5_free_X5_isStation : GoodIn wsX5_free wsX5_isStation := goodIn_r _ [10, 1, 11, 12, 9, 13, 55, 56, 57, 58, 59, 60, 61, 62, 63, 64, 65, 66, 67, 68, 69, 70, 71, 72] (by decide +kernel) (by decide +kernel)
set_option maxRecDepth 20000 in
theorem gX5_free_X5_isStation : GoodIn wsX5_free (wsV RX5 66 RX5 yX5_isStation wsX5_isStation) := goodIn_app (goodIn_of _ (by decide +kernel)) ggX5_free_X5_isStation
set_option maxRecDepth 20000 in
theorem ggX5_free_X5_goes : GoodIn wsX5_free wsX5_goes := goodIn_r _ [17, 18, 55, 56, 57, 58, 59, 60, 61, 62, 63, 64, 65, 66, 67, 68, 69, 70, 71, 72] (by decide +kernel) (by decide +kernel)
set_option maxRecDepth 20000 in
theorem gX5_free_X5_goes : GoodIn wsX5_free (wsV RX5 62 RX5 yX5_goes wsX5_goes) := goodIn_app (goodIn_of _ (by decide +kernel)) ggX5_free_X5_goes
set_option maxRecDepth 20000 in
theorem ggX5_free_X5_finds : GoodIn wsX5_free wsX5_finds := goodIn_r _ [22, 23, 24, 25, 9, 26, 3, 27, 28, 29, 30, 31, 1, 32, 33, 34, 35, 36, 37, 38, 39, 40, 41, 42, 43, 44, 45, 46, 47, 48, 49, 50, 51, 5, 2, 55, 56, 57, 58, 59, 60, 61, 62, 63, 64, 65, 66, 67, 68, 69, 70, 71, 72] (by decide +kernel) (by decide +kernel)
set_option maxRecDepth 20000 in
theorem gX5_free_X5_finds : GoodIn wsX5_free (wsV RX5 96 RX5 yX5_finds wsX5_finds) := goodIn_app (goodIn_of _ (by decide +kernel)) ggX5_free_X5_finds
set_option maxRecDepth 20000 in
theorem ggX5_free_X5_floor : GoodIn wsX5_free wsX5_floor := goodIn_r _ [54] (by decide +kernel) (by decide +kernel)
set_option maxRecDepth 20000 in
theorem gX5_free_X5_floor : GoodIn wsX5_free (va_wsS RX5 101 yX5_floor wsX5_floor) := goodIn_app (goodIn_of _ (by decide +kernel)) ggX5_free_X5_floor
theorem dX5_free_0 : decode cX5_free 0 = .ok (.aload_n 0, 1) := by decide +kernel
theorem dX5_free_1 : decode cX5_free 1 = .ok (.aload_n 0, 1) := by decide +kernel
theorem dX5_free_2 : decode cX5_free 2 = .ok (.iload_n 1, 1) := by decide +kernel
theorem dX5_free_3 : decode cX5_free 3 = .ok (.invokevirtual 66, 3) := by decide +kernel
theorem dX5_free_6 : decode cX5_free 6 = .ok (.ifCond .eq 7, 3) := by decide +kernel
theorem dX5_free_9 : decode cX5_free 9 = .ok (.iconst 0, 1) := by decide +kernel
theorem dX5_free_10 : decode cX5_free 10 = .ok (.goto 4, 3) := by decide +kernel
theorem dX5_free_13 : decode cX5_free 13 = .ok (.iconst 1, 1) := by decide +kernel
theorem dX5_free_14 : decode cX5_free 14 = .ok (.invokevirtual 62, 3) := by decide +kernel
theorem dX5_free_17 : decode cX5_free 17 = .ok (.ifCond .ne 5, 3) := by decide +kernel
theorem dX5_free_20 : decode cX5_free 20 = .ok (.lconst 0, 1) := by decide +kernel
theorem dX5_free_21 : decode cX5_free 21 = .ok (.lreturn, 1) := by decide +kernel
theorem dX5_free_22 : decode cX5_free 22 = .ok (.aload_n 0, 1) := by decide +kernel
theorem dX5_free_23 : decode cX5_free 23 = .ok (.iload_n 1, 1) := by decide +kernel
theorem dX5_free_24 : decode cX5_free 24 = .ok (.invokevirtual 96, 3) := by decide +kernel
theorem dX5_free_27 : decode cX5_free 27 = .ok (.lconst 0, 1) := by decide +kernel
theorem dX5_free_28 : decode cX5_free 28 = .ok (.lstore_n 2, 1) := by decide +kernel
theorem dX5_free_29 : decode cX5_free 29 = .ok (.lconst 0, 1) := by decide +kernel
theorem dX5_free_30 : decode cX5_free 30 = .ok (.lstore 4, 2) := by decide +kernel
theorem dX5_free_32 : decode cX5_free 32 = .ok (.iconst 0, 1) := by decide +kernel
theorem dX5_free_33 : decode cX5_free 33 = .ok (.istore 6, 2) := by decide +kernel
theorem dX5_free_35 : decode cX5_free 35 = .ok (.iload 6, 2) := by decide +kernel
theorem dX5_free_37 : decode cX5_free 37 = .ok (.aload_n 0, 1) := by decide +kernel
theorem dX5_free_38 : decode cX5_free 38 = .ok (.getfield 52, 3) := by decide +kernel
theorem dX5_free_41 : decode cX5_free 41 = .ok (.if_icmp .ge 39, 3) := by decide +kernel
theorem dX5_free_44 : decode cX5_free 44 = .ok (.lload_n 2, 1) := by decide +kernel
theorem dX5_free_45 : decode cX5_free 45 = .ok (.aload_n 0, 1) := by decide +kernel
theorem dX5_free_46 : decode cX5_free 46 = .ok (.getfield 42, 3) := by decide +kernel
theorem dX5_free_49 : decode cX5_free 49 = .ok (.iload 6, 2) := by decide +kernel
theorem dX5_free_51 : decode cX5_free 51 = .ok (.laload, 1) := by decide +kernel
theorem dX5_free_52 : decode cX5_free 52 = .ok (.ladd, 1) := by decide +kernel
theorem dX5_free_53 : decode cX5_free 53 = .ok (.lstore_n 2, 1) := by decide +kernel
theorem dX5_free_54 : decode cX5_free 54 = .ok (.lload 4, 2) := by decide +kernel
theorem dX5_free_56 : decode cX5_free 56 = .ok (.aload_n 0, 1) := by decide +kernel
theorem dX5_free_57 : decode cX5_free 57 = .ok (.getfield 35, 3) := by decide +kernel
theorem dX5_free_60 : decode cX5_free 60 = .ok (.iload 6, 2) := by decide +kernel
theorem dX5_free_62 : decode cX5_free 62 = .ok (.baload, 1) := by decide +kernel
theorem dX5_free_63 : decode cX5_free 63 = .ok (.ifCond .eq 7, 3) := by decide +kernel
theorem dX5_free_66 : decode cX5_free 66 = .ok (.lconst 1, 1) := by decide +kernel
theorem dX5_free_67 : decode cX5_free 67 = .ok (.goto 4, 3) := by decide +kernel
theorem dX5_free_70 : decode cX5_free 70 = .ok (.lconst 0, 1) := by decide +kernel
theorem dX5_free_71 : decode cX5_free 71 = .ok (.ladd, 1) := by decide +kernel
theorem dX5_free_72 : decode cX5_free 72 = .ok (.lstore 4, 2) := by decide +kernel
theorem dX5_free_74 : decode cX5_free 74 = .ok (.iinc 6 1, 3) := by decide +kernel
theorem dX5_free_77 : decode cX5_free 77 = .ok (.goto (-42), 3) := by decide +kernel
theorem dX5_free_80 : decode cX5_free 80 = .ok (.ldc2_w 99, 3) := by decide +kernel
theorem dX5_free_83 : decode cX5_free 83 = .ok (.lload 4, 2) := by decide +kernel
theorem dX5_free_85 : decode cX5_free 85 = .ok (.aload_n 0, 1) := by decide +kernel
theorem dX5_free_86 : decode cX5_free 86 = .ok (.getfield 42, 3) := by decide +kernel
theorem dX5_free_89 : decode cX5_free 89 = .ok (.iload_n 1, 1) := by decide +kernel
theorem dX5_free_90 : decode cX5_free 90 = .ok (.laload, 1) := by decide +kernel
theorem dX5_free_91 : decode cX5_free 91 = .ok (.lmul, 1) := by decide +kernel
theorem dX5_free_92 : decode cX5_free 92 = .ok (.lload_n 2, 1) := by decide +kernel
theorem dX5_free_93 : decode cX5_free 93 = .ok (.lsub, 1) := by decide +kernel
theorem dX5_free_94 : decode cX5_free 94 = .ok (.lmul, 1) := by decide +kernel
theorem dX5_free_95 : decode cX5_free 95 = .ok (.lload 4, 2) := by decide +kernel
theorem dX5_free_97 : decode cX5_free 97 = .ok (.aload_n 0, 1) := by decide +kernel
theorem dX5_free_98 : decode cX5_free 98 = .ok (.getfield 79, 3) := by decide +kernel
theorem dX5_free_101 : decode cX5_free 101 = .ok (.lmul, 1) := by decide +kernel
theorem dX5_free_102 : decode cX5_free 102 = .ok (.invokestatic 101, 3) := by decide +kernel
theorem dX5_free_105 : decode cX5_free 105 = .ok (.lreturn, 1) := by decide +kernel
set_option maxRecDepth 20000 in
theorem ggX5_apart_X5_finds : GoodIn wsX5_apart wsX5_finds := goodIn_r _ [10, 11, 12, 13, 9, 14, 15, 16, 17, 1, 3, 18, 19, 20, 21, 22, 23, 24, 25, 26, 27, 28, 29, 30, 31, 32, 33, 34, 4, 35, 36, 37, 38, 5, 2, 39, 40, 41, 42, 43, 44, 45, 46, 47, 48, 49, 50, 51, 52, 53, 54, 55, 56] (by decide +kernel) (by decide +kernel)
set_option maxRecDepth 20000 in
theorem gX5_apart_X5_finds : GoodIn wsX5_apart (wsV RX5 96 RX5 yX5_finds wsX5_finds) := goodIn_app (goodIn_of _ (by decide +kernel)) ggX5_apart_X5_finds
theorem dX5_apart_0 : decode cX5_apart 0 = .ok (.aload_n 0, 1) := by decide +kernel
theorem dX5_apart_1 : decode cX5_apart 1 = .ok (.aload_n 0, 1) := by decide +kernel
theorem dX5_apart_2 : decode cX5_apart 2 = .ok (.getfield 17, 3) := by decide +kernel
theorem dX5_apart_5 : decode cX5_apart 5 = .ok (.iload_n 1, 1) := by decide +kernel
theorem dX5_apart_6 : decode cX5_apart 6 = .ok (.iaload, 1) := by decide +kernel
theorem dX5_apart_7 : decode cX5_apart 7 = .ok (.invokevirtual 96, 3) := by decide +kernel
theorem dX5_apart_10 : decode cX5_apart 10 = .ok (.aload_n 0, 1) := by decide +kernel
theorem dX5_apart_11 : decode cX5_apart 11 = .ok (.getfield 42, 3) := by decide +kernel
theorem dX5_apart_14 : decode cX5_apart 14 = .ok (.aload_n 0, 1) := by decide +kernel
theorem dX5_apart_15 : decode cX5_apart 15 = .ok (.getfield 20, 3) := by decide +kernel
theorem dX5_apart_18 : decode cX5_apart 18 = .ok (.iload_n 1, 1) := by decide +kernel
theorem dX5_apart_19 : decode cX5_apart 19 = .ok (.iaload, 1) := by decide +kernel
theorem dX5_apart_20 : decode cX5_apart 20 = .ok (.laload, 1) := by decide +kernel
theorem dX5_apart_21 : decode cX5_apart 21 = .ok (.aload_n 0, 1) := by decide +kernel
theorem dX5_apart_22 : decode cX5_apart 22 = .ok (.getfield 42, 3) := by decide +kernel
theorem dX5_apart_25 : decode cX5_apart 25 = .ok (.aload_n 0, 1) := by decide +kernel
theorem dX5_apart_26 : decode cX5_apart 26 = .ok (.getfield 17, 3) := by decide +kernel
theorem dX5_apart_29 : decode cX5_apart 29 = .ok (.iload_n 1, 1) := by decide +kernel
theorem dX5_apart_30 : decode cX5_apart 30 = .ok (.iaload, 1) := by decide +kernel
theorem dX5_apart_31 : decode cX5_apart 31 = .ok (.laload, 1) := by decide +kernel
theorem dX5_apart_32 : decode cX5_apart 32 = .ok (.lsub, 1) := by decide +kernel
theorem dX5_apart_33 : decode cX5_apart 33 = .ok (.aload_n 0, 1) := by decide +kernel
theorem dX5_apart_34 : decode cX5_apart 34 = .ok (.getfield 23, 3) := by decide +kernel
theorem dX5_apart_37 : decode cX5_apart 37 = .ok (.iload_n 1, 1) := by decide +kernel
theorem dX5_apart_38 : decode cX5_apart 38 = .ok (.iaload, 1) := by decide +kernel
theorem dX5_apart_39 : decode cX5_apart 39 = .ok (.i2l, 1) := by decide +kernel
theorem dX5_apart_40 : decode cX5_apart 40 = .ok (.aload_n 0, 1) := by decide +kernel
theorem dX5_apart_41 : decode cX5_apart 41 = .ok (.getfield 79, 3) := by decide +kernel
theorem dX5_apart_44 : decode cX5_apart 44 = .ok (.lmul, 1) := by decide +kernel
theorem dX5_apart_45 : decode cX5_apart 45 = .ok (.lsub, 1) := by decide +kernel
theorem dX5_apart_46 : decode cX5_apart 46 = .ok (.lreturn, 1) := by decide +kernel
set_option maxRecDepth 20000 in
theorem ggX5_isInNet_X5_isObservation : GoodIn wsX5_isInNet wsX5_isObservation := goodIn_r _ [6, 7, 8, 9, 5, 10, 16, 17, 18, 19, 20, 21, 22, 23, 24, 25, 26, 27, 28, 29, 30, 31, 32, 33] (by decide +kernel) (by decide +kernel)
set_option maxRecDepth 20000 in
theorem gX5_isInNet_X5_isObservation : GoodIn wsX5_isInNet (wsV RX5 69 RX5 yX5_isObservation wsX5_isObservation) := goodIn_app (goodIn_of _ (by decide +kernel)) ggX5_isInNet_X5_isObservation
set_option maxRecDepth 20000 in
theorem ggX5_isInNet_X5_goes : GoodIn wsX5_isInNet wsX5_goes := goodIn_r _ [14, 15, 16, 17, 18, 19, 20, 21, 22, 23, 24, 25, 26, 27, 28, 29, 30, 31, 32, 33] (by decide +kernel) (by decide +kernel)
set_option maxRecDepth 20000 in
theorem gX5_isInNet_X5_goes : GoodIn wsX5_isInNet (wsV RX5 62 RX5 yX5_goes wsX5_goes) := goodIn_app (goodIn_of _ (by decide +kernel)) ggX5_isInNet_X5_goes
theorem dX5_isInNet_0 : decode cX5_isInNet 0 = .ok (.aload_n 0, 1) := by decide +kernel
theorem dX5_isInNet_1 : decode cX5_isInNet 1 = .ok (.iload_n 1, 1) := by decide +kernel
theorem dX5_isInNet_2 : decode cX5_isInNet 2 = .ok (.invokevirtual 69, 3) := by decide +kernel
theorem dX5_isInNet_5 : decode cX5_isInNet 5 = .ok (.istore_n 2, 1) := by decide +kernel
theorem dX5_isInNet_6 : decode cX5_isInNet 6 = .ok (.aload_n 0, 1) := by decide +kernel
theorem dX5_isInNet_7 : decode cX5_isInNet 7 = .ok (.iload_n 2, 1) := by decide +kernel
theorem dX5_isInNet_8 : decode cX5_isInNet 8 = .ok (.ifCond .ne 7, 3) := by decide +kernel
theorem dX5_isInNet_11 : decode cX5_isInNet 11 = .ok (.iconst 1, 1) := by decide +kernel
theorem dX5_isInNet_12 : decode cX5_isInNet 12 = .ok (.goto 17, 3) := by decide +kernel
theorem dX5_isInNet_15 : decode cX5_isInNet 15 = .ok (.aload_n 0, 1) := by decide +kernel
theorem dX5_isInNet_16 : decode cX5_isInNet 16 = .ok (.getfield 29, 3) := by decide +kernel
theorem dX5_isInNet_19 : decode cX5_isInNet 19 = .ok (.iload_n 1, 1) := by decide +kernel
theorem dX5_isInNet_20 : decode cX5_isInNet 20 = .ok (.baload, 1) := by decide +kernel
theorem dX5_isInNet_21 : decode cX5_isInNet 21 = .ok (.ifCond .eq 7, 3) := by decide +kernel
theorem dX5_isInNet_24 : decode cX5_isInNet 24 = .ok (.iconst 2, 1) := by decide +kernel
theorem dX5_isInNet_25 : decode cX5_isInNet 25 = .ok (.goto 4, 3) := by decide +kernel
theorem dX5_isInNet_28 : decode cX5_isInNet 28 = .ok (.iconst 0, 1) := by decide +kernel
theorem dX5_isInNet_29 : decode cX5_isInNet 29 = .ok (.invokevirtual 62, 3) := by decide +kernel
theorem dX5_isInNet_32 : decode cX5_isInNet 32 = .ok (.ireturn, 1) := by decide +kernel
set_option maxRecDepth 20000 in
theorem ggX5_residual_X5_isInNet : GoodIn wsX5_residual wsX5_isInNet := goodIn_r _ [7, 8, 9, 10, 11, 6, 12, 13, 14, 15, 16, 17, 18, 19, 20, 21, 63, 64, 65, 66, 67, 68, 69, 70, 71, 72, 73, 74, 75, 76, 77, 78, 79, 80] (by decide +kernel) (by decide +kernel)
set_option maxRecDepth 20000 in
theorem gX5_residual_X5_isInNet : GoodIn wsX5_residual (wsV RX5 109 RX5 yX5_isInNet wsX5_isInNet) := goodIn_app (goodIn_of _ (by decide +kernel)) ggX5_residual_X5_isInNet
set_option maxRecDepth 20000 in
theorem ggX5_residual_X5_apart : GoodIn wsX5_residual wsX5_apart := goodIn_r _ [25, 26, 27, 28, 29, 2, 30, 31, 32, 6, 33, 34, 35, 36, 37, 38, 13, 8, 39, 40, 41, 42, 43, 44, 45, 46, 47, 48, 49, 50, 51, 52, 53, 54, 55, 56, 57, 58, 59, 63, 64, 65, 66, 67, 68, 69, 70, 71, 72, 73, 74, 75, 76, 77, 78, 79, 80] (by decide +kernel) (by decide +kernel)
set_option maxRecDepth 20000 in
theorem gX5_residual_X5_apart : GoodIn wsX5_residual (wsV RX5 112 RX5 yX5_apart wsX5_apart) := goodIn_app (goodIn_of _ (by decide +kernel)) ggX5_residual_X5_apart
set_option maxRecDepth 20000 in
theorem ggX5_residual_X5_floor : GoodIn wsX5_residual wsX5_floor := goodIn_r _ [62] (by decide +kernel) (by decide +kernel)
set_option maxRecDepth 20000 in
theorem gX5_residual_X5_floor : GoodIn wsX5_residual (va_wsS RX5 101 yX5_floor wsX5_floor) := goodIn_app (goodIn_of _ (by decide +kernel)) ggX5_residual_X5_floor
theorem dX5_residual_0 : decode cX5_residual 0 = .ok (.aload_n 0, 1) := by decide +kernel
theorem dX5_residual_1 : decode cX5_residual 1 = .ok (.iload_n 1, 1) := by decide +kernel
theorem dX5_residual_2 : decode cX5_residual 2 = .ok (.invokevirtual 109, 3) := by decide +kernel
theorem dX5_residual_5 : decode cX5_residual 5 = .ok (.ifCond .ne 5, 3) := by decide +kernel
theorem dX5_residual_8 : decode cX5_residual 8 = .ok (.lconst 0, 1) := by decide +kernel
theorem dX5_residual_9 : decode cX5_residual 9 = .ok (.lreturn, 1) := by decide +kernel
theorem dX5_residual_10 : decode cX5_residual 10 = .ok (.aload_n 0, 1) := by decide +kernel
theorem dX5_residual_11 : decode cX5_residual 11 = .ok (.iload_n 1, 1) := by decide +kernel
theorem dX5_residual_12 : decode cX5_residual 12 = .ok (.invokevirtual 112, 3) := by decide +kernel
theorem dX5_residual_15 : decode cX5_residual 15 = .ok (.lstore_n 2, 1) := by decide +kernel
theorem dX5_residual_16 : decode cX5_residual 16 = .ok (.ldc2_w 99, 3) := by decide +kernel
theorem dX5_residual_19 : decode cX5_residual 19 = .ok (.lload_n 2, 1) := by decide +kernel
theorem dX5_residual_20 : decode cX5_residual 20 = .ok (.lmul, 1) := by decide +kernel
theorem dX5_residual_21 : decode cX5_residual 21 = .ok (.aload_n 0, 1) := by decide +kernel
theorem dX5_residual_22 : decode cX5_residual 22 = .ok (.getfield 79, 3) := by decide +kernel
theorem dX5_residual_25 : decode cX5_residual 25 = .ok (.invokestatic 101, 3) := by decide +kernel
theorem dX5_residual_28 : decode cX5_residual 28 = .ok (.lreturn, 1) := by decide +kernel
set_option maxRecDepth 20000 in
theorem ggX5_checkOf_X5_reaches : GoodIn wsX5_checkOf wsX5_reaches := goodIn_r _ [12, 13, 14, 15, 1, 2, 16, 17, 18, 35, 36, 37, 38, 39, 40, 41, 42, 43, 44, 45, 46, 47, 48, 49, 50, 51, 52] (by decide +kernel) (by decide +kernel)
set_option maxRecDepth 20000 in
theorem gX5_checkOf_X5_reaches : GoodIn wsX5_checkOf (wsV RX5 83 RX5 yX5_reaches wsX5_reaches) := goodIn_app (goodIn_of _ (by decide +kernel)) ggX5_checkOf_X5_reaches
set_option maxRecDepth 20000 in
theorem ggX5_checkOf_X5_lays : GoodIn wsX5_checkOf wsX5_lays := goodIn_r _ [22, 23, 13, 16, 14, 15, 1, 4, 2, 24, 25, 26, 11, 27, 35, 36, 37, 38, 39, 40, 41, 42, 43, 44, 45, 46, 47, 48, 49, 50, 51, 52] (by decide +kernel) (by decide +kernel)
set_option maxRecDepth 20000 in
theorem gX5_checkOf_X5_lays : GoodIn wsX5_checkOf (wsV RX5 87 RX5 yX5_lays wsX5_lays) := goodIn_app (goodIn_of _ (by decide +kernel)) ggX5_checkOf_X5_lays
set_option maxRecDepth 20000 in
theorem ggX5_checkOf_X5_adds : GoodIn wsX5_checkOf wsX5_adds := goodIn_r _ [27, 16, 23, 35, 36, 37, 38, 39, 40, 41, 42, 43, 44, 45, 46, 47, 48, 49, 50, 51, 52] (by decide +kernel) (by decide +kernel)
set_option maxRecDepth 20000 in
theorem gX5_checkOf_X5_adds : GoodIn wsX5_checkOf (wsV RX5 75 RX5 yX5_adds wsX5_adds) := goodIn_app (goodIn_of _ (by decide +kernel)) ggX5_checkOf_X5_adds
set_option maxRecDepth 20000 in
theorem ggX5_checkOf_X5_solves : GoodIn wsX5_checkOf wsX5_solves := goodIn_r _ [31, 23, 7, 5, 13, 35, 36, 37, 38, 39, 40, 41, 42, 43, 44, 45, 46, 47, 48, 49, 50, 51, 52] (by decide +kernel) (by decide +kernel)
set_option maxRecDepth 20000 in
theorem gX5_checkOf_X5_solves : GoodIn wsX5_checkOf (wsV RX5 93 RX5 yX5_solves wsX5_solves) := goodIn_app (goodIn_of _ (by decide +kernel)) ggX5_checkOf_X5_solves
set_option maxRecDepth 20000 in
theorem ggX5_checkOf_X5_floor : GoodIn wsX5_checkOf wsX5_floor := goodIn_r _ [34] (by decide +kernel) (by decide +kernel)
set_option maxRecDepth 20000 in
theorem gX5_checkOf_X5_floor : GoodIn wsX5_checkOf (va_wsS RX5 101 yX5_floor wsX5_floor) := goodIn_app (goodIn_of _ (by decide +kernel)) ggX5_checkOf_X5_floor
theorem dX5_checkOf_0 : decode cX5_checkOf 0 = .ok (.aload_n 0, 1) := by decide +kernel
theorem dX5_checkOf_1 : decode cX5_checkOf 1 = .ok (.aload_n 0, 1) := by decide +kernel
theorem dX5_checkOf_2 : decode cX5_checkOf 2 = .ok (.getfield 17, 3) := by decide +kernel
theorem dX5_checkOf_5 : decode cX5_checkOf 5 = .ok (.iload_n 1, 1) := by decide +kernel
theorem dX5_checkOf_6 : decode cX5_checkOf 6 = .ok (.iaload, 1) := by decide +kernel
theorem dX5_checkOf_7 : decode cX5_checkOf 7 = .ok (.invokevirtual 83, 3) := by decide +kernel
theorem dX5_checkOf_10 : decode cX5_checkOf 10 = .ok (.aload_n 0, 1) := by decide +kernel
theorem dX5_checkOf_11 : decode cX5_checkOf 11 = .ok (.invokevirtual 87, 3) := by decide +kernel
theorem dX5_checkOf_14 : decode cX5_checkOf 14 = .ok (.aload_n 0, 1) := by decide +kernel
theorem dX5_checkOf_15 : decode cX5_checkOf 15 = .ok (.aload_n 0, 1) := by decide +kernel
theorem dX5_checkOf_16 : decode cX5_checkOf 16 = .ok (.getfield 20, 3) := by decide +kernel
theorem dX5_checkOf_19 : decode cX5_checkOf 19 = .ok (.iload_n 1, 1) := by decide +kernel
theorem dX5_checkOf_20 : decode cX5_checkOf 20 = .ok (.iaload, 1) := by decide +kernel
theorem dX5_checkOf_21 : decode cX5_checkOf 21 = .ok (.bipush 6, 2) := by decide +kernel
theorem dX5_checkOf_23 : decode cX5_checkOf 23 = .ok (.lconst 1, 1) := by decide +kernel
theorem dX5_checkOf_24 : decode cX5_checkOf 24 = .ok (.invokevirtual 75, 3) := by decide +kernel
theorem dX5_checkOf_27 : decode cX5_checkOf 27 = .ok (.aload_n 0, 1) := by decide +kernel
theorem dX5_checkOf_28 : decode cX5_checkOf 28 = .ok (.aload_n 0, 1) := by decide +kernel
theorem dX5_checkOf_29 : decode cX5_checkOf 29 = .ok (.getfield 17, 3) := by decide +kernel
theorem dX5_checkOf_32 : decode cX5_checkOf 32 = .ok (.iload_n 1, 1) := by decide +kernel
theorem dX5_checkOf_33 : decode cX5_checkOf 33 = .ok (.iaload, 1) := by decide +kernel
theorem dX5_checkOf_34 : decode cX5_checkOf 34 = .ok (.bipush 6, 2) := by decide +kernel
theorem dX5_checkOf_36 : decode cX5_checkOf 36 = .ok (.ldc2_w 115, 3) := by decide +kernel
theorem dX5_checkOf_39 : decode cX5_checkOf 39 = .ok (.invokevirtual 75, 3) := by decide +kernel
theorem dX5_checkOf_42 : decode cX5_checkOf 42 = .ok (.aload_n 0, 1) := by decide +kernel
theorem dX5_checkOf_43 : decode cX5_checkOf 43 = .ok (.invokevirtual 93, 3) := by decide +kernel
theorem dX5_checkOf_46 : decode cX5_checkOf 46 = .ok (.aload_n 0, 1) := by decide +kernel
theorem dX5_checkOf_47 : decode cX5_checkOf 47 = .ok (.getfield 26, 3) := by decide +kernel
theorem dX5_checkOf_50 : decode cX5_checkOf 50 = .ok (.iload_n 1, 1) := by decide +kernel
theorem dX5_checkOf_51 : decode cX5_checkOf 51 = .ok (.iaload, 1) := by decide +kernel
theorem dX5_checkOf_52 : decode cX5_checkOf 52 = .ok (.i2l, 1) := by decide +kernel
theorem dX5_checkOf_53 : decode cX5_checkOf 53 = .ok (.aload_n 0, 1) := by decide +kernel
theorem dX5_checkOf_54 : decode cX5_checkOf 54 = .ok (.getfield 42, 3) := by decide +kernel
theorem dX5_checkOf_57 : decode cX5_checkOf 57 = .ok (.aload_n 0, 1) := by decide +kernel
theorem dX5_checkOf_58 : decode cX5_checkOf 58 = .ok (.getfield 20, 3) := by decide +kernel
theorem dX5_checkOf_61 : decode cX5_checkOf 61 = .ok (.iload_n 1, 1) := by decide +kernel
theorem dX5_checkOf_62 : decode cX5_checkOf 62 = .ok (.iaload, 1) := by decide +kernel
theorem dX5_checkOf_63 : decode cX5_checkOf 63 = .ok (.laload, 1) := by decide +kernel
theorem dX5_checkOf_64 : decode cX5_checkOf 64 = .ok (.aload_n 0, 1) := by decide +kernel
theorem dX5_checkOf_65 : decode cX5_checkOf 65 = .ok (.getfield 42, 3) := by decide +kernel
theorem dX5_checkOf_68 : decode cX5_checkOf 68 = .ok (.aload_n 0, 1) := by decide +kernel
theorem dX5_checkOf_69 : decode cX5_checkOf 69 = .ok (.getfield 17, 3) := by decide +kernel
theorem dX5_checkOf_72 : decode cX5_checkOf 72 = .ok (.iload_n 1, 1) := by decide +kernel
theorem dX5_checkOf_73 : decode cX5_checkOf 73 = .ok (.iaload, 1) := by decide +kernel
theorem dX5_checkOf_74 : decode cX5_checkOf 74 = .ok (.laload, 1) := by decide +kernel
theorem dX5_checkOf_75 : decode cX5_checkOf 75 = .ok (.lsub, 1) := by decide +kernel
theorem dX5_checkOf_76 : decode cX5_checkOf 76 = .ok (.lmul, 1) := by decide +kernel
theorem dX5_checkOf_77 : decode cX5_checkOf 77 = .ok (.lstore_n 2, 1) := by decide +kernel
theorem dX5_checkOf_78 : decode cX5_checkOf 78 = .ok (.ldc2_w 117, 3) := by decide +kernel
theorem dX5_checkOf_81 : decode cX5_checkOf 81 = .ok (.aload_n 0, 1) := by decide +kernel
theorem dX5_checkOf_82 : decode cX5_checkOf 82 = .ok (.getfield 79, 3) := by decide +kernel
theorem dX5_checkOf_85 : decode cX5_checkOf 85 = .ok (.lload_n 2, 1) := by decide +kernel
theorem dX5_checkOf_86 : decode cX5_checkOf 86 = .ok (.lsub, 1) := by decide +kernel
theorem dX5_checkOf_87 : decode cX5_checkOf 87 = .ok (.lmul, 1) := by decide +kernel
theorem dX5_checkOf_88 : decode cX5_checkOf 88 = .ok (.aload_n 0, 1) := by decide +kernel
theorem dX5_checkOf_89 : decode cX5_checkOf 89 = .ok (.getfield 79, 3) := by decide +kernel
theorem dX5_checkOf_92 : decode cX5_checkOf 92 = .ok (.invokestatic 101, 3) := by decide +kernel
theorem dX5_checkOf_95 : decode cX5_checkOf 95 = .ok (.l2i, 1) := by decide +kernel
theorem dX5_checkOf_96 : decode cX5_checkOf 96 = .ok (.ireturn, 1) := by decide +kernel
set_option maxRecDepth 20000 in
theorem ggX5_check_X5_isInNet : GoodIn wsX5_check wsX5_isInNet := goodIn_r _ [5, 6, 7, 8, 9, 4, 10, 11, 12, 13, 14, 15, 16, 17, 18, 19, 55, 56, 57, 58, 59, 60, 61, 62, 63, 64, 65, 66, 67, 68, 69, 70, 71, 72] (by decide +kernel) (by decide +kernel)
set_option maxRecDepth 20000 in
theorem gX5_check_X5_isInNet : GoodIn wsX5_check (wsV RX5 109 RX5 yX5_isInNet wsX5_isInNet) := goodIn_app (goodIn_of _ (by decide +kernel)) ggX5_check_X5_isInNet
set_option maxRecDepth 20000 in
theorem ggX5_check_X5_checkOf : GoodIn wsX5_check wsX5_checkOf := goodIn_r _ [23, 24, 25, 26, 27, 28, 29, 30, 31, 32, 33, 4, 34, 35, 11, 6, 36, 37, 38, 39, 40, 41, 42, 43, 44, 45, 46, 47, 48, 49, 50, 51, 52, 53, 54, 55, 56, 57, 58, 59, 60, 61, 62, 63, 64, 65, 66, 67, 68, 69, 70, 71, 72] (by decide +kernel) (by decide +kernel)
set_option maxRecDepth 20000 in
theorem gX5_check_X5_checkOf : GoodIn wsX5_check (wsV RX5 119 RX5 yX5_checkOf wsX5_checkOf) := goodIn_app (goodIn_of _ (by decide +kernel)) ggX5_check_X5_checkOf
theorem dX5_check_0 : decode cX5_check 0 = .ok (.aload_n 0, 1) := by decide +kernel
theorem dX5_check_1 : decode cX5_check 1 = .ok (.iload_n 1, 1) := by decide +kernel
theorem dX5_check_2 : decode cX5_check 2 = .ok (.invokevirtual 109, 3) := by decide +kernel
theorem dX5_check_5 : decode cX5_check 5 = .ok (.ifCond .eq 11, 3) := by decide +kernel
theorem dX5_check_8 : decode cX5_check 8 = .ok (.aload_n 0, 1) := by decide +kernel
theorem dX5_check_9 : decode cX5_check 9 = .ok (.iload_n 1, 1) := by decide +kernel
theorem dX5_check_10 : decode cX5_check 10 = .ok (.invokevirtual 119, 3) := by decide +kernel
theorem dX5_check_13 : decode cX5_check 13 = .ok (.goto 4, 3) := by decide +kernel
theorem dX5_check_16 : decode cX5_check 16 = .ok (.iconst 0, 1) := by decide +kernel
theorem dX5_check_17 : decode cX5_check 17 = .ok (.ireturn, 1) := by decide +kernel
set_option maxRecDepth 20000 in
theorem ggX5_checkAnew_X5_isInNet : GoodIn wsX5_checkAnew wsX5_isInNet := goodIn_r _ [5, 6, 7, 8, 9, 4, 10, 11, 12, 13, 14, 15, 16, 17, 18, 19, 55, 56, 57, 58, 59, 60, 61, 62, 63, 64, 65, 66, 67, 68, 69, 70, 71, 72] (by decide +kernel) (by decide +kernel)
set_option maxRecDepth 20000 in
theorem gX5_checkAnew_X5_isInNet : GoodIn wsX5_checkAnew (wsV RX5 109 RX5 yX5_isInNet wsX5_isInNet) := goodIn_app (goodIn_of _ (by decide +kernel)) ggX5_checkAnew_X5_isInNet
set_option maxRecDepth 20000 in
theorem ggX5_checkAnew_X5_checkOf : GoodIn wsX5_checkAnew wsX5_checkOf := goodIn_r _ [23, 24, 25, 26, 27, 28, 29, 30, 31, 32, 33, 4, 34, 35, 11, 6, 36, 37, 38, 39, 40, 41, 42, 43, 44, 45, 46, 47, 48, 49, 50, 51, 52, 53, 54, 55, 56, 57, 58, 59, 60, 61, 62, 63, 64, 65, 66, 67, 68, 69, 70, 71, 72] (by decide +kernel) (by decide +kernel)
set_option maxRecDepth 20000 in
theorem gX5_checkAnew_X5_checkOf : GoodIn wsX5_checkAnew (wsV RX5 119 RX5 yX5_checkOf wsX5_checkOf) := goodIn_app (goodIn_of _ (by decide +kernel)) ggX5_checkAnew_X5_checkOf
theorem dX5_checkAnew_0 : decode cX5_checkAnew 0 = .ok (.aload_n 0, 1) := by decide +kernel
theorem dX5_checkAnew_1 : decode cX5_checkAnew 1 = .ok (.iload_n 1, 1) := by decide +kernel
theorem dX5_checkAnew_2 : decode cX5_checkAnew 2 = .ok (.invokevirtual 109, 3) := by decide +kernel
theorem dX5_checkAnew_5 : decode cX5_checkAnew 5 = .ok (.ifCond .eq 11, 3) := by decide +kernel
theorem dX5_checkAnew_8 : decode cX5_checkAnew 8 = .ok (.aload_n 0, 1) := by decide +kernel
theorem dX5_checkAnew_9 : decode cX5_checkAnew 9 = .ok (.iload_n 1, 1) := by decide +kernel
theorem dX5_checkAnew_10 : decode cX5_checkAnew 10 = .ok (.invokevirtual 119, 3) := by decide +kernel
theorem dX5_checkAnew_13 : decode cX5_checkAnew 13 = .ok (.goto 4, 3) := by decide +kernel
theorem dX5_checkAnew_16 : decode cX5_checkAnew 16 = .ok (.iconst 0, 1) := by decide +kernel
theorem dX5_checkAnew_17 : decode cX5_checkAnew 17 = .ok (.ireturn, 1) := by decide +kernel
set_option maxRecDepth 20000 in
theorem ggX5_scoreOf_X5_checkOf : GoodIn wsX5_scoreOf wsX5_checkOf := goodIn_r _ [8, 9, 10, 11, 3, 12, 13, 2, 14, 15, 16, 7, 17, 18, 19, 20, 21, 22, 23, 24, 25, 26, 27, 28, 29, 30, 31, 32, 33, 34, 35, 36, 37, 38, 39, 56, 57, 58, 59, 60, 61, 62, 63, 64, 65, 66, 67, 68, 69, 70, 71, 72, 73] (by decide +kernel) (by decide +kernel)
set_option maxRecDepth 20000 in
theorem gX5_scoreOf_X5_checkOf : GoodIn wsX5_scoreOf (wsV RX5 119 RX5 yX5_checkOf wsX5_checkOf) := goodIn_app (goodIn_of _ (by decide +kernel)) ggX5_scoreOf_X5_checkOf
set_option maxRecDepth 20000 in
theorem ggX5_scoreOf_X5_apart : GoodIn wsX5_scoreOf wsX5_apart := goodIn_r _ [43, 9, 12, 10, 44, 2, 45, 46, 47, 7, 48, 14, 15, 16, 17, 18, 19, 20, 21, 22, 23, 24, 25, 26, 27, 28, 3, 29, 30, 31, 32, 49, 50, 51, 52, 33, 34, 35, 36, 56, 57, 58, 59, 60, 61, 62, 63, 64, 65, 66, 67, 68, 69, 70, 71, 72, 73] (by decide +kernel) (by decide +kernel)
set_option maxRecDepth 20000 in
theorem gX5_scoreOf_X5_apart : GoodIn wsX5_scoreOf (wsV RX5 112 RX5 yX5_apart wsX5_apart) := goodIn_app (goodIn_of _ (by decide +kernel)) ggX5_scoreOf_X5_apart
set_option maxRecDepth 20000 in
theorem ggX5_scoreOf_X5_size : GoodIn wsX5_scoreOf wsX5_size := goodIn_r _ [55] (by decide +kernel) (by decide +kernel)
set_option maxRecDepth 20000 in
theorem gX5_scoreOf_X5_size : GoodIn wsX5_scoreOf (va_wsS RX5 123 yX5_size wsX5_size) := goodIn_app (goodIn_of _ (by decide +kernel)) ggX5_scoreOf_X5_size
theorem dX5_scoreOf_0 : decode cX5_scoreOf 0 = .ok (.aload_n 0, 1) := by decide +kernel
theorem dX5_scoreOf_1 : decode cX5_scoreOf 1 = .ok (.iload_n 1, 1) := by decide +kernel
theorem dX5_scoreOf_2 : decode cX5_scoreOf 2 = .ok (.invokevirtual 119, 3) := by decide +kernel
theorem dX5_scoreOf_5 : decode cX5_scoreOf 5 = .ok (.istore_n 2, 1) := by decide +kernel
theorem dX5_scoreOf_6 : decode cX5_scoreOf 6 = .ok (.iload_n 2, 1) := by decide +kernel
theorem dX5_scoreOf_7 : decode cX5_scoreOf 7 = .ok (.ifCond .ne 5, 3) := by decide +kernel
theorem dX5_scoreOf_10 : decode cX5_scoreOf 10 = .ok (.lconst 0, 1) := by decide +kernel
theorem dX5_scoreOf_11 : decode cX5_scoreOf 11 = .ok (.lreturn, 1) := by decide +kernel
theorem dX5_scoreOf_12 : decode cX5_scoreOf 12 = .ok (.aload_n 0, 1) := by decide +kernel
theorem dX5_scoreOf_13 : decode cX5_scoreOf 13 = .ok (.iload_n 1, 1) := by decide +kernel
theorem dX5_scoreOf_14 : decode cX5_scoreOf 14 = .ok (.invokevirtual 112, 3) := by decide +kernel
theorem dX5_scoreOf_17 : decode cX5_scoreOf 17 = .ok (.invokestatic 123, 3) := by decide +kernel
theorem dX5_scoreOf_20 : decode cX5_scoreOf 20 = .ok (.lstore_n 3, 1) := by decide +kernel
theorem dX5_scoreOf_21 : decode cX5_scoreOf 21 = .ok (.ldc2_w 99, 3) := by decide +kernel
theorem dX5_scoreOf_24 : decode cX5_scoreOf 24 = .ok (.lload_n 3, 1) := by decide +kernel
theorem dX5_scoreOf_25 : decode cX5_scoreOf 25 = .ok (.lmul, 1) := by decide +kernel
theorem dX5_scoreOf_26 : decode cX5_scoreOf 26 = .ok (.aload_n 0, 1) := by decide +kernel
theorem dX5_scoreOf_27 : decode cX5_scoreOf 27 = .ok (.getfield 79, 3) := by decide +kernel
theorem dX5_scoreOf_30 : decode cX5_scoreOf 30 = .ok (.ldiv, 1) := by decide +kernel
theorem dX5_scoreOf_31 : decode cX5_scoreOf 31 = .ok (.lstore 5, 2) := by decide +kernel
theorem dX5_scoreOf_33 : decode cX5_scoreOf 33 = .ok (.lload 5, 2) := by decide +kernel
theorem dX5_scoreOf_35 : decode cX5_scoreOf 35 = .ok (.lload 5, 2) := by decide +kernel
theorem dX5_scoreOf_37 : decode cX5_scoreOf 37 = .ok (.lmul, 1) := by decide +kernel
theorem dX5_scoreOf_38 : decode cX5_scoreOf 38 = .ok (.aload_n 0, 1) := by decide +kernel
theorem dX5_scoreOf_39 : decode cX5_scoreOf 39 = .ok (.getfield 26, 3) := by decide +kernel
theorem dX5_scoreOf_42 : decode cX5_scoreOf 42 = .ok (.iload_n 1, 1) := by decide +kernel
theorem dX5_scoreOf_43 : decode cX5_scoreOf 43 = .ok (.iaload, 1) := by decide +kernel
theorem dX5_scoreOf_44 : decode cX5_scoreOf 44 = .ok (.i2l, 1) := by decide +kernel
theorem dX5_scoreOf_45 : decode cX5_scoreOf 45 = .ok (.lmul, 1) := by decide +kernel
theorem dX5_scoreOf_46 : decode cX5_scoreOf 46 = .ok (.iload_n 2, 1) := by decide +kernel
theorem dX5_scoreOf_47 : decode cX5_scoreOf 47 = .ok (.i2l, 1) := by decide +kernel
theorem dX5_scoreOf_48 : decode cX5_scoreOf 48 = .ok (.ldiv, 1) := by decide +kernel
theorem dX5_scoreOf_49 : decode cX5_scoreOf 49 = .ok (.lreturn, 1) := by decide +kernel
set_option maxRecDepth 20000 in
theorem ggX5_score_X5_isInNet : GoodIn wsX5_score wsX5_isInNet := goodIn_r _ [5, 6, 7, 8, 9, 4, 10, 11, 12, 13, 14, 15, 16, 17, 18, 19, 76, 77, 78, 79, 80, 81, 82, 83, 84, 85, 86, 87, 88, 89, 90, 91, 92, 93] (by decide +kernel) (by decide +kernel)
set_option maxRecDepth 20000 in
theorem gX5_score_X5_isInNet : GoodIn wsX5_score (wsV RX5 109 RX5 yX5_isInNet wsX5_isInNet) := goodIn_app (goodIn_of _ (by decide +kernel)) ggX5_score_X5_isInNet
set_option maxRecDepth 20000 in
theorem ggX5_score_X5_scoreOf : GoodIn wsX5_score wsX5_scoreOf := goodIn_r _ [23, 24, 25, 26, 27, 28, 29, 4, 30, 31, 32, 33, 34, 35, 36, 37, 38, 39, 40, 11, 6, 41, 42, 43, 44, 45, 46, 47, 48, 49, 50, 51, 52, 53, 54, 55, 56, 57, 58, 59, 60, 61, 62, 63, 64, 65, 66, 67, 68, 69, 70, 71, 72, 73, 74, 75, 76, 77, 78, 79, 80, 81, 82, 83, 84, 85, 86, 87, 88, 89, 90, 91, 92, 93] (by decide +kernel) (by decide +kernel)
set_option maxRecDepth 20000 in
theorem gX5_score_X5_scoreOf : GoodIn wsX5_score (wsV RX5 127 RX5 yX5_scoreOf wsX5_scoreOf) := goodIn_app (goodIn_of _ (by decide +kernel)) ggX5_score_X5_scoreOf
theorem dX5_score_0 : decode cX5_score 0 = .ok (.aload_n 0, 1) := by decide +kernel
theorem dX5_score_1 : decode cX5_score 1 = .ok (.iload_n 1, 1) := by decide +kernel
theorem dX5_score_2 : decode cX5_score 2 = .ok (.invokevirtual 109, 3) := by decide +kernel
theorem dX5_score_5 : decode cX5_score 5 = .ok (.ifCond .eq 11, 3) := by decide +kernel
theorem dX5_score_8 : decode cX5_score 8 = .ok (.aload_n 0, 1) := by decide +kernel
theorem dX5_score_9 : decode cX5_score 9 = .ok (.iload_n 1, 1) := by decide +kernel
theorem dX5_score_10 : decode cX5_score 10 = .ok (.invokevirtual 127, 3) := by decide +kernel
theorem dX5_score_13 : decode cX5_score 13 = .ok (.goto 4, 3) := by decide +kernel
theorem dX5_score_16 : decode cX5_score 16 = .ok (.lconst 0, 1) := by decide +kernel
theorem dX5_score_17 : decode cX5_score 17 = .ok (.lreturn, 1) := by decide +kernel
set_option maxRecDepth 20000 in
theorem ggX5_worstOf_X5_scoreOf : GoodIn wsX5_worstOf wsX5_scoreOf := goodIn_r _ [7, 8, 9, 10, 11, 12, 13, 6, 14, 15, 16, 17, 18, 19, 20, 21, 22, 23, 24, 1, 2, 25, 26, 27, 28, 29, 30, 31, 32, 33, 34, 35, 36, 37, 38, 39, 40, 41, 42, 43, 44, 45, 46, 47, 48, 49, 50, 51, 52, 53, 54, 55, 56, 57, 58, 59, 60, 61, 62, 63, 64, 65, 66, 67, 68, 69, 70, 71, 72, 73, 74, 75, 76, 77] (by decide +kernel) (by decide +kernel)
set_option maxRecDepth 20000 in
theorem gX5_worstOf_X5_scoreOf : GoodIn wsX5_worstOf (wsV RX5 127 RX5 yX5_scoreOf wsX5_scoreOf) := goodIn_app (goodIn_of _ (by decide +kernel)) ggX5_worstOf_X5_scoreOf
theorem dX5_worstOf_0 : decode cX5_worstOf 0 = .ok (.iconst (-1), 1) := by decide +kernel
theorem dX5_worstOf_1 : decode cX5_worstOf 1 = .ok (.istore_n 1, 1) := by decide +kernel
theorem dX5_worstOf_2 : decode cX5_worstOf 2 = .ok (.lconst 0, 1) := by decide +kernel
theorem dX5_worstOf_3 : decode cX5_worstOf 3 = .ok (.lstore_n 2, 1) := by decide +kernel
theorem dX5_worstOf_4 : decode cX5_worstOf 4 = .ok (.iconst 0, 1) := by decide +kernel
theorem dX5_worstOf_5 : decode cX5_worstOf 5 = .ok (.istore 4, 2) := by decide +kernel
theorem dX5_worstOf_7 : decode cX5_worstOf 7 = .ok (.iload 4, 2) := by decide +kernel
theorem dX5_worstOf_9 : decode cX5_worstOf 9 = .ok (.aload_n 0, 1) := by decide +kernel
theorem dX5_worstOf_10 : decode cX5_worstOf 10 = .ok (.getfield 59, 3) := by decide +kernel
theorem dX5_worstOf_13 : decode cX5_worstOf 13 = .ok (.if_icmp .ge 59, 3) := by decide +kernel
theorem dX5_worstOf_16 : decode cX5_worstOf 16 = .ok (.aload_n 0, 1) := by decide +kernel
theorem dX5_worstOf_17 : decode cX5_worstOf 17 = .ok (.getfield 29, 3) := by decide +kernel
theorem dX5_worstOf_20 : decode cX5_worstOf 20 = .ok (.iload 4, 2) := by decide +kernel
theorem dX5_worstOf_22 : decode cX5_worstOf 22 = .ok (.baload, 1) := by decide +kernel
theorem dX5_worstOf_23 : decode cX5_worstOf 23 = .ok (.ifCond .eq 7, 3) := by decide +kernel
theorem dX5_worstOf_26 : decode cX5_worstOf 26 = .ok (.lconst 0, 1) := by decide +kernel
theorem dX5_worstOf_27 : decode cX5_worstOf 27 = .ok (.goto 9, 3) := by decide +kernel
theorem dX5_worstOf_30 : decode cX5_worstOf 30 = .ok (.aload_n 0, 1) := by decide +kernel
theorem dX5_worstOf_31 : decode cX5_worstOf 31 = .ok (.iload 4, 2) := by decide +kernel
theorem dX5_worstOf_33 : decode cX5_worstOf 33 = .ok (.invokevirtual 127, 3) := by decide +kernel
theorem dX5_worstOf_36 : decode cX5_worstOf 36 = .ok (.lstore 5, 2) := by decide +kernel
theorem dX5_worstOf_38 : decode cX5_worstOf 38 = .ok (.lload 5, 2) := by decide +kernel
theorem dX5_worstOf_40 : decode cX5_worstOf 40 = .ok (.lload_n 2, 1) := by decide +kernel
theorem dX5_worstOf_41 : decode cX5_worstOf 41 = .ok (.lcmp, 1) := by decide +kernel
theorem dX5_worstOf_42 : decode cX5_worstOf 42 = .ok (.ifCond .le 8, 3) := by decide +kernel
theorem dX5_worstOf_45 : decode cX5_worstOf 45 = .ok (.iload 4, 2) := by decide +kernel
theorem dX5_worstOf_47 : decode cX5_worstOf 47 = .ok (.goto 4, 3) := by decide +kernel
theorem dX5_worstOf_50 : decode cX5_worstOf 50 = .ok (.iload_n 1, 1) := by decide +kernel
theorem dX5_worstOf_51 : decode cX5_worstOf 51 = .ok (.istore_n 1, 1) := by decide +kernel
theorem dX5_worstOf_52 : decode cX5_worstOf 52 = .ok (.lload 5, 2) := by decide +kernel
theorem dX5_worstOf_54 : decode cX5_worstOf 54 = .ok (.lload_n 2, 1) := by decide +kernel
theorem dX5_worstOf_55 : decode cX5_worstOf 55 = .ok (.lcmp, 1) := by decide +kernel
theorem dX5_worstOf_56 : decode cX5_worstOf 56 = .ok (.ifCond .le 8, 3) := by decide +kernel
theorem dX5_worstOf_59 : decode cX5_worstOf 59 = .ok (.lload 5, 2) := by decide +kernel
theorem dX5_worstOf_61 : decode cX5_worstOf 61 = .ok (.goto 4, 3) := by decide +kernel
theorem dX5_worstOf_64 : decode cX5_worstOf 64 = .ok (.lload_n 2, 1) := by decide +kernel
theorem dX5_worstOf_65 : decode cX5_worstOf 65 = .ok (.lstore_n 2, 1) := by decide +kernel
theorem dX5_worstOf_66 : decode cX5_worstOf 66 = .ok (.iinc 4 1, 3) := by decide +kernel
theorem dX5_worstOf_69 : decode cX5_worstOf 69 = .ok (.goto (-62), 3) := by decide +kernel
theorem dX5_worstOf_72 : decode cX5_worstOf 72 = .ok (.iload_n 1, 1) := by decide +kernel
theorem dX5_worstOf_73 : decode cX5_worstOf 73 = .ok (.ireturn, 1) := by decide +kernel
set_option maxRecDepth 20000 in
theorem ggX5_worst_X5_worstOf : GoodIn wsX5_worst wsX5_worstOf := goodIn_r _ [6, 7, 8, 9, 10, 11, 5, 12, 13, 14, 15, 16, 17, 18, 19, 20, 21, 22, 23, 24, 25, 26, 27, 28, 29, 30, 31, 32, 33, 34, 35, 36, 37, 38, 39, 40, 41, 42, 43, 44, 45, 46, 47, 48, 49, 50, 51, 52, 53, 54, 55, 56, 57, 58, 59, 60, 61, 62, 63, 64, 65, 66, 67, 68, 69, 70, 71, 72, 73, 74, 75, 76, 77, 78, 79, 80, 81, 82] (by decide +kernel) (by decide +kernel)
set_option maxRecDepth 20000 in
theorem gX5_worst_X5_worstOf : GoodIn wsX5_worst (wsV RX5 130 RX5 yX5_worstOf wsX5_worstOf) := goodIn_app (goodIn_of _ (by decide +kernel)) ggX5_worst_X5_worstOf
theorem dX5_worst_0 : decode cX5_worst 0 = .ok (.aload_n 0, 1) := by decide +kernel
theorem dX5_worst_1 : decode cX5_worst 1 = .ok (.iconst 0, 1) := by decide +kernel
theorem dX5_worst_2 : decode cX5_worst 2 = .ok (.putfield 49, 3) := by decide +kernel
theorem dX5_worst_5 : decode cX5_worst 5 = .ok (.aload_n 0, 1) := by decide +kernel
theorem dX5_worst_6 : decode cX5_worst 6 = .ok (.invokevirtual 130, 3) := by decide +kernel
theorem dX5_worst_9 : decode cX5_worst 9 = .ok (.ireturn, 1) := by decide +kernel
set_option maxRecDepth 20000 in
theorem ggX5_clean_X5_isBetween : GoodIn wsX5_clean wsX5_isBetween := goodIn_r _ [6] (by decide +kernel) (by decide +kernel)
set_option maxRecDepth 20000 in
theorem gX5_clean_X5_isBetween : GoodIn wsX5_clean (va_wsS RX5 55 yX5_isBetween wsX5_isBetween) := goodIn_app (goodIn_of _ (by decide +kernel)) ggX5_clean_X5_isBetween
set_option maxRecDepth 20000 in
theorem ggX5_clean_X5_goes : GoodIn wsX5_clean wsX5_goes := goodIn_r _ [10, 11, 73, 74, 75, 76, 77, 78, 79, 80, 81, 82, 83, 84, 85, 86, 87, 88, 89, 90] (by decide +kernel) (by decide +kernel)
set_option maxRecDepth 20000 in
theorem gX5_clean_X5_goes : GoodIn wsX5_clean (wsV RX5 62 RX5 yX5_goes wsX5_goes) := goodIn_app (goodIn_of _ (by decide +kernel)) ggX5_clean_X5_goes
set_option maxRecDepth 20000 in
theorem ggX5_clean_X5_worstOf : GoodIn wsX5_clean wsX5_worstOf := goodIn_r _ [15, 16, 2, 17, 18, 19, 5, 20, 21, 22, 23, 24, 25, 26, 27, 28, 29, 30, 31, 32, 33, 34, 35, 36, 37, 38, 39, 40, 41, 42, 43, 44, 45, 46, 47, 48, 49, 50, 51, 52, 53, 54, 55, 56, 57, 58, 59, 60, 61, 62, 63, 64, 65, 66, 67, 68, 69, 70, 71, 72, 73, 74, 75, 76, 77, 78, 79, 80, 81, 82, 83, 84, 85, 86, 87, 88, 89, 90] (by decide +kernel) (by decide +kernel)
set_option maxRecDepth 20000 in
theorem gX5_clean_X5_worstOf : GoodIn wsX5_clean (wsV RX5 130 RX5 yX5_worstOf wsX5_worstOf) := goodIn_app (goodIn_of _ (by decide +kernel)) ggX5_clean_X5_worstOf
set_option maxRecDepth 20000 in
theorem ggX5_clean_X5_scoreOf : GoodIn wsX5_clean wsX5_scoreOf := goodIn_r _ [20, 21, 22, 23, 24, 25, 26, 5, 27, 28, 29, 30, 31, 32, 33, 34, 35, 36, 37, 16, 2, 38, 39, 40, 41, 42, 43, 44, 45, 46, 47, 48, 49, 50, 51, 52, 53, 54, 55, 56, 57, 58, 59, 60, 61, 62, 63, 64, 65, 66, 67, 68, 69, 70, 71, 72, 73, 74, 75, 76, 77, 78, 79, 80, 81, 82, 83, 84, 85, 86, 87, 88, 89, 90] (by decide +kernel) (by decide +kernel)
set_option maxRecDepth 20000 in
theorem gX5_clean_X5_scoreOf : GoodIn wsX5_clean (wsV RX5 127 RX5 yX5_scoreOf wsX5_scoreOf) := goodIn_app (goodIn_of _ (by decide +kernel)) ggX5_clean_X5_scoreOf
theorem dX5_clean_0 : decode cX5_clean 0 = .ok (.aload_n 0, 1) := by decide +kernel
theorem dX5_clean_1 : decode cX5_clean 1 = .ok (.iload_n 1, 1) := by decide +kernel
theorem dX5_clean_2 : decode cX5_clean 2 = .ok (.iconst 0, 1) := by decide +kernel
theorem dX5_clean_3 : decode cX5_clean 3 = .ok (.ldc 134, 2) := by decide +kernel
theorem dX5_clean_5 : decode cX5_clean 5 = .ok (.invokestatic 55, 3) := by decide +kernel
theorem dX5_clean_8 : decode cX5_clean 8 = .ok (.ifCond .eq 7, 3) := by decide +kernel
theorem dX5_clean_11 : decode cX5_clean 11 = .ok (.iconst 0, 1) := by decide +kernel
theorem dX5_clean_12 : decode cX5_clean 12 = .ok (.goto 4, 3) := by decide +kernel
theorem dX5_clean_15 : decode cX5_clean 15 = .ok (.iconst 1, 1) := by decide +kernel
theorem dX5_clean_16 : decode cX5_clean 16 = .ok (.invokevirtual 62, 3) := by decide +kernel
theorem dX5_clean_19 : decode cX5_clean 19 = .ok (.ifCond .ne 5, 3) := by decide +kernel
theorem dX5_clean_22 : decode cX5_clean 22 = .ok (.iconst 0, 1) := by decide +kernel
theorem dX5_clean_23 : decode cX5_clean 23 = .ok (.ireturn, 1) := by decide +kernel
theorem dX5_clean_24 : decode cX5_clean 24 = .ok (.iconst 0, 1) := by decide +kernel
theorem dX5_clean_25 : decode cX5_clean 25 = .ok (.istore_n 2, 1) := by decide +kernel
theorem dX5_clean_26 : decode cX5_clean 26 = .ok (.aload_n 0, 1) := by decide +kernel
theorem dX5_clean_27 : decode cX5_clean 27 = .ok (.invokevirtual 130, 3) := by decide +kernel
theorem dX5_clean_30 : decode cX5_clean 30 = .ok (.istore_n 3, 1) := by decide +kernel
theorem dX5_clean_31 : decode cX5_clean 31 = .ok (.iload_n 3, 1) := by decide +kernel
theorem dX5_clean_32 : decode cX5_clean 32 = .ok (.iconst (-1), 1) := by decide +kernel
theorem dX5_clean_33 : decode cX5_clean 33 = .ok (.if_icmp .eq 32, 3) := by decide +kernel
theorem dX5_clean_36 : decode cX5_clean 36 = .ok (.aload_n 0, 1) := by decide +kernel
theorem dX5_clean_37 : decode cX5_clean 37 = .ok (.iload_n 3, 1) := by decide +kernel
theorem dX5_clean_38 : decode cX5_clean 38 = .ok (.invokevirtual 127, 3) := by decide +kernel
theorem dX5_clean_41 : decode cX5_clean 41 = .ok (.iload_n 1, 1) := by decide +kernel
theorem dX5_clean_42 : decode cX5_clean 42 = .ok (.i2l, 1) := by decide +kernel
theorem dX5_clean_43 : decode cX5_clean 43 = .ok (.lcmp, 1) := by decide +kernel
theorem dX5_clean_44 : decode cX5_clean 44 = .ok (.ifCond .le 21, 3) := by decide +kernel
theorem dX5_clean_47 : decode cX5_clean 47 = .ok (.aload_n 0, 1) := by decide +kernel
theorem dX5_clean_48 : decode cX5_clean 48 = .ok (.getfield 29, 3) := by decide +kernel
theorem dX5_clean_51 : decode cX5_clean 51 = .ok (.iload_n 3, 1) := by decide +kernel
theorem dX5_clean_52 : decode cX5_clean 52 = .ok (.iconst 1, 1) := by decide +kernel
theorem dX5_clean_53 : decode cX5_clean 53 = .ok (.bastore, 1) := by decide +kernel
theorem dX5_clean_54 : decode cX5_clean 54 = .ok (.iinc 2 1, 3) := by decide +kernel
theorem dX5_clean_57 : decode cX5_clean 57 = .ok (.aload_n 0, 1) := by decide +kernel
theorem dX5_clean_58 : decode cX5_clean 58 = .ok (.invokevirtual 130, 3) := by decide +kernel
theorem dX5_clean_61 : decode cX5_clean 61 = .ok (.istore_n 3, 1) := by decide +kernel
theorem dX5_clean_62 : decode cX5_clean 62 = .ok (.goto (-31), 3) := by decide +kernel
theorem dX5_clean_65 : decode cX5_clean 65 = .ok (.iload_n 2, 1) := by decide +kernel
theorem dX5_clean_66 : decode cX5_clean 66 = .ok (.ireturn, 1) := by decide +kernel
theorem dX5_joins_0 : decode cX5_joins 0 = .ok (.iconst (-1), 1) := by decide +kernel
theorem dX5_joins_1 : decode cX5_joins 1 = .ok (.istore_n 3, 1) := by decide +kernel
theorem dX5_joins_2 : decode cX5_joins 2 = .ok (.aload_n 0, 1) := by decide +kernel
theorem dX5_joins_3 : decode cX5_joins 3 = .ok (.getfield 59, 3) := by decide +kernel
theorem dX5_joins_6 : decode cX5_joins 6 = .ok (.iconst 1, 1) := by decide +kernel
theorem dX5_joins_7 : decode cX5_joins 7 = .ok (.isub, 1) := by decide +kernel
theorem dX5_joins_8 : decode cX5_joins 8 = .ok (.istore 4, 2) := by decide +kernel
theorem dX5_joins_10 : decode cX5_joins 10 = .ok (.iload 4, 2) := by decide +kernel
theorem dX5_joins_12 : decode cX5_joins 12 = .ok (.ifCond .lt 82, 3) := by decide +kernel
theorem dX5_joins_15 : decode cX5_joins 15 = .ok (.aload_n 0, 1) := by decide +kernel
theorem dX5_joins_16 : decode cX5_joins 16 = .ok (.getfield 17, 3) := by decide +kernel
theorem dX5_joins_19 : decode cX5_joins 19 = .ok (.iload 4, 2) := by decide +kernel
theorem dX5_joins_21 : decode cX5_joins 21 = .ok (.iaload, 1) := by decide +kernel
theorem dX5_joins_22 : decode cX5_joins 22 = .ok (.iload_n 1, 1) := by decide +kernel
theorem dX5_joins_23 : decode cX5_joins 23 = .ok (.if_icmp .ne 14, 3) := by decide +kernel
theorem dX5_joins_26 : decode cX5_joins 26 = .ok (.aload_n 0, 1) := by decide +kernel
theorem dX5_joins_27 : decode cX5_joins 27 = .ok (.getfield 20, 3) := by decide +kernel
theorem dX5_joins_30 : decode cX5_joins 30 = .ok (.iload 4, 2) := by decide +kernel
theorem dX5_joins_32 : decode cX5_joins 32 = .ok (.iaload, 1) := by decide +kernel
theorem dX5_joins_33 : decode cX5_joins 33 = .ok (.iload_n 2, 1) := by decide +kernel
theorem dX5_joins_34 : decode cX5_joins 34 = .ok (.if_icmp .eq 25, 3) := by decide +kernel
theorem dX5_joins_37 : decode cX5_joins 37 = .ok (.aload_n 0, 1) := by decide +kernel
theorem dX5_joins_38 : decode cX5_joins 38 = .ok (.getfield 17, 3) := by decide +kernel
theorem dX5_joins_41 : decode cX5_joins 41 = .ok (.iload 4, 2) := by decide +kernel
theorem dX5_joins_43 : decode cX5_joins 43 = .ok (.iaload, 1) := by decide +kernel
theorem dX5_joins_44 : decode cX5_joins 44 = .ok (.iload_n 2, 1) := by decide +kernel
theorem dX5_joins_45 : decode cX5_joins 45 = .ok (.if_icmp .ne 18, 3) := by decide +kernel
theorem dX5_joins_48 : decode cX5_joins 48 = .ok (.aload_n 0, 1) := by decide +kernel
theorem dX5_joins_49 : decode cX5_joins 49 = .ok (.getfield 20, 3) := by decide +kernel
theorem dX5_joins_52 : decode cX5_joins 52 = .ok (.iload 4, 2) := by decide +kernel
theorem dX5_joins_54 : decode cX5_joins 54 = .ok (.iaload, 1) := by decide +kernel
theorem dX5_joins_55 : decode cX5_joins 55 = .ok (.iload_n 1, 1) := by decide +kernel
theorem dX5_joins_56 : decode cX5_joins 56 = .ok (.if_icmp .ne 7, 3) := by decide +kernel
theorem dX5_joins_59 : decode cX5_joins 59 = .ok (.iconst 1, 1) := by decide +kernel
theorem dX5_joins_60 : decode cX5_joins 60 = .ok (.goto 4, 3) := by decide +kernel
theorem dX5_joins_63 : decode cX5_joins 63 = .ok (.iconst 0, 1) := by decide +kernel
theorem dX5_joins_64 : decode cX5_joins 64 = .ok (.istore 5, 2) := by decide +kernel
theorem dX5_joins_66 : decode cX5_joins 66 = .ok (.iload 5, 2) := by decide +kernel
theorem dX5_joins_68 : decode cX5_joins 68 = .ok (.ifCond .eq 18, 3) := by decide +kernel
theorem dX5_joins_71 : decode cX5_joins 71 = .ok (.aload_n 0, 1) := by decide +kernel
theorem dX5_joins_72 : decode cX5_joins 72 = .ok (.getfield 29, 3) := by decide +kernel
theorem dX5_joins_75 : decode cX5_joins 75 = .ok (.iload 4, 2) := by decide +kernel
theorem dX5_joins_77 : decode cX5_joins 77 = .ok (.baload, 1) := by decide +kernel
theorem dX5_joins_78 : decode cX5_joins 78 = .ok (.ifCond .ne 8, 3) := by decide +kernel
theorem dX5_joins_81 : decode cX5_joins 81 = .ok (.iload 4, 2) := by decide +kernel
theorem dX5_joins_83 : decode cX5_joins 83 = .ok (.goto 4, 3) := by decide +kernel
theorem dX5_joins_86 : decode cX5_joins 86 = .ok (.iload_n 3, 1) := by decide +kernel
theorem dX5_joins_87 : decode cX5_joins 87 = .ok (.istore_n 3, 1) := by decide +kernel
theorem dX5_joins_88 : decode cX5_joins 88 = .ok (.iinc 4 (-1), 3) := by decide +kernel
theorem dX5_joins_91 : decode cX5_joins 91 = .ok (.goto (-81), 3) := by decide +kernel
theorem dX5_joins_94 : decode cX5_joins 94 = .ok (.iload_n 3, 1) := by decide +kernel
theorem dX5_joins_95 : decode cX5_joins 95 = .ok (.ireturn, 1) := by decide +kernel
set_option maxRecDepth 20000 in
theorem ggX5_go_X5_isStation : GoodIn wsX5_go wsX5_isStation := goodIn_r _ [10, 11, 12, 13, 9, 14, 27, 28, 29, 30, 31, 32, 33, 34, 35, 36, 37, 38, 39, 40, 41, 42, 43, 44] (by decide +kernel) (by decide +kernel)
set_option maxRecDepth 20000 in
theorem gX5_go_X5_isStation : GoodIn wsX5_go (wsV RX5 66 RX5 yX5_isStation wsX5_isStation) := goodIn_app (goodIn_of _ (by decide +kernel)) ggX5_go_X5_isStation
set_option maxRecDepth 20000 in
theorem ggX5_go_X5_joins : GoodIn wsX5_go wsX5_joins := goodIn_r _ [18, 19, 20, 4, 21, 27, 28, 29, 30, 31, 32, 33, 34, 35, 36, 37, 38, 39, 40, 41, 42, 43, 44] (by decide +kernel) (by decide +kernel)
set_option maxRecDepth 20000 in
theorem gX5_go_X5_joins : GoodIn wsX5_go (wsV RX5 138 RX5 yX5_joins wsX5_joins) := goodIn_app (goodIn_of _ (by decide +kernel)) ggX5_go_X5_joins
set_option maxRecDepth 20000 in
theorem ggX5_go_X5_goes : GoodIn wsX5_go wsX5_goes := goodIn_r _ [25, 26, 27, 28, 29, 30, 31, 32, 33, 34, 35, 36, 37, 38, 39, 40, 41, 42, 43, 44] (by decide +kernel) (by decide +kernel)
set_option maxRecDepth 20000 in
theorem gX5_go_X5_goes : GoodIn wsX5_go (wsV RX5 62 RX5 yX5_goes wsX5_goes) := goodIn_app (goodIn_of _ (by decide +kernel)) ggX5_go_X5_goes
theorem dX5_go_0 : decode cX5_go 0 = .ok (.aload_n 0, 1) := by decide +kernel
theorem dX5_go_1 : decode cX5_go 1 = .ok (.iload_n 1, 1) := by decide +kernel
theorem dX5_go_2 : decode cX5_go 2 = .ok (.invokevirtual 66, 3) := by decide +kernel
theorem dX5_go_5 : decode cX5_go 5 = .ok (.istore_n 2, 1) := by decide +kernel
theorem dX5_go_6 : decode cX5_go 6 = .ok (.iload_n 2, 1) := by decide +kernel
theorem dX5_go_7 : decode cX5_go 7 = .ok (.ifCond .eq 29, 3) := by decide +kernel
theorem dX5_go_10 : decode cX5_go 10 = .ok (.aload_n 0, 1) := by decide +kernel
theorem dX5_go_11 : decode cX5_go 11 = .ok (.getfield 135, 3) := by decide +kernel
theorem dX5_go_14 : decode cX5_go 14 = .ok (.ifCond .le 22, 3) := by decide +kernel
theorem dX5_go_17 : decode cX5_go 17 = .ok (.aload_n 0, 1) := by decide +kernel
theorem dX5_go_18 : decode cX5_go 18 = .ok (.aload_n 0, 1) := by decide +kernel
theorem dX5_go_19 : decode cX5_go 19 = .ok (.getfield 32, 3) := by decide +kernel
theorem dX5_go_22 : decode cX5_go 22 = .ok (.aload_n 0, 1) := by decide +kernel
theorem dX5_go_23 : decode cX5_go 23 = .ok (.getfield 135, 3) := by decide +kernel
theorem dX5_go_26 : decode cX5_go 26 = .ok (.iconst 1, 1) := by decide +kernel
theorem dX5_go_27 : decode cX5_go 27 = .ok (.isub, 1) := by decide +kernel
theorem dX5_go_28 : decode cX5_go 28 = .ok (.iaload, 1) := by decide +kernel
theorem dX5_go_29 : decode cX5_go 29 = .ok (.iload_n 1, 1) := by decide +kernel
theorem dX5_go_30 : decode cX5_go 30 = .ok (.invokevirtual 138, 3) := by decide +kernel
theorem dX5_go_33 : decode cX5_go 33 = .ok (.goto 4, 3) := by decide +kernel
theorem dX5_go_36 : decode cX5_go 36 = .ok (.iconst (-1), 1) := by decide +kernel
theorem dX5_go_37 : decode cX5_go 37 = .ok (.istore_n 3, 1) := by decide +kernel
theorem dX5_go_38 : decode cX5_go 38 = .ok (.aload_n 0, 1) := by decide +kernel
theorem dX5_go_39 : decode cX5_go 39 = .ok (.iload_n 2, 1) := by decide +kernel
theorem dX5_go_40 : decode cX5_go 40 = .ok (.ifCond .ne 7, 3) := by decide +kernel
theorem dX5_go_43 : decode cX5_go 43 = .ok (.iconst 1, 1) := by decide +kernel
theorem dX5_go_44 : decode cX5_go 44 = .ok (.goto 29, 3) := by decide +kernel
theorem dX5_go_47 : decode cX5_go 47 = .ok (.aload_n 0, 1) := by decide +kernel
theorem dX5_go_48 : decode cX5_go 48 = .ok (.getfield 135, 3) := by decide +kernel
theorem dX5_go_51 : decode cX5_go 51 = .ok (.bipush 10, 2) := by decide +kernel
theorem dX5_go_53 : decode cX5_go 53 = .ok (.if_icmp .eq 15, 3) := by decide +kernel
theorem dX5_go_56 : decode cX5_go 56 = .ok (.aload_n 0, 1) := by decide +kernel
theorem dX5_go_57 : decode cX5_go 57 = .ok (.getfield 135, 3) := by decide +kernel
theorem dX5_go_60 : decode cX5_go 60 = .ok (.ifCond .le 12, 3) := by decide +kernel
theorem dX5_go_63 : decode cX5_go 63 = .ok (.iload_n 3, 1) := by decide +kernel
theorem dX5_go_64 : decode cX5_go 64 = .ok (.iconst (-1), 1) := by decide +kernel
theorem dX5_go_65 : decode cX5_go 65 = .ok (.if_icmp .ne 7, 3) := by decide +kernel
theorem dX5_go_68 : decode cX5_go 68 = .ok (.iconst 2, 1) := by decide +kernel
theorem dX5_go_69 : decode cX5_go 69 = .ok (.goto 4, 3) := by decide +kernel
theorem dX5_go_72 : decode cX5_go 72 = .ok (.iconst 0, 1) := by decide +kernel
theorem dX5_go_73 : decode cX5_go 73 = .ok (.invokevirtual 62, 3) := by decide +kernel
theorem dX5_go_76 : decode cX5_go 76 = .ok (.ifCond .ne 5, 3) := by decide +kernel
theorem dX5_go_79 : decode cX5_go 79 = .ok (.iconst 0, 1) := by decide +kernel
theorem dX5_go_80 : decode cX5_go 80 = .ok (.ireturn, 1) := by decide +kernel
theorem dX5_go_81 : decode cX5_go 81 = .ok (.aload_n 0, 1) := by decide +kernel
theorem dX5_go_82 : decode cX5_go 82 = .ok (.dup, 1) := by decide +kernel
theorem dX5_go_83 : decode cX5_go 83 = .ok (.getfield 45, 3) := by decide +kernel
theorem dX5_go_86 : decode cX5_go 86 = .ok (.iload_n 3, 1) := by decide +kernel
theorem dX5_go_87 : decode cX5_go 87 = .ok (.iconst (-1), 1) := by decide +kernel
theorem dX5_go_88 : decode cX5_go 88 = .ok (.if_icmp .ne 7, 3) := by decide +kernel
theorem dX5_go_91 : decode cX5_go 91 = .ok (.iconst 0, 1) := by decide +kernel
theorem dX5_go_92 : decode cX5_go 92 = .ok (.goto 29, 3) := by decide +kernel
theorem dX5_go_95 : decode cX5_go 95 = .ok (.aload_n 0, 1) := by decide +kernel
theorem dX5_go_96 : decode cX5_go 96 = .ok (.getfield 20, 3) := by decide +kernel
theorem dX5_go_99 : decode cX5_go 99 = .ok (.iload_n 3, 1) := by decide +kernel
theorem dX5_go_100 : decode cX5_go 100 = .ok (.iaload, 1) := by decide +kernel
theorem dX5_go_101 : decode cX5_go 101 = .ok (.iload_n 1, 1) := by decide +kernel
theorem dX5_go_102 : decode cX5_go 102 = .ok (.if_icmp .ne 12, 3) := by decide +kernel
theorem dX5_go_105 : decode cX5_go 105 = .ok (.aload_n 0, 1) := by decide +kernel
theorem dX5_go_106 : decode cX5_go 106 = .ok (.getfield 23, 3) := by decide +kernel
theorem dX5_go_109 : decode cX5_go 109 = .ok (.iload_n 3, 1) := by decide +kernel
theorem dX5_go_110 : decode cX5_go 110 = .ok (.iaload, 1) := by decide +kernel
theorem dX5_go_111 : decode cX5_go 111 = .ok (.goto 10, 3) := by decide +kernel
theorem dX5_go_114 : decode cX5_go 114 = .ok (.aload_n 0, 1) := by decide +kernel
theorem dX5_go_115 : decode cX5_go 115 = .ok (.getfield 23, 3) := by decide +kernel
theorem dX5_go_118 : decode cX5_go 118 = .ok (.iload_n 3, 1) := by decide +kernel
theorem dX5_go_119 : decode cX5_go 119 = .ok (.iaload, 1) := by decide +kernel
theorem dX5_go_120 : decode cX5_go 120 = .ok (.ineg, 1) := by decide +kernel
theorem dX5_go_121 : decode cX5_go 121 = .ok (.iadd, 1) := by decide +kernel
theorem dX5_go_122 : decode cX5_go 122 = .ok (.putfield 45, 3) := by decide +kernel
theorem dX5_go_125 : decode cX5_go 125 = .ok (.aload_n 0, 1) := by decide +kernel
theorem dX5_go_126 : decode cX5_go 126 = .ok (.getfield 32, 3) := by decide +kernel
theorem dX5_go_129 : decode cX5_go 129 = .ok (.aload_n 0, 1) := by decide +kernel
theorem dX5_go_130 : decode cX5_go 130 = .ok (.getfield 135, 3) := by decide +kernel
theorem dX5_go_133 : decode cX5_go 133 = .ok (.iload_n 1, 1) := by decide +kernel
theorem dX5_go_134 : decode cX5_go 134 = .ok (.iastore, 1) := by decide +kernel
theorem dX5_go_135 : decode cX5_go 135 = .ok (.aload_n 0, 1) := by decide +kernel
theorem dX5_go_136 : decode cX5_go 136 = .ok (.dup, 1) := by decide +kernel
theorem dX5_go_137 : decode cX5_go 137 = .ok (.getfield 135, 3) := by decide +kernel
theorem dX5_go_140 : decode cX5_go 140 = .ok (.iconst 1, 1) := by decide +kernel
theorem dX5_go_141 : decode cX5_go 141 = .ok (.iadd, 1) := by decide +kernel
theorem dX5_go_142 : decode cX5_go 142 = .ok (.putfield 135, 3) := by decide +kernel
theorem dX5_go_145 : decode cX5_go 145 = .ok (.aload_n 0, 1) := by decide +kernel
theorem dX5_go_146 : decode cX5_go 146 = .ok (.getfield 135, 3) := by decide +kernel
theorem dX5_go_149 : decode cX5_go 149 = .ok (.ireturn, 1) := by decide +kernel
theorem dX5_end_0 : decode cX5_end 0 = .ok (.aload_n 0, 1) := by decide +kernel
theorem dX5_end_1 : decode cX5_end 1 = .ok (.iconst 0, 1) := by decide +kernel
theorem dX5_end_2 : decode cX5_end 2 = .ok (.putfield 49, 3) := by decide +kernel
theorem dX5_end_5 : decode cX5_end 5 = .ok (.aload_n 0, 1) := by decide +kernel
theorem dX5_end_6 : decode cX5_end 6 = .ok (.getfield 135, 3) := by decide +kernel
theorem dX5_end_9 : decode cX5_end 9 = .ok (.istore_n 1, 1) := by decide +kernel
theorem dX5_end_10 : decode cX5_end 10 = .ok (.aload_n 0, 1) := by decide +kernel
theorem dX5_end_11 : decode cX5_end 11 = .ok (.iconst 0, 1) := by decide +kernel
theorem dX5_end_12 : decode cX5_end 12 = .ok (.putfield 135, 3) := by decide +kernel
theorem dX5_end_15 : decode cX5_end 15 = .ok (.aload_n 0, 1) := by decide +kernel
theorem dX5_end_16 : decode cX5_end 16 = .ok (.iconst 0, 1) := by decide +kernel
theorem dX5_end_17 : decode cX5_end 17 = .ok (.putfield 45, 3) := by decide +kernel
theorem dX5_end_20 : decode cX5_end 20 = .ok (.iload_n 1, 1) := by decide +kernel
theorem dX5_end_21 : decode cX5_end 21 = .ok (.ireturn, 1) := by decide +kernel
theorem dX5_sum_0 : decode cX5_sum 0 = .ok (.aload_n 0, 1) := by decide +kernel
theorem dX5_sum_1 : decode cX5_sum 1 = .ok (.iconst 0, 1) := by decide +kernel
theorem dX5_sum_2 : decode cX5_sum 2 = .ok (.putfield 49, 3) := by decide +kernel
theorem dX5_sum_5 : decode cX5_sum 5 = .ok (.aload_n 0, 1) := by decide +kernel
theorem dX5_sum_6 : decode cX5_sum 6 = .ok (.getfield 45, 3) := by decide +kernel
theorem dX5_sum_9 : decode cX5_sum 9 = .ok (.ireturn, 1) := by decide +kernel
theorem dX5_isClosed_0 : decode cX5_isClosed 0 = .ok (.aload_n 0, 1) := by decide +kernel
theorem dX5_isClosed_1 : decode cX5_isClosed 1 = .ok (.iconst 0, 1) := by decide +kernel
theorem dX5_isClosed_2 : decode cX5_isClosed 2 = .ok (.putfield 49, 3) := by decide +kernel
theorem dX5_isClosed_5 : decode cX5_isClosed 5 = .ok (.aload_n 0, 1) := by decide +kernel
theorem dX5_isClosed_6 : decode cX5_isClosed 6 = .ok (.getfield 135, 3) := by decide +kernel
theorem dX5_isClosed_9 : decode cX5_isClosed 9 = .ok (.ifCond .le 34, 3) := by decide +kernel
theorem dX5_isClosed_12 : decode cX5_isClosed 12 = .ok (.aload_n 0, 1) := by decide +kernel
theorem dX5_isClosed_13 : decode cX5_isClosed 13 = .ok (.getfield 32, 3) := by decide +kernel
theorem dX5_isClosed_16 : decode cX5_isClosed 16 = .ok (.aload_n 0, 1) := by decide +kernel
theorem dX5_isClosed_17 : decode cX5_isClosed 17 = .ok (.getfield 135, 3) := by decide +kernel
theorem dX5_isClosed_20 : decode cX5_isClosed 20 = .ok (.iconst 1, 1) := by decide +kernel
theorem dX5_isClosed_21 : decode cX5_isClosed 21 = .ok (.isub, 1) := by decide +kernel
theorem dX5_isClosed_22 : decode cX5_isClosed 22 = .ok (.iaload, 1) := by decide +kernel
theorem dX5_isClosed_23 : decode cX5_isClosed 23 = .ok (.aload_n 0, 1) := by decide +kernel
theorem dX5_isClosed_24 : decode cX5_isClosed 24 = .ok (.getfield 32, 3) := by decide +kernel
theorem dX5_isClosed_27 : decode cX5_isClosed 27 = .ok (.iconst 0, 1) := by decide +kernel
theorem dX5_isClosed_28 : decode cX5_isClosed 28 = .ok (.iaload, 1) := by decide +kernel
theorem dX5_isClosed_29 : decode cX5_isClosed 29 = .ok (.if_icmp .ne 14, 3) := by decide +kernel
theorem dX5_isClosed_32 : decode cX5_isClosed 32 = .ok (.aload_n 0, 1) := by decide +kernel
theorem dX5_isClosed_33 : decode cX5_isClosed 33 = .ok (.getfield 45, 3) := by decide +kernel
theorem dX5_isClosed_36 : decode cX5_isClosed 36 = .ok (.ifCond .ne 7, 3) := by decide +kernel
theorem dX5_isClosed_39 : decode cX5_isClosed 39 = .ok (.iconst 1, 1) := by decide +kernel
theorem dX5_isClosed_40 : decode cX5_isClosed 40 = .ok (.goto 4, 3) := by decide +kernel
theorem dX5_isClosed_43 : decode cX5_isClosed 43 = .ok (.iconst 0, 1) := by decide +kernel
theorem dX5_isClosed_44 : decode cX5_isClosed 44 = .ok (.ireturn, 1) := by decide +kernel
set_option maxRecDepth 20000 in
theorem ggX5_trees_X5_isStation : GoodIn wsX5_trees wsX5_isStation := goodIn_r _ [6, 7, 8, 9, 5, 10, 51, 52, 53, 54, 55, 56, 57, 58, 59, 60, 61, 62, 63, 64, 65, 66, 67, 68] (by decide +kernel) (by decide +kernel)
set_option maxRecDepth 20000 in
theorem gX5_trees_X5_isStation : GoodIn wsX5_trees (wsV RX5 66 RX5 yX5_isStation wsX5_isStation) := goodIn_app (goodIn_of _ (by decide +kernel)) ggX5_trees_X5_isStation
set_option maxRecDepth 20000 in
theorem ggX5_trees_X5_goes : GoodIn wsX5_trees wsX5_goes := goodIn_r _ [14, 15, 51, 52, 53, 54, 55, 56, 57, 58, 59, 60, 61, 62, 63, 64, 65, 66, 67, 68] (by decide +kernel) (by decide +kernel)
set_option maxRecDepth 20000 in
theorem gX5_trees_X5_goes : GoodIn wsX5_trees (wsV RX5 62 RX5 yX5_goes wsX5_goes) := goodIn_app (goodIn_of _ (by decide +kernel)) ggX5_trees_X5_goes
set_option maxRecDepth 20000 in
theorem ggX5_trees_X5_finds : GoodIn wsX5_trees wsX5_finds := goodIn_r _ [19, 20, 21, 22, 5, 23, 24, 25, 26, 27, 28, 29, 7, 30, 31, 32, 33, 34, 35, 36, 37, 38, 39, 40, 41, 42, 43, 44, 45, 46, 47, 48, 49, 1, 50, 51, 52, 53, 54, 55, 56, 57, 58, 59, 60, 61, 62, 63, 64, 65, 66, 67, 68] (by decide +kernel) (by decide +kernel)
set_option maxRecDepth 20000 in
theorem gX5_trees_X5_finds : GoodIn wsX5_trees (wsV RX5 96 RX5 yX5_finds wsX5_finds) := goodIn_app (goodIn_of _ (by decide +kernel)) ggX5_trees_X5_finds
theorem dX5_trees_0 : decode cX5_trees 0 = .ok (.aload_n 0, 1) := by decide +kernel
theorem dX5_trees_1 : decode cX5_trees 1 = .ok (.aload_n 0, 1) := by decide +kernel
theorem dX5_trees_2 : decode cX5_trees 2 = .ok (.iload_n 1, 1) := by decide +kernel
theorem dX5_trees_3 : decode cX5_trees 3 = .ok (.invokevirtual 66, 3) := by decide +kernel
theorem dX5_trees_6 : decode cX5_trees 6 = .ok (.ifCond .eq 7, 3) := by decide +kernel
theorem dX5_trees_9 : decode cX5_trees 9 = .ok (.iconst 0, 1) := by decide +kernel
theorem dX5_trees_10 : decode cX5_trees 10 = .ok (.goto 4, 3) := by decide +kernel
theorem dX5_trees_13 : decode cX5_trees 13 = .ok (.iconst 1, 1) := by decide +kernel
theorem dX5_trees_14 : decode cX5_trees 14 = .ok (.invokevirtual 62, 3) := by decide +kernel
theorem dX5_trees_17 : decode cX5_trees 17 = .ok (.ifCond .ne 5, 3) := by decide +kernel
theorem dX5_trees_20 : decode cX5_trees 20 = .ok (.lconst 0, 1) := by decide +kernel
theorem dX5_trees_21 : decode cX5_trees 21 = .ok (.lreturn, 1) := by decide +kernel
theorem dX5_trees_22 : decode cX5_trees 22 = .ok (.aload_n 0, 1) := by decide +kernel
theorem dX5_trees_23 : decode cX5_trees 23 = .ok (.iload_n 1, 1) := by decide +kernel
theorem dX5_trees_24 : decode cX5_trees 24 = .ok (.invokevirtual 96, 3) := by decide +kernel
theorem dX5_trees_27 : decode cX5_trees 27 = .ok (.aload_n 0, 1) := by decide +kernel
theorem dX5_trees_28 : decode cX5_trees 28 = .ok (.getfield 79, 3) := by decide +kernel
theorem dX5_trees_31 : decode cX5_trees 31 = .ok (.lreturn, 1) := by decide +kernel
set_option maxRecDepth 20000 in
theorem ggX5_parts_X5_reaches : GoodIn wsX5_parts wsX5_reaches := goodIn_r _ [8, 3, 9, 10, 11, 12, 13, 2, 14, 15, 16, 17, 18, 19, 20, 21, 22, 23, 24, 25, 26, 27, 28, 29, 30, 31, 32] (by decide +kernel) (by decide +kernel)
set_option maxRecDepth 20000 in
theorem gX5_parts_X5_reaches : GoodIn wsX5_parts (wsV RX5 83 RX5 yX5_reaches wsX5_reaches) := goodIn_app (goodIn_of _ (by decide +kernel)) ggX5_parts_X5_reaches
theorem dX5_parts_0 : decode cX5_parts 0 = .ok (.aload_n 0, 1) := by decide +kernel
theorem dX5_parts_1 : decode cX5_parts 1 = .ok (.iconst 0, 1) := by decide +kernel
theorem dX5_parts_2 : decode cX5_parts 2 = .ok (.putfield 49, 3) := by decide +kernel
theorem dX5_parts_5 : decode cX5_parts 5 = .ok (.iconst 0, 1) := by decide +kernel
theorem dX5_parts_6 : decode cX5_parts 6 = .ok (.istore_n 1, 1) := by decide +kernel
theorem dX5_parts_7 : decode cX5_parts 7 = .ok (.iconst 0, 1) := by decide +kernel
theorem dX5_parts_8 : decode cX5_parts 8 = .ok (.istore_n 2, 1) := by decide +kernel
theorem dX5_parts_9 : decode cX5_parts 9 = .ok (.iload_n 2, 1) := by decide +kernel
theorem dX5_parts_10 : decode cX5_parts 10 = .ok (.aload_n 0, 1) := by decide +kernel
theorem dX5_parts_11 : decode cX5_parts 11 = .ok (.getfield 52, 3) := by decide +kernel
theorem dX5_parts_14 : decode cX5_parts 14 = .ok (.if_icmp .ge 63, 3) := by decide +kernel
theorem dX5_parts_17 : decode cX5_parts 17 = .ok (.aload_n 0, 1) := by decide +kernel
theorem dX5_parts_18 : decode cX5_parts 18 = .ok (.iload_n 2, 1) := by decide +kernel
theorem dX5_parts_19 : decode cX5_parts 19 = .ok (.invokevirtual 83, 3) := by decide +kernel
theorem dX5_parts_22 : decode cX5_parts 22 = .ok (.iconst 1, 1) := by decide +kernel
theorem dX5_parts_23 : decode cX5_parts 23 = .ok (.istore_n 3, 1) := by decide +kernel
theorem dX5_parts_24 : decode cX5_parts 24 = .ok (.iconst 0, 1) := by decide +kernel
theorem dX5_parts_25 : decode cX5_parts 25 = .ok (.istore 4, 2) := by decide +kernel
theorem dX5_parts_27 : decode cX5_parts 27 = .ok (.iload 4, 2) := by decide +kernel
theorem dX5_parts_29 : decode cX5_parts 29 = .ok (.iload_n 2, 1) := by decide +kernel
theorem dX5_parts_30 : decode cX5_parts 30 = .ok (.if_icmp .ge 29, 3) := by decide +kernel
theorem dX5_parts_33 : decode cX5_parts 33 = .ok (.iload_n 3, 1) := by decide +kernel
theorem dX5_parts_34 : decode cX5_parts 34 = .ok (.ifCond .eq 17, 3) := by decide +kernel
theorem dX5_parts_37 : decode cX5_parts 37 = .ok (.aload_n 0, 1) := by decide +kernel
theorem dX5_parts_38 : decode cX5_parts 38 = .ok (.getfield 35, 3) := by decide +kernel
theorem dX5_parts_41 : decode cX5_parts 41 = .ok (.iload 4, 2) := by decide +kernel
theorem dX5_parts_43 : decode cX5_parts 43 = .ok (.baload, 1) := by decide +kernel
theorem dX5_parts_44 : decode cX5_parts 44 = .ok (.ifCond .ne 7, 3) := by decide +kernel
theorem dX5_parts_47 : decode cX5_parts 47 = .ok (.iconst 1, 1) := by decide +kernel
theorem dX5_parts_48 : decode cX5_parts 48 = .ok (.goto 4, 3) := by decide +kernel
theorem dX5_parts_51 : decode cX5_parts 51 = .ok (.iconst 0, 1) := by decide +kernel
theorem dX5_parts_52 : decode cX5_parts 52 = .ok (.istore_n 3, 1) := by decide +kernel
theorem dX5_parts_53 : decode cX5_parts 53 = .ok (.iinc 4 1, 3) := by decide +kernel
theorem dX5_parts_56 : decode cX5_parts 56 = .ok (.goto (-29), 3) := by decide +kernel
theorem dX5_parts_59 : decode cX5_parts 59 = .ok (.iload_n 1, 1) := by decide +kernel
theorem dX5_parts_60 : decode cX5_parts 60 = .ok (.iload_n 3, 1) := by decide +kernel
theorem dX5_parts_61 : decode cX5_parts 61 = .ok (.ifCond .eq 7, 3) := by decide +kernel
theorem dX5_parts_64 : decode cX5_parts 64 = .ok (.iconst 1, 1) := by decide +kernel
theorem dX5_parts_65 : decode cX5_parts 65 = .ok (.goto 4, 3) := by decide +kernel
theorem dX5_parts_68 : decode cX5_parts 68 = .ok (.iconst 0, 1) := by decide +kernel
theorem dX5_parts_69 : decode cX5_parts 69 = .ok (.iadd, 1) := by decide +kernel
theorem dX5_parts_70 : decode cX5_parts 70 = .ok (.istore_n 1, 1) := by decide +kernel
theorem dX5_parts_71 : decode cX5_parts 71 = .ok (.iinc 2 1, 3) := by decide +kernel
theorem dX5_parts_74 : decode cX5_parts 74 = .ok (.goto (-65), 3) := by decide +kernel
theorem dX5_parts_77 : decode cX5_parts 77 = .ok (.iload_n 1, 1) := by decide +kernel
theorem dX5_parts_78 : decode cX5_parts 78 = .ok (.ireturn, 1) := by decide +kernel
