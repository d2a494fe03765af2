set_option maxRecDepth 20000 in
theorem ggX8_init_X4_init : GoodIn wsX8_init wsX4_init := goodIn_r _ [30, 31, 2, 3, 32, 33, 34, 35, 36, 37, 38, 39, 40, 41, 42, 43, 44, 45, 46, 47, 48, 49, 50, 51, 52, 53, 54, 105, 106, 107, 108, 109, 110, 111, 112, 113, 114, 115, 152, 153, 154, 155] (by decide +kernel) (by decide +kernel)
set_option maxRecDepth 20000 in
theorem gX8_init_X4_init_n13 : GoodIn wsX8_init (wsX4_init) := ggX8_init_X4_init
set_option maxRecDepth 20000 in
theorem ggX8_init_X7_init : GoodIn wsX8_init wsX7_init := goodIn_r _ [56, 57, 2, 3, 33, 58, 59, 60, 61, 62, 63, 64, 65, 66, 67, 68, 69, 70, 71, 72, 126, 127, 128, 129, 130, 131, 132, 133, 156] (by decide +kernel) (by decide +kernel)
set_option maxRecDepth 20000 in
theorem gX8_init_X7_init_n26 : GoodIn wsX8_init (wsX7_init) := ggX8_init_X7_init
set_option maxRecDepth 20000 in
theorem ggX8_init_X0_init : GoodIn wsX8_init wsX0_init := goodIn_r _ [74, 75, 2, 3, 76, 77, 78, 11, 12, 79, 80, 65, 66, 81, 82, 83, 84, 85, 55, 56, 57, 33, 58, 59, 60, 61, 62, 63, 64, 67, 68, 69, 70, 71, 72, 134, 135, 136, 137, 138, 139, 140, 126, 127, 128, 129, 130, 131, 132, 133, 156] (by decide +kernel) (by decide +kernel)
set_option maxRecDepth 20000 in
theorem gX8_init_X0_init_n36 : GoodIn wsX8_init (wsX0_init) := ggX8_init_X0_init
set_option maxRecDepth 20000 in
theorem ggX8_init_X5_init : GoodIn wsX8_init wsX5_init := goodIn_r _ [87, 88, 2, 3, 89, 90, 91, 92, 33, 93, 94, 95, 96, 97, 141, 142, 143, 144, 145, 146, 147, 148] (by decide +kernel) (by decide +kernel)
set_option maxRecDepth 20000 in
theorem gX8_init_X5_init_n43 : GoodIn wsX8_init (wsX5_init) := ggX8_init_X5_init
set_option maxRecDepth 20000 in
theorem ggX8_init_X6_init : GoodIn wsX8_init wsX6_init := goodIn_r _ [99, 100, 2, 3, 101, 102, 103, 104, 149, 150, 151] (by decide +kernel) (by decide +kernel)
set_option maxRecDepth 20000 in
theorem gX8_init_X6_init_n61 : GoodIn wsX8_init (wsX6_init) := ggX8_init_X6_init
theorem dX8_init_0 : decode cX8_init 0 = .ok (.aload_n 0, 1) := by decide +kernel
theorem dX8_init_1 : decode cX8_init 1 = .ok (.invokespecial 5, 3) := by decide +kernel
theorem dX8_init_4 : decode cX8_init 4 = .ok (.aload_n 0, 1) := by decide +kernel
theorem dX8_init_5 : decode cX8_init 5 = .ok (.new 11, 3) := by decide +kernel
theorem dX8_init_8 : decode cX8_init 8 = .ok (.dup, 1) := by decide +kernel
theorem dX8_init_9 : decode cX8_init 9 = .ok (.invokespecial 13, 3) := by decide +kernel
theorem dX8_init_12 : decode cX8_init 12 = .ok (.putfield 14, 3) := by decide +kernel
theorem dX8_init_15 : decode cX8_init 15 = .ok (.aload_n 0, 1) := by decide +kernel
theorem dX8_init_16 : decode cX8_init 16 = .ok (.new 11, 3) := by decide +kernel
theorem dX8_init_19 : decode cX8_init 19 = .ok (.dup, 1) := by decide +kernel
theorem dX8_init_20 : decode cX8_init 20 = .ok (.invokespecial 13, 3) := by decide +kernel
theorem dX8_init_23 : decode cX8_init 23 = .ok (.putfield 18, 3) := by decide +kernel
theorem dX8_init_26 : decode cX8_init 26 = .ok (.aload_n 0, 1) := by decide +kernel
theorem dX8_init_27 : decode cX8_init 27 = .ok (.new 11, 3) := by decide +kernel
theorem dX8_init_30 : decode cX8_init 30 = .ok (.dup, 1) := by decide +kernel
theorem dX8_init_31 : decode cX8_init 31 = .ok (.invokespecial 13, 3) := by decide +kernel
theorem dX8_init_34 : decode cX8_init 34 = .ok (.putfield 21, 3) := by decide +kernel
theorem dX8_init_37 : decode cX8_init 37 = .ok (.aload_n 0, 1) := by decide +kernel
theorem dX8_init_38 : decode cX8_init 38 = .ok (.new 24, 3) := by decide +kernel
theorem dX8_init_41 : decode cX8_init 41 = .ok (.dup, 1) := by decide +kernel
theorem dX8_init_42 : decode cX8_init 42 = .ok (.invokespecial 26, 3) := by decide +kernel
theorem dX8_init_45 : decode cX8_init 45 = .ok (.putfield 27, 3) := by decide +kernel
theorem dX8_init_48 : decode cX8_init 48 = .ok (.aload_n 0, 1) := by decide +kernel
theorem dX8_init_49 : decode cX8_init 49 = .ok (.new 24, 3) := by decide +kernel
theorem dX8_init_52 : decode cX8_init 52 = .ok (.dup, 1) := by decide +kernel
theorem dX8_init_53 : decode cX8_init 53 = .ok (.invokespecial 26, 3) := by decide +kernel
theorem dX8_init_56 : decode cX8_init 56 = .ok (.putfield 31, 3) := by decide +kernel
theorem dX8_init_59 : decode cX8_init 59 = .ok (.aload_n 0, 1) := by decide +kernel
theorem dX8_init_60 : decode cX8_init 60 = .ok (.new 34, 3) := by decide +kernel
theorem dX8_init_63 : decode cX8_init 63 = .ok (.dup, 1) := by decide +kernel
theorem dX8_init_64 : decode cX8_init 64 = .ok (.invokespecial 36, 3) := by decide +kernel
theorem dX8_init_67 : decode cX8_init 67 = .ok (.putfield 37, 3) := by decide +kernel
theorem dX8_init_70 : decode cX8_init 70 = .ok (.aload_n 0, 1) := by decide +kernel
theorem dX8_init_71 : decode cX8_init 71 = .ok (.new 41, 3) := by decide +kernel
theorem dX8_init_74 : decode cX8_init 74 = .ok (.dup, 1) := by decide +kernel
theorem dX8_init_75 : decode cX8_init 75 = .ok (.invokespecial 43, 3) := by decide +kernel
theorem dX8_init_78 : decode cX8_init 78 = .ok (.putfield 44, 3) := by decide +kernel
theorem dX8_init_81 : decode cX8_init 81 = .ok (.aload_n 0, 1) := by decide +kernel
theorem dX8_init_82 : decode cX8_init 82 = .ok (.bipush 6, 2) := by decide +kernel
theorem dX8_init_84 : decode cX8_init 84 = .ok (.anewarray 48, 3) := by decide +kernel
theorem dX8_init_87 : decode cX8_init 87 = .ok (.putfield 50, 3) := by decide +kernel
theorem dX8_init_90 : decode cX8_init 90 = .ok (.aload_n 0, 1) := by decide +kernel
theorem dX8_init_91 : decode cX8_init 91 = .ok (.iconst 0, 1) := by decide +kernel
theorem dX8_init_92 : decode cX8_init 92 = .ok (.putfield 54, 3) := by decide +kernel
theorem dX8_init_95 : decode cX8_init 95 = .ok (.aload_n 0, 1) := by decide +kernel
theorem dX8_init_96 : decode cX8_init 96 = .ok (.iconst 1, 1) := by decide +kernel
theorem dX8_init_97 : decode cX8_init 97 = .ok (.putfield 58, 3) := by decide +kernel
theorem dX8_init_100 : decode cX8_init 100 = .ok (.iconst 0, 1) := by decide +kernel
theorem dX8_init_101 : decode cX8_init 101 = .ok (.istore_n 1, 1) := by decide +kernel
theorem dX8_init_102 : decode cX8_init 102 = .ok (.iload_n 1, 1) := by decide +kernel
theorem dX8_init_103 : decode cX8_init 103 = .ok (.bipush 6, 2) := by decide +kernel
theorem dX8_init_105 : decode cX8_init 105 = .ok (.if_icmp .ge 22, 3) := by decide +kernel
theorem dX8_init_108 : decode cX8_init 108 = .ok (.aload_n 0, 1) := by decide +kernel
theorem dX8_init_109 : decode cX8_init 109 = .ok (.getfield 50, 3) := by decide +kernel
theorem dX8_init_112 : decode cX8_init 112 = .ok (.iload_n 1, 1) := by decide +kernel
theorem dX8_init_113 : decode cX8_init 113 = .ok (.new 48, 3) := by decide +kernel
theorem dX8_init_116 : decode cX8_init 116 = .ok (.dup, 1) := by decide +kernel
theorem dX8_init_117 : decode cX8_init 117 = .ok (.invokespecial 61, 3) := by decide +kernel
theorem dX8_init_120 : decode cX8_init 120 = .ok (.aastore, 1) := by decide +kernel
theorem dX8_init_121 : decode cX8_init 121 = .ok (.iinc 1 1, 3) := by decide +kernel
theorem dX8_init_124 : decode cX8_init 124 = .ok (.goto (-22), 3) := by decide +kernel
theorem dX8_init_127 : decode cX8_init 127 = .ok (.return_, 1) := by decide +kernel
set_option maxRecDepth 20000 in
theorem ggX8_bells_X4_begin : GoodIn wsX8_bells wsX4_begin := goodIn_r _ [8, 9, 10, 11, 12, 13, 14, 15, 16, 17, 18, 19, 30, 31, 32, 33, 34, 35, 36, 37, 38, 39, 40, 41, 42, 43, 44] (by decide +kernel) (by decide +kernel)
set_option maxRecDepth 20000 in
theorem gX8_bells_X4_begin : GoodIn wsX8_bells (wsV RX8 66 RX4 yX4_begin wsX4_begin) := goodIn_app (goodIn_of _ (by decide +kernel)) ggX8_bells_X4_begin
theorem dX8_bells_0 : decode cX8_bells 0 = .ok (.iload_n 1, 1) := by decide +kernel
theorem dX8_bells_1 : decode cX8_bells 1 = .ok (.iconst 4, 1) := by decide +kernel
theorem dX8_bells_2 : decode cX8_bells 2 = .ok (.if_icmp .lt 9, 3) := by decide +kernel
theorem dX8_bells_5 : decode cX8_bells 5 = .ok (.iload_n 1, 1) := by decide +kernel
theorem dX8_bells_6 : decode cX8_bells 6 = .ok (.bipush 8, 2) := by decide +kernel
theorem dX8_bells_8 : decode cX8_bells 8 = .ok (.if_icmp .le 6, 3) := by decide +kernel
theorem dX8_bells_11 : decode cX8_bells 11 = .ok (.bipush (-2), 2) := by decide +kernel
theorem dX8_bells_13 : decode cX8_bells 13 = .ok (.ireturn, 1) := by decide +kernel
theorem dX8_bells_14 : decode cX8_bells 14 = .ok (.aload_n 0, 1) := by decide +kernel
theorem dX8_bells_15 : decode cX8_bells 15 = .ok (.getfield 14, 3) := by decide +kernel
theorem dX8_bells_18 : decode cX8_bells 18 = .ok (.getfield 62, 3) := by decide +kernel
theorem dX8_bells_21 : decode cX8_bells 21 = .ok (.istore_n 2, 1) := by decide +kernel
theorem dX8_bells_22 : decode cX8_bells 22 = .ok (.aload_n 0, 1) := by decide +kernel
theorem dX8_bells_23 : decode cX8_bells 23 = .ok (.getfield 14, 3) := by decide +kernel
theorem dX8_bells_26 : decode cX8_bells 26 = .ok (.iload_n 1, 1) := by decide +kernel
theorem dX8_bells_27 : decode cX8_bells 27 = .ok (.invokevirtual 66, 3) := by decide +kernel
theorem dX8_bells_30 : decode cX8_bells 30 = .ok (.aload_n 0, 1) := by decide +kernel
theorem dX8_bells_31 : decode cX8_bells 31 = .ok (.iconst 1, 1) := by decide +kernel
theorem dX8_bells_32 : decode cX8_bells 32 = .ok (.putfield 58, 3) := by decide +kernel
theorem dX8_bells_35 : decode cX8_bells 35 = .ok (.iload_n 2, 1) := by decide +kernel
theorem dX8_bells_36 : decode cX8_bells 36 = .ok (.ireturn, 1) := by decide +kernel
set_option maxRecDepth 20000 in
theorem ggX8_change_X8_isPlaces : GoodIn wsX8_change wsX8_isPlaces := goodIn_r _ [10, 1, 2, 21, 22, 23, 24, 25, 26, 27, 28, 29, 30, 31, 32, 33, 34, 35, 36, 37, 38, 39, 40, 41] (by decide +kernel) (by decide +kernel)
set_option maxRecDepth 20000 in
theorem gX8_change_X8_isPlaces : GoodIn wsX8_change (wsV RX8 70 RX8 yX8_isPlaces wsX8_isPlaces) := goodIn_app (goodIn_of _ (by decide +kernel)) ggX8_change_X8_isPlaces
set_option maxRecDepth 20000 in
theorem ggX8_change_X2_isGood : GoodIn wsX8_change wsX2_isGood := goodIn_r _ [14, 15, 16, 13, 17, 18, 19, 20] (by decide +kernel) (by decide +kernel)
set_option maxRecDepth 20000 in
theorem gX8_change_X2_isGood : GoodIn wsX8_change (va_wsS RX8 74 yX2_isGood wsX2_isGood) := goodIn_app (goodIn_of _ (by decide +kernel)) ggX8_change_X2_isGood
theorem dX8_change_0 : decode cX8_change 0 = .ok (.aload_n 0, 1) := by decide +kernel
theorem dX8_change_1 : decode cX8_change 1 = .ok (.iload_n 1, 1) := by decide +kernel
theorem dX8_change_2 : decode cX8_change 2 = .ok (.invokevirtual 70, 3) := by decide +kernel
theorem dX8_change_5 : decode cX8_change 5 = .ok (.ifCond .ne 6, 3) := by decide +kernel
theorem dX8_change_8 : decode cX8_change 8 = .ok (.bipush (-2), 2) := by decide +kernel
theorem dX8_change_10 : decode cX8_change 10 = .ok (.ireturn, 1) := by decide +kernel
theorem dX8_change_11 : decode cX8_change 11 = .ok (.aload_n 0, 1) := by decide +kernel
theorem dX8_change_12 : decode cX8_change 12 = .ok (.getfield 14, 3) := by decide +kernel
theorem dX8_change_15 : decode cX8_change 15 = .ok (.getfield 62, 3) := by decide +kernel
theorem dX8_change_18 : decode cX8_change 18 = .ok (.iload_n 1, 1) := by decide +kernel
theorem dX8_change_19 : decode cX8_change 19 = .ok (.invokestatic 74, 3) := by decide +kernel
theorem dX8_change_22 : decode cX8_change 22 = .ok (.ifCond .ne 6, 3) := by decide +kernel
theorem dX8_change_25 : decode cX8_change 25 = .ok (.bipush (-3), 2) := by decide +kernel
theorem dX8_change_27 : decode cX8_change 27 = .ok (.ireturn, 1) := by decide +kernel
theorem dX8_change_28 : decode cX8_change 28 = .ok (.aload_n 0, 1) := by decide +kernel
theorem dX8_change_29 : decode cX8_change 29 = .ok (.getfield 14, 3) := by decide +kernel
theorem dX8_change_32 : decode cX8_change 32 = .ok (.getfield 80, 3) := by decide +kernel
theorem dX8_change_35 : decode cX8_change 35 = .ok (.bipush 16, 2) := by decide +kernel
theorem dX8_change_37 : decode cX8_change 37 = .ok (.if_icmp .lt 6, 3) := by decide +kernel
theorem dX8_change_40 : decode cX8_change 40 = .ok (.bipush (-4), 2) := by decide +kernel
theorem dX8_change_42 : decode cX8_change 42 = .ok (.ireturn, 1) := by decide +kernel
theorem dX8_change_43 : decode cX8_change 43 = .ok (.aload_n 0, 1) := by decide +kernel
theorem dX8_change_44 : decode cX8_change 44 = .ok (.getfield 14, 3) := by decide +kernel
theorem dX8_change_47 : decode cX8_change 47 = .ok (.getfield 83, 3) := by decide +kernel
theorem dX8_change_50 : decode cX8_change 50 = .ok (.aload_n 0, 1) := by decide +kernel
theorem dX8_change_51 : decode cX8_change 51 = .ok (.getfield 14, 3) := by decide +kernel
theorem dX8_change_54 : decode cX8_change 54 = .ok (.getfield 80, 3) := by decide +kernel
theorem dX8_change_57 : decode cX8_change 57 = .ok (.iload_n 1, 1) := by decide +kernel
theorem dX8_change_58 : decode cX8_change 58 = .ok (.iastore, 1) := by decide +kernel
theorem dX8_change_59 : decode cX8_change 59 = .ok (.aload_n 0, 1) := by decide +kernel
theorem dX8_change_60 : decode cX8_change 60 = .ok (.getfield 14, 3) := by decide +kernel
theorem dX8_change_63 : decode cX8_change 63 = .ok (.dup, 1) := by decide +kernel
theorem dX8_change_64 : decode cX8_change 64 = .ok (.getfield 80, 3) := by decide +kernel
theorem dX8_change_67 : decode cX8_change 67 = .ok (.iconst 1, 1) := by decide +kernel
theorem dX8_change_68 : decode cX8_change 68 = .ok (.iadd, 1) := by decide +kernel
theorem dX8_change_69 : decode cX8_change 69 = .ok (.putfield 80, 3) := by decide +kernel
theorem dX8_change_72 : decode cX8_change 72 = .ok (.aload_n 0, 1) := by decide +kernel
theorem dX8_change_73 : decode cX8_change 73 = .ok (.iconst 1, 1) := by decide +kernel
theorem dX8_change_74 : decode cX8_change 74 = .ok (.putfield 58, 3) := by decide +kernel
theorem dX8_change_77 : decode cX8_change 77 = .ok (.aload_n 0, 1) := by decide +kernel
theorem dX8_change_78 : decode cX8_change 78 = .ok (.getfield 14, 3) := by decide +kernel
theorem dX8_change_81 : decode cX8_change 81 = .ok (.getfield 80, 3) := by decide +kernel
theorem dX8_change_84 : decode cX8_change 84 = .ok (.ireturn, 1) := by decide +kernel
set_option maxRecDepth 20000 in
theorem ggX8_calls_X8_isPlaces : GoodIn wsX8_calls wsX8_isPlaces := goodIn_r _ [8, 1, 2, 30, 31, 32, 33, 34, 35, 36, 37, 38, 39, 40, 41, 42, 43, 44, 45, 46, 47, 48, 49, 50] (by decide +kernel) (by decide +kernel)
set_option maxRecDepth 20000 in
theorem gX8_calls_X8_isPlaces : GoodIn wsX8_calls (wsV RX8 70 RX8 yX8_isPlaces wsX8_isPlaces) := goodIn_app (goodIn_of _ (by decide +kernel)) ggX8_calls_X8_isPlaces
set_option maxRecDepth 20000 in
theorem ggX8_calls_X2_isGood : GoodIn wsX8_calls wsX2_isGood := goodIn_r _ [12, 13, 14, 11, 15, 16, 17, 18] (by decide +kernel) (by decide +kernel)
set_option maxRecDepth 20000 in
theorem gX8_calls_X2_isGood : GoodIn wsX8_calls (va_wsS RX8 74 yX2_isGood wsX2_isGood) := goodIn_app (goodIn_of _ (by decide +kernel)) ggX8_calls_X2_isGood
set_option maxRecDepth 20000 in
theorem ggX8_calls_X4_calledChange : GoodIn wsX8_calls wsX4_calledChange := goodIn_r _ [23, 24, 25, 40, 41, 42, 43, 44, 45, 46, 47, 48, 49, 50] (by decide +kernel) (by decide +kernel)
set_option maxRecDepth 20000 in
theorem gX8_calls_X4_calledChange : GoodIn wsX8_calls (wsV RX8 87 RX4 yX4_calledChange wsX4_calledChange) := goodIn_app (goodIn_of _ (by decide +kernel)) ggX8_calls_X4_calledChange
set_option maxRecDepth 20000 in
theorem ggX8_calls_X4_setCalledChange : GoodIn wsX8_calls wsX4_setCalledChange := goodIn_r _ [29, 24, 25, 40, 41, 42, 43, 44, 45, 46, 47, 48, 49, 50] (by decide +kernel) (by decide +kernel)
set_option maxRecDepth 20000 in
theorem gX8_calls_X4_setCalledChange : GoodIn wsX8_calls (wsV RX8 91 RX4 yX4_setCalledChange wsX4_setCalledChange) := goodIn_app (goodIn_of _ (by decide +kernel)) ggX8_calls_X4_setCalledChange
theorem dX8_calls_0 : decode cX8_calls 0 = .ok (.iload_n 1, 1) := by decide +kernel
theorem dX8_calls_1 : decode cX8_calls 1 = .ok (.iconst 1, 1) := by decide +kernel
theorem dX8_calls_2 : decode cX8_calls 2 = .ok (.if_icmp .eq 10, 3) := by decide +kernel
theorem dX8_calls_5 : decode cX8_calls 5 = .ok (.iload_n 1, 1) := by decide +kernel
theorem dX8_calls_6 : decode cX8_calls 6 = .ok (.iconst 2, 1) := by decide +kernel
theorem dX8_calls_7 : decode cX8_calls 7 = .ok (.if_icmp .eq 5, 3) := by decide +kernel
theorem dX8_calls_10 : decode cX8_calls 10 = .ok (.iconst (-1), 1) := by decide +kernel
theorem dX8_calls_11 : decode cX8_calls 11 = .ok (.ireturn, 1) := by decide +kernel
theorem dX8_calls_12 : decode cX8_calls 12 = .ok (.iload_n 2, 1) := by decide +kernel
theorem dX8_calls_13 : decode cX8_calls 13 = .ok (.iconst (-1), 1) := by decide +kernel
theorem dX8_calls_14 : decode cX8_calls 14 = .ok (.if_icmp .eq 31, 3) := by decide +kernel
theorem dX8_calls_17 : decode cX8_calls 17 = .ok (.aload_n 0, 1) := by decide +kernel
theorem dX8_calls_18 : decode cX8_calls 18 = .ok (.iload_n 2, 1) := by decide +kernel
theorem dX8_calls_19 : decode cX8_calls 19 = .ok (.invokevirtual 70, 3) := by decide +kernel
theorem dX8_calls_22 : decode cX8_calls 22 = .ok (.ifCond .ne 6, 3) := by decide +kernel
theorem dX8_calls_25 : decode cX8_calls 25 = .ok (.bipush (-2), 2) := by decide +kernel
theorem dX8_calls_27 : decode cX8_calls 27 = .ok (.ireturn, 1) := by decide +kernel
theorem dX8_calls_28 : decode cX8_calls 28 = .ok (.aload_n 0, 1) := by decide +kernel
theorem dX8_calls_29 : decode cX8_calls 29 = .ok (.getfield 14, 3) := by decide +kernel
theorem dX8_calls_32 : decode cX8_calls 32 = .ok (.getfield 62, 3) := by decide +kernel
theorem dX8_calls_35 : decode cX8_calls 35 = .ok (.iload_n 2, 1) := by decide +kernel
theorem dX8_calls_36 : decode cX8_calls 36 = .ok (.invokestatic 74, 3) := by decide +kernel
theorem dX8_calls_39 : decode cX8_calls 39 = .ok (.ifCond .ne 6, 3) := by decide +kernel
theorem dX8_calls_42 : decode cX8_calls 42 = .ok (.bipush (-3), 2) := by decide +kernel
theorem dX8_calls_44 : decode cX8_calls 44 = .ok (.ireturn, 1) := by decide +kernel
theorem dX8_calls_45 : decode cX8_calls 45 = .ok (.aload_n 0, 1) := by decide +kernel
theorem dX8_calls_46 : decode cX8_calls 46 = .ok (.getfield 14, 3) := by decide +kernel
theorem dX8_calls_49 : decode cX8_calls 49 = .ok (.iload_n 1, 1) := by decide +kernel
theorem dX8_calls_50 : decode cX8_calls 50 = .ok (.invokevirtual 87, 3) := by decide +kernel
theorem dX8_calls_53 : decode cX8_calls 53 = .ok (.istore_n 3, 1) := by decide +kernel
theorem dX8_calls_54 : decode cX8_calls 54 = .ok (.aload_n 0, 1) := by decide +kernel
theorem dX8_calls_55 : decode cX8_calls 55 = .ok (.getfield 14, 3) := by decide +kernel
theorem dX8_calls_58 : decode cX8_calls 58 = .ok (.iload_n 1, 1) := by decide +kernel
theorem dX8_calls_59 : decode cX8_calls 59 = .ok (.iload_n 2, 1) := by decide +kernel
theorem dX8_calls_60 : decode cX8_calls 60 = .ok (.invokevirtual 91, 3) := by decide +kernel
theorem dX8_calls_63 : decode cX8_calls 63 = .ok (.aload_n 0, 1) := by decide +kernel
theorem dX8_calls_64 : decode cX8_calls 64 = .ok (.iconst 1, 1) := by decide +kernel
theorem dX8_calls_65 : decode cX8_calls 65 = .ok (.putfield 58, 3) := by decide +kernel
theorem dX8_calls_68 : decode cX8_calls 68 = .ok (.iload_n 3, 1) := by decide +kernel
theorem dX8_calls_69 : decode cX8_calls 69 = .ok (.iconst (-1), 1) := by decide +kernel
theorem dX8_calls_70 : decode cX8_calls 70 = .ok (.if_icmp .ne 7, 3) := by decide +kernel
theorem dX8_calls_73 : decode cX8_calls 73 = .ok (.iconst 0, 1) := by decide +kernel
theorem dX8_calls_74 : decode cX8_calls 74 = .ok (.goto 4, 3) := by decide +kernel
theorem dX8_calls_77 : decode cX8_calls 77 = .ok (.iconst 1, 1) := by decide +kernel
theorem dX8_calls_78 : decode cX8_calls 78 = .ok (.ireturn, 1) := by decide +kernel
set_option maxRecDepth 20000 in
theorem ggX8_call_X8_isLead : GoodIn wsX8_call wsX8_isLead := goodIn_r _ [7] (by decide +kernel) (by decide +kernel)
set_option maxRecDepth 20000 in
theorem gX8_call_X8_isLead : GoodIn wsX8_call (va_wsS RX8 95 yX8_isLead wsX8_isLead) := goodIn_app (goodIn_of _ (by decide +kernel)) ggX8_call_X8_isLead
theorem dX8_call_0 : decode cX8_call 0 = .ok (.iload_n 1, 1) := by decide +kernel
theorem dX8_call_1 : decode cX8_call 1 = .ok (.invokestatic 95, 3) := by decide +kernel
theorem dX8_call_4 : decode cX8_call 4 = .ok (.ifCond .ne 5, 3) := by decide +kernel
theorem dX8_call_7 : decode cX8_call 7 = .ok (.iconst (-1), 1) := by decide +kernel
theorem dX8_call_8 : decode cX8_call 8 = .ok (.ireturn, 1) := by decide +kernel
theorem dX8_call_9 : decode cX8_call 9 = .ok (.iload_n 2, 1) := by decide +kernel
theorem dX8_call_10 : decode cX8_call 10 = .ok (.ifCond .lt 8, 3) := by decide +kernel
theorem dX8_call_13 : decode cX8_call 13 = .ok (.iload_n 2, 1) := by decide +kernel
theorem dX8_call_14 : decode cX8_call 14 = .ok (.iconst 2, 1) := by decide +kernel
theorem dX8_call_15 : decode cX8_call 15 = .ok (.if_icmp .le 6, 3) := by decide +kernel
theorem dX8_call_18 : decode cX8_call 18 = .ok (.bipush (-2), 2) := by decide +kernel
theorem dX8_call_20 : decode cX8_call 20 = .ok (.ireturn, 1) := by decide +kernel
theorem dX8_call_21 : decode cX8_call 21 = .ok (.aload_n 0, 1) := by decide +kernel
theorem dX8_call_22 : decode cX8_call 22 = .ok (.getfield 14, 3) := by decide +kernel
theorem dX8_call_25 : decode cX8_call 25 = .ok (.getfield 98, 3) := by decide +kernel
theorem dX8_call_28 : decode cX8_call 28 = .ok (.iload_n 1, 1) := by decide +kernel
theorem dX8_call_29 : decode cX8_call 29 = .ok (.iaload, 1) := by decide +kernel
theorem dX8_call_30 : decode cX8_call 30 = .ok (.istore_n 3, 1) := by decide +kernel
theorem dX8_call_31 : decode cX8_call 31 = .ok (.aload_n 0, 1) := by decide +kernel
theorem dX8_call_32 : decode cX8_call 32 = .ok (.getfield 14, 3) := by decide +kernel
theorem dX8_call_35 : decode cX8_call 35 = .ok (.getfield 98, 3) := by decide +kernel
theorem dX8_call_38 : decode cX8_call 38 = .ok (.iload_n 1, 1) := by decide +kernel
theorem dX8_call_39 : decode cX8_call 39 = .ok (.iload_n 2, 1) := by decide +kernel
theorem dX8_call_40 : decode cX8_call 40 = .ok (.iastore, 1) := by decide +kernel
theorem dX8_call_41 : decode cX8_call 41 = .ok (.aload_n 0, 1) := by decide +kernel
theorem dX8_call_42 : decode cX8_call 42 = .ok (.iconst 1, 1) := by decide +kernel
theorem dX8_call_43 : decode cX8_call 43 = .ok (.putfield 58, 3) := by decide +kernel
theorem dX8_call_46 : decode cX8_call 46 = .ok (.iload_n 3, 1) := by decide +kernel
theorem dX8_call_47 : decode cX8_call 47 = .ok (.ireturn, 1) := by decide +kernel
theorem dX8_leads_0 : decode cX8_leads 0 = .ok (.iload_n 1, 1) := by decide +kernel
theorem dX8_leads_1 : decode cX8_leads 1 = .ok (.iconst 1, 1) := by decide +kernel
theorem dX8_leads_2 : decode cX8_leads 2 = .ok (.if_icmp .lt 9, 3) := by decide +kernel
theorem dX8_leads_5 : decode cX8_leads 5 = .ok (.iload_n 1, 1) := by decide +kernel
theorem dX8_leads_6 : decode cX8_leads 6 = .ok (.bipush 12, 2) := by decide +kernel
theorem dX8_leads_8 : decode cX8_leads 8 = .ok (.if_icmp .le 6, 3) := by decide +kernel
theorem dX8_leads_11 : decode cX8_leads 11 = .ok (.bipush (-2), 2) := by decide +kernel
theorem dX8_leads_13 : decode cX8_leads 13 = .ok (.ireturn, 1) := by decide +kernel
theorem dX8_leads_14 : decode cX8_leads 14 = .ok (.aload_n 0, 1) := by decide +kernel
theorem dX8_leads_15 : decode cX8_leads 15 = .ok (.getfield 14, 3) := by decide +kernel
theorem dX8_leads_18 : decode cX8_leads 18 = .ok (.getfield 101, 3) := by decide +kernel
theorem dX8_leads_21 : decode cX8_leads 21 = .ok (.istore_n 2, 1) := by decide +kernel
theorem dX8_leads_22 : decode cX8_leads 22 = .ok (.aload_n 0, 1) := by decide +kernel
theorem dX8_leads_23 : decode cX8_leads 23 = .ok (.getfield 14, 3) := by decide +kernel
theorem dX8_leads_26 : decode cX8_leads 26 = .ok (.iload_n 1, 1) := by decide +kernel
theorem dX8_leads_27 : decode cX8_leads 27 = .ok (.putfield 101, 3) := by decide +kernel
theorem dX8_leads_30 : decode cX8_leads 30 = .ok (.aload_n 0, 1) := by decide +kernel
theorem dX8_leads_31 : decode cX8_leads 31 = .ok (.iconst 1, 1) := by decide +kernel
theorem dX8_leads_32 : decode cX8_leads 32 = .ok (.putfield 58, 3) := by decide +kernel
theorem dX8_leads_35 : decode cX8_leads 35 = .ok (.iload_n 2, 1) := by decide +kernel
theorem dX8_leads_36 : decode cX8_leads 36 = .ok (.ireturn, 1) := by decide +kernel
theorem dX8_pattern_0 : decode cX8_pattern 0 = .ok (.iload_n 1, 1) := by decide +kernel
theorem dX8_pattern_1 : decode cX8_pattern 1 = .ok (.iconst 1, 1) := by decide +kernel
theorem dX8_pattern_2 : decode cX8_pattern 2 = .ok (.if_icmp .lt 9, 3) := by decide +kernel
theorem dX8_pattern_5 : decode cX8_pattern 5 = .ok (.iload_n 1, 1) := by decide +kernel
theorem dX8_pattern_6 : decode cX8_pattern 6 = .ok (.bipush 8, 2) := by decide +kernel
theorem dX8_pattern_8 : decode cX8_pattern 8 = .ok (.if_icmp .le 5, 3) := by decide +kernel
theorem dX8_pattern_11 : decode cX8_pattern 11 = .ok (.iconst (-1), 1) := by decide +kernel
theorem dX8_pattern_12 : decode cX8_pattern 12 = .ok (.ireturn, 1) := by decide +kernel
theorem dX8_pattern_13 : decode cX8_pattern 13 = .ok (.iload_n 2, 1) := by decide +kernel
theorem dX8_pattern_14 : decode cX8_pattern 14 = .ok (.ifCond .lt 9, 3) := by decide +kernel
theorem dX8_pattern_17 : decode cX8_pattern 17 = .ok (.iload_n 2, 1) := by decide +kernel
theorem dX8_pattern_18 : decode cX8_pattern 18 = .ok (.bipush 8, 2) := by decide +kernel
theorem dX8_pattern_20 : decode cX8_pattern 20 = .ok (.if_icmp .le 6, 3) := by decide +kernel
theorem dX8_pattern_23 : decode cX8_pattern 23 = .ok (.bipush (-2), 2) := by decide +kernel
theorem dX8_pattern_25 : decode cX8_pattern 25 = .ok (.ireturn, 1) := by decide +kernel
theorem dX8_pattern_26 : decode cX8_pattern 26 = .ok (.aload_n 0, 1) := by decide +kernel
theorem dX8_pattern_27 : decode cX8_pattern 27 = .ok (.getfield 14, 3) := by decide +kernel
theorem dX8_pattern_30 : decode cX8_pattern 30 = .ok (.getfield 104, 3) := by decide +kernel
theorem dX8_pattern_33 : decode cX8_pattern 33 = .ok (.iload_n 1, 1) := by decide +kernel
theorem dX8_pattern_34 : decode cX8_pattern 34 = .ok (.iconst 1, 1) := by decide +kernel
theorem dX8_pattern_35 : decode cX8_pattern 35 = .ok (.isub, 1) := by decide +kernel
theorem dX8_pattern_36 : decode cX8_pattern 36 = .ok (.iaload, 1) := by decide +kernel
theorem dX8_pattern_37 : decode cX8_pattern 37 = .ok (.istore_n 3, 1) := by decide +kernel
theorem dX8_pattern_38 : decode cX8_pattern 38 = .ok (.aload_n 0, 1) := by decide +kernel
theorem dX8_pattern_39 : decode cX8_pattern 39 = .ok (.getfield 14, 3) := by decide +kernel
theorem dX8_pattern_42 : decode cX8_pattern 42 = .ok (.getfield 104, 3) := by decide +kernel
theorem dX8_pattern_45 : decode cX8_pattern 45 = .ok (.iload_n 1, 1) := by decide +kernel
theorem dX8_pattern_46 : decode cX8_pattern 46 = .ok (.iconst 1, 1) := by decide +kernel
theorem dX8_pattern_47 : decode cX8_pattern 47 = .ok (.isub, 1) := by decide +kernel
theorem dX8_pattern_48 : decode cX8_pattern 48 = .ok (.iload_n 2, 1) := by decide +kernel
theorem dX8_pattern_49 : decode cX8_pattern 49 = .ok (.iastore, 1) := by decide +kernel
theorem dX8_pattern_50 : decode cX8_pattern 50 = .ok (.iload_n 3, 1) := by decide +kernel
theorem dX8_pattern_51 : decode cX8_pattern 51 = .ok (.ireturn, 1) := by decide +kernel
set_option maxRecDepth 20000 in
theorem ggX8_feed_X5_append : GoodIn wsX8_feed wsX5_append := goodIn_r _ [7, 8, 9, 20, 21, 22, 23, 24, 25, 26, 27] (by decide +kernel) (by decide +kernel)
set_option maxRecDepth 20000 in
theorem gX8_feed_X5_append : GoodIn wsX8_feed (wsV RX8 107 RX5 yX5_append wsX5_append) := goodIn_app (goodIn_of _ (by decide +kernel)) ggX8_feed_X5_append
theorem dX8_feed_0 : decode cX8_feed 0 = .ok (.iload_n 1, 1) := by decide +kernel
theorem dX8_feed_1 : decode cX8_feed 1 = .ok (.ifCond .lt 9, 3) := by decide +kernel
theorem dX8_feed_4 : decode cX8_feed 4 = .ok (.iload_n 1, 1) := by decide +kernel
theorem dX8_feed_5 : decode cX8_feed 5 = .ok (.bipush 127, 2) := by decide +kernel
theorem dX8_feed_7 : decode cX8_feed 7 = .ok (.if_icmp .le 6, 3) := by decide +kernel
theorem dX8_feed_10 : decode cX8_feed 10 = .ok (.bipush (-2), 2) := by decide +kernel
theorem dX8_feed_12 : decode cX8_feed 12 = .ok (.ireturn, 1) := by decide +kernel
theorem dX8_feed_13 : decode cX8_feed 13 = .ok (.aload_n 0, 1) := by decide +kernel
theorem dX8_feed_14 : decode cX8_feed 14 = .ok (.getfield 44, 3) := by decide +kernel
theorem dX8_feed_17 : decode cX8_feed 17 = .ok (.iload_n 1, 1) := by decide +kernel
theorem dX8_feed_18 : decode cX8_feed 18 = .ok (.invokevirtual 107, 3) := by decide +kernel
theorem dX8_feed_21 : decode cX8_feed 21 = .ok (.ifCond .eq 13, 3) := by decide +kernel
theorem dX8_feed_24 : decode cX8_feed 24 = .ok (.aload_n 0, 1) := by decide +kernel
theorem dX8_feed_25 : decode cX8_feed 25 = .ok (.getfield 44, 3) := by decide +kernel
theorem dX8_feed_28 : decode cX8_feed 28 = .ok (.getfield 110, 3) := by decide +kernel
theorem dX8_feed_31 : decode cX8_feed 31 = .ok (.goto 5, 3) := by decide +kernel
theorem dX8_feed_34 : decode cX8_feed 34 = .ok (.bipush (-4), 2) := by decide +kernel
theorem dX8_feed_36 : decode cX8_feed 36 = .ok (.ireturn, 1) := by decide +kernel
set_option maxRecDepth 20000 in
theorem ggX8_read_X5_parse : GoodIn wsX8_read wsX5_parse := goodIn_r _ [9, 10, 11, 12, 13, 14, 15, 16, 17, 8, 18, 19, 20, 21, 22, 23, 24, 25, 26, 27, 28, 29, 30, 31, 32, 33, 34, 35, 36, 37, 38, 39, 40, 41, 42, 43, 44, 45, 46, 47, 48, 49, 50, 51, 119, 120, 121, 122, 123, 124, 125, 126] (by decide +kernel) (by decide +kernel)
set_option maxRecDepth 20000 in
theorem gX8_read_X5_parse : GoodIn wsX8_read (wsV RX8 113 RX5 yX5_parse wsX5_parse) := goodIn_app (goodIn_of _ (by decide +kernel)) ggX8_read_X5_parse
set_option maxRecDepth 20000 in
theorem ggX8_read_X5_perform : GoodIn wsX8_read wsX5_perform := goodIn_r _ [55, 11, 14, 13, 56, 57, 58, 8, 59, 33, 60, 61, 62, 63, 64, 65, 66, 67, 68, 69, 70, 71, 72, 73, 74, 75, 76, 77, 78, 79, 80, 81, 82, 83, 84, 85, 86, 87, 88, 89, 90, 91, 92, 93, 94, 95, 96, 97, 98, 99, 100, 101, 102, 103, 104, 105, 106, 107, 108, 119, 120, 121, 122, 123, 124, 125, 126, 127, 128, 129, 130, 131, 132, 133, 134, 135, 136, 137, 138, 139, 140, 141] (by decide +kernel) (by decide +kernel)
set_option maxRecDepth 20000 in
theorem gX8_read_X5_perform : GoodIn wsX8_read (wsV RX8 117 RX5 yX5_perform wsX5_perform) := goodIn_app (goodIn_of _ (by decide +kernel)) ggX8_read_X5_perform
theorem dX8_read_0 : decode cX8_read 0 = .ok (.aload_n 0, 1) := by decide +kernel
theorem dX8_read_1 : decode cX8_read 1 = .ok (.getfield 44, 3) := by decide +kernel
theorem dX8_read_4 : decode cX8_read 4 = .ok (.invokevirtual 113, 3) := by decide +kernel
theorem dX8_read_7 : decode cX8_read 7 = .ok (.istore_n 1, 1) := by decide +kernel
theorem dX8_read_8 : decode cX8_read 8 = .ok (.aload_n 0, 1) := by decide +kernel
theorem dX8_read_9 : decode cX8_read 9 = .ok (.getfield 44, 3) := by decide +kernel
theorem dX8_read_12 : decode cX8_read 12 = .ok (.iconst 0, 1) := by decide +kernel
theorem dX8_read_13 : decode cX8_read 13 = .ok (.putfield 110, 3) := by decide +kernel
theorem dX8_read_16 : decode cX8_read 16 = .ok (.iload_n 1, 1) := by decide +kernel
theorem dX8_read_17 : decode cX8_read 17 = .ok (.bipush (-5), 2) := by decide +kernel
theorem dX8_read_19 : decode cX8_read 19 = .ok (.if_icmp .eq 8, 3) := by decide +kernel
theorem dX8_read_22 : decode cX8_read 22 = .ok (.bipush (-10), 2) := by decide +kernel
theorem dX8_read_24 : decode cX8_read 24 = .ok (.iload_n 1, 1) := by decide +kernel
theorem dX8_read_25 : decode cX8_read 25 = .ok (.isub, 1) := by decide +kernel
theorem dX8_read_26 : decode cX8_read 26 = .ok (.ireturn, 1) := by decide +kernel
theorem dX8_read_27 : decode cX8_read 27 = .ok (.aload_n 0, 1) := by decide +kernel
theorem dX8_read_28 : decode cX8_read 28 = .ok (.iconst 1, 1) := by decide +kernel
theorem dX8_read_29 : decode cX8_read 29 = .ok (.putfield 58, 3) := by decide +kernel
theorem dX8_read_32 : decode cX8_read 32 = .ok (.aload_n 0, 1) := by decide +kernel
theorem dX8_read_33 : decode cX8_read 33 = .ok (.getfield 44, 3) := by decide +kernel
theorem dX8_read_36 : decode cX8_read 36 = .ok (.aload_n 0, 1) := by decide +kernel
theorem dX8_read_37 : decode cX8_read 37 = .ok (.getfield 14, 3) := by decide +kernel
theorem dX8_read_40 : decode cX8_read 40 = .ok (.invokevirtual 117, 3) := by decide +kernel
theorem dX8_read_43 : decode cX8_read 43 = .ok (.ireturn, 1) := by decide +kernel
set_option maxRecDepth 20000 in
theorem ggX8_of_X8_orNotFound : GoodIn wsX8_of wsX8_orNotFound := goodIn_r _ [10] (by decide +kernel) (by decide +kernel)
set_option maxRecDepth 20000 in
theorem gX8_of_X8_orNotFound : GoodIn wsX8_of (va_wsS RX8 124 yX8_orNotFound wsX8_orNotFound) := goodIn_app (goodIn_of _ (by decide +kernel)) ggX8_of_X8_orNotFound
set_option maxRecDepth 20000 in
theorem ggX8_of_X8_isLead : GoodIn wsX8_of wsX8_isLead := goodIn_r _ [13] (by decide +kernel) (by decide +kernel)
set_option maxRecDepth 20000 in
theorem gX8_of_X8_isLead : GoodIn wsX8_of (va_wsS RX8 95 yX8_isLead wsX8_isLead) := goodIn_app (goodIn_of _ (by decide +kernel)) ggX8_of_X8_isLead
theorem dX8_of_0 : decode cX8_of 0 = .ok (.iload_n 1, 1) := by decide +kernel
theorem dX8_of_1 : decode cX8_of 1 = .ok (.tableswitch 103 0 3 #[31, 60, 71, 82], 31) := by decide +kernel
theorem dX8_of_32 : decode cX8_of 32 = .ok (.iload_n 2, 1) := by decide +kernel
theorem dX8_of_33 : decode cX8_of 33 = .ok (.ifCond .lt 26, 3) := by decide +kernel
theorem dX8_of_36 : decode cX8_of 36 = .ok (.iload_n 2, 1) := by decide +kernel
theorem dX8_of_37 : decode cX8_of 37 = .ok (.aload_n 0, 1) := by decide +kernel
theorem dX8_of_38 : decode cX8_of 38 = .ok (.getfield 14, 3) := by decide +kernel
theorem dX8_of_41 : decode cX8_of 41 = .ok (.getfield 80, 3) := by decide +kernel
theorem dX8_of_44 : decode cX8_of 44 = .ok (.if_icmp .ge 15, 3) := by decide +kernel
theorem dX8_of_47 : decode cX8_of 47 = .ok (.aload_n 0, 1) := by decide +kernel
theorem dX8_of_48 : decode cX8_of 48 = .ok (.getfield 14, 3) := by decide +kernel
theorem dX8_of_51 : decode cX8_of 51 = .ok (.getfield 83, 3) := by decide +kernel
theorem dX8_of_54 : decode cX8_of 54 = .ok (.iload_n 2, 1) := by decide +kernel
theorem dX8_of_55 : decode cX8_of 55 = .ok (.iaload, 1) := by decide +kernel
theorem dX8_of_56 : decode cX8_of 56 = .ok (.goto 4, 3) := by decide +kernel
theorem dX8_of_59 : decode cX8_of 59 = .ok (.iconst (-1), 1) := by decide +kernel
theorem dX8_of_60 : decode cX8_of 60 = .ok (.ireturn, 1) := by decide +kernel
theorem dX8_of_61 : decode cX8_of 61 = .ok (.aload_n 0, 1) := by decide +kernel
theorem dX8_of_62 : decode cX8_of 62 = .ok (.getfield 14, 3) := by decide +kernel
theorem dX8_of_65 : decode cX8_of 65 = .ok (.getfield 121, 3) := by decide +kernel
theorem dX8_of_68 : decode cX8_of 68 = .ok (.invokestatic 124, 3) := by decide +kernel
theorem dX8_of_71 : decode cX8_of 71 = .ok (.ireturn, 1) := by decide +kernel
theorem dX8_of_72 : decode cX8_of 72 = .ok (.aload_n 0, 1) := by decide +kernel
theorem dX8_of_73 : decode cX8_of 73 = .ok (.getfield 14, 3) := by decide +kernel
theorem dX8_of_76 : decode cX8_of 76 = .ok (.getfield 127, 3) := by decide +kernel
theorem dX8_of_79 : decode cX8_of 79 = .ok (.invokestatic 124, 3) := by decide +kernel
theorem dX8_of_82 : decode cX8_of 82 = .ok (.ireturn, 1) := by decide +kernel
theorem dX8_of_83 : decode cX8_of 83 = .ok (.iload_n 2, 1) := by decide +kernel
theorem dX8_of_84 : decode cX8_of 84 = .ok (.invokestatic 95, 3) := by decide +kernel
theorem dX8_of_87 : decode cX8_of 87 = .ok (.ifCond .eq 15, 3) := by decide +kernel
theorem dX8_of_90 : decode cX8_of 90 = .ok (.aload_n 0, 1) := by decide +kernel
theorem dX8_of_91 : decode cX8_of 91 = .ok (.getfield 14, 3) := by decide +kernel
theorem dX8_of_94 : decode cX8_of 94 = .ok (.getfield 98, 3) := by decide +kernel
theorem dX8_of_97 : decode cX8_of 97 = .ok (.iload_n 2, 1) := by decide +kernel
theorem dX8_of_98 : decode cX8_of 98 = .ok (.iaload, 1) := by decide +kernel
theorem dX8_of_99 : decode cX8_of 99 = .ok (.goto 4, 3) := by decide +kernel
theorem dX8_of_102 : decode cX8_of 102 = .ok (.iconst (-1), 1) := by decide +kernel
theorem dX8_of_103 : decode cX8_of 103 = .ok (.ireturn, 1) := by decide +kernel
theorem dX8_of_104 : decode cX8_of 104 = .ok (.iconst (-1), 1) := by decide +kernel
theorem dX8_of_105 : decode cX8_of 105 = .ok (.ireturn, 1) := by decide +kernel
set_option maxRecDepth 20000 in
theorem ggX8_told_X8_rung : GoodIn wsX8_told wsX8_rung := goodIn_r _ [10, 11, 12, 1, 13, 14, 15, 16, 17, 18, 19, 20, 21, 22, 23, 24, 25, 26, 27, 28, 29, 30, 31, 32, 33, 34, 35, 36, 37, 38, 39, 40, 41, 42, 43, 44, 45, 46, 47, 48, 49, 50, 51, 52, 53, 54, 55, 56, 94, 95, 96, 97, 98, 99, 100, 101, 102, 103, 104, 105, 106, 107, 108, 109, 110, 111, 112, 113, 114, 115, 116, 117, 118, 119, 120, 121, 122] (by decide +kernel) (by decide +kernel)
set_option maxRecDepth 20000 in
theorem gX8_told_X8_rung : GoodIn wsX8_told (wsV RX8 130 RX8 yX8_rung wsX8_rung) := goodIn_app (goodIn_of _ (by decide +kernel)) ggX8_told_X8_rung
set_option maxRecDepth 20000 in
theorem ggX8_told_X7_roundRow : GoodIn wsX8_told wsX7_roundRow := goodIn_r _ [60, 31, 61, 62, 63, 64, 16, 65, 32, 66, 30, 67, 68, 69, 70, 71, 72, 73, 74, 75, 76, 77, 78, 79, 80, 115, 116, 117, 118, 119, 120, 121, 122, 123] (by decide +kernel) (by decide +kernel)
set_option maxRecDepth 20000 in
theorem gX8_told_X7_roundRow : GoodIn wsX8_told (wsV RX8 137 RX7 yX7_roundRow wsX7_roundRow) := goodIn_app (goodIn_of _ (by decide +kernel)) ggX8_told_X7_roundRow
set_option maxRecDepth 20000 in
theorem ggX8_told_X7_falseRow : GoodIn wsX8_told wsX7_falseRow := goodIn_r _ [84, 31, 61, 62, 63, 64, 16, 65, 32, 66, 30, 67, 68, 69, 70, 71, 72, 73, 74, 75, 76, 77, 78, 79, 80, 115, 116, 117, 118, 119, 120, 121, 122, 123] (by decide +kernel) (by decide +kernel)
set_option maxRecDepth 20000 in
theorem gX8_told_X7_falseRow : GoodIn wsX8_told (wsV RX8 140 RX7 yX7_falseRow wsX7_falseRow) := goodIn_app (goodIn_of _ (by decide +kernel)) ggX8_told_X7_falseRow
set_option maxRecDepth 20000 in
theorem ggX8_told_X7_isTrue : GoodIn wsX8_told wsX7_isTrue := goodIn_r _ [88, 31, 30, 89, 82, 83, 16, 84, 61, 62, 63, 64, 65, 32, 66, 67, 68, 69, 70, 71, 72, 73, 74, 75, 76, 77, 78, 79, 80, 115, 116, 117, 118, 119, 120, 121, 122, 123] (by decide +kernel) (by decide +kernel)
set_option maxRecDepth 20000 in
theorem gX8_told_X7_isTrue : GoodIn wsX8_told (wsV RX8 143 RX7 yX7_isTrue wsX7_isTrue) := goodIn_app (goodIn_of _ (by decide +kernel)) ggX8_told_X7_isTrue
set_option maxRecDepth 20000 in
theorem ggX8_told_X7_course : GoodIn wsX8_told wsX7_course := goodIn_r _ [93, 30, 19, 26, 54, 55, 35, 56, 115, 116, 117, 118, 119, 120, 121, 122] (by decide +kernel) (by decide +kernel)
set_option maxRecDepth 20000 in
theorem gX8_told_X7_course : GoodIn wsX8_told (wsV RX8 147 RX7 yX7_course wsX7_course) := goodIn_app (goodIn_of _ (by decide +kernel)) ggX8_told_X7_course
theorem dX8_told_0 : decode cX8_told 0 = .ok (.iload_n 1, 1) := by decide +kernel
theorem dX8_told_1 : decode cX8_told 1 = .ok (.tableswitch 119 0 7 #[47, 55, 63, 71, 79, 87, 95, 111], 47) := by decide +kernel
theorem dX8_told_48 : decode cX8_told 48 = .ok (.aload_n 0, 1) := by decide +kernel
theorem dX8_told_49 : decode cX8_told 49 = .ok (.getfield 14, 3) := by decide +kernel
theorem dX8_told_52 : decode cX8_told 52 = .ok (.getfield 62, 3) := by decide +kernel
theorem dX8_told_55 : decode cX8_told 55 = .ok (.ireturn, 1) := by decide +kernel
theorem dX8_told_56 : decode cX8_told 56 = .ok (.aload_n 0, 1) := by decide +kernel
theorem dX8_told_57 : decode cX8_told 57 = .ok (.getfield 14, 3) := by decide +kernel
theorem dX8_told_60 : decode cX8_told 60 = .ok (.getfield 80, 3) := by decide +kernel
theorem dX8_told_63 : decode cX8_told 63 = .ok (.ireturn, 1) := by decide +kernel
theorem dX8_told_64 : decode cX8_told 64 = .ok (.aload_n 0, 1) := by decide +kernel
theorem dX8_told_65 : decode cX8_told 65 = .ok (.getfield 14, 3) := by decide +kernel
theorem dX8_told_68 : decode cX8_told 68 = .ok (.getfield 101, 3) := by decide +kernel
theorem dX8_told_71 : decode cX8_told 71 = .ok (.ireturn, 1) := by decide +kernel
theorem dX8_told_72 : decode cX8_told 72 = .ok (.aload_n 0, 1) := by decide +kernel
theorem dX8_told_73 : decode cX8_told 73 = .ok (.invokevirtual 130, 3) := by decide +kernel
theorem dX8_told_76 : decode cX8_told 76 = .ok (.getfield 134, 3) := by decide +kernel
theorem dX8_told_79 : decode cX8_told 79 = .ok (.ireturn, 1) := by decide +kernel
theorem dX8_told_80 : decode cX8_told 80 = .ok (.aload_n 0, 1) := by decide +kernel
theorem dX8_told_81 : decode cX8_told 81 = .ok (.invokevirtual 130, 3) := by decide +kernel
theorem dX8_told_84 : decode cX8_told 84 = .ok (.invokevirtual 137, 3) := by decide +kernel
theorem dX8_told_87 : decode cX8_told 87 = .ok (.ireturn, 1) := by decide +kernel
theorem dX8_told_88 : decode cX8_told 88 = .ok (.aload_n 0, 1) := by decide +kernel
theorem dX8_told_89 : decode cX8_told 89 = .ok (.invokevirtual 130, 3) := by decide +kernel
theorem dX8_told_92 : decode cX8_told 92 = .ok (.invokevirtual 140, 3) := by decide +kernel
theorem dX8_told_95 : decode cX8_told 95 = .ok (.ireturn, 1) := by decide +kernel
theorem dX8_told_96 : decode cX8_told 96 = .ok (.aload_n 0, 1) := by decide +kernel
theorem dX8_told_97 : decode cX8_told 97 = .ok (.invokevirtual 130, 3) := by decide +kernel
theorem dX8_told_100 : decode cX8_told 100 = .ok (.invokevirtual 143, 3) := by decide +kernel
theorem dX8_told_103 : decode cX8_told 103 = .ok (.ifCond .eq 7, 3) := by decide +kernel
theorem dX8_told_106 : decode cX8_told 106 = .ok (.iconst 1, 1) := by decide +kernel
theorem dX8_told_107 : decode cX8_told 107 = .ok (.goto 4, 3) := by decide +kernel
theorem dX8_told_110 : decode cX8_told 110 = .ok (.iconst 0, 1) := by decide +kernel
theorem dX8_told_111 : decode cX8_told 111 = .ok (.ireturn, 1) := by decide +kernel
theorem dX8_told_112 : decode cX8_told 112 = .ok (.aload_n 0, 1) := by decide +kernel
theorem dX8_told_113 : decode cX8_told 113 = .ok (.invokevirtual 130, 3) := by decide +kernel
theorem dX8_told_116 : decode cX8_told 116 = .ok (.invokevirtual 147, 3) := by decide +kernel
theorem dX8_told_119 : decode cX8_told 119 = .ok (.ireturn, 1) := by decide +kernel
theorem dX8_told_120 : decode cX8_told 120 = .ok (.iconst (-1), 1) := by decide +kernel
theorem dX8_told_121 : decode cX8_told 121 = .ok (.ireturn, 1) := by decide +kernel
set_option maxRecDepth 20000 in
theorem ggX8_at_X8_isRow : GoodIn wsX8_at wsX8_isRow := goodIn_r _ [6, 7, 8, 9, 10, 5, 11, 12, 13, 14, 15, 16, 17, 18, 19, 20, 21, 22, 23, 24, 25, 26, 27, 28, 29, 30, 31, 32, 33, 34, 35, 36, 37, 38, 39, 40, 41, 42, 43, 44, 45, 46, 47, 48, 49, 50, 51, 52, 53, 54, 55, 56, 57, 58, 67, 68, 69, 70, 71, 72, 73, 74, 75, 76, 77, 78, 79, 80, 81, 82, 83, 84, 85, 86, 87, 88, 89, 90, 91, 92, 93, 94, 95] (by decide +kernel) (by decide +kernel)
set_option maxRecDepth 20000 in
theorem gX8_at_X8_isRow : GoodIn wsX8_at (wsV RX8 150 RX8 yX8_isRow wsX8_isRow) := goodIn_app (goodIn_of _ (by decide +kernel)) ggX8_at_X8_isRow
set_option maxRecDepth 20000 in
theorem ggX8_at_X8_isBell : GoodIn wsX8_at wsX8_isBell := goodIn_r _ [62, 14, 63, 75, 76, 77, 78, 79, 80, 81, 82, 83, 84, 85, 86, 87, 88, 89, 90, 91, 92, 93, 94, 95] (by decide +kernel) (by decide +kernel)
set_option maxRecDepth 20000 in
theorem gX8_at_X8_isBell : GoodIn wsX8_at (wsV RX8 153 RX8 yX8_isBell wsX8_isBell) := goodIn_app (goodIn_of _ (by decide +kernel)) ggX8_at_X8_isBell
set_option maxRecDepth 20000 in
theorem ggX8_at_X8_rung : GoodIn wsX8_at wsX8_rung := goodIn_r _ [11, 12, 13, 14, 15, 16, 17, 18, 19, 20, 21, 22, 23, 24, 25, 26, 27, 28, 29, 30, 31, 32, 33, 34, 35, 36, 37, 38, 39, 40, 41, 42, 43, 44, 45, 46, 47, 48, 49, 50, 51, 52, 53, 54, 55, 56, 57, 58, 75, 76, 77, 78, 79, 80, 81, 82, 83, 84, 85, 86, 87, 88, 89, 90, 91, 92, 93, 94, 95, 67, 68, 69, 70, 71, 72, 73, 74] (by decide +kernel) (by decide +kernel)
set_option maxRecDepth 20000 in
theorem gX8_at_X8_rung : GoodIn wsX8_at (wsV RX8 130 RX8 yX8_rung wsX8_rung) := goodIn_app (goodIn_of _ (by decide +kernel)) ggX8_at_X8_rung
set_option maxRecDepth 20000 in
theorem ggX8_at_X2_bellIn : GoodIn wsX8_at wsX2_bellIn := goodIn_r _ [66] (by decide +kernel) (by decide +kernel)
set_option maxRecDepth 20000 in
theorem gX8_at_X2_bellIn : GoodIn wsX8_at (va_wsS RX8 159 yX2_bellIn wsX2_bellIn) := goodIn_app (goodIn_of _ (by decide +kernel)) ggX8_at_X2_bellIn
theorem dX8_at_0 : decode cX8_at 0 = .ok (.aload_n 0, 1) := by decide +kernel
theorem dX8_at_1 : decode cX8_at 1 = .ok (.iload_n 1, 1) := by decide +kernel
theorem dX8_at_2 : decode cX8_at 2 = .ok (.invokevirtual 150, 3) := by decide +kernel
theorem dX8_at_5 : decode cX8_at 5 = .ok (.ifCond .eq 11, 3) := by decide +kernel
theorem dX8_at_8 : decode cX8_at 8 = .ok (.aload_n 0, 1) := by decide +kernel
theorem dX8_at_9 : decode cX8_at 9 = .ok (.iload_n 2, 1) := by decide +kernel
theorem dX8_at_10 : decode cX8_at 10 = .ok (.invokevirtual 153, 3) := by decide +kernel
theorem dX8_at_13 : decode cX8_at 13 = .ok (.ifCond .ne 5, 3) := by decide +kernel
theorem dX8_at_16 : decode cX8_at 16 = .ok (.iconst (-1), 1) := by decide +kernel
theorem dX8_at_17 : decode cX8_at 17 = .ok (.ireturn, 1) := by decide +kernel
theorem dX8_at_18 : decode cX8_at 18 = .ok (.aload_n 0, 1) := by decide +kernel
theorem dX8_at_19 : decode cX8_at 19 = .ok (.invokevirtual 130, 3) := by decide +kernel
theorem dX8_at_22 : decode cX8_at 22 = .ok (.getfield 156, 3) := by decide +kernel
theorem dX8_at_25 : decode cX8_at 25 = .ok (.iload_n 1, 1) := by decide +kernel
theorem dX8_at_26 : decode cX8_at 26 = .ok (.iaload, 1) := by decide +kernel
theorem dX8_at_27 : decode cX8_at 27 = .ok (.iload_n 2, 1) := by decide +kernel
theorem dX8_at_28 : decode cX8_at 28 = .ok (.invokestatic 159, 3) := by decide +kernel
theorem dX8_at_31 : decode cX8_at 31 = .ok (.ireturn, 1) := by decide +kernel
set_option maxRecDepth 20000 in
theorem ggX8_where_X8_isRow : GoodIn wsX8_where wsX8_isRow := goodIn_r _ [6, 7, 8, 9, 10, 5, 11, 12, 13, 14, 15, 16, 17, 18, 19, 20, 21, 22, 23, 24, 25, 26, 27, 28, 29, 30, 31, 32, 33, 34, 35, 36, 37, 38, 39, 40, 41, 42, 43, 44, 45, 46, 47, 48, 49, 50, 51, 52, 53, 54, 55, 56, 57, 58, 70, 71, 72, 73, 74, 75, 76, 77, 78, 79, 80, 81, 82, 83, 84, 85, 86, 87, 88, 89, 90, 91, 92, 93, 94, 95, 96, 97, 98] (by decide +kernel) (by decide +kernel)
set_option maxRecDepth 20000 in
theorem gX8_where_X8_isRow : GoodIn wsX8_where (wsV RX8 150 RX8 yX8_isRow wsX8_isRow) := goodIn_app (goodIn_of _ (by decide +kernel)) ggX8_where_X8_isRow
set_option maxRecDepth 20000 in
theorem ggX8_where_X8_isBell : GoodIn wsX8_where wsX8_isBell := goodIn_r _ [62, 14, 63, 78, 79, 80, 81, 82, 83, 84, 85, 86, 87, 88, 89, 90, 91, 92, 93, 94, 95, 96, 97, 98] (by decide +kernel) (by decide +kernel)
set_option maxRecDepth 20000 in
theorem gX8_where_X8_isBell : GoodIn wsX8_where (wsV RX8 153 RX8 yX8_isBell wsX8_isBell) := goodIn_app (goodIn_of _ (by decide +kernel)) ggX8_where_X8_isBell
set_option maxRecDepth 20000 in
theorem ggX8_where_X8_rung : GoodIn wsX8_where wsX8_rung := goodIn_r _ [11, 12, 13, 14, 15, 16, 17, 18, 19, 20, 21, 22, 23, 24, 25, 26, 27, 28, 29, 30, 31, 32, 33, 34, 35, 36, 37, 38, 39, 40, 41, 42, 43, 44, 45, 46, 47, 48, 49, 50, 51, 52, 53, 54, 55, 56, 57, 58, 78, 79, 80, 81, 82, 83, 84, 85, 86, 87, 88, 89, 90, 91, 92, 93, 94, 95, 96, 97, 98, 70, 71, 72, 73, 74, 75, 76, 77] (by decide +kernel) (by decide +kernel)
set_option maxRecDepth 20000 in
theorem gX8_where_X8_rung : GoodIn wsX8_where (wsV RX8 130 RX8 yX8_rung wsX8_rung) := goodIn_app (goodIn_of _ (by decide +kernel)) ggX8_where_X8_rung
set_option maxRecDepth 20000 in
theorem ggX8_where_X2_placeOf : GoodIn wsX8_where wsX2_placeOf := goodIn_r _ [66, 67, 68, 37, 69] (by decide +kernel) (by decide +kernel)
set_option maxRecDepth 20000 in
theorem gX8_where_X2_placeOf : GoodIn wsX8_where (va_wsS RX8 163 yX2_placeOf wsX2_placeOf) := goodIn_app (goodIn_of _ (by decide +kernel)) ggX8_where_X2_placeOf
theorem dX8_where_0 : decode cX8_where 0 = .ok (.aload_n 0, 1) := by decide +kernel
theorem dX8_where_1 : decode cX8_where 1 = .ok (.iload_n 1, 1) := by decide +kernel
theorem dX8_where_2 : decode cX8_where 2 = .ok (.invokevirtual 150, 3) := by decide +kernel
theorem dX8_where_5 : decode cX8_where 5 = .ok (.ifCond .eq 11, 3) := by decide +kernel
theorem dX8_where_8 : decode cX8_where 8 = .ok (.aload_n 0, 1) := by decide +kernel
theorem dX8_where_9 : decode cX8_where 9 = .ok (.iload_n 2, 1) := by decide +kernel
theorem dX8_where_10 : decode cX8_where 10 = .ok (.invokevirtual 153, 3) := by decide +kernel
theorem dX8_where_13 : decode cX8_where 13 = .ok (.ifCond .ne 5, 3) := by decide +kernel
theorem dX8_where_16 : decode cX8_where 16 = .ok (.iconst (-1), 1) := by decide +kernel
theorem dX8_where_17 : decode cX8_where 17 = .ok (.ireturn, 1) := by decide +kernel
theorem dX8_where_18 : decode cX8_where 18 = .ok (.aload_n 0, 1) := by decide +kernel
theorem dX8_where_19 : decode cX8_where 19 = .ok (.invokevirtual 130, 3) := by decide +kernel
theorem dX8_where_22 : decode cX8_where 22 = .ok (.getfield 156, 3) := by decide +kernel
theorem dX8_where_25 : decode cX8_where 25 = .ok (.iload_n 1, 1) := by decide +kernel
theorem dX8_where_26 : decode cX8_where 26 = .ok (.iaload, 1) := by decide +kernel
theorem dX8_where_27 : decode cX8_where 27 = .ok (.iload_n 2, 1) := by decide +kernel
theorem dX8_where_28 : decode cX8_where 28 = .ok (.invokestatic 163, 3) := by decide +kernel
theorem dX8_where_31 : decode cX8_where 31 = .ok (.ireturn, 1) := by decide +kernel
set_option maxRecDepth 20000 in
theorem ggX8_same_X8_isRow : GoodIn wsX8_same wsX8_isRow := goodIn_r _ [5, 6, 7, 8, 9, 4, 10, 11, 12, 13, 14, 15, 16, 17, 18, 19, 20, 21, 22, 23, 24, 25, 26, 27, 28, 29, 30, 31, 32, 33, 34, 35, 36, 37, 38, 39, 40, 41, 42, 43, 44, 45, 46, 47, 48, 49, 50, 51, 52, 53, 54, 55, 56, 57, 82, 83, 84, 85, 86, 87, 88, 89, 90, 91, 92, 93, 94, 95, 96, 97, 98, 99, 100, 101, 102, 103, 104, 105, 106, 107, 108, 109, 110] (by decide +kernel) (by decide +kernel)
set_option maxRecDepth 20000 in
theorem gX8_same_X8_isRow : GoodIn wsX8_same (wsV RX8 150 RX8 yX8_isRow wsX8_isRow) := goodIn_app (goodIn_of _ (by decide +kernel)) ggX8_same_X8_isRow
set_option maxRecDepth 20000 in
theorem ggX8_same_X8_rung : GoodIn wsX8_same wsX8_rung := goodIn_r _ [10, 11, 12, 13, 14, 15, 16, 17, 18, 19, 20, 21, 22, 23, 24, 25, 26, 27, 28, 29, 30, 31, 32, 33, 34, 35, 36, 37, 38, 39, 40, 41, 42, 43, 44, 45, 46, 47, 48, 49, 50, 51, 52, 53, 54, 55, 56, 57, 90, 91, 92, 93, 94, 95, 96, 97, 98, 99, 100, 101, 102, 103, 104, 105, 106, 107, 108, 109, 110, 82, 83, 84, 85, 86, 87, 88, 89] (by decide +kernel) (by decide +kernel)
set_option maxRecDepth 20000 in
theorem gX8_same_X8_rung : GoodIn wsX8_same (wsV RX8 130 RX8 yX8_rung wsX8_rung) := goodIn_app (goodIn_of _ (by decide +kernel)) ggX8_same_X8_rung
set_option maxRecDepth 20000 in
theorem ggX8_same_X7_firstAs : GoodIn wsX8_same wsX7_firstAs := goodIn_r _ [61, 62, 63, 64, 65, 17, 66, 33, 32, 67, 31, 68, 69, 70, 71, 72, 73, 74, 75, 76, 77, 78, 79, 80, 81, 82, 83, 84, 85, 86, 87, 88, 89, 111] (by decide +kernel) (by decide +kernel)
set_option maxRecDepth 20000 in
theorem gX8_same_X7_firstAs : GoodIn wsX8_same (wsV RX8 166 RX7 yX7_firstAs wsX7_firstAs) := goodIn_app (goodIn_of _ (by decide +kernel)) ggX8_same_X7_firstAs
theorem dX8_same_0 : decode cX8_same 0 = .ok (.aload_n 0, 1) := by decide +kernel
theorem dX8_same_1 : decode cX8_same 1 = .ok (.iload_n 1, 1) := by decide +kernel
theorem dX8_same_2 : decode cX8_same 2 = .ok (.invokevirtual 150, 3) := by decide +kernel
theorem dX8_same_5 : decode cX8_same 5 = .ok (.ifCond .ne 5, 3) := by decide +kernel
theorem dX8_same_8 : decode cX8_same 8 = .ok (.iconst (-1), 1) := by decide +kernel
theorem dX8_same_9 : decode cX8_same 9 = .ok (.ireturn, 1) := by decide +kernel
theorem dX8_same_10 : decode cX8_same 10 = .ok (.aload_n 0, 1) := by decide +kernel
theorem dX8_same_11 : decode cX8_same 11 = .ok (.invokevirtual 130, 3) := by decide +kernel
theorem dX8_same_14 : decode cX8_same 14 = .ok (.iload_n 1, 1) := by decide +kernel
theorem dX8_same_15 : decode cX8_same 15 = .ok (.invokevirtual 166, 3) := by decide +kernel
theorem dX8_same_18 : decode cX8_same 18 = .ok (.ireturn, 1) := by decide +kernel
set_option maxRecDepth 20000 in
theorem ggX8_good_X8_isPlaces : GoodIn wsX8_good wsX8_isPlaces := goodIn_r _ [7, 1, 2, 18, 19, 20, 21, 22, 23, 24, 25, 26, 27, 28, 29, 30, 31, 32, 33, 34, 35, 36, 37, 38] (by decide +kernel) (by decide +kernel)
set_option maxRecDepth 20000 in
theorem gX8_good_X8_isPlaces : GoodIn wsX8_good (wsV RX8 70 RX8 yX8_isPlaces wsX8_isPlaces) := goodIn_app (goodIn_of _ (by decide +kernel)) ggX8_good_X8_isPlaces
set_option maxRecDepth 20000 in
theorem ggX8_good_X2_isGood : GoodIn wsX8_good wsX2_isGood := goodIn_r _ [11, 12, 13, 10, 14, 15, 16, 17] (by decide +kernel) (by decide +kernel)
set_option maxRecDepth 20000 in
theorem gX8_good_X2_isGood : GoodIn wsX8_good (va_wsS RX8 74 yX2_isGood wsX2_isGood) := goodIn_app (goodIn_of _ (by decide +kernel)) ggX8_good_X2_isGood
theorem dX8_good_0 : decode cX8_good 0 = .ok (.aload_n 0, 1) := by decide +kernel
theorem dX8_good_1 : decode cX8_good 1 = .ok (.iload_n 1, 1) := by decide +kernel
theorem dX8_good_2 : decode cX8_good 2 = .ok (.invokevirtual 70, 3) := by decide +kernel
theorem dX8_good_5 : decode cX8_good 5 = .ok (.ifCond .ne 6, 3) := by decide +kernel
theorem dX8_good_8 : decode cX8_good 8 = .ok (.bipush (-2), 2) := by decide +kernel
theorem dX8_good_10 : decode cX8_good 10 = .ok (.ireturn, 1) := by decide +kernel
theorem dX8_good_11 : decode cX8_good 11 = .ok (.aload_n 0, 1) := by decide +kernel
theorem dX8_good_12 : decode cX8_good 12 = .ok (.getfield 14, 3) := by decide +kernel
theorem dX8_good_15 : decode cX8_good 15 = .ok (.getfield 62, 3) := by decide +kernel
theorem dX8_good_18 : decode cX8_good 18 = .ok (.iload_n 1, 1) := by decide +kernel
theorem dX8_good_19 : decode cX8_good 19 = .ok (.invokestatic 74, 3) := by decide +kernel
theorem dX8_good_22 : decode cX8_good 22 = .ok (.ifCond .eq 7, 3) := by decide +kernel
theorem dX8_good_25 : decode cX8_good 25 = .ok (.iconst 1, 1) := by decide +kernel
theorem dX8_good_26 : decode cX8_good 26 = .ok (.goto 4, 3) := by decide +kernel
theorem dX8_good_29 : decode cX8_good 29 = .ok (.iconst 0, 1) := by decide +kernel
theorem dX8_good_30 : decode cX8_good 30 = .ok (.ireturn, 1) := by decide +kernel
set_option maxRecDepth 20000 in
theorem ggX8_music_X8_countMusic : GoodIn wsX8_music wsX8_countMusic := goodIn_r _ [5, 6, 7, 8, 9, 10, 11, 12, 4, 13, 14, 15, 16, 17, 18, 19, 20, 21, 22, 23, 24, 25, 26, 27, 28, 29, 30, 31, 32, 33, 34, 35, 36, 37, 38, 39, 40, 41, 42, 43, 44, 45, 46, 47, 48, 49, 50, 51, 52, 53, 54, 55, 56, 57, 58, 59, 60, 61, 62, 63, 64, 65, 66, 67, 68, 69, 70, 71, 72, 73, 74, 75, 76, 77, 78, 79, 80, 81, 82, 83, 84, 85, 86, 87, 88, 89, 90, 91, 92, 93, 94, 95, 96, 97, 98, 99, 100, 101, 102, 103, 104, 105, 106, 107, 108, 109] (by decide +kernel) (by decide +kernel)
set_option maxRecDepth 20000 in
theorem gX8_music_X8_countMusic : GoodIn wsX8_music (wsV RX8 169 RX8 yX8_countMusic wsX8_countMusic) := goodIn_app (goodIn_of _ (by decide +kernel)) ggX8_music_X8_countMusic
theorem dX8_music_0 : decode cX8_music 0 = .ok (.iload_n 1, 1) := by decide +kernel
theorem dX8_music_1 : decode cX8_music 1 = .ok (.ifCond .lt 8, 3) := by decide +kernel
theorem dX8_music_4 : decode cX8_music 4 = .ok (.iload_n 1, 1) := by decide +kernel
theorem dX8_music_5 : decode cX8_music 5 = .ok (.iconst 4, 1) := by decide +kernel
theorem dX8_music_6 : decode cX8_music 6 = .ok (.if_icmp .lt 5, 3) := by decide +kernel
theorem dX8_music_9 : decode cX8_music 9 = .ok (.iconst (-1), 1) := by decide +kernel
theorem dX8_music_10 : decode cX8_music 10 = .ok (.ireturn, 1) := by decide +kernel
theorem dX8_music_11 : decode cX8_music 11 = .ok (.aload_n 0, 1) := by decide +kernel
