set_option maxRecDepth 20000 in
theorem ggX9_init_X9_begins : GoodIn wsX9_init wsX9_begins := goodIn_r _ [23, 5, 24, 25, 26, 27, 28, 29, 30, 31, 32, 33, 34, 35, 36, 37, 38, 39, 40, 41, 42, 43] (by decide +kernel) (by decide +kernel)
set_option maxRecDepth 20000 in
theorem gX9_init_X9_begins : GoodIn wsX9_init (wsV RX9 52 RX9 yX9_begins wsX9_begins) := goodIn_app (goodIn_of _ (by decide +kernel)) ggX9_init_X9_begins
theorem dX9_init_0 : decode cX9_init 0 = .ok (.aload_n 0, 1) := by decide +kernel
theorem dX9_init_1 : decode cX9_init 1 = .ok (.invokespecial 3, 3) := by decide +kernel
theorem dX9_init_4 : decode cX9_init 4 = .ok (.aload_n 0, 1) := by decide +kernel
theorem dX9_init_5 : decode cX9_init 5 = .ok (.bipush 91, 2) := by decide +kernel
theorem dX9_init_7 : decode cX9_init 7 = .ok (.newarray .int, 2) := by decide +kernel
theorem dX9_init_9 : decode cX9_init 9 = .ok (.putfield 9, 3) := by decide +kernel
theorem dX9_init_12 : decode cX9_init 12 = .ok (.aload_n 0, 1) := by decide +kernel
theorem dX9_init_13 : decode cX9_init 13 = .ok (.bipush 91, 2) := by decide +kernel
theorem dX9_init_15 : decode cX9_init 15 = .ok (.newarray .int, 2) := by decide +kernel
theorem dX9_init_17 : decode cX9_init 17 = .ok (.putfield 15, 3) := by decide +kernel
theorem dX9_init_20 : decode cX9_init 20 = .ok (.aload_n 0, 1) := by decide +kernel
theorem dX9_init_21 : decode cX9_init 21 = .ok (.sipush 1544, 3) := by decide +kernel
theorem dX9_init_24 : decode cX9_init 24 = .ok (.newarray .int, 2) := by decide +kernel
theorem dX9_init_26 : decode cX9_init 26 = .ok (.putfield 18, 3) := by decide +kernel
theorem dX9_init_29 : decode cX9_init 29 = .ok (.aload_n 0, 1) := by decide +kernel
theorem dX9_init_30 : decode cX9_init 30 = .ok (.sipush 193, 3) := by decide +kernel
theorem dX9_init_33 : decode cX9_init 33 = .ok (.newarray .int, 2) := by decide +kernel
theorem dX9_init_35 : decode cX9_init 35 = .ok (.putfield 21, 3) := by decide +kernel
theorem dX9_init_38 : decode cX9_init 38 = .ok (.aload_n 0, 1) := by decide +kernel
theorem dX9_init_39 : decode cX9_init 39 = .ok (.bipush 100, 2) := by decide +kernel
theorem dX9_init_41 : decode cX9_init 41 = .ok (.newarray .int, 2) := by decide +kernel
theorem dX9_init_43 : decode cX9_init 43 = .ok (.putfield 24, 3) := by decide +kernel
theorem dX9_init_46 : decode cX9_init 46 = .ok (.aload_n 0, 1) := by decide +kernel
theorem dX9_init_47 : decode cX9_init 47 = .ok (.bipush 10, 2) := by decide +kernel
theorem dX9_init_49 : decode cX9_init 49 = .ok (.newarray .int, 2) := by decide +kernel
theorem dX9_init_51 : decode cX9_init 51 = .ok (.putfield 27, 3) := by decide +kernel
theorem dX9_init_54 : decode cX9_init 54 = .ok (.aload_n 0, 1) := by decide +kernel
theorem dX9_init_55 : decode cX9_init 55 = .ok (.bipush 10, 2) := by decide +kernel
theorem dX9_init_57 : decode cX9_init 57 = .ok (.newarray .int, 2) := by decide +kernel
theorem dX9_init_59 : decode cX9_init 59 = .ok (.putfield 30, 3) := by decide +kernel
theorem dX9_init_62 : decode cX9_init 62 = .ok (.aload_n 0, 1) := by decide +kernel
theorem dX9_init_63 : decode cX9_init 63 = .ok (.bipush 10, 2) := by decide +kernel
theorem dX9_init_65 : decode cX9_init 65 = .ok (.newarray .int, 2) := by decide +kernel
theorem dX9_init_67 : decode cX9_init 67 = .ok (.putfield 33, 3) := by decide +kernel
theorem dX9_init_70 : decode cX9_init 70 = .ok (.aload_n 0, 1) := by decide +kernel
theorem dX9_init_71 : decode cX9_init 71 = .ok (.bipush 100, 2) := by decide +kernel
theorem dX9_init_73 : decode cX9_init 73 = .ok (.newarray .int, 2) := by decide +kernel
theorem dX9_init_75 : decode cX9_init 75 = .ok (.putfield 36, 3) := by decide +kernel
theorem dX9_init_78 : decode cX9_init 78 = .ok (.aload_n 0, 1) := by decide +kernel
theorem dX9_init_79 : decode cX9_init 79 = .ok (.bipush 6, 2) := by decide +kernel
theorem dX9_init_81 : decode cX9_init 81 = .ok (.newarray .int, 2) := by decide +kernel
theorem dX9_init_83 : decode cX9_init 83 = .ok (.putfield 39, 3) := by decide +kernel
theorem dX9_init_86 : decode cX9_init 86 = .ok (.aload_n 0, 1) := by decide +kernel
theorem dX9_init_87 : decode cX9_init 87 = .ok (.bipush 6, 2) := by decide +kernel
theorem dX9_init_89 : decode cX9_init 89 = .ok (.newarray .int, 2) := by decide +kernel
theorem dX9_init_91 : decode cX9_init 91 = .ok (.putfield 42, 3) := by decide +kernel
theorem dX9_init_94 : decode cX9_init 94 = .ok (.aload_n 0, 1) := by decide +kernel
theorem dX9_init_95 : decode cX9_init 95 = .ok (.sipush 360, 3) := by decide +kernel
theorem dX9_init_98 : decode cX9_init 98 = .ok (.newarray .long, 2) := by decide +kernel
theorem dX9_init_100 : decode cX9_init 100 = .ok (.putfield 45, 3) := by decide +kernel
theorem dX9_init_103 : decode cX9_init 103 = .ok (.aload_n 0, 1) := by decide +kernel
theorem dX9_init_104 : decode cX9_init 104 = .ok (.bipush 60, 2) := by decide +kernel
theorem dX9_init_106 : decode cX9_init 106 = .ok (.newarray .long, 2) := by decide +kernel
theorem dX9_init_108 : decode cX9_init 108 = .ok (.putfield 49, 3) := by decide +kernel
theorem dX9_init_111 : decode cX9_init 111 = .ok (.aload_n 0, 1) := by decide +kernel
theorem dX9_init_112 : decode cX9_init 112 = .ok (.bipush 6, 2) := by decide +kernel
theorem dX9_init_114 : decode cX9_init 114 = .ok (.invokevirtual 52, 3) := by decide +kernel
theorem dX9_init_117 : decode cX9_init 117 = .ok (.return_, 1) := by decide +kernel
theorem dX9_within_0 : decode cX9_within 0 = .ok (.iload_n 0, 1) := by decide +kernel
theorem dX9_within_1 : decode cX9_within 1 = .ok (.iload_n 1, 1) := by decide +kernel
theorem dX9_within_2 : decode cX9_within 2 = .ok (.if_icmp .lt 12, 3) := by decide +kernel
theorem dX9_within_5 : decode cX9_within 5 = .ok (.iload_n 0, 1) := by decide +kernel
theorem dX9_within_6 : decode cX9_within 6 = .ok (.iload_n 2, 1) := by decide +kernel
theorem dX9_within_7 : decode cX9_within 7 = .ok (.if_icmp .gt 7, 3) := by decide +kernel
theorem dX9_within_10 : decode cX9_within 10 = .ok (.iconst 1, 1) := by decide +kernel
theorem dX9_within_11 : decode cX9_within 11 = .ok (.goto 4, 3) := by decide +kernel
theorem dX9_within_14 : decode cX9_within 14 = .ok (.iconst 0, 1) := by decide +kernel
theorem dX9_within_15 : decode cX9_within 15 = .ok (.ireturn, 1) := by decide +kernel
theorem dX9_begins_0 : decode cX9_begins 0 = .ok (.iconst 0, 1) := by decide +kernel
theorem dX9_begins_1 : decode cX9_begins 1 = .ok (.istore_n 2, 1) := by decide +kernel
theorem dX9_begins_2 : decode cX9_begins 2 = .ok (.iload_n 2, 1) := by decide +kernel
theorem dX9_begins_3 : decode cX9_begins 3 = .ok (.bipush 91, 2) := by decide +kernel
theorem dX9_begins_5 : decode cX9_begins 5 = .ok (.if_icmp .ge 16, 3) := by decide +kernel
theorem dX9_begins_8 : decode cX9_begins 8 = .ok (.aload_n 0, 1) := by decide +kernel
theorem dX9_begins_9 : decode cX9_begins 9 = .ok (.getfield 9, 3) := by decide +kernel
theorem dX9_begins_12 : decode cX9_begins 12 = .ok (.iload_n 2, 1) := by decide +kernel
theorem dX9_begins_13 : decode cX9_begins 13 = .ok (.iconst 0, 1) := by decide +kernel
theorem dX9_begins_14 : decode cX9_begins 14 = .ok (.iastore, 1) := by decide +kernel
theorem dX9_begins_15 : decode cX9_begins 15 = .ok (.iinc 2 1, 3) := by decide +kernel
theorem dX9_begins_18 : decode cX9_begins 18 = .ok (.goto (-16), 3) := by decide +kernel
theorem dX9_begins_21 : decode cX9_begins 21 = .ok (.aload_n 0, 1) := by decide +kernel
theorem dX9_begins_22 : decode cX9_begins 22 = .ok (.getfield 9, 3) := by decide +kernel
theorem dX9_begins_25 : decode cX9_begins 25 = .ok (.iconst 0, 1) := by decide +kernel
theorem dX9_begins_26 : decode cX9_begins 26 = .ok (.iload_n 1, 1) := by decide +kernel
theorem dX9_begins_27 : decode cX9_begins 27 = .ok (.iastore, 1) := by decide +kernel
theorem dX9_begins_28 : decode cX9_begins 28 = .ok (.aload_n 0, 1) := by decide +kernel
theorem dX9_begins_29 : decode cX9_begins 29 = .ok (.getfield 9, 3) := by decide +kernel
theorem dX9_begins_32 : decode cX9_begins 32 = .ok (.iconst 2, 1) := by decide +kernel
theorem dX9_begins_33 : decode cX9_begins 33 = .ok (.iconst (-1), 1) := by decide +kernel
theorem dX9_begins_34 : decode cX9_begins 34 = .ok (.iastore, 1) := by decide +kernel
theorem dX9_begins_35 : decode cX9_begins 35 = .ok (.aload_n 0, 1) := by decide +kernel
theorem dX9_begins_36 : decode cX9_begins 36 = .ok (.getfield 9, 3) := by decide +kernel
theorem dX9_begins_39 : decode cX9_begins 39 = .ok (.iconst 3, 1) := by decide +kernel
theorem dX9_begins_40 : decode cX9_begins 40 = .ok (.iconst (-1), 1) := by decide +kernel
theorem dX9_begins_41 : decode cX9_begins 41 = .ok (.iastore, 1) := by decide +kernel
theorem dX9_begins_42 : decode cX9_begins 42 = .ok (.aload_n 0, 1) := by decide +kernel
theorem dX9_begins_43 : decode cX9_begins 43 = .ok (.getfield 9, 3) := by decide +kernel
theorem dX9_begins_46 : decode cX9_begins 46 = .ok (.iconst 4, 1) := by decide +kernel
theorem dX9_begins_47 : decode cX9_begins 47 = .ok (.iconst 1, 1) := by decide +kernel
theorem dX9_begins_48 : decode cX9_begins 48 = .ok (.iastore, 1) := by decide +kernel
theorem dX9_begins_49 : decode cX9_begins 49 = .ok (.return_, 1) := by decide +kernel
theorem dX9_becomes_0 : decode cX9_becomes 0 = .ok (.aload_n 0, 1) := by decide +kernel
theorem dX9_becomes_1 : decode cX9_becomes 1 = .ok (.getfield 9, 3) := by decide +kernel
theorem dX9_becomes_4 : decode cX9_becomes 4 = .ok (.iload_n 1, 1) := by decide +kernel
theorem dX9_becomes_5 : decode cX9_becomes 5 = .ok (.iaload, 1) := by decide +kernel
theorem dX9_becomes_6 : decode cX9_becomes 6 = .ok (.istore_n 3, 1) := by decide +kernel
theorem dX9_becomes_7 : decode cX9_becomes 7 = .ok (.aload_n 0, 1) := by decide +kernel
theorem dX9_becomes_8 : decode cX9_becomes 8 = .ok (.getfield 9, 3) := by decide +kernel
theorem dX9_becomes_11 : decode cX9_becomes 11 = .ok (.iload_n 1, 1) := by decide +kernel
theorem dX9_becomes_12 : decode cX9_becomes 12 = .ok (.iload_n 2, 1) := by decide +kernel
theorem dX9_becomes_13 : decode cX9_becomes 13 = .ok (.iastore, 1) := by decide +kernel
theorem dX9_becomes_14 : decode cX9_becomes 14 = .ok (.iload_n 3, 1) := by decide +kernel
theorem dX9_becomes_15 : decode cX9_becomes 15 = .ok (.ireturn, 1) := by decide +kernel
set_option maxRecDepth 20000 in
theorem ggX9_bells_X9_within : GoodIn wsX9_bells wsX9_within := goodIn_r _ [5] (by decide +kernel) (by decide +kernel)
set_option maxRecDepth 20000 in
theorem gX9_bells_X9_within : GoodIn wsX9_bells (va_wsS RX9 56 yX9_within wsX9_within) := goodIn_app (goodIn_of _ (by decide +kernel)) ggX9_bells_X9_within
set_option maxRecDepth 20000 in
theorem ggX9_bells_X9_begins : GoodIn wsX9_bells wsX9_begins := goodIn_r _ [9, 1, 10, 11, 12, 13, 14, 15, 16, 17, 18, 19, 20, 21, 22, 23, 24, 25, 26, 27, 28, 29] (by decide +kernel) (by decide +kernel)
set_option maxRecDepth 20000 in
theorem gX9_bells_X9_begins : GoodIn wsX9_bells (wsV RX9 52 RX9 yX9_begins wsX9_begins) := goodIn_app (goodIn_of _ (by decide +kernel)) ggX9_bells_X9_begins
theorem dX9_bells_0 : decode cX9_bells 0 = .ok (.iload_n 1, 1) := by decide +kernel
theorem dX9_bells_1 : decode cX9_bells 1 = .ok (.iconst 4, 1) := by decide +kernel
theorem dX9_bells_2 : decode cX9_bells 2 = .ok (.bipush 8, 2) := by decide +kernel
theorem dX9_bells_4 : decode cX9_bells 4 = .ok (.invokestatic 56, 3) := by decide +kernel
theorem dX9_bells_7 : decode cX9_bells 7 = .ok (.ifCond .ne 6, 3) := by decide +kernel
theorem dX9_bells_10 : decode cX9_bells 10 = .ok (.bipush (-2), 2) := by decide +kernel
theorem dX9_bells_12 : decode cX9_bells 12 = .ok (.ireturn, 1) := by decide +kernel
theorem dX9_bells_13 : decode cX9_bells 13 = .ok (.aload_n 0, 1) := by decide +kernel
theorem dX9_bells_14 : decode cX9_bells 14 = .ok (.getfield 9, 3) := by decide +kernel
theorem dX9_bells_17 : decode cX9_bells 17 = .ok (.iconst 0, 1) := by decide +kernel
theorem dX9_bells_18 : decode cX9_bells 18 = .ok (.iaload, 1) := by decide +kernel
theorem dX9_bells_19 : decode cX9_bells 19 = .ok (.istore_n 2, 1) := by decide +kernel
theorem dX9_bells_20 : decode cX9_bells 20 = .ok (.aload_n 0, 1) := by decide +kernel
theorem dX9_bells_21 : decode cX9_bells 21 = .ok (.iload_n 1, 1) := by decide +kernel
theorem dX9_bells_22 : decode cX9_bells 22 = .ok (.invokevirtual 52, 3) := by decide +kernel
theorem dX9_bells_25 : decode cX9_bells 25 = .ok (.iload_n 2, 1) := by decide +kernel
theorem dX9_bells_26 : decode cX9_bells 26 = .ok (.ireturn, 1) := by decide +kernel
set_option maxRecDepth 20000 in
theorem ggX9_areKept_X9_within : GoodIn wsX9_areKept wsX9_within := goodIn_r _ [5] (by decide +kernel) (by decide +kernel)
set_option maxRecDepth 20000 in
theorem gX9_areKept_X9_within : GoodIn wsX9_areKept (va_wsS RX9 56 yX9_within wsX9_within) := goodIn_app (goodIn_of _ (by decide +kernel)) ggX9_areKept_X9_within
theorem dX9_areKept_0 : decode cX9_areKept 0 = .ok (.iload_n 1, 1) := by decide +kernel
theorem dX9_areKept_1 : decode cX9_areKept 1 = .ok (.iconst 0, 1) := by decide +kernel
theorem dX9_areKept_2 : decode cX9_areKept 2 = .ok (.iconst 1, 1) := by decide +kernel
theorem dX9_areKept_3 : decode cX9_areKept 3 = .ok (.aload_n 0, 1) := by decide +kernel
theorem dX9_areKept_4 : decode cX9_areKept 4 = .ok (.getfield 9, 3) := by decide +kernel
theorem dX9_areKept_7 : decode cX9_areKept 7 = .ok (.iconst 0, 1) := by decide +kernel
theorem dX9_areKept_8 : decode cX9_areKept 8 = .ok (.iaload, 1) := by decide +kernel
theorem dX9_areKept_9 : decode cX9_areKept 9 = .ok (.ishl, 1) := by decide +kernel
theorem dX9_areKept_10 : decode cX9_areKept 10 = .ok (.iconst 1, 1) := by decide +kernel
theorem dX9_areKept_11 : decode cX9_areKept 11 = .ok (.isub, 1) := by decide +kernel
theorem dX9_areKept_12 : decode cX9_areKept 12 = .ok (.invokestatic 56, 3) := by decide +kernel
theorem dX9_areKept_15 : decode cX9_areKept 15 = .ok (.ireturn, 1) := by decide +kernel
theorem dX9_isGood_0 : decode cX9_isGood 0 = .ok (.iconst 0, 1) := by decide +kernel
theorem dX9_isGood_1 : decode cX9_isGood 1 = .ok (.istore_n 2, 1) := by decide +kernel
theorem dX9_isGood_2 : decode cX9_isGood 2 = .ok (.iload_n 2, 1) := by decide +kernel
theorem dX9_isGood_3 : decode cX9_isGood 3 = .ok (.aload_n 0, 1) := by decide +kernel
theorem dX9_isGood_4 : decode cX9_isGood 4 = .ok (.getfield 9, 3) := by decide +kernel
theorem dX9_isGood_7 : decode cX9_isGood 7 = .ok (.iconst 0, 1) := by decide +kernel
theorem dX9_isGood_8 : decode cX9_isGood 8 = .ok (.iaload, 1) := by decide +kernel
theorem dX9_isGood_9 : decode cX9_isGood 9 = .ok (.if_icmp .ge 48, 3) := by decide +kernel
theorem dX9_isGood_12 : decode cX9_isGood 12 = .ok (.iload_n 1, 1) := by decide +kernel
theorem dX9_isGood_13 : decode cX9_isGood 13 = .ok (.iload_n 2, 1) := by decide +kernel
theorem dX9_isGood_14 : decode cX9_isGood 14 = .ok (.ishr, 1) := by decide +kernel
theorem dX9_isGood_15 : decode cX9_isGood 15 = .ok (.iconst 1, 1) := by decide +kernel
theorem dX9_isGood_16 : decode cX9_isGood 16 = .ok (.iand, 1) := by decide +kernel
theorem dX9_isGood_17 : decode cX9_isGood 17 = .ok (.iconst 1, 1) := by decide +kernel
theorem dX9_isGood_18 : decode cX9_isGood 18 = .ok (.if_icmp .ne 9, 3) := by decide +kernel
theorem dX9_isGood_21 : decode cX9_isGood 21 = .ok (.iinc 2 1, 3) := by decide +kernel
theorem dX9_isGood_24 : decode cX9_isGood 24 = .ok (.goto (-22), 3) := by decide +kernel
theorem dX9_isGood_27 : decode cX9_isGood 27 = .ok (.iload_n 2, 1) := by decide +kernel
theorem dX9_isGood_28 : decode cX9_isGood 28 = .ok (.iconst 1, 1) := by decide +kernel
theorem dX9_isGood_29 : decode cX9_isGood 29 = .ok (.iadd, 1) := by decide +kernel
theorem dX9_isGood_30 : decode cX9_isGood 30 = .ok (.aload_n 0, 1) := by decide +kernel
theorem dX9_isGood_31 : decode cX9_isGood 31 = .ok (.getfield 9, 3) := by decide +kernel
theorem dX9_isGood_34 : decode cX9_isGood 34 = .ok (.iconst 0, 1) := by decide +kernel
theorem dX9_isGood_35 : decode cX9_isGood 35 = .ok (.iaload, 1) := by decide +kernel
theorem dX9_isGood_36 : decode cX9_isGood 36 = .ok (.if_icmp .ge 19, 3) := by decide +kernel
theorem dX9_isGood_39 : decode cX9_isGood 39 = .ok (.iload_n 1, 1) := by decide +kernel
theorem dX9_isGood_40 : decode cX9_isGood 40 = .ok (.iload_n 2, 1) := by decide +kernel
theorem dX9_isGood_41 : decode cX9_isGood 41 = .ok (.iconst 1, 1) := by decide +kernel
theorem dX9_isGood_42 : decode cX9_isGood 42 = .ok (.iadd, 1) := by decide +kernel
theorem dX9_isGood_43 : decode cX9_isGood 43 = .ok (.ishr, 1) := by decide +kernel
theorem dX9_isGood_44 : decode cX9_isGood 44 = .ok (.iconst 1, 1) := by decide +kernel
theorem dX9_isGood_45 : decode cX9_isGood 45 = .ok (.iand, 1) := by decide +kernel
theorem dX9_isGood_46 : decode cX9_isGood 46 = .ok (.ifCond .ne 9, 3) := by decide +kernel
theorem dX9_isGood_49 : decode cX9_isGood 49 = .ok (.iinc 2 2, 3) := by decide +kernel
theorem dX9_isGood_52 : decode cX9_isGood 52 = .ok (.goto (-50), 3) := by decide +kernel
theorem dX9_isGood_55 : decode cX9_isGood 55 = .ok (.iconst 0, 1) := by decide +kernel
theorem dX9_isGood_56 : decode cX9_isGood 56 = .ok (.ireturn, 1) := by decide +kernel
theorem dX9_isGood_57 : decode cX9_isGood 57 = .ok (.iconst 1, 1) := by decide +kernel
theorem dX9_isGood_58 : decode cX9_isGood 58 = .ok (.ireturn, 1) := by decide +kernel
set_option maxRecDepth 20000 in
theorem ggX9_change_X9_areKept : GoodIn wsX9_change wsX9_areKept := goodIn_r _ [6, 1, 7, 8, 5, 9, 14, 15, 16, 17, 18, 19, 20, 21, 22, 23, 24, 25, 26, 27, 28, 29, 30, 31, 32, 33] (by decide +kernel) (by decide +kernel)
set_option maxRecDepth 20000 in
theorem gX9_change_X9_areKept : GoodIn wsX9_change (wsV RX9 60 RX9 yX9_areKept wsX9_areKept) := goodIn_app (goodIn_of _ (by decide +kernel)) ggX9_change_X9_areKept
set_option maxRecDepth 20000 in
theorem ggX9_change_X9_isGood : GoodIn wsX9_change wsX9_isGood := goodIn_r _ [13, 1, 14, 15, 16, 17, 18, 19, 20, 21, 22, 23, 24, 25, 26, 27, 28, 29, 30, 31, 32, 33] (by decide +kernel) (by decide +kernel)
set_option maxRecDepth 20000 in
theorem gX9_change_X9_isGood : GoodIn wsX9_change (wsV RX9 64 RX9 yX9_isGood wsX9_isGood) := goodIn_app (goodIn_of _ (by decide +kernel)) ggX9_change_X9_isGood
theorem dX9_change_0 : decode cX9_change 0 = .ok (.aload_n 0, 1) := by decide +kernel
theorem dX9_change_1 : decode cX9_change 1 = .ok (.iload_n 1, 1) := by decide +kernel
theorem dX9_change_2 : decode cX9_change 2 = .ok (.invokevirtual 60, 3) := by decide +kernel
theorem dX9_change_5 : decode cX9_change 5 = .ok (.ifCond .ne 6, 3) := by decide +kernel
theorem dX9_change_8 : decode cX9_change 8 = .ok (.bipush (-2), 2) := by decide +kernel
theorem dX9_change_10 : decode cX9_change 10 = .ok (.ireturn, 1) := by decide +kernel
theorem dX9_change_11 : decode cX9_change 11 = .ok (.aload_n 0, 1) := by decide +kernel
theorem dX9_change_12 : decode cX9_change 12 = .ok (.iload_n 1, 1) := by decide +kernel
theorem dX9_change_13 : decode cX9_change 13 = .ok (.invokevirtual 64, 3) := by decide +kernel
theorem dX9_change_16 : decode cX9_change 16 = .ok (.ifCond .ne 6, 3) := by decide +kernel
theorem dX9_change_19 : decode cX9_change 19 = .ok (.bipush (-3), 2) := by decide +kernel
theorem dX9_change_21 : decode cX9_change 21 = .ok (.ireturn, 1) := by decide +kernel
theorem dX9_change_22 : decode cX9_change 22 = .ok (.aload_n 0, 1) := by decide +kernel
theorem dX9_change_23 : decode cX9_change 23 = .ok (.getfield 9, 3) := by decide +kernel
theorem dX9_change_26 : decode cX9_change 26 = .ok (.iconst 1, 1) := by decide +kernel
theorem dX9_change_27 : decode cX9_change 27 = .ok (.iaload, 1) := by decide +kernel
theorem dX9_change_28 : decode cX9_change 28 = .ok (.bipush 16, 2) := by decide +kernel
theorem dX9_change_30 : decode cX9_change 30 = .ok (.if_icmp .ne 6, 3) := by decide +kernel
theorem dX9_change_33 : decode cX9_change 33 = .ok (.bipush (-4), 2) := by decide +kernel
theorem dX9_change_35 : decode cX9_change 35 = .ok (.ireturn, 1) := by decide +kernel
theorem dX9_change_36 : decode cX9_change 36 = .ok (.aload_n 0, 1) := by decide +kernel
theorem dX9_change_37 : decode cX9_change 37 = .ok (.getfield 9, 3) := by decide +kernel
theorem dX9_change_40 : decode cX9_change 40 = .ok (.bipush 8, 2) := by decide +kernel
theorem dX9_change_42 : decode cX9_change 42 = .ok (.aload_n 0, 1) := by decide +kernel
theorem dX9_change_43 : decode cX9_change 43 = .ok (.getfield 9, 3) := by decide +kernel
theorem dX9_change_46 : decode cX9_change 46 = .ok (.iconst 1, 1) := by decide +kernel
theorem dX9_change_47 : decode cX9_change 47 = .ok (.iaload, 1) := by decide +kernel
theorem dX9_change_48 : decode cX9_change 48 = .ok (.iadd, 1) := by decide +kernel
theorem dX9_change_49 : decode cX9_change 49 = .ok (.iload_n 1, 1) := by decide +kernel
theorem dX9_change_50 : decode cX9_change 50 = .ok (.iastore, 1) := by decide +kernel
theorem dX9_change_51 : decode cX9_change 51 = .ok (.aload_n 0, 1) := by decide +kernel
theorem dX9_change_52 : decode cX9_change 52 = .ok (.getfield 9, 3) := by decide +kernel
theorem dX9_change_55 : decode cX9_change 55 = .ok (.iconst 1, 1) := by decide +kernel
theorem dX9_change_56 : decode cX9_change 56 = .ok (.dup2, 1) := by decide +kernel
theorem dX9_change_57 : decode cX9_change 57 = .ok (.iaload, 1) := by decide +kernel
theorem dX9_change_58 : decode cX9_change 58 = .ok (.iconst 1, 1) := by decide +kernel
theorem dX9_change_59 : decode cX9_change 59 = .ok (.iadd, 1) := by decide +kernel
theorem dX9_change_60 : decode cX9_change 60 = .ok (.dup_x2, 1) := by decide +kernel
theorem dX9_change_61 : decode cX9_change 61 = .ok (.iastore, 1) := by decide +kernel
theorem dX9_change_62 : decode cX9_change 62 = .ok (.ireturn, 1) := by decide +kernel
set_option maxRecDepth 20000 in
theorem ggX9_calls_X9_within : GoodIn wsX9_calls wsX9_within := goodIn_r _ [4] (by decide +kernel) (by decide +kernel)
set_option maxRecDepth 20000 in
theorem gX9_calls_X9_within : GoodIn wsX9_calls (va_wsS RX9 56 yX9_within wsX9_within) := goodIn_app (goodIn_of _ (by decide +kernel)) ggX9_calls_X9_within
set_option maxRecDepth 20000 in
theorem ggX9_calls_X9_areKept : GoodIn wsX9_calls wsX9_areKept := goodIn_r _ [8, 9, 1, 2, 3, 4, 18, 19, 20, 21, 22, 23, 24, 25, 26, 27, 28, 29, 30, 31, 32, 33, 34, 35, 36, 37] (by decide +kernel) (by decide +kernel)
set_option maxRecDepth 20000 in
theorem gX9_calls_X9_areKept : GoodIn wsX9_calls (wsV RX9 60 RX9 yX9_areKept wsX9_areKept) := goodIn_app (goodIn_of _ (by decide +kernel)) ggX9_calls_X9_areKept
set_option maxRecDepth 20000 in
theorem ggX9_calls_X9_isGood : GoodIn wsX9_calls wsX9_isGood := goodIn_r _ [13, 9, 18, 19, 20, 21, 22, 23, 24, 25, 26, 27, 28, 29, 30, 31, 32, 33, 34, 35, 36, 37] (by decide +kernel) (by decide +kernel)
set_option maxRecDepth 20000 in
theorem gX9_calls_X9_isGood : GoodIn wsX9_calls (wsV RX9 64 RX9 yX9_isGood wsX9_isGood) := goodIn_app (goodIn_of _ (by decide +kernel)) ggX9_calls_X9_isGood
set_option maxRecDepth 20000 in
theorem ggX9_calls_X9_becomes : GoodIn wsX9_calls wsX9_becomes := goodIn_r _ [17, 9, 18, 19, 20, 21, 22, 23, 24, 25, 26, 27, 28, 29, 30, 31, 32, 33, 34, 35, 36, 37] (by decide +kernel) (by decide +kernel)
set_option maxRecDepth 20000 in
theorem gX9_calls_X9_becomes : GoodIn wsX9_calls (wsV RX9 67 RX9 yX9_becomes wsX9_becomes) := goodIn_app (goodIn_of _ (by decide +kernel)) ggX9_calls_X9_becomes
theorem dX9_calls_0 : decode cX9_calls 0 = .ok (.iload_n 1, 1) := by decide +kernel
theorem dX9_calls_1 : decode cX9_calls 1 = .ok (.iconst 1, 1) := by decide +kernel
theorem dX9_calls_2 : decode cX9_calls 2 = .ok (.iconst 2, 1) := by decide +kernel
theorem dX9_calls_3 : decode cX9_calls 3 = .ok (.invokestatic 56, 3) := by decide +kernel
theorem dX9_calls_6 : decode cX9_calls 6 = .ok (.ifCond .ne 5, 3) := by decide +kernel
theorem dX9_calls_9 : decode cX9_calls 9 = .ok (.iconst (-1), 1) := by decide +kernel
theorem dX9_calls_10 : decode cX9_calls 10 = .ok (.ireturn, 1) := by decide +kernel
theorem dX9_calls_11 : decode cX9_calls 11 = .ok (.iload_n 2, 1) := by decide +kernel
theorem dX9_calls_12 : decode cX9_calls 12 = .ok (.iconst (-1), 1) := by decide +kernel
theorem dX9_calls_13 : decode cX9_calls 13 = .ok (.if_icmp .eq 14, 3) := by decide +kernel
theorem dX9_calls_16 : decode cX9_calls 16 = .ok (.aload_n 0, 1) := by decide +kernel
theorem dX9_calls_17 : decode cX9_calls 17 = .ok (.iload_n 2, 1) := by decide +kernel
theorem dX9_calls_18 : decode cX9_calls 18 = .ok (.invokevirtual 60, 3) := by decide +kernel
theorem dX9_calls_21 : decode cX9_calls 21 = .ok (.ifCond .ne 6, 3) := by decide +kernel
theorem dX9_calls_24 : decode cX9_calls 24 = .ok (.bipush (-2), 2) := by decide +kernel
theorem dX9_calls_26 : decode cX9_calls 26 = .ok (.ireturn, 1) := by decide +kernel
theorem dX9_calls_27 : decode cX9_calls 27 = .ok (.iload_n 2, 1) := by decide +kernel
theorem dX9_calls_28 : decode cX9_calls 28 = .ok (.iconst (-1), 1) := by decide +kernel
theorem dX9_calls_29 : decode cX9_calls 29 = .ok (.if_icmp .eq 14, 3) := by decide +kernel
theorem dX9_calls_32 : decode cX9_calls 32 = .ok (.aload_n 0, 1) := by decide +kernel
theorem dX9_calls_33 : decode cX9_calls 33 = .ok (.iload_n 2, 1) := by decide +kernel
theorem dX9_calls_34 : decode cX9_calls 34 = .ok (.invokevirtual 64, 3) := by decide +kernel
theorem dX9_calls_37 : decode cX9_calls 37 = .ok (.ifCond .ne 6, 3) := by decide +kernel
theorem dX9_calls_40 : decode cX9_calls 40 = .ok (.bipush (-3), 2) := by decide +kernel
theorem dX9_calls_42 : decode cX9_calls 42 = .ok (.ireturn, 1) := by decide +kernel
theorem dX9_calls_43 : decode cX9_calls 43 = .ok (.aload_n 0, 1) := by decide +kernel
theorem dX9_calls_44 : decode cX9_calls 44 = .ok (.iconst 1, 1) := by decide +kernel
theorem dX9_calls_45 : decode cX9_calls 45 = .ok (.iload_n 1, 1) := by decide +kernel
theorem dX9_calls_46 : decode cX9_calls 46 = .ok (.iadd, 1) := by decide +kernel
theorem dX9_calls_47 : decode cX9_calls 47 = .ok (.iload_n 2, 1) := by decide +kernel
theorem dX9_calls_48 : decode cX9_calls 48 = .ok (.invokevirtual 67, 3) := by decide +kernel
theorem dX9_calls_51 : decode cX9_calls 51 = .ok (.iconst (-1), 1) := by decide +kernel
theorem dX9_calls_52 : decode cX9_calls 52 = .ok (.if_icmp .ne 7, 3) := by decide +kernel
theorem dX9_calls_55 : decode cX9_calls 55 = .ok (.iconst 0, 1) := by decide +kernel
theorem dX9_calls_56 : decode cX9_calls 56 = .ok (.goto 4, 3) := by decide +kernel
theorem dX9_calls_59 : decode cX9_calls 59 = .ok (.iconst 1, 1) := by decide +kernel
theorem dX9_calls_60 : decode cX9_calls 60 = .ok (.ireturn, 1) := by decide +kernel
set_option maxRecDepth 20000 in
theorem ggX9_call_X9_within : GoodIn wsX9_call wsX9_within := goodIn_r _ [4] (by decide +kernel) (by decide +kernel)
set_option maxRecDepth 20000 in
theorem gX9_call_X9_within : GoodIn wsX9_call (va_wsS RX9 56 yX9_within wsX9_within) := goodIn_app (goodIn_of _ (by decide +kernel)) ggX9_call_X9_within
set_option maxRecDepth 20000 in
theorem ggX9_call_X9_becomes : GoodIn wsX9_call wsX9_becomes := goodIn_r _ [8, 9, 10, 11, 12, 13, 14, 15, 16, 17, 18, 19, 20, 21, 22, 23, 24, 25, 26, 27, 28, 29] (by decide +kernel) (by decide +kernel)
set_option maxRecDepth 20000 in
theorem gX9_call_X9_becomes : GoodIn wsX9_call (wsV RX9 67 RX9 yX9_becomes wsX9_becomes) := goodIn_app (goodIn_of _ (by decide +kernel)) ggX9_call_X9_becomes
theorem dX9_call_0 : decode cX9_call 0 = .ok (.iload_n 1, 1) := by decide +kernel
theorem dX9_call_1 : decode cX9_call 1 = .ok (.iconst 0, 1) := by decide +kernel
theorem dX9_call_2 : decode cX9_call 2 = .ok (.bipush 11, 2) := by decide +kernel
theorem dX9_call_4 : decode cX9_call 4 = .ok (.invokestatic 56, 3) := by decide +kernel
theorem dX9_call_7 : decode cX9_call 7 = .ok (.ifCond .ne 5, 3) := by decide +kernel
theorem dX9_call_10 : decode cX9_call 10 = .ok (.iconst (-1), 1) := by decide +kernel
theorem dX9_call_11 : decode cX9_call 11 = .ok (.ireturn, 1) := by decide +kernel
theorem dX9_call_12 : decode cX9_call 12 = .ok (.iload_n 2, 1) := by decide +kernel
theorem dX9_call_13 : decode cX9_call 13 = .ok (.iconst 0, 1) := by decide +kernel
theorem dX9_call_14 : decode cX9_call 14 = .ok (.iconst 2, 1) := by decide +kernel
theorem dX9_call_15 : decode cX9_call 15 = .ok (.invokestatic 56, 3) := by decide +kernel
theorem dX9_call_18 : decode cX9_call 18 = .ok (.ifCond .eq 15, 3) := by decide +kernel
theorem dX9_call_21 : decode cX9_call 21 = .ok (.aload_n 0, 1) := by decide +kernel
theorem dX9_call_22 : decode cX9_call 22 = .ok (.bipush 24, 2) := by decide +kernel
theorem dX9_call_24 : decode cX9_call 24 = .ok (.iload_n 1, 1) := by decide +kernel
theorem dX9_call_25 : decode cX9_call 25 = .ok (.iadd, 1) := by decide +kernel
theorem dX9_call_26 : decode cX9_call 26 = .ok (.iload_n 2, 1) := by decide +kernel
theorem dX9_call_27 : decode cX9_call 27 = .ok (.invokevirtual 67, 3) := by decide +kernel
theorem dX9_call_30 : decode cX9_call 30 = .ok (.goto 5, 3) := by decide +kernel
theorem dX9_call_33 : decode cX9_call 33 = .ok (.bipush (-2), 2) := by decide +kernel
theorem dX9_call_35 : decode cX9_call 35 = .ok (.ireturn, 1) := by decide +kernel
set_option maxRecDepth 20000 in
theorem ggX9_leads_X9_within : GoodIn wsX9_leads wsX9_within := goodIn_r _ [4] (by decide +kernel) (by decide +kernel)
set_option maxRecDepth 20000 in
theorem gX9_leads_X9_within : GoodIn wsX9_leads (va_wsS RX9 56 yX9_within wsX9_within) := goodIn_app (goodIn_of _ (by decide +kernel)) ggX9_leads_X9_within
set_option maxRecDepth 20000 in
theorem ggX9_leads_X9_becomes : GoodIn wsX9_leads wsX9_becomes := goodIn_r _ [8, 9, 10, 11, 12, 13, 14, 15, 16, 17, 18, 19, 20, 21, 22, 23, 24, 25, 26, 27, 28, 29] (by decide +kernel) (by decide +kernel)
set_option maxRecDepth 20000 in
theorem gX9_leads_X9_becomes : GoodIn wsX9_leads (wsV RX9 67 RX9 yX9_becomes wsX9_becomes) := goodIn_app (goodIn_of _ (by decide +kernel)) ggX9_leads_X9_becomes
theorem dX9_leads_0 : decode cX9_leads 0 = .ok (.iload_n 1, 1) := by decide +kernel
theorem dX9_leads_1 : decode cX9_leads 1 = .ok (.iconst 1, 1) := by decide +kernel
theorem dX9_leads_2 : decode cX9_leads 2 = .ok (.bipush 12, 2) := by decide +kernel
theorem dX9_leads_4 : decode cX9_leads 4 = .ok (.invokestatic 56, 3) := by decide +kernel
theorem dX9_leads_7 : decode cX9_leads 7 = .ok (.ifCond .eq 12, 3) := by decide +kernel
theorem dX9_leads_10 : decode cX9_leads 10 = .ok (.aload_n 0, 1) := by decide +kernel
theorem dX9_leads_11 : decode cX9_leads 11 = .ok (.iconst 4, 1) := by decide +kernel
theorem dX9_leads_12 : decode cX9_leads 12 = .ok (.iload_n 1, 1) := by decide +kernel
theorem dX9_leads_13 : decode cX9_leads 13 = .ok (.invokevirtual 67, 3) := by decide +kernel
theorem dX9_leads_16 : decode cX9_leads 16 = .ok (.goto 5, 3) := by decide +kernel
theorem dX9_leads_19 : decode cX9_leads 19 = .ok (.bipush (-2), 2) := by decide +kernel
theorem dX9_leads_21 : decode cX9_leads 21 = .ok (.ireturn, 1) := by decide +kernel
set_option maxRecDepth 20000 in
theorem ggX9_pattern_X9_within : GoodIn wsX9_pattern wsX9_within := goodIn_r _ [4] (by decide +kernel) (by decide +kernel)
set_option maxRecDepth 20000 in
theorem gX9_pattern_X9_within : GoodIn wsX9_pattern (va_wsS RX9 56 yX9_within wsX9_within) := goodIn_app (goodIn_of _ (by decide +kernel)) ggX9_pattern_X9_within
set_option maxRecDepth 20000 in
theorem ggX9_pattern_X9_becomes : GoodIn wsX9_pattern wsX9_becomes := goodIn_r _ [8, 9, 10, 11, 12, 13, 14, 15, 16, 17, 18, 19, 20, 21, 22, 23, 24, 25, 26, 27, 28, 29] (by decide +kernel) (by decide +kernel)
set_option maxRecDepth 20000 in
theorem gX9_pattern_X9_becomes : GoodIn wsX9_pattern (wsV RX9 67 RX9 yX9_becomes wsX9_becomes) := goodIn_app (goodIn_of _ (by decide +kernel)) ggX9_pattern_X9_becomes
theorem dX9_pattern_0 : decode cX9_pattern 0 = .ok (.iload_n 1, 1) := by decide +kernel
theorem dX9_pattern_1 : decode cX9_pattern 1 = .ok (.iconst 1, 1) := by decide +kernel
theorem dX9_pattern_2 : decode cX9_pattern 2 = .ok (.bipush 8, 2) := by decide +kernel
theorem dX9_pattern_4 : decode cX9_pattern 4 = .ok (.invokestatic 56, 3) := by decide +kernel
theorem dX9_pattern_7 : decode cX9_pattern 7 = .ok (.ifCond .ne 5, 3) := by decide +kernel
theorem dX9_pattern_10 : decode cX9_pattern 10 = .ok (.iconst (-1), 1) := by decide +kernel
theorem dX9_pattern_11 : decode cX9_pattern 11 = .ok (.ireturn, 1) := by decide +kernel
theorem dX9_pattern_12 : decode cX9_pattern 12 = .ok (.iload_n 2, 1) := by decide +kernel
theorem dX9_pattern_13 : decode cX9_pattern 13 = .ok (.iconst 0, 1) := by decide +kernel
theorem dX9_pattern_14 : decode cX9_pattern 14 = .ok (.bipush 8, 2) := by decide +kernel
theorem dX9_pattern_16 : decode cX9_pattern 16 = .ok (.invokestatic 56, 3) := by decide +kernel
theorem dX9_pattern_19 : decode cX9_pattern 19 = .ok (.ifCond .eq 17, 3) := by decide +kernel
theorem dX9_pattern_22 : decode cX9_pattern 22 = .ok (.aload_n 0, 1) := by decide +kernel
theorem dX9_pattern_23 : decode cX9_pattern 23 = .ok (.bipush 36, 2) := by decide +kernel
theorem dX9_pattern_25 : decode cX9_pattern 25 = .ok (.iload_n 1, 1) := by decide +kernel
theorem dX9_pattern_26 : decode cX9_pattern 26 = .ok (.iadd, 1) := by decide +kernel
theorem dX9_pattern_27 : decode cX9_pattern 27 = .ok (.iconst 1, 1) := by decide +kernel
theorem dX9_pattern_28 : decode cX9_pattern 28 = .ok (.isub, 1) := by decide +kernel
theorem dX9_pattern_29 : decode cX9_pattern 29 = .ok (.iload_n 2, 1) := by decide +kernel
theorem dX9_pattern_30 : decode cX9_pattern 30 = .ok (.invokevirtual 67, 3) := by decide +kernel
theorem dX9_pattern_33 : decode cX9_pattern 33 = .ok (.goto 5, 3) := by decide +kernel
theorem dX9_pattern_36 : decode cX9_pattern 36 = .ok (.bipush (-2), 2) := by decide +kernel
theorem dX9_pattern_38 : decode cX9_pattern 38 = .ok (.ireturn, 1) := by decide +kernel
set_option maxRecDepth 20000 in
theorem ggX9_feed_X9_within : GoodIn wsX9_feed wsX9_within := goodIn_r _ [6] (by decide +kernel) (by decide +kernel)
set_option maxRecDepth 20000 in
theorem gX9_feed_X9_within : GoodIn wsX9_feed (va_wsS RX9 56 yX9_within wsX9_within) := goodIn_app (goodIn_of _ (by decide +kernel)) ggX9_feed_X9_within
theorem dX9_feed_0 : decode cX9_feed 0 = .ok (.iload_n 1, 1) := by decide +kernel
theorem dX9_feed_1 : decode cX9_feed 1 = .ok (.iconst 0, 1) := by decide +kernel
theorem dX9_feed_2 : decode cX9_feed 2 = .ok (.bipush 127, 2) := by decide +kernel
theorem dX9_feed_4 : decode cX9_feed 4 = .ok (.invokestatic 56, 3) := by decide +kernel
theorem dX9_feed_7 : decode cX9_feed 7 = .ok (.ifCond .ne 6, 3) := by decide +kernel
theorem dX9_feed_10 : decode cX9_feed 10 = .ok (.bipush (-2), 2) := by decide +kernel
theorem dX9_feed_12 : decode cX9_feed 12 = .ok (.ireturn, 1) := by decide +kernel
theorem dX9_feed_13 : decode cX9_feed 13 = .ok (.aload_n 0, 1) := by decide +kernel
theorem dX9_feed_14 : decode cX9_feed 14 = .ok (.getfield 71, 3) := by decide +kernel
theorem dX9_feed_17 : decode cX9_feed 17 = .ok (.bipush 100, 2) := by decide +kernel
theorem dX9_feed_19 : decode cX9_feed 19 = .ok (.if_icmp .ne 6, 3) := by decide +kernel
theorem dX9_feed_22 : decode cX9_feed 22 = .ok (.bipush (-4), 2) := by decide +kernel
theorem dX9_feed_24 : decode cX9_feed 24 = .ok (.ireturn, 1) := by decide +kernel
theorem dX9_feed_25 : decode cX9_feed 25 = .ok (.aload_n 0, 1) := by decide +kernel
theorem dX9_feed_26 : decode cX9_feed 26 = .ok (.getfield 24, 3) := by decide +kernel
theorem dX9_feed_29 : decode cX9_feed 29 = .ok (.aload_n 0, 1) := by decide +kernel
theorem dX9_feed_30 : decode cX9_feed 30 = .ok (.dup, 1) := by decide +kernel
theorem dX9_feed_31 : decode cX9_feed 31 = .ok (.getfield 71, 3) := by decide +kernel
theorem dX9_feed_34 : decode cX9_feed 34 = .ok (.dup_x1, 1) := by decide +kernel
theorem dX9_feed_35 : decode cX9_feed 35 = .ok (.iconst 1, 1) := by decide +kernel
theorem dX9_feed_36 : decode cX9_feed 36 = .ok (.iadd, 1) := by decide +kernel
theorem dX9_feed_37 : decode cX9_feed 37 = .ok (.putfield 71, 3) := by decide +kernel
theorem dX9_feed_40 : decode cX9_feed 40 = .ok (.iload_n 1, 1) := by decide +kernel
theorem dX9_feed_41 : decode cX9_feed 41 = .ok (.iastore, 1) := by decide +kernel
theorem dX9_feed_42 : decode cX9_feed 42 = .ok (.aload_n 0, 1) := by decide +kernel
theorem dX9_feed_43 : decode cX9_feed 43 = .ok (.getfield 71, 3) := by decide +kernel
theorem dX9_feed_46 : decode cX9_feed 46 = .ok (.ireturn, 1) := by decide +kernel
theorem dX9_sign_0 : decode cX9_sign 0 = .ok (.aload_n 0, 1) := by decide +kernel
theorem dX9_sign_1 : decode cX9_sign 1 = .ok (.getfield 75, 3) := by decide +kernel
theorem dX9_sign_4 : decode cX9_sign 4 = .ok (.aload_n 0, 1) := by decide +kernel
theorem dX9_sign_5 : decode cX9_sign 5 = .ok (.getfield 71, 3) := by decide +kernel
theorem dX9_sign_8 : decode cX9_sign 8 = .ok (.if_icmp .ge 15, 3) := by decide +kernel
theorem dX9_sign_11 : decode cX9_sign 11 = .ok (.aload_n 0, 1) := by decide +kernel
theorem dX9_sign_12 : decode cX9_sign 12 = .ok (.getfield 24, 3) := by decide +kernel
theorem dX9_sign_15 : decode cX9_sign 15 = .ok (.aload_n 0, 1) := by decide +kernel
theorem dX9_sign_16 : decode cX9_sign 16 = .ok (.getfield 75, 3) := by decide +kernel
theorem dX9_sign_19 : decode cX9_sign 19 = .ok (.iaload, 1) := by decide +kernel
theorem dX9_sign_20 : decode cX9_sign 20 = .ok (.goto 4, 3) := by decide +kernel
theorem dX9_sign_23 : decode cX9_sign 23 = .ok (.iconst (-1), 1) := by decide +kernel
theorem dX9_sign_24 : decode cX9_sign 24 = .ok (.ireturn, 1) := by decide +kernel
theorem dX9_wrong_0 : decode cX9_wrong 0 = .ok (.aload_n 0, 1) := by decide +kernel
theorem dX9_wrong_1 : decode cX9_wrong 1 = .ok (.getfield 78, 3) := by decide +kernel
theorem dX9_wrong_4 : decode cX9_wrong 4 = .ok (.ifCond .ge 11, 3) := by decide +kernel
theorem dX9_wrong_7 : decode cX9_wrong 7 = .ok (.aload_n 0, 1) := by decide +kernel
theorem dX9_wrong_8 : decode cX9_wrong 8 = .ok (.aload_n 0, 1) := by decide +kernel
theorem dX9_wrong_9 : decode cX9_wrong 9 = .ok (.getfield 75, 3) := by decide +kernel
theorem dX9_wrong_12 : decode cX9_wrong 12 = .ok (.putfield 78, 3) := by decide +kernel
theorem dX9_wrong_15 : decode cX9_wrong 15 = .ok (.return_, 1) := by decide +kernel
theorem dX9_adds_0 : decode cX9_adds 0 = .ok (.aload_n 0, 1) := by decide +kernel
theorem dX9_adds_1 : decode cX9_adds 1 = .ok (.getfield 36, 3) := by decide +kernel
theorem dX9_adds_4 : decode cX9_adds 4 = .ok (.aload_n 0, 1) := by decide +kernel
theorem dX9_adds_5 : decode cX9_adds 5 = .ok (.dup, 1) := by decide +kernel
theorem dX9_adds_6 : decode cX9_adds 6 = .ok (.getfield 81, 3) := by decide +kernel
theorem dX9_adds_9 : decode cX9_adds 9 = .ok (.dup_x1, 1) := by decide +kernel
theorem dX9_adds_10 : decode cX9_adds 10 = .ok (.iconst 1, 1) := by decide +kernel
theorem dX9_adds_11 : decode cX9_adds 11 = .ok (.iadd, 1) := by decide +kernel
theorem dX9_adds_12 : decode cX9_adds 12 = .ok (.putfield 81, 3) := by decide +kernel
theorem dX9_adds_15 : decode cX9_adds 15 = .ok (.iload_n 1, 1) := by decide +kernel
theorem dX9_adds_16 : decode cX9_adds 16 = .ok (.iastore, 1) := by decide +kernel
theorem dX9_adds_17 : decode cX9_adds 17 = .ok (.aload_n 0, 1) := by decide +kernel
theorem dX9_adds_18 : decode cX9_adds 18 = .ok (.getfield 33, 3) := by decide +kernel
theorem dX9_adds_21 : decode cX9_adds 21 = .ok (.aload_n 0, 1) := by decide +kernel
theorem dX9_adds_22 : decode cX9_adds 22 = .ok (.getfield 84, 3) := by decide +kernel
theorem dX9_adds_25 : decode cX9_adds 25 = .ok (.dup2, 1) := by decide +kernel
theorem dX9_adds_26 : decode cX9_adds 26 = .ok (.iaload, 1) := by decide +kernel
theorem dX9_adds_27 : decode cX9_adds 27 = .ok (.iconst 1, 1) := by decide +kernel
theorem dX9_adds_28 : decode cX9_adds 28 = .ok (.iadd, 1) := by decide +kernel
theorem dX9_adds_29 : decode cX9_adds 29 = .ok (.iastore, 1) := by decide +kernel
theorem dX9_adds_30 : decode cX9_adds 30 = .ok (.return_, 1) := by decide +kernel
set_option maxRecDepth 20000 in
theorem ggX9_digits_X9_sign : GoodIn wsX9_digits wsX9_sign := goodIn_r _ [6, 1, 7, 8, 25, 26, 27, 28, 29, 30, 31, 32, 33, 34, 35, 36, 37, 38, 39, 40, 41, 42, 43, 44] (by decide +kernel) (by decide +kernel)
set_option maxRecDepth 20000 in
theorem gX9_digits_X9_sign : GoodIn wsX9_digits (wsV RX9 87 RX9 yX9_sign wsX9_sign) := goodIn_app (goodIn_of _ (by decide +kernel)) ggX9_digits_X9_sign
set_option maxRecDepth 20000 in
theorem ggX9_digits_X9_within : GoodIn wsX9_digits wsX9_within := goodIn_r _ [11] (by decide +kernel) (by decide +kernel)
set_option maxRecDepth 20000 in
theorem gX9_digits_X9_within : GoodIn wsX9_digits (va_wsS RX9 56 yX9_within wsX9_within) := goodIn_app (goodIn_of _ (by decide +kernel)) ggX9_digits_X9_within
set_option maxRecDepth 20000 in
theorem ggX9_digits_X9_wrong : GoodIn wsX9_digits wsX9_wrong := goodIn_r _ [15, 16, 1, 25, 26, 27, 28, 29, 30, 31, 32, 33, 34, 35, 36, 37, 38, 39, 40, 41, 42, 43, 44] (by decide +kernel) (by decide +kernel)
set_option maxRecDepth 20000 in
theorem gX9_digits_X9_wrong : GoodIn wsX9_digits (wsV RX9 91 RX9 yX9_wrong wsX9_wrong) := goodIn_app (goodIn_of _ (by decide +kernel)) ggX9_digits_X9_wrong
set_option maxRecDepth 20000 in
theorem ggX9_digits_X9_adds : GoodIn wsX9_digits wsX9_adds := goodIn_r _ [20, 21, 22, 23, 24, 25, 26, 27, 28, 29, 30, 31, 32, 33, 34, 35, 36, 37, 38, 39, 40, 41, 42, 43, 44] (by decide +kernel) (by decide +kernel)
set_option maxRecDepth 20000 in
theorem gX9_digits_X9_adds : GoodIn wsX9_digits (wsV RX9 94 RX9 yX9_adds wsX9_adds) := goodIn_app (goodIn_of _ (by decide +kernel)) ggX9_digits_X9_adds
theorem dX9_digits_0 : decode cX9_digits 0 = .ok (.iconst 0, 1) := by decide +kernel
theorem dX9_digits_1 : decode cX9_digits 1 = .ok (.istore_n 1, 1) := by decide +kernel
theorem dX9_digits_2 : decode cX9_digits 2 = .ok (.iconst 0, 1) := by decide +kernel
theorem dX9_digits_3 : decode cX9_digits 3 = .ok (.istore_n 2, 1) := by decide +kernel
theorem dX9_digits_4 : decode cX9_digits 4 = .ok (.aload_n 0, 1) := by decide +kernel
theorem dX9_digits_5 : decode cX9_digits 5 = .ok (.invokevirtual 87, 3) := by decide +kernel
theorem dX9_digits_8 : decode cX9_digits 8 = .ok (.bipush 49, 2) := by decide +kernel
theorem dX9_digits_10 : decode cX9_digits 10 = .ok (.bipush 56, 2) := by decide +kernel
theorem dX9_digits_12 : decode cX9_digits 12 = .ok (.invokestatic 56, 3) := by decide +kernel
theorem dX9_digits_15 : decode cX9_digits 15 = .ok (.ifCond .eq 37, 3) := by decide +kernel
theorem dX9_digits_18 : decode cX9_digits 18 = .ok (.iload_n 2, 1) := by decide +kernel
theorem dX9_digits_19 : decode cX9_digits 19 = .ok (.bipush 8, 2) := by decide +kernel
theorem dX9_digits_21 : decode cX9_digits 21 = .ok (.if_icmp .ge 31, 3) := by decide +kernel
theorem dX9_digits_24 : decode cX9_digits 24 = .ok (.iload_n 1, 1) := by decide +kernel
theorem dX9_digits_25 : decode cX9_digits 25 = .ok (.iconst 1, 1) := by decide +kernel
theorem dX9_digits_26 : decode cX9_digits 26 = .ok (.aload_n 0, 1) := by decide +kernel
theorem dX9_digits_27 : decode cX9_digits 27 = .ok (.invokevirtual 87, 3) := by decide +kernel
theorem dX9_digits_30 : decode cX9_digits 30 = .ok (.bipush 49, 2) := by decide +kernel
theorem dX9_digits_32 : decode cX9_digits 32 = .ok (.isub, 1) := by decide +kernel
theorem dX9_digits_33 : decode cX9_digits 33 = .ok (.ishl, 1) := by decide +kernel
theorem dX9_digits_34 : decode cX9_digits 34 = .ok (.ior, 1) := by decide +kernel
theorem dX9_digits_35 : decode cX9_digits 35 = .ok (.istore_n 1, 1) := by decide +kernel
theorem dX9_digits_36 : decode cX9_digits 36 = .ok (.aload_n 0, 1) := by decide +kernel
theorem dX9_digits_37 : decode cX9_digits 37 = .ok (.dup, 1) := by decide +kernel
theorem dX9_digits_38 : decode cX9_digits 38 = .ok (.getfield 75, 3) := by decide +kernel
theorem dX9_digits_41 : decode cX9_digits 41 = .ok (.iconst 1, 1) := by decide +kernel
theorem dX9_digits_42 : decode cX9_digits 42 = .ok (.iadd, 1) := by decide +kernel
theorem dX9_digits_43 : decode cX9_digits 43 = .ok (.putfield 75, 3) := by decide +kernel
theorem dX9_digits_46 : decode cX9_digits 46 = .ok (.iinc 2 1, 3) := by decide +kernel
theorem dX9_digits_49 : decode cX9_digits 49 = .ok (.goto (-45), 3) := by decide +kernel
theorem dX9_digits_52 : decode cX9_digits 52 = .ok (.iload_n 2, 1) := by decide +kernel
theorem dX9_digits_53 : decode cX9_digits 53 = .ok (.ifCond .ne 10, 3) := by decide +kernel
theorem dX9_digits_56 : decode cX9_digits 56 = .ok (.aload_n 0, 1) := by decide +kernel
theorem dX9_digits_57 : decode cX9_digits 57 = .ok (.invokevirtual 91, 3) := by decide +kernel
theorem dX9_digits_60 : decode cX9_digits 60 = .ok (.goto 8, 3) := by decide +kernel
theorem dX9_digits_63 : decode cX9_digits 63 = .ok (.aload_n 0, 1) := by decide +kernel
theorem dX9_digits_64 : decode cX9_digits 64 = .ok (.iload_n 1, 1) := by decide +kernel
theorem dX9_digits_65 : decode cX9_digits 65 = .ok (.invokevirtual 94, 3) := by decide +kernel
theorem dX9_digits_68 : decode cX9_digits 68 = .ok (.return_, 1) := by decide +kernel
set_option maxRecDepth 20000 in
theorem ggX9_word_X9_sign : GoodIn wsX9_word wsX9_sign := goodIn_r _ [6, 1, 7, 8, 29, 30, 31, 32, 33, 34, 35, 36, 37, 38, 39, 40, 41, 42, 43, 44, 45, 46, 47, 48] (by decide +kernel) (by decide +kernel)
set_option maxRecDepth 20000 in
theorem gX9_word_X9_sign : GoodIn wsX9_word (wsV RX9 87 RX9 yX9_sign wsX9_sign) := goodIn_app (goodIn_of _ (by decide +kernel)) ggX9_word_X9_sign
set_option maxRecDepth 20000 in
theorem ggX9_word_X9_adds : GoodIn wsX9_word wsX9_adds := goodIn_r _ [12, 13, 14, 15, 16, 29, 30, 31, 32, 33, 34, 35, 36, 37, 38, 39, 40, 41, 42, 43, 44, 45, 46, 47, 48] (by decide +kernel) (by decide +kernel)
set_option maxRecDepth 20000 in
theorem gX9_word_X9_adds : GoodIn wsX9_word (wsV RX9 94 RX9 yX9_adds wsX9_adds) := goodIn_app (goodIn_of _ (by decide +kernel)) ggX9_word_X9_adds
set_option maxRecDepth 20000 in
theorem ggX9_word_X9_digits : GoodIn wsX9_word wsX9_digits := goodIn_r _ [20, 1, 2, 3, 4, 5, 6, 7, 8, 21, 22, 23, 24, 25, 26, 27, 28, 9, 10, 11, 12, 13, 14, 15, 16, 29, 30, 31, 32, 33, 34, 35, 36, 37, 38, 39, 40, 41, 42, 43, 44, 45, 46, 47, 48] (by decide +kernel) (by decide +kernel)
set_option maxRecDepth 20000 in
theorem gX9_word_X9_digits : GoodIn wsX9_word (wsV RX9 97 RX9 yX9_digits wsX9_digits) := goodIn_app (goodIn_of _ (by decide +kernel)) ggX9_word_X9_digits
theorem dX9_word_0 : decode cX9_word 0 = .ok (.aload_n 0, 1) := by decide +kernel
theorem dX9_word_1 : decode cX9_word 1 = .ok (.invokevirtual 87, 3) := by decide +kernel
theorem dX9_word_4 : decode cX9_word 4 = .ok (.bipush 120, 2) := by decide +kernel
theorem dX9_word_6 : decode cX9_word 6 = .ok (.if_icmp .ne 20, 3) := by decide +kernel
theorem dX9_word_9 : decode cX9_word 9 = .ok (.aload_n 0, 1) := by decide +kernel
theorem dX9_word_10 : decode cX9_word 10 = .ok (.dup, 1) := by decide +kernel
theorem dX9_word_11 : decode cX9_word 11 = .ok (.getfield 75, 3) := by decide +kernel
theorem dX9_word_14 : decode cX9_word 14 = .ok (.iconst 1, 1) := by decide +kernel
theorem dX9_word_15 : decode cX9_word 15 = .ok (.iadd, 1) := by decide +kernel
theorem dX9_word_16 : decode cX9_word 16 = .ok (.putfield 75, 3) := by decide +kernel
theorem dX9_word_19 : decode cX9_word 19 = .ok (.aload_n 0, 1) := by decide +kernel
theorem dX9_word_20 : decode cX9_word 20 = .ok (.iconst 0, 1) := by decide +kernel
theorem dX9_word_21 : decode cX9_word 21 = .ok (.invokevirtual 94, 3) := by decide +kernel
theorem dX9_word_24 : decode cX9_word 24 = .ok (.iconst 1, 1) := by decide +kernel
theorem dX9_word_25 : decode cX9_word 25 = .ok (.ireturn, 1) := by decide +kernel
theorem dX9_word_26 : decode cX9_word 26 = .ok (.aload_n 0, 1) := by decide +kernel
theorem dX9_word_27 : decode cX9_word 27 = .ok (.invokevirtual 97, 3) := by decide +kernel
theorem dX9_word_30 : decode cX9_word 30 = .ok (.iconst 0, 1) := by decide +kernel
theorem dX9_word_31 : decode cX9_word 31 = .ok (.ireturn, 1) := by decide +kernel
set_option maxRecDepth 20000 in
theorem ggX9_words_X9_word : GoodIn wsX9_words wsX9_word := goodIn_r _ [9, 4, 10, 11, 12, 8, 13, 14, 15, 16, 17, 18, 19, 20, 21, 2, 3, 22, 23, 24, 25, 26, 27, 28, 29, 30, 31, 32, 1, 33, 34, 35, 36, 37, 38, 39, 40, 41, 42, 43, 44, 45, 46, 47, 48, 49, 50, 51, 52] (by decide +kernel) (by decide +kernel)
set_option maxRecDepth 20000 in
theorem gX9_words_X9_word : GoodIn wsX9_words (wsV RX9 100 RX9 yX9_word wsX9_word) := goodIn_app (goodIn_of _ (by decide +kernel)) ggX9_words_X9_word
set_option maxRecDepth 20000 in
theorem ggX9_words_X9_sign : GoodIn wsX9_words wsX9_sign := goodIn_r _ [13, 4, 14, 15, 33, 34, 35, 36, 37, 38, 39, 40, 41, 42, 43, 44, 45, 46, 47, 48, 49, 50, 51, 52] (by decide +kernel) (by decide +kernel)
set_option maxRecDepth 20000 in
theorem gX9_words_X9_sign : GoodIn wsX9_words (wsV RX9 87 RX9 yX9_sign wsX9_sign) := goodIn_app (goodIn_of _ (by decide +kernel)) ggX9_words_X9_sign
set_option maxRecDepth 20000 in
theorem ggX9_words_X9_within : GoodIn wsX9_words wsX9_within := goodIn_r _ [28] (by decide +kernel) (by decide +kernel)
set_option maxRecDepth 20000 in
theorem gX9_words_X9_within : GoodIn wsX9_words (va_wsS RX9 56 yX9_within wsX9_within) := goodIn_app (goodIn_of _ (by decide +kernel)) ggX9_words_X9_within
set_option maxRecDepth 20000 in
theorem ggX9_words_X9_digits : GoodIn wsX9_words wsX9_digits := goodIn_r _ [25, 4, 10, 11, 12, 8, 13, 14, 15, 26, 27, 28, 29, 30, 31, 32, 1, 16, 17, 18, 19, 20, 21, 2, 3, 33, 34, 35, 36, 37, 38, 39, 40, 41, 42, 43, 44, 45, 46, 47, 48, 49, 50, 51, 52] (by decide +kernel) (by decide +kernel)
set_option maxRecDepth 20000 in
theorem gX9_words_X9_digits : GoodIn wsX9_words (wsV RX9 97 RX9 yX9_digits wsX9_digits) := goodIn_app (goodIn_of _ (by decide +kernel)) ggX9_words_X9_digits
theorem dX9_words_0 : decode cX9_words 0 = .ok (.aload_n 0, 1) := by decide +kernel
theorem dX9_words_1 : decode cX9_words 1 = .ok (.invokevirtual 100, 3) := by decide +kernel
theorem dX9_words_4 : decode cX9_words 4 = .ok (.istore_n 1, 1) := by decide +kernel
theorem dX9_words_5 : decode cX9_words 5 = .ok (.aload_n 0, 1) := by decide +kernel
theorem dX9_words_6 : decode cX9_words 6 = .ok (.getfield 78, 3) := by decide +kernel
theorem dX9_words_9 : decode cX9_words 9 = .ok (.ifCond .ge 7, 3) := by decide +kernel
theorem dX9_words_12 : decode cX9_words 12 = .ok (.iconst 1, 1) := by decide +kernel
theorem dX9_words_13 : decode cX9_words 13 = .ok (.goto 4, 3) := by decide +kernel
theorem dX9_words_16 : decode cX9_words 16 = .ok (.iconst 0, 1) := by decide +kernel
theorem dX9_words_17 : decode cX9_words 17 = .ok (.istore_n 2, 1) := by decide +kernel
theorem dX9_words_18 : decode cX9_words 18 = .ok (.iload_n 2, 1) := by decide +kernel
theorem dX9_words_19 : decode cX9_words 19 = .ok (.ifCond .eq 124, 3) := by decide +kernel
theorem dX9_words_22 : decode cX9_words 22 = .ok (.aload_n 0, 1) := by decide +kernel
theorem dX9_words_23 : decode cX9_words 23 = .ok (.getfield 33, 3) := by decide +kernel
theorem dX9_words_26 : decode cX9_words 26 = .ok (.aload_n 0, 1) := by decide +kernel
theorem dX9_words_27 : decode cX9_words 27 = .ok (.getfield 84, 3) := by decide +kernel
theorem dX9_words_30 : decode cX9_words 30 = .ok (.iaload, 1) := by decide +kernel
theorem dX9_words_31 : decode cX9_words 31 = .ok (.bipush 16, 2) := by decide +kernel
theorem dX9_words_33 : decode cX9_words 33 = .ok (.if_icmp .ge 110, 3) := by decide +kernel
theorem dX9_words_36 : decode cX9_words 36 = .ok (.iload_n 1, 1) := by decide +kernel
theorem dX9_words_37 : decode cX9_words 37 = .ok (.ifCond .ne 16, 3) := by decide +kernel
theorem dX9_words_40 : decode cX9_words 40 = .ok (.aload_n 0, 1) := by decide +kernel
theorem dX9_words_41 : decode cX9_words 41 = .ok (.invokevirtual 87, 3) := by decide +kernel
theorem dX9_words_44 : decode cX9_words 44 = .ok (.bipush 46, 2) := by decide +kernel
theorem dX9_words_46 : decode cX9_words 46 = .ok (.if_icmp .ne 7, 3) := by decide +kernel
theorem dX9_words_49 : decode cX9_words 49 = .ok (.iconst 1, 1) := by decide +kernel
theorem dX9_words_50 : decode cX9_words 50 = .ok (.goto 4, 3) := by decide +kernel
theorem dX9_words_53 : decode cX9_words 53 = .ok (.iconst 0, 1) := by decide +kernel
theorem dX9_words_54 : decode cX9_words 54 = .ok (.istore_n 3, 1) := by decide +kernel
theorem dX9_words_55 : decode cX9_words 55 = .ok (.iload_n 3, 1) := by decide +kernel
theorem dX9_words_56 : decode cX9_words 56 = .ok (.ifCond .ne 30, 3) := by decide +kernel
theorem dX9_words_59 : decode cX9_words 59 = .ok (.aload_n 0, 1) := by decide +kernel
theorem dX9_words_60 : decode cX9_words 60 = .ok (.invokevirtual 87, 3) := by decide +kernel
theorem dX9_words_63 : decode cX9_words 63 = .ok (.bipush 120, 2) := by decide +kernel
theorem dX9_words_65 : decode cX9_words 65 = .ok (.if_icmp .eq 21, 3) := by decide +kernel
theorem dX9_words_68 : decode cX9_words 68 = .ok (.iload_n 1, 1) := by decide +kernel
theorem dX9_words_69 : decode cX9_words 69 = .ok (.ifCond .eq 21, 3) := by decide +kernel
theorem dX9_words_72 : decode cX9_words 72 = .ok (.aload_n 0, 1) := by decide +kernel
theorem dX9_words_73 : decode cX9_words 73 = .ok (.invokevirtual 87, 3) := by decide +kernel
theorem dX9_words_76 : decode cX9_words 76 = .ok (.bipush 49, 2) := by decide +kernel
theorem dX9_words_78 : decode cX9_words 78 = .ok (.bipush 56, 2) := by decide +kernel
theorem dX9_words_80 : decode cX9_words 80 = .ok (.invokestatic 56, 3) := by decide +kernel
theorem dX9_words_83 : decode cX9_words 83 = .ok (.ifCond .eq 7, 3) := by decide +kernel
theorem dX9_words_86 : decode cX9_words 86 = .ok (.iconst 1, 1) := by decide +kernel
theorem dX9_words_87 : decode cX9_words 87 = .ok (.goto 4, 3) := by decide +kernel
theorem dX9_words_90 : decode cX9_words 90 = .ok (.iconst 0, 1) := by decide +kernel
theorem dX9_words_91 : decode cX9_words 91 = .ok (.istore_n 2, 1) := by decide +kernel
theorem dX9_words_92 : decode cX9_words 92 = .ok (.iload_n 2, 1) := by decide +kernel
theorem dX9_words_93 : decode cX9_words 93 = .ok (.ifCond .ne 6, 3) := by decide +kernel
theorem dX9_words_96 : decode cX9_words 96 = .ok (.goto 47, 3) := by decide +kernel
theorem dX9_words_99 : decode cX9_words 99 = .ok (.iload_n 3, 1) := by decide +kernel
theorem dX9_words_100 : decode cX9_words 100 = .ok (.ifCond .eq 22, 3) := by decide +kernel
theorem dX9_words_103 : decode cX9_words 103 = .ok (.aload_n 0, 1) := by decide +kernel
theorem dX9_words_104 : decode cX9_words 104 = .ok (.dup, 1) := by decide +kernel
theorem dX9_words_105 : decode cX9_words 105 = .ok (.getfield 75, 3) := by decide +kernel
theorem dX9_words_108 : decode cX9_words 108 = .ok (.iconst 1, 1) := by decide +kernel
theorem dX9_words_109 : decode cX9_words 109 = .ok (.iadd, 1) := by decide +kernel
theorem dX9_words_110 : decode cX9_words 110 = .ok (.putfield 75, 3) := by decide +kernel
theorem dX9_words_113 : decode cX9_words 113 = .ok (.aload_n 0, 1) := by decide +kernel
theorem dX9_words_114 : decode cX9_words 114 = .ok (.invokevirtual 97, 3) := by decide +kernel
theorem dX9_words_117 : decode cX9_words 117 = .ok (.iconst 0, 1) := by decide +kernel
theorem dX9_words_118 : decode cX9_words 118 = .ok (.istore_n 1, 1) := by decide +kernel
theorem dX9_words_119 : decode cX9_words 119 = .ok (.goto 8, 3) := by decide +kernel
theorem dX9_words_122 : decode cX9_words 122 = .ok (.aload_n 0, 1) := by decide +kernel
theorem dX9_words_123 : decode cX9_words 123 = .ok (.invokevirtual 100, 3) := by decide +kernel
theorem dX9_words_126 : decode cX9_words 126 = .ok (.istore_n 1, 1) := by decide +kernel
theorem dX9_words_127 : decode cX9_words 127 = .ok (.aload_n 0, 1) := by decide +kernel
theorem dX9_words_128 : decode cX9_words 128 = .ok (.getfield 78, 3) := by decide +kernel
theorem dX9_words_131 : decode cX9_words 131 = .ok (.ifCond .ge 7, 3) := by decide +kernel
theorem dX9_words_134 : decode cX9_words 134 = .ok (.iconst 1, 1) := by decide +kernel
theorem dX9_words_135 : decode cX9_words 135 = .ok (.goto 4, 3) := by decide +kernel
theorem dX9_words_138 : decode cX9_words 138 = .ok (.iconst 0, 1) := by decide +kernel
theorem dX9_words_139 : decode cX9_words 139 = .ok (.istore_n 2, 1) := by decide +kernel
theorem dX9_words_140 : decode cX9_words 140 = .ok (.goto (-122), 3) := by decide +kernel
theorem dX9_words_143 : decode cX9_words 143 = .ok (.return_, 1) := by decide +kernel
theorem dX9_callOf_0 : decode cX9_callOf 0 = .ok (.iload_n 0, 1) := by decide +kernel
theorem dX9_callOf_1 : decode cX9_callOf 1 = .ok (.bipush 112, 2) := by decide +kernel
theorem dX9_callOf_3 : decode cX9_callOf 3 = .ok (.if_icmp .ne 7, 3) := by decide +kernel
theorem dX9_callOf_6 : decode cX9_callOf 6 = .ok (.iconst 0, 1) := by decide +kernel
theorem dX9_callOf_7 : decode cX9_callOf 7 = .ok (.goto 24, 3) := by decide +kernel
theorem dX9_callOf_10 : decode cX9_callOf 10 = .ok (.iload_n 0, 1) := by decide +kernel
theorem dX9_callOf_11 : decode cX9_callOf 11 = .ok (.bipush 98, 2) := by decide +kernel
theorem dX9_callOf_13 : decode cX9_callOf 13 = .ok (.if_icmp .ne 7, 3) := by decide +kernel
theorem dX9_callOf_16 : decode cX9_callOf 16 = .ok (.iconst 1, 1) := by decide +kernel
theorem dX9_callOf_17 : decode cX9_callOf 17 = .ok (.goto 14, 3) := by decide +kernel
theorem dX9_callOf_20 : decode cX9_callOf 20 = .ok (.iload_n 0, 1) := by decide +kernel
theorem dX9_callOf_21 : decode cX9_callOf 21 = .ok (.bipush 115, 2) := by decide +kernel
theorem dX9_callOf_23 : decode cX9_callOf 23 = .ok (.if_icmp .ne 7, 3) := by decide +kernel
theorem dX9_callOf_26 : decode cX9_callOf 26 = .ok (.iconst 2, 1) := by decide +kernel
theorem dX9_callOf_27 : decode cX9_callOf 27 = .ok (.goto 4, 3) := by decide +kernel
theorem dX9_callOf_30 : decode cX9_callOf 30 = .ok (.iconst (-1), 1) := by decide +kernel
theorem dX9_callOf_31 : decode cX9_callOf 31 = .ok (.ireturn, 1) := by decide +kernel
set_option maxRecDepth 20000 in
theorem ggX9_reads_X9_sign : GoodIn wsX9_reads wsX9_sign := goodIn_r _ [11, 6, 12, 13, 42, 43, 44, 45, 46, 47, 48, 49, 50, 51, 52, 53, 54, 55, 56, 57, 58, 59, 60, 61] (by decide +kernel) (by decide +kernel)
set_option maxRecDepth 20000 in
theorem gX9_reads_X9_sign : GoodIn wsX9_reads (wsV RX9 87 RX9 yX9_sign wsX9_sign) := goodIn_app (goodIn_of _ (by decide +kernel)) ggX9_reads_X9_sign
set_option maxRecDepth 20000 in
theorem ggX9_reads_X9_within : GoodIn wsX9_reads wsX9_within := goodIn_r _ [16] (by decide +kernel) (by decide +kernel)
set_option maxRecDepth 20000 in
theorem gX9_reads_X9_within : GoodIn wsX9_reads (va_wsS RX9 56 yX9_within wsX9_within) := goodIn_app (goodIn_of _ (by decide +kernel)) ggX9_reads_X9_within
set_option maxRecDepth 20000 in
theorem ggX9_reads_X9_wrong : GoodIn wsX9_reads wsX9_wrong := goodIn_r _ [20, 21, 6, 42, 43, 44, 45, 46, 47, 48, 49, 50, 51, 52, 53, 54, 55, 56, 57, 58, 59, 60, 61] (by decide +kernel) (by decide +kernel)
set_option maxRecDepth 20000 in
theorem gX9_reads_X9_wrong : GoodIn wsX9_reads (wsV RX9 91 RX9 yX9_wrong wsX9_wrong) := goodIn_app (goodIn_of _ (by decide +kernel)) ggX9_reads_X9_wrong
set_option maxRecDepth 20000 in
theorem ggX9_reads_X9_adds : GoodIn wsX9_reads wsX9_adds := goodIn_r _ [25, 26, 4, 5, 2, 42, 43, 44, 45, 46, 47, 48, 49, 50, 51, 52, 53, 54, 55, 56, 57, 58, 59, 60, 61] (by decide +kernel) (by decide +kernel)
set_option maxRecDepth 20000 in
theorem gX9_reads_X9_adds : GoodIn wsX9_reads (wsV RX9 94 RX9 yX9_adds wsX9_adds) := goodIn_app (goodIn_of _ (by decide +kernel)) ggX9_reads_X9_adds
set_option maxRecDepth 20000 in
theorem ggX9_reads_X9_words : GoodIn wsX9_reads wsX9_words := goodIn_r _ [30, 21, 5, 2, 6, 31, 32, 33, 10, 34, 7, 8, 9, 11, 12, 13, 22, 23, 24, 25, 26, 4, 35, 36, 37, 38, 14, 15, 16, 17, 18, 19, 20, 42, 43, 44, 45, 46, 47, 48, 49, 50, 51, 52, 53, 54, 55, 56, 57, 58, 59, 60, 61] (by decide +kernel) (by decide +kernel)
set_option maxRecDepth 20000 in
theorem gX9_reads_X9_words : GoodIn wsX9_reads (wsV RX9 104 RX9 yX9_words wsX9_words) := goodIn_app (goodIn_of _ (by decide +kernel)) ggX9_reads_X9_words
set_option maxRecDepth 20000 in
theorem ggX9_reads_X9_word : GoodIn wsX9_reads wsX9_word := goodIn_r _ [34, 6, 7, 8, 9, 10, 11, 12, 13, 22, 23, 24, 25, 26, 4, 5, 2, 35, 36, 37, 38, 14, 15, 16, 17, 18, 19, 20, 21, 42, 43, 44, 45, 46, 47, 48, 49, 50, 51, 52, 53, 54, 55, 56, 57, 58, 59, 60, 61] (by decide +kernel) (by decide +kernel)
set_option maxRecDepth 20000 in
theorem gX9_reads_X9_word : GoodIn wsX9_reads (wsV RX9 100 RX9 yX9_word wsX9_word) := goodIn_app (goodIn_of _ (by decide +kernel)) ggX9_reads_X9_word
set_option maxRecDepth 20000 in
theorem ggX9_reads_X9_callOf : GoodIn wsX9_reads wsX9_callOf := goodIn_r _ [41] (by decide +kernel) (by decide +kernel)
set_option maxRecDepth 20000 in
theorem gX9_reads_X9_callOf : GoodIn wsX9_reads (va_wsS RX9 107 yX9_callOf wsX9_callOf) := goodIn_app (goodIn_of _ (by decide +kernel)) ggX9_reads_X9_callOf
theorem dX9_reads_0 : decode cX9_reads 0 = .ok (.aload_n 0, 1) := by decide +kernel
theorem dX9_reads_1 : decode cX9_reads 1 = .ok (.getfield 27, 3) := by decide +kernel
theorem dX9_reads_4 : decode cX9_reads 4 = .ok (.aload_n 0, 1) := by decide +kernel
theorem dX9_reads_5 : decode cX9_reads 5 = .ok (.getfield 84, 3) := by decide +kernel
theorem dX9_reads_8 : decode cX9_reads 8 = .ok (.aload_n 0, 1) := by decide +kernel
theorem dX9_reads_9 : decode cX9_reads 9 = .ok (.invokevirtual 87, 3) := by decide +kernel
theorem dX9_reads_12 : decode cX9_reads 12 = .ok (.iastore, 1) := by decide +kernel
theorem dX9_reads_13 : decode cX9_reads 13 = .ok (.aload_n 0, 1) := by decide +kernel
theorem dX9_reads_14 : decode cX9_reads 14 = .ok (.getfield 30, 3) := by decide +kernel
theorem dX9_reads_17 : decode cX9_reads 17 = .ok (.aload_n 0, 1) := by decide +kernel
theorem dX9_reads_18 : decode cX9_reads 18 = .ok (.getfield 84, 3) := by decide +kernel
theorem dX9_reads_21 : decode cX9_reads 21 = .ok (.aload_n 0, 1) := by decide +kernel
theorem dX9_reads_22 : decode cX9_reads 22 = .ok (.getfield 81, 3) := by decide +kernel
theorem dX9_reads_25 : decode cX9_reads 25 = .ok (.iastore, 1) := by decide +kernel
theorem dX9_reads_26 : decode cX9_reads 26 = .ok (.aload_n 0, 1) := by decide +kernel
theorem dX9_reads_27 : decode cX9_reads 27 = .ok (.getfield 33, 3) := by decide +kernel
theorem dX9_reads_30 : decode cX9_reads 30 = .ok (.aload_n 0, 1) := by decide +kernel
theorem dX9_reads_31 : decode cX9_reads 31 = .ok (.getfield 84, 3) := by decide +kernel
theorem dX9_reads_34 : decode cX9_reads 34 = .ok (.iconst 0, 1) := by decide +kernel
theorem dX9_reads_35 : decode cX9_reads 35 = .ok (.iastore, 1) := by decide +kernel
theorem dX9_reads_36 : decode cX9_reads 36 = .ok (.aload_n 0, 1) := by decide +kernel
theorem dX9_reads_37 : decode cX9_reads 37 = .ok (.invokevirtual 87, 3) := by decide +kernel
theorem dX9_reads_40 : decode cX9_reads 40 = .ok (.lookupswitch 220 #[(98, 124), (99, 142), (109, 107), (110, 52), (115, 124)], 52) := by decide +kernel
theorem dX9_reads_92 : decode cX9_reads 92 = .ok (.aload_n 0, 1) := by decide +kernel
theorem dX9_reads_93 : decode cX9_reads 93 = .ok (.dup, 1) := by decide +kernel
theorem dX9_reads_94 : decode cX9_reads 94 = .ok (.getfield 75, 3) := by decide +kernel
theorem dX9_reads_97 : decode cX9_reads 97 = .ok (.iconst 1, 1) := by decide +kernel
theorem dX9_reads_98 : decode cX9_reads 98 = .ok (.iadd, 1) := by decide +kernel
theorem dX9_reads_99 : decode cX9_reads 99 = .ok (.putfield 75, 3) := by decide +kernel
theorem dX9_reads_102 : decode cX9_reads 102 = .ok (.aload_n 0, 1) := by decide +kernel
theorem dX9_reads_103 : decode cX9_reads 103 = .ok (.invokevirtual 87, 3) := by decide +kernel
theorem dX9_reads_106 : decode cX9_reads 106 = .ok (.bipush 48, 2) := by decide +kernel
theorem dX9_reads_108 : decode cX9_reads 108 = .ok (.bipush 57, 2) := by decide +kernel
theorem dX9_reads_110 : decode cX9_reads 110 = .ok (.invokestatic 56, 3) := by decide +kernel
theorem dX9_reads_113 : decode cX9_reads 113 = .ok (.ifCond .ne 10, 3) := by decide +kernel
theorem dX9_reads_116 : decode cX9_reads 116 = .ok (.aload_n 0, 1) := by decide +kernel
theorem dX9_reads_117 : decode cX9_reads 117 = .ok (.invokevirtual 91, 3) := by decide +kernel
theorem dX9_reads_120 : decode cX9_reads 120 = .ok (.goto 14, 3) := by decide +kernel
theorem dX9_reads_123 : decode cX9_reads 123 = .ok (.aload_n 0, 1) := by decide +kernel
theorem dX9_reads_124 : decode cX9_reads 124 = .ok (.aload_n 0, 1) := by decide +kernel
theorem dX9_reads_125 : decode cX9_reads 125 = .ok (.invokevirtual 87, 3) := by decide +kernel
theorem dX9_reads_128 : decode cX9_reads 128 = .ok (.bipush 48, 2) := by decide +kernel
theorem dX9_reads_130 : decode cX9_reads 130 = .ok (.isub, 1) := by decide +kernel
theorem dX9_reads_131 : decode cX9_reads 131 = .ok (.invokevirtual 94, 3) := by decide +kernel
theorem dX9_reads_134 : decode cX9_reads 134 = .ok (.aload_n 0, 1) := by decide +kernel
theorem dX9_reads_135 : decode cX9_reads 135 = .ok (.dup, 1) := by decide +kernel
theorem dX9_reads_136 : decode cX9_reads 136 = .ok (.getfield 75, 3) := by decide +kernel
theorem dX9_reads_139 : decode cX9_reads 139 = .ok (.iconst 1, 1) := by decide +kernel
theorem dX9_reads_140 : decode cX9_reads 140 = .ok (.iadd, 1) := by decide +kernel
theorem dX9_reads_141 : decode cX9_reads 141 = .ok (.putfield 75, 3) := by decide +kernel
theorem dX9_reads_144 : decode cX9_reads 144 = .ok (.goto 120, 3) := by decide +kernel
theorem dX9_reads_147 : decode cX9_reads 147 = .ok (.aload_n 0, 1) := by decide +kernel
theorem dX9_reads_148 : decode cX9_reads 148 = .ok (.dup, 1) := by decide +kernel
theorem dX9_reads_149 : decode cX9_reads 149 = .ok (.getfield 75, 3) := by decide +kernel
theorem dX9_reads_152 : decode cX9_reads 152 = .ok (.iconst 1, 1) := by decide +kernel
theorem dX9_reads_153 : decode cX9_reads 153 = .ok (.iadd, 1) := by decide +kernel
theorem dX9_reads_154 : decode cX9_reads 154 = .ok (.putfield 75, 3) := by decide +kernel
theorem dX9_reads_157 : decode cX9_reads 157 = .ok (.aload_n 0, 1) := by decide +kernel
theorem dX9_reads_158 : decode cX9_reads 158 = .ok (.invokevirtual 104, 3) := by decide +kernel
theorem dX9_reads_161 : decode cX9_reads 161 = .ok (.goto 103, 3) := by decide +kernel
theorem dX9_reads_164 : decode cX9_reads 164 = .ok (.aload_n 0, 1) := by decide +kernel
theorem dX9_reads_165 : decode cX9_reads 165 = .ok (.dup, 1) := by decide +kernel
theorem dX9_reads_166 : decode cX9_reads 166 = .ok (.getfield 75, 3) := by decide +kernel
theorem dX9_reads_169 : decode cX9_reads 169 = .ok (.iconst 1, 1) := by decide +kernel
theorem dX9_reads_170 : decode cX9_reads 170 = .ok (.iadd, 1) := by decide +kernel
theorem dX9_reads_171 : decode cX9_reads 171 = .ok (.putfield 75, 3) := by decide +kernel
theorem dX9_reads_174 : decode cX9_reads 174 = .ok (.aload_n 0, 1) := by decide +kernel
theorem dX9_reads_175 : decode cX9_reads 175 = .ok (.invokevirtual 100, 3) := by decide +kernel
theorem dX9_reads_178 : decode cX9_reads 178 = .ok (.pop, 1) := by decide +kernel
theorem dX9_reads_179 : decode cX9_reads 179 = .ok (.goto 85, 3) := by decide +kernel
theorem dX9_reads_182 : decode cX9_reads 182 = .ok (.aload_n 0, 1) := by decide +kernel
theorem dX9_reads_183 : decode cX9_reads 183 = .ok (.dup, 1) := by decide +kernel
theorem dX9_reads_184 : decode cX9_reads 184 = .ok (.getfield 75, 3) := by decide +kernel
theorem dX9_reads_187 : decode cX9_reads 187 = .ok (.iconst 1, 1) := by decide +kernel
theorem dX9_reads_188 : decode cX9_reads 188 = .ok (.iadd, 1) := by decide +kernel
theorem dX9_reads_189 : decode cX9_reads 189 = .ok (.putfield 75, 3) := by decide +kernel
theorem dX9_reads_192 : decode cX9_reads 192 = .ok (.aload_n 0, 1) := by decide +kernel
theorem dX9_reads_193 : decode cX9_reads 193 = .ok (.invokevirtual 87, 3) := by decide +kernel
theorem dX9_reads_196 : decode cX9_reads 196 = .ok (.invokestatic 107, 3) := by decide +kernel
theorem dX9_reads_199 : decode cX9_reads 199 = .ok (.iconst (-1), 1) := by decide +kernel
theorem dX9_reads_200 : decode cX9_reads 200 = .ok (.if_icmp .eq 41, 3) := by decide +kernel
theorem dX9_reads_203 : decode cX9_reads 203 = .ok (.aload_n 0, 1) := by decide +kernel
theorem dX9_reads_204 : decode cX9_reads 204 = .ok (.getfield 33, 3) := by decide +kernel
theorem dX9_reads_207 : decode cX9_reads 207 = .ok (.aload_n 0, 1) := by decide +kernel
theorem dX9_reads_208 : decode cX9_reads 208 = .ok (.getfield 84, 3) := by decide +kernel
theorem dX9_reads_211 : decode cX9_reads 211 = .ok (.iaload, 1) := by decide +kernel
theorem dX9_reads_212 : decode cX9_reads 212 = .ok (.bipush 12, 2) := by decide +kernel
theorem dX9_reads_214 : decode cX9_reads 214 = .ok (.if_icmp .ge 27, 3) := by decide +kernel
theorem dX9_reads_217 : decode cX9_reads 217 = .ok (.aload_n 0, 1) := by decide +kernel
theorem dX9_reads_218 : decode cX9_reads 218 = .ok (.aload_n 0, 1) := by decide +kernel
theorem dX9_reads_219 : decode cX9_reads 219 = .ok (.invokevirtual 87, 3) := by decide +kernel
theorem dX9_reads_222 : decode cX9_reads 222 = .ok (.invokestatic 107, 3) := by decide +kernel
theorem dX9_reads_225 : decode cX9_reads 225 = .ok (.invokevirtual 94, 3) := by decide +kernel
theorem dX9_reads_228 : decode cX9_reads 228 = .ok (.aload_n 0, 1) := by decide +kernel
theorem dX9_reads_229 : decode cX9_reads 229 = .ok (.dup, 1) := by decide +kernel
theorem dX9_reads_230 : decode cX9_reads 230 = .ok (.getfield 75, 3) := by decide +kernel
theorem dX9_reads_233 : decode cX9_reads 233 = .ok (.iconst 1, 1) := by decide +kernel
theorem dX9_reads_234 : decode cX9_reads 234 = .ok (.iadd, 1) := by decide +kernel
theorem dX9_reads_235 : decode cX9_reads 235 = .ok (.putfield 75, 3) := by decide +kernel
theorem dX9_reads_238 : decode cX9_reads 238 = .ok (.goto (-46), 3) := by decide +kernel
theorem dX9_reads_241 : decode cX9_reads 241 = .ok (.aload_n 0, 1) := by decide +kernel
theorem dX9_reads_242 : decode cX9_reads 242 = .ok (.getfield 33, 3) := by decide +kernel
theorem dX9_reads_245 : decode cX9_reads 245 = .ok (.aload_n 0, 1) := by decide +kernel
theorem dX9_reads_246 : decode cX9_reads 246 = .ok (.getfield 84, 3) := by decide +kernel
theorem dX9_reads_249 : decode cX9_reads 249 = .ok (.iaload, 1) := by decide +kernel
theorem dX9_reads_250 : decode cX9_reads 250 = .ok (.ifCond .ne 14, 3) := by decide +kernel
theorem dX9_reads_253 : decode cX9_reads 253 = .ok (.aload_n 0, 1) := by decide +kernel
theorem dX9_reads_254 : decode cX9_reads 254 = .ok (.invokevirtual 91, 3) := by decide +kernel
theorem dX9_reads_257 : decode cX9_reads 257 = .ok (.goto 7, 3) := by decide +kernel
theorem dX9_reads_260 : decode cX9_reads 260 = .ok (.aload_n 0, 1) := by decide +kernel
theorem dX9_reads_261 : decode cX9_reads 261 = .ok (.invokevirtual 91, 3) := by decide +kernel
theorem dX9_reads_264 : decode cX9_reads 264 = .ok (.aload_n 0, 1) := by decide +kernel
theorem dX9_reads_265 : decode cX9_reads 265 = .ok (.dup, 1) := by decide +kernel
theorem dX9_reads_266 : decode cX9_reads 266 = .ok (.getfield 84, 3) := by decide +kernel
theorem dX9_reads_269 : decode cX9_reads 269 = .ok (.iconst 1, 1) := by decide +kernel
theorem dX9_reads_270 : decode cX9_reads 270 = .ok (.iadd, 1) := by decide +kernel
theorem dX9_reads_271 : decode cX9_reads 271 = .ok (.putfield 84, 3) := by decide +kernel
theorem dX9_reads_274 : decode cX9_reads 274 = .ok (.return_, 1) := by decide +kernel
set_option maxRecDepth 20000 in
theorem ggX9_areGood_X9_areKept : GoodIn wsX9_areGood wsX9_areKept := goodIn_r _ [8, 9, 10, 11, 7, 12, 17, 18, 19, 20, 21, 22, 23, 24, 25, 26, 27, 28, 29, 30, 31, 32, 33, 34, 35, 36] (by decide +kernel) (by decide +kernel)
set_option maxRecDepth 20000 in
theorem gX9_areGood_X9_areKept : GoodIn wsX9_areGood (wsV RX9 60 RX9 yX9_areKept wsX9_areKept) := goodIn_app (goodIn_of _ (by decide +kernel)) ggX9_areGood_X9_areKept
set_option maxRecDepth 20000 in
theorem ggX9_areGood_X9_isGood : GoodIn wsX9_areGood wsX9_isGood := goodIn_r _ [16, 9, 17, 18, 19, 20, 21, 22, 23, 24, 25, 26, 27, 28, 29, 30, 31, 32, 33, 34, 35, 36] (by decide +kernel) (by decide +kernel)
set_option maxRecDepth 20000 in
theorem gX9_areGood_X9_isGood : GoodIn wsX9_areGood (wsV RX9 64 RX9 yX9_isGood wsX9_isGood) := goodIn_app (goodIn_of _ (by decide +kernel)) ggX9_areGood_X9_isGood
theorem dX9_areGood_0 : decode cX9_areGood 0 = .ok (.iconst 0, 1) := by decide +kernel
theorem dX9_areGood_1 : decode cX9_areGood 1 = .ok (.istore_n 2, 1) := by decide +kernel
theorem dX9_areGood_2 : decode cX9_areGood 2 = .ok (.iload_n 2, 1) := by decide +kernel
theorem dX9_areGood_3 : decode cX9_areGood 3 = .ok (.aload_n 0, 1) := by decide +kernel
theorem dX9_areGood_4 : decode cX9_areGood 4 = .ok (.getfield 33, 3) := by decide +kernel
theorem dX9_areGood_7 : decode cX9_areGood 7 = .ok (.iload_n 1, 1) := by decide +kernel
theorem dX9_areGood_8 : decode cX9_areGood 8 = .ok (.iaload, 1) := by decide +kernel
theorem dX9_areGood_9 : decode cX9_areGood 9 = .ok (.if_icmp .ge 41, 3) := by decide +kernel
theorem dX9_areGood_12 : decode cX9_areGood 12 = .ok (.aload_n 0, 1) := by decide +kernel
theorem dX9_areGood_13 : decode cX9_areGood 13 = .ok (.getfield 36, 3) := by decide +kernel
theorem dX9_areGood_16 : decode cX9_areGood 16 = .ok (.aload_n 0, 1) := by decide +kernel
theorem dX9_areGood_17 : decode cX9_areGood 17 = .ok (.getfield 30, 3) := by decide +kernel
theorem dX9_areGood_20 : decode cX9_areGood 20 = .ok (.iload_n 1, 1) := by decide +kernel
theorem dX9_areGood_21 : decode cX9_areGood 21 = .ok (.iaload, 1) := by decide +kernel
theorem dX9_areGood_22 : decode cX9_areGood 22 = .ok (.iload_n 2, 1) := by decide +kernel
theorem dX9_areGood_23 : decode cX9_areGood 23 = .ok (.iadd, 1) := by decide +kernel
theorem dX9_areGood_24 : decode cX9_areGood 24 = .ok (.iaload, 1) := by decide +kernel
theorem dX9_areGood_25 : decode cX9_areGood 25 = .ok (.istore_n 3, 1) := by decide +kernel
theorem dX9_areGood_26 : decode cX9_areGood 26 = .ok (.aload_n 0, 1) := by decide +kernel
theorem dX9_areGood_27 : decode cX9_areGood 27 = .ok (.iload_n 3, 1) := by decide +kernel
theorem dX9_areGood_28 : decode cX9_areGood 28 = .ok (.invokevirtual 60, 3) := by decide +kernel
theorem dX9_areGood_31 : decode cX9_areGood 31 = .ok (.ifCond .eq 11, 3) := by decide +kernel
theorem dX9_areGood_34 : decode cX9_areGood 34 = .ok (.aload_n 0, 1) := by decide +kernel
theorem dX9_areGood_35 : decode cX9_areGood 35 = .ok (.iload_n 3, 1) := by decide +kernel
theorem dX9_areGood_36 : decode cX9_areGood 36 = .ok (.invokevirtual 64, 3) := by decide +kernel
theorem dX9_areGood_39 : decode cX9_areGood 39 = .ok (.ifCond .ne 5, 3) := by decide +kernel
theorem dX9_areGood_42 : decode cX9_areGood 42 = .ok (.iconst 0, 1) := by decide +kernel
theorem dX9_areGood_43 : decode cX9_areGood 43 = .ok (.ireturn, 1) := by decide +kernel
theorem dX9_areGood_44 : decode cX9_areGood 44 = .ok (.iinc 2 1, 3) := by decide +kernel
theorem dX9_areGood_47 : decode cX9_areGood 47 = .ok (.goto (-45), 3) := by decide +kernel
theorem dX9_areGood_50 : decode cX9_areGood 50 = .ok (.iconst 1, 1) := by decide +kernel
theorem dX9_areGood_51 : decode cX9_areGood 51 = .ok (.ireturn, 1) := by decide +kernel
set_option maxRecDepth 20000 in
theorem ggX9_does_X9_bells : GoodIn wsX9_does wsX9_bells := goodIn_r _ [10, 4, 11, 12, 9, 13, 14, 15, 16, 17, 38, 39, 40, 41, 42, 43, 44, 45, 46, 47, 48, 49, 50, 51, 52, 53, 54, 55, 56, 57] (by decide +kernel) (by decide +kernel)
set_option maxRecDepth 20000 in
theorem gX9_does_X9_bells : GoodIn wsX9_does (wsV RX9 111 RX9 yX9_bells wsX9_bells) := goodIn_app (goodIn_of _ (by decide +kernel)) ggX9_does_X9_bells
set_option maxRecDepth 20000 in
theorem ggX9_does_X9_calls : GoodIn wsX9_does wsX9_calls := goodIn_r _ [21, 11, 12, 9, 13, 22, 23, 24, 25, 4, 26, 27, 28, 29, 30, 31, 32, 33, 38, 39, 40, 41, 42, 43, 44, 45, 46, 47, 48, 49, 50, 51, 52, 53, 54, 55, 56, 57] (by decide +kernel) (by decide +kernel)
set_option maxRecDepth 20000 in
theorem gX9_does_X9_calls : GoodIn wsX9_does (wsV RX9 114 RX9 yX9_calls wsX9_calls) := goodIn_app (goodIn_of _ (by decide +kernel)) ggX9_does_X9_calls
set_option maxRecDepth 20000 in
theorem ggX9_does_X9_areGood : GoodIn wsX9_does wsX9_areGood := goodIn_r _ [37, 5, 1, 2, 22, 23, 24, 9, 25, 4, 11, 12, 13, 26, 27, 28, 29, 38, 39, 40, 41, 42, 43, 44, 45, 46, 47, 48, 49, 50, 51, 52, 53, 54, 55, 56, 57] (by decide +kernel) (by decide +kernel)
set_option maxRecDepth 20000 in
theorem gX9_does_X9_areGood : GoodIn wsX9_does (wsV RX9 117 RX9 yX9_areGood wsX9_areGood) := goodIn_app (goodIn_of _ (by decide +kernel)) ggX9_does_X9_areGood
theorem dX9_does_0 : decode cX9_does 0 = .ok (.aload_n 0, 1) := by decide +kernel
theorem dX9_does_1 : decode cX9_does 1 = .ok (.getfield 36, 3) := by decide +kernel
theorem dX9_does_4 : decode cX9_does 4 = .ok (.aload_n 0, 1) := by decide +kernel
theorem dX9_does_5 : decode cX9_does 5 = .ok (.getfield 30, 3) := by decide +kernel
theorem dX9_does_8 : decode cX9_does 8 = .ok (.iload_n 1, 1) := by decide +kernel
theorem dX9_does_9 : decode cX9_does 9 = .ok (.iaload, 1) := by decide +kernel
theorem dX9_does_10 : decode cX9_does 10 = .ok (.iaload, 1) := by decide +kernel
theorem dX9_does_11 : decode cX9_does 11 = .ok (.istore_n 2, 1) := by decide +kernel
theorem dX9_does_12 : decode cX9_does 12 = .ok (.aload_n 0, 1) := by decide +kernel
theorem dX9_does_13 : decode cX9_does 13 = .ok (.getfield 27, 3) := by decide +kernel
theorem dX9_does_16 : decode cX9_does 16 = .ok (.iload_n 1, 1) := by decide +kernel
theorem dX9_does_17 : decode cX9_does 17 = .ok (.iaload, 1) := by decide +kernel
theorem dX9_does_18 : decode cX9_does 18 = .ok (.lookupswitch 140 #[(98, 56), (99, 86), (110, 42), (115, 71)], 42) := by decide +kernel
theorem dX9_does_60 : decode cX9_does 60 = .ok (.aload_n 0, 1) := by decide +kernel
theorem dX9_does_61 : decode cX9_does 61 = .ok (.iload_n 2, 1) := by decide +kernel
theorem dX9_does_62 : decode cX9_does 62 = .ok (.invokevirtual 111, 3) := by decide +kernel
theorem dX9_does_65 : decode cX9_does 65 = .ok (.ifCond .lt 7, 3) := by decide +kernel
theorem dX9_does_68 : decode cX9_does 68 = .ok (.iconst 1, 1) := by decide +kernel
theorem dX9_does_69 : decode cX9_does 69 = .ok (.goto 4, 3) := by decide +kernel
theorem dX9_does_72 : decode cX9_does 72 = .ok (.iconst 0, 1) := by decide +kernel
theorem dX9_does_73 : decode cX9_does 73 = .ok (.ireturn, 1) := by decide +kernel
theorem dX9_does_74 : decode cX9_does 74 = .ok (.aload_n 0, 1) := by decide +kernel
theorem dX9_does_75 : decode cX9_does 75 = .ok (.iconst 1, 1) := by decide +kernel
theorem dX9_does_76 : decode cX9_does 76 = .ok (.iload_n 2, 1) := by decide +kernel
theorem dX9_does_77 : decode cX9_does 77 = .ok (.invokevirtual 114, 3) := by decide +kernel
theorem dX9_does_80 : decode cX9_does 80 = .ok (.ifCond .lt 7, 3) := by decide +kernel
theorem dX9_does_83 : decode cX9_does 83 = .ok (.iconst 1, 1) := by decide +kernel
theorem dX9_does_84 : decode cX9_does 84 = .ok (.goto 4, 3) := by decide +kernel
theorem dX9_does_87 : decode cX9_does 87 = .ok (.iconst 0, 1) := by decide +kernel
theorem dX9_does_88 : decode cX9_does 88 = .ok (.ireturn, 1) := by decide +kernel
theorem dX9_does_89 : decode cX9_does 89 = .ok (.aload_n 0, 1) := by decide +kernel
theorem dX9_does_90 : decode cX9_does 90 = .ok (.iconst 2, 1) := by decide +kernel
theorem dX9_does_91 : decode cX9_does 91 = .ok (.iload_n 2, 1) := by decide +kernel
theorem dX9_does_92 : decode cX9_does 92 = .ok (.invokevirtual 114, 3) := by decide +kernel
theorem dX9_does_95 : decode cX9_does 95 = .ok (.ifCond .lt 7, 3) := by decide +kernel
theorem dX9_does_98 : decode cX9_does 98 = .ok (.iconst 1, 1) := by decide +kernel
theorem dX9_does_99 : decode cX9_does 99 = .ok (.goto 4, 3) := by decide +kernel
theorem dX9_does_102 : decode cX9_does 102 = .ok (.iconst 0, 1) := by decide +kernel
theorem dX9_does_103 : decode cX9_does 103 = .ok (.ireturn, 1) := by decide +kernel
theorem dX9_does_104 : decode cX9_does 104 = .ok (.aload_n 0, 1) := by decide +kernel
theorem dX9_does_105 : decode cX9_does 105 = .ok (.getfield 9, 3) := by decide +kernel
theorem dX9_does_108 : decode cX9_does 108 = .ok (.iconst 4, 1) := by decide +kernel
theorem dX9_does_109 : decode cX9_does 109 = .ok (.aload_n 0, 1) := by decide +kernel
theorem dX9_does_110 : decode cX9_does 110 = .ok (.getfield 33, 3) := by decide +kernel
theorem dX9_does_113 : decode cX9_does 113 = .ok (.iload_n 1, 1) := by decide +kernel
theorem dX9_does_114 : decode cX9_does 114 = .ok (.iaload, 1) := by decide +kernel
theorem dX9_does_115 : decode cX9_does 115 = .ok (.iastore, 1) := by decide +kernel
theorem dX9_does_116 : decode cX9_does 116 = .ok (.iconst 0, 1) := by decide +kernel
theorem dX9_does_117 : decode cX9_does 117 = .ok (.istore_n 3, 1) := by decide +kernel
theorem dX9_does_118 : decode cX9_does 118 = .ok (.iload_n 3, 1) := by decide +kernel
theorem dX9_does_119 : decode cX9_does 119 = .ok (.aload_n 0, 1) := by decide +kernel
theorem dX9_does_120 : decode cX9_does 120 = .ok (.getfield 33, 3) := by decide +kernel
theorem dX9_does_123 : decode cX9_does 123 = .ok (.iload_n 1, 1) := by decide +kernel
theorem dX9_does_124 : decode cX9_does 124 = .ok (.iaload, 1) := by decide +kernel
theorem dX9_does_125 : decode cX9_does 125 = .ok (.if_icmp .ge 31, 3) := by decide +kernel
theorem dX9_does_128 : decode cX9_does 128 = .ok (.aload_n 0, 1) := by decide +kernel
theorem dX9_does_129 : decode cX9_does 129 = .ok (.getfield 9, 3) := by decide +kernel
theorem dX9_does_132 : decode cX9_does 132 = .ok (.bipush 24, 2) := by decide +kernel
theorem dX9_does_134 : decode cX9_does 134 = .ok (.iload_n 3, 1) := by decide +kernel
theorem dX9_does_135 : decode cX9_does 135 = .ok (.iadd, 1) := by decide +kernel
theorem dX9_does_136 : decode cX9_does 136 = .ok (.aload_n 0, 1) := by decide +kernel
theorem dX9_does_137 : decode cX9_does 137 = .ok (.getfield 36, 3) := by decide +kernel
theorem dX9_does_140 : decode cX9_does 140 = .ok (.aload_n 0, 1) := by decide +kernel
theorem dX9_does_141 : decode cX9_does 141 = .ok (.getfield 30, 3) := by decide +kernel
theorem dX9_does_144 : decode cX9_does 144 = .ok (.iload_n 1, 1) := by decide +kernel
theorem dX9_does_145 : decode cX9_does 145 = .ok (.iaload, 1) := by decide +kernel
theorem dX9_does_146 : decode cX9_does 146 = .ok (.iload_n 3, 1) := by decide +kernel
theorem dX9_does_147 : decode cX9_does 147 = .ok (.iadd, 1) := by decide +kernel
theorem dX9_does_148 : decode cX9_does 148 = .ok (.iaload, 1) := by decide +kernel
theorem dX9_does_149 : decode cX9_does 149 = .ok (.iastore, 1) := by decide +kernel
theorem dX9_does_150 : decode cX9_does 150 = .ok (.iinc 3 1, 3) := by decide +kernel
theorem dX9_does_153 : decode cX9_does 153 = .ok (.goto (-35), 3) := by decide +kernel
theorem dX9_does_156 : decode cX9_does 156 = .ok (.iconst 1, 1) := by decide +kernel
theorem dX9_does_157 : decode cX9_does 157 = .ok (.ireturn, 1) := by decide +kernel
theorem dX9_does_158 : decode cX9_does 158 = .ok (.aload_n 0, 1) := by decide +kernel
theorem dX9_does_159 : decode cX9_does 159 = .ok (.iload_n 1, 1) := by decide +kernel
theorem dX9_does_160 : decode cX9_does 160 = .ok (.invokevirtual 117, 3) := by decide +kernel
theorem dX9_does_163 : decode cX9_does 163 = .ok (.ifCond .ne 5, 3) := by decide +kernel
theorem dX9_does_166 : decode cX9_does 166 = .ok (.iconst 0, 1) := by decide +kernel
theorem dX9_does_167 : decode cX9_does 167 = .ok (.ireturn, 1) := by decide +kernel
theorem dX9_does_168 : decode cX9_does 168 = .ok (.aload_n 0, 1) := by decide +kernel
theorem dX9_does_169 : decode cX9_does 169 = .ok (.getfield 9, 3) := by decide +kernel
theorem dX9_does_172 : decode cX9_does 172 = .ok (.iconst 1, 1) := by decide +kernel
theorem dX9_does_173 : decode cX9_does 173 = .ok (.aload_n 0, 1) := by decide +kernel
theorem dX9_does_174 : decode cX9_does 174 = .ok (.getfield 33, 3) := by decide +kernel
theorem dX9_does_177 : decode cX9_does 177 = .ok (.iload_n 1, 1) := by decide +kernel
theorem dX9_does_178 : decode cX9_does 178 = .ok (.iaload, 1) := by decide +kernel
theorem dX9_does_179 : decode cX9_does 179 = .ok (.iastore, 1) := by decide +kernel
theorem dX9_does_180 : decode cX9_does 180 = .ok (.iconst 0, 1) := by decide +kernel
theorem dX9_does_181 : decode cX9_does 181 = .ok (.istore_n 3, 1) := by decide +kernel
theorem dX9_does_182 : decode cX9_does 182 = .ok (.iload_n 3, 1) := by decide +kernel
theorem dX9_does_183 : decode cX9_does 183 = .ok (.aload_n 0, 1) := by decide +kernel
theorem dX9_does_184 : decode cX9_does 184 = .ok (.getfield 33, 3) := by decide +kernel
theorem dX9_does_187 : decode cX9_does 187 = .ok (.iload_n 1, 1) := by decide +kernel
theorem dX9_does_188 : decode cX9_does 188 = .ok (.iaload, 1) := by decide +kernel
theorem dX9_does_189 : decode cX9_does 189 = .ok (.if_icmp .ge 31, 3) := by decide +kernel
theorem dX9_does_192 : decode cX9_does 192 = .ok (.aload_n 0, 1) := by decide +kernel
theorem dX9_does_193 : decode cX9_does 193 = .ok (.getfield 9, 3) := by decide +kernel
theorem dX9_does_196 : decode cX9_does 196 = .ok (.bipush 8, 2) := by decide +kernel
theorem dX9_does_198 : decode cX9_does 198 = .ok (.iload_n 3, 1) := by decide +kernel
theorem dX9_does_199 : decode cX9_does 199 = .ok (.iadd, 1) := by decide +kernel
theorem dX9_does_200 : decode cX9_does 200 = .ok (.aload_n 0, 1) := by decide +kernel
theorem dX9_does_201 : decode cX9_does 201 = .ok (.getfield 36, 3) := by decide +kernel
theorem dX9_does_204 : decode cX9_does 204 = .ok (.aload_n 0, 1) := by decide +kernel
theorem dX9_does_205 : decode cX9_does 205 = .ok (.getfield 30, 3) := by decide +kernel
theorem dX9_does_208 : decode cX9_does 208 = .ok (.iload_n 1, 1) := by decide +kernel
theorem dX9_does_209 : decode cX9_does 209 = .ok (.iaload, 1) := by decide +kernel
theorem dX9_does_210 : decode cX9_does 210 = .ok (.iload_n 3, 1) := by decide +kernel
theorem dX9_does_211 : decode cX9_does 211 = .ok (.iadd, 1) := by decide +kernel
theorem dX9_does_212 : decode cX9_does 212 = .ok (.iaload, 1) := by decide +kernel
theorem dX9_does_213 : decode cX9_does 213 = .ok (.iastore, 1) := by decide +kernel
theorem dX9_does_214 : decode cX9_does 214 = .ok (.iinc 3 1, 3) := by decide +kernel
theorem dX9_does_217 : decode cX9_does 217 = .ok (.goto (-35), 3) := by decide +kernel
theorem dX9_does_220 : decode cX9_does 220 = .ok (.iconst 1, 1) := by decide +kernel
theorem dX9_does_221 : decode cX9_does 221 = .ok (.ireturn, 1) := by decide +kernel
set_option maxRecDepth 20000 in
theorem ggX9_read_X9_reads : GoodIn wsX9_read wsX9_reads := goodIn_r _ [10, 11, 3, 12, 4, 13, 1, 14, 15, 16, 9, 17, 5, 18, 19, 20, 21, 22, 23, 24, 25, 2, 26, 27, 28, 29, 30, 31, 32, 33, 34, 35, 36, 37, 38, 39, 40, 41, 42, 43, 44, 45, 79, 80, 81, 82, 83, 84, 85, 86, 87, 88, 89, 90, 91, 92, 93, 94, 95, 96, 97, 98] (by decide +kernel) (by decide +kernel)
set_option maxRecDepth 20000 in
theorem gX9_read_X9_reads : GoodIn wsX9_read (wsV RX9 120 RX9 yX9_reads wsX9_reads) := goodIn_app (goodIn_of _ (by decide +kernel)) ggX9_read_X9_reads
set_option maxRecDepth 20000 in
theorem ggX9_read_X9_sign : GoodIn wsX9_read wsX9_sign := goodIn_r _ [17, 1, 5, 18, 79, 80, 81, 82, 83, 84, 85, 86, 87, 88, 89, 90, 91, 92, 93, 94, 95, 96, 97, 98] (by decide +kernel) (by decide +kernel)
set_option maxRecDepth 20000 in
theorem gX9_read_X9_sign : GoodIn wsX9_read (wsV RX9 87 RX9 yX9_sign wsX9_sign) := goodIn_app (goodIn_of _ (by decide +kernel)) ggX9_read_X9_sign
set_option maxRecDepth 20000 in
theorem ggX9_read_X9_wrong : GoodIn wsX9_read wsX9_wrong := goodIn_r _ [25, 2, 1, 79, 80, 81, 82, 83, 84, 85, 86, 87, 88, 89, 90, 91, 92, 93, 94, 95, 96, 97, 98] (by decide +kernel) (by decide +kernel)
set_option maxRecDepth 20000 in
theorem gX9_read_X9_wrong : GoodIn wsX9_read (wsV RX9 91 RX9 yX9_wrong wsX9_wrong) := goodIn_app (goodIn_of _ (by decide +kernel)) ggX9_read_X9_wrong
set_option maxRecDepth 20000 in
theorem ggX9_read_X9_does : GoodIn wsX9_read wsX9_does := goodIn_r _ [49, 30, 12, 11, 50, 13, 51, 52, 53, 9, 54, 19, 20, 21, 55, 56, 57, 58, 59, 60, 61, 62, 63, 64, 65, 66, 67, 68, 69, 70, 71, 72, 73, 74, 75, 76, 77, 78, 79, 80, 81, 82, 83, 84, 85, 86, 87, 88, 89, 90, 91, 92, 93, 94, 95, 96, 97, 98] (by decide +kernel) (by decide +kernel)
set_option maxRecDepth 20000 in
theorem gX9_read_X9_does : GoodIn wsX9_read (wsV RX9 123 RX9 yX9_does wsX9_does) := goodIn_app (goodIn_of _ (by decide +kernel)) ggX9_read_X9_does
theorem dX9_read_0 : decode cX9_read 0 = .ok (.aload_n 0, 1) := by decide +kernel
theorem dX9_read_1 : decode cX9_read 1 = .ok (.iconst 0, 1) := by decide +kernel
theorem dX9_read_2 : decode cX9_read 2 = .ok (.putfield 75, 3) := by decide +kernel
theorem dX9_read_5 : decode cX9_read 5 = .ok (.aload_n 0, 1) := by decide +kernel
theorem dX9_read_6 : decode cX9_read 6 = .ok (.iconst (-1), 1) := by decide +kernel
theorem dX9_read_7 : decode cX9_read 7 = .ok (.putfield 78, 3) := by decide +kernel
theorem dX9_read_10 : decode cX9_read 10 = .ok (.aload_n 0, 1) := by decide +kernel
theorem dX9_read_11 : decode cX9_read 11 = .ok (.iconst 0, 1) := by decide +kernel
theorem dX9_read_12 : decode cX9_read 12 = .ok (.putfield 84, 3) := by decide +kernel
theorem dX9_read_15 : decode cX9_read 15 = .ok (.aload_n 0, 1) := by decide +kernel
theorem dX9_read_16 : decode cX9_read 16 = .ok (.iconst 0, 1) := by decide +kernel
theorem dX9_read_17 : decode cX9_read 17 = .ok (.putfield 81, 3) := by decide +kernel
theorem dX9_read_20 : decode cX9_read 20 = .ok (.iconst 1, 1) := by decide +kernel
theorem dX9_read_21 : decode cX9_read 21 = .ok (.istore_n 1, 1) := by decide +kernel
theorem dX9_read_22 : decode cX9_read 22 = .ok (.iload_n 1, 1) := by decide +kernel
theorem dX9_read_23 : decode cX9_read 23 = .ok (.ifCond .eq 80, 3) := by decide +kernel
theorem dX9_read_26 : decode cX9_read 26 = .ok (.aload_n 0, 1) := by decide +kernel
theorem dX9_read_27 : decode cX9_read 27 = .ok (.getfield 78, 3) := by decide +kernel
theorem dX9_read_30 : decode cX9_read 30 = .ok (.ifCond .ge 73, 3) := by decide +kernel
theorem dX9_read_33 : decode cX9_read 33 = .ok (.aload_n 0, 1) := by decide +kernel
theorem dX9_read_34 : decode cX9_read 34 = .ok (.invokevirtual 120, 3) := by decide +kernel
theorem dX9_read_37 : decode cX9_read 37 = .ok (.aload_n 0, 1) := by decide +kernel
theorem dX9_read_38 : decode cX9_read 38 = .ok (.getfield 78, 3) := by decide +kernel
theorem dX9_read_41 : decode cX9_read 41 = .ok (.ifCond .lt 6, 3) := by decide +kernel
theorem dX9_read_44 : decode cX9_read 44 = .ok (.goto 59, 3) := by decide +kernel
theorem dX9_read_47 : decode cX9_read 47 = .ok (.aload_n 0, 1) := by decide +kernel
theorem dX9_read_48 : decode cX9_read 48 = .ok (.getfield 75, 3) := by decide +kernel
theorem dX9_read_51 : decode cX9_read 51 = .ok (.aload_n 0, 1) := by decide +kernel
theorem dX9_read_52 : decode cX9_read 52 = .ok (.getfield 71, 3) := by decide +kernel
theorem dX9_read_55 : decode cX9_read 55 = .ok (.if_icmp .ge 7, 3) := by decide +kernel
theorem dX9_read_58 : decode cX9_read 58 = .ok (.iconst 1, 1) := by decide +kernel
theorem dX9_read_59 : decode cX9_read 59 = .ok (.goto 4, 3) := by decide +kernel
theorem dX9_read_62 : decode cX9_read 62 = .ok (.iconst 0, 1) := by decide +kernel
theorem dX9_read_63 : decode cX9_read 63 = .ok (.istore_n 1, 1) := by decide +kernel
theorem dX9_read_64 : decode cX9_read 64 = .ok (.iload_n 1, 1) := by decide +kernel
theorem dX9_read_65 : decode cX9_read 65 = .ok (.ifCond .eq 25, 3) := by decide +kernel
theorem dX9_read_68 : decode cX9_read 68 = .ok (.aload_n 0, 1) := by decide +kernel
theorem dX9_read_69 : decode cX9_read 69 = .ok (.invokevirtual 87, 3) := by decide +kernel
theorem dX9_read_72 : decode cX9_read 72 = .ok (.bipush 59, 2) := by decide +kernel
theorem dX9_read_74 : decode cX9_read 74 = .ok (.if_icmp .ne 12, 3) := by decide +kernel
theorem dX9_read_77 : decode cX9_read 77 = .ok (.aload_n 0, 1) := by decide +kernel
theorem dX9_read_78 : decode cX9_read 78 = .ok (.getfield 84, 3) := by decide +kernel
theorem dX9_read_81 : decode cX9_read 81 = .ok (.bipush 10, 2) := by decide +kernel
theorem dX9_read_83 : decode cX9_read 83 = .ok (.if_icmp .ne 7, 3) := by decide +kernel
theorem dX9_read_86 : decode cX9_read 86 = .ok (.aload_n 0, 1) := by decide +kernel
theorem dX9_read_87 : decode cX9_read 87 = .ok (.invokevirtual 91, 3) := by decide +kernel
theorem dX9_read_90 : decode cX9_read 90 = .ok (.aload_n 0, 1) := by decide +kernel
theorem dX9_read_91 : decode cX9_read 91 = .ok (.dup, 1) := by decide +kernel
theorem dX9_read_92 : decode cX9_read 92 = .ok (.getfield 75, 3) := by decide +kernel
theorem dX9_read_95 : decode cX9_read 95 = .ok (.iconst 1, 1) := by decide +kernel
theorem dX9_read_96 : decode cX9_read 96 = .ok (.iadd, 1) := by decide +kernel
theorem dX9_read_97 : decode cX9_read 97 = .ok (.putfield 75, 3) := by decide +kernel
theorem dX9_read_100 : decode cX9_read 100 = .ok (.goto (-78), 3) := by decide +kernel
theorem dX9_read_103 : decode cX9_read 103 = .ok (.aload_n 0, 1) := by decide +kernel
theorem dX9_read_104 : decode cX9_read 104 = .ok (.iconst 0, 1) := by decide +kernel
theorem dX9_read_105 : decode cX9_read 105 = .ok (.putfield 71, 3) := by decide +kernel
theorem dX9_read_108 : decode cX9_read 108 = .ok (.aload_n 0, 1) := by decide +kernel
theorem dX9_read_109 : decode cX9_read 109 = .ok (.getfield 78, 3) := by decide +kernel
theorem dX9_read_112 : decode cX9_read 112 = .ok (.ifCond .lt 11, 3) := by decide +kernel
theorem dX9_read_115 : decode cX9_read 115 = .ok (.bipush (-10), 2) := by decide +kernel
theorem dX9_read_117 : decode cX9_read 117 = .ok (.aload_n 0, 1) := by decide +kernel
theorem dX9_read_118 : decode cX9_read 118 = .ok (.getfield 78, 3) := by decide +kernel
theorem dX9_read_121 : decode cX9_read 121 = .ok (.isub, 1) := by decide +kernel
theorem dX9_read_122 : decode cX9_read 122 = .ok (.ireturn, 1) := by decide +kernel
theorem dX9_read_123 : decode cX9_read 123 = .ok (.iconst 0, 1) := by decide +kernel
theorem dX9_read_124 : decode cX9_read 124 = .ok (.istore_n 2, 1) := by decide +kernel
theorem dX9_read_125 : decode cX9_read 125 = .ok (.iconst 0, 1) := by decide +kernel
theorem dX9_read_126 : decode cX9_read 126 = .ok (.istore_n 3, 1) := by decide +kernel
theorem dX9_read_127 : decode cX9_read 127 = .ok (.iload_n 3, 1) := by decide +kernel
theorem dX9_read_128 : decode cX9_read 128 = .ok (.aload_n 0, 1) := by decide +kernel
theorem dX9_read_129 : decode cX9_read 129 = .ok (.getfield 84, 3) := by decide +kernel
theorem dX9_read_132 : decode cX9_read 132 = .ok (.if_icmp .ge 20, 3) := by decide +kernel
theorem dX9_read_135 : decode cX9_read 135 = .ok (.aload_n 0, 1) := by decide +kernel
theorem dX9_read_136 : decode cX9_read 136 = .ok (.iload_n 3, 1) := by decide +kernel
theorem dX9_read_137 : decode cX9_read 137 = .ok (.invokevirtual 123, 3) := by decide +kernel
theorem dX9_read_140 : decode cX9_read 140 = .ok (.ifCond .eq 6, 3) := by decide +kernel
theorem dX9_read_143 : decode cX9_read 143 = .ok (.iinc 2 1, 3) := by decide +kernel
theorem dX9_read_146 : decode cX9_read 146 = .ok (.iinc 3 1, 3) := by decide +kernel
theorem dX9_read_149 : decode cX9_read 149 = .ok (.goto (-22), 3) := by decide +kernel
theorem dX9_read_152 : decode cX9_read 152 = .ok (.iload_n 2, 1) := by decide +kernel
theorem dX9_read_153 : decode cX9_read 153 = .ok (.ireturn, 1) := by decide +kernel
set_option maxRecDepth 20000 in
theorem ggX9_goes_X9_keys : GoodIn wsX9_goes wsX9_keys := goodIn_r _ [7, 1, 2, 8, 9, 10, 11, 12, 13, 14, 15, 16, 17, 18, 19, 20, 21, 22, 23, 24, 25, 26, 27, 28] (by decide +kernel) (by decide +kernel)
set_option maxRecDepth 20000 in
theorem gX9_goes_X9_keys : GoodIn wsX9_goes (wsV RX9 126 RX9 yX9_keys wsX9_keys) := goodIn_app (goodIn_of _ (by decide +kernel)) ggX9_goes_X9_keys
theorem dX9_goes_0 : decode cX9_goes 0 = .ok (.aload_n 0, 1) := by decide +kernel
theorem dX9_goes_1 : decode cX9_goes 1 = .ok (.getfield 9, 3) := by decide +kernel
theorem dX9_goes_4 : decode cX9_goes 4 = .ok (.iconst 0, 1) := by decide +kernel
theorem dX9_goes_5 : decode cX9_goes 5 = .ok (.iaload, 1) := by decide +kernel
theorem dX9_goes_6 : decode cX9_goes 6 = .ok (.istore_n 3, 1) := by decide +kernel
theorem dX9_goes_7 : decode cX9_goes 7 = .ok (.iconst 0, 1) := by decide +kernel
theorem dX9_goes_8 : decode cX9_goes 8 = .ok (.istore 4, 2) := by decide +kernel
theorem dX9_goes_10 : decode cX9_goes 10 = .ok (.iload 4, 2) := by decide +kernel
theorem dX9_goes_12 : decode cX9_goes 12 = .ok (.iload_n 3, 1) := by decide +kernel
theorem dX9_goes_13 : decode cX9_goes 13 = .ok (.if_icmp .ge 108, 3) := by decide +kernel
theorem dX9_goes_16 : decode cX9_goes 16 = .ok (.iload_n 2, 1) := by decide +kernel
theorem dX9_goes_17 : decode cX9_goes 17 = .ok (.iload 4, 2) := by decide +kernel
theorem dX9_goes_19 : decode cX9_goes 19 = .ok (.ishr, 1) := by decide +kernel
theorem dX9_goes_20 : decode cX9_goes 20 = .ok (.iconst 1, 1) := by decide +kernel
theorem dX9_goes_21 : decode cX9_goes 21 = .ok (.iand, 1) := by decide +kernel
theorem dX9_goes_22 : decode cX9_goes 22 = .ok (.iconst 1, 1) := by decide +kernel
theorem dX9_goes_23 : decode cX9_goes 23 = .ok (.if_icmp .ne 36, 3) := by decide +kernel
theorem dX9_goes_26 : decode cX9_goes 26 = .ok (.aload_n 0, 1) := by decide +kernel
theorem dX9_goes_27 : decode cX9_goes 27 = .ok (.getfield 18, 3) := by decide +kernel
theorem dX9_goes_30 : decode cX9_goes 30 = .ok (.bipush 8, 2) := by decide +kernel
theorem dX9_goes_32 : decode cX9_goes 32 = .ok (.iload_n 1, 1) := by decide +kernel
theorem dX9_goes_33 : decode cX9_goes 33 = .ok (.imul, 1) := by decide +kernel
theorem dX9_goes_34 : decode cX9_goes 34 = .ok (.bipush 8, 2) := by decide +kernel
theorem dX9_goes_36 : decode cX9_goes 36 = .ok (.iadd, 1) := by decide +kernel
theorem dX9_goes_37 : decode cX9_goes 37 = .ok (.iload 4, 2) := by decide +kernel
theorem dX9_goes_39 : decode cX9_goes 39 = .ok (.iadd, 1) := by decide +kernel
theorem dX9_goes_40 : decode cX9_goes 40 = .ok (.aload_n 0, 1) := by decide +kernel
theorem dX9_goes_41 : decode cX9_goes 41 = .ok (.getfield 18, 3) := by decide +kernel
theorem dX9_goes_44 : decode cX9_goes 44 = .ok (.bipush 8, 2) := by decide +kernel
theorem dX9_goes_46 : decode cX9_goes 46 = .ok (.iload_n 1, 1) := by decide +kernel
theorem dX9_goes_47 : decode cX9_goes 47 = .ok (.imul, 1) := by decide +kernel
theorem dX9_goes_48 : decode cX9_goes 48 = .ok (.iload 4, 2) := by decide +kernel
theorem dX9_goes_50 : decode cX9_goes 50 = .ok (.iadd, 1) := by decide +kernel
theorem dX9_goes_51 : decode cX9_goes 51 = .ok (.iaload, 1) := by decide +kernel
theorem dX9_goes_52 : decode cX9_goes 52 = .ok (.iastore, 1) := by decide +kernel
theorem dX9_goes_53 : decode cX9_goes 53 = .ok (.iinc 4 1, 3) := by decide +kernel
theorem dX9_goes_56 : decode cX9_goes 56 = .ok (.goto (-46), 3) := by decide +kernel
theorem dX9_goes_59 : decode cX9_goes 59 = .ok (.aload_n 0, 1) := by decide +kernel
theorem dX9_goes_60 : decode cX9_goes 60 = .ok (.getfield 18, 3) := by decide +kernel
theorem dX9_goes_63 : decode cX9_goes 63 = .ok (.bipush 8, 2) := by decide +kernel
theorem dX9_goes_65 : decode cX9_goes 65 = .ok (.iload_n 1, 1) := by decide +kernel
theorem dX9_goes_66 : decode cX9_goes 66 = .ok (.imul, 1) := by decide +kernel
theorem dX9_goes_67 : decode cX9_goes 67 = .ok (.bipush 8, 2) := by decide +kernel
theorem dX9_goes_69 : decode cX9_goes 69 = .ok (.iadd, 1) := by decide +kernel
theorem dX9_goes_70 : decode cX9_goes 70 = .ok (.iload 4, 2) := by decide +kernel
theorem dX9_goes_72 : decode cX9_goes 72 = .ok (.iadd, 1) := by decide +kernel
theorem dX9_goes_73 : decode cX9_goes 73 = .ok (.aload_n 0, 1) := by decide +kernel
theorem dX9_goes_74 : decode cX9_goes 74 = .ok (.getfield 18, 3) := by decide +kernel
theorem dX9_goes_77 : decode cX9_goes 77 = .ok (.bipush 8, 2) := by decide +kernel
theorem dX9_goes_79 : decode cX9_goes 79 = .ok (.iload_n 1, 1) := by decide +kernel
theorem dX9_goes_80 : decode cX9_goes 80 = .ok (.imul, 1) := by decide +kernel
theorem dX9_goes_81 : decode cX9_goes 81 = .ok (.iload 4, 2) := by decide +kernel
theorem dX9_goes_83 : decode cX9_goes 83 = .ok (.iadd, 1) := by decide +kernel
theorem dX9_goes_84 : decode cX9_goes 84 = .ok (.iconst 1, 1) := by decide +kernel
theorem dX9_goes_85 : decode cX9_goes 85 = .ok (.iadd, 1) := by decide +kernel
theorem dX9_goes_86 : decode cX9_goes 86 = .ok (.iaload, 1) := by decide +kernel
theorem dX9_goes_87 : decode cX9_goes 87 = .ok (.iastore, 1) := by decide +kernel
theorem dX9_goes_88 : decode cX9_goes 88 = .ok (.aload_n 0, 1) := by decide +kernel
theorem dX9_goes_89 : decode cX9_goes 89 = .ok (.getfield 18, 3) := by decide +kernel
theorem dX9_goes_92 : decode cX9_goes 92 = .ok (.bipush 8, 2) := by decide +kernel
theorem dX9_goes_94 : decode cX9_goes 94 = .ok (.iload_n 1, 1) := by decide +kernel
theorem dX9_goes_95 : decode cX9_goes 95 = .ok (.imul, 1) := by decide +kernel
theorem dX9_goes_96 : decode cX9_goes 96 = .ok (.bipush 9, 2) := by decide +kernel
theorem dX9_goes_98 : decode cX9_goes 98 = .ok (.iadd, 1) := by decide +kernel
theorem dX9_goes_99 : decode cX9_goes 99 = .ok (.iload 4, 2) := by decide +kernel
theorem dX9_goes_101 : decode cX9_goes 101 = .ok (.iadd, 1) := by decide +kernel
theorem dX9_goes_102 : decode cX9_goes 102 = .ok (.aload_n 0, 1) := by decide +kernel
theorem dX9_goes_103 : decode cX9_goes 103 = .ok (.getfield 18, 3) := by decide +kernel
theorem dX9_goes_106 : decode cX9_goes 106 = .ok (.bipush 8, 2) := by decide +kernel
theorem dX9_goes_108 : decode cX9_goes 108 = .ok (.iload_n 1, 1) := by decide +kernel
theorem dX9_goes_109 : decode cX9_goes 109 = .ok (.imul, 1) := by decide +kernel
theorem dX9_goes_110 : decode cX9_goes 110 = .ok (.iload 4, 2) := by decide +kernel
