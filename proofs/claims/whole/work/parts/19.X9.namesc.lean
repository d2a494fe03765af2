theorem dX9_isSeen_32 : decode cX9_isSeen 32 = .ok (.aload_n 0, 1) := by decide +kernel
theorem dX9_isSeen_33 : decode cX9_isSeen 33 = .ok (.getfield 18, 3) := by decide +kernel
theorem dX9_isSeen_36 : decode cX9_isSeen 36 = .ok (.bipush 8, 2) := by decide +kernel
theorem dX9_isSeen_38 : decode cX9_isSeen 38 = .ok (.aload_n 0, 1) := by decide +kernel
theorem dX9_isSeen_39 : decode cX9_isSeen 39 = .ok (.getfield 9, 3) := by decide +kernel
theorem dX9_isSeen_42 : decode cX9_isSeen 42 = .ok (.iload_n 2, 1) := by decide +kernel
theorem dX9_isSeen_43 : decode cX9_isSeen 43 = .ok (.iaload, 1) := by decide +kernel
theorem dX9_isSeen_44 : decode cX9_isSeen 44 = .ok (.imul, 1) := by decide +kernel
theorem dX9_isSeen_45 : decode cX9_isSeen 45 = .ok (.aload_n 0, 1) := by decide +kernel
theorem dX9_isSeen_46 : decode cX9_isSeen 46 = .ok (.getfield 9, 3) := by decide +kernel
theorem dX9_isSeen_49 : decode cX9_isSeen 49 = .ok (.iload_n 2, 1) := by decide +kernel
theorem dX9_isSeen_50 : decode cX9_isSeen 50 = .ok (.iconst 1, 1) := by decide +kernel
theorem dX9_isSeen_51 : decode cX9_isSeen 51 = .ok (.iadd, 1) := by decide +kernel
theorem dX9_isSeen_52 : decode cX9_isSeen 52 = .ok (.iaload, 1) := by decide +kernel
theorem dX9_isSeen_53 : decode cX9_isSeen 53 = .ok (.iadd, 1) := by decide +kernel
theorem dX9_isSeen_54 : decode cX9_isSeen 54 = .ok (.iconst 1, 1) := by decide +kernel
theorem dX9_isSeen_55 : decode cX9_isSeen 55 = .ok (.isub, 1) := by decide +kernel
theorem dX9_isSeen_56 : decode cX9_isSeen 56 = .ok (.iaload, 1) := by decide +kernel
theorem dX9_isSeen_57 : decode cX9_isSeen 57 = .ok (.aload_n 0, 1) := by decide +kernel
theorem dX9_isSeen_58 : decode cX9_isSeen 58 = .ok (.getfield 9, 3) := by decide +kernel
theorem dX9_isSeen_61 : decode cX9_isSeen 61 = .ok (.iload_n 2, 1) := by decide +kernel
theorem dX9_isSeen_62 : decode cX9_isSeen 62 = .ok (.iconst 2, 1) := by decide +kernel
theorem dX9_isSeen_63 : decode cX9_isSeen 63 = .ok (.iadd, 1) := by decide +kernel
theorem dX9_isSeen_64 : decode cX9_isSeen 64 = .ok (.iaload, 1) := by decide +kernel
theorem dX9_isSeen_65 : decode cX9_isSeen 65 = .ok (.if_icmp .eq 5, 3) := by decide +kernel
theorem dX9_isSeen_68 : decode cX9_isSeen 68 = .ok (.iconst 0, 1) := by decide +kernel
theorem dX9_isSeen_69 : decode cX9_isSeen 69 = .ok (.ireturn, 1) := by decide +kernel
theorem dX9_isSeen_70 : decode cX9_isSeen 70 = .ok (.iinc 1 1, 3) := by decide +kernel
theorem dX9_isSeen_73 : decode cX9_isSeen 73 = .ok (.goto (-71), 3) := by decide +kernel
theorem dX9_isSeen_76 : decode cX9_isSeen 76 = .ok (.iconst 1, 1) := by decide +kernel
theorem dX9_isSeen_77 : decode cX9_isSeen 77 = .ok (.ireturn, 1) := by decide +kernel
set_option maxRecDepth 20000 in
theorem ggX9_fits_X9_within : GoodIn wsX9_fits wsX9_within := goodIn_r _ [5] (by decide +kernel) (by decide +kernel)
set_option maxRecDepth 20000 in
theorem gX9_fits_X9_within : GoodIn wsX9_fits (va_wsS RX9 56 yX9_within wsX9_within) := goodIn_app (goodIn_of _ (by decide +kernel)) ggX9_fits_X9_within
set_option maxRecDepth 20000 in
theorem ggX9_fits_X9_isGood : GoodIn wsX9_fits wsX9_isGood := goodIn_r _ [9, 1, 29, 30, 31, 32, 33, 34, 35, 36, 37, 38, 39, 40, 41, 42, 43, 44, 45, 46, 47, 48] (by decide +kernel) (by decide +kernel)
set_option maxRecDepth 20000 in
theorem gX9_fits_X9_isGood : GoodIn wsX9_fits (wsV RX9 64 RX9 yX9_isGood wsX9_isGood) := goodIn_app (goodIn_of _ (by decide +kernel)) ggX9_fits_X9_isGood
set_option maxRecDepth 20000 in
theorem ggX9_fits_X9_rings : GoodIn wsX9_fits wsX9_rings := goodIn_r _ [13, 1, 14, 15, 16, 17, 18, 4, 19, 20, 21, 22, 23, 24, 29, 30, 31, 32, 33, 34, 35, 36, 37, 38, 39, 40, 41, 42, 43, 44, 45, 46, 47, 48] (by decide +kernel) (by decide +kernel)
set_option maxRecDepth 20000 in
theorem gX9_fits_X9_rings : GoodIn wsX9_fits (wsV RX9 145 RX9 yX9_rings wsX9_rings) := goodIn_app (goodIn_of _ (by decide +kernel)) ggX9_fits_X9_rings
set_option maxRecDepth 20000 in
theorem ggX9_fits_X9_isSeen : GoodIn wsX9_fits wsX9_isSeen := goodIn_r _ [28, 1, 15, 14, 29, 30, 31, 32, 33, 34, 35, 36, 37, 38, 39, 40, 41, 42, 43, 44, 45, 46, 47, 48] (by decide +kernel) (by decide +kernel)
set_option maxRecDepth 20000 in
theorem gX9_fits_X9_isSeen : GoodIn wsX9_fits (wsV RX9 167 RX9 yX9_isSeen wsX9_isSeen) := goodIn_app (goodIn_of _ (by decide +kernel)) ggX9_fits_X9_isSeen
theorem dX9_fits_0 : decode cX9_fits 0 = .ok (.iload_n 1, 1) := by decide +kernel
theorem dX9_fits_1 : decode cX9_fits 1 = .ok (.iconst 0, 1) := by decide +kernel
theorem dX9_fits_2 : decode cX9_fits 2 = .ok (.iconst 1, 1) := by decide +kernel
theorem dX9_fits_3 : decode cX9_fits 3 = .ok (.invokestatic 56, 3) := by decide +kernel
theorem dX9_fits_6 : decode cX9_fits 6 = .ok (.ifCond .ne 5, 3) := by decide +kernel
theorem dX9_fits_9 : decode cX9_fits 9 = .ok (.iconst (-1), 1) := by decide +kernel
theorem dX9_fits_10 : decode cX9_fits 10 = .ok (.ireturn, 1) := by decide +kernel
theorem dX9_fits_11 : decode cX9_fits 11 = .ok (.aload_n 0, 1) := by decide +kernel
theorem dX9_fits_12 : decode cX9_fits 12 = .ok (.getfield 9, 3) := by decide +kernel
theorem dX9_fits_15 : decode cX9_fits 15 = .ok (.iconst 1, 1) := by decide +kernel
theorem dX9_fits_16 : decode cX9_fits 16 = .ok (.iaload, 1) := by decide +kernel
theorem dX9_fits_17 : decode cX9_fits 17 = .ok (.ifCond .ne 14, 3) := by decide +kernel
theorem dX9_fits_20 : decode cX9_fits 20 = .ok (.iload_n 1, 1) := by decide +kernel
theorem dX9_fits_21 : decode cX9_fits 21 = .ok (.ifCond .ne 7, 3) := by decide +kernel
theorem dX9_fits_24 : decode cX9_fits 24 = .ok (.iconst 0, 1) := by decide +kernel
theorem dX9_fits_25 : decode cX9_fits 25 = .ok (.goto 5, 3) := by decide +kernel
theorem dX9_fits_28 : decode cX9_fits 28 = .ok (.bipush (-5), 2) := by decide +kernel
theorem dX9_fits_30 : decode cX9_fits 30 = .ok (.ireturn, 1) := by decide +kernel
theorem dX9_fits_31 : decode cX9_fits 31 = .ok (.bipush 8, 2) := by decide +kernel
theorem dX9_fits_33 : decode cX9_fits 33 = .ok (.aload_n 0, 1) := by decide +kernel
theorem dX9_fits_34 : decode cX9_fits 34 = .ok (.getfield 9, 3) := by decide +kernel
theorem dX9_fits_37 : decode cX9_fits 37 = .ok (.iconst 1, 1) := by decide +kernel
theorem dX9_fits_38 : decode cX9_fits 38 = .ok (.iaload, 1) := by decide +kernel
theorem dX9_fits_39 : decode cX9_fits 39 = .ok (.iadd, 1) := by decide +kernel
theorem dX9_fits_40 : decode cX9_fits 40 = .ok (.iconst 1, 1) := by decide +kernel
theorem dX9_fits_41 : decode cX9_fits 41 = .ok (.isub, 1) := by decide +kernel
theorem dX9_fits_42 : decode cX9_fits 42 = .ok (.istore_n 2, 1) := by decide +kernel
theorem dX9_fits_43 : decode cX9_fits 43 = .ok (.aload_n 0, 1) := by decide +kernel
theorem dX9_fits_44 : decode cX9_fits 44 = .ok (.getfield 9, 3) := by decide +kernel
theorem dX9_fits_47 : decode cX9_fits 47 = .ok (.iload_n 2, 1) := by decide +kernel
theorem dX9_fits_48 : decode cX9_fits 48 = .ok (.iaload, 1) := by decide +kernel
theorem dX9_fits_49 : decode cX9_fits 49 = .ok (.istore_n 3, 1) := by decide +kernel
theorem dX9_fits_50 : decode cX9_fits 50 = .ok (.iconst 0, 1) := by decide +kernel
theorem dX9_fits_51 : decode cX9_fits 51 = .ok (.istore 4, 2) := by decide +kernel
theorem dX9_fits_53 : decode cX9_fits 53 = .ok (.bipush (-5), 2) := by decide +kernel
theorem dX9_fits_55 : decode cX9_fits 55 = .ok (.istore 5, 2) := by decide +kernel
theorem dX9_fits_57 : decode cX9_fits 57 = .ok (.iconst 1, 1) := by decide +kernel
theorem dX9_fits_58 : decode cX9_fits 58 = .ok (.aload_n 0, 1) := by decide +kernel
theorem dX9_fits_59 : decode cX9_fits 59 = .ok (.getfield 9, 3) := by decide +kernel
theorem dX9_fits_62 : decode cX9_fits 62 = .ok (.iconst 0, 1) := by decide +kernel
theorem dX9_fits_63 : decode cX9_fits 63 = .ok (.iaload, 1) := by decide +kernel
theorem dX9_fits_64 : decode cX9_fits 64 = .ok (.ishl, 1) := by decide +kernel
theorem dX9_fits_65 : decode cX9_fits 65 = .ok (.iconst 1, 1) := by decide +kernel
theorem dX9_fits_66 : decode cX9_fits 66 = .ok (.isub, 1) := by decide +kernel
theorem dX9_fits_67 : decode cX9_fits 67 = .ok (.istore 6, 2) := by decide +kernel
theorem dX9_fits_69 : decode cX9_fits 69 = .ok (.iload 6, 2) := by decide +kernel
theorem dX9_fits_71 : decode cX9_fits 71 = .ok (.ifCond .lt 50, 3) := by decide +kernel
theorem dX9_fits_74 : decode cX9_fits 74 = .ok (.aload_n 0, 1) := by decide +kernel
theorem dX9_fits_75 : decode cX9_fits 75 = .ok (.iload 6, 2) := by decide +kernel
theorem dX9_fits_77 : decode cX9_fits 77 = .ok (.invokevirtual 64, 3) := by decide +kernel
theorem dX9_fits_80 : decode cX9_fits 80 = .ok (.ifCond .ne 6, 3) := by decide +kernel
theorem dX9_fits_83 : decode cX9_fits 83 = .ok (.goto 32, 3) := by decide +kernel
theorem dX9_fits_86 : decode cX9_fits 86 = .ok (.aload_n 0, 1) := by decide +kernel
theorem dX9_fits_87 : decode cX9_fits 87 = .ok (.getfield 9, 3) := by decide +kernel
theorem dX9_fits_90 : decode cX9_fits 90 = .ok (.iload_n 2, 1) := by decide +kernel
theorem dX9_fits_91 : decode cX9_fits 91 = .ok (.iload 6, 2) := by decide +kernel
theorem dX9_fits_93 : decode cX9_fits 93 = .ok (.iastore, 1) := by decide +kernel
theorem dX9_fits_94 : decode cX9_fits 94 = .ok (.aload_n 0, 1) := by decide +kernel
theorem dX9_fits_95 : decode cX9_fits 95 = .ok (.invokevirtual 145, 3) := by decide +kernel
theorem dX9_fits_98 : decode cX9_fits 98 = .ok (.aload_n 0, 1) := by decide +kernel
theorem dX9_fits_99 : decode cX9_fits 99 = .ok (.invokevirtual 167, 3) := by decide +kernel
theorem dX9_fits_102 : decode cX9_fits 102 = .ok (.ifCond .ne 6, 3) := by decide +kernel
theorem dX9_fits_105 : decode cX9_fits 105 = .ok (.goto 10, 3) := by decide +kernel
theorem dX9_fits_108 : decode cX9_fits 108 = .ok (.iinc 4 1, 3) := by decide +kernel
theorem dX9_fits_111 : decode cX9_fits 111 = .ok (.iload 6, 2) := by decide +kernel
theorem dX9_fits_113 : decode cX9_fits 113 = .ok (.istore 5, 2) := by decide +kernel
theorem dX9_fits_115 : decode cX9_fits 115 = .ok (.iinc 6 (-1), 3) := by decide +kernel
theorem dX9_fits_118 : decode cX9_fits 118 = .ok (.goto (-49), 3) := by decide +kernel
theorem dX9_fits_121 : decode cX9_fits 121 = .ok (.aload_n 0, 1) := by decide +kernel
theorem dX9_fits_122 : decode cX9_fits 122 = .ok (.getfield 9, 3) := by decide +kernel
theorem dX9_fits_125 : decode cX9_fits 125 = .ok (.iload_n 2, 1) := by decide +kernel
theorem dX9_fits_126 : decode cX9_fits 126 = .ok (.iload_n 3, 1) := by decide +kernel
theorem dX9_fits_127 : decode cX9_fits 127 = .ok (.iastore, 1) := by decide +kernel
theorem dX9_fits_128 : decode cX9_fits 128 = .ok (.iload_n 1, 1) := by decide +kernel
theorem dX9_fits_129 : decode cX9_fits 129 = .ok (.ifCond .ne 8, 3) := by decide +kernel
theorem dX9_fits_132 : decode cX9_fits 132 = .ok (.iload 4, 2) := by decide +kernel
theorem dX9_fits_134 : decode cX9_fits 134 = .ok (.goto 5, 3) := by decide +kernel
theorem dX9_fits_137 : decode cX9_fits 137 = .ok (.iload 5, 2) := by decide +kernel
theorem dX9_fits_139 : decode cX9_fits 139 = .ok (.ireturn, 1) := by decide +kernel
theorem dX9_lowest_0 : decode cX9_lowest 0 = .ok (.iload_n 0, 1) := by decide +kernel
theorem dX9_lowest_1 : decode cX9_lowest 1 = .ok (.istore_n 3, 1) := by decide +kernel
theorem dX9_lowest_2 : decode cX9_lowest 2 = .ok (.iload_n 1, 1) := by decide +kernel
theorem dX9_lowest_3 : decode cX9_lowest 3 = .ok (.istore 4, 2) := by decide +kernel
theorem dX9_lowest_5 : decode cX9_lowest 5 = .ok (.iload 4, 2) := by decide +kernel
theorem dX9_lowest_7 : decode cX9_lowest 7 = .ok (.ifCond .eq 19, 3) := by decide +kernel
theorem dX9_lowest_10 : decode cX9_lowest 10 = .ok (.iload_n 3, 1) := by decide +kernel
theorem dX9_lowest_11 : decode cX9_lowest 11 = .ok (.iload 4, 2) := by decide +kernel
theorem dX9_lowest_13 : decode cX9_lowest 13 = .ok (.irem, 1) := by decide +kernel
theorem dX9_lowest_14 : decode cX9_lowest 14 = .ok (.istore 5, 2) := by decide +kernel
theorem dX9_lowest_16 : decode cX9_lowest 16 = .ok (.iload 4, 2) := by decide +kernel
theorem dX9_lowest_18 : decode cX9_lowest 18 = .ok (.istore_n 3, 1) := by decide +kernel
theorem dX9_lowest_19 : decode cX9_lowest 19 = .ok (.iload 5, 2) := by decide +kernel
theorem dX9_lowest_21 : decode cX9_lowest 21 = .ok (.istore 4, 2) := by decide +kernel
theorem dX9_lowest_23 : decode cX9_lowest 23 = .ok (.goto (-18), 3) := by decide +kernel
theorem dX9_lowest_26 : decode cX9_lowest 26 = .ok (.iload_n 2, 1) := by decide +kernel
theorem dX9_lowest_27 : decode cX9_lowest 27 = .ok (.ifCond .ne 10, 3) := by decide +kernel
theorem dX9_lowest_30 : decode cX9_lowest 30 = .ok (.iload_n 0, 1) := by decide +kernel
theorem dX9_lowest_31 : decode cX9_lowest 31 = .ok (.iload_n 3, 1) := by decide +kernel
theorem dX9_lowest_32 : decode cX9_lowest 32 = .ok (.idiv, 1) := by decide +kernel
theorem dX9_lowest_33 : decode cX9_lowest 33 = .ok (.i2l, 1) := by decide +kernel
theorem dX9_lowest_34 : decode cX9_lowest 34 = .ok (.goto 7, 3) := by decide +kernel
theorem dX9_lowest_37 : decode cX9_lowest 37 = .ok (.iload_n 1, 1) := by decide +kernel
theorem dX9_lowest_38 : decode cX9_lowest 38 = .ok (.iload_n 3, 1) := by decide +kernel
theorem dX9_lowest_39 : decode cX9_lowest 39 = .ok (.idiv, 1) := by decide +kernel
theorem dX9_lowest_40 : decode cX9_lowest 40 = .ok (.i2l, 1) := by decide +kernel
theorem dX9_lowest_41 : decode cX9_lowest 41 = .ok (.lreturn, 1) := by decide +kernel
set_option maxRecDepth 20000 in
theorem ggX9_odds_X9_isPlace : GoodIn wsX9_odds wsX9_isPlace := goodIn_r _ [7, 8, 9, 10, 6, 11, 33, 34, 35, 36, 37, 38, 39, 40, 41, 42, 43, 44, 45, 46, 47, 48, 49, 50, 51, 52] (by decide +kernel) (by decide +kernel)
set_option maxRecDepth 20000 in
theorem gX9_odds_X9_isPlace : GoodIn wsX9_odds (wsV RX9 154 RX9 yX9_isPlace wsX9_isPlace) := goodIn_app (goodIn_of _ (by decide +kernel)) ggX9_odds_X9_isPlace
set_option maxRecDepth 20000 in
theorem ggX9_odds_X9_within : GoodIn wsX9_odds wsX9_within := goodIn_r _ [11] (by decide +kernel) (by decide +kernel)
set_option maxRecDepth 20000 in
theorem gX9_odds_X9_within : GoodIn wsX9_odds (va_wsS RX9 56 yX9_within wsX9_within) := goodIn_app (goodIn_of _ (by decide +kernel)) ggX9_odds_X9_within
set_option maxRecDepth 20000 in
theorem ggX9_odds_X9_rings : GoodIn wsX9_odds wsX9_rings := goodIn_r _ [15, 8, 16, 2, 17, 18, 19, 6, 20, 21, 22, 23, 24, 25, 33, 34, 35, 36, 37, 38, 39, 40, 41, 42, 43, 44, 45, 46, 47, 48, 49, 50, 51, 52] (by decide +kernel) (by decide +kernel)
set_option maxRecDepth 20000 in
theorem gX9_odds_X9_rings : GoodIn wsX9_odds (wsV RX9 145 RX9 yX9_rings wsX9_rings) := goodIn_app (goodIn_of _ (by decide +kernel)) ggX9_odds_X9_rings
set_option maxRecDepth 20000 in
theorem ggX9_odds_X9_place : GoodIn wsX9_odds wsX9_place := goodIn_r _ [29, 16, 33, 34, 35, 36, 37, 38, 39, 40, 41, 42, 43, 44, 45, 46, 47, 48, 49, 50, 51, 52] (by decide +kernel) (by decide +kernel)
set_option maxRecDepth 20000 in
theorem gX9_odds_X9_place : GoodIn wsX9_odds (wsV RX9 157 RX9 yX9_place wsX9_place) := goodIn_app (goodIn_of _ (by decide +kernel)) ggX9_odds_X9_place
set_option maxRecDepth 20000 in
theorem ggX9_odds_X9_lowest : GoodIn wsX9_odds wsX9_lowest := goodIn_r _ [32] (by decide +kernel) (by decide +kernel)
set_option maxRecDepth 20000 in
theorem gX9_odds_X9_lowest : GoodIn wsX9_odds (va_wsS RX9 172 yX9_lowest wsX9_lowest) := goodIn_app (goodIn_of _ (by decide +kernel)) ggX9_odds_X9_lowest
theorem dX9_odds_0 : decode cX9_odds 0 = .ok (.aload_n 0, 1) := by decide +kernel
theorem dX9_odds_1 : decode cX9_odds 1 = .ok (.iload_n 1, 1) := by decide +kernel
theorem dX9_odds_2 : decode cX9_odds 2 = .ok (.invokevirtual 154, 3) := by decide +kernel
theorem dX9_odds_5 : decode cX9_odds 5 = .ok (.ifCond .eq 20, 3) := by decide +kernel
theorem dX9_odds_8 : decode cX9_odds 8 = .ok (.aload_n 0, 1) := by decide +kernel
theorem dX9_odds_9 : decode cX9_odds 9 = .ok (.iload_n 2, 1) := by decide +kernel
theorem dX9_odds_10 : decode cX9_odds 10 = .ok (.invokevirtual 154, 3) := by decide +kernel
theorem dX9_odds_13 : decode cX9_odds 13 = .ok (.ifCond .eq 12, 3) := by decide +kernel
theorem dX9_odds_16 : decode cX9_odds 16 = .ok (.iload_n 3, 1) := by decide +kernel
theorem dX9_odds_17 : decode cX9_odds 17 = .ok (.iconst 0, 1) := by decide +kernel
theorem dX9_odds_18 : decode cX9_odds 18 = .ok (.iconst 1, 1) := by decide +kernel
theorem dX9_odds_19 : decode cX9_odds 19 = .ok (.invokestatic 56, 3) := by decide +kernel
theorem dX9_odds_22 : decode cX9_odds 22 = .ok (.ifCond .ne 7, 3) := by decide +kernel
theorem dX9_odds_25 : decode cX9_odds 25 = .ok (.ldc2_w 170, 3) := by decide +kernel
theorem dX9_odds_28 : decode cX9_odds 28 = .ok (.lreturn, 1) := by decide +kernel
theorem dX9_odds_29 : decode cX9_odds 29 = .ok (.aload_n 0, 1) := by decide +kernel
theorem dX9_odds_30 : decode cX9_odds 30 = .ok (.invokevirtual 145, 3) := by decide +kernel
theorem dX9_odds_33 : decode cX9_odds 33 = .ok (.iconst 0, 1) := by decide +kernel
theorem dX9_odds_34 : decode cX9_odds 34 = .ok (.istore 4, 2) := by decide +kernel
theorem dX9_odds_36 : decode cX9_odds 36 = .ok (.iconst 0, 1) := by decide +kernel
theorem dX9_odds_37 : decode cX9_odds 37 = .ok (.istore 5, 2) := by decide +kernel
theorem dX9_odds_39 : decode cX9_odds 39 = .ok (.iload 5, 2) := by decide +kernel
theorem dX9_odds_41 : decode cX9_odds 41 = .ok (.aload_n 0, 1) := by decide +kernel
theorem dX9_odds_42 : decode cX9_odds 42 = .ok (.getfield 129, 3) := by decide +kernel
theorem dX9_odds_45 : decode cX9_odds 45 = .ok (.if_icmp .gt 23, 3) := by decide +kernel
theorem dX9_odds_48 : decode cX9_odds 48 = .ok (.aload_n 0, 1) := by decide +kernel
theorem dX9_odds_49 : decode cX9_odds 49 = .ok (.iload 5, 2) := by decide +kernel
theorem dX9_odds_51 : decode cX9_odds 51 = .ok (.iload_n 1, 1) := by decide +kernel
theorem dX9_odds_52 : decode cX9_odds 52 = .ok (.invokevirtual 157, 3) := by decide +kernel
theorem dX9_odds_55 : decode cX9_odds 55 = .ok (.iload_n 2, 1) := by decide +kernel
theorem dX9_odds_56 : decode cX9_odds 56 = .ok (.if_icmp .ne 6, 3) := by decide +kernel
theorem dX9_odds_59 : decode cX9_odds 59 = .ok (.iinc 4 1, 3) := by decide +kernel
theorem dX9_odds_62 : decode cX9_odds 62 = .ok (.iinc 5 1, 3) := by decide +kernel
theorem dX9_odds_65 : decode cX9_odds 65 = .ok (.goto (-26), 3) := by decide +kernel
theorem dX9_odds_68 : decode cX9_odds 68 = .ok (.iload 4, 2) := by decide +kernel
theorem dX9_odds_70 : decode cX9_odds 70 = .ok (.aload_n 0, 1) := by decide +kernel
theorem dX9_odds_71 : decode cX9_odds 71 = .ok (.getfield 129, 3) := by decide +kernel
theorem dX9_odds_74 : decode cX9_odds 74 = .ok (.iconst 1, 1) := by decide +kernel
theorem dX9_odds_75 : decode cX9_odds 75 = .ok (.iadd, 1) := by decide +kernel
theorem dX9_odds_76 : decode cX9_odds 76 = .ok (.iload_n 3, 1) := by decide +kernel
theorem dX9_odds_77 : decode cX9_odds 77 = .ok (.invokestatic 172, 3) := by decide +kernel
theorem dX9_odds_80 : decode cX9_odds 80 = .ok (.lreturn, 1) := by decide +kernel
set_option maxRecDepth 20000 in
theorem ggX9_mean_X9_within : GoodIn wsX9_mean wsX9_within := goodIn_r _ [6] (by decide +kernel) (by decide +kernel)
set_option maxRecDepth 20000 in
theorem gX9_mean_X9_within : GoodIn wsX9_mean (va_wsS RX9 56 yX9_within wsX9_within) := goodIn_app (goodIn_of _ (by decide +kernel)) ggX9_mean_X9_within
set_option maxRecDepth 20000 in
theorem ggX9_mean_X9_rings : GoodIn wsX9_mean wsX9_rings := goodIn_r _ [10, 11, 12, 2, 13, 14, 15, 5, 16, 17, 18, 19, 20, 21, 37, 38, 39, 40, 41, 42, 43, 44, 45, 46, 47, 48, 49, 50, 51, 52, 53, 54, 55, 56] (by decide +kernel) (by decide +kernel)
set_option maxRecDepth 20000 in
theorem gX9_mean_X9_rings : GoodIn wsX9_mean (wsV RX9 145 RX9 yX9_rings wsX9_rings) := goodIn_app (goodIn_of _ (by decide +kernel)) ggX9_mean_X9_rings
set_option maxRecDepth 20000 in
theorem ggX9_mean_X9_musicOf : GoodIn wsX9_mean wsX9_musicOf := goodIn_r _ [25, 2, 26, 27, 28, 5, 29, 11, 12, 30, 31, 32, 33, 37, 38, 39, 40, 41, 42, 43, 44, 45, 46, 47, 48, 49, 50, 51, 52, 53, 54, 55, 56] (by decide +kernel) (by decide +kernel)
set_option maxRecDepth 20000 in
theorem gX9_mean_X9_musicOf : GoodIn wsX9_mean (wsV RX9 164 RX9 yX9_musicOf wsX9_musicOf) := goodIn_app (goodIn_of _ (by decide +kernel)) ggX9_mean_X9_musicOf
set_option maxRecDepth 20000 in
theorem ggX9_mean_X9_lowest : GoodIn wsX9_mean wsX9_lowest := goodIn_r _ [36] (by decide +kernel) (by decide +kernel)
set_option maxRecDepth 20000 in
theorem gX9_mean_X9_lowest : GoodIn wsX9_mean (va_wsS RX9 172 yX9_lowest wsX9_lowest) := goodIn_app (goodIn_of _ (by decide +kernel)) ggX9_mean_X9_lowest
theorem dX9_mean_0 : decode cX9_mean 0 = .ok (.iload_n 1, 1) := by decide +kernel
theorem dX9_mean_1 : decode cX9_mean 1 = .ok (.iconst 0, 1) := by decide +kernel
theorem dX9_mean_2 : decode cX9_mean 2 = .ok (.iconst 1, 1) := by decide +kernel
theorem dX9_mean_3 : decode cX9_mean 3 = .ok (.invokestatic 56, 3) := by decide +kernel
theorem dX9_mean_6 : decode cX9_mean 6 = .ok (.ifCond .ne 7, 3) := by decide +kernel
theorem dX9_mean_9 : decode cX9_mean 9 = .ok (.ldc2_w 170, 3) := by decide +kernel
theorem dX9_mean_12 : decode cX9_mean 12 = .ok (.lreturn, 1) := by decide +kernel
theorem dX9_mean_13 : decode cX9_mean 13 = .ok (.aload_n 0, 1) := by decide +kernel
theorem dX9_mean_14 : decode cX9_mean 14 = .ok (.invokevirtual 145, 3) := by decide +kernel
theorem dX9_mean_17 : decode cX9_mean 17 = .ok (.iconst 0, 1) := by decide +kernel
theorem dX9_mean_18 : decode cX9_mean 18 = .ok (.istore_n 2, 1) := by decide +kernel
theorem dX9_mean_19 : decode cX9_mean 19 = .ok (.iconst 0, 1) := by decide +kernel
theorem dX9_mean_20 : decode cX9_mean 20 = .ok (.istore_n 3, 1) := by decide +kernel
theorem dX9_mean_21 : decode cX9_mean 21 = .ok (.iload_n 3, 1) := by decide +kernel
theorem dX9_mean_22 : decode cX9_mean 22 = .ok (.iconst 4, 1) := by decide +kernel
theorem dX9_mean_23 : decode cX9_mean 23 = .ok (.if_icmp .ge 17, 3) := by decide +kernel
theorem dX9_mean_26 : decode cX9_mean 26 = .ok (.iload_n 2, 1) := by decide +kernel
theorem dX9_mean_27 : decode cX9_mean 27 = .ok (.aload_n 0, 1) := by decide +kernel
theorem dX9_mean_28 : decode cX9_mean 28 = .ok (.iload_n 3, 1) := by decide +kernel
theorem dX9_mean_29 : decode cX9_mean 29 = .ok (.invokevirtual 164, 3) := by decide +kernel
theorem dX9_mean_32 : decode cX9_mean 32 = .ok (.iadd, 1) := by decide +kernel
theorem dX9_mean_33 : decode cX9_mean 33 = .ok (.istore_n 2, 1) := by decide +kernel
theorem dX9_mean_34 : decode cX9_mean 34 = .ok (.iinc 3 1, 3) := by decide +kernel
theorem dX9_mean_37 : decode cX9_mean 37 = .ok (.goto (-16), 3) := by decide +kernel
theorem dX9_mean_40 : decode cX9_mean 40 = .ok (.iload_n 2, 1) := by decide +kernel
theorem dX9_mean_41 : decode cX9_mean 41 = .ok (.aload_n 0, 1) := by decide +kernel
theorem dX9_mean_42 : decode cX9_mean 42 = .ok (.getfield 129, 3) := by decide +kernel
theorem dX9_mean_45 : decode cX9_mean 45 = .ok (.iconst 1, 1) := by decide +kernel
theorem dX9_mean_46 : decode cX9_mean 46 = .ok (.iadd, 1) := by decide +kernel
theorem dX9_mean_47 : decode cX9_mean 47 = .ok (.iload_n 1, 1) := by decide +kernel
theorem dX9_mean_48 : decode cX9_mean 48 = .ok (.invokestatic 172, 3) := by decide +kernel
theorem dX9_mean_51 : decode cX9_mean 51 = .ok (.lreturn, 1) := by decide +kernel
set_option maxRecDepth 20000 in
theorem ggX9_event_X9_within : GoodIn wsX9_event wsX9_within := goodIn_r _ [5] (by decide +kernel) (by decide +kernel)
set_option maxRecDepth 20000 in
theorem gX9_event_X9_within : GoodIn wsX9_event (va_wsS RX9 56 yX9_within wsX9_within) := goodIn_app (goodIn_of _ (by decide +kernel)) ggX9_event_X9_within
theorem dX9_event_0 : decode cX9_event 0 = .ok (.iload_n 1, 1) := by decide +kernel
theorem dX9_event_1 : decode cX9_event 1 = .ok (.iconst (-1), 1) := by decide +kernel
theorem dX9_event_2 : decode cX9_event 2 = .ok (.if_icmp .ne 13, 3) := by decide +kernel
theorem dX9_event_5 : decode cX9_event 5 = .ok (.aload_n 0, 1) := by decide +kernel
theorem dX9_event_6 : decode cX9_event 6 = .ok (.getfield 9, 3) := by decide +kernel
theorem dX9_event_9 : decode cX9_event 9 = .ok (.bipush 6, 2) := by decide +kernel
theorem dX9_event_11 : decode cX9_event 11 = .ok (.iconst 0, 1) := by decide +kernel
theorem dX9_event_12 : decode cX9_event 12 = .ok (.iastore, 1) := by decide +kernel
theorem dX9_event_13 : decode cX9_event 13 = .ok (.iconst 0, 1) := by decide +kernel
theorem dX9_event_14 : decode cX9_event 14 = .ok (.ireturn, 1) := by decide +kernel
theorem dX9_event_15 : decode cX9_event 15 = .ok (.iload_n 1, 1) := by decide +kernel
theorem dX9_event_16 : decode cX9_event 16 = .ok (.iconst 0, 1) := by decide +kernel
theorem dX9_event_17 : decode cX9_event 17 = .ok (.iconst 3, 1) := by decide +kernel
theorem dX9_event_18 : decode cX9_event 18 = .ok (.invokestatic 56, 3) := by decide +kernel
theorem dX9_event_21 : decode cX9_event 21 = .ok (.ifCond .eq 18, 3) := by decide +kernel
theorem dX9_event_24 : decode cX9_event 24 = .ok (.iload_n 1, 1) := by decide +kernel
theorem dX9_event_25 : decode cX9_event 25 = .ok (.iconst 2, 1) := by decide +kernel
theorem dX9_event_26 : decode cX9_event 26 = .ok (.if_icmp .ge 15, 3) := by decide +kernel
theorem dX9_event_29 : decode cX9_event 29 = .ok (.iload_n 2, 1) := by decide +kernel
theorem dX9_event_30 : decode cX9_event 30 = .ok (.iconst 0, 1) := by decide +kernel
theorem dX9_event_31 : decode cX9_event 31 = .ok (.bipush 11, 2) := by decide +kernel
theorem dX9_event_33 : decode cX9_event 33 = .ok (.invokestatic 56, 3) := by decide +kernel
theorem dX9_event_36 : decode cX9_event 36 = .ok (.ifCond .ne 5, 3) := by decide +kernel
theorem dX9_event_39 : decode cX9_event 39 = .ok (.iconst (-1), 1) := by decide +kernel
theorem dX9_event_40 : decode cX9_event 40 = .ok (.ireturn, 1) := by decide +kernel
theorem dX9_event_41 : decode cX9_event 41 = .ok (.iload_n 1, 1) := by decide +kernel
theorem dX9_event_42 : decode cX9_event 42 = .ok (.iconst 2, 1) := by decide +kernel
theorem dX9_event_43 : decode cX9_event 43 = .ok (.if_icmp .ne 13, 3) := by decide +kernel
theorem dX9_event_46 : decode cX9_event 46 = .ok (.iload_n 2, 1) := by decide +kernel
theorem dX9_event_47 : decode cX9_event 47 = .ok (.iconst 0, 1) := by decide +kernel
theorem dX9_event_48 : decode cX9_event 48 = .ok (.bipush 16, 2) := by decide +kernel
theorem dX9_event_50 : decode cX9_event 50 = .ok (.invokestatic 56, 3) := by decide +kernel
theorem dX9_event_53 : decode cX9_event 53 = .ok (.ifCond .eq 18, 3) := by decide +kernel
theorem dX9_event_56 : decode cX9_event 56 = .ok (.iload_n 1, 1) := by decide +kernel
theorem dX9_event_57 : decode cX9_event 57 = .ok (.iconst 3, 1) := by decide +kernel
theorem dX9_event_58 : decode cX9_event 58 = .ok (.if_icmp .ne 16, 3) := by decide +kernel
theorem dX9_event_61 : decode cX9_event 61 = .ok (.iload_n 2, 1) := by decide +kernel
theorem dX9_event_62 : decode cX9_event 62 = .ok (.iconst 1, 1) := by decide +kernel
theorem dX9_event_63 : decode cX9_event 63 = .ok (.bipush 12, 2) := by decide +kernel
theorem dX9_event_65 : decode cX9_event 65 = .ok (.invokestatic 56, 3) := by decide +kernel
theorem dX9_event_68 : decode cX9_event 68 = .ok (.ifCond .ne 6, 3) := by decide +kernel
theorem dX9_event_71 : decode cX9_event 71 = .ok (.bipush (-2), 2) := by decide +kernel
theorem dX9_event_73 : decode cX9_event 73 = .ok (.ireturn, 1) := by decide +kernel
theorem dX9_event_74 : decode cX9_event 74 = .ok (.aload_n 0, 1) := by decide +kernel
theorem dX9_event_75 : decode cX9_event 75 = .ok (.getfield 9, 3) := by decide +kernel
theorem dX9_event_78 : decode cX9_event 78 = .ok (.bipush 6, 2) := by decide +kernel
theorem dX9_event_80 : decode cX9_event 80 = .ok (.iaload, 1) := by decide +kernel
theorem dX9_event_81 : decode cX9_event 81 = .ok (.bipush 8, 2) := by decide +kernel
theorem dX9_event_83 : decode cX9_event 83 = .ok (.if_icmp .ne 6, 3) := by decide +kernel
theorem dX9_event_86 : decode cX9_event 86 = .ok (.bipush (-4), 2) := by decide +kernel
theorem dX9_event_88 : decode cX9_event 88 = .ok (.ireturn, 1) := by decide +kernel
theorem dX9_event_89 : decode cX9_event 89 = .ok (.aload_n 0, 1) := by decide +kernel
theorem dX9_event_90 : decode cX9_event 90 = .ok (.getfield 9, 3) := by decide +kernel
theorem dX9_event_93 : decode cX9_event 93 = .ok (.bipush 59, 2) := by decide +kernel
theorem dX9_event_95 : decode cX9_event 95 = .ok (.iconst 2, 1) := by decide +kernel
theorem dX9_event_96 : decode cX9_event 96 = .ok (.aload_n 0, 1) := by decide +kernel
theorem dX9_event_97 : decode cX9_event 97 = .ok (.getfield 9, 3) := by decide +kernel
theorem dX9_event_100 : decode cX9_event 100 = .ok (.bipush 6, 2) := by decide +kernel
theorem dX9_event_102 : decode cX9_event 102 = .ok (.iaload, 1) := by decide +kernel
theorem dX9_event_103 : decode cX9_event 103 = .ok (.imul, 1) := by decide +kernel
theorem dX9_event_104 : decode cX9_event 104 = .ok (.iadd, 1) := by decide +kernel
theorem dX9_event_105 : decode cX9_event 105 = .ok (.iload_n 1, 1) := by decide +kernel
theorem dX9_event_106 : decode cX9_event 106 = .ok (.iastore, 1) := by decide +kernel
theorem dX9_event_107 : decode cX9_event 107 = .ok (.aload_n 0, 1) := by decide +kernel
theorem dX9_event_108 : decode cX9_event 108 = .ok (.getfield 9, 3) := by decide +kernel
theorem dX9_event_111 : decode cX9_event 111 = .ok (.bipush 59, 2) := by decide +kernel
theorem dX9_event_113 : decode cX9_event 113 = .ok (.iconst 2, 1) := by decide +kernel
theorem dX9_event_114 : decode cX9_event 114 = .ok (.aload_n 0, 1) := by decide +kernel
theorem dX9_event_115 : decode cX9_event 115 = .ok (.getfield 9, 3) := by decide +kernel
theorem dX9_event_118 : decode cX9_event 118 = .ok (.bipush 6, 2) := by decide +kernel
theorem dX9_event_120 : decode cX9_event 120 = .ok (.iaload, 1) := by decide +kernel
theorem dX9_event_121 : decode cX9_event 121 = .ok (.imul, 1) := by decide +kernel
theorem dX9_event_122 : decode cX9_event 122 = .ok (.iadd, 1) := by decide +kernel
theorem dX9_event_123 : decode cX9_event 123 = .ok (.iconst 1, 1) := by decide +kernel
theorem dX9_event_124 : decode cX9_event 124 = .ok (.iadd, 1) := by decide +kernel
theorem dX9_event_125 : decode cX9_event 125 = .ok (.iload_n 2, 1) := by decide +kernel
theorem dX9_event_126 : decode cX9_event 126 = .ok (.iastore, 1) := by decide +kernel
theorem dX9_event_127 : decode cX9_event 127 = .ok (.aload_n 0, 1) := by decide +kernel
theorem dX9_event_128 : decode cX9_event 128 = .ok (.getfield 9, 3) := by decide +kernel
theorem dX9_event_131 : decode cX9_event 131 = .ok (.bipush 6, 2) := by decide +kernel
theorem dX9_event_133 : decode cX9_event 133 = .ok (.dup2, 1) := by decide +kernel
theorem dX9_event_134 : decode cX9_event 134 = .ok (.iaload, 1) := by decide +kernel
theorem dX9_event_135 : decode cX9_event 135 = .ok (.iconst 1, 1) := by decide +kernel
theorem dX9_event_136 : decode cX9_event 136 = .ok (.iadd, 1) := by decide +kernel
theorem dX9_event_137 : decode cX9_event 137 = .ok (.dup_x2, 1) := by decide +kernel
theorem dX9_event_138 : decode cX9_event 138 = .ok (.iastore, 1) := by decide +kernel
theorem dX9_event_139 : decode cX9_event 139 = .ok (.ireturn, 1) := by decide +kernel
set_option maxRecDepth 20000 in
theorem ggX9_after_X9_within : GoodIn wsX9_after wsX9_within := goodIn_r _ [9] (by decide +kernel) (by decide +kernel)
set_option maxRecDepth 20000 in
theorem gX9_after_X9_within : GoodIn wsX9_after (va_wsS RX9 56 yX9_within wsX9_within) := goodIn_app (goodIn_of _ (by decide +kernel)) ggX9_after_X9_within
set_option maxRecDepth 20000 in
theorem ggX9_after_X9_rings : GoodIn wsX9_after wsX9_rings := goodIn_r _ [13, 1, 14, 15, 16, 17, 18, 8, 19, 20, 21, 22, 23, 24, 41, 42, 43, 44, 45, 46, 47, 48, 49, 50, 51, 52, 53, 54, 55, 56, 57, 58, 59, 60] (by decide +kernel) (by decide +kernel)
set_option maxRecDepth 20000 in
theorem gX9_after_X9_rings : GoodIn wsX9_after (wsV RX9 145 RX9 yX9_rings wsX9_rings) := goodIn_app (goodIn_of _ (by decide +kernel)) ggX9_after_X9_rings
set_option maxRecDepth 20000 in
theorem ggX9_after_X9_round : GoodIn wsX9_after wsX9_round := goodIn_r _ [28, 15, 20, 41, 42, 43, 44, 45, 46, 47, 48, 49, 50, 51, 52, 53, 54, 55, 56, 57, 58, 59, 60] (by decide +kernel) (by decide +kernel)
set_option maxRecDepth 20000 in
theorem gX9_after_X9_round : GoodIn wsX9_after (wsV RX9 148 RX9 yX9_round wsX9_round) := goodIn_app (goodIn_of _ (by decide +kernel)) ggX9_after_X9_round
set_option maxRecDepth 20000 in
theorem ggX9_after_X9_wrongRow : GoodIn wsX9_after wsX9_wrongRow := goodIn_r _ [32, 15, 33, 34, 35, 8, 36, 20, 41, 42, 43, 44, 45, 46, 47, 48, 49, 50, 51, 52, 53, 54, 55, 56, 57, 58, 59, 60] (by decide +kernel) (by decide +kernel)
set_option maxRecDepth 20000 in
theorem gX9_after_X9_wrongRow : GoodIn wsX9_after (wsV RX9 139 RX9 yX9_wrongRow wsX9_wrongRow) := goodIn_app (goodIn_of _ (by decide +kernel)) ggX9_after_X9_wrongRow
set_option maxRecDepth 20000 in
theorem ggX9_after_X9_isTrue : GoodIn wsX9_after wsX9_isTrue := goodIn_r _ [40, 15, 20, 29, 30, 31, 8, 32, 33, 34, 35, 36, 41, 42, 43, 44, 45, 46, 47, 48, 49, 50, 51, 52, 53, 54, 55, 56, 57, 58, 59, 60] (by decide +kernel) (by decide +kernel)
set_option maxRecDepth 20000 in
theorem gX9_after_X9_isTrue : GoodIn wsX9_after (wsV RX9 151 RX9 yX9_isTrue wsX9_isTrue) := goodIn_app (goodIn_of _ (by decide +kernel)) ggX9_after_X9_isTrue
theorem dX9_after_0 : decode cX9_after 0 = .ok (.iload_n 1, 1) := by decide +kernel
theorem dX9_after_1 : decode cX9_after 1 = .ok (.iconst 0, 1) := by decide +kernel
theorem dX9_after_2 : decode cX9_after 2 = .ok (.iconst 2, 1) := by decide +kernel
theorem dX9_after_3 : decode cX9_after 3 = .ok (.invokestatic 56, 3) := by decide +kernel
theorem dX9_after_6 : decode cX9_after 6 = .ok (.ifCond .ne 5, 3) := by decide +kernel
theorem dX9_after_9 : decode cX9_after 9 = .ok (.iconst (-1), 1) := by decide +kernel
theorem dX9_after_10 : decode cX9_after 10 = .ok (.ireturn, 1) := by decide +kernel
theorem dX9_after_11 : decode cX9_after 11 = .ok (.aload_n 0, 1) := by decide +kernel
theorem dX9_after_12 : decode cX9_after 12 = .ok (.getfield 9, 3) := by decide +kernel
theorem dX9_after_15 : decode cX9_after 15 = .ok (.iconst 4, 1) := by decide +kernel
theorem dX9_after_16 : decode cX9_after 16 = .ok (.iaload, 1) := by decide +kernel
theorem dX9_after_17 : decode cX9_after 17 = .ok (.istore_n 2, 1) := by decide +kernel
theorem dX9_after_18 : decode cX9_after 18 = .ok (.aload_n 0, 1) := by decide +kernel
theorem dX9_after_19 : decode cX9_after 19 = .ok (.getfield 9, 3) := by decide +kernel
theorem dX9_after_22 : decode cX9_after 22 = .ok (.iconst 1, 1) := by decide +kernel
theorem dX9_after_23 : decode cX9_after 23 = .ok (.iaload, 1) := by decide +kernel
theorem dX9_after_24 : decode cX9_after 24 = .ok (.istore_n 3, 1) := by decide +kernel
theorem dX9_after_25 : decode cX9_after 25 = .ok (.iconst 0, 1) := by decide +kernel
theorem dX9_after_26 : decode cX9_after 26 = .ok (.istore 4, 2) := by decide +kernel
theorem dX9_after_28 : decode cX9_after 28 = .ok (.bipush 11, 2) := by decide +kernel
theorem dX9_after_30 : decode cX9_after 30 = .ok (.istore 5, 2) := by decide +kernel
theorem dX9_after_32 : decode cX9_after 32 = .ok (.iload 5, 2) := by decide +kernel
theorem dX9_after_34 : decode cX9_after 34 = .ok (.ifCond .lt 26, 3) := by decide +kernel
theorem dX9_after_37 : decode cX9_after 37 = .ok (.iconst 3, 1) := by decide +kernel
theorem dX9_after_38 : decode cX9_after 38 = .ok (.iload 4, 2) := by decide +kernel
theorem dX9_after_40 : decode cX9_after 40 = .ok (.imul, 1) := by decide +kernel
theorem dX9_after_41 : decode cX9_after 41 = .ok (.aload_n 0, 1) := by decide +kernel
theorem dX9_after_42 : decode cX9_after 42 = .ok (.getfield 9, 3) := by decide +kernel
theorem dX9_after_45 : decode cX9_after 45 = .ok (.bipush 24, 2) := by decide +kernel
theorem dX9_after_47 : decode cX9_after 47 = .ok (.iload 5, 2) := by decide +kernel
theorem dX9_after_49 : decode cX9_after 49 = .ok (.iadd, 1) := by decide +kernel
theorem dX9_after_50 : decode cX9_after 50 = .ok (.iaload, 1) := by decide +kernel
theorem dX9_after_51 : decode cX9_after 51 = .ok (.iadd, 1) := by decide +kernel
theorem dX9_after_52 : decode cX9_after 52 = .ok (.istore 4, 2) := by decide +kernel
theorem dX9_after_54 : decode cX9_after 54 = .ok (.iinc 5 (-1), 3) := by decide +kernel
theorem dX9_after_57 : decode cX9_after 57 = .ok (.goto (-25), 3) := by decide +kernel
theorem dX9_after_60 : decode cX9_after 60 = .ok (.iconst 0, 1) := by decide +kernel
theorem dX9_after_61 : decode cX9_after 61 = .ok (.istore 5, 2) := by decide +kernel
theorem dX9_after_63 : decode cX9_after 63 = .ok (.iload 5, 2) := by decide +kernel
theorem dX9_after_65 : decode cX9_after 65 = .ok (.aload_n 0, 1) := by decide +kernel
theorem dX9_after_66 : decode cX9_after 66 = .ok (.getfield 9, 3) := by decide +kernel
theorem dX9_after_69 : decode cX9_after 69 = .ok (.bipush 6, 2) := by decide +kernel
theorem dX9_after_71 : decode cX9_after 71 = .ok (.iaload, 1) := by decide +kernel
theorem dX9_after_72 : decode cX9_after 72 = .ok (.if_icmp .ge 120, 3) := by decide +kernel
theorem dX9_after_75 : decode cX9_after 75 = .ok (.aload_n 0, 1) := by decide +kernel
theorem dX9_after_76 : decode cX9_after 76 = .ok (.getfield 9, 3) := by decide +kernel
theorem dX9_after_79 : decode cX9_after 79 = .ok (.bipush 59, 2) := by decide +kernel
theorem dX9_after_81 : decode cX9_after 81 = .ok (.iconst 2, 1) := by decide +kernel
theorem dX9_after_82 : decode cX9_after 82 = .ok (.iload 5, 2) := by decide +kernel
theorem dX9_after_84 : decode cX9_after 84 = .ok (.imul, 1) := by decide +kernel
theorem dX9_after_85 : decode cX9_after 85 = .ok (.iadd, 1) := by decide +kernel
theorem dX9_after_86 : decode cX9_after 86 = .ok (.iconst 1, 1) := by decide +kernel
theorem dX9_after_87 : decode cX9_after 87 = .ok (.iadd, 1) := by decide +kernel
theorem dX9_after_88 : decode cX9_after 88 = .ok (.iaload, 1) := by decide +kernel
theorem dX9_after_89 : decode cX9_after 89 = .ok (.istore 6, 2) := by decide +kernel
theorem dX9_after_91 : decode cX9_after 91 = .ok (.aload_n 0, 1) := by decide +kernel
theorem dX9_after_92 : decode cX9_after 92 = .ok (.getfield 9, 3) := by decide +kernel
theorem dX9_after_95 : decode cX9_after 95 = .ok (.bipush 59, 2) := by decide +kernel
theorem dX9_after_97 : decode cX9_after 97 = .ok (.iconst 2, 1) := by decide +kernel
theorem dX9_after_98 : decode cX9_after 98 = .ok (.iload 5, 2) := by decide +kernel
theorem dX9_after_100 : decode cX9_after 100 = .ok (.imul, 1) := by decide +kernel
theorem dX9_after_101 : decode cX9_after 101 = .ok (.iadd, 1) := by decide +kernel
theorem dX9_after_102 : decode cX9_after 102 = .ok (.iaload, 1) := by decide +kernel
theorem dX9_after_103 : decode cX9_after 103 = .ok (.tableswitch 75 0 2 #[25, 39, 53], 25) := by decide +kernel
theorem dX9_after_128 : decode cX9_after 128 = .ok (.aload_n 0, 1) := by decide +kernel
theorem dX9_after_129 : decode cX9_after 129 = .ok (.getfield 9, 3) := by decide +kernel
theorem dX9_after_132 : decode cX9_after 132 = .ok (.bipush 24, 2) := by decide +kernel
theorem dX9_after_134 : decode cX9_after 134 = .ok (.iload 6, 2) := by decide +kernel
theorem dX9_after_136 : decode cX9_after 136 = .ok (.iadd, 1) := by decide +kernel
theorem dX9_after_137 : decode cX9_after 137 = .ok (.iconst 0, 1) := by decide +kernel
theorem dX9_after_138 : decode cX9_after 138 = .ok (.iastore, 1) := by decide +kernel
theorem dX9_after_139 : decode cX9_after 139 = .ok (.goto 47, 3) := by decide +kernel
theorem dX9_after_142 : decode cX9_after 142 = .ok (.aload_n 0, 1) := by decide +kernel
theorem dX9_after_143 : decode cX9_after 143 = .ok (.getfield 9, 3) := by decide +kernel
theorem dX9_after_146 : decode cX9_after 146 = .ok (.bipush 24, 2) := by decide +kernel
theorem dX9_after_148 : decode cX9_after 148 = .ok (.iload 6, 2) := by decide +kernel
theorem dX9_after_150 : decode cX9_after 150 = .ok (.iadd, 1) := by decide +kernel
theorem dX9_after_151 : decode cX9_after 151 = .ok (.iconst 1, 1) := by decide +kernel
theorem dX9_after_152 : decode cX9_after 152 = .ok (.iastore, 1) := by decide +kernel
theorem dX9_after_153 : decode cX9_after 153 = .ok (.goto 33, 3) := by decide +kernel
theorem dX9_after_156 : decode cX9_after 156 = .ok (.aload_n 0, 1) := by decide +kernel
theorem dX9_after_157 : decode cX9_after 157 = .ok (.getfield 9, 3) := by decide +kernel
theorem dX9_after_160 : decode cX9_after 160 = .ok (.iconst 1, 1) := by decide +kernel
theorem dX9_after_161 : decode cX9_after 161 = .ok (.iconst 0, 1) := by decide +kernel
theorem dX9_after_162 : decode cX9_after 162 = .ok (.aload_n 0, 1) := by decide +kernel
theorem dX9_after_163 : decode cX9_after 163 = .ok (.getfield 9, 3) := by decide +kernel
theorem dX9_after_166 : decode cX9_after 166 = .ok (.iconst 1, 1) := by decide +kernel
theorem dX9_after_167 : decode cX9_after 167 = .ok (.iaload, 1) := by decide +kernel
theorem dX9_after_168 : decode cX9_after 168 = .ok (.iload 6, 2) := by decide +kernel
theorem dX9_after_170 : decode cX9_after 170 = .ok (.isub, 1) := by decide +kernel
theorem dX9_after_171 : decode cX9_after 171 = .ok (.invokestatic 176, 3) := by decide +kernel
theorem dX9_after_174 : decode cX9_after 174 = .ok (.iastore, 1) := by decide +kernel
theorem dX9_after_175 : decode cX9_after 175 = .ok (.goto 11, 3) := by decide +kernel
theorem dX9_after_178 : decode cX9_after 178 = .ok (.aload_n 0, 1) := by decide +kernel
theorem dX9_after_179 : decode cX9_after 179 = .ok (.getfield 9, 3) := by decide +kernel
theorem dX9_after_182 : decode cX9_after 182 = .ok (.iconst 4, 1) := by decide +kernel
theorem dX9_after_183 : decode cX9_after 183 = .ok (.iload 6, 2) := by decide +kernel
theorem dX9_after_185 : decode cX9_after 185 = .ok (.iastore, 1) := by decide +kernel
theorem dX9_after_186 : decode cX9_after 186 = .ok (.iinc 5 1, 3) := by decide +kernel
theorem dX9_after_189 : decode cX9_after 189 = .ok (.goto (-126), 3) := by decide +kernel
theorem dX9_after_192 : decode cX9_after 192 = .ok (.aload_n 0, 1) := by decide +kernel
theorem dX9_after_193 : decode cX9_after 193 = .ok (.invokevirtual 145, 3) := by decide +kernel
theorem dX9_after_196 : decode cX9_after 196 = .ok (.iload_n 1, 1) := by decide +kernel
theorem dX9_after_197 : decode cX9_after 197 = .ok (.ifCond .ne 10, 3) := by decide +kernel
theorem dX9_after_200 : decode cX9_after 200 = .ok (.aload_n 0, 1) := by decide +kernel
theorem dX9_after_201 : decode cX9_after 201 = .ok (.invokevirtual 148, 3) := by decide +kernel
theorem dX9_after_204 : decode cX9_after 204 = .ok (.goto 19, 3) := by decide +kernel
theorem dX9_after_207 : decode cX9_after 207 = .ok (.iload_n 1, 1) := by decide +kernel
theorem dX9_after_208 : decode cX9_after 208 = .ok (.iconst 1, 1) := by decide +kernel
theorem dX9_after_209 : decode cX9_after 209 = .ok (.if_icmp .ne 10, 3) := by decide +kernel
theorem dX9_after_212 : decode cX9_after 212 = .ok (.aload_n 0, 1) := by decide +kernel
theorem dX9_after_213 : decode cX9_after 213 = .ok (.invokevirtual 139, 3) := by decide +kernel
theorem dX9_after_216 : decode cX9_after 216 = .ok (.goto 7, 3) := by decide +kernel
theorem dX9_after_219 : decode cX9_after 219 = .ok (.aload_n 0, 1) := by decide +kernel
theorem dX9_after_220 : decode cX9_after 220 = .ok (.invokevirtual 151, 3) := by decide +kernel
theorem dX9_after_223 : decode cX9_after 223 = .ok (.istore 5, 2) := by decide +kernel
theorem dX9_after_225 : decode cX9_after 225 = .ok (.aload_n 0, 1) := by decide +kernel
theorem dX9_after_226 : decode cX9_after 226 = .ok (.getfield 9, 3) := by decide +kernel
theorem dX9_after_229 : decode cX9_after 229 = .ok (.iconst 4, 1) := by decide +kernel
theorem dX9_after_230 : decode cX9_after 230 = .ok (.iload_n 2, 1) := by decide +kernel
theorem dX9_after_231 : decode cX9_after 231 = .ok (.iastore, 1) := by decide +kernel
theorem dX9_after_232 : decode cX9_after 232 = .ok (.aload_n 0, 1) := by decide +kernel
theorem dX9_after_233 : decode cX9_after 233 = .ok (.getfield 9, 3) := by decide +kernel
theorem dX9_after_236 : decode cX9_after 236 = .ok (.iconst 1, 1) := by decide +kernel
theorem dX9_after_237 : decode cX9_after 237 = .ok (.iload_n 3, 1) := by decide +kernel
theorem dX9_after_238 : decode cX9_after 238 = .ok (.iastore, 1) := by decide +kernel
theorem dX9_after_239 : decode cX9_after 239 = .ok (.iconst 0, 1) := by decide +kernel
theorem dX9_after_240 : decode cX9_after 240 = .ok (.istore 6, 2) := by decide +kernel
theorem dX9_after_242 : decode cX9_after 242 = .ok (.iload 6, 2) := by decide +kernel
theorem dX9_after_244 : decode cX9_after 244 = .ok (.bipush 12, 2) := by decide +kernel
theorem dX9_after_246 : decode cX9_after 246 = .ok (.if_icmp .ge 29, 3) := by decide +kernel
theorem dX9_after_249 : decode cX9_after 249 = .ok (.aload_n 0, 1) := by decide +kernel
theorem dX9_after_250 : decode cX9_after 250 = .ok (.getfield 9, 3) := by decide +kernel
theorem dX9_after_253 : decode cX9_after 253 = .ok (.bipush 24, 2) := by decide +kernel
theorem dX9_after_255 : decode cX9_after 255 = .ok (.iload 6, 2) := by decide +kernel
theorem dX9_after_257 : decode cX9_after 257 = .ok (.iadd, 1) := by decide +kernel
theorem dX9_after_258 : decode cX9_after 258 = .ok (.iload 4, 2) := by decide +kernel
theorem dX9_after_260 : decode cX9_after 260 = .ok (.iconst 3, 1) := by decide +kernel
theorem dX9_after_261 : decode cX9_after 261 = .ok (.irem, 1) := by decide +kernel
theorem dX9_after_262 : decode cX9_after 262 = .ok (.iastore, 1) := by decide +kernel
theorem dX9_after_263 : decode cX9_after 263 = .ok (.iload 4, 2) := by decide +kernel
theorem dX9_after_265 : decode cX9_after 265 = .ok (.iconst 3, 1) := by decide +kernel
theorem dX9_after_266 : decode cX9_after 266 = .ok (.idiv, 1) := by decide +kernel
theorem dX9_after_267 : decode cX9_after 267 = .ok (.istore 4, 2) := by decide +kernel
theorem dX9_after_269 : decode cX9_after 269 = .ok (.iinc 6 1, 3) := by decide +kernel
theorem dX9_after_272 : decode cX9_after 272 = .ok (.goto (-30), 3) := by decide +kernel
theorem dX9_after_275 : decode cX9_after 275 = .ok (.iload 5, 2) := by decide +kernel
theorem dX9_after_277 : decode cX9_after 277 = .ok (.ireturn, 1) := by decide +kernel
set_option maxRecDepth 20000 in
theorem ggX9_book_X9_within : GoodIn wsX9_book wsX9_within := goodIn_r _ [5] (by decide +kernel) (by decide +kernel)
set_option maxRecDepth 20000 in
theorem gX9_book_X9_within : GoodIn wsX9_book (va_wsS RX9 56 yX9_within wsX9_within) := goodIn_app (goodIn_of _ (by decide +kernel)) ggX9_book_X9_within
set_option maxRecDepth 20000 in
theorem ggX9_book_X9_isPlace : GoodIn wsX9_book wsX9_isPlace := goodIn_r _ [9, 1, 2, 3, 4, 5, 10, 11, 12, 13, 14, 15, 16, 17, 18, 19, 20, 21, 22, 23, 24, 25, 26, 27, 28, 29] (by decide +kernel) (by decide +kernel)
set_option maxRecDepth 20000 in
theorem gX9_book_X9_isPlace : GoodIn wsX9_book (wsV RX9 154 RX9 yX9_isPlace wsX9_isPlace) := goodIn_app (goodIn_of _ (by decide +kernel)) ggX9_book_X9_isPlace
theorem dX9_book_0 : decode cX9_book 0 = .ok (.iload_n 1, 1) := by decide +kernel
theorem dX9_book_1 : decode cX9_book 1 = .ok (.iconst (-1), 1) := by decide +kernel
theorem dX9_book_2 : decode cX9_book 2 = .ok (.if_icmp .ne 13, 3) := by decide +kernel
theorem dX9_book_5 : decode cX9_book 5 = .ok (.aload_n 0, 1) := by decide +kernel
theorem dX9_book_6 : decode cX9_book 6 = .ok (.getfield 9, 3) := by decide +kernel
theorem dX9_book_9 : decode cX9_book 9 = .ok (.bipush 7, 2) := by decide +kernel
theorem dX9_book_11 : decode cX9_book 11 = .ok (.iconst 0, 1) := by decide +kernel
theorem dX9_book_12 : decode cX9_book 12 = .ok (.iastore, 1) := by decide +kernel
theorem dX9_book_13 : decode cX9_book 13 = .ok (.iconst 0, 1) := by decide +kernel
theorem dX9_book_14 : decode cX9_book 14 = .ok (.ireturn, 1) := by decide +kernel
theorem dX9_book_15 : decode cX9_book 15 = .ok (.iload_n 1, 1) := by decide +kernel
theorem dX9_book_16 : decode cX9_book 16 = .ok (.iconst 0, 1) := by decide +kernel
theorem dX9_book_17 : decode cX9_book 17 = .ok (.sipush 192, 3) := by decide +kernel
theorem dX9_book_20 : decode cX9_book 20 = .ok (.invokestatic 56, 3) := by decide +kernel
theorem dX9_book_23 : decode cX9_book 23 = .ok (.ifCond .eq 11, 3) := by decide +kernel
theorem dX9_book_26 : decode cX9_book 26 = .ok (.aload_n 0, 1) := by decide +kernel
theorem dX9_book_27 : decode cX9_book 27 = .ok (.iload_n 2, 1) := by decide +kernel
theorem dX9_book_28 : decode cX9_book 28 = .ok (.invokevirtual 154, 3) := by decide +kernel
theorem dX9_book_31 : decode cX9_book 31 = .ok (.ifCond .ne 5, 3) := by decide +kernel
theorem dX9_book_34 : decode cX9_book 34 = .ok (.iconst (-1), 1) := by decide +kernel
theorem dX9_book_35 : decode cX9_book 35 = .ok (.ireturn, 1) := by decide +kernel
theorem dX9_book_36 : decode cX9_book 36 = .ok (.aload_n 0, 1) := by decide +kernel
theorem dX9_book_37 : decode cX9_book 37 = .ok (.getfield 9, 3) := by decide +kernel
theorem dX9_book_40 : decode cX9_book 40 = .ok (.bipush 7, 2) := by decide +kernel
theorem dX9_book_42 : decode cX9_book 42 = .ok (.iaload, 1) := by decide +kernel
theorem dX9_book_43 : decode cX9_book 43 = .ok (.bipush 8, 2) := by decide +kernel
theorem dX9_book_45 : decode cX9_book 45 = .ok (.if_icmp .ne 6, 3) := by decide +kernel
theorem dX9_book_48 : decode cX9_book 48 = .ok (.bipush (-4), 2) := by decide +kernel
theorem dX9_book_50 : decode cX9_book 50 = .ok (.ireturn, 1) := by decide +kernel
theorem dX9_book_51 : decode cX9_book 51 = .ok (.aload_n 0, 1) := by decide +kernel
theorem dX9_book_52 : decode cX9_book 52 = .ok (.getfield 9, 3) := by decide +kernel
theorem dX9_book_55 : decode cX9_book 55 = .ok (.bipush 75, 2) := by decide +kernel
theorem dX9_book_57 : decode cX9_book 57 = .ok (.iconst 2, 1) := by decide +kernel
theorem dX9_book_58 : decode cX9_book 58 = .ok (.aload_n 0, 1) := by decide +kernel
theorem dX9_book_59 : decode cX9_book 59 = .ok (.getfield 9, 3) := by decide +kernel
theorem dX9_book_62 : decode cX9_book 62 = .ok (.bipush 7, 2) := by decide +kernel
theorem dX9_book_64 : decode cX9_book 64 = .ok (.iaload, 1) := by decide +kernel
theorem dX9_book_65 : decode cX9_book 65 = .ok (.imul, 1) := by decide +kernel
theorem dX9_book_66 : decode cX9_book 66 = .ok (.iadd, 1) := by decide +kernel
theorem dX9_book_67 : decode cX9_book 67 = .ok (.iload_n 1, 1) := by decide +kernel
theorem dX9_book_68 : decode cX9_book 68 = .ok (.iastore, 1) := by decide +kernel
theorem dX9_book_69 : decode cX9_book 69 = .ok (.aload_n 0, 1) := by decide +kernel
theorem dX9_book_70 : decode cX9_book 70 = .ok (.getfield 9, 3) := by decide +kernel
theorem dX9_book_73 : decode cX9_book 73 = .ok (.bipush 75, 2) := by decide +kernel
theorem dX9_book_75 : decode cX9_book 75 = .ok (.iconst 2, 1) := by decide +kernel
theorem dX9_book_76 : decode cX9_book 76 = .ok (.aload_n 0, 1) := by decide +kernel
theorem dX9_book_77 : decode cX9_book 77 = .ok (.getfield 9, 3) := by decide +kernel
theorem dX9_book_80 : decode cX9_book 80 = .ok (.bipush 7, 2) := by decide +kernel
theorem dX9_book_82 : decode cX9_book 82 = .ok (.iaload, 1) := by decide +kernel
theorem dX9_book_83 : decode cX9_book 83 = .ok (.imul, 1) := by decide +kernel
theorem dX9_book_84 : decode cX9_book 84 = .ok (.iadd, 1) := by decide +kernel
theorem dX9_book_85 : decode cX9_book 85 = .ok (.iconst 1, 1) := by decide +kernel
theorem dX9_book_86 : decode cX9_book 86 = .ok (.iadd, 1) := by decide +kernel
theorem dX9_book_87 : decode cX9_book 87 = .ok (.iload_n 2, 1) := by decide +kernel
theorem dX9_book_88 : decode cX9_book 88 = .ok (.iastore, 1) := by decide +kernel
theorem dX9_book_89 : decode cX9_book 89 = .ok (.aload_n 0, 1) := by decide +kernel
theorem dX9_book_90 : decode cX9_book 90 = .ok (.getfield 9, 3) := by decide +kernel
theorem dX9_book_93 : decode cX9_book 93 = .ok (.bipush 7, 2) := by decide +kernel
theorem dX9_book_95 : decode cX9_book 95 = .ok (.dup2, 1) := by decide +kernel
theorem dX9_book_96 : decode cX9_book 96 = .ok (.iaload, 1) := by decide +kernel
theorem dX9_book_97 : decode cX9_book 97 = .ok (.iconst 1, 1) := by decide +kernel
theorem dX9_book_98 : decode cX9_book 98 = .ok (.iadd, 1) := by decide +kernel
theorem dX9_book_99 : decode cX9_book 99 = .ok (.dup_x2, 1) := by decide +kernel
theorem dX9_book_100 : decode cX9_book 100 = .ok (.iastore, 1) := by decide +kernel
theorem dX9_book_101 : decode cX9_book 101 = .ok (.ireturn, 1) := by decide +kernel
set_option maxRecDepth 20000 in
theorem ggX9_looked_X9_rings : GoodIn wsX9_looked wsX9_rings := goodIn_r _ [8, 1, 3, 2, 9, 10, 11, 7, 12, 13, 14, 15, 16, 17, 18, 19, 20, 21, 22, 23, 24, 25, 26, 27, 28, 29, 30, 31, 32, 33, 34, 35, 36, 37] (by decide +kernel) (by decide +kernel)
set_option maxRecDepth 20000 in
theorem gX9_looked_X9_rings : GoodIn wsX9_looked (wsV RX9 145 RX9 yX9_rings wsX9_rings) := goodIn_app (goodIn_of _ (by decide +kernel)) ggX9_looked_X9_rings
theorem dX9_looked_0 : decode cX9_looked 0 = .ok (.aload_n 0, 1) := by decide +kernel
theorem dX9_looked_1 : decode cX9_looked 1 = .ok (.invokevirtual 145, 3) := by decide +kernel
theorem dX9_looked_4 : decode cX9_looked 4 = .ok (.iconst 0, 1) := by decide +kernel
theorem dX9_looked_5 : decode cX9_looked 5 = .ok (.istore_n 1, 1) := by decide +kernel
theorem dX9_looked_6 : decode cX9_looked 6 = .ok (.iload_n 1, 1) := by decide +kernel
theorem dX9_looked_7 : decode cX9_looked 7 = .ok (.aload_n 0, 1) := by decide +kernel
theorem dX9_looked_8 : decode cX9_looked 8 = .ok (.getfield 9, 3) := by decide +kernel
theorem dX9_looked_11 : decode cX9_looked 11 = .ok (.bipush 7, 2) := by decide +kernel
theorem dX9_looked_13 : decode cX9_looked 13 = .ok (.iaload, 1) := by decide +kernel
theorem dX9_looked_14 : decode cX9_looked 14 = .ok (.if_icmp .ge 56, 3) := by decide +kernel
theorem dX9_looked_17 : decode cX9_looked 17 = .ok (.aload_n 0, 1) := by decide +kernel
theorem dX9_looked_18 : decode cX9_looked 18 = .ok (.getfield 9, 3) := by decide +kernel
theorem dX9_looked_21 : decode cX9_looked 21 = .ok (.bipush 75, 2) := by decide +kernel
theorem dX9_looked_23 : decode cX9_looked 23 = .ok (.iconst 2, 1) := by decide +kernel
theorem dX9_looked_24 : decode cX9_looked 24 = .ok (.iload_n 1, 1) := by decide +kernel
theorem dX9_looked_25 : decode cX9_looked 25 = .ok (.imul, 1) := by decide +kernel
theorem dX9_looked_26 : decode cX9_looked 26 = .ok (.iadd, 1) := by decide +kernel
theorem dX9_looked_27 : decode cX9_looked 27 = .ok (.iaload, 1) := by decide +kernel
theorem dX9_looked_28 : decode cX9_looked 28 = .ok (.istore_n 2, 1) := by decide +kernel
theorem dX9_looked_29 : decode cX9_looked 29 = .ok (.iload_n 2, 1) := by decide +kernel
theorem dX9_looked_30 : decode cX9_looked 30 = .ok (.aload_n 0, 1) := by decide +kernel
theorem dX9_looked_31 : decode cX9_looked 31 = .ok (.getfield 129, 3) := by decide +kernel
theorem dX9_looked_34 : decode cX9_looked 34 = .ok (.if_icmp .gt 28, 3) := by decide +kernel
theorem dX9_looked_37 : decode cX9_looked 37 = .ok (.aload_n 0, 1) := by decide +kernel
theorem dX9_looked_38 : decode cX9_looked 38 = .ok (.getfield 18, 3) := by decide +kernel
theorem dX9_looked_41 : decode cX9_looked 41 = .ok (.bipush 8, 2) := by decide +kernel
theorem dX9_looked_43 : decode cX9_looked 43 = .ok (.iload_n 2, 1) := by decide +kernel
theorem dX9_looked_44 : decode cX9_looked 44 = .ok (.imul, 1) := by decide +kernel
theorem dX9_looked_45 : decode cX9_looked 45 = .ok (.iaload, 1) := by decide +kernel
theorem dX9_looked_46 : decode cX9_looked 46 = .ok (.aload_n 0, 1) := by decide +kernel
theorem dX9_looked_47 : decode cX9_looked 47 = .ok (.getfield 9, 3) := by decide +kernel
theorem dX9_looked_50 : decode cX9_looked 50 = .ok (.bipush 75, 2) := by decide +kernel
theorem dX9_looked_52 : decode cX9_looked 52 = .ok (.iconst 2, 1) := by decide +kernel
theorem dX9_looked_53 : decode cX9_looked 53 = .ok (.iload_n 1, 1) := by decide +kernel
theorem dX9_looked_54 : decode cX9_looked 54 = .ok (.imul, 1) := by decide +kernel
theorem dX9_looked_55 : decode cX9_looked 55 = .ok (.iadd, 1) := by decide +kernel
theorem dX9_looked_56 : decode cX9_looked 56 = .ok (.iconst 1, 1) := by decide +kernel
theorem dX9_looked_57 : decode cX9_looked 57 = .ok (.iadd, 1) := by decide +kernel
theorem dX9_looked_58 : decode cX9_looked 58 = .ok (.iaload, 1) := by decide +kernel
theorem dX9_looked_59 : decode cX9_looked 59 = .ok (.if_icmp .eq 5, 3) := by decide +kernel
theorem dX9_looked_62 : decode cX9_looked 62 = .ok (.iload_n 1, 1) := by decide +kernel
theorem dX9_looked_63 : decode cX9_looked 63 = .ok (.ireturn, 1) := by decide +kernel
theorem dX9_looked_64 : decode cX9_looked 64 = .ok (.iinc 1 1, 3) := by decide +kernel
theorem dX9_looked_67 : decode cX9_looked 67 = .ok (.goto (-61), 3) := by decide +kernel
theorem dX9_looked_70 : decode cX9_looked 70 = .ok (.bipush (-5), 2) := by decide +kernel
theorem dX9_looked_72 : decode cX9_looked 72 = .ok (.ireturn, 1) := by decide +kernel
set_option maxRecDepth 20000 in
theorem ggX9_isTape_X9_within : GoodIn wsX9_isTape wsX9_within := goodIn_r _ [4] (by decide +kernel) (by decide +kernel)
set_option maxRecDepth 20000 in
theorem gX9_isTape_X9_within : GoodIn wsX9_isTape (va_wsS RX9 56 yX9_within wsX9_within) := goodIn_app (goodIn_of _ (by decide +kernel)) ggX9_isTape_X9_within
theorem dX9_isTape_0 : decode cX9_isTape 0 = .ok (.iload_n 0, 1) := by decide +kernel
theorem dX9_isTape_1 : decode cX9_isTape 1 = .ok (.iconst 0, 1) := by decide +kernel
theorem dX9_isTape_2 : decode cX9_isTape 2 = .ok (.iconst 5, 1) := by decide +kernel
theorem dX9_isTape_3 : decode cX9_isTape 3 = .ok (.invokestatic 56, 3) := by decide +kernel
theorem dX9_isTape_6 : decode cX9_isTape 6 = .ok (.ireturn, 1) := by decide +kernel
set_option maxRecDepth 20000 in
theorem ggX9_judge_X9_rings : GoodIn wsX9_judge wsX9_rings := goodIn_r _ [11, 3, 6, 1, 12, 13, 14, 10, 15, 16, 17, 18, 19, 20, 27, 28, 29, 30, 31, 32, 33, 34, 35, 36, 37, 38, 39, 40, 41, 42, 43, 44, 45, 46] (by decide +kernel) (by decide +kernel)
set_option maxRecDepth 20000 in
theorem gX9_judge_X9_rings : GoodIn wsX9_judge (wsV RX9 145 RX9 yX9_rings wsX9_rings) := goodIn_app (goodIn_of _ (by decide +kernel)) ggX9_judge_X9_rings
set_option maxRecDepth 20000 in
theorem ggX9_judge_X9_within : GoodIn wsX9_judge wsX9_within := goodIn_r _ [23] (by decide +kernel) (by decide +kernel)
set_option maxRecDepth 20000 in
theorem gX9_judge_X9_within : GoodIn wsX9_judge (va_wsS RX9 56 yX9_within wsX9_within) := goodIn_app (goodIn_of _ (by decide +kernel)) ggX9_judge_X9_within
set_option maxRecDepth 20000 in
theorem ggX9_judge_X9_isTape : GoodIn wsX9_judge wsX9_isTape := goodIn_r _ [26, 21, 22, 10, 23] (by decide +kernel) (by decide +kernel)
set_option maxRecDepth 20000 in
theorem gX9_judge_X9_isTape : GoodIn wsX9_judge (va_wsS RX9 181 yX9_isTape wsX9_isTape) := goodIn_app (goodIn_of _ (by decide +kernel)) ggX9_judge_X9_isTape
theorem dX9_judge_0 : decode cX9_judge 0 = .ok (.aload_n 0, 1) := by decide +kernel
theorem dX9_judge_1 : decode cX9_judge 1 = .ok (.invokevirtual 145, 3) := by decide +kernel
theorem dX9_judge_4 : decode cX9_judge 4 = .ok (.iload_n 1, 1) := by decide +kernel
theorem dX9_judge_5 : decode cX9_judge 5 = .ok (.iconst 0, 1) := by decide +kernel
theorem dX9_judge_6 : decode cX9_judge 6 = .ok (.aload_n 0, 1) := by decide +kernel
theorem dX9_judge_7 : decode cX9_judge 7 = .ok (.getfield 129, 3) := by decide +kernel
theorem dX9_judge_10 : decode cX9_judge 10 = .ok (.invokestatic 56, 3) := by decide +kernel
theorem dX9_judge_13 : decode cX9_judge 13 = .ok (.ifCond .eq 10, 3) := by decide +kernel
theorem dX9_judge_16 : decode cX9_judge 16 = .ok (.iload_n 2, 1) := by decide +kernel
theorem dX9_judge_17 : decode cX9_judge 17 = .ok (.invokestatic 181, 3) := by decide +kernel
theorem dX9_judge_20 : decode cX9_judge 20 = .ok (.ifCond .ne 5, 3) := by decide +kernel
theorem dX9_judge_23 : decode cX9_judge 23 = .ok (.iconst (-1), 1) := by decide +kernel
theorem dX9_judge_24 : decode cX9_judge 24 = .ok (.ireturn, 1) := by decide +kernel
theorem dX9_judge_25 : decode cX9_judge 25 = .ok (.aload_n 0, 1) := by decide +kernel
theorem dX9_judge_26 : decode cX9_judge 26 = .ok (.getfield 39, 3) := by decide +kernel
theorem dX9_judge_29 : decode cX9_judge 29 = .ok (.iload_n 2, 1) := by decide +kernel
theorem dX9_judge_30 : decode cX9_judge 30 = .ok (.iaload, 1) := by decide +kernel
theorem dX9_judge_31 : decode cX9_judge 31 = .ok (.iconst 1, 1) := by decide +kernel
theorem dX9_judge_32 : decode cX9_judge 32 = .ok (.if_icmp .le 6, 3) := by decide +kernel
theorem dX9_judge_35 : decode cX9_judge 35 = .ok (.bipush (-12), 2) := by decide +kernel
theorem dX9_judge_37 : decode cX9_judge 37 = .ok (.ireturn, 1) := by decide +kernel
theorem dX9_judge_38 : decode cX9_judge 38 = .ok (.aload_n 0, 1) := by decide +kernel
theorem dX9_judge_39 : decode cX9_judge 39 = .ok (.getfield 39, 3) := by decide +kernel
theorem dX9_judge_42 : decode cX9_judge 42 = .ok (.iload_n 2, 1) := by decide +kernel
theorem dX9_judge_43 : decode cX9_judge 43 = .ok (.iaload, 1) := by decide +kernel
theorem dX9_judge_44 : decode cX9_judge 44 = .ok (.ifCond .eq 7, 3) := by decide +kernel
theorem dX9_judge_47 : decode cX9_judge 47 = .ok (.iload_n 3, 1) := by decide +kernel
theorem dX9_judge_48 : decode cX9_judge 48 = .ok (.ifCond .ge 6, 3) := by decide +kernel
theorem dX9_judge_51 : decode cX9_judge 51 = .ok (.bipush 100, 2) := by decide +kernel
theorem dX9_judge_53 : decode cX9_judge 53 = .ok (.ireturn, 1) := by decide +kernel
theorem dX9_judge_54 : decode cX9_judge 54 = .ok (.iconst 0, 1) := by decide +kernel
theorem dX9_judge_55 : decode cX9_judge 55 = .ok (.istore 4, 2) := by decide +kernel
theorem dX9_judge_57 : decode cX9_judge 57 = .ok (.iload 4, 2) := by decide +kernel
theorem dX9_judge_59 : decode cX9_judge 59 = .ok (.aload_n 0, 1) := by decide +kernel
theorem dX9_judge_60 : decode cX9_judge 60 = .ok (.getfield 9, 3) := by decide +kernel
theorem dX9_judge_63 : decode cX9_judge 63 = .ok (.iconst 0, 1) := by decide +kernel
theorem dX9_judge_64 : decode cX9_judge 64 = .ok (.iaload, 1) := by decide +kernel
theorem dX9_judge_65 : decode cX9_judge 65 = .ok (.if_icmp .ge 68, 3) := by decide +kernel
theorem dX9_judge_68 : decode cX9_judge 68 = .ok (.iload_n 3, 1) := by decide +kernel
theorem dX9_judge_69 : decode cX9_judge 69 = .ok (.i2l, 1) := by decide +kernel
theorem dX9_judge_70 : decode cX9_judge 70 = .ok (.iload 4, 2) := by decide +kernel
theorem dX9_judge_72 : decode cX9_judge 72 = .ok (.i2l, 1) := by decide +kernel
theorem dX9_judge_73 : decode cX9_judge 73 = .ok (.ladd, 1) := by decide +kernel
theorem dX9_judge_74 : decode cX9_judge 74 = .ok (.aload_n 0, 1) := by decide +kernel
theorem dX9_judge_75 : decode cX9_judge 75 = .ok (.getfield 42, 3) := by decide +kernel
theorem dX9_judge_78 : decode cX9_judge 78 = .ok (.iload_n 2, 1) := by decide +kernel
theorem dX9_judge_79 : decode cX9_judge 79 = .ok (.iaload, 1) := by decide +kernel
theorem dX9_judge_80 : decode cX9_judge 80 = .ok (.i2l, 1) := by decide +kernel
theorem dX9_judge_81 : decode cX9_judge 81 = .ok (.lcmp, 1) := by decide +kernel
theorem dX9_judge_82 : decode cX9_judge 82 = .ok (.ifCond .lt 9, 3) := by decide +kernel
theorem dX9_judge_85 : decode cX9_judge 85 = .ok (.bipush 100, 2) := by decide +kernel
theorem dX9_judge_87 : decode cX9_judge 87 = .ok (.iload 4, 2) := by decide +kernel
theorem dX9_judge_89 : decode cX9_judge 89 = .ok (.iadd, 1) := by decide +kernel
theorem dX9_judge_90 : decode cX9_judge 90 = .ok (.ireturn, 1) := by decide +kernel
theorem dX9_judge_91 : decode cX9_judge 91 = .ok (.aload_n 0, 1) := by decide +kernel
theorem dX9_judge_92 : decode cX9_judge 92 = .ok (.getfield 45, 3) := by decide +kernel
theorem dX9_judge_95 : decode cX9_judge 95 = .ok (.bipush 60, 2) := by decide +kernel
theorem dX9_judge_97 : decode cX9_judge 97 = .ok (.iload_n 2, 1) := by decide +kernel
theorem dX9_judge_98 : decode cX9_judge 98 = .ok (.imul, 1) := by decide +kernel
theorem dX9_judge_99 : decode cX9_judge 99 = .ok (.iload_n 3, 1) := by decide +kernel
theorem dX9_judge_100 : decode cX9_judge 100 = .ok (.iadd, 1) := by decide +kernel
theorem dX9_judge_101 : decode cX9_judge 101 = .ok (.iload 4, 2) := by decide +kernel
theorem dX9_judge_103 : decode cX9_judge 103 = .ok (.iadd, 1) := by decide +kernel
theorem dX9_judge_104 : decode cX9_judge 104 = .ok (.laload, 1) := by decide +kernel
theorem dX9_judge_105 : decode cX9_judge 105 = .ok (.aload_n 0, 1) := by decide +kernel
theorem dX9_judge_106 : decode cX9_judge 106 = .ok (.getfield 18, 3) := by decide +kernel
theorem dX9_judge_109 : decode cX9_judge 109 = .ok (.bipush 8, 2) := by decide +kernel
theorem dX9_judge_111 : decode cX9_judge 111 = .ok (.iload_n 1, 1) := by decide +kernel
theorem dX9_judge_112 : decode cX9_judge 112 = .ok (.imul, 1) := by decide +kernel
theorem dX9_judge_113 : decode cX9_judge 113 = .ok (.iload 4, 2) := by decide +kernel
theorem dX9_judge_115 : decode cX9_judge 115 = .ok (.iadd, 1) := by decide +kernel
theorem dX9_judge_116 : decode cX9_judge 116 = .ok (.iaload, 1) := by decide +kernel
theorem dX9_judge_117 : decode cX9_judge 117 = .ok (.i2l, 1) := by decide +kernel
theorem dX9_judge_118 : decode cX9_judge 118 = .ok (.lcmp, 1) := by decide +kernel
theorem dX9_judge_119 : decode cX9_judge 119 = .ok (.ifCond .eq 8, 3) := by decide +kernel
theorem dX9_judge_122 : decode cX9_judge 122 = .ok (.iload 4, 2) := by decide +kernel
theorem dX9_judge_124 : decode cX9_judge 124 = .ok (.iconst 1, 1) := by decide +kernel
theorem dX9_judge_125 : decode cX9_judge 125 = .ok (.iadd, 1) := by decide +kernel
theorem dX9_judge_126 : decode cX9_judge 126 = .ok (.ireturn, 1) := by decide +kernel
theorem dX9_judge_127 : decode cX9_judge 127 = .ok (.iinc 4 1, 3) := by decide +kernel
theorem dX9_judge_130 : decode cX9_judge 130 = .ok (.goto (-73), 3) := by decide +kernel
theorem dX9_judge_133 : decode cX9_judge 133 = .ok (.bipush (-5), 2) := by decide +kernel
theorem dX9_judge_135 : decode cX9_judge 135 = .ok (.ireturn, 1) := by decide +kernel
theorem dX9_image_0 : decode cX9_image 0 = .ok (.aload_n 0, 1) := by decide +kernel
theorem dX9_image_1 : decode cX9_image 1 = .ok (.iconst 1, 1) := by decide +kernel
theorem dX9_image_2 : decode cX9_image 2 = .ok (.putfield 184, 3) := by decide +kernel
theorem dX9_image_5 : decode cX9_image 5 = .ok (.iconst 0, 1) := by decide +kernel
theorem dX9_image_6 : decode cX9_image 6 = .ok (.istore_n 1, 1) := by decide +kernel
theorem dX9_image_7 : decode cX9_image 7 = .ok (.iload_n 1, 1) := by decide +kernel
theorem dX9_image_8 : decode cX9_image 8 = .ok (.bipush 91, 2) := by decide +kernel
theorem dX9_image_10 : decode cX9_image 10 = .ok (.if_icmp .ge 21, 3) := by decide +kernel
theorem dX9_image_13 : decode cX9_image 13 = .ok (.aload_n 0, 1) := by decide +kernel
theorem dX9_image_14 : decode cX9_image 14 = .ok (.getfield 15, 3) := by decide +kernel
theorem dX9_image_17 : decode cX9_image 17 = .ok (.iload_n 1, 1) := by decide +kernel
theorem dX9_image_18 : decode cX9_image 18 = .ok (.aload_n 0, 1) := by decide +kernel
theorem dX9_image_19 : decode cX9_image 19 = .ok (.getfield 9, 3) := by decide +kernel
theorem dX9_image_22 : decode cX9_image 22 = .ok (.iload_n 1, 1) := by decide +kernel
theorem dX9_image_23 : decode cX9_image 23 = .ok (.iaload, 1) := by decide +kernel
theorem dX9_image_24 : decode cX9_image 24 = .ok (.iastore, 1) := by decide +kernel
theorem dX9_image_25 : decode cX9_image 25 = .ok (.iinc 1 1, 3) := by decide +kernel
theorem dX9_image_28 : decode cX9_image 28 = .ok (.goto (-21), 3) := by decide +kernel
theorem dX9_image_31 : decode cX9_image 31 = .ok (.aload_n 0, 1) := by decide +kernel
theorem dX9_image_32 : decode cX9_image 32 = .ok (.getfield 9, 3) := by decide +kernel
theorem dX9_image_35 : decode cX9_image 35 = .ok (.iconst 1, 1) := by decide +kernel
theorem dX9_image_36 : decode cX9_image 36 = .ok (.iaload, 1) := by decide +kernel
theorem dX9_image_37 : decode cX9_image 37 = .ok (.ireturn, 1) := by decide +kernel
theorem dX9_undo_0 : decode cX9_undo 0 = .ok (.aload_n 0, 1) := by decide +kernel
theorem dX9_undo_1 : decode cX9_undo 1 = .ok (.getfield 184, 3) := by decide +kernel
theorem dX9_undo_4 : decode cX9_undo 4 = .ok (.ifCond .ne 6, 3) := by decide +kernel
theorem dX9_undo_7 : decode cX9_undo 7 = .ok (.bipush (-3), 2) := by decide +kernel
theorem dX9_undo_9 : decode cX9_undo 9 = .ok (.ireturn, 1) := by decide +kernel
theorem dX9_undo_10 : decode cX9_undo 10 = .ok (.iconst 0, 1) := by decide +kernel
theorem dX9_undo_11 : decode cX9_undo 11 = .ok (.istore_n 1, 1) := by decide +kernel
theorem dX9_undo_12 : decode cX9_undo 12 = .ok (.iload_n 1, 1) := by decide +kernel
theorem dX9_undo_13 : decode cX9_undo 13 = .ok (.bipush 91, 2) := by decide +kernel
theorem dX9_undo_15 : decode cX9_undo 15 = .ok (.if_icmp .ge 21, 3) := by decide +kernel
theorem dX9_undo_18 : decode cX9_undo 18 = .ok (.aload_n 0, 1) := by decide +kernel
theorem dX9_undo_19 : decode cX9_undo 19 = .ok (.getfield 9, 3) := by decide +kernel
theorem dX9_undo_22 : decode cX9_undo 22 = .ok (.iload_n 1, 1) := by decide +kernel
theorem dX9_undo_23 : decode cX9_undo 23 = .ok (.aload_n 0, 1) := by decide +kernel
theorem dX9_undo_24 : decode cX9_undo 24 = .ok (.getfield 15, 3) := by decide +kernel
theorem dX9_undo_27 : decode cX9_undo 27 = .ok (.iload_n 1, 1) := by decide +kernel
theorem dX9_undo_28 : decode cX9_undo 28 = .ok (.iaload, 1) := by decide +kernel
theorem dX9_undo_29 : decode cX9_undo 29 = .ok (.iastore, 1) := by decide +kernel
theorem dX9_undo_30 : decode cX9_undo 30 = .ok (.iinc 1 1, 3) := by decide +kernel
theorem dX9_undo_33 : decode cX9_undo 33 = .ok (.goto (-21), 3) := by decide +kernel
theorem dX9_undo_36 : decode cX9_undo 36 = .ok (.aload_n 0, 1) := by decide +kernel
theorem dX9_undo_37 : decode cX9_undo 37 = .ok (.getfield 9, 3) := by decide +kernel
theorem dX9_undo_40 : decode cX9_undo 40 = .ok (.iconst 1, 1) := by decide +kernel
theorem dX9_undo_41 : decode cX9_undo 41 = .ok (.iaload, 1) := by decide +kernel
theorem dX9_undo_42 : decode cX9_undo 42 = .ok (.ireturn, 1) := by decide +kernel
set_option maxRecDepth 20000 in
theorem ggX9_count_X9_within : GoodIn wsX9_count wsX9_within := goodIn_r _ [6] (by decide +kernel) (by decide +kernel)
set_option maxRecDepth 20000 in
theorem gX9_count_X9_within : GoodIn wsX9_count (va_wsS RX9 56 yX9_within wsX9_within) := goodIn_app (goodIn_of _ (by decide +kernel)) ggX9_count_X9_within
theorem dX9_count_0 : decode cX9_count 0 = .ok (.iload_n 1, 1) := by decide +kernel
theorem dX9_count_1 : decode cX9_count 1 = .ok (.iconst 0, 1) := by decide +kernel
theorem dX9_count_2 : decode cX9_count 2 = .ok (.iconst 2, 1) := by decide +kernel
theorem dX9_count_3 : decode cX9_count 3 = .ok (.invokestatic 56, 3) := by decide +kernel
theorem dX9_count_6 : decode cX9_count 6 = .ok (.ifCond .eq 14, 3) := by decide +kernel
theorem dX9_count_9 : decode cX9_count 9 = .ok (.aload_n 0, 1) := by decide +kernel
theorem dX9_count_10 : decode cX9_count 10 = .ok (.getfield 9, 3) := by decide +kernel
theorem dX9_count_13 : decode cX9_count 13 = .ok (.iconst 5, 1) := by decide +kernel
theorem dX9_count_14 : decode cX9_count 14 = .ok (.iload_n 1, 1) := by decide +kernel
theorem dX9_count_15 : decode cX9_count 15 = .ok (.iadd, 1) := by decide +kernel
theorem dX9_count_16 : decode cX9_count 16 = .ok (.iaload, 1) := by decide +kernel
theorem dX9_count_17 : decode cX9_count 17 = .ok (.goto 17, 3) := by decide +kernel
theorem dX9_count_20 : decode cX9_count 20 = .ok (.iload_n 1, 1) := by decide +kernel
theorem dX9_count_21 : decode cX9_count 21 = .ok (.iconst 3, 1) := by decide +kernel
theorem dX9_count_22 : decode cX9_count 22 = .ok (.if_icmp .ne 10, 3) := by decide +kernel
theorem dX9_count_25 : decode cX9_count 25 = .ok (.aload_n 0, 1) := by decide +kernel
theorem dX9_count_26 : decode cX9_count 26 = .ok (.getfield 71, 3) := by decide +kernel
theorem dX9_count_29 : decode cX9_count 29 = .ok (.goto 5, 3) := by decide +kernel
theorem dX9_count_32 : decode cX9_count 32 = .ok (.bipush (-2), 2) := by decide +kernel
theorem dX9_count_34 : decode cX9_count 34 = .ok (.ireturn, 1) := by decide +kernel
set_option maxRecDepth 20000 in
theorem ggX9_tape_X9_isTape : GoodIn wsX9_tape wsX9_isTape := goodIn_r _ [7, 8, 9, 6, 10] (by decide +kernel) (by decide +kernel)
set_option maxRecDepth 20000 in
theorem gX9_tape_X9_isTape : GoodIn wsX9_tape (va_wsS RX9 181 yX9_isTape wsX9_isTape) := goodIn_app (goodIn_of _ (by decide +kernel)) ggX9_tape_X9_isTape
set_option maxRecDepth 20000 in
theorem ggX9_tape_X9_within : GoodIn wsX9_tape wsX9_within := goodIn_r _ [10] (by decide +kernel) (by decide +kernel)
set_option maxRecDepth 20000 in
theorem gX9_tape_X9_within : GoodIn wsX9_tape (va_wsS RX9 56 yX9_within wsX9_within) := goodIn_app (goodIn_of _ (by decide +kernel)) ggX9_tape_X9_within
theorem dX9_tape_0 : decode cX9_tape 0 = .ok (.iload_n 1, 1) := by decide +kernel
theorem dX9_tape_1 : decode cX9_tape 1 = .ok (.invokestatic 181, 3) := by decide +kernel
theorem dX9_tape_4 : decode cX9_tape 4 = .ok (.ifCond .ne 5, 3) := by decide +kernel
theorem dX9_tape_7 : decode cX9_tape 7 = .ok (.iconst (-1), 1) := by decide +kernel
theorem dX9_tape_8 : decode cX9_tape 8 = .ok (.ireturn, 1) := by decide +kernel
theorem dX9_tape_9 : decode cX9_tape 9 = .ok (.iload_n 2, 1) := by decide +kernel
theorem dX9_tape_10 : decode cX9_tape 10 = .ok (.iconst (-1), 1) := by decide +kernel
theorem dX9_tape_11 : decode cX9_tape 11 = .ok (.iconst 4, 1) := by decide +kernel
theorem dX9_tape_12 : decode cX9_tape 12 = .ok (.invokestatic 56, 3) := by decide +kernel
theorem dX9_tape_15 : decode cX9_tape 15 = .ok (.ifCond .eq 13, 3) := by decide +kernel
theorem dX9_tape_18 : decode cX9_tape 18 = .ok (.iload_n 2, 1) := by decide +kernel
theorem dX9_tape_19 : decode cX9_tape 19 = .ok (.ifCond .lt 12, 3) := by decide +kernel
theorem dX9_tape_22 : decode cX9_tape 22 = .ok (.iload_n 3, 1) := by decide +kernel
theorem dX9_tape_23 : decode cX9_tape 23 = .ok (.bipush 60, 2) := by decide +kernel
theorem dX9_tape_25 : decode cX9_tape 25 = .ok (.if_icmp .le 6, 3) := by decide +kernel
theorem dX9_tape_28 : decode cX9_tape 28 = .ok (.bipush (-2), 2) := by decide +kernel
theorem dX9_tape_30 : decode cX9_tape 30 = .ok (.ireturn, 1) := by decide +kernel
theorem dX9_tape_31 : decode cX9_tape 31 = .ok (.iload_n 2, 1) := by decide +kernel
theorem dX9_tape_32 : decode cX9_tape 32 = .ok (.ifCond .lt 10, 3) := by decide +kernel
theorem dX9_tape_35 : decode cX9_tape 35 = .ok (.iload_n 3, 1) := by decide +kernel
theorem dX9_tape_36 : decode cX9_tape 36 = .ok (.ifCond .ge 6, 3) := by decide +kernel
theorem dX9_tape_39 : decode cX9_tape 39 = .ok (.bipush (-14), 2) := by decide +kernel
theorem dX9_tape_41 : decode cX9_tape 41 = .ok (.ireturn, 1) := by decide +kernel
theorem dX9_tape_42 : decode cX9_tape 42 = .ok (.aload_n 0, 1) := by decide +kernel
theorem dX9_tape_43 : decode cX9_tape 43 = .ok (.getfield 39, 3) := by decide +kernel
theorem dX9_tape_46 : decode cX9_tape 46 = .ok (.iload_n 1, 1) := by decide +kernel
theorem dX9_tape_47 : decode cX9_tape 47 = .ok (.iload_n 2, 1) := by decide +kernel
theorem dX9_tape_48 : decode cX9_tape 48 = .ok (.iconst 1, 1) := by decide +kernel
theorem dX9_tape_49 : decode cX9_tape 49 = .ok (.iadd, 1) := by decide +kernel
theorem dX9_tape_50 : decode cX9_tape 50 = .ok (.iastore, 1) := by decide +kernel
theorem dX9_tape_51 : decode cX9_tape 51 = .ok (.aload_n 0, 1) := by decide +kernel
theorem dX9_tape_52 : decode cX9_tape 52 = .ok (.getfield 42, 3) := by decide +kernel
theorem dX9_tape_55 : decode cX9_tape 55 = .ok (.iload_n 1, 1) := by decide +kernel
theorem dX9_tape_56 : decode cX9_tape 56 = .ok (.iload_n 2, 1) := by decide +kernel
theorem dX9_tape_57 : decode cX9_tape 57 = .ok (.ifCond .ge 7, 3) := by decide +kernel
theorem dX9_tape_60 : decode cX9_tape 60 = .ok (.iconst 0, 1) := by decide +kernel
theorem dX9_tape_61 : decode cX9_tape 61 = .ok (.goto 4, 3) := by decide +kernel
theorem dX9_tape_64 : decode cX9_tape 64 = .ok (.iload_n 3, 1) := by decide +kernel
theorem dX9_tape_65 : decode cX9_tape 65 = .ok (.iastore, 1) := by decide +kernel
theorem dX9_tape_66 : decode cX9_tape 66 = .ok (.iconst 0, 1) := by decide +kernel
theorem dX9_tape_67 : decode cX9_tape 67 = .ok (.istore 4, 2) := by decide +kernel
theorem dX9_tape_69 : decode cX9_tape 69 = .ok (.iload 4, 2) := by decide +kernel
theorem dX9_tape_71 : decode cX9_tape 71 = .ok (.bipush 60, 2) := by decide +kernel
theorem dX9_tape_73 : decode cX9_tape 73 = .ok (.if_icmp .ge 22, 3) := by decide +kernel
theorem dX9_tape_76 : decode cX9_tape 76 = .ok (.aload_n 0, 1) := by decide +kernel
theorem dX9_tape_77 : decode cX9_tape 77 = .ok (.getfield 45, 3) := by decide +kernel
theorem dX9_tape_80 : decode cX9_tape 80 = .ok (.bipush 60, 2) := by decide +kernel
theorem dX9_tape_82 : decode cX9_tape 82 = .ok (.iload_n 1, 1) := by decide +kernel
theorem dX9_tape_83 : decode cX9_tape 83 = .ok (.imul, 1) := by decide +kernel
theorem dX9_tape_84 : decode cX9_tape 84 = .ok (.iload 4, 2) := by decide +kernel
theorem dX9_tape_86 : decode cX9_tape 86 = .ok (.iadd, 1) := by decide +kernel
theorem dX9_tape_87 : decode cX9_tape 87 = .ok (.lconst 0, 1) := by decide +kernel
theorem dX9_tape_88 : decode cX9_tape 88 = .ok (.lastore, 1) := by decide +kernel
theorem dX9_tape_89 : decode cX9_tape 89 = .ok (.iinc 4 1, 3) := by decide +kernel
theorem dX9_tape_92 : decode cX9_tape 92 = .ok (.goto (-23), 3) := by decide +kernel
theorem dX9_tape_95 : decode cX9_tape 95 = .ok (.iconst 1, 1) := by decide +kernel
theorem dX9_tape_96 : decode cX9_tape 96 = .ok (.ireturn, 1) := by decide +kernel
set_option maxRecDepth 20000 in
theorem ggX9_item_X9_isTape : GoodIn wsX9_item wsX9_isTape := goodIn_r _ [7, 8, 9, 6, 10] (by decide +kernel) (by decide +kernel)
set_option maxRecDepth 20000 in
theorem gX9_item_X9_isTape : GoodIn wsX9_item (va_wsS RX9 181 yX9_isTape wsX9_isTape) := goodIn_app (goodIn_of _ (by decide +kernel)) ggX9_item_X9_isTape
set_option maxRecDepth 20000 in
theorem ggX9_item_X9_within : GoodIn wsX9_item wsX9_within := goodIn_r _ [10] (by decide +kernel) (by decide +kernel)
set_option maxRecDepth 20000 in
theorem gX9_item_X9_within : GoodIn wsX9_item (va_wsS RX9 56 yX9_within wsX9_within) := goodIn_app (goodIn_of _ (by decide +kernel)) ggX9_item_X9_within
theorem dX9_item_0 : decode cX9_item 0 = .ok (.iload_n 1, 1) := by decide +kernel
theorem dX9_item_1 : decode cX9_item 1 = .ok (.invokestatic 181, 3) := by decide +kernel
theorem dX9_item_4 : decode cX9_item 4 = .ok (.ifCond .ne 5, 3) := by decide +kernel
theorem dX9_item_7 : decode cX9_item 7 = .ok (.iconst (-1), 1) := by decide +kernel
theorem dX9_item_8 : decode cX9_item 8 = .ok (.ireturn, 1) := by decide +kernel
theorem dX9_item_9 : decode cX9_item 9 = .ok (.aload_n 0, 1) := by decide +kernel
theorem dX9_item_10 : decode cX9_item 10 = .ok (.getfield 39, 3) := by decide +kernel
theorem dX9_item_13 : decode cX9_item 13 = .ok (.iload_n 1, 1) := by decide +kernel
theorem dX9_item_14 : decode cX9_item 14 = .ok (.iaload, 1) := by decide +kernel
theorem dX9_item_15 : decode cX9_item 15 = .ok (.ifCond .ne 6, 3) := by decide +kernel
theorem dX9_item_18 : decode cX9_item 18 = .ok (.bipush (-11), 2) := by decide +kernel
theorem dX9_item_20 : decode cX9_item 20 = .ok (.ireturn, 1) := by decide +kernel
theorem dX9_item_21 : decode cX9_item 21 = .ok (.iload_n 2, 1) := by decide +kernel
theorem dX9_item_22 : decode cX9_item 22 = .ok (.iconst 0, 1) := by decide +kernel
theorem dX9_item_23 : decode cX9_item 23 = .ok (.aload_n 0, 1) := by decide +kernel
theorem dX9_item_24 : decode cX9_item 24 = .ok (.getfield 42, 3) := by decide +kernel
theorem dX9_item_27 : decode cX9_item 27 = .ok (.iload_n 1, 1) := by decide +kernel
theorem dX9_item_28 : decode cX9_item 28 = .ok (.iaload, 1) := by decide +kernel
theorem dX9_item_29 : decode cX9_item 29 = .ok (.iconst 1, 1) := by decide +kernel
theorem dX9_item_30 : decode cX9_item 30 = .ok (.isub, 1) := by decide +kernel
theorem dX9_item_31 : decode cX9_item 31 = .ok (.invokestatic 56, 3) := by decide +kernel
theorem dX9_item_34 : decode cX9_item 34 = .ok (.ifCond .ne 6, 3) := by decide +kernel
theorem dX9_item_37 : decode cX9_item 37 = .ok (.bipush (-13), 2) := by decide +kernel
theorem dX9_item_39 : decode cX9_item 39 = .ok (.ireturn, 1) := by decide +kernel
theorem dX9_item_40 : decode cX9_item 40 = .ok (.aload_n 0, 1) := by decide +kernel
theorem dX9_item_41 : decode cX9_item 41 = .ok (.getfield 39, 3) := by decide +kernel
theorem dX9_item_44 : decode cX9_item 44 = .ok (.iload_n 1, 1) := by decide +kernel
theorem dX9_item_45 : decode cX9_item 45 = .ok (.iaload, 1) := by decide +kernel
theorem dX9_item_46 : decode cX9_item 46 = .ok (.istore 5, 2) := by decide +kernel
theorem dX9_item_48 : decode cX9_item 48 = .ok (.aload_n 0, 1) := by decide +kernel
theorem dX9_item_49 : decode cX9_item 49 = .ok (.getfield 45, 3) := by decide +kernel
theorem dX9_item_52 : decode cX9_item 52 = .ok (.bipush 60, 2) := by decide +kernel
theorem dX9_item_54 : decode cX9_item 54 = .ok (.iload_n 1, 1) := by decide +kernel
theorem dX9_item_55 : decode cX9_item 55 = .ok (.imul, 1) := by decide +kernel
theorem dX9_item_56 : decode cX9_item 56 = .ok (.iload_n 2, 1) := by decide +kernel
theorem dX9_item_57 : decode cX9_item 57 = .ok (.iadd, 1) := by decide +kernel
theorem dX9_item_58 : decode cX9_item 58 = .ok (.iload 5, 2) := by decide +kernel
theorem dX9_item_60 : decode cX9_item 60 = .ok (.iconst 1, 1) := by decide +kernel
theorem dX9_item_61 : decode cX9_item 61 = .ok (.if_icmp .ne 10, 3) := by decide +kernel
theorem dX9_item_64 : decode cX9_item 64 = .ok (.lload_n 3, 1) := by decide +kernel
theorem dX9_item_65 : decode cX9_item 65 = .ok (.l2i, 1) := by decide +kernel
theorem dX9_item_66 : decode cX9_item 66 = .ok (.i2b, 1) := by decide +kernel
theorem dX9_item_67 : decode cX9_item 67 = .ok (.i2l, 1) := by decide +kernel
theorem dX9_item_68 : decode cX9_item 68 = .ok (.goto 49, 3) := by decide +kernel
theorem dX9_item_71 : decode cX9_item 71 = .ok (.iload 5, 2) := by decide +kernel
theorem dX9_item_73 : decode cX9_item 73 = .ok (.iconst 2, 1) := by decide +kernel
theorem dX9_item_74 : decode cX9_item 74 = .ok (.if_icmp .ne 10, 3) := by decide +kernel
theorem dX9_item_77 : decode cX9_item 77 = .ok (.lload_n 3, 1) := by decide +kernel
theorem dX9_item_78 : decode cX9_item 78 = .ok (.l2i, 1) := by decide +kernel
theorem dX9_item_79 : decode cX9_item 79 = .ok (.i2s, 1) := by decide +kernel
theorem dX9_item_80 : decode cX9_item 80 = .ok (.i2l, 1) := by decide +kernel
theorem dX9_item_81 : decode cX9_item 81 = .ok (.goto 36, 3) := by decide +kernel
theorem dX9_item_84 : decode cX9_item 84 = .ok (.iload 5, 2) := by decide +kernel
theorem dX9_item_86 : decode cX9_item 86 = .ok (.iconst 3, 1) := by decide +kernel
theorem dX9_item_87 : decode cX9_item 87 = .ok (.if_icmp .ne 9, 3) := by decide +kernel
theorem dX9_item_90 : decode cX9_item 90 = .ok (.lload_n 3, 1) := by decide +kernel
theorem dX9_item_91 : decode cX9_item 91 = .ok (.l2i, 1) := by decide +kernel
theorem dX9_item_92 : decode cX9_item 92 = .ok (.i2l, 1) := by decide +kernel
theorem dX9_item_93 : decode cX9_item 93 = .ok (.goto 24, 3) := by decide +kernel
theorem dX9_item_96 : decode cX9_item 96 = .ok (.iload 5, 2) := by decide +kernel
theorem dX9_item_98 : decode cX9_item 98 = .ok (.iconst 4, 1) := by decide +kernel
theorem dX9_item_99 : decode cX9_item 99 = .ok (.if_icmp .ne 7, 3) := by decide +kernel
theorem dX9_item_102 : decode cX9_item 102 = .ok (.lload_n 3, 1) := by decide +kernel
theorem dX9_item_103 : decode cX9_item 103 = .ok (.goto 14, 3) := by decide +kernel
theorem dX9_item_106 : decode cX9_item 106 = .ok (.lload_n 3, 1) := by decide +kernel
theorem dX9_item_107 : decode cX9_item 107 = .ok (.lconst 0, 1) := by decide +kernel
theorem dX9_item_108 : decode cX9_item 108 = .ok (.lcmp, 1) := by decide +kernel
theorem dX9_item_109 : decode cX9_item 109 = .ok (.ifCond .eq 7, 3) := by decide +kernel
theorem dX9_item_112 : decode cX9_item 112 = .ok (.lconst 1, 1) := by decide +kernel
theorem dX9_item_113 : decode cX9_item 113 = .ok (.goto 4, 3) := by decide +kernel
theorem dX9_item_116 : decode cX9_item 116 = .ok (.lconst 0, 1) := by decide +kernel
theorem dX9_item_117 : decode cX9_item 117 = .ok (.lastore, 1) := by decide +kernel
theorem dX9_item_118 : decode cX9_item 118 = .ok (.iconst 1, 1) := by decide +kernel
theorem dX9_item_119 : decode cX9_item 119 = .ok (.ireturn, 1) := by decide +kernel
set_option maxRecDepth 20000 in
theorem ggX9_peek_X9_isTape : GoodIn wsX9_peek wsX9_isTape := goodIn_r _ [7, 8, 9, 6, 10] (by decide +kernel) (by decide +kernel)
set_option maxRecDepth 20000 in
theorem gX9_peek_X9_isTape : GoodIn wsX9_peek (va_wsS RX9 181 yX9_isTape wsX9_isTape) := goodIn_app (goodIn_of _ (by decide +kernel)) ggX9_peek_X9_isTape
set_option maxRecDepth 20000 in
theorem ggX9_peek_X9_within : GoodIn wsX9_peek wsX9_within := goodIn_r _ [10] (by decide +kernel) (by decide +kernel)
set_option maxRecDepth 20000 in
theorem gX9_peek_X9_within : GoodIn wsX9_peek (va_wsS RX9 56 yX9_within wsX9_within) := goodIn_app (goodIn_of _ (by decide +kernel)) ggX9_peek_X9_within
theorem dX9_peek_0 : decode cX9_peek 0 = .ok (.iload_n 1, 1) := by decide +kernel
theorem dX9_peek_1 : decode cX9_peek 1 = .ok (.invokestatic 181, 3) := by decide +kernel
theorem dX9_peek_4 : decode cX9_peek 4 = .ok (.ifCond .eq 33, 3) := by decide +kernel
theorem dX9_peek_7 : decode cX9_peek 7 = .ok (.iload_n 2, 1) := by decide +kernel
theorem dX9_peek_8 : decode cX9_peek 8 = .ok (.iconst 0, 1) := by decide +kernel
theorem dX9_peek_9 : decode cX9_peek 9 = .ok (.aload_n 0, 1) := by decide +kernel
theorem dX9_peek_10 : decode cX9_peek 10 = .ok (.getfield 42, 3) := by decide +kernel
theorem dX9_peek_13 : decode cX9_peek 13 = .ok (.iload_n 1, 1) := by decide +kernel
theorem dX9_peek_14 : decode cX9_peek 14 = .ok (.iaload, 1) := by decide +kernel
theorem dX9_peek_15 : decode cX9_peek 15 = .ok (.iconst 1, 1) := by decide +kernel
theorem dX9_peek_16 : decode cX9_peek 16 = .ok (.isub, 1) := by decide +kernel
theorem dX9_peek_17 : decode cX9_peek 17 = .ok (.invokestatic 56, 3) := by decide +kernel
theorem dX9_peek_20 : decode cX9_peek 20 = .ok (.ifCond .eq 17, 3) := by decide +kernel
theorem dX9_peek_23 : decode cX9_peek 23 = .ok (.aload_n 0, 1) := by decide +kernel
theorem dX9_peek_24 : decode cX9_peek 24 = .ok (.getfield 45, 3) := by decide +kernel
theorem dX9_peek_27 : decode cX9_peek 27 = .ok (.bipush 60, 2) := by decide +kernel
theorem dX9_peek_29 : decode cX9_peek 29 = .ok (.iload_n 1, 1) := by decide +kernel
theorem dX9_peek_30 : decode cX9_peek 30 = .ok (.imul, 1) := by decide +kernel
theorem dX9_peek_31 : decode cX9_peek 31 = .ok (.iload_n 2, 1) := by decide +kernel
theorem dX9_peek_32 : decode cX9_peek 32 = .ok (.iadd, 1) := by decide +kernel
theorem dX9_peek_33 : decode cX9_peek 33 = .ok (.laload, 1) := by decide +kernel
theorem dX9_peek_34 : decode cX9_peek 34 = .ok (.goto 6, 3) := by decide +kernel
theorem dX9_peek_37 : decode cX9_peek 37 = .ok (.ldc2_w 170, 3) := by decide +kernel
theorem dX9_peek_40 : decode cX9_peek 40 = .ok (.lreturn, 1) := by decide +kernel
set_option maxRecDepth 20000 in
theorem ggX9_shift_X9_isTape : GoodIn wsX9_shift wsX9_isTape := goodIn_r _ [8, 9, 10, 7, 11] (by decide +kernel) (by decide +kernel)
set_option maxRecDepth 20000 in
theorem gX9_shift_X9_isTape : GoodIn wsX9_shift (va_wsS RX9 181 yX9_isTape wsX9_isTape) := goodIn_app (goodIn_of _ (by decide +kernel)) ggX9_shift_X9_isTape
theorem dX9_shift_0 : decode cX9_shift 0 = .ok (.iload_n 1, 1) := by decide +kernel
theorem dX9_shift_1 : decode cX9_shift 1 = .ok (.invokestatic 181, 3) := by decide +kernel
theorem dX9_shift_4 : decode cX9_shift 4 = .ok (.ifCond .eq 10, 3) := by decide +kernel
theorem dX9_shift_7 : decode cX9_shift 7 = .ok (.iload_n 3, 1) := by decide +kernel
theorem dX9_shift_8 : decode cX9_shift 8 = .ok (.invokestatic 181, 3) := by decide +kernel
theorem dX9_shift_11 : decode cX9_shift 11 = .ok (.ifCond .ne 5, 3) := by decide +kernel
theorem dX9_shift_14 : decode cX9_shift 14 = .ok (.iconst (-1), 1) := by decide +kernel
theorem dX9_shift_15 : decode cX9_shift 15 = .ok (.ireturn, 1) := by decide +kernel
theorem dX9_shift_16 : decode cX9_shift 16 = .ok (.aload_n 0, 1) := by decide +kernel
theorem dX9_shift_17 : decode cX9_shift 17 = .ok (.getfield 39, 3) := by decide +kernel
theorem dX9_shift_20 : decode cX9_shift 20 = .ok (.iload_n 1, 1) := by decide +kernel
theorem dX9_shift_21 : decode cX9_shift 21 = .ok (.iaload, 1) := by decide +kernel
theorem dX9_shift_22 : decode cX9_shift 22 = .ok (.ifCond .eq 12, 3) := by decide +kernel
theorem dX9_shift_25 : decode cX9_shift 25 = .ok (.aload_n 0, 1) := by decide +kernel
theorem dX9_shift_26 : decode cX9_shift 26 = .ok (.getfield 39, 3) := by decide +kernel
theorem dX9_shift_29 : decode cX9_shift 29 = .ok (.iload_n 3, 1) := by decide +kernel
theorem dX9_shift_30 : decode cX9_shift 30 = .ok (.iaload, 1) := by decide +kernel
theorem dX9_shift_31 : decode cX9_shift 31 = .ok (.ifCond .ne 6, 3) := by decide +kernel
theorem dX9_shift_34 : decode cX9_shift 34 = .ok (.bipush (-11), 2) := by decide +kernel
theorem dX9_shift_36 : decode cX9_shift 36 = .ok (.ireturn, 1) := by decide +kernel
theorem dX9_shift_37 : decode cX9_shift 37 = .ok (.aload_n 0, 1) := by decide +kernel
theorem dX9_shift_38 : decode cX9_shift 38 = .ok (.getfield 39, 3) := by decide +kernel
theorem dX9_shift_41 : decode cX9_shift 41 = .ok (.iload_n 1, 1) := by decide +kernel
theorem dX9_shift_42 : decode cX9_shift 42 = .ok (.iaload, 1) := by decide +kernel
theorem dX9_shift_43 : decode cX9_shift 43 = .ok (.aload_n 0, 1) := by decide +kernel
theorem dX9_shift_44 : decode cX9_shift 44 = .ok (.getfield 39, 3) := by decide +kernel
theorem dX9_shift_47 : decode cX9_shift 47 = .ok (.iload_n 3, 1) := by decide +kernel
theorem dX9_shift_48 : decode cX9_shift 48 = .ok (.iaload, 1) := by decide +kernel
theorem dX9_shift_49 : decode cX9_shift 49 = .ok (.if_icmp .eq 6, 3) := by decide +kernel
theorem dX9_shift_52 : decode cX9_shift 52 = .ok (.bipush (-12), 2) := by decide +kernel
theorem dX9_shift_54 : decode cX9_shift 54 = .ok (.ireturn, 1) := by decide +kernel
theorem dX9_shift_55 : decode cX9_shift 55 = .ok (.iload 5, 2) := by decide +kernel
theorem dX9_shift_57 : decode cX9_shift 57 = .ok (.ifCond .lt 47, 3) := by decide +kernel
theorem dX9_shift_60 : decode cX9_shift 60 = .ok (.iload_n 2, 1) := by decide +kernel
theorem dX9_shift_61 : decode cX9_shift 61 = .ok (.ifCond .lt 43, 3) := by decide +kernel
theorem dX9_shift_64 : decode cX9_shift 64 = .ok (.iload 4, 2) := by decide +kernel
theorem dX9_shift_66 : decode cX9_shift 66 = .ok (.ifCond .lt 38, 3) := by decide +kernel
theorem dX9_shift_69 : decode cX9_shift 69 = .ok (.iload_n 2, 1) := by decide +kernel
theorem dX9_shift_70 : decode cX9_shift 70 = .ok (.i2l, 1) := by decide +kernel
theorem dX9_shift_71 : decode cX9_shift 71 = .ok (.iload 5, 2) := by decide +kernel
theorem dX9_shift_73 : decode cX9_shift 73 = .ok (.i2l, 1) := by decide +kernel
theorem dX9_shift_74 : decode cX9_shift 74 = .ok (.ladd, 1) := by decide +kernel
theorem dX9_shift_75 : decode cX9_shift 75 = .ok (.aload_n 0, 1) := by decide +kernel
theorem dX9_shift_76 : decode cX9_shift 76 = .ok (.getfield 42, 3) := by decide +kernel
theorem dX9_shift_79 : decode cX9_shift 79 = .ok (.iload_n 1, 1) := by decide +kernel
theorem dX9_shift_80 : decode cX9_shift 80 = .ok (.iaload, 1) := by decide +kernel
theorem dX9_shift_81 : decode cX9_shift 81 = .ok (.i2l, 1) := by decide +kernel
theorem dX9_shift_82 : decode cX9_shift 82 = .ok (.lcmp, 1) := by decide +kernel
theorem dX9_shift_83 : decode cX9_shift 83 = .ok (.ifCond .gt 21, 3) := by decide +kernel
theorem dX9_shift_86 : decode cX9_shift 86 = .ok (.iload 4, 2) := by decide +kernel
theorem dX9_shift_88 : decode cX9_shift 88 = .ok (.i2l, 1) := by decide +kernel
theorem dX9_shift_89 : decode cX9_shift 89 = .ok (.iload 5, 2) := by decide +kernel
theorem dX9_shift_91 : decode cX9_shift 91 = .ok (.i2l, 1) := by decide +kernel
theorem dX9_shift_92 : decode cX9_shift 92 = .ok (.ladd, 1) := by decide +kernel
theorem dX9_shift_93 : decode cX9_shift 93 = .ok (.aload_n 0, 1) := by decide +kernel
theorem dX9_shift_94 : decode cX9_shift 94 = .ok (.getfield 42, 3) := by decide +kernel
theorem dX9_shift_97 : decode cX9_shift 97 = .ok (.iload_n 3, 1) := by decide +kernel
theorem dX9_shift_98 : decode cX9_shift 98 = .ok (.iaload, 1) := by decide +kernel
theorem dX9_shift_99 : decode cX9_shift 99 = .ok (.i2l, 1) := by decide +kernel
theorem dX9_shift_100 : decode cX9_shift 100 = .ok (.lcmp, 1) := by decide +kernel
theorem dX9_shift_101 : decode cX9_shift 101 = .ok (.ifCond .le 6, 3) := by decide +kernel
theorem dX9_shift_104 : decode cX9_shift 104 = .ok (.bipush (-13), 2) := by decide +kernel
theorem dX9_shift_106 : decode cX9_shift 106 = .ok (.ireturn, 1) := by decide +kernel
theorem dX9_shift_107 : decode cX9_shift 107 = .ok (.iconst 0, 1) := by decide +kernel
theorem dX9_shift_108 : decode cX9_shift 108 = .ok (.istore 6, 2) := by decide +kernel
theorem dX9_shift_110 : decode cX9_shift 110 = .ok (.iload 6, 2) := by decide +kernel
theorem dX9_shift_112 : decode cX9_shift 112 = .ok (.iload 5, 2) := by decide +kernel
theorem dX9_shift_114 : decode cX9_shift 114 = .ok (.if_icmp .ge 30, 3) := by decide +kernel
theorem dX9_shift_117 : decode cX9_shift 117 = .ok (.aload_n 0, 1) := by decide +kernel
theorem dX9_shift_118 : decode cX9_shift 118 = .ok (.getfield 49, 3) := by decide +kernel
theorem dX9_shift_121 : decode cX9_shift 121 = .ok (.iload 6, 2) := by decide +kernel
theorem dX9_shift_123 : decode cX9_shift 123 = .ok (.aload_n 0, 1) := by decide +kernel
theorem dX9_shift_124 : decode cX9_shift 124 = .ok (.getfield 45, 3) := by decide +kernel
theorem dX9_shift_127 : decode cX9_shift 127 = .ok (.bipush 60, 2) := by decide +kernel
theorem dX9_shift_129 : decode cX9_shift 129 = .ok (.iload_n 1, 1) := by decide +kernel
theorem dX9_shift_130 : decode cX9_shift 130 = .ok (.imul, 1) := by decide +kernel
theorem dX9_shift_131 : decode cX9_shift 131 = .ok (.iload_n 2, 1) := by decide +kernel
theorem dX9_shift_132 : decode cX9_shift 132 = .ok (.iadd, 1) := by decide +kernel
theorem dX9_shift_133 : decode cX9_shift 133 = .ok (.iload 6, 2) := by decide +kernel
theorem dX9_shift_135 : decode cX9_shift 135 = .ok (.iadd, 1) := by decide +kernel
theorem dX9_shift_136 : decode cX9_shift 136 = .ok (.laload, 1) := by decide +kernel
theorem dX9_shift_137 : decode cX9_shift 137 = .ok (.lastore, 1) := by decide +kernel
theorem dX9_shift_138 : decode cX9_shift 138 = .ok (.iinc 6 1, 3) := by decide +kernel
theorem dX9_shift_141 : decode cX9_shift 141 = .ok (.goto (-31), 3) := by decide +kernel
theorem dX9_shift_144 : decode cX9_shift 144 = .ok (.iconst 0, 1) := by decide +kernel
theorem dX9_shift_145 : decode cX9_shift 145 = .ok (.istore 6, 2) := by decide +kernel
theorem dX9_shift_147 : decode cX9_shift 147 = .ok (.iload 6, 2) := by decide +kernel
theorem dX9_shift_149 : decode cX9_shift 149 = .ok (.iload 5, 2) := by decide +kernel
theorem dX9_shift_151 : decode cX9_shift 151 = .ok (.if_icmp .ge 31, 3) := by decide +kernel
theorem dX9_shift_154 : decode cX9_shift 154 = .ok (.aload_n 0, 1) := by decide +kernel
theorem dX9_shift_155 : decode cX9_shift 155 = .ok (.getfield 45, 3) := by decide +kernel
theorem dX9_shift_158 : decode cX9_shift 158 = .ok (.bipush 60, 2) := by decide +kernel
theorem dX9_shift_160 : decode cX9_shift 160 = .ok (.iload_n 3, 1) := by decide +kernel
theorem dX9_shift_161 : decode cX9_shift 161 = .ok (.imul, 1) := by decide +kernel
theorem dX9_shift_162 : decode cX9_shift 162 = .ok (.iload 4, 2) := by decide +kernel
theorem dX9_shift_164 : decode cX9_shift 164 = .ok (.iadd, 1) := by decide +kernel
theorem dX9_shift_165 : decode cX9_shift 165 = .ok (.iload 6, 2) := by decide +kernel
theorem dX9_shift_167 : decode cX9_shift 167 = .ok (.iadd, 1) := by decide +kernel
theorem dX9_shift_168 : decode cX9_shift 168 = .ok (.aload_n 0, 1) := by decide +kernel
theorem dX9_shift_169 : decode cX9_shift 169 = .ok (.getfield 49, 3) := by decide +kernel
theorem dX9_shift_172 : decode cX9_shift 172 = .ok (.iload 6, 2) := by decide +kernel
theorem dX9_shift_174 : decode cX9_shift 174 = .ok (.laload, 1) := by decide +kernel
theorem dX9_shift_175 : decode cX9_shift 175 = .ok (.lastore, 1) := by decide +kernel
theorem dX9_shift_176 : decode cX9_shift 176 = .ok (.iinc 6 1, 3) := by decide +kernel
theorem dX9_shift_179 : decode cX9_shift 179 = .ok (.goto (-32), 3) := by decide +kernel
theorem dX9_shift_182 : decode cX9_shift 182 = .ok (.iload 5, 2) := by decide +kernel
theorem dX9_shift_184 : decode cX9_shift 184 = .ok (.ireturn, 1) := by decide +kernel
