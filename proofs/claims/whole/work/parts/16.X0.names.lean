set_option maxRecDepth 20000 in
theorem ggX0_init_X7_init : GoodIn wsX0_init wsX7_init := goodIn_r _ [19, 20, 2, 3, 21, 22, 23, 24, 25, 26, 27, 28, 11, 12, 29, 30, 31, 32, 33, 34, 42, 43, 44, 45, 46, 47, 48, 49, 50] (by decide +kernel) (by decide +kernel)
set_option maxRecDepth 20000 in
theorem gX0_init_X7_init_n20 : GoodIn wsX0_init (wsX7_init) := ggX0_init_X7_init
set_option maxRecDepth 20000 in
theorem ggX0_init_X3_init : GoodIn wsX0_init wsX3_init := goodIn_r _ [32, 33, 2, 3, 21, 34, 50] (by decide +kernel) (by decide +kernel)
set_option maxRecDepth 20000 in
theorem gX0_init_X3_init_n27 : GoodIn wsX0_init (wsX3_init) := ggX0_init_X3_init
theorem dX0_init_0 : decode cX0_init 0 = .ok (.aload_n 0, 1) := by decide +kernel
theorem dX0_init_1 : decode cX0_init 1 = .ok (.invokespecial 3, 3) := by decide +kernel
theorem dX0_init_4 : decode cX0_init 4 = .ok (.aload_n 0, 1) := by decide +kernel
theorem dX0_init_5 : decode cX0_init 5 = .ok (.bipush (-5), 2) := by decide +kernel
theorem dX0_init_7 : decode cX0_init 7 = .ok (.putfield 9, 3) := by decide +kernel
theorem dX0_init_10 : decode cX0_init 10 = .ok (.aload_n 0, 1) := by decide +kernel
theorem dX0_init_11 : decode cX0_init 11 = .ok (.bipush (-5), 2) := by decide +kernel
theorem dX0_init_13 : decode cX0_init 13 = .ok (.putfield 15, 3) := by decide +kernel
theorem dX0_init_16 : decode cX0_init 16 = .ok (.aload_n 0, 1) := by decide +kernel
theorem dX0_init_17 : decode cX0_init 17 = .ok (.new 18, 3) := by decide +kernel
theorem dX0_init_20 : decode cX0_init 20 = .ok (.dup, 1) := by decide +kernel
theorem dX0_init_21 : decode cX0_init 21 = .ok (.invokespecial 20, 3) := by decide +kernel
theorem dX0_init_24 : decode cX0_init 24 = .ok (.putfield 21, 3) := by decide +kernel
theorem dX0_init_27 : decode cX0_init 27 = .ok (.aload_n 0, 1) := by decide +kernel
theorem dX0_init_28 : decode cX0_init 28 = .ok (.new 25, 3) := by decide +kernel
theorem dX0_init_31 : decode cX0_init 31 = .ok (.dup, 1) := by decide +kernel
theorem dX0_init_32 : decode cX0_init 32 = .ok (.invokespecial 27, 3) := by decide +kernel
theorem dX0_init_35 : decode cX0_init 35 = .ok (.putfield 28, 3) := by decide +kernel
theorem dX0_init_38 : decode cX0_init 38 = .ok (.aload_n 0, 1) := by decide +kernel
theorem dX0_init_39 : decode cX0_init 39 = .ok (.iconst 3, 1) := by decide +kernel
theorem dX0_init_40 : decode cX0_init 40 = .ok (.newarray .boolean, 2) := by decide +kernel
theorem dX0_init_42 : decode cX0_init 42 = .ok (.putfield 32, 3) := by decide +kernel
theorem dX0_init_45 : decode cX0_init 45 = .ok (.aload_n 0, 1) := by decide +kernel
theorem dX0_init_46 : decode cX0_init 46 = .ok (.iconst 0, 1) := by decide +kernel
theorem dX0_init_47 : decode cX0_init 47 = .ok (.putfield 36, 3) := by decide +kernel
theorem dX0_init_50 : decode cX0_init 50 = .ok (.aload_n 0, 1) := by decide +kernel
theorem dX0_init_51 : decode cX0_init 51 = .ok (.iconst 0, 1) := by decide +kernel
theorem dX0_init_52 : decode cX0_init 52 = .ok (.putfield 39, 3) := by decide +kernel
theorem dX0_init_55 : decode cX0_init 55 = .ok (.return_, 1) := by decide +kernel
set_option maxRecDepth 20000 in
theorem ggX0_find_X7_begin : GoodIn wsX0_find wsX7_begin := goodIn_r _ [16, 17, 18, 19, 20, 21, 22, 23, 24, 25, 26, 27, 28, 29, 30, 31, 32, 33, 34, 35, 36, 37, 38, 39, 40, 41, 42, 88, 89, 90, 91, 92, 93, 94, 95, 96, 97, 98, 99, 100, 101, 102, 103, 104, 105, 106] (by decide +kernel) (by decide +kernel)
set_option maxRecDepth 20000 in
theorem gX0_find_X7_begin : GoodIn wsX0_find (wsV RX0 50 RX7 yX7_begin wsX7_begin) := goodIn_app (goodIn_of _ (by decide +kernel)) ggX0_find_X7_begin
set_option maxRecDepth 20000 in
theorem ggX0_find_X3_enter : GoodIn wsX0_find wsX3_enter := goodIn_r _ [47, 48, 49, 50, 46, 51, 52, 107] (by decide +kernel) (by decide +kernel)
set_option maxRecDepth 20000 in
theorem gX0_find_X3_enter : GoodIn wsX0_find (wsV RX0 61 RX3 yX3_enter wsX3_enter) := goodIn_app (goodIn_of _ (by decide +kernel)) ggX0_find_X3_enter
set_option maxRecDepth 20000 in
theorem ggX0_find_X0_search : GoodIn wsX0_find wsX0_search := goodIn_r _ [56, 3, 5, 4, 8, 57, 1, 2, 58, 59, 60, 55, 61, 9, 10, 11, 62, 63, 64, 15, 65, 24, 18, 22, 19, 23, 66, 67, 28, 68, 43, 44, 45, 46, 47, 48, 49, 50, 51, 52, 53, 54, 69, 70, 71, 72, 73, 74, 75, 76, 77, 78, 79, 80, 81, 82, 83, 84, 85, 86, 87, 99, 100, 101, 102, 103, 104, 105, 106, 107] (by decide +kernel) (by decide +kernel)
set_option maxRecDepth 20000 in
theorem gX0_find_X0_search : GoodIn wsX0_find (va_wsS RX0 65 yX0_search wsX0_search) := goodIn_app (goodIn_of _ (by decide +kernel)) ggX0_find_X0_search
set_option maxRecDepth 20000 in
theorem ggX0_find_X3_leave : GoodIn wsX0_find wsX3_leave := goodIn_r _ [80, 48, 49, 50, 46, 51, 52, 107] (by decide +kernel) (by decide +kernel)
set_option maxRecDepth 20000 in
theorem gX0_find_X3_leave : GoodIn wsX0_find (wsV RX0 69 RX3 yX3_leave wsX3_leave) := goodIn_app (goodIn_of _ (by decide +kernel)) ggX0_find_X3_leave
theorem dX0_find_0 : decode cX0_find 0 = .ok (.aload_n 0, 1) := by decide +kernel
theorem dX0_find_1 : decode cX0_find 1 = .ok (.bipush (-5), 2) := by decide +kernel
theorem dX0_find_3 : decode cX0_find 3 = .ok (.putfield 9, 3) := by decide +kernel
theorem dX0_find_6 : decode cX0_find 6 = .ok (.aload_n 0, 1) := by decide +kernel
theorem dX0_find_7 : decode cX0_find 7 = .ok (.bipush (-5), 2) := by decide +kernel
theorem dX0_find_9 : decode cX0_find 9 = .ok (.putfield 15, 3) := by decide +kernel
theorem dX0_find_12 : decode cX0_find 12 = .ok (.aload_n 0, 1) := by decide +kernel
theorem dX0_find_13 : decode cX0_find 13 = .ok (.iload_n 2, 1) := by decide +kernel
theorem dX0_find_14 : decode cX0_find 14 = .ok (.putfield 36, 3) := by decide +kernel
theorem dX0_find_17 : decode cX0_find 17 = .ok (.aload_n 0, 1) := by decide +kernel
theorem dX0_find_18 : decode cX0_find 18 = .ok (.iload_n 2, 1) := by decide +kernel
theorem dX0_find_19 : decode cX0_find 19 = .ok (.iconst 1, 1) := by decide +kernel
theorem dX0_find_20 : decode cX0_find 20 = .ok (.iadd, 1) := by decide +kernel
theorem dX0_find_21 : decode cX0_find 21 = .ok (.putfield 39, 3) := by decide +kernel
theorem dX0_find_24 : decode cX0_find 24 = .ok (.aload_n 0, 1) := by decide +kernel
theorem dX0_find_25 : decode cX0_find 25 = .ok (.getfield 32, 3) := by decide +kernel
theorem dX0_find_28 : decode cX0_find 28 = .ok (.iconst 0, 1) := by decide +kernel
theorem dX0_find_29 : decode cX0_find 29 = .ok (.iconst 1, 1) := by decide +kernel
theorem dX0_find_30 : decode cX0_find 30 = .ok (.bastore, 1) := by decide +kernel
theorem dX0_find_31 : decode cX0_find 31 = .ok (.aload_n 0, 1) := by decide +kernel
theorem dX0_find_32 : decode cX0_find 32 = .ok (.getfield 32, 3) := by decide +kernel
theorem dX0_find_35 : decode cX0_find 35 = .ok (.iconst 1, 1) := by decide +kernel
theorem dX0_find_36 : decode cX0_find 36 = .ok (.aload_n 1, 1) := by decide +kernel
theorem dX0_find_37 : decode cX0_find 37 = .ok (.getfield 42, 3) := by decide +kernel
theorem dX0_find_40 : decode cX0_find 40 = .ok (.iconst (-1), 1) := by decide +kernel
theorem dX0_find_41 : decode cX0_find 41 = .ok (.if_icmp .eq 7, 3) := by decide +kernel
theorem dX0_find_44 : decode cX0_find 44 = .ok (.iconst 1, 1) := by decide +kernel
theorem dX0_find_45 : decode cX0_find 45 = .ok (.goto 4, 3) := by decide +kernel
theorem dX0_find_48 : decode cX0_find 48 = .ok (.iconst 0, 1) := by decide +kernel
theorem dX0_find_49 : decode cX0_find 49 = .ok (.bastore, 1) := by decide +kernel
theorem dX0_find_50 : decode cX0_find 50 = .ok (.aload_n 0, 1) := by decide +kernel
theorem dX0_find_51 : decode cX0_find 51 = .ok (.getfield 32, 3) := by decide +kernel
theorem dX0_find_54 : decode cX0_find 54 = .ok (.iconst 2, 1) := by decide +kernel
theorem dX0_find_55 : decode cX0_find 55 = .ok (.aload_n 1, 1) := by decide +kernel
theorem dX0_find_56 : decode cX0_find 56 = .ok (.getfield 47, 3) := by decide +kernel
theorem dX0_find_59 : decode cX0_find 59 = .ok (.iconst (-1), 1) := by decide +kernel
theorem dX0_find_60 : decode cX0_find 60 = .ok (.if_icmp .eq 7, 3) := by decide +kernel
theorem dX0_find_63 : decode cX0_find 63 = .ok (.iconst 1, 1) := by decide +kernel
theorem dX0_find_64 : decode cX0_find 64 = .ok (.goto 4, 3) := by decide +kernel
theorem dX0_find_67 : decode cX0_find 67 = .ok (.iconst 0, 1) := by decide +kernel
theorem dX0_find_68 : decode cX0_find 68 = .ok (.bastore, 1) := by decide +kernel
theorem dX0_find_69 : decode cX0_find 69 = .ok (.aload_n 0, 1) := by decide +kernel
theorem dX0_find_70 : decode cX0_find 70 = .ok (.getfield 21, 3) := by decide +kernel
theorem dX0_find_73 : decode cX0_find 73 = .ok (.aload_n 1, 1) := by decide +kernel
theorem dX0_find_74 : decode cX0_find 74 = .ok (.invokevirtual 50, 3) := by decide +kernel
theorem dX0_find_77 : decode cX0_find 77 = .ok (.aload_n 0, 1) := by decide +kernel
theorem dX0_find_78 : decode cX0_find 78 = .ok (.getfield 21, 3) := by decide +kernel
theorem dX0_find_81 : decode cX0_find 81 = .ok (.getfield 54, 3) := by decide +kernel
theorem dX0_find_84 : decode cX0_find 84 = .ok (.ifCond .le 41, 3) := by decide +kernel
theorem dX0_find_87 : decode cX0_find 87 = .ok (.aload_n 0, 1) := by decide +kernel
theorem dX0_find_88 : decode cX0_find 88 = .ok (.getfield 28, 3) := by decide +kernel
theorem dX0_find_91 : decode cX0_find 91 = .ok (.aload_n 0, 1) := by decide +kernel
theorem dX0_find_92 : decode cX0_find 92 = .ok (.getfield 21, 3) := by decide +kernel
theorem dX0_find_95 : decode cX0_find 95 = .ok (.getfield 57, 3) := by decide +kernel
theorem dX0_find_98 : decode cX0_find 98 = .ok (.iconst 0, 1) := by decide +kernel
theorem dX0_find_99 : decode cX0_find 99 = .ok (.invokevirtual 61, 3) := by decide +kernel
theorem dX0_find_102 : decode cX0_find 102 = .ok (.pop, 1) := by decide +kernel
theorem dX0_find_103 : decode cX0_find 103 = .ok (.aload_n 0, 1) := by decide +kernel
theorem dX0_find_104 : decode cX0_find 104 = .ok (.iconst 0, 1) := by decide +kernel
theorem dX0_find_105 : decode cX0_find 105 = .ok (.iconst 0, 1) := by decide +kernel
theorem dX0_find_106 : decode cX0_find 106 = .ok (.iconst 0, 1) := by decide +kernel
theorem dX0_find_107 : decode cX0_find 107 = .ok (.invokestatic 65, 3) := by decide +kernel
theorem dX0_find_110 : decode cX0_find 110 = .ok (.aload_n 0, 1) := by decide +kernel
theorem dX0_find_111 : decode cX0_find 111 = .ok (.getfield 28, 3) := by decide +kernel
theorem dX0_find_114 : decode cX0_find 114 = .ok (.aload_n 0, 1) := by decide +kernel
theorem dX0_find_115 : decode cX0_find 115 = .ok (.getfield 21, 3) := by decide +kernel
theorem dX0_find_118 : decode cX0_find 118 = .ok (.getfield 57, 3) := by decide +kernel
theorem dX0_find_121 : decode cX0_find 121 = .ok (.iconst 0, 1) := by decide +kernel
theorem dX0_find_122 : decode cX0_find 122 = .ok (.invokevirtual 69, 3) := by decide +kernel
theorem dX0_find_125 : decode cX0_find 125 = .ok (.return_, 1) := by decide +kernel
set_option maxRecDepth 20000 in
theorem ggX0_search_X0_ringTillAgain : GoodIn wsX0_search wsX0_ringTillAgain := goodIn_r _ [12, 4, 13, 14, 15, 5, 16, 17, 18, 19, 20, 21, 22, 23, 24, 25, 26, 27, 28, 29, 30, 31, 32, 33, 34, 35, 36, 37, 38, 39, 54, 55, 56, 57, 58, 59, 60, 61, 62, 63, 64, 65, 66, 67, 68, 69] (by decide +kernel) (by decide +kernel)
set_option maxRecDepth 20000 in
theorem gX0_search_X0_ringTillAgain : GoodIn wsX0_search (wsV RX0 76 RX0 yX0_ringTillAgain wsX0_ringTillAgain) := goodIn_app (goodIn_of _ (by decide +kernel)) ggX0_search_X0_ringTillAgain
set_option maxRecDepth 20000 in
theorem ggX0_search_X0_search : GoodIn wsX0_search wsX0_search := goodIn_r _ [0, 1, 2, 3, 4, 5, 6, 7, 8, 9, 10, 11, 12, 13, 14, 15, 16, 17, 18, 19, 20, 21, 22, 23, 24, 25, 26, 27, 28, 29, 30, 31, 32, 33, 34, 35, 36, 37, 38, 39, 40, 41, 42, 43, 44, 45, 46, 47, 48, 49, 50, 51, 52, 53, 54, 55, 56, 57, 58, 59, 60, 61, 62, 63, 64, 65, 66, 67, 68, 69] (by decide +kernel) (by decide +kernel)
set_option maxRecDepth 20000 in
theorem gX0_search_X0_search : GoodIn wsX0_search (va_wsS RX0 65 yX0_search wsX0_search) := goodIn_app (goodIn_of _ (by decide +kernel)) ggX0_search_X0_search
set_option maxRecDepth 20000 in
theorem ggX0_search_X0_isEnd : GoodIn wsX0_search wsX0_isEnd := goodIn_r _ [45, 1, 4, 13, 15, 54, 55, 56, 57, 58, 59, 60, 61, 62, 63, 64, 65, 66, 67, 68] (by decide +kernel) (by decide +kernel)
set_option maxRecDepth 20000 in
theorem gX0_search_X0_isEnd : GoodIn wsX0_search (wsV RX0 80 RX0 yX0_isEnd wsX0_isEnd) := goodIn_app (goodIn_of _ (by decide +kernel)) ggX0_search_X0_isEnd
set_option maxRecDepth 20000 in
theorem ggX0_search_X0_backTo : GoodIn wsX0_search wsX0_backTo := goodIn_r _ [49, 4, 5, 14, 15, 50, 51, 52, 33, 53, 35, 36, 37, 38, 39, 54, 55, 56, 57, 58, 59, 60, 61, 62, 63, 64, 65, 66, 67, 68, 69] (by decide +kernel) (by decide +kernel)
set_option maxRecDepth 20000 in
theorem gX0_search_X0_backTo : GoodIn wsX0_search (wsV RX0 84 RX0 yX0_backTo wsX0_backTo) := goodIn_app (goodIn_of _ (by decide +kernel)) ggX0_search_X0_backTo
theorem dX0_search_0 : decode cX0_search 0 = .ok (.iload_n 1, 1) := by decide +kernel
theorem dX0_search_1 : decode cX0_search 1 = .ok (.aload_n 0, 1) := by decide +kernel
theorem dX0_search_2 : decode cX0_search 2 = .ok (.getfield 36, 3) := by decide +kernel
theorem dX0_search_5 : decode cX0_search 5 = .ok (.if_icmp .lt 4, 3) := by decide +kernel
theorem dX0_search_8 : decode cX0_search 8 = .ok (.return_, 1) := by decide +kernel
theorem dX0_search_9 : decode cX0_search 9 = .ok (.iconst 0, 1) := by decide +kernel
theorem dX0_search_10 : decode cX0_search 10 = .ok (.istore 4, 2) := by decide +kernel
theorem dX0_search_12 : decode cX0_search 12 = .ok (.iload 4, 2) := by decide +kernel
theorem dX0_search_14 : decode cX0_search 14 = .ok (.iconst 2, 1) := by decide +kernel
theorem dX0_search_15 : decode cX0_search 15 = .ok (.if_icmp .gt 121, 3) := by decide +kernel
theorem dX0_search_18 : decode cX0_search 18 = .ok (.iload 4, 2) := by decide +kernel
theorem dX0_search_20 : decode cX0_search 20 = .ok (.ifCond .ne 7, 3) := by decide +kernel
theorem dX0_search_23 : decode cX0_search 23 = .ok (.iload_n 3, 1) := by decide +kernel
theorem dX0_search_24 : decode cX0_search 24 = .ok (.goto 6, 3) := by decide +kernel
theorem dX0_search_27 : decode cX0_search 27 = .ok (.iload_n 3, 1) := by decide +kernel
theorem dX0_search_28 : decode cX0_search 28 = .ok (.iconst 1, 1) := by decide +kernel
theorem dX0_search_29 : decode cX0_search 29 = .ok (.iadd, 1) := by decide +kernel
theorem dX0_search_30 : decode cX0_search 30 = .ok (.istore 5, 2) := by decide +kernel
theorem dX0_search_32 : decode cX0_search 32 = .ok (.aload_n 0, 1) := by decide +kernel
theorem dX0_search_33 : decode cX0_search 33 = .ok (.getfield 32, 3) := by decide +kernel
theorem dX0_search_36 : decode cX0_search 36 = .ok (.iload 4, 2) := by decide +kernel
theorem dX0_search_38 : decode cX0_search 38 = .ok (.baload, 1) := by decide +kernel
theorem dX0_search_39 : decode cX0_search 39 = .ok (.ifCond .eq 91, 3) := by decide +kernel
theorem dX0_search_42 : decode cX0_search 42 = .ok (.iload 5, 2) := by decide +kernel
theorem dX0_search_44 : decode cX0_search 44 = .ok (.aload_n 0, 1) := by decide +kernel
theorem dX0_search_45 : decode cX0_search 45 = .ok (.getfield 39, 3) := by decide +kernel
theorem dX0_search_48 : decode cX0_search 48 = .ok (.if_icmp .ge 82, 3) := by decide +kernel
theorem dX0_search_51 : decode cX0_search 51 = .ok (.aload_n 0, 1) := by decide +kernel
theorem dX0_search_52 : decode cX0_search 52 = .ok (.getfield 21, 3) := by decide +kernel
theorem dX0_search_55 : decode cX0_search 55 = .ok (.getfield 73, 3) := by decide +kernel
theorem dX0_search_58 : decode cX0_search 58 = .ok (.istore 6, 2) := by decide +kernel
theorem dX0_search_60 : decode cX0_search 60 = .ok (.aload_n 0, 1) := by decide +kernel
theorem dX0_search_61 : decode cX0_search 61 = .ok (.iload 4, 2) := by decide +kernel
theorem dX0_search_63 : decode cX0_search 63 = .ok (.invokevirtual 76, 3) := by decide +kernel
theorem dX0_search_66 : decode cX0_search 66 = .ok (.istore 7, 2) := by decide +kernel
theorem dX0_search_68 : decode cX0_search 68 = .ok (.iload 7, 2) := by decide +kernel
theorem dX0_search_70 : decode cX0_search 70 = .ok (.bipush (-5), 2) := by decide +kernel
theorem dX0_search_72 : decode cX0_search 72 = .ok (.if_icmp .ne 21, 3) := by decide +kernel
theorem dX0_search_75 : decode cX0_search 75 = .ok (.aload_n 0, 1) := by decide +kernel
theorem dX0_search_76 : decode cX0_search 76 = .ok (.iload_n 1, 1) := by decide +kernel
theorem dX0_search_77 : decode cX0_search 77 = .ok (.iconst 1, 1) := by decide +kernel
theorem dX0_search_78 : decode cX0_search 78 = .ok (.iadd, 1) := by decide +kernel
theorem dX0_search_79 : decode cX0_search 79 = .ok (.iconst 3, 1) := by decide +kernel
theorem dX0_search_80 : decode cX0_search 80 = .ok (.iload_n 2, 1) := by decide +kernel
theorem dX0_search_81 : decode cX0_search 81 = .ok (.imul, 1) := by decide +kernel
theorem dX0_search_82 : decode cX0_search 82 = .ok (.iload 4, 2) := by decide +kernel
theorem dX0_search_84 : decode cX0_search 84 = .ok (.iadd, 1) := by decide +kernel
theorem dX0_search_85 : decode cX0_search 85 = .ok (.iload 5, 2) := by decide +kernel
theorem dX0_search_87 : decode cX0_search 87 = .ok (.invokestatic 65, 3) := by decide +kernel
theorem dX0_search_90 : decode cX0_search 90 = .ok (.goto 34, 3) := by decide +kernel
theorem dX0_search_93 : decode cX0_search 93 = .ok (.aload_n 0, 1) := by decide +kernel
theorem dX0_search_94 : decode cX0_search 94 = .ok (.iload 7, 2) := by decide +kernel
theorem dX0_search_96 : decode cX0_search 96 = .ok (.invokevirtual 80, 3) := by decide +kernel
theorem dX0_search_99 : decode cX0_search 99 = .ok (.ifCond .eq 25, 3) := by decide +kernel
theorem dX0_search_102 : decode cX0_search 102 = .ok (.aload_n 0, 1) := by decide +kernel
theorem dX0_search_103 : decode cX0_search 103 = .ok (.iconst 3, 1) := by decide +kernel
theorem dX0_search_104 : decode cX0_search 104 = .ok (.iload_n 2, 1) := by decide +kernel
theorem dX0_search_105 : decode cX0_search 105 = .ok (.imul, 1) := by decide +kernel
theorem dX0_search_106 : decode cX0_search 106 = .ok (.iload 4, 2) := by decide +kernel
theorem dX0_search_108 : decode cX0_search 108 = .ok (.iadd, 1) := by decide +kernel
theorem dX0_search_109 : decode cX0_search 109 = .ok (.putfield 9, 3) := by decide +kernel
theorem dX0_search_112 : decode cX0_search 112 = .ok (.aload_n 0, 1) := by decide +kernel
theorem dX0_search_113 : decode cX0_search 113 = .ok (.iload 5, 2) := by decide +kernel
theorem dX0_search_115 : decode cX0_search 115 = .ok (.putfield 15, 3) := by decide +kernel
theorem dX0_search_118 : decode cX0_search 118 = .ok (.aload_n 0, 1) := by decide +kernel
theorem dX0_search_119 : decode cX0_search 119 = .ok (.iload 5, 2) := by decide +kernel
theorem dX0_search_121 : decode cX0_search 121 = .ok (.putfield 39, 3) := by decide +kernel
theorem dX0_search_124 : decode cX0_search 124 = .ok (.aload_n 0, 1) := by decide +kernel
theorem dX0_search_125 : decode cX0_search 125 = .ok (.iload 6, 2) := by decide +kernel
theorem dX0_search_127 : decode cX0_search 127 = .ok (.invokevirtual 84, 3) := by decide +kernel
theorem dX0_search_130 : decode cX0_search 130 = .ok (.iinc 4 1, 3) := by decide +kernel
theorem dX0_search_133 : decode cX0_search 133 = .ok (.goto (-121), 3) := by decide +kernel
theorem dX0_search_136 : decode cX0_search 136 = .ok (.return_, 1) := by decide +kernel
set_option maxRecDepth 20000 in
theorem ggX0_ringTillAgain_X7_step : GoodIn wsX0_ringTillAgain wsX7_step := goodIn_r _ [10, 11, 12, 13, 14, 15, 16, 17, 18, 19, 37, 38, 39, 40, 41, 42, 43, 44] (by decide +kernel) (by decide +kernel)
set_option maxRecDepth 20000 in
theorem gX0_ringTillAgain_X7_step : GoodIn wsX0_ringTillAgain (wsV RX0 88 RX7 yX7_step wsX7_step) := goodIn_app (goodIn_of _ (by decide +kernel)) ggX0_ringTillAgain_X7_step
set_option maxRecDepth 20000 in
theorem ggX0_ringTillAgain_X3_enter : GoodIn wsX0_ringTillAgain wsX3_enter := goodIn_r _ [24, 25, 26, 27, 23, 28, 29, 45] (by decide +kernel) (by decide +kernel)
set_option maxRecDepth 20000 in
theorem gX0_ringTillAgain_X3_enter : GoodIn wsX0_ringTillAgain (wsV RX0 61 RX3 yX3_enter wsX3_enter) := goodIn_app (goodIn_of _ (by decide +kernel)) ggX0_ringTillAgain_X3_enter
theorem dX0_ringTillAgain_0 : decode cX0_ringTillAgain 0 = .ok (.iconst 0, 1) := by decide +kernel
theorem dX0_ringTillAgain_1 : decode cX0_ringTillAgain 1 = .ok (.istore_n 2, 1) := by decide +kernel
theorem dX0_ringTillAgain_2 : decode cX0_ringTillAgain 2 = .ok (.iload_n 2, 1) := by decide +kernel
theorem dX0_ringTillAgain_3 : decode cX0_ringTillAgain 3 = .ok (.aload_n 0, 1) := by decide +kernel
theorem dX0_ringTillAgain_4 : decode cX0_ringTillAgain 4 = .ok (.getfield 21, 3) := by decide +kernel
theorem dX0_ringTillAgain_7 : decode cX0_ringTillAgain 7 = .ok (.getfield 54, 3) := by decide +kernel
theorem dX0_ringTillAgain_10 : decode cX0_ringTillAgain 10 = .ok (.if_icmp .ge 57, 3) := by decide +kernel
theorem dX0_ringTillAgain_13 : decode cX0_ringTillAgain 13 = .ok (.aload_n 0, 1) := by decide +kernel
theorem dX0_ringTillAgain_14 : decode cX0_ringTillAgain 14 = .ok (.getfield 21, 3) := by decide +kernel
theorem dX0_ringTillAgain_17 : decode cX0_ringTillAgain 17 = .ok (.iload_n 2, 1) := by decide +kernel
theorem dX0_ringTillAgain_18 : decode cX0_ringTillAgain 18 = .ok (.iload_n 1, 1) := by decide +kernel
theorem dX0_ringTillAgain_19 : decode cX0_ringTillAgain 19 = .ok (.invokevirtual 88, 3) := by decide +kernel
theorem dX0_ringTillAgain_22 : decode cX0_ringTillAgain 22 = .ok (.aload_n 0, 1) := by decide +kernel
theorem dX0_ringTillAgain_23 : decode cX0_ringTillAgain 23 = .ok (.getfield 28, 3) := by decide +kernel
theorem dX0_ringTillAgain_26 : decode cX0_ringTillAgain 26 = .ok (.aload_n 0, 1) := by decide +kernel
theorem dX0_ringTillAgain_27 : decode cX0_ringTillAgain 27 = .ok (.getfield 21, 3) := by decide +kernel
theorem dX0_ringTillAgain_30 : decode cX0_ringTillAgain 30 = .ok (.getfield 57, 3) := by decide +kernel
theorem dX0_ringTillAgain_33 : decode cX0_ringTillAgain 33 = .ok (.aload_n 0, 1) := by decide +kernel
theorem dX0_ringTillAgain_34 : decode cX0_ringTillAgain 34 = .ok (.getfield 21, 3) := by decide +kernel
theorem dX0_ringTillAgain_37 : decode cX0_ringTillAgain 37 = .ok (.getfield 73, 3) := by decide +kernel
theorem dX0_ringTillAgain_40 : decode cX0_ringTillAgain 40 = .ok (.invokevirtual 61, 3) := by decide +kernel
theorem dX0_ringTillAgain_43 : decode cX0_ringTillAgain 43 = .ok (.aload_n 0, 1) := by decide +kernel
theorem dX0_ringTillAgain_44 : decode cX0_ringTillAgain 44 = .ok (.getfield 21, 3) := by decide +kernel
theorem dX0_ringTillAgain_47 : decode cX0_ringTillAgain 47 = .ok (.getfield 73, 3) := by decide +kernel
theorem dX0_ringTillAgain_50 : decode cX0_ringTillAgain 50 = .ok (.if_icmp .eq 11, 3) := by decide +kernel
theorem dX0_ringTillAgain_53 : decode cX0_ringTillAgain 53 = .ok (.aload_n 0, 1) := by decide +kernel
theorem dX0_ringTillAgain_54 : decode cX0_ringTillAgain 54 = .ok (.getfield 21, 3) := by decide +kernel
theorem dX0_ringTillAgain_57 : decode cX0_ringTillAgain 57 = .ok (.getfield 73, 3) := by decide +kernel
theorem dX0_ringTillAgain_60 : decode cX0_ringTillAgain 60 = .ok (.ireturn, 1) := by decide +kernel
theorem dX0_ringTillAgain_61 : decode cX0_ringTillAgain 61 = .ok (.iinc 2 1, 3) := by decide +kernel
theorem dX0_ringTillAgain_64 : decode cX0_ringTillAgain 64 = .ok (.goto (-62), 3) := by decide +kernel
theorem dX0_ringTillAgain_67 : decode cX0_ringTillAgain 67 = .ok (.bipush (-5), 2) := by decide +kernel
theorem dX0_ringTillAgain_69 : decode cX0_ringTillAgain 69 = .ok (.ireturn, 1) := by decide +kernel
theorem dX0_isEnd_0 : decode cX0_isEnd 0 = .ok (.iload_n 1, 1) := by decide +kernel
theorem dX0_isEnd_1 : decode cX0_isEnd 1 = .ok (.aload_n 0, 1) := by decide +kernel
theorem dX0_isEnd_2 : decode cX0_isEnd 2 = .ok (.getfield 36, 3) := by decide +kernel
theorem dX0_isEnd_5 : decode cX0_isEnd 5 = .ok (.aload_n 0, 1) := by decide +kernel
theorem dX0_isEnd_6 : decode cX0_isEnd 6 = .ok (.getfield 21, 3) := by decide +kernel
theorem dX0_isEnd_9 : decode cX0_isEnd 9 = .ok (.getfield 54, 3) := by decide +kernel
theorem dX0_isEnd_12 : decode cX0_isEnd 12 = .ok (.imul, 1) := by decide +kernel
theorem dX0_isEnd_13 : decode cX0_isEnd 13 = .ok (.if_icmp .ne 28, 3) := by decide +kernel
theorem dX0_isEnd_16 : decode cX0_isEnd 16 = .ok (.aload_n 0, 1) := by decide +kernel
theorem dX0_isEnd_17 : decode cX0_isEnd 17 = .ok (.getfield 21, 3) := by decide +kernel
theorem dX0_isEnd_20 : decode cX0_isEnd 20 = .ok (.getfield 57, 3) := by decide +kernel
theorem dX0_isEnd_23 : decode cX0_isEnd 23 = .ok (.iload_n 1, 1) := by decide +kernel
theorem dX0_isEnd_24 : decode cX0_isEnd 24 = .ok (.iaload, 1) := by decide +kernel
theorem dX0_isEnd_25 : decode cX0_isEnd 25 = .ok (.aload_n 0, 1) := by decide +kernel
theorem dX0_isEnd_26 : decode cX0_isEnd 26 = .ok (.getfield 21, 3) := by decide +kernel
theorem dX0_isEnd_29 : decode cX0_isEnd 29 = .ok (.getfield 57, 3) := by decide +kernel
theorem dX0_isEnd_32 : decode cX0_isEnd 32 = .ok (.iconst 0, 1) := by decide +kernel
theorem dX0_isEnd_33 : decode cX0_isEnd 33 = .ok (.iaload, 1) := by decide +kernel
theorem dX0_isEnd_34 : decode cX0_isEnd 34 = .ok (.if_icmp .ne 7, 3) := by decide +kernel
theorem dX0_isEnd_37 : decode cX0_isEnd 37 = .ok (.iconst 1, 1) := by decide +kernel
theorem dX0_isEnd_38 : decode cX0_isEnd 38 = .ok (.goto 4, 3) := by decide +kernel
theorem dX0_isEnd_41 : decode cX0_isEnd 41 = .ok (.iconst 0, 1) := by decide +kernel
theorem dX0_isEnd_42 : decode cX0_isEnd 42 = .ok (.ireturn, 1) := by decide +kernel
set_option maxRecDepth 20000 in
theorem ggX0_backTo_X3_leave : GoodIn wsX0_backTo wsX3_leave := goodIn_r _ [9, 10, 11, 12, 8, 13, 14, 30] (by decide +kernel) (by decide +kernel)
set_option maxRecDepth 20000 in
theorem gX0_backTo_X3_leave : GoodIn wsX0_backTo (wsV RX0 69 RX3 yX3_leave wsX3_leave) := goodIn_app (goodIn_of _ (by decide +kernel)) ggX0_backTo_X3_leave
theorem dX0_backTo_0 : decode cX0_backTo 0 = .ok (.aload_n 0, 1) := by decide +kernel
theorem dX0_backTo_1 : decode cX0_backTo 1 = .ok (.getfield 21, 3) := by decide +kernel
theorem dX0_backTo_4 : decode cX0_backTo 4 = .ok (.getfield 73, 3) := by decide +kernel
theorem dX0_backTo_7 : decode cX0_backTo 7 = .ok (.istore_n 2, 1) := by decide +kernel
theorem dX0_backTo_8 : decode cX0_backTo 8 = .ok (.iload_n 2, 1) := by decide +kernel
theorem dX0_backTo_9 : decode cX0_backTo 9 = .ok (.iload_n 1, 1) := by decide +kernel
theorem dX0_backTo_10 : decode cX0_backTo 10 = .ok (.if_icmp .le 24, 3) := by decide +kernel
theorem dX0_backTo_13 : decode cX0_backTo 13 = .ok (.aload_n 0, 1) := by decide +kernel
theorem dX0_backTo_14 : decode cX0_backTo 14 = .ok (.getfield 28, 3) := by decide +kernel
theorem dX0_backTo_17 : decode cX0_backTo 17 = .ok (.aload_n 0, 1) := by decide +kernel
theorem dX0_backTo_18 : decode cX0_backTo 18 = .ok (.getfield 21, 3) := by decide +kernel
theorem dX0_backTo_21 : decode cX0_backTo 21 = .ok (.getfield 57, 3) := by decide +kernel
theorem dX0_backTo_24 : decode cX0_backTo 24 = .ok (.iload_n 2, 1) := by decide +kernel
theorem dX0_backTo_25 : decode cX0_backTo 25 = .ok (.invokevirtual 69, 3) := by decide +kernel
theorem dX0_backTo_28 : decode cX0_backTo 28 = .ok (.iinc 2 (-1), 3) := by decide +kernel
theorem dX0_backTo_31 : decode cX0_backTo 31 = .ok (.goto (-23), 3) := by decide +kernel
theorem dX0_backTo_34 : decode cX0_backTo 34 = .ok (.aload_n 0, 1) := by decide +kernel
theorem dX0_backTo_35 : decode cX0_backTo 35 = .ok (.getfield 21, 3) := by decide +kernel
theorem dX0_backTo_38 : decode cX0_backTo 38 = .ok (.iload_n 1, 1) := by decide +kernel
theorem dX0_backTo_39 : decode cX0_backTo 39 = .ok (.putfield 73, 3) := by decide +kernel
theorem dX0_backTo_42 : decode cX0_backTo 42 = .ok (.return_, 1) := by decide +kernel
