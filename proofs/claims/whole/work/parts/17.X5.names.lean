theorem dX5_init_0 : decode cX5_init 0 = .ok (.aload_n 0, 1) := by decide +kernel
theorem dX5_init_1 : decode cX5_init 1 = .ok (.invokespecial 3, 3) := by decide +kernel
theorem dX5_init_4 : decode cX5_init 4 = .ok (.aload_n 0, 1) := by decide +kernel
theorem dX5_init_5 : decode cX5_init 5 = .ok (.iconst 0, 1) := by decide +kernel
theorem dX5_init_6 : decode cX5_init 6 = .ok (.putfield 9, 3) := by decide +kernel
theorem dX5_init_9 : decode cX5_init 9 = .ok (.aload_n 0, 1) := by decide +kernel
theorem dX5_init_10 : decode cX5_init 10 = .ok (.bipush 100, 2) := by decide +kernel
theorem dX5_init_12 : decode cX5_init 12 = .ok (.newarray .byte, 2) := by decide +kernel
theorem dX5_init_14 : decode cX5_init 14 = .ok (.putfield 15, 3) := by decide +kernel
theorem dX5_init_17 : decode cX5_init 17 = .ok (.aload_n 0, 1) := by decide +kernel
theorem dX5_init_18 : decode cX5_init 18 = .ok (.iconst 0, 1) := by decide +kernel
theorem dX5_init_19 : decode cX5_init 19 = .ok (.putfield 19, 3) := by decide +kernel
theorem dX5_init_22 : decode cX5_init 22 = .ok (.aload_n 0, 1) := by decide +kernel
theorem dX5_init_23 : decode cX5_init 23 = .ok (.bipush 10, 2) := by decide +kernel
theorem dX5_init_25 : decode cX5_init 25 = .ok (.newarray .int, 2) := by decide +kernel
theorem dX5_init_27 : decode cX5_init 27 = .ok (.putfield 22, 3) := by decide +kernel
theorem dX5_init_30 : decode cX5_init 30 = .ok (.aload_n 0, 1) := by decide +kernel
theorem dX5_init_31 : decode cX5_init 31 = .ok (.bipush 11, 2) := by decide +kernel
theorem dX5_init_33 : decode cX5_init 33 = .ok (.newarray .int, 2) := by decide +kernel
theorem dX5_init_35 : decode cX5_init 35 = .ok (.putfield 26, 3) := by decide +kernel
theorem dX5_init_38 : decode cX5_init 38 = .ok (.aload_n 0, 1) := by decide +kernel
theorem dX5_init_39 : decode cX5_init 39 = .ok (.iconst 0, 1) := by decide +kernel
theorem dX5_init_40 : decode cX5_init 40 = .ok (.putfield 29, 3) := by decide +kernel
theorem dX5_init_43 : decode cX5_init 43 = .ok (.aload_n 0, 1) := by decide +kernel
theorem dX5_init_44 : decode cX5_init 44 = .ok (.bipush 100, 2) := by decide +kernel
theorem dX5_init_46 : decode cX5_init 46 = .ok (.newarray .int, 2) := by decide +kernel
theorem dX5_init_48 : decode cX5_init 48 = .ok (.putfield 32, 3) := by decide +kernel
theorem dX5_init_51 : decode cX5_init 51 = .ok (.aload_n 0, 1) := by decide +kernel
theorem dX5_init_52 : decode cX5_init 52 = .ok (.iconst 0, 1) := by decide +kernel
theorem dX5_init_53 : decode cX5_init 53 = .ok (.putfield 35, 3) := by decide +kernel
theorem dX5_init_56 : decode cX5_init 56 = .ok (.return_, 1) := by decide +kernel
theorem dX5_append_0 : decode cX5_append 0 = .ok (.aload_n 0, 1) := by decide +kernel
theorem dX5_append_1 : decode cX5_append 1 = .ok (.getfield 9, 3) := by decide +kernel
theorem dX5_append_4 : decode cX5_append 4 = .ok (.bipush 100, 2) := by decide +kernel
theorem dX5_append_6 : decode cX5_append 6 = .ok (.if_icmp .lt 5, 3) := by decide +kernel
theorem dX5_append_9 : decode cX5_append 9 = .ok (.iconst 0, 1) := by decide +kernel
theorem dX5_append_10 : decode cX5_append 10 = .ok (.ireturn, 1) := by decide +kernel
theorem dX5_append_11 : decode cX5_append 11 = .ok (.aload_n 0, 1) := by decide +kernel
theorem dX5_append_12 : decode cX5_append 12 = .ok (.getfield 15, 3) := by decide +kernel
theorem dX5_append_15 : decode cX5_append 15 = .ok (.aload_n 0, 1) := by decide +kernel
theorem dX5_append_16 : decode cX5_append 16 = .ok (.getfield 9, 3) := by decide +kernel
theorem dX5_append_19 : decode cX5_append 19 = .ok (.iload_n 1, 1) := by decide +kernel
theorem dX5_append_20 : decode cX5_append 20 = .ok (.i2b, 1) := by decide +kernel
theorem dX5_append_21 : decode cX5_append 21 = .ok (.bastore, 1) := by decide +kernel
theorem dX5_append_22 : decode cX5_append 22 = .ok (.aload_n 0, 1) := by decide +kernel
theorem dX5_append_23 : decode cX5_append 23 = .ok (.dup, 1) := by decide +kernel
theorem dX5_append_24 : decode cX5_append 24 = .ok (.getfield 9, 3) := by decide +kernel
theorem dX5_append_27 : decode cX5_append 27 = .ok (.iconst 1, 1) := by decide +kernel
theorem dX5_append_28 : decode cX5_append 28 = .ok (.iadd, 1) := by decide +kernel
theorem dX5_append_29 : decode cX5_append 29 = .ok (.putfield 9, 3) := by decide +kernel
theorem dX5_append_32 : decode cX5_append 32 = .ok (.iconst 1, 1) := by decide +kernel
theorem dX5_append_33 : decode cX5_append 33 = .ok (.ireturn, 1) := by decide +kernel
set_option maxRecDepth 20000 in
theorem ggX5_parse_X5_next : GoodIn wsX5_parse wsX5_next := goodIn_r _ [10, 1, 11, 12, 44, 45, 46, 47, 48, 49, 50, 51] (by decide +kernel) (by decide +kernel)
set_option maxRecDepth 20000 in
theorem gX5_parse_X5_next : GoodIn wsX5_parse (wsV RX5 38 RX5 yX5_next wsX5_next) := goodIn_app (goodIn_of _ (by decide +kernel)) ggX5_parse_X5_next
set_option maxRecDepth 20000 in
theorem ggX5_parse_X5_parseClause : GoodIn wsX5_parse wsX5_parseClause := goodIn_r _ [16, 1, 6, 7, 8, 9, 10, 11, 12, 17, 18, 19, 20, 21, 22, 23, 24, 3, 25, 26, 27, 28, 29, 30, 31, 32, 33, 34, 35, 36, 37, 38, 39, 40, 41, 42, 43, 44, 45, 46, 47, 48, 49, 50, 51] (by decide +kernel) (by decide +kernel)
set_option maxRecDepth 20000 in
theorem gX5_parse_X5_parseClause : GoodIn wsX5_parse (wsV RX5 42 RX5 yX5_parseClause wsX5_parseClause) := goodIn_app (goodIn_of _ (by decide +kernel)) ggX5_parse_X5_parseClause
theorem dX5_parse_0 : decode cX5_parse 0 = .ok (.aload_n 0, 1) := by decide +kernel
theorem dX5_parse_1 : decode cX5_parse 1 = .ok (.iconst 0, 1) := by decide +kernel
theorem dX5_parse_2 : decode cX5_parse 2 = .ok (.putfield 19, 3) := by decide +kernel
theorem dX5_parse_5 : decode cX5_parse 5 = .ok (.aload_n 0, 1) := by decide +kernel
theorem dX5_parse_6 : decode cX5_parse 6 = .ok (.iconst 0, 1) := by decide +kernel
theorem dX5_parse_7 : decode cX5_parse 7 = .ok (.putfield 29, 3) := by decide +kernel
theorem dX5_parse_10 : decode cX5_parse 10 = .ok (.aload_n 0, 1) := by decide +kernel
theorem dX5_parse_11 : decode cX5_parse 11 = .ok (.iconst 0, 1) := by decide +kernel
theorem dX5_parse_12 : decode cX5_parse 12 = .ok (.putfield 35, 3) := by decide +kernel
theorem dX5_parse_15 : decode cX5_parse 15 = .ok (.iconst 0, 1) := by decide +kernel
theorem dX5_parse_16 : decode cX5_parse 16 = .ok (.istore_n 1, 1) := by decide +kernel
theorem dX5_parse_17 : decode cX5_parse 17 = .ok (.iload_n 1, 1) := by decide +kernel
theorem dX5_parse_18 : decode cX5_parse 18 = .ok (.bipush 10, 2) := by decide +kernel
theorem dX5_parse_20 : decode cX5_parse 20 = .ok (.if_icmp .ge 105, 3) := by decide +kernel
theorem dX5_parse_23 : decode cX5_parse 23 = .ok (.aload_n 0, 1) := by decide +kernel
theorem dX5_parse_24 : decode cX5_parse 24 = .ok (.getfield 26, 3) := by decide +kernel
theorem dX5_parse_27 : decode cX5_parse 27 = .ok (.iload_n 1, 1) := by decide +kernel
theorem dX5_parse_28 : decode cX5_parse 28 = .ok (.aload_n 0, 1) := by decide +kernel
theorem dX5_parse_29 : decode cX5_parse 29 = .ok (.getfield 35, 3) := by decide +kernel
theorem dX5_parse_32 : decode cX5_parse 32 = .ok (.iastore, 1) := by decide +kernel
theorem dX5_parse_33 : decode cX5_parse 33 = .ok (.aload_n 0, 1) := by decide +kernel
theorem dX5_parse_34 : decode cX5_parse 34 = .ok (.getfield 22, 3) := by decide +kernel
theorem dX5_parse_37 : decode cX5_parse 37 = .ok (.iload_n 1, 1) := by decide +kernel
theorem dX5_parse_38 : decode cX5_parse 38 = .ok (.aload_n 0, 1) := by decide +kernel
theorem dX5_parse_39 : decode cX5_parse 39 = .ok (.invokevirtual 38, 3) := by decide +kernel
theorem dX5_parse_42 : decode cX5_parse 42 = .ok (.iastore, 1) := by decide +kernel
theorem dX5_parse_43 : decode cX5_parse 43 = .ok (.aload_n 0, 1) := by decide +kernel
theorem dX5_parse_44 : decode cX5_parse 44 = .ok (.invokevirtual 42, 3) := by decide +kernel
theorem dX5_parse_47 : decode cX5_parse 47 = .ok (.ifCond .ne 8, 3) := by decide +kernel
theorem dX5_parse_50 : decode cX5_parse 50 = .ok (.aload_n 0, 1) := by decide +kernel
theorem dX5_parse_51 : decode cX5_parse 51 = .ok (.getfield 19, 3) := by decide +kernel
theorem dX5_parse_54 : decode cX5_parse 54 = .ok (.ireturn, 1) := by decide +kernel
theorem dX5_parse_55 : decode cX5_parse 55 = .ok (.aload_n 0, 1) := by decide +kernel
theorem dX5_parse_56 : decode cX5_parse 56 = .ok (.iload_n 1, 1) := by decide +kernel
theorem dX5_parse_57 : decode cX5_parse 57 = .ok (.iconst 1, 1) := by decide +kernel
theorem dX5_parse_58 : decode cX5_parse 58 = .ok (.iadd, 1) := by decide +kernel
theorem dX5_parse_59 : decode cX5_parse 59 = .ok (.putfield 29, 3) := by decide +kernel
theorem dX5_parse_62 : decode cX5_parse 62 = .ok (.aload_n 0, 1) := by decide +kernel
theorem dX5_parse_63 : decode cX5_parse 63 = .ok (.getfield 26, 3) := by decide +kernel
theorem dX5_parse_66 : decode cX5_parse 66 = .ok (.aload_n 0, 1) := by decide +kernel
theorem dX5_parse_67 : decode cX5_parse 67 = .ok (.getfield 29, 3) := by decide +kernel
theorem dX5_parse_70 : decode cX5_parse 70 = .ok (.aload_n 0, 1) := by decide +kernel
theorem dX5_parse_71 : decode cX5_parse 71 = .ok (.getfield 35, 3) := by decide +kernel
theorem dX5_parse_74 : decode cX5_parse 74 = .ok (.iastore, 1) := by decide +kernel
theorem dX5_parse_75 : decode cX5_parse 75 = .ok (.aload_n 0, 1) := by decide +kernel
theorem dX5_parse_76 : decode cX5_parse 76 = .ok (.invokevirtual 38, 3) := by decide +kernel
theorem dX5_parse_79 : decode cX5_parse 79 = .ok (.iconst (-1), 1) := by decide +kernel
theorem dX5_parse_80 : decode cX5_parse 80 = .ok (.if_icmp .ne 6, 3) := by decide +kernel
theorem dX5_parse_83 : decode cX5_parse 83 = .ok (.bipush (-5), 2) := by decide +kernel
theorem dX5_parse_85 : decode cX5_parse 85 = .ok (.ireturn, 1) := by decide +kernel
theorem dX5_parse_86 : decode cX5_parse 86 = .ok (.aload_n 0, 1) := by decide +kernel
theorem dX5_parse_87 : decode cX5_parse 87 = .ok (.invokevirtual 38, 3) := by decide +kernel
theorem dX5_parse_90 : decode cX5_parse 90 = .ok (.bipush 59, 2) := by decide +kernel
theorem dX5_parse_92 : decode cX5_parse 92 = .ok (.if_icmp .ne 12, 3) := by decide +kernel
theorem dX5_parse_95 : decode cX5_parse 95 = .ok (.aload_n 0, 1) := by decide +kernel
theorem dX5_parse_96 : decode cX5_parse 96 = .ok (.getfield 29, 3) := by decide +kernel
theorem dX5_parse_99 : decode cX5_parse 99 = .ok (.bipush 10, 2) := by decide +kernel
theorem dX5_parse_101 : decode cX5_parse 101 = .ok (.if_icmp .ne 8, 3) := by decide +kernel
theorem dX5_parse_104 : decode cX5_parse 104 = .ok (.aload_n 0, 1) := by decide +kernel
theorem dX5_parse_105 : decode cX5_parse 105 = .ok (.getfield 19, 3) := by decide +kernel
theorem dX5_parse_108 : decode cX5_parse 108 = .ok (.ireturn, 1) := by decide +kernel
theorem dX5_parse_109 : decode cX5_parse 109 = .ok (.aload_n 0, 1) := by decide +kernel
theorem dX5_parse_110 : decode cX5_parse 110 = .ok (.dup, 1) := by decide +kernel
theorem dX5_parse_111 : decode cX5_parse 111 = .ok (.getfield 19, 3) := by decide +kernel
theorem dX5_parse_114 : decode cX5_parse 114 = .ok (.iconst 1, 1) := by decide +kernel
theorem dX5_parse_115 : decode cX5_parse 115 = .ok (.iadd, 1) := by decide +kernel
theorem dX5_parse_116 : decode cX5_parse 116 = .ok (.putfield 19, 3) := by decide +kernel
theorem dX5_parse_119 : decode cX5_parse 119 = .ok (.iinc 1 1, 3) := by decide +kernel
theorem dX5_parse_122 : decode cX5_parse 122 = .ok (.goto (-105), 3) := by decide +kernel
theorem dX5_parse_125 : decode cX5_parse 125 = .ok (.aload_n 0, 1) := by decide +kernel
theorem dX5_parse_126 : decode cX5_parse 126 = .ok (.getfield 19, 3) := by decide +kernel
theorem dX5_parse_129 : decode cX5_parse 129 = .ok (.ireturn, 1) := by decide +kernel
theorem dX5_next_0 : decode cX5_next 0 = .ok (.aload_n 0, 1) := by decide +kernel
theorem dX5_next_1 : decode cX5_next 1 = .ok (.getfield 19, 3) := by decide +kernel
theorem dX5_next_4 : decode cX5_next 4 = .ok (.aload_n 0, 1) := by decide +kernel
theorem dX5_next_5 : decode cX5_next 5 = .ok (.getfield 9, 3) := by decide +kernel
theorem dX5_next_8 : decode cX5_next 8 = .ok (.if_icmp .ge 15, 3) := by decide +kernel
theorem dX5_next_11 : decode cX5_next 11 = .ok (.aload_n 0, 1) := by decide +kernel
theorem dX5_next_12 : decode cX5_next 12 = .ok (.getfield 15, 3) := by decide +kernel
theorem dX5_next_15 : decode cX5_next 15 = .ok (.aload_n 0, 1) := by decide +kernel
theorem dX5_next_16 : decode cX5_next 16 = .ok (.getfield 19, 3) := by decide +kernel
theorem dX5_next_19 : decode cX5_next 19 = .ok (.baload, 1) := by decide +kernel
theorem dX5_next_20 : decode cX5_next 20 = .ok (.goto 4, 3) := by decide +kernel
theorem dX5_next_23 : decode cX5_next 23 = .ok (.iconst (-1), 1) := by decide +kernel
theorem dX5_next_24 : decode cX5_next 24 = .ok (.ireturn, 1) := by decide +kernel
set_option maxRecDepth 20000 in
theorem ggX5_parseClause_X5_next : GoodIn wsX5_parseClause wsX5_next := goodIn_r _ [6, 1, 7, 8, 37, 38, 39, 40, 41, 42, 43, 44] (by decide +kernel) (by decide +kernel)
set_option maxRecDepth 20000 in
theorem gX5_parseClause_X5_next : GoodIn wsX5_parseClause (wsV RX5 38 RX5 yX5_next wsX5_next) := goodIn_app (goodIn_of _ (by decide +kernel)) ggX5_parseClause_X5_next
set_option maxRecDepth 20000 in
theorem ggX5_parseClause_X5_parseDigit : GoodIn wsX5_parseClause wsX5_parseDigit := goodIn_r _ [12, 1, 2, 3, 4, 5, 6, 7, 8, 13, 14, 15, 16, 17, 18, 37, 38, 39, 40, 41, 42, 43, 44] (by decide +kernel) (by decide +kernel)
set_option maxRecDepth 20000 in
theorem gX5_parseClause_X5_parseDigit : GoodIn wsX5_parseClause (wsV RX5 46 RX5 yX5_parseDigit wsX5_parseDigit) := goodIn_app (goodIn_of _ (by decide +kernel)) ggX5_parseClause_X5_parseDigit
set_option maxRecDepth 20000 in
theorem ggX5_parseClause_X5_parseWords : GoodIn wsX5_parseClause wsX5_parseWords := goodIn_r _ [22, 8, 1, 23, 24, 25, 5, 26, 2, 3, 4, 6, 7, 13, 14, 15, 16, 17, 18, 27, 28, 29, 37, 38, 39, 40, 41, 42, 43, 44] (by decide +kernel) (by decide +kernel)
set_option maxRecDepth 20000 in
theorem gX5_parseClause_X5_parseWords : GoodIn wsX5_parseClause (wsV RX5 49 RX5 yX5_parseWords wsX5_parseWords) := goodIn_app (goodIn_of _ (by decide +kernel)) ggX5_parseClause_X5_parseWords
set_option maxRecDepth 20000 in
theorem ggX5_parseClause_X5_parseWord : GoodIn wsX5_parseClause wsX5_parseWord := goodIn_r _ [26, 1, 2, 3, 4, 5, 6, 7, 8, 13, 14, 15, 16, 17, 18, 27, 28, 29, 37, 38, 39, 40, 41, 42, 43, 44] (by decide +kernel) (by decide +kernel)
set_option maxRecDepth 20000 in
theorem gX5_parseClause_X5_parseWord : GoodIn wsX5_parseClause (wsV RX5 52 RX5 yX5_parseWord wsX5_parseWord) := goodIn_app (goodIn_of _ (by decide +kernel)) ggX5_parseClause_X5_parseWord
set_option maxRecDepth 20000 in
theorem ggX5_parseClause_X5_parseCalls : GoodIn wsX5_parseClause wsX5_parseCalls := goodIn_r _ [33, 1, 2, 3, 4, 5, 6, 7, 8, 34, 35, 36, 13, 14, 15, 16, 17, 18, 37, 38, 39, 40, 41, 42, 43, 44] (by decide +kernel) (by decide +kernel)
set_option maxRecDepth 20000 in
theorem gX5_parseClause_X5_parseCalls : GoodIn wsX5_parseClause (wsV RX5 55 RX5 yX5_parseCalls wsX5_parseCalls) := goodIn_app (goodIn_of _ (by decide +kernel)) ggX5_parseClause_X5_parseCalls
theorem dX5_parseClause_0 : decode cX5_parseClause 0 = .ok (.aload_n 0, 1) := by decide +kernel
theorem dX5_parseClause_1 : decode cX5_parseClause 1 = .ok (.invokevirtual 38, 3) := by decide +kernel
theorem dX5_parseClause_4 : decode cX5_parseClause 4 = .ok (.istore_n 1, 1) := by decide +kernel
theorem dX5_parseClause_5 : decode cX5_parseClause 5 = .ok (.iload_n 1, 1) := by decide +kernel
theorem dX5_parseClause_6 : decode cX5_parseClause 6 = .ok (.lookupswitch 110 #[(98, 80), (99, 95), (109, 65), (110, 50), (115, 80)], 50) := by decide +kernel
theorem dX5_parseClause_56 : decode cX5_parseClause 56 = .ok (.aload_n 0, 1) := by decide +kernel
theorem dX5_parseClause_57 : decode cX5_parseClause 57 = .ok (.dup, 1) := by decide +kernel
theorem dX5_parseClause_58 : decode cX5_parseClause 58 = .ok (.getfield 19, 3) := by decide +kernel
theorem dX5_parseClause_61 : decode cX5_parseClause 61 = .ok (.iconst 1, 1) := by decide +kernel
theorem dX5_parseClause_62 : decode cX5_parseClause 62 = .ok (.iadd, 1) := by decide +kernel
theorem dX5_parseClause_63 : decode cX5_parseClause 63 = .ok (.putfield 19, 3) := by decide +kernel
theorem dX5_parseClause_66 : decode cX5_parseClause 66 = .ok (.aload_n 0, 1) := by decide +kernel
theorem dX5_parseClause_67 : decode cX5_parseClause 67 = .ok (.invokevirtual 46, 3) := by decide +kernel
theorem dX5_parseClause_70 : decode cX5_parseClause 70 = .ok (.ireturn, 1) := by decide +kernel
theorem dX5_parseClause_71 : decode cX5_parseClause 71 = .ok (.aload_n 0, 1) := by decide +kernel
theorem dX5_parseClause_72 : decode cX5_parseClause 72 = .ok (.dup, 1) := by decide +kernel
theorem dX5_parseClause_73 : decode cX5_parseClause 73 = .ok (.getfield 19, 3) := by decide +kernel
theorem dX5_parseClause_76 : decode cX5_parseClause 76 = .ok (.iconst 1, 1) := by decide +kernel
theorem dX5_parseClause_77 : decode cX5_parseClause 77 = .ok (.iadd, 1) := by decide +kernel
theorem dX5_parseClause_78 : decode cX5_parseClause 78 = .ok (.putfield 19, 3) := by decide +kernel
theorem dX5_parseClause_81 : decode cX5_parseClause 81 = .ok (.aload_n 0, 1) := by decide +kernel
theorem dX5_parseClause_82 : decode cX5_parseClause 82 = .ok (.invokevirtual 49, 3) := by decide +kernel
theorem dX5_parseClause_85 : decode cX5_parseClause 85 = .ok (.ireturn, 1) := by decide +kernel
theorem dX5_parseClause_86 : decode cX5_parseClause 86 = .ok (.aload_n 0, 1) := by decide +kernel
theorem dX5_parseClause_87 : decode cX5_parseClause 87 = .ok (.dup, 1) := by decide +kernel
theorem dX5_parseClause_88 : decode cX5_parseClause 88 = .ok (.getfield 19, 3) := by decide +kernel
theorem dX5_parseClause_91 : decode cX5_parseClause 91 = .ok (.iconst 1, 1) := by decide +kernel
theorem dX5_parseClause_92 : decode cX5_parseClause 92 = .ok (.iadd, 1) := by decide +kernel
theorem dX5_parseClause_93 : decode cX5_parseClause 93 = .ok (.putfield 19, 3) := by decide +kernel
theorem dX5_parseClause_96 : decode cX5_parseClause 96 = .ok (.aload_n 0, 1) := by decide +kernel
theorem dX5_parseClause_97 : decode cX5_parseClause 97 = .ok (.invokevirtual 52, 3) := by decide +kernel
theorem dX5_parseClause_100 : decode cX5_parseClause 100 = .ok (.ireturn, 1) := by decide +kernel
theorem dX5_parseClause_101 : decode cX5_parseClause 101 = .ok (.aload_n 0, 1) := by decide +kernel
theorem dX5_parseClause_102 : decode cX5_parseClause 102 = .ok (.dup, 1) := by decide +kernel
theorem dX5_parseClause_103 : decode cX5_parseClause 103 = .ok (.getfield 19, 3) := by decide +kernel
theorem dX5_parseClause_106 : decode cX5_parseClause 106 = .ok (.iconst 1, 1) := by decide +kernel
theorem dX5_parseClause_107 : decode cX5_parseClause 107 = .ok (.iadd, 1) := by decide +kernel
theorem dX5_parseClause_108 : decode cX5_parseClause 108 = .ok (.putfield 19, 3) := by decide +kernel
theorem dX5_parseClause_111 : decode cX5_parseClause 111 = .ok (.aload_n 0, 1) := by decide +kernel
theorem dX5_parseClause_112 : decode cX5_parseClause 112 = .ok (.invokevirtual 55, 3) := by decide +kernel
theorem dX5_parseClause_115 : decode cX5_parseClause 115 = .ok (.ireturn, 1) := by decide +kernel
theorem dX5_parseClause_116 : decode cX5_parseClause 116 = .ok (.iconst 0, 1) := by decide +kernel
theorem dX5_parseClause_117 : decode cX5_parseClause 117 = .ok (.ireturn, 1) := by decide +kernel
set_option maxRecDepth 20000 in
theorem ggX5_parseDigit_X5_next : GoodIn wsX5_parseDigit wsX5_next := goodIn_r _ [6, 1, 7, 8, 15, 16, 17, 18, 19, 20, 21, 22] (by decide +kernel) (by decide +kernel)
set_option maxRecDepth 20000 in
theorem gX5_parseDigit_X5_next : GoodIn wsX5_parseDigit (wsV RX5 38 RX5 yX5_next wsX5_next) := goodIn_app (goodIn_of _ (by decide +kernel)) ggX5_parseDigit_X5_next
set_option maxRecDepth 20000 in
theorem ggX5_parseDigit_X5_keep : GoodIn wsX5_parseDigit wsX5_keep := goodIn_r _ [12, 13, 14, 15, 16, 17, 18, 19, 20, 21, 22] (by decide +kernel) (by decide +kernel)
set_option maxRecDepth 20000 in
theorem gX5_parseDigit_X5_keep : GoodIn wsX5_parseDigit (wsV RX5 58 RX5 yX5_keep wsX5_keep) := goodIn_app (goodIn_of _ (by decide +kernel)) ggX5_parseDigit_X5_keep
theorem dX5_parseDigit_0 : decode cX5_parseDigit 0 = .ok (.aload_n 0, 1) := by decide +kernel
theorem dX5_parseDigit_1 : decode cX5_parseDigit 1 = .ok (.invokevirtual 38, 3) := by decide +kernel
theorem dX5_parseDigit_4 : decode cX5_parseDigit 4 = .ok (.istore_n 1, 1) := by decide +kernel
theorem dX5_parseDigit_5 : decode cX5_parseDigit 5 = .ok (.iload_n 1, 1) := by decide +kernel
theorem dX5_parseDigit_6 : decode cX5_parseDigit 6 = .ok (.bipush 48, 2) := by decide +kernel
theorem dX5_parseDigit_8 : decode cX5_parseDigit 8 = .ok (.if_icmp .lt 9, 3) := by decide +kernel
theorem dX5_parseDigit_11 : decode cX5_parseDigit 11 = .ok (.iload_n 1, 1) := by decide +kernel
theorem dX5_parseDigit_12 : decode cX5_parseDigit 12 = .ok (.bipush 57, 2) := by decide +kernel
theorem dX5_parseDigit_14 : decode cX5_parseDigit 14 = .ok (.if_icmp .le 5, 3) := by decide +kernel
theorem dX5_parseDigit_17 : decode cX5_parseDigit 17 = .ok (.iconst 0, 1) := by decide +kernel
theorem dX5_parseDigit_18 : decode cX5_parseDigit 18 = .ok (.ireturn, 1) := by decide +kernel
theorem dX5_parseDigit_19 : decode cX5_parseDigit 19 = .ok (.aload_n 0, 1) := by decide +kernel
theorem dX5_parseDigit_20 : decode cX5_parseDigit 20 = .ok (.dup, 1) := by decide +kernel
theorem dX5_parseDigit_21 : decode cX5_parseDigit 21 = .ok (.getfield 19, 3) := by decide +kernel
theorem dX5_parseDigit_24 : decode cX5_parseDigit 24 = .ok (.iconst 1, 1) := by decide +kernel
theorem dX5_parseDigit_25 : decode cX5_parseDigit 25 = .ok (.iadd, 1) := by decide +kernel
theorem dX5_parseDigit_26 : decode cX5_parseDigit 26 = .ok (.putfield 19, 3) := by decide +kernel
theorem dX5_parseDigit_29 : decode cX5_parseDigit 29 = .ok (.aload_n 0, 1) := by decide +kernel
theorem dX5_parseDigit_30 : decode cX5_parseDigit 30 = .ok (.iload_n 1, 1) := by decide +kernel
theorem dX5_parseDigit_31 : decode cX5_parseDigit 31 = .ok (.bipush 48, 2) := by decide +kernel
theorem dX5_parseDigit_33 : decode cX5_parseDigit 33 = .ok (.isub, 1) := by decide +kernel
theorem dX5_parseDigit_34 : decode cX5_parseDigit 34 = .ok (.invokevirtual 58, 3) := by decide +kernel
theorem dX5_parseDigit_37 : decode cX5_parseDigit 37 = .ok (.iconst 1, 1) := by decide +kernel
theorem dX5_parseDigit_38 : decode cX5_parseDigit 38 = .ok (.ireturn, 1) := by decide +kernel
set_option maxRecDepth 20000 in
theorem ggX5_parseWords_X5_parseWord : GoodIn wsX5_parseWords wsX5_parseWord := goodIn_r _ [7, 2, 8, 9, 10, 6, 11, 12, 1, 13, 14, 15, 16, 17, 18, 19, 20, 21, 22, 23, 24, 25, 26, 27, 28, 29] (by decide +kernel) (by decide +kernel)
set_option maxRecDepth 20000 in
theorem gX5_parseWords_X5_parseWord : GoodIn wsX5_parseWords (wsV RX5 52 RX5 yX5_parseWord wsX5_parseWord) := goodIn_app (goodIn_of _ (by decide +kernel)) ggX5_parseWords_X5_parseWord
set_option maxRecDepth 20000 in
theorem ggX5_parseWords_X5_next : GoodIn wsX5_parseWords wsX5_next := goodIn_r _ [11, 2, 12, 1, 22, 23, 24, 25, 26, 27, 28, 29] (by decide +kernel) (by decide +kernel)
set_option maxRecDepth 20000 in
theorem gX5_parseWords_X5_next : GoodIn wsX5_parseWords (wsV RX5 38 RX5 yX5_next wsX5_next) := goodIn_app (goodIn_of _ (by decide +kernel)) ggX5_parseWords_X5_next
set_option maxRecDepth 20000 in
theorem ggX5_parseWords_X5_isPlaceSign : GoodIn wsX5_parseWords wsX5_isPlaceSign := goodIn_r _ [21] (by decide +kernel) (by decide +kernel)
set_option maxRecDepth 20000 in
theorem gX5_parseWords_X5_isPlaceSign : GoodIn wsX5_parseWords (va_wsS RX5 62 yX5_isPlaceSign wsX5_isPlaceSign) := goodIn_app (goodIn_of _ (by decide +kernel)) ggX5_parseWords_X5_isPlaceSign
theorem dX5_parseWords_0 : decode cX5_parseWords 0 = .ok (.aload_n 0, 1) := by decide +kernel
theorem dX5_parseWords_1 : decode cX5_parseWords 1 = .ok (.invokevirtual 52, 3) := by decide +kernel
theorem dX5_parseWords_4 : decode cX5_parseWords 4 = .ok (.ifCond .ne 5, 3) := by decide +kernel
theorem dX5_parseWords_7 : decode cX5_parseWords 7 = .ok (.iconst 0, 1) := by decide +kernel
theorem dX5_parseWords_8 : decode cX5_parseWords 8 = .ok (.ireturn, 1) := by decide +kernel
theorem dX5_parseWords_9 : decode cX5_parseWords 9 = .ok (.iconst 1, 1) := by decide +kernel
theorem dX5_parseWords_10 : decode cX5_parseWords 10 = .ok (.istore_n 1, 1) := by decide +kernel
theorem dX5_parseWords_11 : decode cX5_parseWords 11 = .ok (.iload_n 1, 1) := by decide +kernel
theorem dX5_parseWords_12 : decode cX5_parseWords 12 = .ok (.bipush 16, 2) := by decide +kernel
theorem dX5_parseWords_14 : decode cX5_parseWords 14 = .ok (.if_icmp .ge 96, 3) := by decide +kernel
theorem dX5_parseWords_17 : decode cX5_parseWords 17 = .ok (.aload_n 0, 1) := by decide +kernel
theorem dX5_parseWords_18 : decode cX5_parseWords 18 = .ok (.getfield 15, 3) := by decide +kernel
theorem dX5_parseWords_21 : decode cX5_parseWords 21 = .ok (.aload_n 0, 1) := by decide +kernel
theorem dX5_parseWords_22 : decode cX5_parseWords 22 = .ok (.getfield 19, 3) := by decide +kernel
theorem dX5_parseWords_25 : decode cX5_parseWords 25 = .ok (.iconst 1, 1) := by decide +kernel
theorem dX5_parseWords_26 : decode cX5_parseWords 26 = .ok (.isub, 1) := by decide +kernel
theorem dX5_parseWords_27 : decode cX5_parseWords 27 = .ok (.baload, 1) := by decide +kernel
theorem dX5_parseWords_28 : decode cX5_parseWords 28 = .ok (.bipush 120, 2) := by decide +kernel
theorem dX5_parseWords_30 : decode cX5_parseWords 30 = .ok (.if_icmp .ne 7, 3) := by decide +kernel
theorem dX5_parseWords_33 : decode cX5_parseWords 33 = .ok (.iconst 1, 1) := by decide +kernel
theorem dX5_parseWords_34 : decode cX5_parseWords 34 = .ok (.goto 4, 3) := by decide +kernel
theorem dX5_parseWords_37 : decode cX5_parseWords 37 = .ok (.iconst 0, 1) := by decide +kernel
theorem dX5_parseWords_38 : decode cX5_parseWords 38 = .ok (.istore_n 2, 1) := by decide +kernel
theorem dX5_parseWords_39 : decode cX5_parseWords 39 = .ok (.aload_n 0, 1) := by decide +kernel
theorem dX5_parseWords_40 : decode cX5_parseWords 40 = .ok (.invokevirtual 38, 3) := by decide +kernel
theorem dX5_parseWords_43 : decode cX5_parseWords 43 = .ok (.bipush 46, 2) := by decide +kernel
theorem dX5_parseWords_45 : decode cX5_parseWords 45 = .ok (.if_icmp .ne 29, 3) := by decide +kernel
theorem dX5_parseWords_48 : decode cX5_parseWords 48 = .ok (.iload_n 2, 1) := by decide +kernel
theorem dX5_parseWords_49 : decode cX5_parseWords 49 = .ok (.ifCond .ne 25, 3) := by decide +kernel
theorem dX5_parseWords_52 : decode cX5_parseWords 52 = .ok (.aload_n 0, 1) := by decide +kernel
theorem dX5_parseWords_53 : decode cX5_parseWords 53 = .ok (.dup, 1) := by decide +kernel
theorem dX5_parseWords_54 : decode cX5_parseWords 54 = .ok (.getfield 19, 3) := by decide +kernel
theorem dX5_parseWords_57 : decode cX5_parseWords 57 = .ok (.iconst 1, 1) := by decide +kernel
theorem dX5_parseWords_58 : decode cX5_parseWords 58 = .ok (.iadd, 1) := by decide +kernel
theorem dX5_parseWords_59 : decode cX5_parseWords 59 = .ok (.putfield 19, 3) := by decide +kernel
theorem dX5_parseWords_62 : decode cX5_parseWords 62 = .ok (.aload_n 0, 1) := by decide +kernel
theorem dX5_parseWords_63 : decode cX5_parseWords 63 = .ok (.invokevirtual 38, 3) := by decide +kernel
theorem dX5_parseWords_66 : decode cX5_parseWords 66 = .ok (.invokestatic 62, 3) := by decide +kernel
theorem dX5_parseWords_69 : decode cX5_parseWords 69 = .ok (.ifCond .ne 30, 3) := by decide +kernel
theorem dX5_parseWords_72 : decode cX5_parseWords 72 = .ok (.iconst 0, 1) := by decide +kernel
theorem dX5_parseWords_73 : decode cX5_parseWords 73 = .ok (.ireturn, 1) := by decide +kernel
theorem dX5_parseWords_74 : decode cX5_parseWords 74 = .ok (.aload_n 0, 1) := by decide +kernel
theorem dX5_parseWords_75 : decode cX5_parseWords 75 = .ok (.invokevirtual 38, 3) := by decide +kernel
theorem dX5_parseWords_78 : decode cX5_parseWords 78 = .ok (.bipush 120, 2) := by decide +kernel
theorem dX5_parseWords_80 : decode cX5_parseWords 80 = .ok (.if_icmp .eq 19, 3) := by decide +kernel
theorem dX5_parseWords_83 : decode cX5_parseWords 83 = .ok (.iload_n 2, 1) := by decide +kernel
theorem dX5_parseWords_84 : decode cX5_parseWords 84 = .ok (.ifCond .eq 13, 3) := by decide +kernel
theorem dX5_parseWords_87 : decode cX5_parseWords 87 = .ok (.aload_n 0, 1) := by decide +kernel
theorem dX5_parseWords_88 : decode cX5_parseWords 88 = .ok (.invokevirtual 38, 3) := by decide +kernel
theorem dX5_parseWords_91 : decode cX5_parseWords 91 = .ok (.invokestatic 62, 3) := by decide +kernel
theorem dX5_parseWords_94 : decode cX5_parseWords 94 = .ok (.ifCond .ne 5, 3) := by decide +kernel
theorem dX5_parseWords_97 : decode cX5_parseWords 97 = .ok (.iconst 1, 1) := by decide +kernel
theorem dX5_parseWords_98 : decode cX5_parseWords 98 = .ok (.ireturn, 1) := by decide +kernel
theorem dX5_parseWords_99 : decode cX5_parseWords 99 = .ok (.aload_n 0, 1) := by decide +kernel
theorem dX5_parseWords_100 : decode cX5_parseWords 100 = .ok (.invokevirtual 52, 3) := by decide +kernel
theorem dX5_parseWords_103 : decode cX5_parseWords 103 = .ok (.pop, 1) := by decide +kernel
theorem dX5_parseWords_104 : decode cX5_parseWords 104 = .ok (.iinc 1 1, 3) := by decide +kernel
theorem dX5_parseWords_107 : decode cX5_parseWords 107 = .ok (.goto (-96), 3) := by decide +kernel
theorem dX5_parseWords_110 : decode cX5_parseWords 110 = .ok (.iconst 1, 1) := by decide +kernel
theorem dX5_parseWords_111 : decode cX5_parseWords 111 = .ok (.ireturn, 1) := by decide +kernel
set_option maxRecDepth 20000 in
theorem ggX5_parseWord_X5_next : GoodIn wsX5_parseWord wsX5_next := goodIn_r _ [6, 1, 7, 8, 18, 19, 20, 21, 22, 23, 24, 25] (by decide +kernel) (by decide +kernel)
set_option maxRecDepth 20000 in
theorem gX5_parseWord_X5_next : GoodIn wsX5_parseWord (wsV RX5 38 RX5 yX5_next wsX5_next) := goodIn_app (goodIn_of _ (by decide +kernel)) ggX5_parseWord_X5_next
set_option maxRecDepth 20000 in
theorem ggX5_parseWord_X5_keep : GoodIn wsX5_parseWord wsX5_keep := goodIn_r _ [12, 13, 14, 18, 19, 20, 21, 22, 23, 24, 25] (by decide +kernel) (by decide +kernel)
set_option maxRecDepth 20000 in
theorem gX5_parseWord_X5_keep : GoodIn wsX5_parseWord (wsV RX5 58 RX5 yX5_keep wsX5_keep) := goodIn_app (goodIn_of _ (by decide +kernel)) ggX5_parseWord_X5_keep
set_option maxRecDepth 20000 in
theorem ggX5_parseWord_X5_isPlaceSign : GoodIn wsX5_parseWord wsX5_isPlaceSign := goodIn_r _ [17] (by decide +kernel) (by decide +kernel)
set_option maxRecDepth 20000 in
theorem gX5_parseWord_X5_isPlaceSign : GoodIn wsX5_parseWord (va_wsS RX5 62 yX5_isPlaceSign wsX5_isPlaceSign) := goodIn_app (goodIn_of _ (by decide +kernel)) ggX5_parseWord_X5_isPlaceSign
theorem dX5_parseWord_0 : decode cX5_parseWord 0 = .ok (.aload_n 0, 1) := by decide +kernel
theorem dX5_parseWord_1 : decode cX5_parseWord 1 = .ok (.invokevirtual 38, 3) := by decide +kernel
theorem dX5_parseWord_4 : decode cX5_parseWord 4 = .ok (.bipush 120, 2) := by decide +kernel
theorem dX5_parseWord_6 : decode cX5_parseWord 6 = .ok (.if_icmp .ne 20, 3) := by decide +kernel
theorem dX5_parseWord_9 : decode cX5_parseWord 9 = .ok (.aload_n 0, 1) := by decide +kernel
theorem dX5_parseWord_10 : decode cX5_parseWord 10 = .ok (.dup, 1) := by decide +kernel
theorem dX5_parseWord_11 : decode cX5_parseWord 11 = .ok (.getfield 19, 3) := by decide +kernel
theorem dX5_parseWord_14 : decode cX5_parseWord 14 = .ok (.iconst 1, 1) := by decide +kernel
theorem dX5_parseWord_15 : decode cX5_parseWord 15 = .ok (.iadd, 1) := by decide +kernel
theorem dX5_parseWord_16 : decode cX5_parseWord 16 = .ok (.putfield 19, 3) := by decide +kernel
theorem dX5_parseWord_19 : decode cX5_parseWord 19 = .ok (.aload_n 0, 1) := by decide +kernel
theorem dX5_parseWord_20 : decode cX5_parseWord 20 = .ok (.iconst 0, 1) := by decide +kernel
theorem dX5_parseWord_21 : decode cX5_parseWord 21 = .ok (.invokevirtual 58, 3) := by decide +kernel
theorem dX5_parseWord_24 : decode cX5_parseWord 24 = .ok (.iconst 1, 1) := by decide +kernel
theorem dX5_parseWord_25 : decode cX5_parseWord 25 = .ok (.ireturn, 1) := by decide +kernel
theorem dX5_parseWord_26 : decode cX5_parseWord 26 = .ok (.iconst 0, 1) := by decide +kernel
theorem dX5_parseWord_27 : decode cX5_parseWord 27 = .ok (.istore_n 1, 1) := by decide +kernel
theorem dX5_parseWord_28 : decode cX5_parseWord 28 = .ok (.iconst 0, 1) := by decide +kernel
theorem dX5_parseWord_29 : decode cX5_parseWord 29 = .ok (.istore_n 2, 1) := by decide +kernel
theorem dX5_parseWord_30 : decode cX5_parseWord 30 = .ok (.iload_n 2, 1) := by decide +kernel
theorem dX5_parseWord_31 : decode cX5_parseWord 31 = .ok (.bipush 8, 2) := by decide +kernel
theorem dX5_parseWord_33 : decode cX5_parseWord 33 = .ok (.if_icmp .ge 41, 3) := by decide +kernel
theorem dX5_parseWord_36 : decode cX5_parseWord 36 = .ok (.aload_n 0, 1) := by decide +kernel
theorem dX5_parseWord_37 : decode cX5_parseWord 37 = .ok (.invokevirtual 38, 3) := by decide +kernel
theorem dX5_parseWord_40 : decode cX5_parseWord 40 = .ok (.invokestatic 62, 3) := by decide +kernel
theorem dX5_parseWord_43 : decode cX5_parseWord 43 = .ok (.ifCond .eq 31, 3) := by decide +kernel
theorem dX5_parseWord_46 : decode cX5_parseWord 46 = .ok (.iload_n 1, 1) := by decide +kernel
theorem dX5_parseWord_47 : decode cX5_parseWord 47 = .ok (.iconst 1, 1) := by decide +kernel
theorem dX5_parseWord_48 : decode cX5_parseWord 48 = .ok (.aload_n 0, 1) := by decide +kernel
theorem dX5_parseWord_49 : decode cX5_parseWord 49 = .ok (.invokevirtual 38, 3) := by decide +kernel
theorem dX5_parseWord_52 : decode cX5_parseWord 52 = .ok (.bipush 49, 2) := by decide +kernel
theorem dX5_parseWord_54 : decode cX5_parseWord 54 = .ok (.isub, 1) := by decide +kernel
theorem dX5_parseWord_55 : decode cX5_parseWord 55 = .ok (.ishl, 1) := by decide +kernel
theorem dX5_parseWord_56 : decode cX5_parseWord 56 = .ok (.ior, 1) := by decide +kernel
theorem dX5_parseWord_57 : decode cX5_parseWord 57 = .ok (.istore_n 1, 1) := by decide +kernel
theorem dX5_parseWord_58 : decode cX5_parseWord 58 = .ok (.aload_n 0, 1) := by decide +kernel
theorem dX5_parseWord_59 : decode cX5_parseWord 59 = .ok (.dup, 1) := by decide +kernel
theorem dX5_parseWord_60 : decode cX5_parseWord 60 = .ok (.getfield 19, 3) := by decide +kernel
theorem dX5_parseWord_63 : decode cX5_parseWord 63 = .ok (.iconst 1, 1) := by decide +kernel
theorem dX5_parseWord_64 : decode cX5_parseWord 64 = .ok (.iadd, 1) := by decide +kernel
theorem dX5_parseWord_65 : decode cX5_parseWord 65 = .ok (.putfield 19, 3) := by decide +kernel
theorem dX5_parseWord_68 : decode cX5_parseWord 68 = .ok (.iinc 2 1, 3) := by decide +kernel
theorem dX5_parseWord_71 : decode cX5_parseWord 71 = .ok (.goto (-41), 3) := by decide +kernel
theorem dX5_parseWord_74 : decode cX5_parseWord 74 = .ok (.iload_n 2, 1) := by decide +kernel
theorem dX5_parseWord_75 : decode cX5_parseWord 75 = .ok (.ifCond .ne 5, 3) := by decide +kernel
theorem dX5_parseWord_78 : decode cX5_parseWord 78 = .ok (.iconst 0, 1) := by decide +kernel
theorem dX5_parseWord_79 : decode cX5_parseWord 79 = .ok (.ireturn, 1) := by decide +kernel
theorem dX5_parseWord_80 : decode cX5_parseWord 80 = .ok (.aload_n 0, 1) := by decide +kernel
theorem dX5_parseWord_81 : decode cX5_parseWord 81 = .ok (.iload_n 1, 1) := by decide +kernel
theorem dX5_parseWord_82 : decode cX5_parseWord 82 = .ok (.invokevirtual 58, 3) := by decide +kernel
theorem dX5_parseWord_85 : decode cX5_parseWord 85 = .ok (.iconst 1, 1) := by decide +kernel
theorem dX5_parseWord_86 : decode cX5_parseWord 86 = .ok (.ireturn, 1) := by decide +kernel
set_option maxRecDepth 20000 in
theorem ggX5_parseCalls_X5_next : GoodIn wsX5_parseCalls wsX5_next := goodIn_r _ [6, 1, 7, 8, 18, 19, 20, 21, 22, 23, 24, 25] (by decide +kernel) (by decide +kernel)
set_option maxRecDepth 20000 in
theorem gX5_parseCalls_X5_next : GoodIn wsX5_parseCalls (wsV RX5 38 RX5 yX5_next wsX5_next) := goodIn_app (goodIn_of _ (by decide +kernel)) ggX5_parseCalls_X5_next
set_option maxRecDepth 20000 in
theorem ggX5_parseCalls_X5_callOf : GoodIn wsX5_parseCalls wsX5_callOf := goodIn_r _ [11] (by decide +kernel) (by decide +kernel)
set_option maxRecDepth 20000 in
theorem gX5_parseCalls_X5_callOf : GoodIn wsX5_parseCalls (va_wsS RX5 66 yX5_callOf wsX5_callOf) := goodIn_app (goodIn_of _ (by decide +kernel)) ggX5_parseCalls_X5_callOf
set_option maxRecDepth 20000 in
theorem ggX5_parseCalls_X5_keep : GoodIn wsX5_parseCalls wsX5_keep := goodIn_r _ [15, 16, 17, 18, 19, 20, 21, 22, 23, 24, 25] (by decide +kernel) (by decide +kernel)
set_option maxRecDepth 20000 in
theorem gX5_parseCalls_X5_keep : GoodIn wsX5_parseCalls (wsV RX5 58 RX5 yX5_keep wsX5_keep) := goodIn_app (goodIn_of _ (by decide +kernel)) ggX5_parseCalls_X5_keep
theorem dX5_parseCalls_0 : decode cX5_parseCalls 0 = .ok (.iconst 0, 1) := by decide +kernel
theorem dX5_parseCalls_1 : decode cX5_parseCalls 1 = .ok (.istore_n 1, 1) := by decide +kernel
theorem dX5_parseCalls_2 : decode cX5_parseCalls 2 = .ok (.iload_n 1, 1) := by decide +kernel
theorem dX5_parseCalls_3 : decode cX5_parseCalls 3 = .ok (.bipush 12, 2) := by decide +kernel
theorem dX5_parseCalls_5 : decode cX5_parseCalls 5 = .ok (.if_icmp .ge 41, 3) := by decide +kernel
theorem dX5_parseCalls_8 : decode cX5_parseCalls 8 = .ok (.aload_n 0, 1) := by decide +kernel
theorem dX5_parseCalls_9 : decode cX5_parseCalls 9 = .ok (.invokevirtual 38, 3) := by decide +kernel
theorem dX5_parseCalls_12 : decode cX5_parseCalls 12 = .ok (.invokestatic 66, 3) := by decide +kernel
theorem dX5_parseCalls_15 : decode cX5_parseCalls 15 = .ok (.iconst (-1), 1) := by decide +kernel
theorem dX5_parseCalls_16 : decode cX5_parseCalls 16 = .ok (.if_icmp .eq 30, 3) := by decide +kernel
theorem dX5_parseCalls_19 : decode cX5_parseCalls 19 = .ok (.aload_n 0, 1) := by decide +kernel
theorem dX5_parseCalls_20 : decode cX5_parseCalls 20 = .ok (.aload_n 0, 1) := by decide +kernel
theorem dX5_parseCalls_21 : decode cX5_parseCalls 21 = .ok (.invokevirtual 38, 3) := by decide +kernel
theorem dX5_parseCalls_24 : decode cX5_parseCalls 24 = .ok (.invokestatic 66, 3) := by decide +kernel
theorem dX5_parseCalls_27 : decode cX5_parseCalls 27 = .ok (.invokevirtual 58, 3) := by decide +kernel
theorem dX5_parseCalls_30 : decode cX5_parseCalls 30 = .ok (.aload_n 0, 1) := by decide +kernel
theorem dX5_parseCalls_31 : decode cX5_parseCalls 31 = .ok (.dup, 1) := by decide +kernel
theorem dX5_parseCalls_32 : decode cX5_parseCalls 32 = .ok (.getfield 19, 3) := by decide +kernel
theorem dX5_parseCalls_35 : decode cX5_parseCalls 35 = .ok (.iconst 1, 1) := by decide +kernel
theorem dX5_parseCalls_36 : decode cX5_parseCalls 36 = .ok (.iadd, 1) := by decide +kernel
theorem dX5_parseCalls_37 : decode cX5_parseCalls 37 = .ok (.putfield 19, 3) := by decide +kernel
theorem dX5_parseCalls_40 : decode cX5_parseCalls 40 = .ok (.iinc 1 1, 3) := by decide +kernel
theorem dX5_parseCalls_43 : decode cX5_parseCalls 43 = .ok (.goto (-41), 3) := by decide +kernel
theorem dX5_parseCalls_46 : decode cX5_parseCalls 46 = .ok (.iload_n 1, 1) := by decide +kernel
theorem dX5_parseCalls_47 : decode cX5_parseCalls 47 = .ok (.ifCond .le 7, 3) := by decide +kernel
theorem dX5_parseCalls_50 : decode cX5_parseCalls 50 = .ok (.iconst 1, 1) := by decide +kernel
theorem dX5_parseCalls_51 : decode cX5_parseCalls 51 = .ok (.goto 4, 3) := by decide +kernel
theorem dX5_parseCalls_54 : decode cX5_parseCalls 54 = .ok (.iconst 0, 1) := by decide +kernel
theorem dX5_parseCalls_55 : decode cX5_parseCalls 55 = .ok (.ireturn, 1) := by decide +kernel
theorem dX5_isPlaceSign_0 : decode cX5_isPlaceSign 0 = .ok (.iload_n 0, 1) := by decide +kernel
theorem dX5_isPlaceSign_1 : decode cX5_isPlaceSign 1 = .ok (.bipush 49, 2) := by decide +kernel
theorem dX5_isPlaceSign_3 : decode cX5_isPlaceSign 3 = .ok (.if_icmp .lt 13, 3) := by decide +kernel
theorem dX5_isPlaceSign_6 : decode cX5_isPlaceSign 6 = .ok (.iload_n 0, 1) := by decide +kernel
theorem dX5_isPlaceSign_7 : decode cX5_isPlaceSign 7 = .ok (.bipush 56, 2) := by decide +kernel
theorem dX5_isPlaceSign_9 : decode cX5_isPlaceSign 9 = .ok (.if_icmp .gt 7, 3) := by decide +kernel
theorem dX5_isPlaceSign_12 : decode cX5_isPlaceSign 12 = .ok (.iconst 1, 1) := by decide +kernel
theorem dX5_isPlaceSign_13 : decode cX5_isPlaceSign 13 = .ok (.goto 4, 3) := by decide +kernel
theorem dX5_isPlaceSign_16 : decode cX5_isPlaceSign 16 = .ok (.iconst 0, 1) := by decide +kernel
theorem dX5_isPlaceSign_17 : decode cX5_isPlaceSign 17 = .ok (.ireturn, 1) := by decide +kernel
theorem dX5_callOf_0 : decode cX5_callOf 0 = .ok (.iload_n 0, 1) := by decide +kernel
theorem dX5_callOf_1 : decode cX5_callOf 1 = .ok (.lookupswitch 41 #[(98, 37), (112, 35), (115, 39)], 35) := by decide +kernel
theorem dX5_callOf_36 : decode cX5_callOf 36 = .ok (.iconst 0, 1) := by decide +kernel
theorem dX5_callOf_37 : decode cX5_callOf 37 = .ok (.ireturn, 1) := by decide +kernel
theorem dX5_callOf_38 : decode cX5_callOf 38 = .ok (.iconst 1, 1) := by decide +kernel
theorem dX5_callOf_39 : decode cX5_callOf 39 = .ok (.ireturn, 1) := by decide +kernel
theorem dX5_callOf_40 : decode cX5_callOf 40 = .ok (.iconst 2, 1) := by decide +kernel
theorem dX5_callOf_41 : decode cX5_callOf 41 = .ok (.ireturn, 1) := by decide +kernel
theorem dX5_callOf_42 : decode cX5_callOf 42 = .ok (.iconst (-1), 1) := by decide +kernel
theorem dX5_callOf_43 : decode cX5_callOf 43 = .ok (.ireturn, 1) := by decide +kernel
theorem dX5_keep_0 : decode cX5_keep 0 = .ok (.aload_n 0, 1) := by decide +kernel
theorem dX5_keep_1 : decode cX5_keep 1 = .ok (.getfield 35, 3) := by decide +kernel
theorem dX5_keep_4 : decode cX5_keep 4 = .ok (.bipush 100, 2) := by decide +kernel
theorem dX5_keep_6 : decode cX5_keep 6 = .ok (.if_icmp .ge 23, 3) := by decide +kernel
theorem dX5_keep_9 : decode cX5_keep 9 = .ok (.aload_n 0, 1) := by decide +kernel
theorem dX5_keep_10 : decode cX5_keep 10 = .ok (.getfield 32, 3) := by decide +kernel
theorem dX5_keep_13 : decode cX5_keep 13 = .ok (.aload_n 0, 1) := by decide +kernel
theorem dX5_keep_14 : decode cX5_keep 14 = .ok (.getfield 35, 3) := by decide +kernel
theorem dX5_keep_17 : decode cX5_keep 17 = .ok (.iload_n 1, 1) := by decide +kernel
theorem dX5_keep_18 : decode cX5_keep 18 = .ok (.iastore, 1) := by decide +kernel
theorem dX5_keep_19 : decode cX5_keep 19 = .ok (.aload_n 0, 1) := by decide +kernel
theorem dX5_keep_20 : decode cX5_keep 20 = .ok (.dup, 1) := by decide +kernel
theorem dX5_keep_21 : decode cX5_keep 21 = .ok (.getfield 35, 3) := by decide +kernel
theorem dX5_keep_24 : decode cX5_keep 24 = .ok (.iconst 1, 1) := by decide +kernel
theorem dX5_keep_25 : decode cX5_keep 25 = .ok (.iadd, 1) := by decide +kernel
theorem dX5_keep_26 : decode cX5_keep 26 = .ok (.putfield 35, 3) := by decide +kernel
theorem dX5_keep_29 : decode cX5_keep 29 = .ok (.return_, 1) := by decide +kernel
set_option maxRecDepth 20000 in
theorem ggX5_perform_X5_performClause : GoodIn wsX5_perform wsX5_performClause := goodIn_r _ [8, 9, 10, 11, 7, 12, 13, 14, 15, 16, 17, 18, 19, 20, 21, 22, 23, 24, 25, 26, 27, 28, 29, 30, 31, 32, 33, 34, 35, 36, 37, 38, 39, 40, 41, 42, 43, 44, 45, 46, 47, 48, 49, 50, 51, 52, 53, 54, 55, 56, 57, 58, 59, 60, 61, 62, 63, 64, 65, 66, 67, 68, 69, 70, 71, 72, 73, 74, 75, 76, 77, 78, 79, 80, 81] (by decide +kernel) (by decide +kernel)
set_option maxRecDepth 20000 in
theorem gX5_perform_X5_performClause : GoodIn wsX5_perform (wsV RX5 70 RX5 yX5_performClause wsX5_performClause) := goodIn_app (goodIn_of _ (by decide +kernel)) ggX5_perform_X5_performClause
theorem dX5_perform_0 : decode cX5_perform 0 = .ok (.iconst 0, 1) := by decide +kernel
theorem dX5_perform_1 : decode cX5_perform 1 = .ok (.istore_n 2, 1) := by decide +kernel
theorem dX5_perform_2 : decode cX5_perform 2 = .ok (.iconst 0, 1) := by decide +kernel
theorem dX5_perform_3 : decode cX5_perform 3 = .ok (.istore_n 3, 1) := by decide +kernel
theorem dX5_perform_4 : decode cX5_perform 4 = .ok (.iload_n 3, 1) := by decide +kernel
theorem dX5_perform_5 : decode cX5_perform 5 = .ok (.aload_n 0, 1) := by decide +kernel
theorem dX5_perform_6 : decode cX5_perform 6 = .ok (.getfield 29, 3) := by decide +kernel
theorem dX5_perform_9 : decode cX5_perform 9 = .ok (.if_icmp .ge 40, 3) := by decide +kernel
theorem dX5_perform_12 : decode cX5_perform 12 = .ok (.aload_n 0, 1) := by decide +kernel
theorem dX5_perform_13 : decode cX5_perform 13 = .ok (.aload_n 1, 1) := by decide +kernel
theorem dX5_perform_14 : decode cX5_perform 14 = .ok (.aload_n 0, 1) := by decide +kernel
theorem dX5_perform_15 : decode cX5_perform 15 = .ok (.getfield 22, 3) := by decide +kernel
theorem dX5_perform_18 : decode cX5_perform 18 = .ok (.iload_n 3, 1) := by decide +kernel
theorem dX5_perform_19 : decode cX5_perform 19 = .ok (.iaload, 1) := by decide +kernel
theorem dX5_perform_20 : decode cX5_perform 20 = .ok (.aload_n 0, 1) := by decide +kernel
theorem dX5_perform_21 : decode cX5_perform 21 = .ok (.getfield 26, 3) := by decide +kernel
theorem dX5_perform_24 : decode cX5_perform 24 = .ok (.iload_n 3, 1) := by decide +kernel
theorem dX5_perform_25 : decode cX5_perform 25 = .ok (.iaload, 1) := by decide +kernel
theorem dX5_perform_26 : decode cX5_perform 26 = .ok (.aload_n 0, 1) := by decide +kernel
theorem dX5_perform_27 : decode cX5_perform 27 = .ok (.getfield 26, 3) := by decide +kernel
theorem dX5_perform_30 : decode cX5_perform 30 = .ok (.iload_n 3, 1) := by decide +kernel
theorem dX5_perform_31 : decode cX5_perform 31 = .ok (.iconst 1, 1) := by decide +kernel
theorem dX5_perform_32 : decode cX5_perform 32 = .ok (.iadd, 1) := by decide +kernel
theorem dX5_perform_33 : decode cX5_perform 33 = .ok (.iaload, 1) := by decide +kernel
theorem dX5_perform_34 : decode cX5_perform 34 = .ok (.invokevirtual 70, 3) := by decide +kernel
theorem dX5_perform_37 : decode cX5_perform 37 = .ok (.ifCond .eq 6, 3) := by decide +kernel
theorem dX5_perform_40 : decode cX5_perform 40 = .ok (.iinc 2 1, 3) := by decide +kernel
theorem dX5_perform_43 : decode cX5_perform 43 = .ok (.iinc 3 1, 3) := by decide +kernel
theorem dX5_perform_46 : decode cX5_perform 46 = .ok (.goto (-42), 3) := by decide +kernel
theorem dX5_perform_49 : decode cX5_perform 49 = .ok (.iload_n 2, 1) := by decide +kernel
theorem dX5_perform_50 : decode cX5_perform 50 = .ok (.ireturn, 1) := by decide +kernel
set_option maxRecDepth 20000 in
theorem ggX5_performClause_X5_beginBells : GoodIn wsX5_performClause wsX5_beginBells := goodIn_r _ [5, 6, 7, 8, 9, 10, 11, 12, 13, 14, 15, 16, 17, 18, 19, 20, 21, 60, 61, 62, 63, 64, 65, 66, 67, 68, 69, 70, 71, 72, 73, 74] (by decide +kernel) (by decide +kernel)
set_option maxRecDepth 20000 in
theorem gX5_performClause_X5_beginBells : GoodIn wsX5_performClause (va_wsS RX5 74 yX5_beginBells wsX5_beginBells) := goodIn_app (goodIn_of _ (by decide +kernel)) ggX5_performClause_X5_beginBells
set_option maxRecDepth 20000 in
theorem ggX5_performClause_X5_setMethod : GoodIn wsX5_performClause wsX5_setMethod := goodIn_r _ [25, 26, 1, 27, 28, 29, 30, 31, 32, 33, 34, 35, 36, 37, 38, 60, 61, 62, 63, 64, 65, 66, 67, 68, 69, 70, 52, 53, 54, 55, 56, 57, 58, 59] (by decide +kernel) (by decide +kernel)
set_option maxRecDepth 20000 in
theorem gX5_performClause_X5_setMethod : GoodIn wsX5_performClause (wsV RX5 78 RX5 yX5_setMethod wsX5_setMethod) := goodIn_app (goodIn_of _ (by decide +kernel)) ggX5_performClause_X5_setMethod
set_option maxRecDepth 20000 in
theorem ggX5_performClause_X5_setCall : GoodIn wsX5_performClause wsX5_setCall := goodIn_r _ [41, 26, 29, 30, 31, 32, 33, 34, 35, 36, 37, 38, 42, 43, 44, 9, 45, 13, 14, 60, 61, 62, 63, 64, 65, 66, 67, 68, 69, 70] (by decide +kernel) (by decide +kernel)
set_option maxRecDepth 20000 in
theorem gX5_performClause_X5_setCall : GoodIn wsX5_performClause (va_wsS RX5 82 yX5_setCall wsX5_setCall) := goodIn_app (goodIn_of _ (by decide +kernel)) ggX5_performClause_X5_setCall
set_option maxRecDepth 20000 in
theorem ggX5_performClause_X5_setLeads : GoodIn wsX5_performClause wsX5_setLeads := goodIn_r _ [49, 50, 51, 1, 60, 61, 62, 63, 64, 65, 66, 67, 68, 69, 70, 52, 53, 54, 55, 56, 57, 58, 59] (by decide +kernel) (by decide +kernel)
set_option maxRecDepth 20000 in
theorem gX5_performClause_X5_setLeads : GoodIn wsX5_performClause (wsV RX5 85 RX5 yX5_setLeads wsX5_setLeads) := goodIn_app (goodIn_of _ (by decide +kernel)) ggX5_performClause_X5_setLeads
theorem dX5_performClause_0 : decode cX5_performClause 0 = .ok (.iload_n 2, 1) := by decide +kernel
theorem dX5_performClause_1 : decode cX5_performClause 1 = .ok (.lookupswitch 87 #[(98, 63), (109, 54), (110, 43), (115, 75)], 43) := by decide +kernel
theorem dX5_performClause_44 : decode cX5_performClause 44 = .ok (.aload_n 1, 1) := by decide +kernel
theorem dX5_performClause_45 : decode cX5_performClause 45 = .ok (.aload_n 0, 1) := by decide +kernel
theorem dX5_performClause_46 : decode cX5_performClause 46 = .ok (.getfield 32, 3) := by decide +kernel
theorem dX5_performClause_49 : decode cX5_performClause 49 = .ok (.iload_n 3, 1) := by decide +kernel
theorem dX5_performClause_50 : decode cX5_performClause 50 = .ok (.iaload, 1) := by decide +kernel
theorem dX5_performClause_51 : decode cX5_performClause 51 = .ok (.invokestatic 74, 3) := by decide +kernel
theorem dX5_performClause_54 : decode cX5_performClause 54 = .ok (.ireturn, 1) := by decide +kernel
theorem dX5_performClause_55 : decode cX5_performClause 55 = .ok (.aload_n 0, 1) := by decide +kernel
theorem dX5_performClause_56 : decode cX5_performClause 56 = .ok (.aload_n 1, 1) := by decide +kernel
theorem dX5_performClause_57 : decode cX5_performClause 57 = .ok (.iload_n 3, 1) := by decide +kernel
theorem dX5_performClause_58 : decode cX5_performClause 58 = .ok (.iload 4, 2) := by decide +kernel
theorem dX5_performClause_60 : decode cX5_performClause 60 = .ok (.invokevirtual 78, 3) := by decide +kernel
theorem dX5_performClause_63 : decode cX5_performClause 63 = .ok (.ireturn, 1) := by decide +kernel
theorem dX5_performClause_64 : decode cX5_performClause 64 = .ok (.aload_n 1, 1) := by decide +kernel
theorem dX5_performClause_65 : decode cX5_performClause 65 = .ok (.iconst 1, 1) := by decide +kernel
theorem dX5_performClause_66 : decode cX5_performClause 66 = .ok (.aload_n 0, 1) := by decide +kernel
theorem dX5_performClause_67 : decode cX5_performClause 67 = .ok (.getfield 32, 3) := by decide +kernel
theorem dX5_performClause_70 : decode cX5_performClause 70 = .ok (.iload_n 3, 1) := by decide +kernel
theorem dX5_performClause_71 : decode cX5_performClause 71 = .ok (.iaload, 1) := by decide +kernel
theorem dX5_performClause_72 : decode cX5_performClause 72 = .ok (.invokestatic 82, 3) := by decide +kernel
theorem dX5_performClause_75 : decode cX5_performClause 75 = .ok (.ireturn, 1) := by decide +kernel
theorem dX5_performClause_76 : decode cX5_performClause 76 = .ok (.aload_n 1, 1) := by decide +kernel
theorem dX5_performClause_77 : decode cX5_performClause 77 = .ok (.iconst 2, 1) := by decide +kernel
theorem dX5_performClause_78 : decode cX5_performClause 78 = .ok (.aload_n 0, 1) := by decide +kernel
theorem dX5_performClause_79 : decode cX5_performClause 79 = .ok (.getfield 32, 3) := by decide +kernel
theorem dX5_performClause_82 : decode cX5_performClause 82 = .ok (.iload_n 3, 1) := by decide +kernel
theorem dX5_performClause_83 : decode cX5_performClause 83 = .ok (.iaload, 1) := by decide +kernel
theorem dX5_performClause_84 : decode cX5_performClause 84 = .ok (.invokestatic 82, 3) := by decide +kernel
theorem dX5_performClause_87 : decode cX5_performClause 87 = .ok (.ireturn, 1) := by decide +kernel
theorem dX5_performClause_88 : decode cX5_performClause 88 = .ok (.aload_n 0, 1) := by decide +kernel
theorem dX5_performClause_89 : decode cX5_performClause 89 = .ok (.aload_n 1, 1) := by decide +kernel
theorem dX5_performClause_90 : decode cX5_performClause 90 = .ok (.iload_n 3, 1) := by decide +kernel
theorem dX5_performClause_91 : decode cX5_performClause 91 = .ok (.iload 4, 2) := by decide +kernel
theorem dX5_performClause_93 : decode cX5_performClause 93 = .ok (.invokevirtual 85, 3) := by decide +kernel
theorem dX5_performClause_96 : decode cX5_performClause 96 = .ok (.ireturn, 1) := by decide +kernel
set_option maxRecDepth 20000 in
theorem ggX5_beginBells_X4_begin : GoodIn wsX5_beginBells wsX4_begin := goodIn_r _ [5, 6, 7, 8, 9, 10, 11, 12, 13, 14, 15, 16, 17, 18, 19, 20, 21, 22, 23, 24, 25, 26, 27, 28, 29, 30, 31] (by decide +kernel) (by decide +kernel)
set_option maxRecDepth 20000 in
theorem gX5_beginBells_X4_begin : GoodIn wsX5_beginBells (wsV RX5 88 RX4 yX4_begin wsX4_begin) := goodIn_app (goodIn_of _ (by decide +kernel)) ggX5_beginBells_X4_begin
theorem dX5_beginBells_0 : decode cX5_beginBells 0 = .ok (.iload_n 1, 1) := by decide +kernel
theorem dX5_beginBells_1 : decode cX5_beginBells 1 = .ok (.iconst 4, 1) := by decide +kernel
theorem dX5_beginBells_2 : decode cX5_beginBells 2 = .ok (.if_icmp .lt 9, 3) := by decide +kernel
theorem dX5_beginBells_5 : decode cX5_beginBells 5 = .ok (.iload_n 1, 1) := by decide +kernel
theorem dX5_beginBells_6 : decode cX5_beginBells 6 = .ok (.bipush 8, 2) := by decide +kernel
theorem dX5_beginBells_8 : decode cX5_beginBells 8 = .ok (.if_icmp .le 5, 3) := by decide +kernel
theorem dX5_beginBells_11 : decode cX5_beginBells 11 = .ok (.iconst 0, 1) := by decide +kernel
theorem dX5_beginBells_12 : decode cX5_beginBells 12 = .ok (.ireturn, 1) := by decide +kernel
theorem dX5_beginBells_13 : decode cX5_beginBells 13 = .ok (.aload_n 0, 1) := by decide +kernel
theorem dX5_beginBells_14 : decode cX5_beginBells 14 = .ok (.iload_n 1, 1) := by decide +kernel
theorem dX5_beginBells_15 : decode cX5_beginBells 15 = .ok (.invokevirtual 88, 3) := by decide +kernel
theorem dX5_beginBells_18 : decode cX5_beginBells 18 = .ok (.iconst 1, 1) := by decide +kernel
theorem dX5_beginBells_19 : decode cX5_beginBells 19 = .ok (.ireturn, 1) := by decide +kernel
set_option maxRecDepth 20000 in
theorem ggX5_setMethod_X2_isGood : GoodIn wsX5_setMethod wsX2_isGood := goodIn_r _ [8, 9, 10, 7, 11, 12, 13, 14] (by decide +kernel) (by decide +kernel)
set_option maxRecDepth 20000 in
theorem gX5_setMethod_X2_isGood : GoodIn wsX5_setMethod (va_wsS RX5 96 yX2_isGood wsX2_isGood) := goodIn_app (goodIn_of _ (by decide +kernel)) ggX5_setMethod_X2_isGood
theorem dX5_setMethod_0 : decode cX5_setMethod 0 = .ok (.iload_n 2, 1) := by decide +kernel
theorem dX5_setMethod_1 : decode cX5_setMethod 1 = .ok (.istore 4, 2) := by decide +kernel
theorem dX5_setMethod_3 : decode cX5_setMethod 3 = .ok (.iload 4, 2) := by decide +kernel
theorem dX5_setMethod_5 : decode cX5_setMethod 5 = .ok (.iload_n 3, 1) := by decide +kernel
theorem dX5_setMethod_6 : decode cX5_setMethod 6 = .ok (.if_icmp .ge 28, 3) := by decide +kernel
theorem dX5_setMethod_9 : decode cX5_setMethod 9 = .ok (.aload_n 1, 1) := by decide +kernel
theorem dX5_setMethod_10 : decode cX5_setMethod 10 = .ok (.getfield 93, 3) := by decide +kernel
theorem dX5_setMethod_13 : decode cX5_setMethod 13 = .ok (.aload_n 0, 1) := by decide +kernel
theorem dX5_setMethod_14 : decode cX5_setMethod 14 = .ok (.getfield 32, 3) := by decide +kernel
theorem dX5_setMethod_17 : decode cX5_setMethod 17 = .ok (.iload 4, 2) := by decide +kernel
theorem dX5_setMethod_19 : decode cX5_setMethod 19 = .ok (.iaload, 1) := by decide +kernel
theorem dX5_setMethod_20 : decode cX5_setMethod 20 = .ok (.invokestatic 96, 3) := by decide +kernel
theorem dX5_setMethod_23 : decode cX5_setMethod 23 = .ok (.ifCond .ne 5, 3) := by decide +kernel
theorem dX5_setMethod_26 : decode cX5_setMethod 26 = .ok (.iconst 0, 1) := by decide +kernel
theorem dX5_setMethod_27 : decode cX5_setMethod 27 = .ok (.ireturn, 1) := by decide +kernel
theorem dX5_setMethod_28 : decode cX5_setMethod 28 = .ok (.iinc 4 1, 3) := by decide +kernel
theorem dX5_setMethod_31 : decode cX5_setMethod 31 = .ok (.goto (-28), 3) := by decide +kernel
theorem dX5_setMethod_34 : decode cX5_setMethod 34 = .ok (.aload_n 1, 1) := by decide +kernel
theorem dX5_setMethod_35 : decode cX5_setMethod 35 = .ok (.iconst 0, 1) := by decide +kernel
theorem dX5_setMethod_36 : decode cX5_setMethod 36 = .ok (.putfield 102, 3) := by decide +kernel
theorem dX5_setMethod_39 : decode cX5_setMethod 39 = .ok (.iload_n 2, 1) := by decide +kernel
theorem dX5_setMethod_40 : decode cX5_setMethod 40 = .ok (.istore 4, 2) := by decide +kernel
theorem dX5_setMethod_42 : decode cX5_setMethod 42 = .ok (.iload 4, 2) := by decide +kernel
theorem dX5_setMethod_44 : decode cX5_setMethod 44 = .ok (.iload_n 3, 1) := by decide +kernel
theorem dX5_setMethod_45 : decode cX5_setMethod 45 = .ok (.if_icmp .ge 44, 3) := by decide +kernel
theorem dX5_setMethod_48 : decode cX5_setMethod 48 = .ok (.aload_n 1, 1) := by decide +kernel
theorem dX5_setMethod_49 : decode cX5_setMethod 49 = .ok (.getfield 102, 3) := by decide +kernel
theorem dX5_setMethod_52 : decode cX5_setMethod 52 = .ok (.bipush 16, 2) := by decide +kernel
theorem dX5_setMethod_54 : decode cX5_setMethod 54 = .ok (.if_icmp .ge 35, 3) := by decide +kernel
theorem dX5_setMethod_57 : decode cX5_setMethod 57 = .ok (.aload_n 1, 1) := by decide +kernel
theorem dX5_setMethod_58 : decode cX5_setMethod 58 = .ok (.getfield 105, 3) := by decide +kernel
theorem dX5_setMethod_61 : decode cX5_setMethod 61 = .ok (.aload_n 1, 1) := by decide +kernel
theorem dX5_setMethod_62 : decode cX5_setMethod 62 = .ok (.getfield 102, 3) := by decide +kernel
theorem dX5_setMethod_65 : decode cX5_setMethod 65 = .ok (.aload_n 0, 1) := by decide +kernel
theorem dX5_setMethod_66 : decode cX5_setMethod 66 = .ok (.getfield 32, 3) := by decide +kernel
theorem dX5_setMethod_69 : decode cX5_setMethod 69 = .ok (.iload 4, 2) := by decide +kernel
theorem dX5_setMethod_71 : decode cX5_setMethod 71 = .ok (.iaload, 1) := by decide +kernel
theorem dX5_setMethod_72 : decode cX5_setMethod 72 = .ok (.iastore, 1) := by decide +kernel
theorem dX5_setMethod_73 : decode cX5_setMethod 73 = .ok (.aload_n 1, 1) := by decide +kernel
theorem dX5_setMethod_74 : decode cX5_setMethod 74 = .ok (.dup, 1) := by decide +kernel
theorem dX5_setMethod_75 : decode cX5_setMethod 75 = .ok (.getfield 102, 3) := by decide +kernel
theorem dX5_setMethod_78 : decode cX5_setMethod 78 = .ok (.iconst 1, 1) := by decide +kernel
theorem dX5_setMethod_79 : decode cX5_setMethod 79 = .ok (.iadd, 1) := by decide +kernel
theorem dX5_setMethod_80 : decode cX5_setMethod 80 = .ok (.putfield 102, 3) := by decide +kernel
theorem dX5_setMethod_83 : decode cX5_setMethod 83 = .ok (.iinc 4 1, 3) := by decide +kernel
theorem dX5_setMethod_86 : decode cX5_setMethod 86 = .ok (.goto (-44), 3) := by decide +kernel
theorem dX5_setMethod_89 : decode cX5_setMethod 89 = .ok (.iconst 1, 1) := by decide +kernel
theorem dX5_setMethod_90 : decode cX5_setMethod 90 = .ok (.ireturn, 1) := by decide +kernel
set_option maxRecDepth 20000 in
theorem ggX5_setCall_X2_isGood : GoodIn wsX5_setCall wsX2_isGood := goodIn_r _ [5, 6, 7, 4, 8, 9, 10, 11] (by decide +kernel) (by decide +kernel)
set_option maxRecDepth 20000 in
theorem gX5_setCall_X2_isGood : GoodIn wsX5_setCall (va_wsS RX5 96 yX2_isGood wsX2_isGood) := goodIn_app (goodIn_of _ (by decide +kernel)) ggX5_setCall_X2_isGood
set_option maxRecDepth 20000 in
theorem ggX5_setCall_X4_setCalledChange : GoodIn wsX5_setCall wsX4_setCalledChange := goodIn_r _ [16, 17, 18, 19, 20, 21, 22, 23, 24, 25, 26, 27, 28, 29] (by decide +kernel) (by decide +kernel)
set_option maxRecDepth 20000 in
theorem gX5_setCall_X4_setCalledChange : GoodIn wsX5_setCall (wsV RX5 108 RX4 yX4_setCalledChange wsX4_setCalledChange) := goodIn_app (goodIn_of _ (by decide +kernel)) ggX5_setCall_X4_setCalledChange
theorem dX5_setCall_0 : decode cX5_setCall 0 = .ok (.aload_n 0, 1) := by decide +kernel
theorem dX5_setCall_1 : decode cX5_setCall 1 = .ok (.getfield 93, 3) := by decide +kernel
theorem dX5_setCall_4 : decode cX5_setCall 4 = .ok (.iload_n 2, 1) := by decide +kernel
theorem dX5_setCall_5 : decode cX5_setCall 5 = .ok (.invokestatic 96, 3) := by decide +kernel
theorem dX5_setCall_8 : decode cX5_setCall 8 = .ok (.ifCond .ne 5, 3) := by decide +kernel
theorem dX5_setCall_11 : decode cX5_setCall 11 = .ok (.iconst 0, 1) := by decide +kernel
theorem dX5_setCall_12 : decode cX5_setCall 12 = .ok (.ireturn, 1) := by decide +kernel
theorem dX5_setCall_13 : decode cX5_setCall 13 = .ok (.aload_n 0, 1) := by decide +kernel
theorem dX5_setCall_14 : decode cX5_setCall 14 = .ok (.iload_n 1, 1) := by decide +kernel
theorem dX5_setCall_15 : decode cX5_setCall 15 = .ok (.iload_n 2, 1) := by decide +kernel
theorem dX5_setCall_16 : decode cX5_setCall 16 = .ok (.invokevirtual 108, 3) := by decide +kernel
theorem dX5_setCall_19 : decode cX5_setCall 19 = .ok (.iconst 1, 1) := by decide +kernel
theorem dX5_setCall_20 : decode cX5_setCall 20 = .ok (.ireturn, 1) := by decide +kernel
theorem dX5_setLeads_0 : decode cX5_setLeads 0 = .ok (.aload_n 1, 1) := by decide +kernel
theorem dX5_setLeads_1 : decode cX5_setLeads 1 = .ok (.iconst 0, 1) := by decide +kernel
theorem dX5_setLeads_2 : decode cX5_setLeads 2 = .ok (.putfield 112, 3) := by decide +kernel
theorem dX5_setLeads_5 : decode cX5_setLeads 5 = .ok (.iload_n 2, 1) := by decide +kernel
theorem dX5_setLeads_6 : decode cX5_setLeads 6 = .ok (.istore 4, 2) := by decide +kernel
theorem dX5_setLeads_8 : decode cX5_setLeads 8 = .ok (.iload 4, 2) := by decide +kernel
theorem dX5_setLeads_10 : decode cX5_setLeads 10 = .ok (.iload_n 3, 1) := by decide +kernel
theorem dX5_setLeads_11 : decode cX5_setLeads 11 = .ok (.if_icmp .ge 44, 3) := by decide +kernel
theorem dX5_setLeads_14 : decode cX5_setLeads 14 = .ok (.aload_n 1, 1) := by decide +kernel
theorem dX5_setLeads_15 : decode cX5_setLeads 15 = .ok (.getfield 112, 3) := by decide +kernel
theorem dX5_setLeads_18 : decode cX5_setLeads 18 = .ok (.bipush 12, 2) := by decide +kernel
theorem dX5_setLeads_20 : decode cX5_setLeads 20 = .ok (.if_icmp .ge 35, 3) := by decide +kernel
theorem dX5_setLeads_23 : decode cX5_setLeads 23 = .ok (.aload_n 1, 1) := by decide +kernel
theorem dX5_setLeads_24 : decode cX5_setLeads 24 = .ok (.getfield 115, 3) := by decide +kernel
theorem dX5_setLeads_27 : decode cX5_setLeads 27 = .ok (.aload_n 1, 1) := by decide +kernel
theorem dX5_setLeads_28 : decode cX5_setLeads 28 = .ok (.getfield 112, 3) := by decide +kernel
theorem dX5_setLeads_31 : decode cX5_setLeads 31 = .ok (.aload_n 0, 1) := by decide +kernel
theorem dX5_setLeads_32 : decode cX5_setLeads 32 = .ok (.getfield 32, 3) := by decide +kernel
theorem dX5_setLeads_35 : decode cX5_setLeads 35 = .ok (.iload 4, 2) := by decide +kernel
theorem dX5_setLeads_37 : decode cX5_setLeads 37 = .ok (.iaload, 1) := by decide +kernel
theorem dX5_setLeads_38 : decode cX5_setLeads 38 = .ok (.iastore, 1) := by decide +kernel
theorem dX5_setLeads_39 : decode cX5_setLeads 39 = .ok (.aload_n 1, 1) := by decide +kernel
theorem dX5_setLeads_40 : decode cX5_setLeads 40 = .ok (.dup, 1) := by decide +kernel
theorem dX5_setLeads_41 : decode cX5_setLeads 41 = .ok (.getfield 112, 3) := by decide +kernel
theorem dX5_setLeads_44 : decode cX5_setLeads 44 = .ok (.iconst 1, 1) := by decide +kernel
theorem dX5_setLeads_45 : decode cX5_setLeads 45 = .ok (.iadd, 1) := by decide +kernel
theorem dX5_setLeads_46 : decode cX5_setLeads 46 = .ok (.putfield 112, 3) := by decide +kernel
theorem dX5_setLeads_49 : decode cX5_setLeads 49 = .ok (.iinc 4 1, 3) := by decide +kernel
theorem dX5_setLeads_52 : decode cX5_setLeads 52 = .ok (.goto (-44), 3) := by decide +kernel
theorem dX5_setLeads_55 : decode cX5_setLeads 55 = .ok (.iconst 1, 1) := by decide +kernel
theorem dX5_setLeads_56 : decode cX5_setLeads 56 = .ok (.ireturn, 1) := by decide +kernel
