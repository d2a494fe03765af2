theorem dX9_goes_112 : decode cX9_goes 112 = .ok (.iadd, 1) := by decide +kernel
theorem dX9_goes_113 : decode cX9_goes 113 = .ok (.iaload, 1) := by decide +kernel
theorem dX9_goes_114 : decode cX9_goes 114 = .ok (.iastore, 1) := by decide +kernel
theorem dX9_goes_115 : decode cX9_goes 115 = .ok (.iinc 4 2, 3) := by decide +kernel
theorem dX9_goes_118 : decode cX9_goes 118 = .ok (.goto (-108), 3) := by decide +kernel
theorem dX9_goes_121 : decode cX9_goes 121 = .ok (.aload_n 0, 1) := by decide +kernel
theorem dX9_goes_122 : decode cX9_goes 122 = .ok (.iload_n 1, 1) := by decide +kernel
theorem dX9_goes_123 : decode cX9_goes 123 = .ok (.iconst 1, 1) := by decide +kernel
theorem dX9_goes_124 : decode cX9_goes 124 = .ok (.iadd, 1) := by decide +kernel
theorem dX9_goes_125 : decode cX9_goes 125 = .ok (.invokevirtual 126, 3) := by decide +kernel
theorem dX9_goes_128 : decode cX9_goes 128 = .ok (.return_, 1) := by decide +kernel
theorem dX9_keys_0 : decode cX9_keys 0 = .ok (.iconst 0, 1) := by decide +kernel
theorem dX9_keys_1 : decode cX9_keys 1 = .ok (.istore_n 2, 1) := by decide +kernel
theorem dX9_keys_2 : decode cX9_keys 2 = .ok (.iconst 0, 1) := by decide +kernel
theorem dX9_keys_3 : decode cX9_keys 3 = .ok (.istore_n 3, 1) := by decide +kernel
theorem dX9_keys_4 : decode cX9_keys 4 = .ok (.iload_n 3, 1) := by decide +kernel
theorem dX9_keys_5 : decode cX9_keys 5 = .ok (.aload_n 0, 1) := by decide +kernel
theorem dX9_keys_6 : decode cX9_keys 6 = .ok (.getfield 9, 3) := by decide +kernel
theorem dX9_keys_9 : decode cX9_keys 9 = .ok (.iconst 0, 1) := by decide +kernel
theorem dX9_keys_10 : decode cX9_keys 10 = .ok (.iaload, 1) := by decide +kernel
theorem dX9_keys_11 : decode cX9_keys 11 = .ok (.if_icmp .ge 28, 3) := by decide +kernel
theorem dX9_keys_14 : decode cX9_keys 14 = .ok (.bipush 8, 2) := by decide +kernel
theorem dX9_keys_16 : decode cX9_keys 16 = .ok (.iload_n 2, 1) := by decide +kernel
theorem dX9_keys_17 : decode cX9_keys 17 = .ok (.imul, 1) := by decide +kernel
theorem dX9_keys_18 : decode cX9_keys 18 = .ok (.aload_n 0, 1) := by decide +kernel
theorem dX9_keys_19 : decode cX9_keys 19 = .ok (.getfield 18, 3) := by decide +kernel
theorem dX9_keys_22 : decode cX9_keys 22 = .ok (.bipush 8, 2) := by decide +kernel
theorem dX9_keys_24 : decode cX9_keys 24 = .ok (.iload_n 1, 1) := by decide +kernel
theorem dX9_keys_25 : decode cX9_keys 25 = .ok (.imul, 1) := by decide +kernel
theorem dX9_keys_26 : decode cX9_keys 26 = .ok (.iload_n 3, 1) := by decide +kernel
theorem dX9_keys_27 : decode cX9_keys 27 = .ok (.iadd, 1) := by decide +kernel
theorem dX9_keys_28 : decode cX9_keys 28 = .ok (.iaload, 1) := by decide +kernel
theorem dX9_keys_29 : decode cX9_keys 29 = .ok (.iadd, 1) := by decide +kernel
theorem dX9_keys_30 : decode cX9_keys 30 = .ok (.iconst 1, 1) := by decide +kernel
theorem dX9_keys_31 : decode cX9_keys 31 = .ok (.isub, 1) := by decide +kernel
theorem dX9_keys_32 : decode cX9_keys 32 = .ok (.istore_n 2, 1) := by decide +kernel
theorem dX9_keys_33 : decode cX9_keys 33 = .ok (.iinc 3 1, 3) := by decide +kernel
theorem dX9_keys_36 : decode cX9_keys 36 = .ok (.goto (-32), 3) := by decide +kernel
theorem dX9_keys_39 : decode cX9_keys 39 = .ok (.aload_n 0, 1) := by decide +kernel
theorem dX9_keys_40 : decode cX9_keys 40 = .ok (.getfield 21, 3) := by decide +kernel
theorem dX9_keys_43 : decode cX9_keys 43 = .ok (.iload_n 1, 1) := by decide +kernel
theorem dX9_keys_44 : decode cX9_keys 44 = .ok (.iload_n 2, 1) := by decide +kernel
theorem dX9_keys_45 : decode cX9_keys 45 = .ok (.iastore, 1) := by decide +kernel
theorem dX9_keys_46 : decode cX9_keys 46 = .ok (.return_, 1) := by decide +kernel
set_option maxRecDepth 20000 in
theorem ggX9_rings_X9_keys : GoodIn wsX9_rings wsX9_keys := goodIn_r _ [8, 1, 2, 9, 14, 15, 16, 17, 18, 19, 20, 21, 22, 23, 24, 25, 26, 27, 28, 29, 30, 31, 32, 33] (by decide +kernel) (by decide +kernel)
set_option maxRecDepth 20000 in
theorem gX9_rings_X9_keys : GoodIn wsX9_rings (wsV RX9 126 RX9 yX9_keys wsX9_keys) := goodIn_app (goodIn_of _ (by decide +kernel)) ggX9_rings_X9_keys
set_option maxRecDepth 20000 in
theorem ggX9_rings_X9_goes : GoodIn wsX9_rings wsX9_goes := goodIn_r _ [13, 1, 2, 4, 5, 6, 7, 8, 9, 14, 15, 16, 17, 18, 19, 20, 21, 22, 23, 24, 25, 26, 27, 28, 29, 30, 31, 32, 33] (by decide +kernel) (by decide +kernel)
set_option maxRecDepth 20000 in
theorem gX9_rings_X9_goes : GoodIn wsX9_rings (wsV RX9 132 RX9 yX9_goes wsX9_goes) := goodIn_app (goodIn_of _ (by decide +kernel)) ggX9_rings_X9_goes
theorem dX9_rings_0 : decode cX9_rings 0 = .ok (.iconst 0, 1) := by decide +kernel
theorem dX9_rings_1 : decode cX9_rings 1 = .ok (.istore_n 1, 1) := by decide +kernel
theorem dX9_rings_2 : decode cX9_rings 2 = .ok (.iload_n 1, 1) := by decide +kernel
theorem dX9_rings_3 : decode cX9_rings 3 = .ok (.aload_n 0, 1) := by decide +kernel
theorem dX9_rings_4 : decode cX9_rings 4 = .ok (.getfield 9, 3) := by decide +kernel
theorem dX9_rings_7 : decode cX9_rings 7 = .ok (.iconst 0, 1) := by decide +kernel
theorem dX9_rings_8 : decode cX9_rings 8 = .ok (.iaload, 1) := by decide +kernel
theorem dX9_rings_9 : decode cX9_rings 9 = .ok (.if_icmp .ge 18, 3) := by decide +kernel
theorem dX9_rings_12 : decode cX9_rings 12 = .ok (.aload_n 0, 1) := by decide +kernel
theorem dX9_rings_13 : decode cX9_rings 13 = .ok (.getfield 18, 3) := by decide +kernel
theorem dX9_rings_16 : decode cX9_rings 16 = .ok (.iload_n 1, 1) := by decide +kernel
theorem dX9_rings_17 : decode cX9_rings 17 = .ok (.iload_n 1, 1) := by decide +kernel
theorem dX9_rings_18 : decode cX9_rings 18 = .ok (.iconst 1, 1) := by decide +kernel
theorem dX9_rings_19 : decode cX9_rings 19 = .ok (.iadd, 1) := by decide +kernel
theorem dX9_rings_20 : decode cX9_rings 20 = .ok (.iastore, 1) := by decide +kernel
theorem dX9_rings_21 : decode cX9_rings 21 = .ok (.iinc 1 1, 3) := by decide +kernel
theorem dX9_rings_24 : decode cX9_rings 24 = .ok (.goto (-22), 3) := by decide +kernel
theorem dX9_rings_27 : decode cX9_rings 27 = .ok (.aload_n 0, 1) := by decide +kernel
theorem dX9_rings_28 : decode cX9_rings 28 = .ok (.iconst 0, 1) := by decide +kernel
theorem dX9_rings_29 : decode cX9_rings 29 = .ok (.invokevirtual 126, 3) := by decide +kernel
theorem dX9_rings_32 : decode cX9_rings 32 = .ok (.aload_n 0, 1) := by decide +kernel
theorem dX9_rings_33 : decode cX9_rings 33 = .ok (.getfield 9, 3) := by decide +kernel
theorem dX9_rings_36 : decode cX9_rings 36 = .ok (.iconst 1, 1) := by decide +kernel
theorem dX9_rings_37 : decode cX9_rings 37 = .ok (.iaload, 1) := by decide +kernel
theorem dX9_rings_38 : decode cX9_rings 38 = .ok (.istore_n 1, 1) := by decide +kernel
theorem dX9_rings_39 : decode cX9_rings 39 = .ok (.aload_n 0, 1) := by decide +kernel
theorem dX9_rings_40 : decode cX9_rings 40 = .ok (.iload_n 1, 1) := by decide +kernel
theorem dX9_rings_41 : decode cX9_rings 41 = .ok (.aload_n 0, 1) := by decide +kernel
theorem dX9_rings_42 : decode cX9_rings 42 = .ok (.getfield 9, 3) := by decide +kernel
theorem dX9_rings_45 : decode cX9_rings 45 = .ok (.iconst 4, 1) := by decide +kernel
theorem dX9_rings_46 : decode cX9_rings 46 = .ok (.iaload, 1) := by decide +kernel
theorem dX9_rings_47 : decode cX9_rings 47 = .ok (.imul, 1) := by decide +kernel
theorem dX9_rings_48 : decode cX9_rings 48 = .ok (.putfield 129, 3) := by decide +kernel
theorem dX9_rings_51 : decode cX9_rings 51 = .ok (.iconst 0, 1) := by decide +kernel
theorem dX9_rings_52 : decode cX9_rings 52 = .ok (.istore_n 2, 1) := by decide +kernel
theorem dX9_rings_53 : decode cX9_rings 53 = .ok (.iload_n 2, 1) := by decide +kernel
theorem dX9_rings_54 : decode cX9_rings 54 = .ok (.aload_n 0, 1) := by decide +kernel
theorem dX9_rings_55 : decode cX9_rings 55 = .ok (.getfield 129, 3) := by decide +kernel
theorem dX9_rings_58 : decode cX9_rings 58 = .ok (.if_icmp .ge 77, 3) := by decide +kernel
theorem dX9_rings_61 : decode cX9_rings 61 = .ok (.aload_n 0, 1) := by decide +kernel
theorem dX9_rings_62 : decode cX9_rings 62 = .ok (.getfield 9, 3) := by decide +kernel
theorem dX9_rings_65 : decode cX9_rings 65 = .ok (.bipush 8, 2) := by decide +kernel
theorem dX9_rings_67 : decode cX9_rings 67 = .ok (.iload_n 2, 1) := by decide +kernel
theorem dX9_rings_68 : decode cX9_rings 68 = .ok (.iload_n 1, 1) := by decide +kernel
theorem dX9_rings_69 : decode cX9_rings 69 = .ok (.irem, 1) := by decide +kernel
theorem dX9_rings_70 : decode cX9_rings 70 = .ok (.iadd, 1) := by decide +kernel
theorem dX9_rings_71 : decode cX9_rings 71 = .ok (.iaload, 1) := by decide +kernel
theorem dX9_rings_72 : decode cX9_rings 72 = .ok (.istore_n 3, 1) := by decide +kernel
theorem dX9_rings_73 : decode cX9_rings 73 = .ok (.aload_n 0, 1) := by decide +kernel
theorem dX9_rings_74 : decode cX9_rings 74 = .ok (.getfield 9, 3) := by decide +kernel
theorem dX9_rings_77 : decode cX9_rings 77 = .ok (.bipush 24, 2) := by decide +kernel
theorem dX9_rings_79 : decode cX9_rings 79 = .ok (.iload_n 2, 1) := by decide +kernel
theorem dX9_rings_80 : decode cX9_rings 80 = .ok (.iload_n 1, 1) := by decide +kernel
theorem dX9_rings_81 : decode cX9_rings 81 = .ok (.idiv, 1) := by decide +kernel
theorem dX9_rings_82 : decode cX9_rings 82 = .ok (.iadd, 1) := by decide +kernel
theorem dX9_rings_83 : decode cX9_rings 83 = .ok (.iaload, 1) := by decide +kernel
theorem dX9_rings_84 : decode cX9_rings 84 = .ok (.istore 4, 2) := by decide +kernel
theorem dX9_rings_86 : decode cX9_rings 86 = .ok (.iload_n 2, 1) := by decide +kernel
theorem dX9_rings_87 : decode cX9_rings 87 = .ok (.iload_n 1, 1) := by decide +kernel
theorem dX9_rings_88 : decode cX9_rings 88 = .ok (.irem, 1) := by decide +kernel
theorem dX9_rings_89 : decode cX9_rings 89 = .ok (.iload_n 1, 1) := by decide +kernel
theorem dX9_rings_90 : decode cX9_rings 90 = .ok (.iconst 1, 1) := by decide +kernel
theorem dX9_rings_91 : decode cX9_rings 91 = .ok (.isub, 1) := by decide +kernel
theorem dX9_rings_92 : decode cX9_rings 92 = .ok (.if_icmp .ne 31, 3) := by decide +kernel
theorem dX9_rings_95 : decode cX9_rings 95 = .ok (.iload 4, 2) := by decide +kernel
theorem dX9_rings_97 : decode cX9_rings 97 = .ok (.ifCond .eq 26, 3) := by decide +kernel
theorem dX9_rings_100 : decode cX9_rings 100 = .ok (.aload_n 0, 1) := by decide +kernel
theorem dX9_rings_101 : decode cX9_rings 101 = .ok (.getfield 9, 3) := by decide +kernel
theorem dX9_rings_104 : decode cX9_rings 104 = .ok (.iconst 1, 1) := by decide +kernel
theorem dX9_rings_105 : decode cX9_rings 105 = .ok (.iload 4, 2) := by decide +kernel
theorem dX9_rings_107 : decode cX9_rings 107 = .ok (.iadd, 1) := by decide +kernel
theorem dX9_rings_108 : decode cX9_rings 108 = .ok (.iaload, 1) := by decide +kernel
theorem dX9_rings_109 : decode cX9_rings 109 = .ok (.iconst (-1), 1) := by decide +kernel
theorem dX9_rings_110 : decode cX9_rings 110 = .ok (.if_icmp .eq 13, 3) := by decide +kernel
theorem dX9_rings_113 : decode cX9_rings 113 = .ok (.aload_n 0, 1) := by decide +kernel
theorem dX9_rings_114 : decode cX9_rings 114 = .ok (.getfield 9, 3) := by decide +kernel
theorem dX9_rings_117 : decode cX9_rings 117 = .ok (.iconst 1, 1) := by decide +kernel
theorem dX9_rings_118 : decode cX9_rings 118 = .ok (.iload 4, 2) := by decide +kernel
theorem dX9_rings_120 : decode cX9_rings 120 = .ok (.iadd, 1) := by decide +kernel
theorem dX9_rings_121 : decode cX9_rings 121 = .ok (.iaload, 1) := by decide +kernel
theorem dX9_rings_122 : decode cX9_rings 122 = .ok (.istore_n 3, 1) := by decide +kernel
theorem dX9_rings_123 : decode cX9_rings 123 = .ok (.aload_n 0, 1) := by decide +kernel
theorem dX9_rings_124 : decode cX9_rings 124 = .ok (.iload_n 2, 1) := by decide +kernel
theorem dX9_rings_125 : decode cX9_rings 125 = .ok (.iload_n 3, 1) := by decide +kernel
theorem dX9_rings_126 : decode cX9_rings 126 = .ok (.invokevirtual 132, 3) := by decide +kernel
theorem dX9_rings_129 : decode cX9_rings 129 = .ok (.iinc 2 1, 3) := by decide +kernel
theorem dX9_rings_132 : decode cX9_rings 132 = .ok (.goto (-79), 3) := by decide +kernel
theorem dX9_rings_135 : decode cX9_rings 135 = .ok (.return_, 1) := by decide +kernel
theorem dX9_round_0 : decode cX9_round 0 = .ok (.iconst 1, 1) := by decide +kernel
theorem dX9_round_1 : decode cX9_round 1 = .ok (.istore_n 1, 1) := by decide +kernel
theorem dX9_round_2 : decode cX9_round 2 = .ok (.iload_n 1, 1) := by decide +kernel
theorem dX9_round_3 : decode cX9_round 3 = .ok (.aload_n 0, 1) := by decide +kernel
theorem dX9_round_4 : decode cX9_round 4 = .ok (.getfield 129, 3) := by decide +kernel
theorem dX9_round_7 : decode cX9_round 7 = .ok (.if_icmp .gt 26, 3) := by decide +kernel
theorem dX9_round_10 : decode cX9_round 10 = .ok (.aload_n 0, 1) := by decide +kernel
theorem dX9_round_11 : decode cX9_round 11 = .ok (.getfield 21, 3) := by decide +kernel
theorem dX9_round_14 : decode cX9_round 14 = .ok (.iload_n 1, 1) := by decide +kernel
theorem dX9_round_15 : decode cX9_round 15 = .ok (.iaload, 1) := by decide +kernel
theorem dX9_round_16 : decode cX9_round 16 = .ok (.aload_n 0, 1) := by decide +kernel
theorem dX9_round_17 : decode cX9_round 17 = .ok (.getfield 21, 3) := by decide +kernel
theorem dX9_round_20 : decode cX9_round 20 = .ok (.iconst 0, 1) := by decide +kernel
theorem dX9_round_21 : decode cX9_round 21 = .ok (.iaload, 1) := by decide +kernel
theorem dX9_round_22 : decode cX9_round 22 = .ok (.if_icmp .ne 5, 3) := by decide +kernel
theorem dX9_round_25 : decode cX9_round 25 = .ok (.iload_n 1, 1) := by decide +kernel
theorem dX9_round_26 : decode cX9_round 26 = .ok (.ireturn, 1) := by decide +kernel
theorem dX9_round_27 : decode cX9_round 27 = .ok (.iinc 1 1, 3) := by decide +kernel
theorem dX9_round_30 : decode cX9_round 30 = .ok (.goto (-28), 3) := by decide +kernel
theorem dX9_round_33 : decode cX9_round 33 = .ok (.bipush (-5), 2) := by decide +kernel
theorem dX9_round_35 : decode cX9_round 35 = .ok (.ireturn, 1) := by decide +kernel
theorem dX9_first_0 : decode cX9_first 0 = .ok (.iconst 0, 1) := by decide +kernel
theorem dX9_first_1 : decode cX9_first 1 = .ok (.istore_n 2, 1) := by decide +kernel
theorem dX9_first_2 : decode cX9_first 2 = .ok (.aload_n 0, 1) := by decide +kernel
theorem dX9_first_3 : decode cX9_first 3 = .ok (.getfield 21, 3) := by decide +kernel
theorem dX9_first_6 : decode cX9_first 6 = .ok (.iload_n 2, 1) := by decide +kernel
theorem dX9_first_7 : decode cX9_first 7 = .ok (.iaload, 1) := by decide +kernel
theorem dX9_first_8 : decode cX9_first 8 = .ok (.aload_n 0, 1) := by decide +kernel
theorem dX9_first_9 : decode cX9_first 9 = .ok (.getfield 21, 3) := by decide +kernel
theorem dX9_first_12 : decode cX9_first 12 = .ok (.iload_n 1, 1) := by decide +kernel
theorem dX9_first_13 : decode cX9_first 13 = .ok (.iaload, 1) := by decide +kernel
theorem dX9_first_14 : decode cX9_first 14 = .ok (.if_icmp .eq 9, 3) := by decide +kernel
theorem dX9_first_17 : decode cX9_first 17 = .ok (.iinc 2 1, 3) := by decide +kernel
theorem dX9_first_20 : decode cX9_first 20 = .ok (.goto (-18), 3) := by decide +kernel
theorem dX9_first_23 : decode cX9_first 23 = .ok (.iload_n 2, 1) := by decide +kernel
theorem dX9_first_24 : decode cX9_first 24 = .ok (.ireturn, 1) := by decide +kernel
set_option maxRecDepth 20000 in
theorem ggX9_wrongRow_X9_first : GoodIn wsX9_wrongRow wsX9_first := goodIn_r _ [6, 7, 8, 9, 10, 11, 12, 13, 14, 15, 16, 17, 18, 19, 20, 21, 22, 23, 24, 25, 26, 27] (by decide +kernel) (by decide +kernel)
set_option maxRecDepth 20000 in
theorem gX9_wrongRow_X9_first : GoodIn wsX9_wrongRow (wsV RX9 136 RX9 yX9_first wsX9_first) := goodIn_app (goodIn_of _ (by decide +kernel)) ggX9_wrongRow_X9_first
theorem dX9_wrongRow_0 : decode cX9_wrongRow 0 = .ok (.iconst 1, 1) := by decide +kernel
theorem dX9_wrongRow_1 : decode cX9_wrongRow 1 = .ok (.istore_n 1, 1) := by decide +kernel
theorem dX9_wrongRow_2 : decode cX9_wrongRow 2 = .ok (.iload_n 1, 1) := by decide +kernel
theorem dX9_wrongRow_3 : decode cX9_wrongRow 3 = .ok (.aload_n 0, 1) := by decide +kernel
theorem dX9_wrongRow_4 : decode cX9_wrongRow 4 = .ok (.getfield 129, 3) := by decide +kernel
theorem dX9_wrongRow_7 : decode cX9_wrongRow 7 = .ok (.if_icmp .gt 34, 3) := by decide +kernel
theorem dX9_wrongRow_10 : decode cX9_wrongRow 10 = .ok (.aload_n 0, 1) := by decide +kernel
theorem dX9_wrongRow_11 : decode cX9_wrongRow 11 = .ok (.iload_n 1, 1) := by decide +kernel
theorem dX9_wrongRow_12 : decode cX9_wrongRow 12 = .ok (.invokevirtual 136, 3) := by decide +kernel
theorem dX9_wrongRow_15 : decode cX9_wrongRow 15 = .ok (.istore_n 2, 1) := by decide +kernel
theorem dX9_wrongRow_16 : decode cX9_wrongRow 16 = .ok (.iload_n 2, 1) := by decide +kernel
theorem dX9_wrongRow_17 : decode cX9_wrongRow 17 = .ok (.iload_n 1, 1) := by decide +kernel
theorem dX9_wrongRow_18 : decode cX9_wrongRow 18 = .ok (.if_icmp .ge 17, 3) := by decide +kernel
theorem dX9_wrongRow_21 : decode cX9_wrongRow 21 = .ok (.iload_n 1, 1) := by decide +kernel
theorem dX9_wrongRow_22 : decode cX9_wrongRow 22 = .ok (.aload_n 0, 1) := by decide +kernel
theorem dX9_wrongRow_23 : decode cX9_wrongRow 23 = .ok (.getfield 129, 3) := by decide +kernel
theorem dX9_wrongRow_26 : decode cX9_wrongRow 26 = .ok (.if_icmp .lt 7, 3) := by decide +kernel
theorem dX9_wrongRow_29 : decode cX9_wrongRow 29 = .ok (.iload_n 2, 1) := by decide +kernel
theorem dX9_wrongRow_30 : decode cX9_wrongRow 30 = .ok (.ifCond .le 5, 3) := by decide +kernel
theorem dX9_wrongRow_33 : decode cX9_wrongRow 33 = .ok (.iload_n 1, 1) := by decide +kernel
theorem dX9_wrongRow_34 : decode cX9_wrongRow 34 = .ok (.ireturn, 1) := by decide +kernel
theorem dX9_wrongRow_35 : decode cX9_wrongRow 35 = .ok (.iinc 1 1, 3) := by decide +kernel
theorem dX9_wrongRow_38 : decode cX9_wrongRow 38 = .ok (.goto (-36), 3) := by decide +kernel
theorem dX9_wrongRow_41 : decode cX9_wrongRow 41 = .ok (.bipush (-5), 2) := by decide +kernel
theorem dX9_wrongRow_43 : decode cX9_wrongRow 43 = .ok (.ireturn, 1) := by decide +kernel
set_option maxRecDepth 20000 in
theorem ggX9_isTrue_X9_wrongRow : GoodIn wsX9_isTrue wsX9_wrongRow := goodIn_r _ [7, 1, 8, 9, 10, 6, 11, 2, 12, 13, 14, 15, 16, 17, 18, 19, 20, 21, 22, 23, 24, 25, 26, 27, 28, 29, 30, 31] (by decide +kernel) (by decide +kernel)
set_option maxRecDepth 20000 in
theorem gX9_isTrue_X9_wrongRow : GoodIn wsX9_isTrue (wsV RX9 139 RX9 yX9_wrongRow wsX9_wrongRow) := goodIn_app (goodIn_of _ (by decide +kernel)) ggX9_isTrue_X9_wrongRow
theorem dX9_isTrue_0 : decode cX9_isTrue 0 = .ok (.aload_n 0, 1) := by decide +kernel
theorem dX9_isTrue_1 : decode cX9_isTrue 1 = .ok (.getfield 129, 3) := by decide +kernel
theorem dX9_isTrue_4 : decode cX9_isTrue 4 = .ok (.ifCond .le 34, 3) := by decide +kernel
theorem dX9_isTrue_7 : decode cX9_isTrue 7 = .ok (.aload_n 0, 1) := by decide +kernel
theorem dX9_isTrue_8 : decode cX9_isTrue 8 = .ok (.getfield 21, 3) := by decide +kernel
theorem dX9_isTrue_11 : decode cX9_isTrue 11 = .ok (.aload_n 0, 1) := by decide +kernel
theorem dX9_isTrue_12 : decode cX9_isTrue 12 = .ok (.getfield 129, 3) := by decide +kernel
theorem dX9_isTrue_15 : decode cX9_isTrue 15 = .ok (.iaload, 1) := by decide +kernel
theorem dX9_isTrue_16 : decode cX9_isTrue 16 = .ok (.aload_n 0, 1) := by decide +kernel
theorem dX9_isTrue_17 : decode cX9_isTrue 17 = .ok (.getfield 21, 3) := by decide +kernel
theorem dX9_isTrue_20 : decode cX9_isTrue 20 = .ok (.iconst 0, 1) := by decide +kernel
theorem dX9_isTrue_21 : decode cX9_isTrue 21 = .ok (.iaload, 1) := by decide +kernel
theorem dX9_isTrue_22 : decode cX9_isTrue 22 = .ok (.if_icmp .ne 16, 3) := by decide +kernel
theorem dX9_isTrue_25 : decode cX9_isTrue 25 = .ok (.aload_n 0, 1) := by decide +kernel
theorem dX9_isTrue_26 : decode cX9_isTrue 26 = .ok (.invokevirtual 139, 3) := by decide +kernel
theorem dX9_isTrue_29 : decode cX9_isTrue 29 = .ok (.bipush (-5), 2) := by decide +kernel
theorem dX9_isTrue_31 : decode cX9_isTrue 31 = .ok (.if_icmp .ne 7, 3) := by decide +kernel
theorem dX9_isTrue_34 : decode cX9_isTrue 34 = .ok (.iconst 1, 1) := by decide +kernel
theorem dX9_isTrue_35 : decode cX9_isTrue 35 = .ok (.goto 4, 3) := by decide +kernel
theorem dX9_isTrue_38 : decode cX9_isTrue 38 = .ok (.iconst 0, 1) := by decide +kernel
theorem dX9_isTrue_39 : decode cX9_isTrue 39 = .ok (.ireturn, 1) := by decide +kernel
set_option maxRecDepth 20000 in
theorem ggX9_course_X9_keys : GoodIn wsX9_course wsX9_keys := goodIn_r _ [8, 1, 2, 3, 13, 14, 15, 16, 17, 18, 19, 20, 21, 22, 23, 24, 25, 26, 27, 28, 29, 30, 31, 32] (by decide +kernel) (by decide +kernel)
set_option maxRecDepth 20000 in
theorem gX9_course_X9_keys : GoodIn wsX9_course (wsV RX9 126 RX9 yX9_keys wsX9_keys) := goodIn_app (goodIn_of _ (by decide +kernel)) ggX9_course_X9_keys
set_option maxRecDepth 20000 in
theorem ggX9_course_X9_goes : GoodIn wsX9_course wsX9_goes := goodIn_r _ [12, 1, 2, 4, 5, 6, 7, 8, 3, 13, 14, 15, 16, 17, 18, 19, 20, 21, 22, 23, 24, 25, 26, 27, 28, 29, 30, 31, 32] (by decide +kernel) (by decide +kernel)
set_option maxRecDepth 20000 in
theorem gX9_course_X9_goes : GoodIn wsX9_course (wsV RX9 132 RX9 yX9_goes wsX9_goes) := goodIn_app (goodIn_of _ (by decide +kernel)) ggX9_course_X9_goes
theorem dX9_course_0 : decode cX9_course 0 = .ok (.aload_n 0, 1) := by decide +kernel
theorem dX9_course_1 : decode cX9_course 1 = .ok (.getfield 9, 3) := by decide +kernel
theorem dX9_course_4 : decode cX9_course 4 = .ok (.iconst 1, 1) := by decide +kernel
theorem dX9_course_5 : decode cX9_course 5 = .ok (.iaload, 1) := by decide +kernel
theorem dX9_course_6 : decode cX9_course 6 = .ok (.istore_n 1, 1) := by decide +kernel
theorem dX9_course_7 : decode cX9_course 7 = .ok (.iload_n 1, 1) := by decide +kernel
theorem dX9_course_8 : decode cX9_course 8 = .ok (.ifCond .ne 5, 3) := by decide +kernel
theorem dX9_course_11 : decode cX9_course 11 = .ok (.iconst 0, 1) := by decide +kernel
theorem dX9_course_12 : decode cX9_course 12 = .ok (.ireturn, 1) := by decide +kernel
theorem dX9_course_13 : decode cX9_course 13 = .ok (.iconst 0, 1) := by decide +kernel
theorem dX9_course_14 : decode cX9_course 14 = .ok (.istore_n 2, 1) := by decide +kernel
theorem dX9_course_15 : decode cX9_course 15 = .ok (.iload_n 2, 1) := by decide +kernel
theorem dX9_course_16 : decode cX9_course 16 = .ok (.aload_n 0, 1) := by decide +kernel
theorem dX9_course_17 : decode cX9_course 17 = .ok (.getfield 9, 3) := by decide +kernel
theorem dX9_course_20 : decode cX9_course 20 = .ok (.iconst 0, 1) := by decide +kernel
theorem dX9_course_21 : decode cX9_course 21 = .ok (.iaload, 1) := by decide +kernel
theorem dX9_course_22 : decode cX9_course 22 = .ok (.if_icmp .ge 18, 3) := by decide +kernel
theorem dX9_course_25 : decode cX9_course 25 = .ok (.aload_n 0, 1) := by decide +kernel
theorem dX9_course_26 : decode cX9_course 26 = .ok (.getfield 18, 3) := by decide +kernel
theorem dX9_course_29 : decode cX9_course 29 = .ok (.iload_n 2, 1) := by decide +kernel
theorem dX9_course_30 : decode cX9_course 30 = .ok (.iload_n 2, 1) := by decide +kernel
theorem dX9_course_31 : decode cX9_course 31 = .ok (.iconst 1, 1) := by decide +kernel
theorem dX9_course_32 : decode cX9_course 32 = .ok (.iadd, 1) := by decide +kernel
theorem dX9_course_33 : decode cX9_course 33 = .ok (.iastore, 1) := by decide +kernel
theorem dX9_course_34 : decode cX9_course 34 = .ok (.iinc 2 1, 3) := by decide +kernel
theorem dX9_course_37 : decode cX9_course 37 = .ok (.goto (-22), 3) := by decide +kernel
theorem dX9_course_40 : decode cX9_course 40 = .ok (.aload_n 0, 1) := by decide +kernel
theorem dX9_course_41 : decode cX9_course 41 = .ok (.iconst 0, 1) := by decide +kernel
theorem dX9_course_42 : decode cX9_course 42 = .ok (.invokevirtual 126, 3) := by decide +kernel
theorem dX9_course_45 : decode cX9_course 45 = .ok (.aload_n 0, 1) := by decide +kernel
theorem dX9_course_46 : decode cX9_course 46 = .ok (.getfield 21, 3) := by decide +kernel
theorem dX9_course_49 : decode cX9_course 49 = .ok (.iconst 0, 1) := by decide +kernel
theorem dX9_course_50 : decode cX9_course 50 = .ok (.iaload, 1) := by decide +kernel
theorem dX9_course_51 : decode cX9_course 51 = .ok (.istore_n 2, 1) := by decide +kernel
theorem dX9_course_52 : decode cX9_course 52 = .ok (.iconst 0, 1) := by decide +kernel
theorem dX9_course_53 : decode cX9_course 53 = .ok (.istore_n 3, 1) := by decide +kernel
theorem dX9_course_54 : decode cX9_course 54 = .ok (.iconst 1, 1) := by decide +kernel
theorem dX9_course_55 : decode cX9_course 55 = .ok (.istore 4, 2) := by decide +kernel
theorem dX9_course_57 : decode cX9_course 57 = .ok (.iload 4, 2) := by decide +kernel
theorem dX9_course_59 : decode cX9_course 59 = .ok (.ifCond .eq 96, 3) := by decide +kernel
theorem dX9_course_62 : decode cX9_course 62 = .ok (.iconst 0, 1) := by decide +kernel
theorem dX9_course_63 : decode cX9_course 63 = .ok (.istore 5, 2) := by decide +kernel
theorem dX9_course_65 : decode cX9_course 65 = .ok (.iload 5, 2) := by decide +kernel
theorem dX9_course_67 : decode cX9_course 67 = .ok (.iload_n 1, 1) := by decide +kernel
theorem dX9_course_68 : decode cX9_course 68 = .ok (.if_icmp .ge 25, 3) := by decide +kernel
theorem dX9_course_71 : decode cX9_course 71 = .ok (.aload_n 0, 1) := by decide +kernel
theorem dX9_course_72 : decode cX9_course 72 = .ok (.iload 5, 2) := by decide +kernel
theorem dX9_course_74 : decode cX9_course 74 = .ok (.aload_n 0, 1) := by decide +kernel
theorem dX9_course_75 : decode cX9_course 75 = .ok (.getfield 9, 3) := by decide +kernel
theorem dX9_course_78 : decode cX9_course 78 = .ok (.bipush 8, 2) := by decide +kernel
theorem dX9_course_80 : decode cX9_course 80 = .ok (.iload 5, 2) := by decide +kernel
theorem dX9_course_82 : decode cX9_course 82 = .ok (.iadd, 1) := by decide +kernel
theorem dX9_course_83 : decode cX9_course 83 = .ok (.iaload, 1) := by decide +kernel
theorem dX9_course_84 : decode cX9_course 84 = .ok (.invokevirtual 132, 3) := by decide +kernel
theorem dX9_course_87 : decode cX9_course 87 = .ok (.iinc 5 1, 3) := by decide +kernel
theorem dX9_course_90 : decode cX9_course 90 = .ok (.goto (-25), 3) := by decide +kernel
theorem dX9_course_93 : decode cX9_course 93 = .ok (.iinc 3 1, 3) := by decide +kernel
theorem dX9_course_96 : decode cX9_course 96 = .ok (.aload_n 0, 1) := by decide +kernel
theorem dX9_course_97 : decode cX9_course 97 = .ok (.getfield 21, 3) := by decide +kernel
theorem dX9_course_100 : decode cX9_course 100 = .ok (.iload_n 1, 1) := by decide +kernel
theorem dX9_course_101 : decode cX9_course 101 = .ok (.iaload, 1) := by decide +kernel
theorem dX9_course_102 : decode cX9_course 102 = .ok (.iload_n 2, 1) := by decide +kernel
theorem dX9_course_103 : decode cX9_course 103 = .ok (.if_icmp .eq 7, 3) := by decide +kernel
theorem dX9_course_106 : decode cX9_course 106 = .ok (.iconst 1, 1) := by decide +kernel
theorem dX9_course_107 : decode cX9_course 107 = .ok (.goto 4, 3) := by decide +kernel
theorem dX9_course_110 : decode cX9_course 110 = .ok (.iconst 0, 1) := by decide +kernel
theorem dX9_course_111 : decode cX9_course 111 = .ok (.istore 4, 2) := by decide +kernel
theorem dX9_course_113 : decode cX9_course 113 = .ok (.iconst 0, 1) := by decide +kernel
theorem dX9_course_114 : decode cX9_course 114 = .ok (.istore 5, 2) := by decide +kernel
theorem dX9_course_116 : decode cX9_course 116 = .ok (.iload 5, 2) := by decide +kernel
theorem dX9_course_118 : decode cX9_course 118 = .ok (.aload_n 0, 1) := by decide +kernel
theorem dX9_course_119 : decode cX9_course 119 = .ok (.getfield 9, 3) := by decide +kernel
theorem dX9_course_122 : decode cX9_course 122 = .ok (.iconst 0, 1) := by decide +kernel
theorem dX9_course_123 : decode cX9_course 123 = .ok (.iaload, 1) := by decide +kernel
theorem dX9_course_124 : decode cX9_course 124 = .ok (.if_icmp .ge 28, 3) := by decide +kernel
theorem dX9_course_127 : decode cX9_course 127 = .ok (.aload_n 0, 1) := by decide +kernel
theorem dX9_course_128 : decode cX9_course 128 = .ok (.getfield 18, 3) := by decide +kernel
theorem dX9_course_131 : decode cX9_course 131 = .ok (.iload 5, 2) := by decide +kernel
theorem dX9_course_133 : decode cX9_course 133 = .ok (.aload_n 0, 1) := by decide +kernel
theorem dX9_course_134 : decode cX9_course 134 = .ok (.getfield 18, 3) := by decide +kernel
theorem dX9_course_137 : decode cX9_course 137 = .ok (.bipush 8, 2) := by decide +kernel
theorem dX9_course_139 : decode cX9_course 139 = .ok (.iload_n 1, 1) := by decide +kernel
theorem dX9_course_140 : decode cX9_course 140 = .ok (.imul, 1) := by decide +kernel
theorem dX9_course_141 : decode cX9_course 141 = .ok (.iload 5, 2) := by decide +kernel
theorem dX9_course_143 : decode cX9_course 143 = .ok (.iadd, 1) := by decide +kernel
theorem dX9_course_144 : decode cX9_course 144 = .ok (.iaload, 1) := by decide +kernel
theorem dX9_course_145 : decode cX9_course 145 = .ok (.iastore, 1) := by decide +kernel
theorem dX9_course_146 : decode cX9_course 146 = .ok (.iinc 5 1, 3) := by decide +kernel
theorem dX9_course_149 : decode cX9_course 149 = .ok (.goto (-33), 3) := by decide +kernel
theorem dX9_course_152 : decode cX9_course 152 = .ok (.goto (-95), 3) := by decide +kernel
theorem dX9_course_155 : decode cX9_course 155 = .ok (.iload_n 3, 1) := by decide +kernel
theorem dX9_course_156 : decode cX9_course 156 = .ok (.ireturn, 1) := by decide +kernel
set_option maxRecDepth 20000 in
theorem ggX9_of_X9_within : GoodIn wsX9_of wsX9_within := goodIn_r _ [5] (by decide +kernel) (by decide +kernel)
set_option maxRecDepth 20000 in
theorem gX9_of_X9_within : GoodIn wsX9_of (va_wsS RX9 56 yX9_within wsX9_within) := goodIn_app (goodIn_of _ (by decide +kernel)) ggX9_of_X9_within
theorem dX9_of_0 : decode cX9_of 0 = .ok (.iload_n 1, 1) := by decide +kernel
theorem dX9_of_1 : decode cX9_of 1 = .ok (.tableswitch 111 0 3 #[31, 61, 61, 87], 31) := by decide +kernel
theorem dX9_of_32 : decode cX9_of 32 = .ok (.iload_n 2, 1) := by decide +kernel
theorem dX9_of_33 : decode cX9_of 33 = .ok (.iconst 0, 1) := by decide +kernel
theorem dX9_of_34 : decode cX9_of 34 = .ok (.aload_n 0, 1) := by decide +kernel
theorem dX9_of_35 : decode cX9_of 35 = .ok (.getfield 9, 3) := by decide +kernel
theorem dX9_of_38 : decode cX9_of 38 = .ok (.iconst 1, 1) := by decide +kernel
theorem dX9_of_39 : decode cX9_of 39 = .ok (.iaload, 1) := by decide +kernel
theorem dX9_of_40 : decode cX9_of 40 = .ok (.iconst 1, 1) := by decide +kernel
theorem dX9_of_41 : decode cX9_of 41 = .ok (.isub, 1) := by decide +kernel
theorem dX9_of_42 : decode cX9_of 42 = .ok (.invokestatic 56, 3) := by decide +kernel
theorem dX9_of_45 : decode cX9_of 45 = .ok (.ifCond .eq 15, 3) := by decide +kernel
theorem dX9_of_48 : decode cX9_of 48 = .ok (.aload_n 0, 1) := by decide +kernel
theorem dX9_of_49 : decode cX9_of 49 = .ok (.getfield 9, 3) := by decide +kernel
theorem dX9_of_52 : decode cX9_of 52 = .ok (.bipush 8, 2) := by decide +kernel
theorem dX9_of_54 : decode cX9_of 54 = .ok (.iload_n 2, 1) := by decide +kernel
theorem dX9_of_55 : decode cX9_of 55 = .ok (.iadd, 1) := by decide +kernel
theorem dX9_of_56 : decode cX9_of 56 = .ok (.iaload, 1) := by decide +kernel
theorem dX9_of_57 : decode cX9_of 57 = .ok (.goto 4, 3) := by decide +kernel
theorem dX9_of_60 : decode cX9_of 60 = .ok (.iconst (-1), 1) := by decide +kernel
theorem dX9_of_61 : decode cX9_of 61 = .ok (.ireturn, 1) := by decide +kernel
theorem dX9_of_62 : decode cX9_of 62 = .ok (.aload_n 0, 1) := by decide +kernel
theorem dX9_of_63 : decode cX9_of 63 = .ok (.getfield 9, 3) := by decide +kernel
theorem dX9_of_66 : decode cX9_of 66 = .ok (.iconst 1, 1) := by decide +kernel
theorem dX9_of_67 : decode cX9_of 67 = .ok (.iload_n 1, 1) := by decide +kernel
theorem dX9_of_68 : decode cX9_of 68 = .ok (.iadd, 1) := by decide +kernel
theorem dX9_of_69 : decode cX9_of 69 = .ok (.iaload, 1) := by decide +kernel
theorem dX9_of_70 : decode cX9_of 70 = .ok (.iconst (-1), 1) := by decide +kernel
theorem dX9_of_71 : decode cX9_of 71 = .ok (.if_icmp .ne 8, 3) := by decide +kernel
theorem dX9_of_74 : decode cX9_of 74 = .ok (.bipush (-5), 2) := by decide +kernel
theorem dX9_of_76 : decode cX9_of 76 = .ok (.goto 11, 3) := by decide +kernel
theorem dX9_of_79 : decode cX9_of 79 = .ok (.aload_n 0, 1) := by decide +kernel
theorem dX9_of_80 : decode cX9_of 80 = .ok (.getfield 9, 3) := by decide +kernel
theorem dX9_of_83 : decode cX9_of 83 = .ok (.iconst 1, 1) := by decide +kernel
theorem dX9_of_84 : decode cX9_of 84 = .ok (.iload_n 1, 1) := by decide +kernel
theorem dX9_of_85 : decode cX9_of 85 = .ok (.iadd, 1) := by decide +kernel
theorem dX9_of_86 : decode cX9_of 86 = .ok (.iaload, 1) := by decide +kernel
theorem dX9_of_87 : decode cX9_of 87 = .ok (.ireturn, 1) := by decide +kernel
theorem dX9_of_88 : decode cX9_of 88 = .ok (.iload_n 2, 1) := by decide +kernel
theorem dX9_of_89 : decode cX9_of 89 = .ok (.iconst 0, 1) := by decide +kernel
theorem dX9_of_90 : decode cX9_of 90 = .ok (.bipush 11, 2) := by decide +kernel
theorem dX9_of_92 : decode cX9_of 92 = .ok (.invokestatic 56, 3) := by decide +kernel
theorem dX9_of_95 : decode cX9_of 95 = .ok (.ifCond .eq 15, 3) := by decide +kernel
theorem dX9_of_98 : decode cX9_of 98 = .ok (.aload_n 0, 1) := by decide +kernel
theorem dX9_of_99 : decode cX9_of 99 = .ok (.getfield 9, 3) := by decide +kernel
theorem dX9_of_102 : decode cX9_of 102 = .ok (.bipush 24, 2) := by decide +kernel
theorem dX9_of_104 : decode cX9_of 104 = .ok (.iload_n 2, 1) := by decide +kernel
theorem dX9_of_105 : decode cX9_of 105 = .ok (.iadd, 1) := by decide +kernel
theorem dX9_of_106 : decode cX9_of 106 = .ok (.iaload, 1) := by decide +kernel
theorem dX9_of_107 : decode cX9_of 107 = .ok (.goto 4, 3) := by decide +kernel
theorem dX9_of_110 : decode cX9_of 110 = .ok (.iconst (-1), 1) := by decide +kernel
theorem dX9_of_111 : decode cX9_of 111 = .ok (.ireturn, 1) := by decide +kernel
theorem dX9_of_112 : decode cX9_of 112 = .ok (.iconst (-1), 1) := by decide +kernel
theorem dX9_of_113 : decode cX9_of 113 = .ok (.ireturn, 1) := by decide +kernel
set_option maxRecDepth 20000 in
theorem ggX9_told_X9_course : GoodIn wsX9_told wsX9_course := goodIn_r _ [7, 1, 8, 9, 10, 11, 12, 6, 13, 14, 15, 16, 17, 38, 39, 40, 41, 42, 43, 44, 45, 46, 47, 48, 49, 50, 51, 52, 53, 54, 55, 56, 57] (by decide +kernel) (by decide +kernel)
set_option maxRecDepth 20000 in
theorem gX9_told_X9_course : GoodIn wsX9_told (wsV RX9 142 RX9 yX9_course wsX9_course) := goodIn_app (goodIn_of _ (by decide +kernel)) ggX9_told_X9_course
set_option maxRecDepth 20000 in
theorem ggX9_told_X9_rings : GoodIn wsX9_told wsX9_rings := goodIn_r _ [21, 1, 8, 2, 10, 11, 12, 6, 13, 9, 14, 15, 16, 17, 38, 39, 40, 41, 42, 43, 44, 45, 46, 47, 48, 49, 50, 51, 52, 53, 54, 55, 56, 57] (by decide +kernel) (by decide +kernel)
set_option maxRecDepth 20000 in
theorem gX9_told_X9_rings : GoodIn wsX9_told (wsV RX9 145 RX9 yX9_rings wsX9_rings) := goodIn_app (goodIn_of _ (by decide +kernel)) ggX9_told_X9_rings
set_option maxRecDepth 20000 in
theorem ggX9_told_X9_round : GoodIn wsX9_told wsX9_round := goodIn_r _ [25, 2, 9, 38, 39, 40, 41, 42, 43, 44, 45, 46, 47, 48, 49, 50, 51, 52, 53, 54, 55, 56, 57] (by decide +kernel) (by decide +kernel)
set_option maxRecDepth 20000 in
theorem gX9_told_X9_round : GoodIn wsX9_told (wsV RX9 148 RX9 yX9_round wsX9_round) := goodIn_app (goodIn_of _ (by decide +kernel)) ggX9_told_X9_round
set_option maxRecDepth 20000 in
theorem ggX9_told_X9_wrongRow : GoodIn wsX9_told wsX9_wrongRow := goodIn_r _ [29, 2, 30, 31, 32, 6, 33, 9, 38, 39, 40, 41, 42, 43, 44, 45, 46, 47, 48, 49, 50, 51, 52, 53, 54, 55, 56, 57] (by decide +kernel) (by decide +kernel)
set_option maxRecDepth 20000 in
theorem gX9_told_X9_wrongRow : GoodIn wsX9_told (wsV RX9 139 RX9 yX9_wrongRow wsX9_wrongRow) := goodIn_app (goodIn_of _ (by decide +kernel)) ggX9_told_X9_wrongRow
set_option maxRecDepth 20000 in
theorem ggX9_told_X9_isTrue : GoodIn wsX9_told wsX9_isTrue := goodIn_r _ [37, 2, 9, 26, 27, 28, 6, 29, 30, 31, 32, 33, 38, 39, 40, 41, 42, 43, 44, 45, 46, 47, 48, 49, 50, 51, 52, 53, 54, 55, 56, 57] (by decide +kernel) (by decide +kernel)
set_option maxRecDepth 20000 in
theorem gX9_told_X9_isTrue : GoodIn wsX9_told (wsV RX9 151 RX9 yX9_isTrue wsX9_isTrue) := goodIn_app (goodIn_of _ (by decide +kernel)) ggX9_told_X9_isTrue
theorem dX9_told_0 : decode cX9_told 0 = .ok (.iload_n 1, 1) := by decide +kernel
theorem dX9_told_1 : decode cX9_told 1 = .ok (.bipush 7, 2) := by decide +kernel
theorem dX9_told_3 : decode cX9_told 3 = .ok (.if_icmp .ne 8, 3) := by decide +kernel
theorem dX9_told_6 : decode cX9_told 6 = .ok (.aload_n 0, 1) := by decide +kernel
theorem dX9_told_7 : decode cX9_told 7 = .ok (.invokevirtual 142, 3) := by decide +kernel
theorem dX9_told_10 : decode cX9_told 10 = .ok (.ireturn, 1) := by decide +kernel
theorem dX9_told_11 : decode cX9_told 11 = .ok (.aload_n 0, 1) := by decide +kernel
theorem dX9_told_12 : decode cX9_told 12 = .ok (.invokevirtual 145, 3) := by decide +kernel
theorem dX9_told_15 : decode cX9_told 15 = .ok (.iload_n 1, 1) := by decide +kernel
theorem dX9_told_16 : decode cX9_told 16 = .ok (.tableswitch 85 0 6 #[44, 51, 58, 65, 70, 75, 80], 44) := by decide +kernel
theorem dX9_told_60 : decode cX9_told 60 = .ok (.aload_n 0, 1) := by decide +kernel
theorem dX9_told_61 : decode cX9_told 61 = .ok (.getfield 9, 3) := by decide +kernel
theorem dX9_told_64 : decode cX9_told 64 = .ok (.iconst 0, 1) := by decide +kernel
theorem dX9_told_65 : decode cX9_told 65 = .ok (.iaload, 1) := by decide +kernel
theorem dX9_told_66 : decode cX9_told 66 = .ok (.ireturn, 1) := by decide +kernel
theorem dX9_told_67 : decode cX9_told 67 = .ok (.aload_n 0, 1) := by decide +kernel
theorem dX9_told_68 : decode cX9_told 68 = .ok (.getfield 9, 3) := by decide +kernel
theorem dX9_told_71 : decode cX9_told 71 = .ok (.iconst 1, 1) := by decide +kernel
theorem dX9_told_72 : decode cX9_told 72 = .ok (.iaload, 1) := by decide +kernel
theorem dX9_told_73 : decode cX9_told 73 = .ok (.ireturn, 1) := by decide +kernel
theorem dX9_told_74 : decode cX9_told 74 = .ok (.aload_n 0, 1) := by decide +kernel
theorem dX9_told_75 : decode cX9_told 75 = .ok (.getfield 9, 3) := by decide +kernel
theorem dX9_told_78 : decode cX9_told 78 = .ok (.iconst 4, 1) := by decide +kernel
theorem dX9_told_79 : decode cX9_told 79 = .ok (.iaload, 1) := by decide +kernel
theorem dX9_told_80 : decode cX9_told 80 = .ok (.ireturn, 1) := by decide +kernel
theorem dX9_told_81 : decode cX9_told 81 = .ok (.aload_n 0, 1) := by decide +kernel
theorem dX9_told_82 : decode cX9_told 82 = .ok (.getfield 129, 3) := by decide +kernel
theorem dX9_told_85 : decode cX9_told 85 = .ok (.ireturn, 1) := by decide +kernel
theorem dX9_told_86 : decode cX9_told 86 = .ok (.aload_n 0, 1) := by decide +kernel
theorem dX9_told_87 : decode cX9_told 87 = .ok (.invokevirtual 148, 3) := by decide +kernel
theorem dX9_told_90 : decode cX9_told 90 = .ok (.ireturn, 1) := by decide +kernel
theorem dX9_told_91 : decode cX9_told 91 = .ok (.aload_n 0, 1) := by decide +kernel
theorem dX9_told_92 : decode cX9_told 92 = .ok (.invokevirtual 139, 3) := by decide +kernel
theorem dX9_told_95 : decode cX9_told 95 = .ok (.ireturn, 1) := by decide +kernel
theorem dX9_told_96 : decode cX9_told 96 = .ok (.aload_n 0, 1) := by decide +kernel
theorem dX9_told_97 : decode cX9_told 97 = .ok (.invokevirtual 151, 3) := by decide +kernel
theorem dX9_told_100 : decode cX9_told 100 = .ok (.ireturn, 1) := by decide +kernel
theorem dX9_told_101 : decode cX9_told 101 = .ok (.iconst (-1), 1) := by decide +kernel
theorem dX9_told_102 : decode cX9_told 102 = .ok (.ireturn, 1) := by decide +kernel
set_option maxRecDepth 20000 in
theorem ggX9_isPlace_X9_within : GoodIn wsX9_isPlace wsX9_within := goodIn_r _ [5] (by decide +kernel) (by decide +kernel)
set_option maxRecDepth 20000 in
theorem gX9_isPlace_X9_within : GoodIn wsX9_isPlace (va_wsS RX9 56 yX9_within wsX9_within) := goodIn_app (goodIn_of _ (by decide +kernel)) ggX9_isPlace_X9_within
theorem dX9_isPlace_0 : decode cX9_isPlace 0 = .ok (.iload_n 1, 1) := by decide +kernel
theorem dX9_isPlace_1 : decode cX9_isPlace 1 = .ok (.iconst 1, 1) := by decide +kernel
theorem dX9_isPlace_2 : decode cX9_isPlace 2 = .ok (.aload_n 0, 1) := by decide +kernel
theorem dX9_isPlace_3 : decode cX9_isPlace 3 = .ok (.getfield 9, 3) := by decide +kernel
theorem dX9_isPlace_6 : decode cX9_isPlace 6 = .ok (.iconst 0, 1) := by decide +kernel
theorem dX9_isPlace_7 : decode cX9_isPlace 7 = .ok (.iaload, 1) := by decide +kernel
theorem dX9_isPlace_8 : decode cX9_isPlace 8 = .ok (.invokestatic 56, 3) := by decide +kernel
theorem dX9_isPlace_11 : decode cX9_isPlace 11 = .ok (.ireturn, 1) := by decide +kernel
theorem dX9_place_0 : decode cX9_place 0 = .ok (.iconst 0, 1) := by decide +kernel
theorem dX9_place_1 : decode cX9_place 1 = .ok (.istore_n 3, 1) := by decide +kernel
theorem dX9_place_2 : decode cX9_place 2 = .ok (.aload_n 0, 1) := by decide +kernel
theorem dX9_place_3 : decode cX9_place 3 = .ok (.getfield 18, 3) := by decide +kernel
theorem dX9_place_6 : decode cX9_place 6 = .ok (.bipush 8, 2) := by decide +kernel
theorem dX9_place_8 : decode cX9_place 8 = .ok (.iload_n 1, 1) := by decide +kernel
theorem dX9_place_9 : decode cX9_place 9 = .ok (.imul, 1) := by decide +kernel
theorem dX9_place_10 : decode cX9_place 10 = .ok (.iload_n 3, 1) := by decide +kernel
theorem dX9_place_11 : decode cX9_place 11 = .ok (.iadd, 1) := by decide +kernel
theorem dX9_place_12 : decode cX9_place 12 = .ok (.iaload, 1) := by decide +kernel
theorem dX9_place_13 : decode cX9_place 13 = .ok (.iload_n 2, 1) := by decide +kernel
theorem dX9_place_14 : decode cX9_place 14 = .ok (.if_icmp .eq 9, 3) := by decide +kernel
theorem dX9_place_17 : decode cX9_place 17 = .ok (.iinc 3 1, 3) := by decide +kernel
theorem dX9_place_20 : decode cX9_place 20 = .ok (.goto (-18), 3) := by decide +kernel
theorem dX9_place_23 : decode cX9_place 23 = .ok (.iload_n 3, 1) := by decide +kernel
theorem dX9_place_24 : decode cX9_place 24 = .ok (.iconst 1, 1) := by decide +kernel
theorem dX9_place_25 : decode cX9_place 25 = .ok (.iadd, 1) := by decide +kernel
theorem dX9_place_26 : decode cX9_place 26 = .ok (.ireturn, 1) := by decide +kernel
set_option maxRecDepth 20000 in
theorem ggX9_at_X9_rings : GoodIn wsX9_at wsX9_rings := goodIn_r _ [7, 8, 2, 1, 9, 10, 11, 6, 12, 13, 14, 15, 16, 17, 25, 26, 27, 28, 29, 30, 31, 32, 33, 34, 35, 36, 37, 38, 39, 40, 41, 42, 43, 44] (by decide +kernel) (by decide +kernel)
set_option maxRecDepth 20000 in
theorem gX9_at_X9_rings : GoodIn wsX9_at (wsV RX9 145 RX9 yX9_rings wsX9_rings) := goodIn_app (goodIn_of _ (by decide +kernel)) ggX9_at_X9_rings
set_option maxRecDepth 20000 in
theorem ggX9_at_X9_within : GoodIn wsX9_at wsX9_within := goodIn_r _ [20] (by decide +kernel) (by decide +kernel)
set_option maxRecDepth 20000 in
theorem gX9_at_X9_within : GoodIn wsX9_at (va_wsS RX9 56 yX9_within wsX9_within) := goodIn_app (goodIn_of _ (by decide +kernel)) ggX9_at_X9_within
set_option maxRecDepth 20000 in
theorem ggX9_at_X9_isPlace : GoodIn wsX9_at wsX9_isPlace := goodIn_r _ [24, 8, 18, 19, 6, 20, 25, 26, 27, 28, 29, 30, 31, 32, 33, 34, 35, 36, 37, 38, 39, 40, 41, 42, 43, 44] (by decide +kernel) (by decide +kernel)
set_option maxRecDepth 20000 in
theorem gX9_at_X9_isPlace : GoodIn wsX9_at (wsV RX9 154 RX9 yX9_isPlace wsX9_isPlace) := goodIn_app (goodIn_of _ (by decide +kernel)) ggX9_at_X9_isPlace
theorem dX9_at_0 : decode cX9_at 0 = .ok (.aload_n 0, 1) := by decide +kernel
theorem dX9_at_1 : decode cX9_at 1 = .ok (.invokevirtual 145, 3) := by decide +kernel
theorem dX9_at_4 : decode cX9_at 4 = .ok (.iload_n 1, 1) := by decide +kernel
theorem dX9_at_5 : decode cX9_at 5 = .ok (.iconst 0, 1) := by decide +kernel
theorem dX9_at_6 : decode cX9_at 6 = .ok (.aload_n 0, 1) := by decide +kernel
theorem dX9_at_7 : decode cX9_at 7 = .ok (.getfield 129, 3) := by decide +kernel
theorem dX9_at_10 : decode cX9_at 10 = .ok (.invokestatic 56, 3) := by decide +kernel
theorem dX9_at_13 : decode cX9_at 13 = .ok (.ifCond .eq 27, 3) := by decide +kernel
theorem dX9_at_16 : decode cX9_at 16 = .ok (.aload_n 0, 1) := by decide +kernel
theorem dX9_at_17 : decode cX9_at 17 = .ok (.iload_n 2, 1) := by decide +kernel
theorem dX9_at_18 : decode cX9_at 18 = .ok (.invokevirtual 154, 3) := by decide +kernel
theorem dX9_at_21 : decode cX9_at 21 = .ok (.ifCond .eq 19, 3) := by decide +kernel
theorem dX9_at_24 : decode cX9_at 24 = .ok (.aload_n 0, 1) := by decide +kernel
theorem dX9_at_25 : decode cX9_at 25 = .ok (.getfield 18, 3) := by decide +kernel
theorem dX9_at_28 : decode cX9_at 28 = .ok (.bipush 8, 2) := by decide +kernel
theorem dX9_at_30 : decode cX9_at 30 = .ok (.iload_n 1, 1) := by decide +kernel
theorem dX9_at_31 : decode cX9_at 31 = .ok (.imul, 1) := by decide +kernel
theorem dX9_at_32 : decode cX9_at 32 = .ok (.iload_n 2, 1) := by decide +kernel
theorem dX9_at_33 : decode cX9_at 33 = .ok (.iadd, 1) := by decide +kernel
theorem dX9_at_34 : decode cX9_at 34 = .ok (.iconst 1, 1) := by decide +kernel
theorem dX9_at_35 : decode cX9_at 35 = .ok (.isub, 1) := by decide +kernel
theorem dX9_at_36 : decode cX9_at 36 = .ok (.iaload, 1) := by decide +kernel
theorem dX9_at_37 : decode cX9_at 37 = .ok (.goto 4, 3) := by decide +kernel
theorem dX9_at_40 : decode cX9_at 40 = .ok (.iconst (-1), 1) := by decide +kernel
theorem dX9_at_41 : decode cX9_at 41 = .ok (.ireturn, 1) := by decide +kernel
set_option maxRecDepth 20000 in
theorem ggX9_where_X9_rings : GoodIn wsX9_where wsX9_rings := goodIn_r _ [6, 7, 8, 1, 9, 10, 11, 5, 12, 13, 14, 15, 16, 17, 29, 30, 31, 32, 33, 34, 35, 36, 37, 38, 39, 40, 41, 42, 43, 44, 45, 46, 47, 48] (by decide +kernel) (by decide +kernel)
set_option maxRecDepth 20000 in
theorem gX9_where_X9_rings : GoodIn wsX9_where (wsV RX9 145 RX9 yX9_rings wsX9_rings) := goodIn_app (goodIn_of _ (by decide +kernel)) ggX9_where_X9_rings
set_option maxRecDepth 20000 in
theorem ggX9_where_X9_within : GoodIn wsX9_where wsX9_within := goodIn_r _ [20] (by decide +kernel) (by decide +kernel)
set_option maxRecDepth 20000 in
theorem gX9_where_X9_within : GoodIn wsX9_where (va_wsS RX9 56 yX9_within wsX9_within) := goodIn_app (goodIn_of _ (by decide +kernel)) ggX9_where_X9_within
set_option maxRecDepth 20000 in
theorem ggX9_where_X9_isPlace : GoodIn wsX9_where wsX9_isPlace := goodIn_r _ [24, 7, 18, 19, 5, 20, 29, 30, 31, 32, 33, 34, 35, 36, 37, 38, 39, 40, 41, 42, 43, 44, 45, 46, 47, 48] (by decide +kernel) (by decide +kernel)
set_option maxRecDepth 20000 in
theorem gX9_where_X9_isPlace : GoodIn wsX9_where (wsV RX9 154 RX9 yX9_isPlace wsX9_isPlace) := goodIn_app (goodIn_of _ (by decide +kernel)) ggX9_where_X9_isPlace
set_option maxRecDepth 20000 in
theorem ggX9_where_X9_place : GoodIn wsX9_where wsX9_place := goodIn_r _ [28, 8, 29, 30, 31, 32, 33, 34, 35, 36, 37, 38, 39, 40, 41, 42, 43, 44, 45, 46, 47, 48] (by decide +kernel) (by decide +kernel)
set_option maxRecDepth 20000 in
theorem gX9_where_X9_place : GoodIn wsX9_where (wsV RX9 157 RX9 yX9_place wsX9_place) := goodIn_app (goodIn_of _ (by decide +kernel)) ggX9_where_X9_place
theorem dX9_where_0 : decode cX9_where 0 = .ok (.aload_n 0, 1) := by decide +kernel
theorem dX9_where_1 : decode cX9_where 1 = .ok (.invokevirtual 145, 3) := by decide +kernel
theorem dX9_where_4 : decode cX9_where 4 = .ok (.iload_n 1, 1) := by decide +kernel
theorem dX9_where_5 : decode cX9_where 5 = .ok (.iconst 0, 1) := by decide +kernel
theorem dX9_where_6 : decode cX9_where 6 = .ok (.aload_n 0, 1) := by decide +kernel
theorem dX9_where_7 : decode cX9_where 7 = .ok (.getfield 129, 3) := by decide +kernel
theorem dX9_where_10 : decode cX9_where 10 = .ok (.invokestatic 56, 3) := by decide +kernel
theorem dX9_where_13 : decode cX9_where 13 = .ok (.ifCond .eq 20, 3) := by decide +kernel
theorem dX9_where_16 : decode cX9_where 16 = .ok (.aload_n 0, 1) := by decide +kernel
theorem dX9_where_17 : decode cX9_where 17 = .ok (.iload_n 2, 1) := by decide +kernel
theorem dX9_where_18 : decode cX9_where 18 = .ok (.invokevirtual 154, 3) := by decide +kernel
theorem dX9_where_21 : decode cX9_where 21 = .ok (.ifCond .eq 12, 3) := by decide +kernel
theorem dX9_where_24 : decode cX9_where 24 = .ok (.aload_n 0, 1) := by decide +kernel
theorem dX9_where_25 : decode cX9_where 25 = .ok (.iload_n 1, 1) := by decide +kernel
theorem dX9_where_26 : decode cX9_where 26 = .ok (.iload_n 2, 1) := by decide +kernel
theorem dX9_where_27 : decode cX9_where 27 = .ok (.invokevirtual 157, 3) := by decide +kernel
theorem dX9_where_30 : decode cX9_where 30 = .ok (.goto 4, 3) := by decide +kernel
theorem dX9_where_33 : decode cX9_where 33 = .ok (.iconst (-1), 1) := by decide +kernel
theorem dX9_where_34 : decode cX9_where 34 = .ok (.ireturn, 1) := by decide +kernel
set_option maxRecDepth 20000 in
theorem ggX9_same_X9_rings : GoodIn wsX9_same wsX9_rings := goodIn_r _ [6, 7, 8, 1, 9, 10, 11, 5, 12, 13, 14, 15, 16, 17, 25, 26, 27, 28, 29, 30, 31, 32, 33, 34, 35, 36, 37, 38, 39, 40, 41, 42, 43, 44] (by decide +kernel) (by decide +kernel)
set_option maxRecDepth 20000 in
theorem gX9_same_X9_rings : GoodIn wsX9_same (wsV RX9 145 RX9 yX9_rings wsX9_rings) := goodIn_app (goodIn_of _ (by decide +kernel)) ggX9_same_X9_rings
set_option maxRecDepth 20000 in
theorem ggX9_same_X9_within : GoodIn wsX9_same wsX9_within := goodIn_r _ [20] (by decide +kernel) (by decide +kernel)
set_option maxRecDepth 20000 in
theorem gX9_same_X9_within : GoodIn wsX9_same (va_wsS RX9 56 yX9_within wsX9_within) := goodIn_app (goodIn_of _ (by decide +kernel)) ggX9_same_X9_within
set_option maxRecDepth 20000 in
theorem ggX9_same_X9_first : GoodIn wsX9_same wsX9_first := goodIn_r _ [24, 13, 25, 26, 27, 28, 29, 30, 31, 32, 33, 34, 35, 36, 37, 38, 39, 40, 41, 42, 43, 44] (by decide +kernel) (by decide +kernel)
set_option maxRecDepth 20000 in
theorem gX9_same_X9_first : GoodIn wsX9_same (wsV RX9 136 RX9 yX9_first wsX9_first) := goodIn_app (goodIn_of _ (by decide +kernel)) ggX9_same_X9_first
theorem dX9_same_0 : decode cX9_same 0 = .ok (.aload_n 0, 1) := by decide +kernel
theorem dX9_same_1 : decode cX9_same 1 = .ok (.invokevirtual 145, 3) := by decide +kernel
theorem dX9_same_4 : decode cX9_same 4 = .ok (.iload_n 1, 1) := by decide +kernel
theorem dX9_same_5 : decode cX9_same 5 = .ok (.iconst 0, 1) := by decide +kernel
theorem dX9_same_6 : decode cX9_same 6 = .ok (.aload_n 0, 1) := by decide +kernel
theorem dX9_same_7 : decode cX9_same 7 = .ok (.getfield 129, 3) := by decide +kernel
theorem dX9_same_10 : decode cX9_same 10 = .ok (.invokestatic 56, 3) := by decide +kernel
theorem dX9_same_13 : decode cX9_same 13 = .ok (.ifCond .eq 11, 3) := by decide +kernel
theorem dX9_same_16 : decode cX9_same 16 = .ok (.aload_n 0, 1) := by decide +kernel
theorem dX9_same_17 : decode cX9_same 17 = .ok (.iload_n 1, 1) := by decide +kernel
theorem dX9_same_18 : decode cX9_same 18 = .ok (.invokevirtual 136, 3) := by decide +kernel
theorem dX9_same_21 : decode cX9_same 21 = .ok (.goto 4, 3) := by decide +kernel
theorem dX9_same_24 : decode cX9_same 24 = .ok (.iconst (-1), 1) := by decide +kernel
theorem dX9_same_25 : decode cX9_same 25 = .ok (.ireturn, 1) := by decide +kernel
set_option maxRecDepth 20000 in
theorem ggX9_good_X9_areKept : GoodIn wsX9_good wsX9_areKept := goodIn_r _ [5, 6, 7, 8, 4, 9, 14, 15, 16, 17, 18, 19, 20, 21, 22, 23, 24, 25, 26, 27, 28, 29, 30, 31, 32, 33] (by decide +kernel) (by decide +kernel)
set_option maxRecDepth 20000 in
theorem gX9_good_X9_areKept : GoodIn wsX9_good (wsV RX9 60 RX9 yX9_areKept wsX9_areKept) := goodIn_app (goodIn_of _ (by decide +kernel)) ggX9_good_X9_areKept
set_option maxRecDepth 20000 in
theorem ggX9_good_X9_isGood : GoodIn wsX9_good wsX9_isGood := goodIn_r _ [13, 6, 14, 15, 16, 17, 18, 19, 20, 21, 22, 23, 24, 25, 26, 27, 28, 29, 30, 31, 32, 33] (by decide +kernel) (by decide +kernel)
set_option maxRecDepth 20000 in
theorem gX9_good_X9_isGood : GoodIn wsX9_good (wsV RX9 64 RX9 yX9_isGood wsX9_isGood) := goodIn_app (goodIn_of _ (by decide +kernel)) ggX9_good_X9_isGood
theorem dX9_good_0 : decode cX9_good 0 = .ok (.aload_n 0, 1) := by decide +kernel
theorem dX9_good_1 : decode cX9_good 1 = .ok (.iload_n 1, 1) := by decide +kernel
theorem dX9_good_2 : decode cX9_good 2 = .ok (.invokevirtual 60, 3) := by decide +kernel
theorem dX9_good_5 : decode cX9_good 5 = .ok (.ifCond .ne 6, 3) := by decide +kernel
theorem dX9_good_8 : decode cX9_good 8 = .ok (.bipush (-2), 2) := by decide +kernel
theorem dX9_good_10 : decode cX9_good 10 = .ok (.ireturn, 1) := by decide +kernel
theorem dX9_good_11 : decode cX9_good 11 = .ok (.aload_n 0, 1) := by decide +kernel
theorem dX9_good_12 : decode cX9_good 12 = .ok (.iload_n 1, 1) := by decide +kernel
theorem dX9_good_13 : decode cX9_good 13 = .ok (.invokevirtual 64, 3) := by decide +kernel
theorem dX9_good_16 : decode cX9_good 16 = .ok (.ifCond .eq 7, 3) := by decide +kernel
theorem dX9_good_19 : decode cX9_good 19 = .ok (.iconst 1, 1) := by decide +kernel
theorem dX9_good_20 : decode cX9_good 20 = .ok (.goto 4, 3) := by decide +kernel
theorem dX9_good_23 : decode cX9_good 23 = .ok (.iconst 0, 1) := by decide +kernel
theorem dX9_good_24 : decode cX9_good 24 = .ok (.ireturn, 1) := by decide +kernel
set_option maxRecDepth 20000 in
theorem ggX9_isMusic_X9_place : GoodIn wsX9_isMusic wsX9_place := goodIn_r _ [7, 2, 8, 9, 10, 11, 12, 13, 14, 15, 16, 17, 18, 19, 20, 21, 22, 23, 24, 25, 26, 27] (by decide +kernel) (by decide +kernel)
set_option maxRecDepth 20000 in
theorem gX9_isMusic_X9_place : GoodIn wsX9_isMusic (wsV RX9 157 RX9 yX9_place wsX9_place) := goodIn_app (goodIn_of _ (by decide +kernel)) ggX9_isMusic_X9_place
theorem dX9_isMusic_0 : decode cX9_isMusic 0 = .ok (.aload_n 0, 1) := by decide +kernel
theorem dX9_isMusic_1 : decode cX9_isMusic 1 = .ok (.getfield 9, 3) := by decide +kernel
theorem dX9_isMusic_4 : decode cX9_isMusic 4 = .ok (.iconst 0, 1) := by decide +kernel
theorem dX9_isMusic_5 : decode cX9_isMusic 5 = .ok (.iaload, 1) := by decide +kernel
theorem dX9_isMusic_6 : decode cX9_isMusic 6 = .ok (.istore_n 3, 1) := by decide +kernel
theorem dX9_isMusic_7 : decode cX9_isMusic 7 = .ok (.iload_n 1, 1) := by decide +kernel
theorem dX9_isMusic_8 : decode cX9_isMusic 8 = .ok (.tableswitch 165 0 2 #[28, 70, 108], 28) := by decide +kernel
theorem dX9_isMusic_36 : decode cX9_isMusic 36 = .ok (.iconst 1, 1) := by decide +kernel
theorem dX9_isMusic_37 : decode cX9_isMusic 37 = .ok (.istore 4, 2) := by decide +kernel
theorem dX9_isMusic_39 : decode cX9_isMusic 39 = .ok (.iload 4, 2) := by decide +kernel
theorem dX9_isMusic_41 : decode cX9_isMusic 41 = .ok (.iconst 5, 1) := by decide +kernel
theorem dX9_isMusic_42 : decode cX9_isMusic 42 = .ok (.if_icmp .ge 34, 3) := by decide +kernel
theorem dX9_isMusic_45 : decode cX9_isMusic 45 = .ok (.aload_n 0, 1) := by decide +kernel
theorem dX9_isMusic_46 : decode cX9_isMusic 46 = .ok (.getfield 18, 3) := by decide +kernel
theorem dX9_isMusic_49 : decode cX9_isMusic 49 = .ok (.bipush 8, 2) := by decide +kernel
theorem dX9_isMusic_51 : decode cX9_isMusic 51 = .ok (.iload_n 2, 1) := by decide +kernel
theorem dX9_isMusic_52 : decode cX9_isMusic 52 = .ok (.imul, 1) := by decide +kernel
theorem dX9_isMusic_53 : decode cX9_isMusic 53 = .ok (.iload_n 3, 1) := by decide +kernel
theorem dX9_isMusic_54 : decode cX9_isMusic 54 = .ok (.iadd, 1) := by decide +kernel
theorem dX9_isMusic_55 : decode cX9_isMusic 55 = .ok (.iload 4, 2) := by decide +kernel
theorem dX9_isMusic_57 : decode cX9_isMusic 57 = .ok (.isub, 1) := by decide +kernel
theorem dX9_isMusic_58 : decode cX9_isMusic 58 = .ok (.iaload, 1) := by decide +kernel
theorem dX9_isMusic_59 : decode cX9_isMusic 59 = .ok (.iload_n 3, 1) := by decide +kernel
theorem dX9_isMusic_60 : decode cX9_isMusic 60 = .ok (.iconst 1, 1) := by decide +kernel
theorem dX9_isMusic_61 : decode cX9_isMusic 61 = .ok (.iadd, 1) := by decide +kernel
theorem dX9_isMusic_62 : decode cX9_isMusic 62 = .ok (.iload 4, 2) := by decide +kernel
theorem dX9_isMusic_64 : decode cX9_isMusic 64 = .ok (.isub, 1) := by decide +kernel
theorem dX9_isMusic_65 : decode cX9_isMusic 65 = .ok (.if_icmp .eq 5, 3) := by decide +kernel
theorem dX9_isMusic_68 : decode cX9_isMusic 68 = .ok (.iconst 0, 1) := by decide +kernel
theorem dX9_isMusic_69 : decode cX9_isMusic 69 = .ok (.ireturn, 1) := by decide +kernel
theorem dX9_isMusic_70 : decode cX9_isMusic 70 = .ok (.iinc 4 1, 3) := by decide +kernel
theorem dX9_isMusic_73 : decode cX9_isMusic 73 = .ok (.goto (-34), 3) := by decide +kernel
theorem dX9_isMusic_76 : decode cX9_isMusic 76 = .ok (.iconst 1, 1) := by decide +kernel
theorem dX9_isMusic_77 : decode cX9_isMusic 77 = .ok (.ireturn, 1) := by decide +kernel
theorem dX9_isMusic_78 : decode cX9_isMusic 78 = .ok (.iconst 0, 1) := by decide +kernel
theorem dX9_isMusic_79 : decode cX9_isMusic 79 = .ok (.istore 4, 2) := by decide +kernel
theorem dX9_isMusic_81 : decode cX9_isMusic 81 = .ok (.iload 4, 2) := by decide +kernel
theorem dX9_isMusic_83 : decode cX9_isMusic 83 = .ok (.iconst 4, 1) := by decide +kernel
theorem dX9_isMusic_84 : decode cX9_isMusic 84 = .ok (.if_icmp .ge 30, 3) := by decide +kernel
theorem dX9_isMusic_87 : decode cX9_isMusic 87 = .ok (.aload_n 0, 1) := by decide +kernel
theorem dX9_isMusic_88 : decode cX9_isMusic 88 = .ok (.getfield 18, 3) := by decide +kernel
theorem dX9_isMusic_91 : decode cX9_isMusic 91 = .ok (.bipush 8, 2) := by decide +kernel
theorem dX9_isMusic_93 : decode cX9_isMusic 93 = .ok (.iload_n 2, 1) := by decide +kernel
theorem dX9_isMusic_94 : decode cX9_isMusic 94 = .ok (.imul, 1) := by decide +kernel
theorem dX9_isMusic_95 : decode cX9_isMusic 95 = .ok (.iload 4, 2) := by decide +kernel
theorem dX9_isMusic_97 : decode cX9_isMusic 97 = .ok (.iadd, 1) := by decide +kernel
theorem dX9_isMusic_98 : decode cX9_isMusic 98 = .ok (.iaload, 1) := by decide +kernel
theorem dX9_isMusic_99 : decode cX9_isMusic 99 = .ok (.iload 4, 2) := by decide +kernel
theorem dX9_isMusic_101 : decode cX9_isMusic 101 = .ok (.iconst 1, 1) := by decide +kernel
theorem dX9_isMusic_102 : decode cX9_isMusic 102 = .ok (.iadd, 1) := by decide +kernel
theorem dX9_isMusic_103 : decode cX9_isMusic 103 = .ok (.if_icmp .eq 5, 3) := by decide +kernel
theorem dX9_isMusic_106 : decode cX9_isMusic 106 = .ok (.iconst 0, 1) := by decide +kernel
theorem dX9_isMusic_107 : decode cX9_isMusic 107 = .ok (.ireturn, 1) := by decide +kernel
theorem dX9_isMusic_108 : decode cX9_isMusic 108 = .ok (.iinc 4 1, 3) := by decide +kernel
theorem dX9_isMusic_111 : decode cX9_isMusic 111 = .ok (.goto (-30), 3) := by decide +kernel
theorem dX9_isMusic_114 : decode cX9_isMusic 114 = .ok (.iconst 1, 1) := by decide +kernel
theorem dX9_isMusic_115 : decode cX9_isMusic 115 = .ok (.ireturn, 1) := by decide +kernel
theorem dX9_isMusic_116 : decode cX9_isMusic 116 = .ok (.iconst 0, 1) := by decide +kernel
theorem dX9_isMusic_117 : decode cX9_isMusic 117 = .ok (.istore 4, 2) := by decide +kernel
theorem dX9_isMusic_119 : decode cX9_isMusic 119 = .ok (.iload 4, 2) := by decide +kernel
theorem dX9_isMusic_121 : decode cX9_isMusic 121 = .ok (.iload_n 3, 1) := by decide +kernel
theorem dX9_isMusic_122 : decode cX9_isMusic 122 = .ok (.if_icmp .ge 49, 3) := by decide +kernel
theorem dX9_isMusic_125 : decode cX9_isMusic 125 = .ok (.aload_n 0, 1) := by decide +kernel
theorem dX9_isMusic_126 : decode cX9_isMusic 126 = .ok (.getfield 9, 3) := by decide +kernel
theorem dX9_isMusic_129 : decode cX9_isMusic 129 = .ok (.bipush 36, 2) := by decide +kernel
theorem dX9_isMusic_131 : decode cX9_isMusic 131 = .ok (.iload 4, 2) := by decide +kernel
theorem dX9_isMusic_133 : decode cX9_isMusic 133 = .ok (.iadd, 1) := by decide +kernel
theorem dX9_isMusic_134 : decode cX9_isMusic 134 = .ok (.iaload, 1) := by decide +kernel
theorem dX9_isMusic_135 : decode cX9_isMusic 135 = .ok (.ifCond .eq 30, 3) := by decide +kernel
theorem dX9_isMusic_138 : decode cX9_isMusic 138 = .ok (.aload_n 0, 1) := by decide +kernel
theorem dX9_isMusic_139 : decode cX9_isMusic 139 = .ok (.getfield 9, 3) := by decide +kernel
theorem dX9_isMusic_142 : decode cX9_isMusic 142 = .ok (.bipush 36, 2) := by decide +kernel
theorem dX9_isMusic_144 : decode cX9_isMusic 144 = .ok (.iload 4, 2) := by decide +kernel
theorem dX9_isMusic_146 : decode cX9_isMusic 146 = .ok (.iadd, 1) := by decide +kernel
theorem dX9_isMusic_147 : decode cX9_isMusic 147 = .ok (.iaload, 1) := by decide +kernel
theorem dX9_isMusic_148 : decode cX9_isMusic 148 = .ok (.aload_n 0, 1) := by decide +kernel
theorem dX9_isMusic_149 : decode cX9_isMusic 149 = .ok (.getfield 18, 3) := by decide +kernel
theorem dX9_isMusic_152 : decode cX9_isMusic 152 = .ok (.bipush 8, 2) := by decide +kernel
theorem dX9_isMusic_154 : decode cX9_isMusic 154 = .ok (.iload_n 2, 1) := by decide +kernel
theorem dX9_isMusic_155 : decode cX9_isMusic 155 = .ok (.imul, 1) := by decide +kernel
theorem dX9_isMusic_156 : decode cX9_isMusic 156 = .ok (.iload 4, 2) := by decide +kernel
theorem dX9_isMusic_158 : decode cX9_isMusic 158 = .ok (.iadd, 1) := by decide +kernel
theorem dX9_isMusic_159 : decode cX9_isMusic 159 = .ok (.iaload, 1) := by decide +kernel
theorem dX9_isMusic_160 : decode cX9_isMusic 160 = .ok (.if_icmp .eq 5, 3) := by decide +kernel
theorem dX9_isMusic_163 : decode cX9_isMusic 163 = .ok (.iconst 0, 1) := by decide +kernel
theorem dX9_isMusic_164 : decode cX9_isMusic 164 = .ok (.ireturn, 1) := by decide +kernel
theorem dX9_isMusic_165 : decode cX9_isMusic 165 = .ok (.iinc 4 1, 3) := by decide +kernel
theorem dX9_isMusic_168 : decode cX9_isMusic 168 = .ok (.goto (-49), 3) := by decide +kernel
theorem dX9_isMusic_171 : decode cX9_isMusic 171 = .ok (.iconst 1, 1) := by decide +kernel
theorem dX9_isMusic_172 : decode cX9_isMusic 172 = .ok (.ireturn, 1) := by decide +kernel
theorem dX9_isMusic_173 : decode cX9_isMusic 173 = .ok (.aload_n 0, 1) := by decide +kernel
theorem dX9_isMusic_174 : decode cX9_isMusic 174 = .ok (.iload_n 2, 1) := by decide +kernel
theorem dX9_isMusic_175 : decode cX9_isMusic 175 = .ok (.iload_n 3, 1) := by decide +kernel
theorem dX9_isMusic_176 : decode cX9_isMusic 176 = .ok (.invokevirtual 157, 3) := by decide +kernel
theorem dX9_isMusic_179 : decode cX9_isMusic 179 = .ok (.aload_n 0, 1) := by decide +kernel
theorem dX9_isMusic_180 : decode cX9_isMusic 180 = .ok (.iload_n 2, 1) := by decide +kernel
theorem dX9_isMusic_181 : decode cX9_isMusic 181 = .ok (.iload_n 3, 1) := by decide +kernel
theorem dX9_isMusic_182 : decode cX9_isMusic 182 = .ok (.iconst 1, 1) := by decide +kernel
theorem dX9_isMusic_183 : decode cX9_isMusic 183 = .ok (.isub, 1) := by decide +kernel
theorem dX9_isMusic_184 : decode cX9_isMusic 184 = .ok (.invokevirtual 157, 3) := by decide +kernel
theorem dX9_isMusic_187 : decode cX9_isMusic 187 = .ok (.iconst 1, 1) := by decide +kernel
theorem dX9_isMusic_188 : decode cX9_isMusic 188 = .ok (.iadd, 1) := by decide +kernel
theorem dX9_isMusic_189 : decode cX9_isMusic 189 = .ok (.if_icmp .ne 7, 3) := by decide +kernel
theorem dX9_isMusic_192 : decode cX9_isMusic 192 = .ok (.iconst 1, 1) := by decide +kernel
theorem dX9_isMusic_193 : decode cX9_isMusic 193 = .ok (.goto 4, 3) := by decide +kernel
theorem dX9_isMusic_196 : decode cX9_isMusic 196 = .ok (.iconst 0, 1) := by decide +kernel
theorem dX9_isMusic_197 : decode cX9_isMusic 197 = .ok (.ireturn, 1) := by decide +kernel
set_option maxRecDepth 20000 in
theorem ggX9_musicOf_X9_isMusic : GoodIn wsX9_musicOf wsX9_isMusic := goodIn_r _ [6, 7, 8, 9, 10, 11, 5, 12, 13, 14, 15, 16, 17, 18, 19, 20, 21, 22, 23, 24, 25, 26, 27, 28, 29, 30, 31, 32] (by decide +kernel) (by decide +kernel)
set_option maxRecDepth 20000 in
theorem gX9_musicOf_X9_isMusic : GoodIn wsX9_musicOf (wsV RX9 160 RX9 yX9_isMusic wsX9_isMusic) := goodIn_app (goodIn_of _ (by decide +kernel)) ggX9_musicOf_X9_isMusic
theorem dX9_musicOf_0 : decode cX9_musicOf 0 = .ok (.iconst 0, 1) := by decide +kernel
theorem dX9_musicOf_1 : decode cX9_musicOf 1 = .ok (.istore_n 2, 1) := by decide +kernel
theorem dX9_musicOf_2 : decode cX9_musicOf 2 = .ok (.iconst 1, 1) := by decide +kernel
theorem dX9_musicOf_3 : decode cX9_musicOf 3 = .ok (.istore_n 3, 1) := by decide +kernel
theorem dX9_musicOf_4 : decode cX9_musicOf 4 = .ok (.iload_n 3, 1) := by decide +kernel
theorem dX9_musicOf_5 : decode cX9_musicOf 5 = .ok (.aload_n 0, 1) := by decide +kernel
theorem dX9_musicOf_6 : decode cX9_musicOf 6 = .ok (.getfield 129, 3) := by decide +kernel
theorem dX9_musicOf_9 : decode cX9_musicOf 9 = .ok (.if_icmp .gt 21, 3) := by decide +kernel
theorem dX9_musicOf_12 : decode cX9_musicOf 12 = .ok (.aload_n 0, 1) := by decide +kernel
theorem dX9_musicOf_13 : decode cX9_musicOf 13 = .ok (.iload_n 1, 1) := by decide +kernel
theorem dX9_musicOf_14 : decode cX9_musicOf 14 = .ok (.iload_n 3, 1) := by decide +kernel
theorem dX9_musicOf_15 : decode cX9_musicOf 15 = .ok (.invokevirtual 160, 3) := by decide +kernel
theorem dX9_musicOf_18 : decode cX9_musicOf 18 = .ok (.ifCond .eq 6, 3) := by decide +kernel
theorem dX9_musicOf_21 : decode cX9_musicOf 21 = .ok (.iinc 2 1, 3) := by decide +kernel
theorem dX9_musicOf_24 : decode cX9_musicOf 24 = .ok (.iinc 3 1, 3) := by decide +kernel
theorem dX9_musicOf_27 : decode cX9_musicOf 27 = .ok (.goto (-23), 3) := by decide +kernel
theorem dX9_musicOf_30 : decode cX9_musicOf 30 = .ok (.iload_n 2, 1) := by decide +kernel
theorem dX9_musicOf_31 : decode cX9_musicOf 31 = .ok (.ireturn, 1) := by decide +kernel
set_option maxRecDepth 20000 in
theorem ggX9_music_X9_within : GoodIn wsX9_music wsX9_within := goodIn_r _ [4] (by decide +kernel) (by decide +kernel)
set_option maxRecDepth 20000 in
theorem gX9_music_X9_within : GoodIn wsX9_music (va_wsS RX9 56 yX9_within wsX9_within) := goodIn_app (goodIn_of _ (by decide +kernel)) ggX9_music_X9_within
set_option maxRecDepth 20000 in
theorem ggX9_music_X9_rings : GoodIn wsX9_music wsX9_rings := goodIn_r _ [8, 9, 10, 11, 12, 13, 14, 3, 15, 16, 17, 18, 19, 20, 33, 34, 35, 36, 37, 38, 39, 40, 41, 42, 43, 44, 45, 46, 47, 48, 49, 50, 51, 52] (by decide +kernel) (by decide +kernel)
set_option maxRecDepth 20000 in
theorem gX9_music_X9_rings : GoodIn wsX9_music (wsV RX9 145 RX9 yX9_rings wsX9_rings) := goodIn_app (goodIn_of _ (by decide +kernel)) ggX9_music_X9_rings
set_option maxRecDepth 20000 in
theorem ggX9_music_X9_musicOf : GoodIn wsX9_music wsX9_musicOf := goodIn_r _ [24, 11, 25, 26, 27, 3, 28, 9, 10, 29, 30, 31, 32, 33, 34, 35, 36, 37, 38, 39, 40, 41, 42, 43, 44, 45, 46, 47, 48, 49, 50, 51, 52] (by decide +kernel) (by decide +kernel)
set_option maxRecDepth 20000 in
theorem gX9_music_X9_musicOf : GoodIn wsX9_music (wsV RX9 164 RX9 yX9_musicOf wsX9_musicOf) := goodIn_app (goodIn_of _ (by decide +kernel)) ggX9_music_X9_musicOf
theorem dX9_music_0 : decode cX9_music 0 = .ok (.iload_n 1, 1) := by decide +kernel
theorem dX9_music_1 : decode cX9_music 1 = .ok (.iconst 0, 1) := by decide +kernel
theorem dX9_music_2 : decode cX9_music 2 = .ok (.iconst 3, 1) := by decide +kernel
theorem dX9_music_3 : decode cX9_music 3 = .ok (.invokestatic 56, 3) := by decide +kernel
theorem dX9_music_6 : decode cX9_music 6 = .ok (.ifCond .ne 5, 3) := by decide +kernel
theorem dX9_music_9 : decode cX9_music 9 = .ok (.iconst (-1), 1) := by decide +kernel
theorem dX9_music_10 : decode cX9_music 10 = .ok (.ireturn, 1) := by decide +kernel
theorem dX9_music_11 : decode cX9_music 11 = .ok (.aload_n 0, 1) := by decide +kernel
theorem dX9_music_12 : decode cX9_music 12 = .ok (.invokevirtual 145, 3) := by decide +kernel
theorem dX9_music_15 : decode cX9_music 15 = .ok (.aload_n 0, 1) := by decide +kernel
theorem dX9_music_16 : decode cX9_music 16 = .ok (.iload_n 1, 1) := by decide +kernel
theorem dX9_music_17 : decode cX9_music 17 = .ok (.invokevirtual 164, 3) := by decide +kernel
theorem dX9_music_20 : decode cX9_music 20 = .ok (.ireturn, 1) := by decide +kernel
set_option maxRecDepth 20000 in
theorem ggX9_least_X9_within : GoodIn wsX9_least wsX9_within := goodIn_r _ [5] (by decide +kernel) (by decide +kernel)
set_option maxRecDepth 20000 in
theorem gX9_least_X9_within : GoodIn wsX9_least (va_wsS RX9 56 yX9_within wsX9_within) := goodIn_app (goodIn_of _ (by decide +kernel)) ggX9_least_X9_within
set_option maxRecDepth 20000 in
theorem ggX9_least_X9_rings : GoodIn wsX9_least wsX9_rings := goodIn_r _ [9, 1, 10, 11, 12, 13, 14, 4, 15, 16, 17, 18, 19, 20, 33, 34, 35, 36, 37, 38, 39, 40, 41, 42, 43, 44, 45, 46, 47, 48, 49, 50, 51, 52] (by decide +kernel) (by decide +kernel)
set_option maxRecDepth 20000 in
theorem gX9_least_X9_rings : GoodIn wsX9_least (wsV RX9 145 RX9 yX9_rings wsX9_rings) := goodIn_app (goodIn_of _ (by decide +kernel)) ggX9_least_X9_rings
set_option maxRecDepth 20000 in
theorem ggX9_least_X9_isTrue : GoodIn wsX9_least wsX9_isTrue := goodIn_r _ [24, 11, 16, 25, 26, 27, 4, 28, 29, 30, 31, 32, 33, 34, 35, 36, 37, 38, 39, 40, 41, 42, 43, 44, 45, 46, 47, 48, 49, 50, 51, 52] (by decide +kernel) (by decide +kernel)
set_option maxRecDepth 20000 in
theorem gX9_least_X9_isTrue : GoodIn wsX9_least (wsV RX9 151 RX9 yX9_isTrue wsX9_isTrue) := goodIn_app (goodIn_of _ (by decide +kernel)) ggX9_least_X9_isTrue
theorem dX9_least_0 : decode cX9_least 0 = .ok (.iload_n 1, 1) := by decide +kernel
theorem dX9_least_1 : decode cX9_least 1 = .ok (.iconst 1, 1) := by decide +kernel
theorem dX9_least_2 : decode cX9_least 2 = .ok (.iconst 5, 1) := by decide +kernel
theorem dX9_least_3 : decode cX9_least 3 = .ok (.invokestatic 56, 3) := by decide +kernel
theorem dX9_least_6 : decode cX9_least 6 = .ok (.ifCond .ne 6, 3) := by decide +kernel
theorem dX9_least_9 : decode cX9_least 9 = .ok (.bipush (-2), 2) := by decide +kernel
theorem dX9_least_11 : decode cX9_least 11 = .ok (.ireturn, 1) := by decide +kernel
theorem dX9_least_12 : decode cX9_least 12 = .ok (.iload_n 2, 1) := by decide +kernel
theorem dX9_least_13 : decode cX9_least 13 = .ok (.iconst 0, 1) := by decide +kernel
theorem dX9_least_14 : decode cX9_least 14 = .ok (.iconst 1, 1) := by decide +kernel
theorem dX9_least_15 : decode cX9_least 15 = .ok (.invokestatic 56, 3) := by decide +kernel
theorem dX9_least_18 : decode cX9_least 18 = .ok (.ifCond .ne 5, 3) := by decide +kernel
theorem dX9_least_21 : decode cX9_least 21 = .ok (.iconst (-1), 1) := by decide +kernel
theorem dX9_least_22 : decode cX9_least 22 = .ok (.ireturn, 1) := by decide +kernel
theorem dX9_least_23 : decode cX9_least 23 = .ok (.aload_n 0, 1) := by decide +kernel
theorem dX9_least_24 : decode cX9_least 24 = .ok (.getfield 9, 3) := by decide +kernel
theorem dX9_least_27 : decode cX9_least 27 = .ok (.iconst 4, 1) := by decide +kernel
theorem dX9_least_28 : decode cX9_least 28 = .ok (.iaload, 1) := by decide +kernel
theorem dX9_least_29 : decode cX9_least 29 = .ok (.istore_n 3, 1) := by decide +kernel
theorem dX9_least_30 : decode cX9_least 30 = .ok (.aload_n 0, 1) := by decide +kernel
theorem dX9_least_31 : decode cX9_least 31 = .ok (.getfield 9, 3) := by decide +kernel
theorem dX9_least_34 : decode cX9_least 34 = .ok (.bipush 24, 2) := by decide +kernel
theorem dX9_least_36 : decode cX9_least 36 = .ok (.iaload, 1) := by decide +kernel
theorem dX9_least_37 : decode cX9_least 37 = .ok (.istore 4, 2) := by decide +kernel
theorem dX9_least_39 : decode cX9_least 39 = .ok (.aload_n 0, 1) := by decide +kernel
theorem dX9_least_40 : decode cX9_least 40 = .ok (.getfield 9, 3) := by decide +kernel
theorem dX9_least_43 : decode cX9_least 43 = .ok (.bipush 25, 2) := by decide +kernel
theorem dX9_least_45 : decode cX9_least 45 = .ok (.iaload, 1) := by decide +kernel
theorem dX9_least_46 : decode cX9_least 46 = .ok (.istore 5, 2) := by decide +kernel
theorem dX9_least_48 : decode cX9_least 48 = .ok (.aload_n 0, 1) := by decide +kernel
theorem dX9_least_49 : decode cX9_least 49 = .ok (.getfield 9, 3) := by decide +kernel
theorem dX9_least_52 : decode cX9_least 52 = .ok (.bipush 26, 2) := by decide +kernel
theorem dX9_least_54 : decode cX9_least 54 = .ok (.iaload, 1) := by decide +kernel
theorem dX9_least_55 : decode cX9_least 55 = .ok (.istore 6, 2) := by decide +kernel
theorem dX9_least_57 : decode cX9_least 57 = .ok (.aload_n 0, 1) := by decide +kernel
theorem dX9_least_58 : decode cX9_least 58 = .ok (.getfield 9, 3) := by decide +kernel
theorem dX9_least_61 : decode cX9_least 61 = .ok (.bipush 27, 2) := by decide +kernel
theorem dX9_least_63 : decode cX9_least 63 = .ok (.iaload, 1) := by decide +kernel
theorem dX9_least_64 : decode cX9_least 64 = .ok (.istore 7, 2) := by decide +kernel
theorem dX9_least_66 : decode cX9_least 66 = .ok (.aload_n 0, 1) := by decide +kernel
theorem dX9_least_67 : decode cX9_least 67 = .ok (.getfield 9, 3) := by decide +kernel
theorem dX9_least_70 : decode cX9_least 70 = .ok (.bipush 28, 2) := by decide +kernel
theorem dX9_least_72 : decode cX9_least 72 = .ok (.iaload, 1) := by decide +kernel
theorem dX9_least_73 : decode cX9_least 73 = .ok (.istore 8, 2) := by decide +kernel
theorem dX9_least_75 : decode cX9_least 75 = .ok (.aload_n 0, 1) := by decide +kernel
theorem dX9_least_76 : decode cX9_least 76 = .ok (.getfield 9, 3) := by decide +kernel
theorem dX9_least_79 : decode cX9_least 79 = .ok (.iconst 4, 1) := by decide +kernel
theorem dX9_least_80 : decode cX9_least 80 = .ok (.iload_n 1, 1) := by decide +kernel
theorem dX9_least_81 : decode cX9_least 81 = .ok (.iastore, 1) := by decide +kernel
theorem dX9_least_82 : decode cX9_least 82 = .ok (.iconst 1, 1) := by decide +kernel
theorem dX9_least_83 : decode cX9_least 83 = .ok (.istore 9, 2) := by decide +kernel
theorem dX9_least_85 : decode cX9_least 85 = .ok (.iconst 0, 1) := by decide +kernel
theorem dX9_least_86 : decode cX9_least 86 = .ok (.istore 10, 2) := by decide +kernel
theorem dX9_least_88 : decode cX9_least 88 = .ok (.iload 10, 2) := by decide +kernel
theorem dX9_least_90 : decode cX9_least 90 = .ok (.iload_n 1, 1) := by decide +kernel
theorem dX9_least_91 : decode cX9_least 91 = .ok (.if_icmp .ge 15, 3) := by decide +kernel
theorem dX9_least_94 : decode cX9_least 94 = .ok (.iload 9, 2) := by decide +kernel
theorem dX9_least_96 : decode cX9_least 96 = .ok (.iconst 3, 1) := by decide +kernel
theorem dX9_least_97 : decode cX9_least 97 = .ok (.imul, 1) := by decide +kernel
theorem dX9_least_98 : decode cX9_least 98 = .ok (.istore 9, 2) := by decide +kernel
theorem dX9_least_100 : decode cX9_least 100 = .ok (.iinc 10 1, 3) := by decide +kernel
theorem dX9_least_103 : decode cX9_least 103 = .ok (.goto (-15), 3) := by decide +kernel
theorem dX9_least_106 : decode cX9_least 106 = .ok (.bipush (-5), 2) := by decide +kernel
theorem dX9_least_108 : decode cX9_least 108 = .ok (.istore 10, 2) := by decide +kernel
theorem dX9_least_110 : decode cX9_least 110 = .ok (.bipush (-5), 2) := by decide +kernel
theorem dX9_least_112 : decode cX9_least 112 = .ok (.istore 11, 2) := by decide +kernel
theorem dX9_least_114 : decode cX9_least 114 = .ok (.iconst 0, 1) := by decide +kernel
theorem dX9_least_115 : decode cX9_least 115 = .ok (.istore 12, 2) := by decide +kernel
theorem dX9_least_117 : decode cX9_least 117 = .ok (.iload 12, 2) := by decide +kernel
theorem dX9_least_119 : decode cX9_least 119 = .ok (.iload 9, 2) := by decide +kernel
theorem dX9_least_121 : decode cX9_least 121 = .ok (.if_icmp .ge 108, 3) := by decide +kernel
theorem dX9_least_124 : decode cX9_least 124 = .ok (.iload 12, 2) := by decide +kernel
theorem dX9_least_126 : decode cX9_least 126 = .ok (.istore 13, 2) := by decide +kernel
theorem dX9_least_128 : decode cX9_least 128 = .ok (.iconst 0, 1) := by decide +kernel
theorem dX9_least_129 : decode cX9_least 129 = .ok (.istore 14, 2) := by decide +kernel
theorem dX9_least_131 : decode cX9_least 131 = .ok (.iload_n 1, 1) := by decide +kernel
theorem dX9_least_132 : decode cX9_least 132 = .ok (.iconst 1, 1) := by decide +kernel
theorem dX9_least_133 : decode cX9_least 133 = .ok (.isub, 1) := by decide +kernel
theorem dX9_least_134 : decode cX9_least 134 = .ok (.istore 15, 2) := by decide +kernel
theorem dX9_least_136 : decode cX9_least 136 = .ok (.iload 15, 2) := by decide +kernel
theorem dX9_least_138 : decode cX9_least 138 = .ok (.ifCond .lt 46, 3) := by decide +kernel
theorem dX9_least_141 : decode cX9_least 141 = .ok (.aload_n 0, 1) := by decide +kernel
theorem dX9_least_142 : decode cX9_least 142 = .ok (.getfield 9, 3) := by decide +kernel
theorem dX9_least_145 : decode cX9_least 145 = .ok (.bipush 24, 2) := by decide +kernel
theorem dX9_least_147 : decode cX9_least 147 = .ok (.iload 15, 2) := by decide +kernel
theorem dX9_least_149 : decode cX9_least 149 = .ok (.iadd, 1) := by decide +kernel
theorem dX9_least_150 : decode cX9_least 150 = .ok (.iload 13, 2) := by decide +kernel
theorem dX9_least_152 : decode cX9_least 152 = .ok (.iconst 3, 1) := by decide +kernel
theorem dX9_least_153 : decode cX9_least 153 = .ok (.irem, 1) := by decide +kernel
theorem dX9_least_154 : decode cX9_least 154 = .ok (.iastore, 1) := by decide +kernel
theorem dX9_least_155 : decode cX9_least 155 = .ok (.iload 14, 2) := by decide +kernel
theorem dX9_least_157 : decode cX9_least 157 = .ok (.iload 13, 2) := by decide +kernel
theorem dX9_least_159 : decode cX9_least 159 = .ok (.iconst 3, 1) := by decide +kernel
theorem dX9_least_160 : decode cX9_least 160 = .ok (.irem, 1) := by decide +kernel
theorem dX9_least_161 : decode cX9_least 161 = .ok (.ifCond .ne 7, 3) := by decide +kernel
theorem dX9_least_164 : decode cX9_least 164 = .ok (.iconst 0, 1) := by decide +kernel
theorem dX9_least_165 : decode cX9_least 165 = .ok (.goto 4, 3) := by decide +kernel
theorem dX9_least_168 : decode cX9_least 168 = .ok (.iconst 1, 1) := by decide +kernel
theorem dX9_least_169 : decode cX9_least 169 = .ok (.iadd, 1) := by decide +kernel
theorem dX9_least_170 : decode cX9_least 170 = .ok (.istore 14, 2) := by decide +kernel
theorem dX9_least_172 : decode cX9_least 172 = .ok (.iload 13, 2) := by decide +kernel
theorem dX9_least_174 : decode cX9_least 174 = .ok (.iconst 3, 1) := by decide +kernel
theorem dX9_least_175 : decode cX9_least 175 = .ok (.idiv, 1) := by decide +kernel
theorem dX9_least_176 : decode cX9_least 176 = .ok (.istore 13, 2) := by decide +kernel
theorem dX9_least_178 : decode cX9_least 178 = .ok (.iinc 15 (-1), 3) := by decide +kernel
theorem dX9_least_181 : decode cX9_least 181 = .ok (.goto (-45), 3) := by decide +kernel
theorem dX9_least_184 : decode cX9_least 184 = .ok (.iload 10, 2) := by decide +kernel
theorem dX9_least_186 : decode cX9_least 186 = .ok (.bipush (-5), 2) := by decide +kernel
theorem dX9_least_188 : decode cX9_least 188 = .ok (.if_icmp .eq 13, 3) := by decide +kernel
theorem dX9_least_191 : decode cX9_least 191 = .ok (.iload 14, 2) := by decide +kernel
theorem dX9_least_193 : decode cX9_least 193 = .ok (.iload 11, 2) := by decide +kernel
theorem dX9_least_195 : decode cX9_least 195 = .ok (.if_icmp .lt 6, 3) := by decide +kernel
theorem dX9_least_198 : decode cX9_least 198 = .ok (.goto 25, 3) := by decide +kernel
theorem dX9_least_201 : decode cX9_least 201 = .ok (.aload_n 0, 1) := by decide +kernel
theorem dX9_least_202 : decode cX9_least 202 = .ok (.invokevirtual 145, 3) := by decide +kernel
theorem dX9_least_205 : decode cX9_least 205 = .ok (.aload_n 0, 1) := by decide +kernel
theorem dX9_least_206 : decode cX9_least 206 = .ok (.invokevirtual 151, 3) := by decide +kernel
theorem dX9_least_209 : decode cX9_least 209 = .ok (.ifCond .ne 6, 3) := by decide +kernel
theorem dX9_least_212 : decode cX9_least 212 = .ok (.goto 11, 3) := by decide +kernel
theorem dX9_least_215 : decode cX9_least 215 = .ok (.iload 12, 2) := by decide +kernel
theorem dX9_least_217 : decode cX9_least 217 = .ok (.istore 10, 2) := by decide +kernel
theorem dX9_least_219 : decode cX9_least 219 = .ok (.iload 14, 2) := by decide +kernel
theorem dX9_least_221 : decode cX9_least 221 = .ok (.istore 11, 2) := by decide +kernel
theorem dX9_least_223 : decode cX9_least 223 = .ok (.iinc 12 1, 3) := by decide +kernel
theorem dX9_least_226 : decode cX9_least 226 = .ok (.goto (-109), 3) := by decide +kernel
theorem dX9_least_229 : decode cX9_least 229 = .ok (.aload_n 0, 1) := by decide +kernel
theorem dX9_least_230 : decode cX9_least 230 = .ok (.getfield 9, 3) := by decide +kernel
theorem dX9_least_233 : decode cX9_least 233 = .ok (.iconst 4, 1) := by decide +kernel
theorem dX9_least_234 : decode cX9_least 234 = .ok (.iload_n 3, 1) := by decide +kernel
theorem dX9_least_235 : decode cX9_least 235 = .ok (.iastore, 1) := by decide +kernel
theorem dX9_least_236 : decode cX9_least 236 = .ok (.aload_n 0, 1) := by decide +kernel
theorem dX9_least_237 : decode cX9_least 237 = .ok (.getfield 9, 3) := by decide +kernel
theorem dX9_least_240 : decode cX9_least 240 = .ok (.bipush 24, 2) := by decide +kernel
theorem dX9_least_242 : decode cX9_least 242 = .ok (.iload 4, 2) := by decide +kernel
theorem dX9_least_244 : decode cX9_least 244 = .ok (.iastore, 1) := by decide +kernel
theorem dX9_least_245 : decode cX9_least 245 = .ok (.aload_n 0, 1) := by decide +kernel
theorem dX9_least_246 : decode cX9_least 246 = .ok (.getfield 9, 3) := by decide +kernel
theorem dX9_least_249 : decode cX9_least 249 = .ok (.bipush 25, 2) := by decide +kernel
theorem dX9_least_251 : decode cX9_least 251 = .ok (.iload 5, 2) := by decide +kernel
theorem dX9_least_253 : decode cX9_least 253 = .ok (.iastore, 1) := by decide +kernel
theorem dX9_least_254 : decode cX9_least 254 = .ok (.aload_n 0, 1) := by decide +kernel
theorem dX9_least_255 : decode cX9_least 255 = .ok (.getfield 9, 3) := by decide +kernel
theorem dX9_least_258 : decode cX9_least 258 = .ok (.bipush 26, 2) := by decide +kernel
theorem dX9_least_260 : decode cX9_least 260 = .ok (.iload 6, 2) := by decide +kernel
theorem dX9_least_262 : decode cX9_least 262 = .ok (.iastore, 1) := by decide +kernel
theorem dX9_least_263 : decode cX9_least 263 = .ok (.aload_n 0, 1) := by decide +kernel
theorem dX9_least_264 : decode cX9_least 264 = .ok (.getfield 9, 3) := by decide +kernel
theorem dX9_least_267 : decode cX9_least 267 = .ok (.bipush 27, 2) := by decide +kernel
theorem dX9_least_269 : decode cX9_least 269 = .ok (.iload 7, 2) := by decide +kernel
theorem dX9_least_271 : decode cX9_least 271 = .ok (.iastore, 1) := by decide +kernel
theorem dX9_least_272 : decode cX9_least 272 = .ok (.aload_n 0, 1) := by decide +kernel
theorem dX9_least_273 : decode cX9_least 273 = .ok (.getfield 9, 3) := by decide +kernel
theorem dX9_least_276 : decode cX9_least 276 = .ok (.bipush 28, 2) := by decide +kernel
theorem dX9_least_278 : decode cX9_least 278 = .ok (.iload 8, 2) := by decide +kernel
theorem dX9_least_280 : decode cX9_least 280 = .ok (.iastore, 1) := by decide +kernel
theorem dX9_least_281 : decode cX9_least 281 = .ok (.iload_n 2, 1) := by decide +kernel
theorem dX9_least_282 : decode cX9_least 282 = .ok (.ifCond .ne 8, 3) := by decide +kernel
theorem dX9_least_285 : decode cX9_least 285 = .ok (.iload 10, 2) := by decide +kernel
theorem dX9_least_287 : decode cX9_least 287 = .ok (.goto 5, 3) := by decide +kernel
theorem dX9_least_290 : decode cX9_least 290 = .ok (.iload 11, 2) := by decide +kernel
theorem dX9_least_292 : decode cX9_least 292 = .ok (.ireturn, 1) := by decide +kernel
set_option maxRecDepth 20000 in
theorem ggX9_still_X9_isPlace : GoodIn wsX9_still wsX9_isPlace := goodIn_r _ [6, 7, 8, 9, 5, 10, 29, 30, 31, 32, 33, 34, 35, 36, 37, 38, 39, 40, 41, 42, 43, 44, 45, 46, 47, 48] (by decide +kernel) (by decide +kernel)
set_option maxRecDepth 20000 in
theorem gX9_still_X9_isPlace : GoodIn wsX9_still (wsV RX9 154 RX9 yX9_isPlace wsX9_isPlace) := goodIn_app (goodIn_of _ (by decide +kernel)) ggX9_still_X9_isPlace
set_option maxRecDepth 20000 in
theorem ggX9_still_X9_rings : GoodIn wsX9_still wsX9_rings := goodIn_r _ [14, 7, 15, 1, 16, 17, 18, 5, 19, 20, 21, 22, 23, 24, 29, 30, 31, 32, 33, 34, 35, 36, 37, 38, 39, 40, 41, 42, 43, 44, 45, 46, 47, 48] (by decide +kernel) (by decide +kernel)
set_option maxRecDepth 20000 in
theorem gX9_still_X9_rings : GoodIn wsX9_still (wsV RX9 145 RX9 yX9_rings wsX9_rings) := goodIn_app (goodIn_of _ (by decide +kernel)) ggX9_still_X9_rings
set_option maxRecDepth 20000 in
theorem ggX9_still_X9_place : GoodIn wsX9_still wsX9_place := goodIn_r _ [28, 15, 29, 30, 31, 32, 33, 34, 35, 36, 37, 38, 39, 40, 41, 42, 43, 44, 45, 46, 47, 48] (by decide +kernel) (by decide +kernel)
set_option maxRecDepth 20000 in
theorem gX9_still_X9_place : GoodIn wsX9_still (wsV RX9 157 RX9 yX9_place wsX9_place) := goodIn_app (goodIn_of _ (by decide +kernel)) ggX9_still_X9_place
theorem dX9_still_0 : decode cX9_still 0 = .ok (.aload_n 0, 1) := by decide +kernel
theorem dX9_still_1 : decode cX9_still 1 = .ok (.iload_n 1, 1) := by decide +kernel
theorem dX9_still_2 : decode cX9_still 2 = .ok (.invokevirtual 154, 3) := by decide +kernel
theorem dX9_still_5 : decode cX9_still 5 = .ok (.ifCond .ne 5, 3) := by decide +kernel
theorem dX9_still_8 : decode cX9_still 8 = .ok (.iconst (-1), 1) := by decide +kernel
theorem dX9_still_9 : decode cX9_still 9 = .ok (.ireturn, 1) := by decide +kernel
theorem dX9_still_10 : decode cX9_still 10 = .ok (.aload_n 0, 1) := by decide +kernel
theorem dX9_still_11 : decode cX9_still 11 = .ok (.invokevirtual 145, 3) := by decide +kernel
theorem dX9_still_14 : decode cX9_still 14 = .ok (.iconst 0, 1) := by decide +kernel
theorem dX9_still_15 : decode cX9_still 15 = .ok (.istore_n 2, 1) := by decide +kernel
theorem dX9_still_16 : decode cX9_still 16 = .ok (.iconst 1, 1) := by decide +kernel
theorem dX9_still_17 : decode cX9_still 17 = .ok (.istore_n 3, 1) := by decide +kernel
theorem dX9_still_18 : decode cX9_still 18 = .ok (.iload_n 3, 1) := by decide +kernel
theorem dX9_still_19 : decode cX9_still 19 = .ok (.aload_n 0, 1) := by decide +kernel
theorem dX9_still_20 : decode cX9_still 20 = .ok (.getfield 129, 3) := by decide +kernel
theorem dX9_still_23 : decode cX9_still 23 = .ok (.if_icmp .gt 29, 3) := by decide +kernel
theorem dX9_still_26 : decode cX9_still 26 = .ok (.aload_n 0, 1) := by decide +kernel
theorem dX9_still_27 : decode cX9_still 27 = .ok (.iload_n 3, 1) := by decide +kernel
theorem dX9_still_28 : decode cX9_still 28 = .ok (.iload_n 1, 1) := by decide +kernel
theorem dX9_still_29 : decode cX9_still 29 = .ok (.invokevirtual 157, 3) := by decide +kernel
theorem dX9_still_32 : decode cX9_still 32 = .ok (.aload_n 0, 1) := by decide +kernel
theorem dX9_still_33 : decode cX9_still 33 = .ok (.iload_n 3, 1) := by decide +kernel
theorem dX9_still_34 : decode cX9_still 34 = .ok (.iconst 1, 1) := by decide +kernel
theorem dX9_still_35 : decode cX9_still 35 = .ok (.isub, 1) := by decide +kernel
theorem dX9_still_36 : decode cX9_still 36 = .ok (.iload_n 1, 1) := by decide +kernel
theorem dX9_still_37 : decode cX9_still 37 = .ok (.invokevirtual 157, 3) := by decide +kernel
theorem dX9_still_40 : decode cX9_still 40 = .ok (.if_icmp .ne 6, 3) := by decide +kernel
theorem dX9_still_43 : decode cX9_still 43 = .ok (.iinc 2 1, 3) := by decide +kernel
theorem dX9_still_46 : decode cX9_still 46 = .ok (.iinc 3 1, 3) := by decide +kernel
theorem dX9_still_49 : decode cX9_still 49 = .ok (.goto (-31), 3) := by decide +kernel
theorem dX9_still_52 : decode cX9_still 52 = .ok (.iload_n 2, 1) := by decide +kernel
theorem dX9_still_53 : decode cX9_still 53 = .ok (.ireturn, 1) := by decide +kernel
set_option maxRecDepth 20000 in
theorem ggX9_ahead_X9_isPlace : GoodIn wsX9_ahead wsX9_isPlace := goodIn_r _ [6, 7, 8, 9, 5, 10, 29, 30, 31, 32, 33, 34, 35, 36, 37, 38, 39, 40, 41, 42, 43, 44, 45, 46, 47, 48] (by decide +kernel) (by decide +kernel)
set_option maxRecDepth 20000 in
theorem gX9_ahead_X9_isPlace : GoodIn wsX9_ahead (wsV RX9 154 RX9 yX9_isPlace wsX9_isPlace) := goodIn_app (goodIn_of _ (by decide +kernel)) ggX9_ahead_X9_isPlace
set_option maxRecDepth 20000 in
theorem ggX9_ahead_X9_rings : GoodIn wsX9_ahead wsX9_rings := goodIn_r _ [14, 7, 15, 1, 16, 17, 18, 5, 19, 20, 21, 22, 23, 24, 29, 30, 31, 32, 33, 34, 35, 36, 37, 38, 39, 40, 41, 42, 43, 44, 45, 46, 47, 48] (by decide +kernel) (by decide +kernel)
set_option maxRecDepth 20000 in
theorem gX9_ahead_X9_rings : GoodIn wsX9_ahead (wsV RX9 145 RX9 yX9_rings wsX9_rings) := goodIn_app (goodIn_of _ (by decide +kernel)) ggX9_ahead_X9_rings
set_option maxRecDepth 20000 in
theorem ggX9_ahead_X9_place : GoodIn wsX9_ahead wsX9_place := goodIn_r _ [28, 15, 29, 30, 31, 32, 33, 34, 35, 36, 37, 38, 39, 40, 41, 42, 43, 44, 45, 46, 47, 48] (by decide +kernel) (by decide +kernel)
set_option maxRecDepth 20000 in
theorem gX9_ahead_X9_place : GoodIn wsX9_ahead (wsV RX9 157 RX9 yX9_place wsX9_place) := goodIn_app (goodIn_of _ (by decide +kernel)) ggX9_ahead_X9_place
theorem dX9_ahead_0 : decode cX9_ahead 0 = .ok (.aload_n 0, 1) := by decide +kernel
theorem dX9_ahead_1 : decode cX9_ahead 1 = .ok (.iload_n 1, 1) := by decide +kernel
theorem dX9_ahead_2 : decode cX9_ahead 2 = .ok (.invokevirtual 154, 3) := by decide +kernel
theorem dX9_ahead_5 : decode cX9_ahead 5 = .ok (.ifCond .eq 16, 3) := by decide +kernel
theorem dX9_ahead_8 : decode cX9_ahead 8 = .ok (.aload_n 0, 1) := by decide +kernel
theorem dX9_ahead_9 : decode cX9_ahead 9 = .ok (.iload_n 2, 1) := by decide +kernel
theorem dX9_ahead_10 : decode cX9_ahead 10 = .ok (.invokevirtual 154, 3) := by decide +kernel
theorem dX9_ahead_13 : decode cX9_ahead 13 = .ok (.ifCond .eq 8, 3) := by decide +kernel
theorem dX9_ahead_16 : decode cX9_ahead 16 = .ok (.iload_n 1, 1) := by decide +kernel
theorem dX9_ahead_17 : decode cX9_ahead 17 = .ok (.iload_n 2, 1) := by decide +kernel
theorem dX9_ahead_18 : decode cX9_ahead 18 = .ok (.if_icmp .ne 5, 3) := by decide +kernel
theorem dX9_ahead_21 : decode cX9_ahead 21 = .ok (.iconst (-1), 1) := by decide +kernel
theorem dX9_ahead_22 : decode cX9_ahead 22 = .ok (.ireturn, 1) := by decide +kernel
theorem dX9_ahead_23 : decode cX9_ahead 23 = .ok (.aload_n 0, 1) := by decide +kernel
theorem dX9_ahead_24 : decode cX9_ahead 24 = .ok (.invokevirtual 145, 3) := by decide +kernel
theorem dX9_ahead_27 : decode cX9_ahead 27 = .ok (.iconst 0, 1) := by decide +kernel
theorem dX9_ahead_28 : decode cX9_ahead 28 = .ok (.istore_n 3, 1) := by decide +kernel
theorem dX9_ahead_29 : decode cX9_ahead 29 = .ok (.iconst 0, 1) := by decide +kernel
theorem dX9_ahead_30 : decode cX9_ahead 30 = .ok (.istore 4, 2) := by decide +kernel
theorem dX9_ahead_32 : decode cX9_ahead 32 = .ok (.iload 4, 2) := by decide +kernel
theorem dX9_ahead_34 : decode cX9_ahead 34 = .ok (.aload_n 0, 1) := by decide +kernel
theorem dX9_ahead_35 : decode cX9_ahead 35 = .ok (.getfield 129, 3) := by decide +kernel
theorem dX9_ahead_38 : decode cX9_ahead 38 = .ok (.if_icmp .gt 31, 3) := by decide +kernel
theorem dX9_ahead_41 : decode cX9_ahead 41 = .ok (.aload_n 0, 1) := by decide +kernel
theorem dX9_ahead_42 : decode cX9_ahead 42 = .ok (.iload 4, 2) := by decide +kernel
theorem dX9_ahead_44 : decode cX9_ahead 44 = .ok (.iload_n 1, 1) := by decide +kernel
theorem dX9_ahead_45 : decode cX9_ahead 45 = .ok (.invokevirtual 157, 3) := by decide +kernel
theorem dX9_ahead_48 : decode cX9_ahead 48 = .ok (.iconst 1, 1) := by decide +kernel
theorem dX9_ahead_49 : decode cX9_ahead 49 = .ok (.iadd, 1) := by decide +kernel
theorem dX9_ahead_50 : decode cX9_ahead 50 = .ok (.aload_n 0, 1) := by decide +kernel
theorem dX9_ahead_51 : decode cX9_ahead 51 = .ok (.iload 4, 2) := by decide +kernel
theorem dX9_ahead_53 : decode cX9_ahead 53 = .ok (.iload_n 2, 1) := by decide +kernel
theorem dX9_ahead_54 : decode cX9_ahead 54 = .ok (.invokevirtual 157, 3) := by decide +kernel
theorem dX9_ahead_57 : decode cX9_ahead 57 = .ok (.if_icmp .ne 6, 3) := by decide +kernel
theorem dX9_ahead_60 : decode cX9_ahead 60 = .ok (.iinc 3 1, 3) := by decide +kernel
theorem dX9_ahead_63 : decode cX9_ahead 63 = .ok (.iinc 4 1, 3) := by decide +kernel
theorem dX9_ahead_66 : decode cX9_ahead 66 = .ok (.goto (-34), 3) := by decide +kernel
theorem dX9_ahead_69 : decode cX9_ahead 69 = .ok (.iload_n 3, 1) := by decide +kernel
theorem dX9_ahead_70 : decode cX9_ahead 70 = .ok (.ireturn, 1) := by decide +kernel
set_option maxRecDepth 20000 in
theorem ggX9_see_X9_within : GoodIn wsX9_see wsX9_within := goodIn_r _ [5] (by decide +kernel) (by decide +kernel)
set_option maxRecDepth 20000 in
theorem gX9_see_X9_within : GoodIn wsX9_see (va_wsS RX9 56 yX9_within wsX9_within) := goodIn_app (goodIn_of _ (by decide +kernel)) ggX9_see_X9_within
set_option maxRecDepth 20000 in
theorem ggX9_see_X9_isPlace : GoodIn wsX9_see wsX9_isPlace := goodIn_r _ [9, 1, 2, 3, 4, 5, 10, 11, 12, 13, 14, 15, 16, 17, 18, 19, 20, 21, 22, 23, 24, 25, 26, 27, 28, 29] (by decide +kernel) (by decide +kernel)
set_option maxRecDepth 20000 in
theorem gX9_see_X9_isPlace : GoodIn wsX9_see (wsV RX9 154 RX9 yX9_isPlace wsX9_isPlace) := goodIn_app (goodIn_of _ (by decide +kernel)) ggX9_see_X9_isPlace
theorem dX9_see_0 : decode cX9_see 0 = .ok (.iload_n 1, 1) := by decide +kernel
theorem dX9_see_1 : decode cX9_see 1 = .ok (.iconst (-1), 1) := by decide +kernel
theorem dX9_see_2 : decode cX9_see 2 = .ok (.if_icmp .ne 12, 3) := by decide +kernel
theorem dX9_see_5 : decode cX9_see 5 = .ok (.aload_n 0, 1) := by decide +kernel
theorem dX9_see_6 : decode cX9_see 6 = .ok (.getfield 9, 3) := by decide +kernel
theorem dX9_see_9 : decode cX9_see 9 = .ok (.iconst 5, 1) := by decide +kernel
theorem dX9_see_10 : decode cX9_see 10 = .ok (.iconst 0, 1) := by decide +kernel
theorem dX9_see_11 : decode cX9_see 11 = .ok (.iastore, 1) := by decide +kernel
theorem dX9_see_12 : decode cX9_see 12 = .ok (.iconst 0, 1) := by decide +kernel
theorem dX9_see_13 : decode cX9_see 13 = .ok (.ireturn, 1) := by decide +kernel
theorem dX9_see_14 : decode cX9_see 14 = .ok (.iload_n 1, 1) := by decide +kernel
theorem dX9_see_15 : decode cX9_see 15 = .ok (.iconst 0, 1) := by decide +kernel
theorem dX9_see_16 : decode cX9_see 16 = .ok (.sipush 192, 3) := by decide +kernel
theorem dX9_see_19 : decode cX9_see 19 = .ok (.invokestatic 56, 3) := by decide +kernel
theorem dX9_see_22 : decode cX9_see 22 = .ok (.ifCond .eq 19, 3) := by decide +kernel
theorem dX9_see_25 : decode cX9_see 25 = .ok (.aload_n 0, 1) := by decide +kernel
theorem dX9_see_26 : decode cX9_see 26 = .ok (.iload_n 2, 1) := by decide +kernel
theorem dX9_see_27 : decode cX9_see 27 = .ok (.invokevirtual 154, 3) := by decide +kernel
theorem dX9_see_30 : decode cX9_see 30 = .ok (.ifCond .eq 11, 3) := by decide +kernel
theorem dX9_see_33 : decode cX9_see 33 = .ok (.aload_n 0, 1) := by decide +kernel
theorem dX9_see_34 : decode cX9_see 34 = .ok (.iload_n 3, 1) := by decide +kernel
theorem dX9_see_35 : decode cX9_see 35 = .ok (.invokevirtual 154, 3) := by decide +kernel
theorem dX9_see_38 : decode cX9_see 38 = .ok (.ifCond .ne 5, 3) := by decide +kernel
theorem dX9_see_41 : decode cX9_see 41 = .ok (.iconst (-1), 1) := by decide +kernel
theorem dX9_see_42 : decode cX9_see 42 = .ok (.ireturn, 1) := by decide +kernel
theorem dX9_see_43 : decode cX9_see 43 = .ok (.aload_n 0, 1) := by decide +kernel
theorem dX9_see_44 : decode cX9_see 44 = .ok (.getfield 9, 3) := by decide +kernel
theorem dX9_see_47 : decode cX9_see 47 = .ok (.iconst 5, 1) := by decide +kernel
theorem dX9_see_48 : decode cX9_see 48 = .ok (.iaload, 1) := by decide +kernel
theorem dX9_see_49 : decode cX9_see 49 = .ok (.iconst 5, 1) := by decide +kernel
theorem dX9_see_50 : decode cX9_see 50 = .ok (.if_icmp .ne 6, 3) := by decide +kernel
theorem dX9_see_53 : decode cX9_see 53 = .ok (.bipush (-4), 2) := by decide +kernel
theorem dX9_see_55 : decode cX9_see 55 = .ok (.ireturn, 1) := by decide +kernel
theorem dX9_see_56 : decode cX9_see 56 = .ok (.bipush 44, 2) := by decide +kernel
theorem dX9_see_58 : decode cX9_see 58 = .ok (.iconst 3, 1) := by decide +kernel
theorem dX9_see_59 : decode cX9_see 59 = .ok (.aload_n 0, 1) := by decide +kernel
theorem dX9_see_60 : decode cX9_see 60 = .ok (.getfield 9, 3) := by decide +kernel
theorem dX9_see_63 : decode cX9_see 63 = .ok (.iconst 5, 1) := by decide +kernel
theorem dX9_see_64 : decode cX9_see 64 = .ok (.iaload, 1) := by decide +kernel
theorem dX9_see_65 : decode cX9_see 65 = .ok (.imul, 1) := by decide +kernel
theorem dX9_see_66 : decode cX9_see 66 = .ok (.iadd, 1) := by decide +kernel
theorem dX9_see_67 : decode cX9_see 67 = .ok (.istore 4, 2) := by decide +kernel
theorem dX9_see_69 : decode cX9_see 69 = .ok (.aload_n 0, 1) := by decide +kernel
theorem dX9_see_70 : decode cX9_see 70 = .ok (.getfield 9, 3) := by decide +kernel
theorem dX9_see_73 : decode cX9_see 73 = .ok (.iload 4, 2) := by decide +kernel
theorem dX9_see_75 : decode cX9_see 75 = .ok (.iload_n 1, 1) := by decide +kernel
theorem dX9_see_76 : decode cX9_see 76 = .ok (.iastore, 1) := by decide +kernel
theorem dX9_see_77 : decode cX9_see 77 = .ok (.aload_n 0, 1) := by decide +kernel
theorem dX9_see_78 : decode cX9_see 78 = .ok (.getfield 9, 3) := by decide +kernel
theorem dX9_see_81 : decode cX9_see 81 = .ok (.iload 4, 2) := by decide +kernel
theorem dX9_see_83 : decode cX9_see 83 = .ok (.iconst 1, 1) := by decide +kernel
theorem dX9_see_84 : decode cX9_see 84 = .ok (.iadd, 1) := by decide +kernel
theorem dX9_see_85 : decode cX9_see 85 = .ok (.iload_n 2, 1) := by decide +kernel
theorem dX9_see_86 : decode cX9_see 86 = .ok (.iastore, 1) := by decide +kernel
theorem dX9_see_87 : decode cX9_see 87 = .ok (.aload_n 0, 1) := by decide +kernel
theorem dX9_see_88 : decode cX9_see 88 = .ok (.getfield 9, 3) := by decide +kernel
theorem dX9_see_91 : decode cX9_see 91 = .ok (.iload 4, 2) := by decide +kernel
theorem dX9_see_93 : decode cX9_see 93 = .ok (.iconst 2, 1) := by decide +kernel
theorem dX9_see_94 : decode cX9_see 94 = .ok (.iadd, 1) := by decide +kernel
theorem dX9_see_95 : decode cX9_see 95 = .ok (.iload_n 3, 1) := by decide +kernel
theorem dX9_see_96 : decode cX9_see 96 = .ok (.iastore, 1) := by decide +kernel
theorem dX9_see_97 : decode cX9_see 97 = .ok (.aload_n 0, 1) := by decide +kernel
theorem dX9_see_98 : decode cX9_see 98 = .ok (.getfield 9, 3) := by decide +kernel
theorem dX9_see_101 : decode cX9_see 101 = .ok (.iconst 5, 1) := by decide +kernel
theorem dX9_see_102 : decode cX9_see 102 = .ok (.dup2, 1) := by decide +kernel
theorem dX9_see_103 : decode cX9_see 103 = .ok (.iaload, 1) := by decide +kernel
theorem dX9_see_104 : decode cX9_see 104 = .ok (.iconst 1, 1) := by decide +kernel
theorem dX9_see_105 : decode cX9_see 105 = .ok (.iadd, 1) := by decide +kernel
theorem dX9_see_106 : decode cX9_see 106 = .ok (.dup_x2, 1) := by decide +kernel
theorem dX9_see_107 : decode cX9_see 107 = .ok (.iastore, 1) := by decide +kernel
theorem dX9_see_108 : decode cX9_see 108 = .ok (.ireturn, 1) := by decide +kernel
theorem dX9_isSeen_0 : decode cX9_isSeen 0 = .ok (.iconst 0, 1) := by decide +kernel
theorem dX9_isSeen_1 : decode cX9_isSeen 1 = .ok (.istore_n 1, 1) := by decide +kernel
theorem dX9_isSeen_2 : decode cX9_isSeen 2 = .ok (.iload_n 1, 1) := by decide +kernel
theorem dX9_isSeen_3 : decode cX9_isSeen 3 = .ok (.aload_n 0, 1) := by decide +kernel
theorem dX9_isSeen_4 : decode cX9_isSeen 4 = .ok (.getfield 9, 3) := by decide +kernel
theorem dX9_isSeen_7 : decode cX9_isSeen 7 = .ok (.iconst 5, 1) := by decide +kernel
theorem dX9_isSeen_8 : decode cX9_isSeen 8 = .ok (.iaload, 1) := by decide +kernel
theorem dX9_isSeen_9 : decode cX9_isSeen 9 = .ok (.if_icmp .ge 67, 3) := by decide +kernel
theorem dX9_isSeen_12 : decode cX9_isSeen 12 = .ok (.bipush 44, 2) := by decide +kernel
theorem dX9_isSeen_14 : decode cX9_isSeen 14 = .ok (.iconst 3, 1) := by decide +kernel
theorem dX9_isSeen_15 : decode cX9_isSeen 15 = .ok (.iload_n 1, 1) := by decide +kernel
theorem dX9_isSeen_16 : decode cX9_isSeen 16 = .ok (.imul, 1) := by decide +kernel
theorem dX9_isSeen_17 : decode cX9_isSeen 17 = .ok (.iadd, 1) := by decide +kernel
theorem dX9_isSeen_18 : decode cX9_isSeen 18 = .ok (.istore_n 2, 1) := by decide +kernel
theorem dX9_isSeen_19 : decode cX9_isSeen 19 = .ok (.aload_n 0, 1) := by decide +kernel
theorem dX9_isSeen_20 : decode cX9_isSeen 20 = .ok (.getfield 9, 3) := by decide +kernel
theorem dX9_isSeen_23 : decode cX9_isSeen 23 = .ok (.iload_n 2, 1) := by decide +kernel
theorem dX9_isSeen_24 : decode cX9_isSeen 24 = .ok (.iaload, 1) := by decide +kernel
theorem dX9_isSeen_25 : decode cX9_isSeen 25 = .ok (.aload_n 0, 1) := by decide +kernel
theorem dX9_isSeen_26 : decode cX9_isSeen 26 = .ok (.getfield 129, 3) := by decide +kernel
theorem dX9_isSeen_29 : decode cX9_isSeen 29 = .ok (.if_icmp .gt 41, 3) := by decide +kernel
