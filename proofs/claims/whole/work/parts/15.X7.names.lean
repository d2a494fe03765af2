set_option maxRecDepth 20000 in
theorem ggX7_init_X3_init : GoodIn wsX7_init wsX3_init := goodIn_r _ [17, 18, 2, 3, 4, 19, 28] (by decide +kernel) (by decide +kernel)
set_option maxRecDepth 20000 in
theorem gX7_init_X3_init_n33 : GoodIn wsX7_init (wsX3_init) := ggX7_init_X3_init
theorem dX7_init_0 : decode cX7_init 0 = .ok (.aload_n 0, 1) := by decide +kernel
theorem dX7_init_1 : decode cX7_init 1 = .ok (.invokespecial 3, 3) := by decide +kernel
theorem dX7_init_4 : decode cX7_init 4 = .ok (.aload_n 0, 1) := by decide +kernel
theorem dX7_init_5 : decode cX7_init 5 = .ok (.sipush 193, 3) := by decide +kernel
theorem dX7_init_8 : decode cX7_init 8 = .ok (.newarray .int, 2) := by decide +kernel
theorem dX7_init_10 : decode cX7_init 10 = .ok (.putfield 9, 3) := by decide +kernel
theorem dX7_init_13 : decode cX7_init 13 = .ok (.aload_n 0, 1) := by decide +kernel
theorem dX7_init_14 : decode cX7_init 14 = .ok (.iconst 0, 1) := by decide +kernel
theorem dX7_init_15 : decode cX7_init 15 = .ok (.putfield 15, 3) := by decide +kernel
theorem dX7_init_18 : decode cX7_init 18 = .ok (.aload_n 0, 1) := by decide +kernel
theorem dX7_init_19 : decode cX7_init 19 = .ok (.iconst 0, 1) := by decide +kernel
theorem dX7_init_20 : decode cX7_init 20 = .ok (.putfield 19, 3) := by decide +kernel
theorem dX7_init_23 : decode cX7_init 23 = .ok (.aload_n 0, 1) := by decide +kernel
theorem dX7_init_24 : decode cX7_init 24 = .ok (.bipush 16, 2) := by decide +kernel
theorem dX7_init_26 : decode cX7_init 26 = .ok (.newarray .int, 2) := by decide +kernel
theorem dX7_init_28 : decode cX7_init 28 = .ok (.putfield 22, 3) := by decide +kernel
theorem dX7_init_31 : decode cX7_init 31 = .ok (.aload_n 0, 1) := by decide +kernel
theorem dX7_init_32 : decode cX7_init 32 = .ok (.iconst 3, 1) := by decide +kernel
theorem dX7_init_33 : decode cX7_init 33 = .ok (.newarray .int, 2) := by decide +kernel
theorem dX7_init_35 : decode cX7_init 35 = .ok (.putfield 25, 3) := by decide +kernel
theorem dX7_init_38 : decode cX7_init 38 = .ok (.aload_n 0, 1) := by decide +kernel
theorem dX7_init_39 : decode cX7_init 39 = .ok (.sipush 193, 3) := by decide +kernel
theorem dX7_init_42 : decode cX7_init 42 = .ok (.newarray .int, 2) := by decide +kernel
theorem dX7_init_44 : decode cX7_init 44 = .ok (.putfield 28, 3) := by decide +kernel
theorem dX7_init_47 : decode cX7_init 47 = .ok (.aload_n 0, 1) := by decide +kernel
theorem dX7_init_48 : decode cX7_init 48 = .ok (.new 31, 3) := by decide +kernel
theorem dX7_init_51 : decode cX7_init 51 = .ok (.dup, 1) := by decide +kernel
theorem dX7_init_52 : decode cX7_init 52 = .ok (.invokespecial 33, 3) := by decide +kernel
theorem dX7_init_55 : decode cX7_init 55 = .ok (.putfield 34, 3) := by decide +kernel
theorem dX7_init_58 : decode cX7_init 58 = .ok (.aload_n 0, 1) := by decide +kernel
theorem dX7_init_59 : decode cX7_init 59 = .ok (.iconst 0, 1) := by decide +kernel
theorem dX7_init_60 : decode cX7_init 60 = .ok (.putfield 38, 3) := by decide +kernel
theorem dX7_init_63 : decode cX7_init 63 = .ok (.return_, 1) := by decide +kernel
set_option maxRecDepth 20000 in
theorem ggX7_ring_X7_begin : GoodIn wsX7_ring wsX7_begin := goodIn_r _ [8, 9, 2, 10, 11, 12, 13, 14, 15, 16, 17, 18, 19, 20, 21, 22, 23, 24, 25, 26, 27, 28, 29, 30, 31, 32, 33, 41, 42, 43, 44, 45, 46, 47, 48, 49, 50, 51, 52, 53, 54, 55, 56, 57, 58, 59] (by decide +kernel) (by decide +kernel)
set_option maxRecDepth 20000 in
theorem gX7_ring_X7_begin : GoodIn wsX7_ring (wsV RX7 42 RX7 yX7_begin wsX7_begin) := goodIn_app (goodIn_of _ (by decide +kernel)) ggX7_ring_X7_begin
set_option maxRecDepth 20000 in
theorem ggX7_ring_X7_step : GoodIn wsX7_ring wsX7_step := goodIn_r _ [37, 15, 2, 13, 10, 14, 38, 39, 19, 40, 52, 53, 54, 55, 56, 57, 58, 59] (by decide +kernel) (by decide +kernel)
set_option maxRecDepth 20000 in
theorem gX7_ring_X7_step : GoodIn wsX7_ring (wsV RX7 54 RX7 yX7_step wsX7_step) := goodIn_app (goodIn_of _ (by decide +kernel)) ggX7_ring_X7_step
theorem dX7_ring_0 : decode cX7_ring 0 = .ok (.aload_n 0, 1) := by decide +kernel
theorem dX7_ring_1 : decode cX7_ring 1 = .ok (.aload_n 1, 1) := by decide +kernel
theorem dX7_ring_2 : decode cX7_ring 2 = .ok (.invokevirtual 42, 3) := by decide +kernel
theorem dX7_ring_5 : decode cX7_ring 5 = .ok (.iconst 0, 1) := by decide +kernel
theorem dX7_ring_6 : decode cX7_ring 6 = .ok (.istore_n 2, 1) := by decide +kernel
theorem dX7_ring_7 : decode cX7_ring 7 = .ok (.iload_n 2, 1) := by decide +kernel
theorem dX7_ring_8 : decode cX7_ring 8 = .ok (.aload_n 1, 1) := by decide +kernel
theorem dX7_ring_9 : decode cX7_ring 9 = .ok (.getfield 46, 3) := by decide +kernel
theorem dX7_ring_12 : decode cX7_ring 12 = .ok (.if_icmp .ge 36, 3) := by decide +kernel
theorem dX7_ring_15 : decode cX7_ring 15 = .ok (.iconst 0, 1) := by decide +kernel
theorem dX7_ring_16 : decode cX7_ring 16 = .ok (.istore_n 3, 1) := by decide +kernel
theorem dX7_ring_17 : decode cX7_ring 17 = .ok (.iload_n 3, 1) := by decide +kernel
theorem dX7_ring_18 : decode cX7_ring 18 = .ok (.aload_n 0, 1) := by decide +kernel
theorem dX7_ring_19 : decode cX7_ring 19 = .ok (.getfield 19, 3) := by decide +kernel
theorem dX7_ring_22 : decode cX7_ring 22 = .ok (.if_icmp .ge 20, 3) := by decide +kernel
theorem dX7_ring_25 : decode cX7_ring 25 = .ok (.aload_n 0, 1) := by decide +kernel
theorem dX7_ring_26 : decode cX7_ring 26 = .ok (.iload_n 3, 1) := by decide +kernel
theorem dX7_ring_27 : decode cX7_ring 27 = .ok (.aload_n 1, 1) := by decide +kernel
theorem dX7_ring_28 : decode cX7_ring 28 = .ok (.getfield 51, 3) := by decide +kernel
theorem dX7_ring_31 : decode cX7_ring 31 = .ok (.iload_n 2, 1) := by decide +kernel
theorem dX7_ring_32 : decode cX7_ring 32 = .ok (.iaload, 1) := by decide +kernel
theorem dX7_ring_33 : decode cX7_ring 33 = .ok (.invokevirtual 54, 3) := by decide +kernel
theorem dX7_ring_36 : decode cX7_ring 36 = .ok (.iinc 3 1, 3) := by decide +kernel
theorem dX7_ring_39 : decode cX7_ring 39 = .ok (.goto (-22), 3) := by decide +kernel
theorem dX7_ring_42 : decode cX7_ring 42 = .ok (.iinc 2 1, 3) := by decide +kernel
theorem dX7_ring_45 : decode cX7_ring 45 = .ok (.goto (-38), 3) := by decide +kernel
theorem dX7_ring_48 : decode cX7_ring 48 = .ok (.return_, 1) := by decide +kernel
set_option maxRecDepth 20000 in
theorem ggX7_begin_X2_pairs : GoodIn wsX7_begin wsX2_pairs := goodIn_r _ [13, 14, 15, 12, 16] (by decide +kernel) (by decide +kernel)
set_option maxRecDepth 20000 in
theorem gX7_begin_X2_pairs : GoodIn wsX7_begin (va_wsS RX7 65 yX2_pairs wsX2_pairs) := goodIn_app (goodIn_of _ (by decide +kernel)) ggX7_begin_X2_pairs
set_option maxRecDepth 20000 in
theorem ggX7_begin_X4_calledChange : GoodIn wsX7_begin wsX4_calledChange := goodIn_r _ [21, 22, 23, 27, 28, 29, 30, 31, 32, 33, 34, 35, 36, 37] (by decide +kernel) (by decide +kernel)
set_option maxRecDepth 20000 in
theorem gX7_begin_X4_calledChange : GoodIn wsX7_begin (wsV RX7 70 RX4 yX4_calledChange wsX4_calledChange) := goodIn_app (goodIn_of _ (by decide +kernel)) ggX7_begin_X4_calledChange
set_option maxRecDepth 20000 in
theorem ggX7_begin_X2_rounds : GoodIn wsX7_begin wsX2_rounds := goodIn_r _ [26] (by decide +kernel) (by decide +kernel)
set_option maxRecDepth 20000 in
theorem gX7_begin_X2_rounds : GoodIn wsX7_begin (va_wsS RX7 74 yX2_rounds wsX2_rounds) := goodIn_app (goodIn_of _ (by decide +kernel)) ggX7_begin_X2_rounds
theorem dX7_begin_0 : decode cX7_begin 0 = .ok (.aload_n 0, 1) := by decide +kernel
theorem dX7_begin_1 : decode cX7_begin 1 = .ok (.aload_n 1, 1) := by decide +kernel
theorem dX7_begin_2 : decode cX7_begin 2 = .ok (.getfield 58, 3) := by decide +kernel
theorem dX7_begin_5 : decode cX7_begin 5 = .ok (.putfield 19, 3) := by decide +kernel
theorem dX7_begin_8 : decode cX7_begin 8 = .ok (.iconst 0, 1) := by decide +kernel
theorem dX7_begin_9 : decode cX7_begin 9 = .ok (.istore_n 2, 1) := by decide +kernel
theorem dX7_begin_10 : decode cX7_begin 10 = .ok (.iload_n 2, 1) := by decide +kernel
theorem dX7_begin_11 : decode cX7_begin 11 = .ok (.aload_n 0, 1) := by decide +kernel
theorem dX7_begin_12 : decode cX7_begin 12 = .ok (.getfield 19, 3) := by decide +kernel
theorem dX7_begin_15 : decode cX7_begin 15 = .ok (.if_icmp .ge 28, 3) := by decide +kernel
theorem dX7_begin_18 : decode cX7_begin 18 = .ok (.aload_n 0, 1) := by decide +kernel
theorem dX7_begin_19 : decode cX7_begin 19 = .ok (.getfield 22, 3) := by decide +kernel
theorem dX7_begin_22 : decode cX7_begin 22 = .ok (.iload_n 2, 1) := by decide +kernel
theorem dX7_begin_23 : decode cX7_begin 23 = .ok (.aload_n 1, 1) := by decide +kernel
theorem dX7_begin_24 : decode cX7_begin 24 = .ok (.getfield 59, 3) := by decide +kernel
theorem dX7_begin_27 : decode cX7_begin 27 = .ok (.aload_n 1, 1) := by decide +kernel
theorem dX7_begin_28 : decode cX7_begin 28 = .ok (.getfield 62, 3) := by decide +kernel
theorem dX7_begin_31 : decode cX7_begin 31 = .ok (.iload_n 2, 1) := by decide +kernel
theorem dX7_begin_32 : decode cX7_begin 32 = .ok (.iaload, 1) := by decide +kernel
theorem dX7_begin_33 : decode cX7_begin 33 = .ok (.invokestatic 65, 3) := by decide +kernel
theorem dX7_begin_36 : decode cX7_begin 36 = .ok (.iastore, 1) := by decide +kernel
theorem dX7_begin_37 : decode cX7_begin 37 = .ok (.iinc 2 1, 3) := by decide +kernel
theorem dX7_begin_40 : decode cX7_begin 40 = .ok (.goto (-30), 3) := by decide +kernel
theorem dX7_begin_43 : decode cX7_begin 43 = .ok (.iconst 0, 1) := by decide +kernel
theorem dX7_begin_44 : decode cX7_begin 44 = .ok (.istore_n 2, 1) := by decide +kernel
theorem dX7_begin_45 : decode cX7_begin 45 = .ok (.iload_n 2, 1) := by decide +kernel
theorem dX7_begin_46 : decode cX7_begin 46 = .ok (.iconst 2, 1) := by decide +kernel
theorem dX7_begin_47 : decode cX7_begin 47 = .ok (.if_icmp .gt 55, 3) := by decide +kernel
theorem dX7_begin_50 : decode cX7_begin 50 = .ok (.aload_n 0, 1) := by decide +kernel
theorem dX7_begin_51 : decode cX7_begin 51 = .ok (.getfield 19, 3) := by decide +kernel
theorem dX7_begin_54 : decode cX7_begin 54 = .ok (.ifCond .le 48, 3) := by decide +kernel
theorem dX7_begin_57 : decode cX7_begin 57 = .ok (.aload_n 1, 1) := by decide +kernel
theorem dX7_begin_58 : decode cX7_begin 58 = .ok (.iload_n 2, 1) := by decide +kernel
theorem dX7_begin_59 : decode cX7_begin 59 = .ok (.invokevirtual 70, 3) := by decide +kernel
theorem dX7_begin_62 : decode cX7_begin 62 = .ok (.istore_n 3, 1) := by decide +kernel
theorem dX7_begin_63 : decode cX7_begin 63 = .ok (.aload_n 0, 1) := by decide +kernel
theorem dX7_begin_64 : decode cX7_begin 64 = .ok (.getfield 25, 3) := by decide +kernel
theorem dX7_begin_67 : decode cX7_begin 67 = .ok (.iload_n 2, 1) := by decide +kernel
theorem dX7_begin_68 : decode cX7_begin 68 = .ok (.iload_n 3, 1) := by decide +kernel
theorem dX7_begin_69 : decode cX7_begin 69 = .ok (.iconst (-1), 1) := by decide +kernel
theorem dX7_begin_70 : decode cX7_begin 70 = .ok (.if_icmp .ne 17, 3) := by decide +kernel
theorem dX7_begin_73 : decode cX7_begin 73 = .ok (.aload_n 0, 1) := by decide +kernel
theorem dX7_begin_74 : decode cX7_begin 74 = .ok (.getfield 22, 3) := by decide +kernel
theorem dX7_begin_77 : decode cX7_begin 77 = .ok (.aload_n 0, 1) := by decide +kernel
theorem dX7_begin_78 : decode cX7_begin 78 = .ok (.getfield 19, 3) := by decide +kernel
theorem dX7_begin_81 : decode cX7_begin 81 = .ok (.iconst 1, 1) := by decide +kernel
theorem dX7_begin_82 : decode cX7_begin 82 = .ok (.isub, 1) := by decide +kernel
theorem dX7_begin_83 : decode cX7_begin 83 = .ok (.iaload, 1) := by decide +kernel
theorem dX7_begin_84 : decode cX7_begin 84 = .ok (.goto 11, 3) := by decide +kernel
theorem dX7_begin_87 : decode cX7_begin 87 = .ok (.aload_n 1, 1) := by decide +kernel
theorem dX7_begin_88 : decode cX7_begin 88 = .ok (.getfield 59, 3) := by decide +kernel
theorem dX7_begin_91 : decode cX7_begin 91 = .ok (.iload_n 3, 1) := by decide +kernel
theorem dX7_begin_92 : decode cX7_begin 92 = .ok (.invokestatic 65, 3) := by decide +kernel
theorem dX7_begin_95 : decode cX7_begin 95 = .ok (.iastore, 1) := by decide +kernel
theorem dX7_begin_96 : decode cX7_begin 96 = .ok (.iinc 2 1, 3) := by decide +kernel
theorem dX7_begin_99 : decode cX7_begin 99 = .ok (.goto (-54), 3) := by decide +kernel
theorem dX7_begin_102 : decode cX7_begin 102 = .ok (.aload_n 0, 1) := by decide +kernel
theorem dX7_begin_103 : decode cX7_begin 103 = .ok (.getfield 9, 3) := by decide +kernel
theorem dX7_begin_106 : decode cX7_begin 106 = .ok (.iconst 0, 1) := by decide +kernel
theorem dX7_begin_107 : decode cX7_begin 107 = .ok (.aload_n 1, 1) := by decide +kernel
theorem dX7_begin_108 : decode cX7_begin 108 = .ok (.getfield 59, 3) := by decide +kernel
theorem dX7_begin_111 : decode cX7_begin 111 = .ok (.invokestatic 74, 3) := by decide +kernel
theorem dX7_begin_114 : decode cX7_begin 114 = .ok (.iastore, 1) := by decide +kernel
theorem dX7_begin_115 : decode cX7_begin 115 = .ok (.aload_n 0, 1) := by decide +kernel
theorem dX7_begin_116 : decode cX7_begin 116 = .ok (.iconst 0, 1) := by decide +kernel
theorem dX7_begin_117 : decode cX7_begin 117 = .ok (.putfield 15, 3) := by decide +kernel
theorem dX7_begin_120 : decode cX7_begin 120 = .ok (.aload_n 0, 1) := by decide +kernel
theorem dX7_begin_121 : decode cX7_begin 121 = .ok (.iconst 0, 1) := by decide +kernel
theorem dX7_begin_122 : decode cX7_begin 122 = .ok (.putfield 38, 3) := by decide +kernel
theorem dX7_begin_125 : decode cX7_begin 125 = .ok (.return_, 1) := by decide +kernel
set_option maxRecDepth 20000 in
theorem ggX7_step_X2_swapped : GoodIn wsX7_step wsX2_swapped := goodIn_r _ [9] (by decide +kernel) (by decide +kernel)
set_option maxRecDepth 20000 in
theorem gX7_step_X2_swapped : GoodIn wsX7_step (va_wsS RX7 77 yX2_swapped wsX2_swapped) := goodIn_app (goodIn_of _ (by decide +kernel)) ggX7_step_X2_swapped
theorem dX7_step_0 : decode cX7_step 0 = .ok (.aload_n 0, 1) := by decide +kernel
theorem dX7_step_1 : decode cX7_step 1 = .ok (.getfield 15, 3) := by decide +kernel
theorem dX7_step_4 : decode cX7_step 4 = .ok (.sipush 192, 3) := by decide +kernel
theorem dX7_step_7 : decode cX7_step 7 = .ok (.if_icmp .ge 63, 3) := by decide +kernel
theorem dX7_step_10 : decode cX7_step 10 = .ok (.iload_n 1, 1) := by decide +kernel
theorem dX7_step_11 : decode cX7_step 11 = .ok (.aload_n 0, 1) := by decide +kernel
theorem dX7_step_12 : decode cX7_step 12 = .ok (.getfield 19, 3) := by decide +kernel
theorem dX7_step_15 : decode cX7_step 15 = .ok (.iconst 1, 1) := by decide +kernel
theorem dX7_step_16 : decode cX7_step 16 = .ok (.isub, 1) := by decide +kernel
theorem dX7_step_17 : decode cX7_step 17 = .ok (.if_icmp .ne 12, 3) := by decide +kernel
theorem dX7_step_20 : decode cX7_step 20 = .ok (.aload_n 0, 1) := by decide +kernel
theorem dX7_step_21 : decode cX7_step 21 = .ok (.getfield 25, 3) := by decide +kernel
theorem dX7_step_24 : decode cX7_step 24 = .ok (.iload_n 2, 1) := by decide +kernel
theorem dX7_step_25 : decode cX7_step 25 = .ok (.iaload, 1) := by decide +kernel
theorem dX7_step_26 : decode cX7_step 26 = .ok (.goto 9, 3) := by decide +kernel
theorem dX7_step_29 : decode cX7_step 29 = .ok (.aload_n 0, 1) := by decide +kernel
theorem dX7_step_30 : decode cX7_step 30 = .ok (.getfield 22, 3) := by decide +kernel
theorem dX7_step_33 : decode cX7_step 33 = .ok (.iload_n 1, 1) := by decide +kernel
theorem dX7_step_34 : decode cX7_step 34 = .ok (.iaload, 1) := by decide +kernel
theorem dX7_step_35 : decode cX7_step 35 = .ok (.istore_n 3, 1) := by decide +kernel
theorem dX7_step_36 : decode cX7_step 36 = .ok (.aload_n 0, 1) := by decide +kernel
theorem dX7_step_37 : decode cX7_step 37 = .ok (.getfield 9, 3) := by decide +kernel
theorem dX7_step_40 : decode cX7_step 40 = .ok (.aload_n 0, 1) := by decide +kernel
theorem dX7_step_41 : decode cX7_step 41 = .ok (.getfield 15, 3) := by decide +kernel
theorem dX7_step_44 : decode cX7_step 44 = .ok (.iconst 1, 1) := by decide +kernel
theorem dX7_step_45 : decode cX7_step 45 = .ok (.iadd, 1) := by decide +kernel
theorem dX7_step_46 : decode cX7_step 46 = .ok (.aload_n 0, 1) := by decide +kernel
theorem dX7_step_47 : decode cX7_step 47 = .ok (.getfield 9, 3) := by decide +kernel
theorem dX7_step_50 : decode cX7_step 50 = .ok (.aload_n 0, 1) := by decide +kernel
theorem dX7_step_51 : decode cX7_step 51 = .ok (.getfield 15, 3) := by decide +kernel
theorem dX7_step_54 : decode cX7_step 54 = .ok (.iaload, 1) := by decide +kernel
theorem dX7_step_55 : decode cX7_step 55 = .ok (.iload_n 3, 1) := by decide +kernel
theorem dX7_step_56 : decode cX7_step 56 = .ok (.invokestatic 77, 3) := by decide +kernel
theorem dX7_step_59 : decode cX7_step 59 = .ok (.iastore, 1) := by decide +kernel
theorem dX7_step_60 : decode cX7_step 60 = .ok (.aload_n 0, 1) := by decide +kernel
theorem dX7_step_61 : decode cX7_step 61 = .ok (.dup, 1) := by decide +kernel
theorem dX7_step_62 : decode cX7_step 62 = .ok (.getfield 15, 3) := by decide +kernel
theorem dX7_step_65 : decode cX7_step 65 = .ok (.iconst 1, 1) := by decide +kernel
theorem dX7_step_66 : decode cX7_step 66 = .ok (.iadd, 1) := by decide +kernel
theorem dX7_step_67 : decode cX7_step 67 = .ok (.putfield 15, 3) := by decide +kernel
theorem dX7_step_70 : decode cX7_step 70 = .ok (.return_, 1) := by decide +kernel
set_option maxRecDepth 20000 in
theorem ggX7_firstAs_X7_compare : GoodIn wsX7_firstAs wsX7_compare := goodIn_r _ [6, 7, 8, 1, 9, 10, 11, 12, 13, 14, 15, 16, 17, 18, 19, 20, 21, 22, 23, 24, 25, 26, 27, 28, 29, 30, 31, 32, 33] (by decide +kernel) (by decide +kernel)
set_option maxRecDepth 20000 in
theorem gX7_firstAs_X7_compare : GoodIn wsX7_firstAs (wsV RX7 80 RX7 yX7_compare wsX7_compare) := goodIn_app (goodIn_of _ (by decide +kernel)) ggX7_firstAs_X7_compare
theorem dX7_firstAs_0 : decode cX7_firstAs 0 = .ok (.aload_n 0, 1) := by decide +kernel
theorem dX7_firstAs_1 : decode cX7_firstAs 1 = .ok (.invokevirtual 80, 3) := by decide +kernel
theorem dX7_firstAs_4 : decode cX7_firstAs 4 = .ok (.aload_n 0, 1) := by decide +kernel
theorem dX7_firstAs_5 : decode cX7_firstAs 5 = .ok (.getfield 28, 3) := by decide +kernel
theorem dX7_firstAs_8 : decode cX7_firstAs 8 = .ok (.iload_n 1, 1) := by decide +kernel
theorem dX7_firstAs_9 : decode cX7_firstAs 9 = .ok (.iaload, 1) := by decide +kernel
theorem dX7_firstAs_10 : decode cX7_firstAs 10 = .ok (.ireturn, 1) := by decide +kernel
set_option maxRecDepth 20000 in
theorem ggX7_roundRow_X7_compare : GoodIn wsX7_roundRow wsX7_compare := goodIn_r _ [7, 8, 1, 2, 9, 10, 11, 12, 13, 14, 15, 16, 17, 18, 19, 20, 21, 22, 23, 24, 25, 26, 27, 28, 29, 30, 31, 32, 33] (by decide +kernel) (by decide +kernel)
set_option maxRecDepth 20000 in
theorem gX7_roundRow_X7_compare : GoodIn wsX7_roundRow (wsV RX7 80 RX7 yX7_compare wsX7_compare) := goodIn_app (goodIn_of _ (by decide +kernel)) ggX7_roundRow_X7_compare
theorem dX7_roundRow_0 : decode cX7_roundRow 0 = .ok (.aload_n 0, 1) := by decide +kernel
theorem dX7_roundRow_1 : decode cX7_roundRow 1 = .ok (.invokevirtual 80, 3) := by decide +kernel
theorem dX7_roundRow_4 : decode cX7_roundRow 4 = .ok (.iconst 1, 1) := by decide +kernel
theorem dX7_roundRow_5 : decode cX7_roundRow 5 = .ok (.istore_n 1, 1) := by decide +kernel
theorem dX7_roundRow_6 : decode cX7_roundRow 6 = .ok (.iload_n 1, 1) := by decide +kernel
theorem dX7_roundRow_7 : decode cX7_roundRow 7 = .ok (.aload_n 0, 1) := by decide +kernel
theorem dX7_roundRow_8 : decode cX7_roundRow 8 = .ok (.getfield 15, 3) := by decide +kernel
theorem dX7_roundRow_11 : decode cX7_roundRow 11 = .ok (.if_icmp .gt 20, 3) := by decide +kernel
theorem dX7_roundRow_14 : decode cX7_roundRow 14 = .ok (.aload_n 0, 1) := by decide +kernel
theorem dX7_roundRow_15 : decode cX7_roundRow 15 = .ok (.getfield 28, 3) := by decide +kernel
theorem dX7_roundRow_18 : decode cX7_roundRow 18 = .ok (.iload_n 1, 1) := by decide +kernel
theorem dX7_roundRow_19 : decode cX7_roundRow 19 = .ok (.iaload, 1) := by decide +kernel
theorem dX7_roundRow_20 : decode cX7_roundRow 20 = .ok (.ifCond .ne 5, 3) := by decide +kernel
theorem dX7_roundRow_23 : decode cX7_roundRow 23 = .ok (.iload_n 1, 1) := by decide +kernel
theorem dX7_roundRow_24 : decode cX7_roundRow 24 = .ok (.ireturn, 1) := by decide +kernel
theorem dX7_roundRow_25 : decode cX7_roundRow 25 = .ok (.iinc 1 1, 3) := by decide +kernel
theorem dX7_roundRow_28 : decode cX7_roundRow 28 = .ok (.goto (-22), 3) := by decide +kernel
theorem dX7_roundRow_31 : decode cX7_roundRow 31 = .ok (.bipush (-5), 2) := by decide +kernel
theorem dX7_roundRow_33 : decode cX7_roundRow 33 = .ok (.ireturn, 1) := by decide +kernel
set_option maxRecDepth 20000 in
theorem ggX7_falseRow_X7_compare : GoodIn wsX7_falseRow wsX7_compare := goodIn_r _ [7, 8, 1, 2, 9, 10, 11, 12, 13, 14, 15, 16, 17, 18, 19, 20, 21, 22, 23, 24, 25, 26, 27, 28, 29, 30, 31, 32, 33] (by decide +kernel) (by decide +kernel)
set_option maxRecDepth 20000 in
theorem gX7_falseRow_X7_compare : GoodIn wsX7_falseRow (wsV RX7 80 RX7 yX7_compare wsX7_compare) := goodIn_app (goodIn_of _ (by decide +kernel)) ggX7_falseRow_X7_compare
theorem dX7_falseRow_0 : decode cX7_falseRow 0 = .ok (.aload_n 0, 1) := by decide +kernel
theorem dX7_falseRow_1 : decode cX7_falseRow 1 = .ok (.invokevirtual 80, 3) := by decide +kernel
theorem dX7_falseRow_4 : decode cX7_falseRow 4 = .ok (.iconst 1, 1) := by decide +kernel
theorem dX7_falseRow_5 : decode cX7_falseRow 5 = .ok (.istore_n 1, 1) := by decide +kernel
theorem dX7_falseRow_6 : decode cX7_falseRow 6 = .ok (.iload_n 1, 1) := by decide +kernel
theorem dX7_falseRow_7 : decode cX7_falseRow 7 = .ok (.aload_n 0, 1) := by decide +kernel
theorem dX7_falseRow_8 : decode cX7_falseRow 8 = .ok (.getfield 15, 3) := by decide +kernel
theorem dX7_falseRow_11 : decode cX7_falseRow 11 = .ok (.if_icmp .gt 48, 3) := by decide +kernel
theorem dX7_falseRow_14 : decode cX7_falseRow 14 = .ok (.iload_n 1, 1) := by decide +kernel
theorem dX7_falseRow_15 : decode cX7_falseRow 15 = .ok (.aload_n 0, 1) := by decide +kernel
theorem dX7_falseRow_16 : decode cX7_falseRow 16 = .ok (.getfield 15, 3) := by decide +kernel
theorem dX7_falseRow_19 : decode cX7_falseRow 19 = .ok (.if_icmp .ne 16, 3) := by decide +kernel
theorem dX7_falseRow_22 : decode cX7_falseRow 22 = .ok (.aload_n 0, 1) := by decide +kernel
theorem dX7_falseRow_23 : decode cX7_falseRow 23 = .ok (.getfield 28, 3) := by decide +kernel
theorem dX7_falseRow_26 : decode cX7_falseRow 26 = .ok (.iload_n 1, 1) := by decide +kernel
theorem dX7_falseRow_27 : decode cX7_falseRow 27 = .ok (.iaload, 1) := by decide +kernel
theorem dX7_falseRow_28 : decode cX7_falseRow 28 = .ok (.ifCond .ne 7, 3) := by decide +kernel
theorem dX7_falseRow_31 : decode cX7_falseRow 31 = .ok (.iconst 1, 1) := by decide +kernel
theorem dX7_falseRow_32 : decode cX7_falseRow 32 = .ok (.goto 4, 3) := by decide +kernel
theorem dX7_falseRow_35 : decode cX7_falseRow 35 = .ok (.iconst 0, 1) := by decide +kernel
theorem dX7_falseRow_36 : decode cX7_falseRow 36 = .ok (.istore_n 2, 1) := by decide +kernel
theorem dX7_falseRow_37 : decode cX7_falseRow 37 = .ok (.aload_n 0, 1) := by decide +kernel
theorem dX7_falseRow_38 : decode cX7_falseRow 38 = .ok (.getfield 28, 3) := by decide +kernel
theorem dX7_falseRow_41 : decode cX7_falseRow 41 = .ok (.iload_n 1, 1) := by decide +kernel
theorem dX7_falseRow_42 : decode cX7_falseRow 42 = .ok (.iaload, 1) := by decide +kernel
theorem dX7_falseRow_43 : decode cX7_falseRow 43 = .ok (.iload_n 1, 1) := by decide +kernel
theorem dX7_falseRow_44 : decode cX7_falseRow 44 = .ok (.if_icmp .eq 9, 3) := by decide +kernel
theorem dX7_falseRow_47 : decode cX7_falseRow 47 = .ok (.iload_n 2, 1) := by decide +kernel
theorem dX7_falseRow_48 : decode cX7_falseRow 48 = .ok (.ifCond .ne 5, 3) := by decide +kernel
theorem dX7_falseRow_51 : decode cX7_falseRow 51 = .ok (.iload_n 1, 1) := by decide +kernel
theorem dX7_falseRow_52 : decode cX7_falseRow 52 = .ok (.ireturn, 1) := by decide +kernel
theorem dX7_falseRow_53 : decode cX7_falseRow 53 = .ok (.iinc 1 1, 3) := by decide +kernel
theorem dX7_falseRow_56 : decode cX7_falseRow 56 = .ok (.goto (-50), 3) := by decide +kernel
theorem dX7_falseRow_59 : decode cX7_falseRow 59 = .ok (.bipush (-5), 2) := by decide +kernel
theorem dX7_falseRow_61 : decode cX7_falseRow 61 = .ok (.ireturn, 1) := by decide +kernel
set_option maxRecDepth 20000 in
theorem ggX7_isTrue_X7_falseRow : GoodIn wsX7_isTrue wsX7_falseRow := goodIn_r _ [7, 1, 8, 9, 10, 11, 6, 12, 13, 14, 2, 15, 16, 17, 18, 19, 20, 21, 22, 23, 24, 25, 26, 27, 28, 29, 30, 31, 32, 33, 34, 35, 36, 37] (by decide +kernel) (by decide +kernel)
set_option maxRecDepth 20000 in
theorem gX7_isTrue_X7_falseRow : GoodIn wsX7_isTrue (wsV RX7 83 RX7 yX7_falseRow wsX7_falseRow) := goodIn_app (goodIn_of _ (by decide +kernel)) ggX7_isTrue_X7_falseRow
theorem dX7_isTrue_0 : decode cX7_isTrue 0 = .ok (.aload_n 0, 1) := by decide +kernel
theorem dX7_isTrue_1 : decode cX7_isTrue 1 = .ok (.getfield 15, 3) := by decide +kernel
theorem dX7_isTrue_4 : decode cX7_isTrue 4 = .ok (.ifCond .le 34, 3) := by decide +kernel
theorem dX7_isTrue_7 : decode cX7_isTrue 7 = .ok (.aload_n 0, 1) := by decide +kernel
theorem dX7_isTrue_8 : decode cX7_isTrue 8 = .ok (.getfield 9, 3) := by decide +kernel
theorem dX7_isTrue_11 : decode cX7_isTrue 11 = .ok (.aload_n 0, 1) := by decide +kernel
theorem dX7_isTrue_12 : decode cX7_isTrue 12 = .ok (.getfield 15, 3) := by decide +kernel
theorem dX7_isTrue_15 : decode cX7_isTrue 15 = .ok (.iaload, 1) := by decide +kernel
theorem dX7_isTrue_16 : decode cX7_isTrue 16 = .ok (.aload_n 0, 1) := by decide +kernel
theorem dX7_isTrue_17 : decode cX7_isTrue 17 = .ok (.getfield 9, 3) := by decide +kernel
theorem dX7_isTrue_20 : decode cX7_isTrue 20 = .ok (.iconst 0, 1) := by decide +kernel
theorem dX7_isTrue_21 : decode cX7_isTrue 21 = .ok (.iaload, 1) := by decide +kernel
theorem dX7_isTrue_22 : decode cX7_isTrue 22 = .ok (.if_icmp .ne 16, 3) := by decide +kernel
theorem dX7_isTrue_25 : decode cX7_isTrue 25 = .ok (.aload_n 0, 1) := by decide +kernel
theorem dX7_isTrue_26 : decode cX7_isTrue 26 = .ok (.invokevirtual 83, 3) := by decide +kernel
theorem dX7_isTrue_29 : decode cX7_isTrue 29 = .ok (.bipush (-5), 2) := by decide +kernel
theorem dX7_isTrue_31 : decode cX7_isTrue 31 = .ok (.if_icmp .ne 7, 3) := by decide +kernel
theorem dX7_isTrue_34 : decode cX7_isTrue 34 = .ok (.iconst 1, 1) := by decide +kernel
theorem dX7_isTrue_35 : decode cX7_isTrue 35 = .ok (.goto 4, 3) := by decide +kernel
theorem dX7_isTrue_38 : decode cX7_isTrue 38 = .ok (.iconst 0, 1) := by decide +kernel
theorem dX7_isTrue_39 : decode cX7_isTrue 39 = .ok (.ireturn, 1) := by decide +kernel
set_option maxRecDepth 20000 in
theorem ggX7_course_X2_swapped : GoodIn wsX7_course wsX2_swapped := goodIn_r _ [7] (by decide +kernel) (by decide +kernel)
set_option maxRecDepth 20000 in
theorem gX7_course_X2_swapped : GoodIn wsX7_course (va_wsS RX7 77 yX2_swapped wsX2_swapped) := goodIn_app (goodIn_of _ (by decide +kernel)) ggX7_course_X2_swapped
theorem dX7_course_0 : decode cX7_course 0 = .ok (.aload_n 0, 1) := by decide +kernel
theorem dX7_course_1 : decode cX7_course 1 = .ok (.getfield 9, 3) := by decide +kernel
theorem dX7_course_4 : decode cX7_course 4 = .ok (.iconst 0, 1) := by decide +kernel
theorem dX7_course_5 : decode cX7_course 5 = .ok (.iaload, 1) := by decide +kernel
theorem dX7_course_6 : decode cX7_course 6 = .ok (.istore_n 1, 1) := by decide +kernel
theorem dX7_course_7 : decode cX7_course 7 = .ok (.iconst 1, 1) := by decide +kernel
theorem dX7_course_8 : decode cX7_course 8 = .ok (.istore_n 2, 1) := by decide +kernel
theorem dX7_course_9 : decode cX7_course 9 = .ok (.iload_n 2, 1) := by decide +kernel
theorem dX7_course_10 : decode cX7_course 10 = .ok (.bipush 15, 2) := by decide +kernel
theorem dX7_course_12 : decode cX7_course 12 = .ok (.if_icmp .gt 55, 3) := by decide +kernel
theorem dX7_course_15 : decode cX7_course 15 = .ok (.aload_n 0, 1) := by decide +kernel
theorem dX7_course_16 : decode cX7_course 16 = .ok (.getfield 19, 3) := by decide +kernel
theorem dX7_course_19 : decode cX7_course 19 = .ok (.ifCond .le 48, 3) := by decide +kernel
theorem dX7_course_22 : decode cX7_course 22 = .ok (.iconst 0, 1) := by decide +kernel
theorem dX7_course_23 : decode cX7_course 23 = .ok (.istore_n 3, 1) := by decide +kernel
theorem dX7_course_24 : decode cX7_course 24 = .ok (.iload_n 3, 1) := by decide +kernel
theorem dX7_course_25 : decode cX7_course 25 = .ok (.aload_n 0, 1) := by decide +kernel
theorem dX7_course_26 : decode cX7_course 26 = .ok (.getfield 19, 3) := by decide +kernel
theorem dX7_course_29 : decode cX7_course 29 = .ok (.if_icmp .ge 20, 3) := by decide +kernel
theorem dX7_course_32 : decode cX7_course 32 = .ok (.iload_n 1, 1) := by decide +kernel
theorem dX7_course_33 : decode cX7_course 33 = .ok (.aload_n 0, 1) := by decide +kernel
theorem dX7_course_34 : decode cX7_course 34 = .ok (.getfield 22, 3) := by decide +kernel
theorem dX7_course_37 : decode cX7_course 37 = .ok (.iload_n 3, 1) := by decide +kernel
theorem dX7_course_38 : decode cX7_course 38 = .ok (.iaload, 1) := by decide +kernel
theorem dX7_course_39 : decode cX7_course 39 = .ok (.invokestatic 77, 3) := by decide +kernel
theorem dX7_course_42 : decode cX7_course 42 = .ok (.istore_n 1, 1) := by decide +kernel
theorem dX7_course_43 : decode cX7_course 43 = .ok (.iinc 3 1, 3) := by decide +kernel
theorem dX7_course_46 : decode cX7_course 46 = .ok (.goto (-22), 3) := by decide +kernel
theorem dX7_course_49 : decode cX7_course 49 = .ok (.iload_n 1, 1) := by decide +kernel
theorem dX7_course_50 : decode cX7_course 50 = .ok (.aload_n 0, 1) := by decide +kernel
theorem dX7_course_51 : decode cX7_course 51 = .ok (.getfield 9, 3) := by decide +kernel
theorem dX7_course_54 : decode cX7_course 54 = .ok (.iconst 0, 1) := by decide +kernel
theorem dX7_course_55 : decode cX7_course 55 = .ok (.iaload, 1) := by decide +kernel
theorem dX7_course_56 : decode cX7_course 56 = .ok (.if_icmp .ne 5, 3) := by decide +kernel
theorem dX7_course_59 : decode cX7_course 59 = .ok (.iload_n 2, 1) := by decide +kernel
theorem dX7_course_60 : decode cX7_course 60 = .ok (.ireturn, 1) := by decide +kernel
theorem dX7_course_61 : decode cX7_course 61 = .ok (.iinc 2 1, 3) := by decide +kernel
theorem dX7_course_64 : decode cX7_course 64 = .ok (.goto (-55), 3) := by decide +kernel
theorem dX7_course_67 : decode cX7_course 67 = .ok (.iconst 0, 1) := by decide +kernel
theorem dX7_course_68 : decode cX7_course 68 = .ok (.ireturn, 1) := by decide +kernel
set_option maxRecDepth 20000 in
theorem ggX7_compare_X3_enter : GoodIn wsX7_compare wsX3_enter := goodIn_r _ [10, 11, 12, 13, 9, 14, 15, 28] (by decide +kernel) (by decide +kernel)
set_option maxRecDepth 20000 in
theorem gX7_compare_X3_enter : GoodIn wsX7_compare (wsV RX7 87 RX3 yX3_enter wsX3_enter) := goodIn_app (goodIn_of _ (by decide +kernel)) ggX7_compare_X3_enter
set_option maxRecDepth 20000 in
theorem ggX7_compare_X3_leave : GoodIn wsX7_compare wsX3_leave := goodIn_r _ [19, 11, 12, 13, 9, 14, 15, 28] (by decide +kernel) (by decide +kernel)
set_option maxRecDepth 20000 in
theorem gX7_compare_X3_leave : GoodIn wsX7_compare (wsV RX7 91 RX3 yX3_leave wsX3_leave) := goodIn_app (goodIn_of _ (by decide +kernel)) ggX7_compare_X3_leave
theorem dX7_compare_0 : decode cX7_compare 0 = .ok (.aload_n 0, 1) := by decide +kernel
theorem dX7_compare_1 : decode cX7_compare 1 = .ok (.getfield 38, 3) := by decide +kernel
theorem dX7_compare_4 : decode cX7_compare 4 = .ok (.ifCond .eq 4, 3) := by decide +kernel
theorem dX7_compare_7 : decode cX7_compare 7 = .ok (.return_, 1) := by decide +kernel
theorem dX7_compare_8 : decode cX7_compare 8 = .ok (.iconst 0, 1) := by decide +kernel
theorem dX7_compare_9 : decode cX7_compare 9 = .ok (.istore_n 1, 1) := by decide +kernel
theorem dX7_compare_10 : decode cX7_compare 10 = .ok (.iload_n 1, 1) := by decide +kernel
theorem dX7_compare_11 : decode cX7_compare 11 = .ok (.aload_n 0, 1) := by decide +kernel
theorem dX7_compare_12 : decode cX7_compare 12 = .ok (.getfield 15, 3) := by decide +kernel
theorem dX7_compare_15 : decode cX7_compare 15 = .ok (.if_icmp .gt 27, 3) := by decide +kernel
theorem dX7_compare_18 : decode cX7_compare 18 = .ok (.aload_n 0, 1) := by decide +kernel
theorem dX7_compare_19 : decode cX7_compare 19 = .ok (.getfield 28, 3) := by decide +kernel
theorem dX7_compare_22 : decode cX7_compare 22 = .ok (.iload_n 1, 1) := by decide +kernel
theorem dX7_compare_23 : decode cX7_compare 23 = .ok (.aload_n 0, 1) := by decide +kernel
theorem dX7_compare_24 : decode cX7_compare 24 = .ok (.getfield 34, 3) := by decide +kernel
theorem dX7_compare_27 : decode cX7_compare 27 = .ok (.aload_n 0, 1) := by decide +kernel
theorem dX7_compare_28 : decode cX7_compare 28 = .ok (.getfield 9, 3) := by decide +kernel
theorem dX7_compare_31 : decode cX7_compare 31 = .ok (.iload_n 1, 1) := by decide +kernel
theorem dX7_compare_32 : decode cX7_compare 32 = .ok (.invokevirtual 87, 3) := by decide +kernel
theorem dX7_compare_35 : decode cX7_compare 35 = .ok (.iastore, 1) := by decide +kernel
theorem dX7_compare_36 : decode cX7_compare 36 = .ok (.iinc 1 1, 3) := by decide +kernel
theorem dX7_compare_39 : decode cX7_compare 39 = .ok (.goto (-29), 3) := by decide +kernel
theorem dX7_compare_42 : decode cX7_compare 42 = .ok (.aload_n 0, 1) := by decide +kernel
theorem dX7_compare_43 : decode cX7_compare 43 = .ok (.getfield 15, 3) := by decide +kernel
theorem dX7_compare_46 : decode cX7_compare 46 = .ok (.istore_n 1, 1) := by decide +kernel
theorem dX7_compare_47 : decode cX7_compare 47 = .ok (.iload_n 1, 1) := by decide +kernel
theorem dX7_compare_48 : decode cX7_compare 48 = .ok (.ifCond .lt 21, 3) := by decide +kernel
theorem dX7_compare_51 : decode cX7_compare 51 = .ok (.aload_n 0, 1) := by decide +kernel
theorem dX7_compare_52 : decode cX7_compare 52 = .ok (.getfield 34, 3) := by decide +kernel
theorem dX7_compare_55 : decode cX7_compare 55 = .ok (.aload_n 0, 1) := by decide +kernel
theorem dX7_compare_56 : decode cX7_compare 56 = .ok (.getfield 9, 3) := by decide +kernel
theorem dX7_compare_59 : decode cX7_compare 59 = .ok (.iload_n 1, 1) := by decide +kernel
theorem dX7_compare_60 : decode cX7_compare 60 = .ok (.invokevirtual 91, 3) := by decide +kernel
theorem dX7_compare_63 : decode cX7_compare 63 = .ok (.iinc 1 (-1), 3) := by decide +kernel
theorem dX7_compare_66 : decode cX7_compare 66 = .ok (.goto (-19), 3) := by decide +kernel
theorem dX7_compare_69 : decode cX7_compare 69 = .ok (.aload_n 0, 1) := by decide +kernel
theorem dX7_compare_70 : decode cX7_compare 70 = .ok (.iconst 1, 1) := by decide +kernel
theorem dX7_compare_71 : decode cX7_compare 71 = .ok (.putfield 38, 3) := by decide +kernel
theorem dX7_compare_74 : decode cX7_compare 74 = .ok (.return_, 1) := by decide +kernel
