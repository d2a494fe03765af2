theorem dX5_beginBells_6 : decode cX5_beginBells 6 = .ok (.bipush 8, 2) := by decide +kernel
theorem dX5_beginBells_8 : decode cX5_beginBells 8 = .ok (.if_icmp .le 5, 3) := by decide +kernel
theorem dX5_beginBells_11 : decode cX5_beginBells 11 = .ok (.iconst 0, 1) := by decide +kernel
theorem dX5_beginBells_12 : decode cX5_beginBells 12 = .ok (.ireturn, 1) := by decide +kernel
theorem dX5_beginBells_13 : decode cX5_beginBells 13 = .ok (.aload_n 0, 1) := by decide +kernel
theorem dX5_beginBells_14 : decode cX5_beginBells 14 = .ok (.iload_n 1, 1) := by decide +kernel
theorem dX5_beginBells_15 : decode cX5_beginBells 15 = .ok (.invokevirtual 88, 3) := by decide +kernel
theorem dX5_beginBells_18 : decode cX5_beginBells 18 = .ok (.iconst 1, 1) := by decide +kernel
theorem dX5_beginBells_19 : decode cX5_beginBells 19 = .ok (.ireturn, 1) := by decide +kernel
set_option maxRecDepth 20000 in
theorem ggX5_setMethod_X2_isGood : GoodIn wsX5_setMethod wsX2_isGood := goodIn_r _ [8, 9, 10, 7, 11, 12, 13, 14] (by decide +kernel) (by decide +kernel)
set_option maxRecDepth 20000 in
theorem gX5_setMethod_X2_isGood : GoodIn wsX5_setMethod (va_wsS RX5 96 yX2_isGood wsX2_isGood) := goodIn_app (goodIn_of _ (by decide +kernel)) ggX5_setMethod_X2_isGood
theorem dX5_setMethod_0 : decode cX5_setMethod 0 = .ok (.iload_n 2, 1) := by decide +kernel
theorem dX5_setMethod_1 : decode cX5_setMethod 1 = .ok (.istore 4, 2) := by decide +kernel
theorem dX5_setMethod_3 : decode cX5_setMethod 3 = .ok (.iload 4, 2) := by decide +kernel
theorem dX5_setMethod_5 : decode cX5_setMethod 5 = .ok (.iload_n 3, 1) := by decide +kernel
theorem dX5_setMethod_6 : decode cX5_setMethod 6 = .ok (.if_icmp .ge 28, 3) := by decide +kernel
theorem dX5_setMethod_9 : decode cX5_setMethod 9 = .ok (.aload_n 1, 1) := by decide +kernel
theorem dX5_setMethod_10 : decode cX5_setMethod 10 = .ok (.getfield 93, 3) := by decide +kernel
theorem dX5_setMethod_13 : decode cX5_setMethod 13 = .ok (.aload_n 0, 1) := by decide +kernel
theorem dX5_setMethod_14 : decode cX5_setMethod 14 = .ok (.getfield 32, 3) := by decide +kernel
theorem dX5_setMethod_17 : decode cX5_setMethod 17 = .ok (.iload 4, 2) := by decide +kernel
theorem dX5_setMethod_19 : decode cX5_setMethod 19 = .ok (.iaload, 1) := by decide +kernel
theorem dX5_setMethod_20 : decode cX5_setMethod 20 = .ok (.invokestatic 96, 3) := by decide +kernel
theorem dX5_setMethod_23 : decode cX5_setMethod 23 = .ok (.ifCond .ne 5, 3) := by decide +kernel
theorem dX5_setMethod_26 : decode cX5_setMethod 26 = .ok (.iconst 0, 1) := by decide +kernel
theorem dX5_setMethod_27 : decode cX5_setMethod 27 = .ok (.ireturn, 1) := by decide +kernel
theorem dX5_setMethod_28 : decode cX5_setMethod 28 = .ok (.iinc 4 1, 3) := by decide +kernel
theorem dX5_setMethod_31 : decode cX5_setMethod 31 = .ok (.goto (-28), 3) := by decide +kernel
theorem dX5_setMethod_34 : decode cX5_setMethod 34 = .ok (.aload_n 1, 1) := by decide +kernel
theorem dX5_setMethod_35 : decode cX5_setMethod 35 = .ok (.iconst 0, 1) := by decide +kernel
theorem dX5_setMethod_36 : decode cX5_setMethod 36 = .ok (.putfield 102, 3) := by decide +kernel
theorem dX5_setMethod_39 : decode cX5_setMethod 39 = .ok (.iload_n 2, 1) := by decide +kernel
theorem dX5_setMethod_40 : decode cX5_setMethod 40 = .ok (.istore 4, 2) := by decide +kernel
theorem dX5_setMethod_42 : decode cX5_setMethod 42 = .ok (.iload 4, 2) := by decide +kernel
theorem dX5_setMethod_44 : decode cX5_setMethod 44 = .ok (.iload_n 3, 1) := by decide +kernel
theorem dX5_setMethod_45 : decode cX5_setMethod 45 = .ok (.if_icmp .ge 44, 3) := by decide +kernel
theorem dX5_setMethod_48 : decode cX5_setMethod 48 = .ok (.aload_n 1, 1) := by decide +kernel
theorem dX5_setMethod_49 : decode cX5_setMethod 49 = .ok (.getfield 102, 3) := by decide +kernel
theorem dX5_setMethod_52 : decode cX5_setMethod 52 = .ok (.bipush 16, 2) := by decide +kernel
theorem dX5_setMethod_54 : decode cX5_setMethod 54 = .ok (.if_icmp .ge 35, 3) := by decide +kernel
theorem dX5_setMethod_57 : decode cX5_setMethod 57 = .ok (.aload_n 1, 1) := by decide +kernel
theorem dX5_setMethod_58 : decode cX5_setMethod 58 = .ok (.getfield 105, 3) := by decide +kernel
theorem dX5_setMethod_61 : decode cX5_setMethod 61 = .ok (.aload_n 1, 1) := by decide +kernel
theorem dX5_setMethod_62 : decode cX5_setMethod 62 = .ok (.getfield 102, 3) := by decide +kernel
theorem dX5_setMethod_65 : decode cX5_setMethod 65 = .ok (.aload_n 0, 1) := by decide +kernel
theorem dX5_setMethod_66 : decode cX5_setMethod 66 = .ok (.getfield 32, 3) := by decide +kernel
theorem dX5_setMethod_69 : decode cX5_setMethod 69 = .ok (.iload 4, 2) := by decide +kernel
theorem dX5_setMethod_71 : decode cX5_setMethod 71 = .ok (.iaload, 1) := by decide +kernel
theorem dX5_setMethod_72 : decode cX5_setMethod 72 = .ok (.iastore, 1) := by decide +kernel
theorem dX5_setMethod_73 : decode cX5_setMethod 73 = .ok (.aload_n 1, 1) := by decide +kernel
theorem dX5_setMethod_74 : decode cX5_setMethod 74 = .ok (.dup, 1) := by decide +kernel
theorem dX5_setMethod_75 : decode cX5_setMethod 75 = .ok (.getfield 102, 3) := by decide +kernel
theorem dX5_setMethod_78 : decode cX5_setMethod 78 = .ok (.iconst 1, 1) := by decide +kernel
theorem dX5_setMethod_79 : decode cX5_setMethod 79 = .ok (.iadd, 1) := by decide +kernel
theorem dX5_setMethod_80 : decode cX5_setMethod 80 = .ok (.putfield 102, 3) := by decide +kernel
theorem dX5_setMethod_83 : decode cX5_setMethod 83 = .ok (.iinc 4 1, 3) := by decide +kernel
theorem dX5_setMethod_86 : decode cX5_setMethod 86 = .ok (.goto (-44), 3) := by decide +kernel
theorem dX5_setMethod_89 : decode cX5_setMethod 89 = .ok (.iconst 1, 1) := by decide +kernel
theorem dX5_setMethod_90 : decode cX5_setMethod 90 = .ok (.ireturn, 1) := by decide +kernel
set_option maxRecDepth 20000 in
theorem ggX5_setCall_X2_isGood : GoodIn wsX5_setCall wsX2_isGood := goodIn_r _ [5, 6, 7, 4, 8, 9, 10, 11] (by decide +kernel) (by decide +kernel)
set_option maxRecDepth 20000 in
theorem gX5_setCall_X2_isGood : GoodIn wsX5_setCall (va_wsS RX5 96 yX2_isGood wsX2_isGood) := goodIn_app (goodIn_of _ (by decide +kernel)) ggX5_setCall_X2_isGood
set_option maxRecDepth 20000 in
theorem ggX5_setCall_X4_setCalledChange : GoodIn wsX5_setCall wsX4_setCalledChange := goodIn_r _ [16, 17, 18, 19, 20, 21, 22, 23, 24, 25, 26, 27, 28, 29] (by decide +kernel) (by decide +kernel)
set_option maxRecDepth 20000 in
theorem gX5_setCall_X4_setCalledChange : GoodIn wsX5_setCall (wsV RX5 108 RX4 yX4_setCalledChange wsX4_setCalledChange) := goodIn_app (goodIn_of _ (by decide +kernel)) ggX5_setCall_X4_setCalledChange
theorem dX5_setCall_0 : decode cX5_setCall 0 = .ok (.aload_n 0, 1) := by decide +kernel
theorem dX5_setCall_1 : decode cX5_setCall 1 = .ok (.getfield 93, 3) := by decide +kernel
theorem dX5_setCall_4 : decode cX5_setCall 4 = .ok (.iload_n 2, 1) := by decide +kernel
theorem dX5_setCall_5 : decode cX5_setCall 5 = .ok (.invokestatic 96, 3) := by decide +kernel
theorem dX5_setCall_8 : decode cX5_setCall 8 = .ok (.ifCond .ne 5, 3) := by decide +kernel
theorem dX5_setCall_11 : decode cX5_setCall 11 = .ok (.iconst 0, 1) := by decide +kernel
theorem dX5_setCall_12 : decode cX5_setCall 12 = .ok (.ireturn, 1) := by decide +kernel
theorem dX5_setCall_13 : decode cX5_setCall 13 = .ok (.aload_n 0, 1) := by decide +kernel
theorem dX5_setCall_14 : decode cX5_setCall 14 = .ok (.iload_n 1, 1) := by decide +kernel
theorem dX5_setCall_15 : decode cX5_setCall 15 = .ok (.iload_n 2, 1) := by decide +kernel
theorem dX5_setCall_16 : decode cX5_setCall 16 = .ok (.invokevirtual 108, 3) := by decide +kernel
theorem dX5_setCall_19 : decode cX5_setCall 19 = .ok (.iconst 1, 1) := by decide +kernel
theorem dX5_setCall_20 : decode cX5_setCall 20 = .ok (.ireturn, 1) := by decide +kernel
theorem dX5_setLeads_0 : decode cX5_setLeads 0 = .ok (.aload_n 1, 1) := by decide +kernel
theorem dX5_setLeads_1 : decode cX5_setLeads 1 = .ok (.iconst 0, 1) := by decide +kernel
theorem dX5_setLeads_2 : decode cX5_setLeads 2 = .ok (.putfield 112, 3) := by decide +kernel
theorem dX5_setLeads_5 : decode cX5_setLeads 5 = .ok (.iload_n 2, 1) := by decide +kernel
theorem dX5_setLeads_6 : decode cX5_setLeads 6 = .ok (.istore 4, 2) := by decide +kernel
theorem dX5_setLeads_8 : decode cX5_setLeads 8 = .ok (.iload 4, 2) := by decide +kernel
theorem dX5_setLeads_10 : decode cX5_setLeads 10 = .ok (.iload_n 3, 1) := by decide +kernel
theorem dX5_setLeads_11 : decode cX5_setLeads 11 = .ok (.if_icmp .ge 44, 3) := by decide +kernel
theorem dX5_setLeads_14 : decode cX5_setLeads 14 = .ok (.aload_n 1, 1) := by decide +kernel
theorem dX5_setLeads_15 : decode cX5_setLeads 15 = .ok (.getfield 112, 3) := by decide +kernel
theorem dX5_setLeads_18 : decode cX5_setLeads 18 = .ok (.bipush 12, 2) := by decide +kernel
theorem dX5_setLeads_20 : decode cX5_setLeads 20 = .ok (.if_icmp .ge 35, 3) := by decide +kernel
theorem dX5_setLeads_23 : decode cX5_setLeads 23 = .ok (.aload_n 1, 1) := by decide +kernel
theorem dX5_setLeads_24 : decode cX5_setLeads 24 = .ok (.getfield 115, 3) := by decide +kernel
theorem dX5_setLeads_27 : decode cX5_setLeads 27 = .ok (.aload_n 1, 1) := by decide +kernel
theorem dX5_setLeads_28 : decode cX5_setLeads 28 = .ok (.getfield 112, 3) := by decide +kernel
theorem dX5_setLeads_31 : decode cX5_setLeads 31 = .ok (.aload_n 0, 1) := by decide +kernel
theorem dX5_setLeads_32 : decode cX5_setLeads 32 = .ok (.getfield 32, 3) := by decide +kernel
theorem dX5_setLeads_35 : decode cX5_setLeads 35 = .ok (.iload 4, 2) := by decide +kernel
theorem dX5_setLeads_37 : decode cX5_setLeads 37 = .ok (.iaload, 1) := by decide +kernel
theorem dX5_setLeads_38 : decode cX5_setLeads 38 = .ok (.iastore, 1) := by decide +kernel
theorem dX5_setLeads_39 : decode cX5_setLeads 39 = .ok (.aload_n 1, 1) := by decide +kernel
theorem dX5_setLeads_40 : decode cX5_setLeads 40 = .ok (.dup, 1) := by decide +kernel
theorem dX5_setLeads_41 : decode cX5_setLeads 41 = .ok (.getfield 112, 3) := by decide +kernel
theorem dX5_setLeads_44 : decode cX5_setLeads 44 = .ok (.iconst 1, 1) := by decide +kernel
theorem dX5_setLeads_45 : decode cX5_setLeads 45 = .ok (.iadd, 1) := by decide +kernel
theorem dX5_setLeads_46 : decode cX5_setLeads 46 = .ok (.putfield 112, 3) := by decide +kernel
theorem dX5_setLeads_49 : decode cX5_setLeads 49 = .ok (.iinc 4 1, 3) := by decide +kernel
theorem dX5_setLeads_52 : decode cX5_setLeads 52 = .ok (.goto (-44), 3) := by decide +kernel
theorem dX5_setLeads_55 : decode cX5_setLeads 55 = .ok (.iconst 1, 1) := by decide +kernel
theorem dX5_setLeads_56 : decode cX5_setLeads 56 = .ok (.ireturn, 1) := by decide +kernel
theorem dX6_init_0 : decode cX6_init 0 = .ok (.aload_n 0, 1) := by decide +kernel
theorem dX6_init_1 : decode cX6_init 1 = .ok (.invokespecial 3, 3) := by decide +kernel
theorem dX6_init_4 : decode cX6_init 4 = .ok (.aload_n 0, 1) := by decide +kernel
theorem dX6_init_5 : decode cX6_init 5 = .ok (.iconst (-1), 1) := by decide +kernel
theorem dX6_init_6 : decode cX6_init 6 = .ok (.putfield 9, 3) := by decide +kernel
theorem dX6_init_9 : decode cX6_init 9 = .ok (.aload_n 0, 1) := by decide +kernel
theorem dX6_init_10 : decode cX6_init 10 = .ok (.iconst 0, 1) := by decide +kernel
theorem dX6_init_11 : decode cX6_init 11 = .ok (.putfield 15, 3) := by decide +kernel
theorem dX6_init_14 : decode cX6_init 14 = .ok (.aload_n 0, 1) := by decide +kernel
theorem dX6_init_15 : decode cX6_init 15 = .ok (.bipush 60, 2) := by decide +kernel
theorem dX6_init_17 : decode cX6_init 17 = .ok (.newarray .long, 2) := by decide +kernel
theorem dX6_init_19 : decode cX6_init 19 = .ok (.putfield 18, 3) := by decide +kernel
theorem dX6_init_22 : decode cX6_init 22 = .ok (.return_, 1) := by decide +kernel
theorem dX6_begin_0 : decode cX6_begin 0 = .ok (.aload_n 0, 1) := by decide +kernel
theorem dX6_begin_1 : decode cX6_begin 1 = .ok (.iload_n 1, 1) := by decide +kernel
theorem dX6_begin_2 : decode cX6_begin 2 = .ok (.putfield 9, 3) := by decide +kernel
theorem dX6_begin_5 : decode cX6_begin 5 = .ok (.aload_n 0, 1) := by decide +kernel
theorem dX6_begin_6 : decode cX6_begin 6 = .ok (.iload_n 2, 1) := by decide +kernel
theorem dX6_begin_7 : decode cX6_begin 7 = .ok (.putfield 15, 3) := by decide +kernel
theorem dX6_begin_10 : decode cX6_begin 10 = .ok (.iconst 0, 1) := by decide +kernel
theorem dX6_begin_11 : decode cX6_begin 11 = .ok (.istore_n 3, 1) := by decide +kernel
theorem dX6_begin_12 : decode cX6_begin 12 = .ok (.iload_n 3, 1) := by decide +kernel
theorem dX6_begin_13 : decode cX6_begin 13 = .ok (.bipush 60, 2) := by decide +kernel
theorem dX6_begin_15 : decode cX6_begin 15 = .ok (.if_icmp .ge 16, 3) := by decide +kernel
theorem dX6_begin_18 : decode cX6_begin 18 = .ok (.aload_n 0, 1) := by decide +kernel
theorem dX6_begin_19 : decode cX6_begin 19 = .ok (.getfield 18, 3) := by decide +kernel
theorem dX6_begin_22 : decode cX6_begin 22 = .ok (.iload_n 3, 1) := by decide +kernel
theorem dX6_begin_23 : decode cX6_begin 23 = .ok (.lconst 0, 1) := by decide +kernel
theorem dX6_begin_24 : decode cX6_begin 24 = .ok (.lastore, 1) := by decide +kernel
theorem dX6_begin_25 : decode cX6_begin 25 = .ok (.iinc 3 1, 3) := by decide +kernel
theorem dX6_begin_28 : decode cX6_begin 28 = .ok (.goto (-16), 3) := by decide +kernel
theorem dX6_begin_31 : decode cX6_begin 31 = .ok (.return_, 1) := by decide +kernel
theorem dX6_has_0 : decode cX6_has 0 = .ok (.iload_n 1, 1) := by decide +kernel
theorem dX6_has_1 : decode cX6_has 1 = .ok (.ifCond .lt 29, 3) := by decide +kernel
theorem dX6_has_4 : decode cX6_has 4 = .ok (.iload_n 2, 1) := by decide +kernel
theorem dX6_has_5 : decode cX6_has 5 = .ok (.ifCond .lt 25, 3) := by decide +kernel
theorem dX6_has_8 : decode cX6_has 8 = .ok (.iload_n 2, 1) := by decide +kernel
theorem dX6_has_9 : decode cX6_has 9 = .ok (.aload_n 0, 1) := by decide +kernel
theorem dX6_has_10 : decode cX6_has 10 = .ok (.getfield 15, 3) := by decide +kernel
theorem dX6_has_13 : decode cX6_has 13 = .ok (.if_icmp .gt 17, 3) := by decide +kernel
theorem dX6_has_16 : decode cX6_has 16 = .ok (.iload_n 1, 1) := by decide +kernel
theorem dX6_has_17 : decode cX6_has 17 = .ok (.aload_n 0, 1) := by decide +kernel
theorem dX6_has_18 : decode cX6_has 18 = .ok (.getfield 15, 3) := by decide +kernel
theorem dX6_has_21 : decode cX6_has 21 = .ok (.iload_n 2, 1) := by decide +kernel
theorem dX6_has_22 : decode cX6_has 22 = .ok (.isub, 1) := by decide +kernel
theorem dX6_has_23 : decode cX6_has 23 = .ok (.if_icmp .gt 7, 3) := by decide +kernel
theorem dX6_has_26 : decode cX6_has 26 = .ok (.iconst 1, 1) := by decide +kernel
theorem dX6_has_27 : decode cX6_has 27 = .ok (.goto 4, 3) := by decide +kernel
theorem dX6_has_30 : decode cX6_has 30 = .ok (.iconst 0, 1) := by decide +kernel
theorem dX6_has_31 : decode cX6_has 31 = .ok (.ireturn, 1) := by decide +kernel
theorem dX6_narrowed_0 : decode cX6_narrowed 0 = .ok (.iload_n 0, 1) := by decide +kernel
theorem dX6_narrowed_1 : decode cX6_narrowed 1 = .ok (.tableswitch 47 0 3 #[31, 36, 41, 45], 31) := by decide +kernel
theorem dX6_narrowed_32 : decode cX6_narrowed 32 = .ok (.lload_n 1, 1) := by decide +kernel
theorem dX6_narrowed_33 : decode cX6_narrowed 33 = .ok (.l2i, 1) := by decide +kernel
theorem dX6_narrowed_34 : decode cX6_narrowed 34 = .ok (.i2b, 1) := by decide +kernel
theorem dX6_narrowed_35 : decode cX6_narrowed 35 = .ok (.i2l, 1) := by decide +kernel
theorem dX6_narrowed_36 : decode cX6_narrowed 36 = .ok (.lreturn, 1) := by decide +kernel
theorem dX6_narrowed_37 : decode cX6_narrowed 37 = .ok (.lload_n 1, 1) := by decide +kernel
theorem dX6_narrowed_38 : decode cX6_narrowed 38 = .ok (.l2i, 1) := by decide +kernel
theorem dX6_narrowed_39 : decode cX6_narrowed 39 = .ok (.i2s, 1) := by decide +kernel
theorem dX6_narrowed_40 : decode cX6_narrowed 40 = .ok (.i2l, 1) := by decide +kernel
theorem dX6_narrowed_41 : decode cX6_narrowed 41 = .ok (.lreturn, 1) := by decide +kernel
theorem dX6_narrowed_42 : decode cX6_narrowed 42 = .ok (.lload_n 1, 1) := by decide +kernel
theorem dX6_narrowed_43 : decode cX6_narrowed 43 = .ok (.l2i, 1) := by decide +kernel
theorem dX6_narrowed_44 : decode cX6_narrowed 44 = .ok (.i2l, 1) := by decide +kernel
theorem dX6_narrowed_45 : decode cX6_narrowed 45 = .ok (.lreturn, 1) := by decide +kernel
theorem dX6_narrowed_46 : decode cX6_narrowed 46 = .ok (.lload_n 1, 1) := by decide +kernel
theorem dX6_narrowed_47 : decode cX6_narrowed 47 = .ok (.lreturn, 1) := by decide +kernel
theorem dX6_narrowed_48 : decode cX6_narrowed 48 = .ok (.lload_n 1, 1) := by decide +kernel
theorem dX6_narrowed_49 : decode cX6_narrowed 49 = .ok (.lconst 0, 1) := by decide +kernel
theorem dX6_narrowed_50 : decode cX6_narrowed 50 = .ok (.lcmp, 1) := by decide +kernel
theorem dX6_narrowed_51 : decode cX6_narrowed 51 = .ok (.ifCond .eq 7, 3) := by decide +kernel
theorem dX6_narrowed_54 : decode cX6_narrowed 54 = .ok (.lconst 1, 1) := by decide +kernel
theorem dX6_narrowed_55 : decode cX6_narrowed 55 = .ok (.goto 4, 3) := by decide +kernel
theorem dX6_narrowed_58 : decode cX6_narrowed 58 = .ok (.lconst 0, 1) := by decide +kernel
theorem dX6_narrowed_59 : decode cX6_narrowed 59 = .ok (.lreturn, 1) := by decide +kernel
set_option maxRecDepth 20000 in
theorem ggX7_init_X3_init : GoodIn wsX7_init wsX3_init := goodIn_r _ [17, 18, 2, 3, 4, 19, 28] (by decide +kernel) (by decide +kernel)
set_option maxRecDepth 20000 in
theorem gX7_init_X3_init_n33 : GoodIn wsX7_init (wsX3_init) := ggX7_init_X3_init
theorem dX7_init_0 : decode cX7_init 0 = .ok (.aload_n 0, 1) := by decide +kernel
theorem dX7_init_1 : decode cX7_init 1 = .ok (.invokespecial 3, 3) := by decide +kernel
theorem dX7_init_4 : decode cX7_init 4 = .ok (.aload_n 0, 1) := by decide +kernel
theorem dX7_init_5 : decode cX7_init 5 = .ok (.sipush 193, 3) := by decide +kernel
theorem dX7_init_8 : decode cX7_init 8 = .ok (.newarray .int, 2) := by decide +kernel
theorem dX7_init_10 : decode cX7_init 10 = .ok (.putfield 9, 3) := by decide +kernel
theorem dX7_init_13 : decode cX7_init 13 = .ok (.aload_n 0, 1) := by decide +kernel
theorem dX7_init_14 : decode cX7_init 14 = .ok (.iconst 0, 1) := by decide +kernel
theorem dX7_init_15 : decode cX7_init 15 = .ok (.putfield 15, 3) := by decide +kernel
theorem dX7_init_18 : decode cX7_init 18 = .ok (.aload_n 0, 1) := by decide +kernel
theorem dX7_init_19 : decode cX7_init 19 = .ok (.iconst 0, 1) := by decide +kernel
theorem dX7_init_20 : decode cX7_init 20 = .ok (.putfield 19, 3) := by decide +kernel
theorem dX7_init_23 : decode cX7_init 23 = .ok (.aload_n 0, 1) := by decide +kernel
theorem dX7_init_24 : decode cX7_init 24 = .ok (.bipush 16, 2) := by decide +kernel
theorem dX7_init_26 : decode cX7_init 26 = .ok (.newarray .int, 2) := by decide +kernel
theorem dX7_init_28 : decode cX7_init 28 = .ok (.putfield 22, 3) := by decide +kernel
theorem dX7_init_31 : decode cX7_init 31 = .ok (.aload_n 0, 1) := by decide +kernel
theorem dX7_init_32 : decode cX7_init 32 = .ok (.iconst 3, 1) := by decide +kernel
theorem dX7_init_33 : decode cX7_init 33 = .ok (.newarray .int, 2) := by decide +kernel
theorem dX7_init_35 : decode cX7_init 35 = .ok (.putfield 25, 3) := by decide +kernel
theorem dX7_init_38 : decode cX7_init 38 = .ok (.aload_n 0, 1) := by decide +kernel
theorem dX7_init_39 : decode cX7_init 39 = .ok (.sipush 193, 3) := by decide +kernel
theorem dX7_init_42 : decode cX7_init 42 = .ok (.newarray .int, 2) := by decide +kernel
theorem dX7_init_44 : decode cX7_init 44 = .ok (.putfield 28, 3) := by decide +kernel
theorem dX7_init_47 : decode cX7_init 47 = .ok (.aload_n 0, 1) := by decide +kernel
theorem dX7_init_48 : decode cX7_init 48 = .ok (.new 31, 3) := by decide +kernel
theorem dX7_init_51 : decode cX7_init 51 = .ok (.dup, 1) := by decide +kernel
theorem dX7_init_52 : decode cX7_init 52 = .ok (.invokespecial 33, 3) := by decide +kernel
theorem dX7_init_55 : decode cX7_init 55 = .ok (.putfield 34, 3) := by decide +kernel
theorem dX7_init_58 : decode cX7_init 58 = .ok (.aload_n 0, 1) := by decide +kernel
theorem dX7_init_59 : decode cX7_init 59 = .ok (.iconst 0, 1) := by decide +kernel
theorem dX7_init_60 : decode cX7_init 60 = .ok (.putfield 38, 3) := by decide +kernel
theorem dX7_init_63 : decode cX7_init 63 = .ok (.return_, 1) := by decide +kernel
set_option maxRecDepth 20000 in
theorem ggX7_ring_X7_begin : GoodIn wsX7_ring wsX7_begin := goodIn_r _ [8, 9, 2, 10, 11, 12, 13, 14, 15, 16, 17, 18, 19, 20, 21, 22, 23, 24, 25, 26, 27, 28, 29, 30, 31, 32, 33, 41, 42, 43, 44, 45, 46, 47, 48, 49, 50, 51, 52, 53, 54, 55, 56, 57, 58, 59] (by decide +kernel) (by decide +kernel)
set_option maxRecDepth 20000 in
theorem gX7_ring_X7_begin : GoodIn wsX7_ring (wsV RX7 42 RX7 yX7_begin wsX7_begin) := goodIn_app (goodIn_of _ (by decide +kernel)) ggX7_ring_X7_begin
set_option maxRecDepth 20000 in
theorem ggX7_ring_X7_step : GoodIn wsX7_ring wsX7_step := goodIn_r _ [37, 15, 2, 13, 10, 14, 38, 39, 19, 40, 52, 53, 54, 55, 56, 57, 58, 59] (by decide +kernel) (by decide +kernel)
set_option maxRecDepth 20000 in
theorem gX7_ring_X7_step : GoodIn wsX7_ring (wsV RX7 54 RX7 yX7_step wsX7_step) := goodIn_app (goodIn_of _ (by decide +kernel)) ggX7_ring_X7_step
theorem dX7_ring_0 : decode cX7_ring 0 = .ok (.aload_n 0, 1) := by decide +kernel
theorem dX7_ring_1 : decode cX7_ring 1 = .ok (.aload_n 1, 1) := by decide +kernel
theorem dX7_ring_2 : decode cX7_ring 2 = .ok (.invokevirtual 42, 3) := by decide +kernel
theorem dX7_ring_5 : decode cX7_ring 5 = .ok (.iconst 0, 1) := by decide +kernel
theorem dX7_ring_6 : decode cX7_ring 6 = .ok (.istore_n 2, 1) := by decide +kernel
theorem dX7_ring_7 : decode cX7_ring 7 = .ok (.iload_n 2, 1) := by decide +kernel
theorem dX7_ring_8 : decode cX7_ring 8 = .ok (.aload_n 1, 1) := by decide +kernel
theorem dX7_ring_9 : decode cX7_ring 9 = .ok (.getfield 46, 3) := by decide +kernel
theorem dX7_ring_12 : decode cX7_ring 12 = .ok (.if_icmp .ge 36, 3) := by decide +kernel
theorem dX7_ring_15 : decode cX7_ring 15 = .ok (.iconst 0, 1) := by decide +kernel
theorem dX7_ring_16 : decode cX7_ring 16 = .ok (.istore_n 3, 1) := by decide +kernel
theorem dX7_ring_17 : decode cX7_ring 17 = .ok (.iload_n 3, 1) := by decide +kernel
theorem dX7_ring_18 : decode cX7_ring 18 = .ok (.aload_n 0, 1) := by decide +kernel
theorem dX7_ring_19 : decode cX7_ring 19 = .ok (.getfield 19, 3) := by decide +kernel
theorem dX7_ring_22 : decode cX7_ring 22 = .ok (.if_icmp .ge 20, 3) := by decide +kernel
theorem dX7_ring_25 : decode cX7_ring 25 = .ok (.aload_n 0, 1) := by decide +kernel
theorem dX7_ring_26 : decode cX7_ring 26 = .ok (.iload_n 3, 1) := by decide +kernel
theorem dX7_ring_27 : decode cX7_ring 27 = .ok (.aload_n 1, 1) := by decide +kernel
theorem dX7_ring_28 : decode cX7_ring 28 = .ok (.getfield 51, 3) := by decide +kernel
theorem dX7_ring_31 : decode cX7_ring 31 = .ok (.iload_n 2, 1) := by decide +kernel
theorem dX7_ring_32 : decode cX7_ring 32 = .ok (.iaload, 1) := by decide +kernel
theorem dX7_ring_33 : decode cX7_ring 33 = .ok (.invokevirtual 54, 3) := by decide +kernel
theorem dX7_ring_36 : decode cX7_ring 36 = .ok (.iinc 3 1, 3) := by decide +kernel
theorem dX7_ring_39 : decode cX7_ring 39 = .ok (.goto (-22), 3) := by decide +kernel
theorem dX7_ring_42 : decode cX7_ring 42 = .ok (.iinc 2 1, 3) := by decide +kernel
theorem dX7_ring_45 : decode cX7_ring 45 = .ok (.goto (-38), 3) := by decide +kernel
theorem dX7_ring_48 : decode cX7_ring 48 = .ok (.return_, 1) := by decide +kernel
set_option maxRecDepth 20000 in
theorem ggX7_begin_X2_pairs : GoodIn wsX7_begin wsX2_pairs := goodIn_r _ [13, 14, 15, 12, 16] (by decide +kernel) (by decide +kernel)
set_option maxRecDepth 20000 in
theorem gX7_begin_X2_pairs : GoodIn wsX7_begin (va_wsS RX7 65 yX2_pairs wsX2_pairs) := goodIn_app (goodIn_of _ (by decide +kernel)) ggX7_begin_X2_pairs
set_option maxRecDepth 20000 in
theorem ggX7_begin_X4_calledChange : GoodIn wsX7_begin wsX4_calledChange := goodIn_r _ [21, 22, 23, 27, 28, 29, 30, 31, 32, 33, 34, 35, 36, 37] (by decide +kernel) (by decide +kernel)
set_option maxRecDepth 20000 in
theorem gX7_begin_X4_calledChange : GoodIn wsX7_begin (wsV RX7 70 RX4 yX4_calledChange wsX4_calledChange) := goodIn_app (goodIn_of _ (by decide +kernel)) ggX7_begin_X4_calledChange
set_option maxRecDepth 20000 in
theorem ggX7_begin_X2_rounds : GoodIn wsX7_begin wsX2_rounds := goodIn_r _ [26] (by decide +kernel) (by decide +kernel)
set_option maxRecDepth 20000 in
theorem gX7_begin_X2_rounds : GoodIn wsX7_begin (va_wsS RX7 74 yX2_rounds wsX2_rounds) := goodIn_app (goodIn_of _ (by decide +kernel)) ggX7_begin_X2_rounds
theorem dX7_begin_0 : decode cX7_begin 0 = .ok (.aload_n 0, 1) := by decide +kernel
theorem dX7_begin_1 : decode cX7_begin 1 = .ok (.aload_n 1, 1) := by decide +kernel
theorem dX7_begin_2 : decode cX7_begin 2 = .ok (.getfield 58, 3) := by decide +kernel
theorem dX7_begin_5 : decode cX7_begin 5 = .ok (.putfield 19, 3) := by decide +kernel
theorem dX7_begin_8 : decode cX7_begin 8 = .ok (.iconst 0, 1) := by decide +kernel
theorem dX7_begin_9 : decode cX7_begin 9 = .ok (.istore_n 2, 1) := by decide +kernel
theorem dX7_begin_10 : decode cX7_begin 10 = .ok (.iload_n 2, 1) := by decide +kernel
theorem dX7_begin_11 : decode cX7_begin 11 = .ok (.aload_n 0, 1) := by decide +kernel
theorem dX7_begin_12 : decode cX7_begin 12 = .ok (.getfield 19, 3) := by decide +kernel
theorem dX7_begin_15 : decode cX7_begin 15 = .ok (.if_icmp .ge 28, 3) := by decide +kernel
theorem dX7_begin_18 : decode cX7_begin 18 = .ok (.aload_n 0, 1) := by decide +kernel
theorem dX7_begin_19 : decode cX7_begin 19 = .ok (.getfield 22, 3) := by decide +kernel
theorem dX7_begin_22 : decode cX7_begin 22 = .ok (.iload_n 2, 1) := by decide +kernel
theorem dX7_begin_23 : decode cX7_begin 23 = .ok (.aload_n 1, 1) := by decide +kernel
theorem dX7_begin_24 : decode cX7_begin 24 = .ok (.getfield 59, 3) := by decide +kernel
theorem dX7_begin_27 : decode cX7_begin 27 = .ok (.aload_n 1, 1) := by decide +kernel
theorem dX7_begin_28 : decode cX7_begin 28 = .ok (.getfield 62, 3) := by decide +kernel
theorem dX7_begin_31 : decode cX7_begin 31 = .ok (.iload_n 2, 1) := by decide +kernel
theorem dX7_begin_32 : decode cX7_begin 32 = .ok (.iaload, 1) := by decide +kernel
theorem dX7_begin_33 : decode cX7_begin 33 = .ok (.invokestatic 65, 3) := by decide +kernel
theorem dX7_begin_36 : decode cX7_begin 36 = .ok (.iastore, 1) := by decide +kernel
theorem dX7_begin_37 : decode cX7_begin 37 = .ok (.iinc 2 1, 3) := by decide +kernel
theorem dX7_begin_40 : decode cX7_begin 40 = .ok (.goto (-30), 3) := by decide +kernel
theorem dX7_begin_43 : decode cX7_begin 43 = .ok (.iconst 0, 1) := by decide +kernel
theorem dX7_begin_44 : decode cX7_begin 44 = .ok (.istore_n 2, 1) := by decide +kernel
theorem dX7_begin_45 : decode cX7_begin 45 = .ok (.iload_n 2, 1) := by decide +kernel
theorem dX7_begin_46 : decode cX7_begin 46 = .ok (.iconst 2, 1) := by decide +kernel
theorem dX7_begin_47 : decode cX7_begin 47 = .ok (.if_icmp .gt 55, 3) := by decide +kernel
theorem dX7_begin_50 : decode cX7_begin 50 = .ok (.aload_n 0, 1) := by decide +kernel
theorem dX7_begin_51 : decode cX7_begin 51 = .ok (.getfield 19, 3) := by decide +kernel
theorem dX7_begin_54 : decode cX7_begin 54 = .ok (.ifCond .le 48, 3) := by decide +kernel
theorem dX7_begin_57 : decode cX7_begin 57 = .ok (.aload_n 1, 1) := by decide +kernel
theorem dX7_begin_58 : decode cX7_begin 58 = .ok (.iload_n 2, 1) := by decide +kernel
theorem dX7_begin_59 : decode cX7_begin 59 = .ok (.invokevirtual 70, 3) := by decide +kernel
theorem dX7_begin_62 : decode cX7_begin 62 = .ok (.istore_n 3, 1) := by decide +kernel
theorem dX7_begin_63 : decode cX7_begin 63 = .ok (.aload_n 0, 1) := by decide +kernel
theorem dX7_begin_64 : decode cX7_begin 64 = .ok (.getfield 25, 3) := by decide +kernel
theorem dX7_begin_67 : decode cX7_begin 67 = .ok (.iload_n 2, 1) := by decide +kernel
theorem dX7_begin_68 : decode cX7_begin 68 = .ok (.iload_n 3, 1) := by decide +kernel
theorem dX7_begin_69 : decode cX7_begin 69 = .ok (.iconst (-1), 1) := by decide +kernel
theorem dX7_begin_70 : decode cX7_begin 70 = .ok (.if_icmp .ne 17, 3) := by decide +kernel
theorem dX7_begin_73 : decode cX7_begin 73 = .ok (.aload_n 0, 1) := by decide +kernel
theorem dX7_begin_74 : decode cX7_begin 74 = .ok (.getfield 22, 3) := by decide +kernel
theorem dX7_begin_77 : decode cX7_begin 77 = .ok (.aload_n 0, 1) := by decide +kernel
theorem dX7_begin_78 : decode cX7_begin 78 = .ok (.getfield 19, 3) := by decide +kernel
theorem dX7_begin_81 : decode cX7_begin 81 = .ok (.iconst 1, 1) := by decide +kernel
theorem dX7_begin_82 : decode cX7_begin 82 = .ok (.isub, 1) := by decide +kernel
theorem dX7_begin_83 : decode cX7_begin 83 = .ok (.iaload, 1) := by decide +kernel
theorem dX7_begin_84 : decode cX7_begin 84 = .ok (.goto 11, 3) := by decide +kernel
theorem dX7_begin_87 : decode cX7_begin 87 = .ok (.aload_n 1, 1) := by decide +kernel
theorem dX7_begin_88 : decode cX7_begin 88 = .ok (.getfield 59, 3) := by decide +kernel
theorem dX7_begin_91 : decode cX7_begin 91 = .ok (.iload_n 3, 1) := by decide +kernel
theorem dX7_begin_92 : decode cX7_begin 92 = .ok (.invokestatic 65, 3) := by decide +kernel
theorem dX7_begin_95 : decode cX7_begin 95 = .ok (.iastore, 1) := by decide +kernel
theorem dX7_begin_96 : decode cX7_begin 96 = .ok (.iinc 2 1, 3) := by decide +kernel
theorem dX7_begin_99 : decode cX7_begin 99 = .ok (.goto (-54), 3) := by decide +kernel
theorem dX7_begin_102 : decode cX7_begin 102 = .ok (.aload_n 0, 1) := by decide +kernel
theorem dX7_begin_103 : decode cX7_begin 103 = .ok (.getfield 9, 3) := by decide +kernel
theorem dX7_begin_106 : decode cX7_begin 106 = .ok (.iconst 0, 1) := by decide +kernel
theorem dX7_begin_107 : decode cX7_begin 107 = .ok (.aload_n 1, 1) := by decide +kernel
theorem dX7_begin_108 : decode cX7_begin 108 = .ok (.getfield 59, 3) := by decide +kernel
theorem dX7_begin_111 : decode cX7_begin 111 = .ok (.invokestatic 74, 3) := by decide +kernel
theorem dX7_begin_114 : decode cX7_begin 114 = .ok (.iastore, 1) := by decide +kernel
theorem dX7_begin_115 : decode cX7_begin 115 = .ok (.aload_n 0, 1) := by decide +kernel
theorem dX7_begin_116 : decode cX7_begin 116 = .ok (.iconst 0, 1) := by decide +kernel
theorem dX7_begin_117 : decode cX7_begin 117 = .ok (.putfield 15, 3) := by decide +kernel
theorem dX7_begin_120 : decode cX7_begin 120 = .ok (.aload_n 0, 1) := by decide +kernel
theorem dX7_begin_121 : decode cX7_begin 121 = .ok (.iconst 0, 1) := by decide +kernel
theorem dX7_begin_122 : decode cX7_begin 122 = .ok (.putfield 38, 3) := by decide +kernel
theorem dX7_begin_125 : decode cX7_begin 125 = .ok (.return_, 1) := by decide +kernel
set_option maxRecDepth 20000 in
theorem ggX7_step_X2_swapped : GoodIn wsX7_step wsX2_swapped := goodIn_r _ [9] (by decide +kernel) (by decide +kernel)
set_option maxRecDepth 20000 in
theorem gX7_step_X2_swapped : GoodIn wsX7_step (va_wsS RX7 77 yX2_swapped wsX2_swapped) := goodIn_app (goodIn_of _ (by decide +kernel)) ggX7_step_X2_swapped
theorem dX7_step_0 : decode cX7_step 0 = .ok (.aload_n 0, 1) := by decide +kernel
theorem dX7_step_1 : decode cX7_step 1 = .ok (.getfield 15, 3) := by decide +kernel
theorem dX7_step_4 : decode cX7_step 4 = .ok (.sipush 192, 3) := by decide +kernel
theorem dX7_step_7 : decode cX7_step 7 = .ok (.if_icmp .ge 63, 3) := by decide +kernel
theorem dX7_step_10 : decode cX7_step 10 = .ok (.iload_n 1, 1) := by decide +kernel
theorem dX7_step_11 : decode cX7_step 11 = .ok (.aload_n 0, 1) := by decide +kernel
theorem dX7_step_12 : decode cX7_step 12 = .ok (.getfield 19, 3) := by decide +kernel
theorem dX7_step_15 : decode cX7_step 15 = .ok (.iconst 1, 1) := by decide +kernel
theorem dX7_step_16 : decode cX7_step 16 = .ok (.isub, 1) := by decide +kernel
theorem dX7_step_17 : decode cX7_step 17 = .ok (.if_icmp .ne 12, 3) := by decide +kernel
theorem dX7_step_20 : decode cX7_step 20 = .ok (.aload_n 0, 1) := by decide +kernel
theorem dX7_step_21 : decode cX7_step 21 = .ok (.getfield 25, 3) := by decide +kernel
theorem dX7_step_24 : decode cX7_step 24 = .ok (.iload_n 2, 1) := by decide +kernel
theorem dX7_step_25 : decode cX7_step 25 = .ok (.iaload, 1) := by decide +kernel
theorem dX7_step_26 : decode cX7_step 26 = .ok (.goto 9, 3) := by decide +kernel
theorem dX7_step_29 : decode cX7_step 29 = .ok (.aload_n 0, 1) := by decide +kernel
theorem dX7_step_30 : decode cX7_step 30 = .ok (.getfield 22, 3) := by decide +kernel
theorem dX7_step_33 : decode cX7_step 33 = .ok (.iload_n 1, 1) := by decide +kernel
theorem dX7_step_34 : decode cX7_step 34 = .ok (.iaload, 1) := by decide +kernel
theorem dX7_step_35 : decode cX7_step 35 = .ok (.istore_n 3, 1) := by decide +kernel
theorem dX7_step_36 : decode cX7_step 36 = .ok (.aload_n 0, 1) := by decide +kernel
theorem dX7_step_37 : decode cX7_step 37 = .ok (.getfield 9, 3) := by decide +kernel
theorem dX7_step_40 : decode cX7_step 40 = .ok (.aload_n 0, 1) := by decide +kernel
theorem dX7_step_41 : decode cX7_step 41 = .ok (.getfield 15, 3) := by decide +kernel
theorem dX7_step_44 : decode cX7_step 44 = .ok (.iconst 1, 1) := by decide +kernel
theorem dX7_step_45 : decode cX7_step 45 = .ok (.iadd, 1) := by decide +kernel
theorem dX7_step_46 : decode cX7_step 46 = .ok (.aload_n 0, 1) := by decide +kernel
theorem dX7_step_47 : decode cX7_step 47 = .ok (.getfield 9, 3) := by decide +kernel
theorem dX7_step_50 : decode cX7_step 50 = .ok (.aload_n 0, 1) := by decide +kernel
theorem dX7_step_51 : decode cX7_step 51 = .ok (.getfield 15, 3) := by decide +kernel
theorem dX7_step_54 : decode cX7_step 54 = .ok (.iaload, 1) := by decide +kernel
theorem dX7_step_55 : decode cX7_step 55 = .ok (.iload_n 3, 1) := by decide +kernel
theorem dX7_step_56 : decode cX7_step 56 = .ok (.invokestatic 77, 3) := by decide +kernel
theorem dX7_step_59 : decode cX7_step 59 = .ok (.iastore, 1) := by decide +kernel
theorem dX7_step_60 : decode cX7_step 60 = .ok (.aload_n 0, 1) := by decide +kernel
theorem dX7_step_61 : decode cX7_step 61 = .ok (.dup, 1) := by decide +kernel
theorem dX7_step_62 : decode cX7_step 62 = .ok (.getfield 15, 3) := by decide +kernel
theorem dX7_step_65 : decode cX7_step 65 = .ok (.iconst 1, 1) := by decide +kernel
theorem dX7_step_66 : decode cX7_step 66 = .ok (.iadd, 1) := by decide +kernel
theorem dX7_step_67 : decode cX7_step 67 = .ok (.putfield 15, 3) := by decide +kernel
theorem dX7_step_70 : decode cX7_step 70 = .ok (.return_, 1) := by decide +kernel
set_option maxRecDepth 20000 in
theorem ggX7_firstAs_X7_compare : GoodIn wsX7_firstAs wsX7_compare := goodIn_r _ [6, 7, 8, 1, 9, 10, 11, 12, 13, 14, 15, 16, 17, 18, 19, 20, 21, 22, 23, 24, 25, 26, 27, 28, 29, 30, 31, 32, 33] (by decide +kernel) (by decide +kernel)
set_option maxRecDepth 20000 in
theorem gX7_firstAs_X7_compare : GoodIn wsX7_firstAs (wsV RX7 80 RX7 yX7_compare wsX7_compare) := goodIn_app (goodIn_of _ (by decide +kernel)) ggX7_firstAs_X7_compare
theorem dX7_firstAs_0 : decode cX7_firstAs 0 = .ok (.aload_n 0, 1) := by decide +kernel
theorem dX7_firstAs_1 : decode cX7_firstAs 1 = .ok (.invokevirtual 80, 3) := by decide +kernel
theorem dX7_firstAs_4 : decode cX7_firstAs 4 = .ok (.aload_n 0, 1) := by decide +kernel
theorem dX7_firstAs_5 : decode cX7_firstAs 5 = .ok (.getfield 28, 3) := by decide +kernel
theorem dX7_firstAs_8 : decode cX7_firstAs 8 = .ok (.iload_n 1, 1) := by decide +kernel
theorem dX7_firstAs_9 : decode cX7_firstAs 9 = .ok (.iaload, 1) := by decide +kernel
theorem dX7_firstAs_10 : decode cX7_firstAs 10 = .ok (.ireturn, 1) := by decide +kernel
set_option maxRecDepth 20000 in
theorem ggX7_roundRow_X7_compare : GoodIn wsX7_roundRow wsX7_compare := goodIn_r _ [7, 8, 1, 2, 9, 10, 11, 12, 13, 14, 15, 16, 17, 18, 19, 20, 21, 22, 23, 24, 25, 26, 27, 28, 29, 30, 31, 32, 33] (by decide +kernel) (by decide +kernel)
set_option maxRecDepth 20000 in
theorem gX7_roundRow_X7_compare : GoodIn wsX7_roundRow (wsV RX7 80 RX7 yX7_compare wsX7_compare) := goodIn_app (goodIn_of _ (by decide +kernel)) ggX7_roundRow_X7_compare
theorem dX7_roundRow_0 : decode cX7_roundRow 0 = .ok (.aload_n 0, 1) := by decide +kernel
theorem dX7_roundRow_1 : decode cX7_roundRow 1 = .ok (.invokevirtual 80, 3) := by decide +kernel
theorem dX7_roundRow_4 : decode cX7_roundRow 4 = .ok (.iconst 1, 1) := by decide +kernel
theorem dX7_roundRow_5 : decode cX7_roundRow 5 = .ok (.istore_n 1, 1) := by decide +kernel
theorem dX7_roundRow_6 : decode cX7_roundRow 6 = .ok (.iload_n 1, 1) := by decide +kernel
theorem dX7_roundRow_7 : decode cX7_roundRow 7 = .ok (.aload_n 0, 1) := by decide +kernel
theorem dX7_roundRow_8 : decode cX7_roundRow 8 = .ok (.getfield 15, 3) := by decide +kernel
theorem dX7_roundRow_11 : decode cX7_roundRow 11 = .ok (.if_icmp .gt 20, 3) := by decide +kernel
theorem dX7_roundRow_14 : decode cX7_roundRow 14 = .ok (.aload_n 0, 1) := by decide +kernel
theorem dX7_roundRow_15 : decode cX7_roundRow 15 = .ok (.getfield 28, 3) := by decide +kernel
theorem dX7_roundRow_18 : decode cX7_roundRow 18 = .ok (.iload_n 1, 1) := by decide +kernel
theorem dX7_roundRow_19 : decode cX7_roundRow 19 = .ok (.iaload, 1) := by decide +kernel
theorem dX7_roundRow_20 : decode cX7_roundRow 20 = .ok (.ifCond .ne 5, 3) := by decide +kernel
theorem dX7_roundRow_23 : decode cX7_roundRow 23 = .ok (.iload_n 1, 1) := by decide +kernel
theorem dX7_roundRow_24 : decode cX7_roundRow 24 = .ok (.ireturn, 1) := by decide +kernel
theorem dX7_roundRow_25 : decode cX7_roundRow 25 = .ok (.iinc 1 1, 3) := by decide +kernel
theorem dX7_roundRow_28 : decode cX7_roundRow 28 = .ok (.goto (-22), 3) := by decide +kernel
theorem dX7_roundRow_31 : decode cX7_roundRow 31 = .ok (.bipush (-5), 2) := by decide +kernel
theorem dX7_roundRow_33 : decode cX7_roundRow 33 = .ok (.ireturn, 1) := by decide +kernel
set_option maxRecDepth 20000 in
theorem ggX7_falseRow_X7_compare : GoodIn wsX7_falseRow wsX7_compare := goodIn_r _ [7, 8, 1, 2, 9, 10, 11, 12, 13, 14, 15, 16, 17, 18, 19, 20, 21, 22, 23, 24, 25, 26, 27, 28, 29, 30, 31, 32, 33] (by decide +kernel) (by decide +kernel)
set_option maxRecDepth 20000 in
theorem gX7_falseRow_X7_compare : GoodIn wsX7_falseRow (wsV RX7 80 RX7 yX7_compare wsX7_compare) := goodIn_app (goodIn_of _ (by decide +kernel)) ggX7_falseRow_X7_compare
theorem dX7_falseRow_0 : decode cX7_falseRow 0 = .ok (.aload_n 0, 1) := by decide +kernel
theorem dX7_falseRow_1 : decode cX7_falseRow 1 = .ok (.invokevirtual 80, 3) := by decide +kernel
theorem dX7_falseRow_4 : decode cX7_falseRow 4 = .ok (.iconst 1, 1) := by decide +kernel
theorem dX7_falseRow_5 : decode cX7_falseRow 5 = .ok (.istore_n 1, 1) := by decide +kernel
theorem dX7_falseRow_6 : decode cX7_falseRow 6 = .ok (.iload_n 1, 1) := by decide +kernel
theorem dX7_falseRow_7 : decode cX7_falseRow 7 = .ok (.aload_n 0, 1) := by decide +kernel
theorem dX7_falseRow_8 : decode cX7_falseRow 8 = .ok (.getfield 15, 3) := by decide +kernel
theorem dX7_falseRow_11 : decode cX7_falseRow 11 = .ok (.if_icmp .gt 48, 3) := by decide +kernel
theorem dX7_falseRow_14 : decode cX7_falseRow 14 = .ok (.iload_n 1, 1) := by decide +kernel
theorem dX7_falseRow_15 : decode cX7_falseRow 15 = .ok (.aload_n 0, 1) := by decide +kernel
theorem dX7_falseRow_16 : decode cX7_falseRow 16 = .ok (.getfield 15, 3) := by decide +kernel
theorem dX7_falseRow_19 : decode cX7_falseRow 19 = .ok (.if_icmp .ne 16, 3) := by decide +kernel
theorem dX7_falseRow_22 : decode cX7_falseRow 22 = .ok (.aload_n 0, 1) := by decide +kernel
theorem dX7_falseRow_23 : decode cX7_falseRow 23 = .ok (.getfield 28, 3) := by decide +kernel
theorem dX7_falseRow_26 : decode cX7_falseRow 26 = .ok (.iload_n 1, 1) := by decide +kernel
theorem dX7_falseRow_27 : decode cX7_falseRow 27 = .ok (.iaload, 1) := by decide +kernel
theorem dX7_falseRow_28 : decode cX7_falseRow 28 = .ok (.ifCond .ne 7, 3) := by decide +kernel
theorem dX7_falseRow_31 : decode cX7_falseRow 31 = .ok (.iconst 1, 1) := by decide +kernel
theorem dX7_falseRow_32 : decode cX7_falseRow 32 = .ok (.goto 4, 3) := by decide +kernel
theorem dX7_falseRow_35 : decode cX7_falseRow 35 = .ok (.iconst 0, 1) := by decide +kernel
theorem dX7_falseRow_36 : decode cX7_falseRow 36 = .ok (.istore_n 2, 1) := by decide +kernel
theorem dX7_falseRow_37 : decode cX7_falseRow 37 = .ok (.aload_n 0, 1) := by decide +kernel
theorem dX7_falseRow_38 : decode cX7_falseRow 38 = .ok (.getfield 28, 3) := by decide +kernel
theorem dX7_falseRow_41 : decode cX7_falseRow 41 = .ok (.iload_n 1, 1) := by decide +kernel
theorem dX7_falseRow_42 : decode cX7_falseRow 42 = .ok (.iaload, 1) := by decide +kernel
theorem dX7_falseRow_43 : decode cX7_falseRow 43 = .ok (.iload_n 1, 1) := by decide +kernel
theorem dX7_falseRow_44 : decode cX7_falseRow 44 = .ok (.if_icmp .eq 9, 3) := by decide +kernel
theorem dX7_falseRow_47 : decode cX7_falseRow 47 = .ok (.iload_n 2, 1) := by decide +kernel
theorem dX7_falseRow_48 : decode cX7_falseRow 48 = .ok (.ifCond .ne 5, 3) := by decide +kernel
theorem dX7_falseRow_51 : decode cX7_falseRow 51 = .ok (.iload_n 1, 1) := by decide +kernel
theorem dX7_falseRow_52 : decode cX7_falseRow 52 = .ok (.ireturn, 1) := by decide +kernel
theorem dX7_falseRow_53 : decode cX7_falseRow 53 = .ok (.iinc 1 1, 3) := by decide +kernel
theorem dX7_falseRow_56 : decode cX7_falseRow 56 = .ok (.goto (-50), 3) := by decide +kernel
theorem dX7_falseRow_59 : decode cX7_falseRow 59 = .ok (.bipush (-5), 2) := by decide +kernel
theorem dX7_falseRow_61 : decode cX7_falseRow 61 = .ok (.ireturn, 1) := by decide +kernel
set_option maxRecDepth 20000 in
theorem ggX7_isTrue_X7_falseRow : GoodIn wsX7_isTrue wsX7_falseRow := goodIn_r _ [7, 1, 8, 9, 10, 11, 6, 12, 13, 14, 2, 15, 16, 17, 18, 19, 20, 21, 22, 23, 24, 25, 26, 27, 28, 29, 30, 31, 32, 33, 34, 35, 36, 37] (by decide +kernel) (by decide +kernel)
set_option maxRecDepth 20000 in
theorem gX7_isTrue_X7_falseRow : GoodIn wsX7_isTrue (wsV RX7 83 RX7 yX7_falseRow wsX7_falseRow) := goodIn_app (goodIn_of _ (by decide +kernel)) ggX7_isTrue_X7_falseRow
theorem dX7_isTrue_0 : decode cX7_isTrue 0 = .ok (.aload_n 0, 1) := by decide +kernel
theorem dX7_isTrue_1 : decode cX7_isTrue 1 = .ok (.getfield 15, 3) := by decide +kernel
theorem dX7_isTrue_4 : decode cX7_isTrue 4 = .ok (.ifCond .le 34, 3) := by decide +kernel
theorem dX7_isTrue_7 : decode cX7_isTrue 7 = .ok (.aload_n 0, 1) := by decide +kernel
theorem dX7_isTrue_8 : decode cX7_isTrue 8 = .ok (.getfield 9, 3) := by decide +kernel
theorem dX7_isTrue_11 : decode cX7_isTrue 11 = .ok (.aload_n 0, 1) := by decide +kernel
theorem dX7_isTrue_12 : decode cX7_isTrue 12 = .ok (.getfield 15, 3) := by decide +kernel
theorem dX7_isTrue_15 : decode cX7_isTrue 15 = .ok (.iaload, 1) := by decide +kernel
theorem dX7_isTrue_16 : decode cX7_isTrue 16 = .ok (.aload_n 0, 1) := by decide +kernel
theorem dX7_isTrue_17 : decode cX7_isTrue 17 = .ok (.getfield 9, 3) := by decide +kernel
theorem dX7_isTrue_20 : decode cX7_isTrue 20 = .ok (.iconst 0, 1) := by decide +kernel
theorem dX7_isTrue_21 : decode cX7_isTrue 21 = .ok (.iaload, 1) := by decide +kernel
theorem dX7_isTrue_22 : decode cX7_isTrue 22 = .ok (.if_icmp .ne 16, 3) := by decide +kernel
theorem dX7_isTrue_25 : decode cX7_isTrue 25 = .ok (.aload_n 0, 1) := by decide +kernel
theorem dX7_isTrue_26 : decode cX7_isTrue 26 = .ok (.invokevirtual 83, 3) := by decide +kernel
theorem dX7_isTrue_29 : decode cX7_isTrue 29 = .ok (.bipush (-5), 2) := by decide +kernel
theorem dX7_isTrue_31 : decode cX7_isTrue 31 = .ok (.if_icmp .ne 7, 3) := by decide +kernel
theorem dX7_isTrue_34 : decode cX7_isTrue 34 = .ok (.iconst 1, 1) := by decide +kernel
theorem dX7_isTrue_35 : decode cX7_isTrue 35 = .ok (.goto 4, 3) := by decide +kernel
theorem dX7_isTrue_38 : decode cX7_isTrue 38 = .ok (.iconst 0, 1) := by decide +kernel
theorem dX7_isTrue_39 : decode cX7_isTrue 39 = .ok (.ireturn, 1) := by decide +kernel
set_option maxRecDepth 20000 in
theorem ggX7_course_X2_swapped : GoodIn wsX7_course wsX2_swapped := goodIn_r _ [7] (by decide +kernel) (by decide +kernel)
set_option maxRecDepth 20000 in
theorem gX7_course_X2_swapped : GoodIn wsX7_course (va_wsS RX7 77 yX2_swapped wsX2_swapped) := goodIn_app (goodIn_of _ (by decide +kernel)) ggX7_course_X2_swapped
theorem dX7_course_0 : decode cX7_course 0 = .ok (.aload_n 0, 1) := by decide +kernel
theorem dX7_course_1 : decode cX7_course 1 = .ok (.getfield 9, 3) := by decide +kernel
theorem dX7_course_4 : decode cX7_course 4 = .ok (.iconst 0, 1) := by decide +kernel
theorem dX7_course_5 : decode cX7_course 5 = .ok (.iaload, 1) := by decide +kernel
theorem dX7_course_6 : decode cX7_course 6 = .ok (.istore_n 1, 1) := by decide +kernel
theorem dX7_course_7 : decode cX7_course 7 = .ok (.iconst 1, 1) := by decide +kernel
theorem dX7_course_8 : decode cX7_course 8 = .ok (.istore_n 2, 1) := by decide +kernel
theorem dX7_course_9 : decode cX7_course 9 = .ok (.iload_n 2, 1) := by decide +kernel
theorem dX7_course_10 : decode cX7_course 10 = .ok (.bipush 15, 2) := by decide +kernel
theorem dX7_course_12 : decode cX7_course 12 = .ok (.if_icmp .gt 55, 3) := by decide +kernel
theorem dX7_course_15 : decode cX7_course 15 = .ok (.aload_n 0, 1) := by decide +kernel
theorem dX7_course_16 : decode cX7_course 16 = .ok (.getfield 19, 3) := by decide +kernel
theorem dX7_course_19 : decode cX7_course 19 = .ok (.ifCond .le 48, 3) := by decide +kernel
theorem dX7_course_22 : decode cX7_course 22 = .ok (.iconst 0, 1) := by decide +kernel
theorem dX7_course_23 : decode cX7_course 23 = .ok (.istore_n 3, 1) := by decide +kernel
theorem dX7_course_24 : decode cX7_course 24 = .ok (.iload_n 3, 1) := by decide +kernel
theorem dX7_course_25 : decode cX7_course 25 = .ok (.aload_n 0, 1) := by decide +kernel
theorem dX7_course_26 : decode cX7_course 26 = .ok (.getfield 19, 3) := by decide +kernel
theorem dX7_course_29 : decode cX7_course 29 = .ok (.if_icmp .ge 20, 3) := by decide +kernel
theorem dX7_course_32 : decode cX7_course 32 = .ok (.iload_n 1, 1) := by decide +kernel
theorem dX7_course_33 : decode cX7_course 33 = .ok (.aload_n 0, 1) := by decide +kernel
theorem dX7_course_34 : decode cX7_course 34 = .ok (.getfield 22, 3) := by decide +kernel
theorem dX7_course_37 : decode cX7_course 37 = .ok (.iload_n 3, 1) := by decide +kernel
theorem dX7_course_38 : decode cX7_course 38 = .ok (.iaload, 1) := by decide +kernel
theorem dX7_course_39 : decode cX7_course 39 = .ok (.invokestatic 77, 3) := by decide +kernel
theorem dX7_course_42 : decode cX7_course 42 = .ok (.istore_n 1, 1) := by decide +kernel
theorem dX7_course_43 : decode cX7_course 43 = .ok (.iinc 3 1, 3) := by decide +kernel
theorem dX7_course_46 : decode cX7_course 46 = .ok (.goto (-22), 3) := by decide +kernel
theorem dX7_course_49 : decode cX7_course 49 = .ok (.iload_n 1, 1) := by decide +kernel
theorem dX7_course_50 : decode cX7_course 50 = .ok (.aload_n 0, 1) := by decide +kernel
theorem dX7_course_51 : decode cX7_course 51 = .ok (.getfield 9, 3) := by decide +kernel
theorem dX7_course_54 : decode cX7_course 54 = .ok (.iconst 0, 1) := by decide +kernel
theorem dX7_course_55 : decode cX7_course 55 = .ok (.iaload, 1) := by decide +kernel
theorem dX7_course_56 : decode cX7_course 56 = .ok (.if_icmp .ne 5, 3) := by decide +kernel
theorem dX7_course_59 : decode cX7_course 59 = .ok (.iload_n 2, 1) := by decide +kernel
theorem dX7_course_60 : decode cX7_course 60 = .ok (.ireturn, 1) := by decide +kernel
theorem dX7_course_61 : decode cX7_course 61 = .ok (.iinc 2 1, 3) := by decide +kernel
theorem dX7_course_64 : decode cX7_course 64 = .ok (.goto (-55), 3) := by decide +kernel
theorem dX7_course_67 : decode cX7_course 67 = .ok (.iconst 0, 1) := by decide +kernel
theorem dX7_course_68 : decode cX7_course 68 = .ok (.ireturn, 1) := by decide +kernel
set_option maxRecDepth 20000 in
theorem ggX7_compare_X3_enter : GoodIn wsX7_compare wsX3_enter := goodIn_r _ [10, 11, 12, 13, 9, 14, 15, 28] (by decide +kernel) (by decide +kernel)
set_option maxRecDepth 20000 in
theorem gX7_compare_X3_enter : GoodIn wsX7_compare (wsV RX7 87 RX3 yX3_enter wsX3_enter) := goodIn_app (goodIn_of _ (by decide +kernel)) ggX7_compare_X3_enter
set_option maxRecDepth 20000 in
theorem ggX7_compare_X3_leave : GoodIn wsX7_compare wsX3_leave := goodIn_r _ [19, 11, 12, 13, 9, 14, 15, 28] (by decide +kernel) (by decide +kernel)
set_option maxRecDepth 20000 in
theorem gX7_compare_X3_leave : GoodIn wsX7_compare (wsV RX7 91 RX3 yX3_leave wsX3_leave) := goodIn_app (goodIn_of _ (by decide +kernel)) ggX7_compare_X3_leave
theorem dX7_compare_0 : decode cX7_compare 0 = .ok (.aload_n 0, 1) := by decide +kernel
theorem dX7_compare_1 : decode cX7_compare 1 = .ok (.getfield 38, 3) := by decide +kernel
theorem dX7_compare_4 : decode cX7_compare 4 = .ok (.ifCond .eq 4, 3) := by decide +kernel
theorem dX7_compare_7 : decode cX7_compare 7 = .ok (.return_, 1) := by decide +kernel
theorem dX7_compare_8 : decode cX7_compare 8 = .ok (.iconst 0, 1) := by decide +kernel
theorem dX7_compare_9 : decode cX7_compare 9 = .ok (.istore_n 1, 1) := by decide +kernel
theorem dX7_compare_10 : decode cX7_compare 10 = .ok (.iload_n 1, 1) := by decide +kernel
theorem dX7_compare_11 : decode cX7_compare 11 = .ok (.aload_n 0, 1) := by decide +kernel
theorem dX7_compare_12 : decode cX7_compare 12 = .ok (.getfield 15, 3) := by decide +kernel
theorem dX7_compare_15 : decode cX7_compare 15 = .ok (.if_icmp .gt 27, 3) := by decide +kernel
theorem dX7_compare_18 : decode cX7_compare 18 = .ok (.aload_n 0, 1) := by decide +kernel
theorem dX7_compare_19 : decode cX7_compare 19 = .ok (.getfield 28, 3) := by decide +kernel
theorem dX7_compare_22 : decode cX7_compare 22 = .ok (.iload_n 1, 1) := by decide +kernel
theorem dX7_compare_23 : decode cX7_compare 23 = .ok (.aload_n 0, 1) := by decide +kernel
theorem dX7_compare_24 : decode cX7_compare 24 = .ok (.getfield 34, 3) := by decide +kernel
theorem dX7_compare_27 : decode cX7_compare 27 = .ok (.aload_n 0, 1) := by decide +kernel
theorem dX7_compare_28 : decode cX7_compare 28 = .ok (.getfield 9, 3) := by decide +kernel
theorem dX7_compare_31 : decode cX7_compare 31 = .ok (.iload_n 1, 1) := by decide +kernel
theorem dX7_compare_32 : decode cX7_compare 32 = .ok (.invokevirtual 87, 3) := by decide +kernel
theorem dX7_compare_35 : decode cX7_compare 35 = .ok (.iastore, 1) := by decide +kernel
theorem dX7_compare_36 : decode cX7_compare 36 = .ok (.iinc 1 1, 3) := by decide +kernel
theorem dX7_compare_39 : decode cX7_compare 39 = .ok (.goto (-29), 3) := by decide +kernel
theorem dX7_compare_42 : decode cX7_compare 42 = .ok (.aload_n 0, 1) := by decide +kernel
theorem dX7_compare_43 : decode cX7_compare 43 = .ok (.getfield 15, 3) := by decide +kernel
theorem dX7_compare_46 : decode cX7_compare 46 = .ok (.istore_n 1, 1) := by decide +kernel
theorem dX7_compare_47 : decode cX7_compare 47 = .ok (.iload_n 1, 1) := by decide +kernel
theorem dX7_compare_48 : decode cX7_compare 48 = .ok (.ifCond .lt 21, 3) := by decide +kernel
theorem dX7_compare_51 : decode cX7_compare 51 = .ok (.aload_n 0, 1) := by decide +kernel
theorem dX7_compare_52 : decode cX7_compare 52 = .ok (.getfield 34, 3) := by decide +kernel
theorem dX7_compare_55 : decode cX7_compare 55 = .ok (.aload_n 0, 1) := by decide +kernel
theorem dX7_compare_56 : decode cX7_compare 56 = .ok (.getfield 9, 3) := by decide +kernel
theorem dX7_compare_59 : decode cX7_compare 59 = .ok (.iload_n 1, 1) := by decide +kernel
theorem dX7_compare_60 : decode cX7_compare 60 = .ok (.invokevirtual 91, 3) := by decide +kernel
theorem dX7_compare_63 : decode cX7_compare 63 = .ok (.iinc 1 (-1), 3) := by decide +kernel
theorem dX7_compare_66 : decode cX7_compare 66 = .ok (.goto (-19), 3) := by decide +kernel
theorem dX7_compare_69 : decode cX7_compare 69 = .ok (.aload_n 0, 1) := by decide +kernel
theorem dX7_compare_70 : decode cX7_compare 70 = .ok (.iconst 1, 1) := by decide +kernel
theorem dX7_compare_71 : decode cX7_compare 71 = .ok (.putfield 38, 3) := by decide +kernel
theorem dX7_compare_74 : decode cX7_compare 74 = .ok (.return_, 1) := by decide +kernel
set_option maxRecDepth 20000 in
theorem ggX8_init_X4_init : GoodIn wsX8_init wsX4_init := goodIn_r _ [30, 31, 2, 3, 32, 33, 34, 35, 36, 37, 38, 39, 40, 41, 42, 43, 44, 45, 46, 47, 48, 49, 50, 51, 52, 53, 54, 105, 106, 107, 108, 109, 110, 111, 112, 113, 114, 115, 152, 153, 154, 155] (by decide +kernel) (by decide +kernel)
set_option maxRecDepth 20000 in
theorem gX8_init_X4_init_n13 : GoodIn wsX8_init (wsX4_init) := ggX8_init_X4_init
set_option maxRecDepth 20000 in
theorem ggX8_init_X7_init : GoodIn wsX8_init wsX7_init := goodIn_r _ [56, 57, 2, 3, 33, 58, 59, 60, 61, 62, 63, 64, 65, 66, 67, 68, 69, 70, 71, 72, 126, 127, 128, 129, 130, 131, 132, 133, 156] (by decide +kernel) (by decide +kernel)
set_option maxRecDepth 20000 in
theorem gX8_init_X7_init_n26 : GoodIn wsX8_init (wsX7_init) := ggX8_init_X7_init
set_option maxRecDepth 20000 in
theorem ggX8_init_X0_init : GoodIn wsX8_init wsX0_init := goodIn_r _ [74, 75, 2, 3, 76, 77, 78, 11, 12, 79, 80, 65, 66, 81, 82, 83, 84, 85, 55, 56, 57, 33, 58, 59, 60, 61, 62, 63, 64, 67, 68, 69, 70, 71, 72, 134, 135, 136, 137, 138, 139, 140, 126, 127, 128, 129, 130, 131, 132, 133, 156] (by decide +kernel) (by decide +kernel)
set_option maxRecDepth 20000 in
theorem gX8_init_X0_init_n36 : GoodIn wsX8_init (wsX0_init) := ggX8_init_X0_init
set_option maxRecDepth 20000 in
theorem ggX8_init_X5_init : GoodIn wsX8_init wsX5_init := goodIn_r _ [87, 88, 2, 3, 89, 90, 91, 92, 33, 93, 94, 95, 96, 97, 141, 142, 143, 144, 145, 146, 147, 148] (by decide +kernel) (by decide +kernel)
set_option maxRecDepth 20000 in
theorem gX8_init_X5_init_n43 : GoodIn wsX8_init (wsX5_init) := ggX8_init_X5_init
set_option maxRecDepth 20000 in
theorem ggX8_init_X6_init : GoodIn wsX8_init wsX6_init := goodIn_r _ [99, 100, 2, 3, 101, 102, 103, 104, 149, 150, 151] (by decide +kernel) (by decide +kernel)
set_option maxRecDepth 20000 in
theorem gX8_init_X6_init_n61 : GoodIn wsX8_init (wsX6_init) := ggX8_init_X6_init
theorem dX8_init_0 : decode cX8_init 0 = .ok (.aload_n 0, 1) := by decide +kernel
theorem dX8_init_1 : decode cX8_init 1 = .ok (.invokespecial 5, 3) := by decide +kernel
theorem dX8_init_4 : decode cX8_init 4 = .ok (.aload_n 0, 1) := by decide +kernel
theorem dX8_init_5 : decode cX8_init 5 = .ok (.new 11, 3) := by decide +kernel
theorem dX8_init_8 : decode cX8_init 8 = .ok (.dup, 1) := by decide +kernel
theorem dX8_init_9 : decode cX8_init 9 = .ok (.invokespecial 13, 3) := by decide +kernel
theorem dX8_init_12 : decode cX8_init 12 = .ok (.putfield 14, 3) := by decide +kernel
theorem dX8_init_15 : decode cX8_init 15 = .ok (.aload_n 0, 1) := by decide +kernel
theorem dX8_init_16 : decode cX8_init 16 = .ok (.new 11, 3) := by decide +kernel
theorem dX8_init_19 : decode cX8_init 19 = .ok (.dup, 1) := by decide +kernel
theorem dX8_init_20 : decode cX8_init 20 = .ok (.invokespecial 13, 3) := by decide +kernel
theorem dX8_init_23 : decode cX8_init 23 = .ok (.putfield 18, 3) := by decide +kernel
theorem dX8_init_26 : decode cX8_init 26 = .ok (.aload_n 0, 1) := by decide +kernel
theorem dX8_init_27 : decode cX8_init 27 = .ok (.new 11, 3) := by decide +kernel
theorem dX8_init_30 : decode cX8_init 30 = .ok (.dup, 1) := by decide +kernel
theorem dX8_init_31 : decode cX8_init 31 = .ok (.invokespecial 13, 3) := by decide +kernel
theorem dX8_init_34 : decode cX8_init 34 = .ok (.putfield 21, 3) := by decide +kernel
theorem dX8_init_37 : decode cX8_init 37 = .ok (.aload_n 0, 1) := by decide +kernel
theorem dX8_init_38 : decode cX8_init 38 = .ok (.new 24, 3) := by decide +kernel
theorem dX8_init_41 : decode cX8_init 41 = .ok (.dup, 1) := by decide +kernel
theorem dX8_init_42 : decode cX8_init 42 = .ok (.invokespecial 26, 3) := by decide +kernel
theorem dX8_init_45 : decode cX8_init 45 = .ok (.putfield 27, 3) := by decide +kernel
theorem dX8_init_48 : decode cX8_init 48 = .ok (.aload_n 0, 1) := by decide +kernel
theorem dX8_init_49 : decode cX8_init 49 = .ok (.new 24, 3) := by decide +kernel
theorem dX8_init_52 : decode cX8_init 52 = .ok (.dup, 1) := by decide +kernel
theorem dX8_init_53 : decode cX8_init 53 = .ok (.invokespecial 26, 3) := by decide +kernel
theorem dX8_init_56 : decode cX8_init 56 = .ok (.putfield 31, 3) := by decide +kernel
theorem dX8_init_59 : decode cX8_init 59 = .ok (.aload_n 0, 1) := by decide +kernel
theorem dX8_init_60 : decode cX8_init 60 = .ok (.new 34, 3) := by decide +kernel
theorem dX8_init_63 : decode cX8_init 63 = .ok (.dup, 1) := by decide +kernel
theorem dX8_init_64 : decode cX8_init 64 = .ok (.invokespecial 36, 3) := by decide +kernel
theorem dX8_init_67 : decode cX8_init 67 = .ok (.putfield 37, 3) := by decide +kernel
theorem dX8_init_70 : decode cX8_init 70 = .ok (.aload_n 0, 1) := by decide +kernel
theorem dX8_init_71 : decode cX8_init 71 = .ok (.new 41, 3) := by decide +kernel
theorem dX8_init_74 : decode cX8_init 74 = .ok (.dup, 1) := by decide +kernel
theorem dX8_init_75 : decode cX8_init 75 = .ok (.invokespecial 43, 3) := by decide +kernel
theorem dX8_init_78 : decode cX8_init 78 = .ok (.putfield 44, 3) := by decide +kernel
theorem dX8_init_81 : decode cX8_init 81 = .ok (.aload_n 0, 1) := by decide +kernel
theorem dX8_init_82 : decode cX8_init 82 = .ok (.bipush 6, 2) := by decide +kernel
theorem dX8_init_84 : decode cX8_init 84 = .ok (.anewarray 48, 3) := by decide +kernel
theorem dX8_init_87 : decode cX8_init 87 = .ok (.putfield 50, 3) := by decide +kernel
theorem dX8_init_90 : decode cX8_init 90 = .ok (.aload_n 0, 1) := by decide +kernel
theorem dX8_init_91 : decode cX8_init 91 = .ok (.iconst 0, 1) := by decide +kernel
theorem dX8_init_92 : decode cX8_init 92 = .ok (.putfield 54, 3) := by decide +kernel
theorem dX8_init_95 : decode cX8_init 95 = .ok (.aload_n 0, 1) := by decide +kernel
theorem dX8_init_96 : decode cX8_init 96 = .ok (.iconst 1, 1) := by decide +kernel
theorem dX8_init_97 : decode cX8_init 97 = .ok (.putfield 58, 3) := by decide +kernel
theorem dX8_init_100 : decode cX8_init 100 = .ok (.iconst 0, 1) := by decide +kernel
theorem dX8_init_101 : decode cX8_init 101 = .ok (.istore_n 1, 1) := by decide +kernel
theorem dX8_init_102 : decode cX8_init 102 = .ok (.iload_n 1, 1) := by decide +kernel
theorem dX8_init_103 : decode cX8_init 103 = .ok (.bipush 6, 2) := by decide +kernel
theorem dX8_init_105 : decode cX8_init 105 = .ok (.if_icmp .ge 22, 3) := by decide +kernel
theorem dX8_init_108 : decode cX8_init 108 = .ok (.aload_n 0, 1) := by decide +kernel
theorem dX8_init_109 : decode cX8_init 109 = .ok (.getfield 50, 3) := by decide +kernel
theorem dX8_init_112 : decode cX8_init 112 = .ok (.iload_n 1, 1) := by decide +kernel
theorem dX8_init_113 : decode cX8_init 113 = .ok (.new 48, 3) := by decide +kernel
theorem dX8_init_116 : decode cX8_init 116 = .ok (.dup, 1) := by decide +kernel
theorem dX8_init_117 : decode cX8_init 117 = .ok (.invokespecial 61, 3) := by decide +kernel
theorem dX8_init_120 : decode cX8_init 120 = .ok (.aastore, 1) := by decide +kernel
theorem dX8_init_121 : decode cX8_init 121 = .ok (.iinc 1 1, 3) := by decide +kernel
theorem dX8_init_124 : decode cX8_init 124 = .ok (.goto (-22), 3) := by decide +kernel
theorem dX8_init_127 : decode cX8_init 127 = .ok (.return_, 1) := by decide +kernel
set_option maxRecDepth 20000 in
theorem ggX8_bells_X4_begin : GoodIn wsX8_bells wsX4_begin := goodIn_r _ [8, 9, 10, 11, 12, 13, 14, 15, 16, 17, 18, 19, 30, 31, 32, 33, 34, 35, 36, 37, 38, 39, 40, 41, 42, 43, 44] (by decide +kernel) (by decide +kernel)
set_option maxRecDepth 20000 in
theorem gX8_bells_X4_begin : GoodIn wsX8_bells (wsV RX8 66 RX4 yX4_begin wsX4_begin) := goodIn_app (goodIn_of _ (by decide +kernel)) ggX8_bells_X4_begin
theorem dX8_bells_0 : decode cX8_bells 0 = .ok (.iload_n 1, 1) := by decide +kernel
theorem dX8_bells_1 : decode cX8_bells 1 = .ok (.iconst 4, 1) := by decide +kernel
theorem dX8_bells_2 : decode cX8_bells 2 = .ok (.if_icmp .lt 9, 3) := by decide +kernel
theorem dX8_bells_5 : decode cX8_bells 5 = .ok (.iload_n 1, 1) := by decide +kernel
theorem dX8_bells_6 : decode cX8_bells 6 = .ok (.bipush 8, 2) := by decide +kernel
theorem dX8_bells_8 : decode cX8_bells 8 = .ok (.if_icmp .le 6, 3) := by decide +kernel
theorem dX8_bells_11 : decode cX8_bells 11 = .ok (.bipush (-2), 2) := by decide +kernel
theorem dX8_bells_13 : decode cX8_bells 13 = .ok (.ireturn, 1) := by decide +kernel
theorem dX8_bells_14 : decode cX8_bells 14 = .ok (.aload_n 0, 1) := by decide +kernel
theorem dX8_bells_15 : decode cX8_bells 15 = .ok (.getfield 14, 3) := by decide +kernel
theorem dX8_bells_18 : decode cX8_bells 18 = .ok (.getfield 62, 3) := by decide +kernel
theorem dX8_bells_21 : decode cX8_bells 21 = .ok (.istore_n 2, 1) := by decide +kernel
theorem dX8_bells_22 : decode cX8_bells 22 = .ok (.aload_n 0, 1) := by decide +kernel
theorem dX8_bells_23 : decode cX8_bells 23 = .ok (.getfield 14, 3) := by decide +kernel
theorem dX8_bells_26 : decode cX8_bells 26 = .ok (.iload_n 1, 1) := by decide +kernel
theorem dX8_bells_27 : decode cX8_bells 27 = .ok (.invokevirtual 66, 3) := by decide +kernel
theorem dX8_bells_30 : decode cX8_bells 30 = .ok (.aload_n 0, 1) := by decide +kernel
theorem dX8_bells_31 : decode cX8_bells 31 = .ok (.iconst 1, 1) := by decide +kernel
theorem dX8_bells_32 : decode cX8_bells 32 = .ok (.putfield 58, 3) := by decide +kernel
theorem dX8_bells_35 : decode cX8_bells 35 = .ok (.iload_n 2, 1) := by decide +kernel
theorem dX8_bells_36 : decode cX8_bells 36 = .ok (.ireturn, 1) := by decide +kernel
set_option maxRecDepth 20000 in
theorem ggX8_change_X8_isPlaces : GoodIn wsX8_change wsX8_isPlaces := goodIn_r _ [10, 1, 2, 21, 22, 23, 24, 25, 26, 27, 28, 29, 30, 31, 32, 33, 34, 35, 36, 37, 38, 39, 40, 41] (by decide +kernel) (by decide +kernel)
set_option maxRecDepth 20000 in
theorem gX8_change_X8_isPlaces : GoodIn wsX8_change (wsV RX8 70 RX8 yX8_isPlaces wsX8_isPlaces) := goodIn_app (goodIn_of _ (by decide +kernel)) ggX8_change_X8_isPlaces
set_option maxRecDepth 20000 in
theorem ggX8_change_X2_isGood : GoodIn wsX8_change wsX2_isGood := goodIn_r _ [14, 15, 16, 13, 17, 18, 19, 20] (by decide +kernel) (by decide +kernel)
set_option maxRecDepth 20000 in
theorem gX8_change_X2_isGood : GoodIn wsX8_change (va_wsS RX8 74 yX2_isGood wsX2_isGood) := goodIn_app (goodIn_of _ (by decide +kernel)) ggX8_change_X2_isGood
theorem dX8_change_0 : decode cX8_change 0 = .ok (.aload_n 0, 1) := by decide +kernel
theorem dX8_change_1 : decode cX8_change 1 = .ok (.iload_n 1, 1) := by decide +kernel
theorem dX8_change_2 : decode cX8_change 2 = .ok (.invokevirtual 70, 3) := by decide +kernel
theorem dX8_change_5 : decode cX8_change 5 = .ok (.ifCond .ne 6, 3) := by decide +kernel
theorem dX8_change_8 : decode cX8_change 8 = .ok (.bipush (-2), 2) := by decide +kernel
theorem dX8_change_10 : decode cX8_change 10 = .ok (.ireturn, 1) := by decide +kernel
theorem dX8_change_11 : decode cX8_change 11 = .ok (.aload_n 0, 1) := by decide +kernel
theorem dX8_change_12 : decode cX8_change 12 = .ok (.getfield 14, 3) := by decide +kernel
theorem dX8_change_15 : decode cX8_change 15 = .ok (.getfield 62, 3) := by decide +kernel
theorem dX8_change_18 : decode cX8_change 18 = .ok (.iload_n 1, 1) := by decide +kernel
theorem dX8_change_19 : decode cX8_change 19 = .ok (.invokestatic 74, 3) := by decide +kernel
theorem dX8_change_22 : decode cX8_change 22 = .ok (.ifCond .ne 6, 3) := by decide +kernel
theorem dX8_change_25 : decode cX8_change 25 = .ok (.bipush (-3), 2) := by decide +kernel
theorem dX8_change_27 : decode cX8_change 27 = .ok (.ireturn, 1) := by decide +kernel
theorem dX8_change_28 : decode cX8_change 28 = .ok (.aload_n 0, 1) := by decide +kernel
theorem dX8_change_29 : decode cX8_change 29 = .ok (.getfield 14, 3) := by decide +kernel
theorem dX8_change_32 : decode cX8_change 32 = .ok (.getfield 80, 3) := by decide +kernel
theorem dX8_change_35 : decode cX8_change 35 = .ok (.bipush 16, 2) := by decide +kernel
theorem dX8_change_37 : decode cX8_change 37 = .ok (.if_icmp .lt 6, 3) := by decide +kernel
theorem dX8_change_40 : decode cX8_change 40 = .ok (.bipush (-4), 2) := by decide +kernel
theorem dX8_change_42 : decode cX8_change 42 = .ok (.ireturn, 1) := by decide +kernel
theorem dX8_change_43 : decode cX8_change 43 = .ok (.aload_n 0, 1) := by decide +kernel
theorem dX8_change_44 : decode cX8_change 44 = .ok (.getfield 14, 3) := by decide +kernel
theorem dX8_change_47 : decode cX8_change 47 = .ok (.getfield 83, 3) := by decide +kernel
theorem dX8_change_50 : decode cX8_change 50 = .ok (.aload_n 0, 1) := by decide +kernel
theorem dX8_change_51 : decode cX8_change 51 = .ok (.getfield 14, 3) := by decide +kernel
theorem dX8_change_54 : decode cX8_change 54 = .ok (.getfield 80, 3) := by decide +kernel
theorem dX8_change_57 : decode cX8_change 57 = .ok (.iload_n 1, 1) := by decide +kernel
theorem dX8_change_58 : decode cX8_change 58 = .ok (.iastore, 1) := by decide +kernel
theorem dX8_change_59 : decode cX8_change 59 = .ok (.aload_n 0, 1) := by decide +kernel
theorem dX8_change_60 : decode cX8_change 60 = .ok (.getfield 14, 3) := by decide +kernel
theorem dX8_change_63 : decode cX8_change 63 = .ok (.dup, 1) := by decide +kernel
theorem dX8_change_64 : decode cX8_change 64 = .ok (.getfield 80, 3) := by decide +kernel
theorem dX8_change_67 : decode cX8_change 67 = .ok (.iconst 1, 1) := by decide +kernel
theorem dX8_change_68 : decode cX8_change 68 = .ok (.iadd, 1) := by decide +kernel
theorem dX8_change_69 : decode cX8_change 69 = .ok (.putfield 80, 3) := by decide +kernel
theorem dX8_change_72 : decode cX8_change 72 = .ok (.aload_n 0, 1) := by decide +kernel
theorem dX8_change_73 : decode cX8_change 73 = .ok (.iconst 1, 1) := by decide +kernel
theorem dX8_change_74 : decode cX8_change 74 = .ok (.putfield 58, 3) := by decide +kernel
theorem dX8_change_77 : decode cX8_change 77 = .ok (.aload_n 0, 1) := by decide +kernel
theorem dX8_change_78 : decode cX8_change 78 = .ok (.getfield 14, 3) := by decide +kernel
theorem dX8_change_81 : decode cX8_change 81 = .ok (.getfield 80, 3) := by decide +kernel
theorem dX8_change_84 : decode cX8_change 84 = .ok (.ireturn, 1) := by decide +kernel
set_option maxRecDepth 20000 in
theorem ggX8_calls_X8_isPlaces : GoodIn wsX8_calls wsX8_isPlaces := goodIn_r _ [8, 1, 2, 30, 31, 32, 33, 34, 35, 36, 37, 38, 39, 40, 41, 42, 43, 44, 45, 46, 47, 48, 49, 50] (by decide +kernel) (by decide +kernel)
set_option maxRecDepth 20000 in
theorem gX8_calls_X8_isPlaces : GoodIn wsX8_calls (wsV RX8 70 RX8 yX8_isPlaces wsX8_isPlaces) := goodIn_app (goodIn_of _ (by decide +kernel)) ggX8_calls_X8_isPlaces
set_option maxRecDepth 20000 in
theorem ggX8_calls_X2_isGood : GoodIn wsX8_calls wsX2_isGood := goodIn_r _ [12, 13, 14, 11, 15, 16, 17, 18] (by decide +kernel) (by decide +kernel)
set_option maxRecDepth 20000 in
theorem gX8_calls_X2_isGood : GoodIn wsX8_calls (va_wsS RX8 74 yX2_isGood wsX2_isGood) := goodIn_app (goodIn_of _ (by decide +kernel)) ggX8_calls_X2_isGood
set_option maxRecDepth 20000 in
theorem ggX8_calls_X4_calledChange : GoodIn wsX8_calls wsX4_calledChange := goodIn_r _ [23, 24, 25, 40, 41, 42, 43, 44, 45, 46, 47, 48, 49, 50] (by decide +kernel) (by decide +kernel)
set_option maxRecDepth 20000 in
theorem gX8_calls_X4_calledChange : GoodIn wsX8_calls (wsV RX8 87 RX4 yX4_calledChange wsX4_calledChange) := goodIn_app (goodIn_of _ (by decide +kernel)) ggX8_calls_X4_calledChange
set_option maxRecDepth 20000 in
theorem ggX8_calls_X4_setCalledChange : GoodIn wsX8_calls wsX4_setCalledChange := goodIn_r _ [29, 24, 25, 40, 41, 42, 43, 44, 45, 46, 47, 48, 49, 50] (by decide +kernel) (by decide +kernel)
set_option maxRecDepth 20000 in
theorem gX8_calls_X4_setCalledChange : GoodIn wsX8_calls (wsV RX8 91 RX4 yX4_setCalledChange wsX4_setCalledChange) := goodIn_app (goodIn_of _ (by decide +kernel)) ggX8_calls_X4_setCalledChange
theorem dX8_calls_0 : decode cX8_calls 0 = .ok (.iload_n 1, 1) := by decide +kernel
theorem dX8_calls_1 : decode cX8_calls 1 = .ok (.iconst 1, 1) := by decide +kernel
theorem dX8_calls_2 : decode cX8_calls 2 = .ok (.if_icmp .eq 10, 3) := by decide +kernel
theorem dX8_calls_5 : decode cX8_calls 5 = .ok (.iload_n 1, 1) := by decide +kernel
theorem dX8_calls_6 : decode cX8_calls 6 = .ok (.iconst 2, 1) := by decide +kernel
theorem dX8_calls_7 : decode cX8_calls 7 = .ok (.if_icmp .eq 5, 3) := by decide +kernel
theorem dX8_calls_10 : decode cX8_calls 10 = .ok (.iconst (-1), 1) := by decide +kernel
theorem dX8_calls_11 : decode cX8_calls 11 = .ok (.ireturn, 1) := by decide +kernel
theorem dX8_calls_12 : decode cX8_calls 12 = .ok (.iload_n 2, 1) := by decide +kernel
theorem dX8_calls_13 : decode cX8_calls 13 = .ok (.iconst (-1), 1) := by decide +kernel
theorem dX8_calls_14 : decode cX8_calls 14 = .ok (.if_icmp .eq 31, 3) := by decide +kernel
theorem dX8_calls_17 : decode cX8_calls 17 = .ok (.aload_n 0, 1) := by decide +kernel
theorem dX8_calls_18 : decode cX8_calls 18 = .ok (.iload_n 2, 1) := by decide +kernel
theorem dX8_calls_19 : decode cX8_calls 19 = .ok (.invokevirtual 70, 3) := by decide +kernel
theorem dX8_calls_22 : decode cX8_calls 22 = .ok (.ifCond .ne 6, 3) := by decide +kernel
theorem dX8_calls_25 : decode cX8_calls 25 = .ok (.bipush (-2), 2) := by decide +kernel
theorem dX8_calls_27 : decode cX8_calls 27 = .ok (.ireturn, 1) := by decide +kernel
theorem dX8_calls_28 : decode cX8_calls 28 = .ok (.aload_n 0, 1) := by decide +kernel
theorem dX8_calls_29 : decode cX8_calls 29 = .ok (.getfield 14, 3) := by decide +kernel
theorem dX8_calls_32 : decode cX8_calls 32 = .ok (.getfield 62, 3) := by decide +kernel
theorem dX8_calls_35 : decode cX8_calls 35 = .ok (.iload_n 2, 1) := by decide +kernel
theorem dX8_calls_36 : decode cX8_calls 36 = .ok (.invokestatic 74, 3) := by decide +kernel
theorem dX8_calls_39 : decode cX8_calls 39 = .ok (.ifCond .ne 6, 3) := by decide +kernel
theorem dX8_calls_42 : decode cX8_calls 42 = .ok (.bipush (-3), 2) := by decide +kernel
theorem dX8_calls_44 : decode cX8_calls 44 = .ok (.ireturn, 1) := by decide +kernel
theorem dX8_calls_45 : decode cX8_calls 45 = .ok (.aload_n 0, 1) := by decide +kernel
theorem dX8_calls_46 : decode cX8_calls 46 = .ok (.getfield 14, 3) := by decide +kernel
theorem dX8_calls_49 : decode cX8_calls 49 = .ok (.iload_n 1, 1) := by decide +kernel
theorem dX8_calls_50 : decode cX8_calls 50 = .ok (.invokevirtual 87, 3) := by decide +kernel
theorem dX8_calls_53 : decode cX8_calls 53 = .ok (.istore_n 3, 1) := by decide +kernel
theorem dX8_calls_54 : decode cX8_calls 54 = .ok (.aload_n 0, 1) := by decide +kernel
theorem dX8_calls_55 : decode cX8_calls 55 = .ok (.getfield 14, 3) := by decide +kernel
theorem dX8_calls_58 : decode cX8_calls 58 = .ok (.iload_n 1, 1) := by decide +kernel
theorem dX8_calls_59 : decode cX8_calls 59 = .ok (.iload_n 2, 1) := by decide +kernel
theorem dX8_calls_60 : decode cX8_calls 60 = .ok (.invokevirtual 91, 3) := by decide +kernel
theorem dX8_calls_63 : decode cX8_calls 63 = .ok (.aload_n 0, 1) := by decide +kernel
theorem dX8_calls_64 : decode cX8_calls 64 = .ok (.iconst 1, 1) := by decide +kernel
theorem dX8_calls_65 : decode cX8_calls 65 = .ok (.putfield 58, 3) := by decide +kernel
theorem dX8_calls_68 : decode cX8_calls 68 = .ok (.iload_n 3, 1) := by decide +kernel
theorem dX8_calls_69 : decode cX8_calls 69 = .ok (.iconst (-1), 1) := by decide +kernel
theorem dX8_calls_70 : decode cX8_calls 70 = .ok (.if_icmp .ne 7, 3) := by decide +kernel
theorem dX8_calls_73 : decode cX8_calls 73 = .ok (.iconst 0, 1) := by decide +kernel
theorem dX8_calls_74 : decode cX8_calls 74 = .ok (.goto 4, 3) := by decide +kernel
theorem dX8_calls_77 : decode cX8_calls 77 = .ok (.iconst 1, 1) := by decide +kernel
theorem dX8_calls_78 : decode cX8_calls 78 = .ok (.ireturn, 1) := by decide +kernel
set_option maxRecDepth 20000 in
theorem ggX8_call_X8_isLead : GoodIn wsX8_call wsX8_isLead := goodIn_r _ [7] (by decide +kernel) (by decide +kernel)
set_option maxRecDepth 20000 in
theorem gX8_call_X8_isLead : GoodIn wsX8_call (va_wsS RX8 95 yX8_isLead wsX8_isLead) := goodIn_app (goodIn_of _ (by decide +kernel)) ggX8_call_X8_isLead
theorem dX8_call_0 : decode cX8_call 0 = .ok (.iload_n 1, 1) := by decide +kernel
theorem dX8_call_1 : decode cX8_call 1 = .ok (.invokestatic 95, 3) := by decide +kernel
theorem dX8_call_4 : decode cX8_call 4 = .ok (.ifCond .ne 5, 3) := by decide +kernel
theorem dX8_call_7 : decode cX8_call 7 = .ok (.iconst (-1), 1) := by decide +kernel
theorem dX8_call_8 : decode cX8_call 8 = .ok (.ireturn, 1) := by decide +kernel
theorem dX8_call_9 : decode cX8_call 9 = .ok (.iload_n 2, 1) := by decide +kernel
theorem dX8_call_10 : decode cX8_call 10 = .ok (.ifCond .lt 8, 3) := by decide +kernel
theorem dX8_call_13 : decode cX8_call 13 = .ok (.iload_n 2, 1) := by decide +kernel
theorem dX8_call_14 : decode cX8_call 14 = .ok (.iconst 2, 1) := by decide +kernel
theorem dX8_call_15 : decode cX8_call 15 = .ok (.if_icmp .le 6, 3) := by decide +kernel
theorem dX8_call_18 : decode cX8_call 18 = .ok (.bipush (-2), 2) := by decide +kernel
theorem dX8_call_20 : decode cX8_call 20 = .ok (.ireturn, 1) := by decide +kernel
theorem dX8_call_21 : decode cX8_call 21 = .ok (.aload_n 0, 1) := by decide +kernel
theorem dX8_call_22 : decode cX8_call 22 = .ok (.getfield 14, 3) := by decide +kernel
theorem dX8_call_25 : decode cX8_call 25 = .ok (.getfield 98, 3) := by decide +kernel
theorem dX8_call_28 : decode cX8_call 28 = .ok (.iload_n 1, 1) := by decide +kernel
theorem dX8_call_29 : decode cX8_call 29 = .ok (.iaload, 1) := by decide +kernel
theorem dX8_call_30 : decode cX8_call 30 = .ok (.istore_n 3, 1) := by decide +kernel
theorem dX8_call_31 : decode cX8_call 31 = .ok (.aload_n 0, 1) := by decide +kernel
theorem dX8_call_32 : decode cX8_call 32 = .ok (.getfield 14, 3) := by decide +kernel
theorem dX8_call_35 : decode cX8_call 35 = .ok (.getfield 98, 3) := by decide +kernel
theorem dX8_call_38 : decode cX8_call 38 = .ok (.iload_n 1, 1) := by decide +kernel
theorem dX8_call_39 : decode cX8_call 39 = .ok (.iload_n 2, 1) := by decide +kernel
theorem dX8_call_40 : decode cX8_call 40 = .ok (.iastore, 1) := by decide +kernel
theorem dX8_call_41 : decode cX8_call 41 = .ok (.aload_n 0, 1) := by decide +kernel
theorem dX8_call_42 : decode cX8_call 42 = .ok (.iconst 1, 1) := by decide +kernel
theorem dX8_call_43 : decode cX8_call 43 = .ok (.putfield 58, 3) := by decide +kernel
theorem dX8_call_46 : decode cX8_call 46 = .ok (.iload_n 3, 1) := by decide +kernel
theorem dX8_call_47 : decode cX8_call 47 = .ok (.ireturn, 1) := by decide +kernel
theorem dX8_leads_0 : decode cX8_leads 0 = .ok (.iload_n 1, 1) := by decide +kernel
theorem dX8_leads_1 : decode cX8_leads 1 = .ok (.iconst 1, 1) := by decide +kernel
theorem dX8_leads_2 : decode cX8_leads 2 = .ok (.if_icmp .lt 9, 3) := by decide +kernel
theorem dX8_leads_5 : decode cX8_leads 5 = .ok (.iload_n 1, 1) := by decide +kernel
theorem dX8_leads_6 : decode cX8_leads 6 = .ok (.bipush 12, 2) := by decide +kernel
theorem dX8_leads_8 : decode cX8_leads 8 = .ok (.if_icmp .le 6, 3) := by decide +kernel
theorem dX8_leads_11 : decode cX8_leads 11 = .ok (.bipush (-2), 2) := by decide +kernel
theorem dX8_leads_13 : decode cX8_leads 13 = .ok (.ireturn, 1) := by decide +kernel
theorem dX8_leads_14 : decode cX8_leads 14 = .ok (.aload_n 0, 1) := by decide +kernel
theorem dX8_leads_15 : decode cX8_leads 15 = .ok (.getfield 14, 3) := by decide +kernel
theorem dX8_leads_18 : decode cX8_leads 18 = .ok (.getfield 101, 3) := by decide +kernel
theorem dX8_leads_21 : decode cX8_leads 21 = .ok (.istore_n 2, 1) := by decide +kernel
theorem dX8_leads_22 : decode cX8_leads 22 = .ok (.aload_n 0, 1) := by decide +kernel
theorem dX8_leads_23 : decode cX8_leads 23 = .ok (.getfield 14, 3) := by decide +kernel
theorem dX8_leads_26 : decode cX8_leads 26 = .ok (.iload_n 1, 1) := by decide +kernel
theorem dX8_leads_27 : decode cX8_leads 27 = .ok (.putfield 101, 3) := by decide +kernel
theorem dX8_leads_30 : decode cX8_leads 30 = .ok (.aload_n 0, 1) := by decide +kernel
theorem dX8_leads_31 : decode cX8_leads 31 = .ok (.iconst 1, 1) := by decide +kernel
theorem dX8_leads_32 : decode cX8_leads 32 = .ok (.putfield 58, 3) := by decide +kernel
theorem dX8_leads_35 : decode cX8_leads 35 = .ok (.iload_n 2, 1) := by decide +kernel
theorem dX8_leads_36 : decode cX8_leads 36 = .ok (.ireturn, 1) := by decide +kernel
theorem dX8_pattern_0 : decode cX8_pattern 0 = .ok (.iload_n 1, 1) := by decide +kernel
theorem dX8_pattern_1 : decode cX8_pattern 1 = .ok (.iconst 1, 1) := by decide +kernel
theorem dX8_pattern_2 : decode cX8_pattern 2 = .ok (.if_icmp .lt 9, 3) := by decide +kernel
theorem dX8_pattern_5 : decode cX8_pattern 5 = .ok (.iload_n 1, 1) := by decide +kernel
theorem dX8_pattern_6 : decode cX8_pattern 6 = .ok (.bipush 8, 2) := by decide +kernel
theorem dX8_pattern_8 : decode cX8_pattern 8 = .ok (.if_icmp .le 5, 3) := by decide +kernel
theorem dX8_pattern_11 : decode cX8_pattern 11 = .ok (.iconst (-1), 1) := by decide +kernel
theorem dX8_pattern_12 : decode cX8_pattern 12 = .ok (.ireturn, 1) := by decide +kernel
theorem dX8_pattern_13 : decode cX8_pattern 13 = .ok (.iload_n 2, 1) := by decide +kernel
theorem dX8_pattern_14 : decode cX8_pattern 14 = .ok (.ifCond .lt 9, 3) := by decide +kernel
theorem dX8_pattern_17 : decode cX8_pattern 17 = .ok (.iload_n 2, 1) := by decide +kernel
theorem dX8_pattern_18 : decode cX8_pattern 18 = .ok (.bipush 8, 2) := by decide +kernel
theorem dX8_pattern_20 : decode cX8_pattern 20 = .ok (.if_icmp .le 6, 3) := by decide +kernel
theorem dX8_pattern_23 : decode cX8_pattern 23 = .ok (.bipush (-2), 2) := by decide +kernel
theorem dX8_pattern_25 : decode cX8_pattern 25 = .ok (.ireturn, 1) := by decide +kernel
theorem dX8_pattern_26 : decode cX8_pattern 26 = .ok (.aload_n 0, 1) := by decide +kernel
theorem dX8_pattern_27 : decode cX8_pattern 27 = .ok (.getfield 14, 3) := by decide +kernel
theorem dX8_pattern_30 : decode cX8_pattern 30 = .ok (.getfield 104, 3) := by decide +kernel
theorem dX8_pattern_33 : decode cX8_pattern 33 = .ok (.iload_n 1, 1) := by decide +kernel
theorem dX8_pattern_34 : decode cX8_pattern 34 = .ok (.iconst 1, 1) := by decide +kernel
theorem dX8_pattern_35 : decode cX8_pattern 35 = .ok (.isub, 1) := by decide +kernel
theorem dX8_pattern_36 : decode cX8_pattern 36 = .ok (.iaload, 1) := by decide +kernel
theorem dX8_pattern_37 : decode cX8_pattern 37 = .ok (.istore_n 3, 1) := by decide +kernel
theorem dX8_pattern_38 : decode cX8_pattern 38 = .ok (.aload_n 0, 1) := by decide +kernel
theorem dX8_pattern_39 : decode cX8_pattern 39 = .ok (.getfield 14, 3) := by decide +kernel
theorem dX8_pattern_42 : decode cX8_pattern 42 = .ok (.getfield 104, 3) := by decide +kernel
theorem dX8_pattern_45 : decode cX8_pattern 45 = .ok (.iload_n 1, 1) := by decide +kernel
theorem dX8_pattern_46 : decode cX8_pattern 46 = .ok (.iconst 1, 1) := by decide +kernel
theorem dX8_pattern_47 : decode cX8_pattern 47 = .ok (.isub, 1) := by decide +kernel
theorem dX8_pattern_48 : decode cX8_pattern 48 = .ok (.iload_n 2, 1) := by decide +kernel
theorem dX8_pattern_49 : decode cX8_pattern 49 = .ok (.iastore, 1) := by decide +kernel
theorem dX8_pattern_50 : decode cX8_pattern 50 = .ok (.iload_n 3, 1) := by decide +kernel
theorem dX8_pattern_51 : decode cX8_pattern 51 = .ok (.ireturn, 1) := by decide +kernel
set_option maxRecDepth 20000 in
theorem ggX8_feed_X5_append : GoodIn wsX8_feed wsX5_append := goodIn_r _ [7, 8, 9, 20, 21, 22, 23, 24, 25, 26, 27] (by decide +kernel) (by decide +kernel)
set_option maxRecDepth 20000 in
theorem gX8_feed_X5_append : GoodIn wsX8_feed (wsV RX8 107 RX5 yX5_append wsX5_append) := goodIn_app (goodIn_of _ (by decide +kernel)) ggX8_feed_X5_append
theorem dX8_feed_0 : decode cX8_feed 0 = .ok (.iload_n 1, 1) := by decide +kernel
theorem dX8_feed_1 : decode cX8_feed 1 = .ok (.ifCond .lt 9, 3) := by decide +kernel
theorem dX8_feed_4 : decode cX8_feed 4 = .ok (.iload_n 1, 1) := by decide +kernel
theorem dX8_feed_5 : decode cX8_feed 5 = .ok (.bipush 127, 2) := by decide +kernel
theorem dX8_feed_7 : decode cX8_feed 7 = .ok (.if_icmp .le 6, 3) := by decide +kernel
theorem dX8_feed_10 : decode cX8_feed 10 = .ok (.bipush (-2), 2) := by decide +kernel
theorem dX8_feed_12 : decode cX8_feed 12 = .ok (.ireturn, 1) := by decide +kernel
theorem dX8_feed_13 : decode cX8_feed 13 = .ok (.aload_n 0, 1) := by decide +kernel
theorem dX8_feed_14 : decode cX8_feed 14 = .ok (.getfield 44, 3) := by decide +kernel
theorem dX8_feed_17 : decode cX8_feed 17 = .ok (.iload_n 1, 1) := by decide +kernel
theorem dX8_feed_18 : decode cX8_feed 18 = .ok (.invokevirtual 107, 3) := by decide +kernel
theorem dX8_feed_21 : decode cX8_feed 21 = .ok (.ifCond .eq 13, 3) := by decide +kernel
theorem dX8_feed_24 : decode cX8_feed 24 = .ok (.aload_n 0, 1) := by decide +kernel
theorem dX8_feed_25 : decode cX8_feed 25 = .ok (.getfield 44, 3) := by decide +kernel
theorem dX8_feed_28 : decode cX8_feed 28 = .ok (.getfield 110, 3) := by decide +kernel
theorem dX8_feed_31 : decode cX8_feed 31 = .ok (.goto 5, 3) := by decide +kernel
theorem dX8_feed_34 : decode cX8_feed 34 = .ok (.bipush (-4), 2) := by decide +kernel
theorem dX8_feed_36 : decode cX8_feed 36 = .ok (.ireturn, 1) := by decide +kernel
set_option maxRecDepth 20000 in
theorem ggX8_read_X5_parse : GoodIn wsX8_read wsX5_parse := goodIn_r _ [9, 10, 11, 12, 13, 14, 15, 16, 17, 8, 18, 19, 20, 21, 22, 23, 24, 25, 26, 27, 28, 29, 30, 31, 32, 33, 34, 35, 36, 37, 38, 39, 40, 41, 42, 43, 44, 45, 46, 47, 48, 49, 50, 51, 119, 120, 121, 122, 123, 124, 125, 126] (by decide +kernel) (by decide +kernel)
set_option maxRecDepth 20000 in
theorem gX8_read_X5_parse : GoodIn wsX8_read (wsV RX8 113 RX5 yX5_parse wsX5_parse) := goodIn_app (goodIn_of _ (by decide +kernel)) ggX8_read_X5_parse
set_option maxRecDepth 20000 in
theorem ggX8_read_X5_perform : GoodIn wsX8_read wsX5_perform := goodIn_r _ [55, 11, 14, 13, 56, 57, 58, 8, 59, 33, 60, 61, 62, 63, 64, 65, 66, 67, 68, 69, 70, 71, 72, 73, 74, 75, 76, 77, 78, 79, 80, 81, 82, 83, 84, 85, 86, 87, 88, 89, 90, 91, 92, 93, 94, 95, 96, 97, 98, 99, 100, 101, 102, 103, 104, 105, 106, 107, 108, 119, 120, 121, 122, 123, 124, 125, 126, 127, 128, 129, 130, 131, 132, 133, 134, 135, 136, 137, 138, 139, 140, 141] (by decide +kernel) (by decide +kernel)
set_option maxRecDepth 20000 in
theorem gX8_read_X5_perform : GoodIn wsX8_read (wsV RX8 117 RX5 yX5_perform wsX5_perform) := goodIn_app (goodIn_of _ (by decide +kernel)) ggX8_read_X5_perform
theorem dX8_read_0 : decode cX8_read 0 = .ok (.aload_n 0, 1) := by decide +kernel
theorem dX8_read_1 : decode cX8_read 1 = .ok (.getfield 44, 3) := by decide +kernel
theorem dX8_read_4 : decode cX8_read 4 = .ok (.invokevirtual 113, 3) := by decide +kernel
theorem dX8_read_7 : decode cX8_read 7 = .ok (.istore_n 1, 1) := by decide +kernel
theorem dX8_read_8 : decode cX8_read 8 = .ok (.aload_n 0, 1) := by decide +kernel
theorem dX8_read_9 : decode cX8_read 9 = .ok (.getfield 44, 3) := by decide +kernel
theorem dX8_read_12 : decode cX8_read 12 = .ok (.iconst 0, 1) := by decide +kernel
theorem dX8_read_13 : decode cX8_read 13 = .ok (.putfield 110, 3) := by decide +kernel
theorem dX8_read_16 : decode cX8_read 16 = .ok (.iload_n 1, 1) := by decide +kernel
theorem dX8_read_17 : decode cX8_read 17 = .ok (.bipush (-5), 2) := by decide +kernel
theorem dX8_read_19 : decode cX8_read 19 = .ok (.if_icmp .eq 8, 3) := by decide +kernel
theorem dX8_read_22 : decode cX8_read 22 = .ok (.bipush (-10), 2) := by decide +kernel
theorem dX8_read_24 : decode cX8_read 24 = .ok (.iload_n 1, 1) := by decide +kernel
theorem dX8_read_25 : decode cX8_read 25 = .ok (.isub, 1) := by decide +kernel
theorem dX8_read_26 : decode cX8_read 26 = .ok (.ireturn, 1) := by decide +kernel
theorem dX8_read_27 : decode cX8_read 27 = .ok (.aload_n 0, 1) := by decide +kernel
theorem dX8_read_28 : decode cX8_read 28 = .ok (.iconst 1, 1) := by decide +kernel
theorem dX8_read_29 : decode cX8_read 29 = .ok (.putfield 58, 3) := by decide +kernel
theorem dX8_read_32 : decode cX8_read 32 = .ok (.aload_n 0, 1) := by decide +kernel
theorem dX8_read_33 : decode cX8_read 33 = .ok (.getfield 44, 3) := by decide +kernel
theorem dX8_read_36 : decode cX8_read 36 = .ok (.aload_n 0, 1) := by decide +kernel
theorem dX8_read_37 : decode cX8_read 37 = .ok (.getfield 14, 3) := by decide +kernel
theorem dX8_read_40 : decode cX8_read 40 = .ok (.invokevirtual 117, 3) := by decide +kernel
theorem dX8_read_43 : decode cX8_read 43 = .ok (.ireturn, 1) := by decide +kernel
set_option maxRecDepth 20000 in
theorem ggX8_of_X8_orNotFound : GoodIn wsX8_of wsX8_orNotFound := goodIn_r _ [10] (by decide +kernel) (by decide +kernel)
set_option maxRecDepth 20000 in
theorem gX8_of_X8_orNotFound : GoodIn wsX8_of (va_wsS RX8 124 yX8_orNotFound wsX8_orNotFound) := goodIn_app (goodIn_of _ (by decide +kernel)) ggX8_of_X8_orNotFound
set_option maxRecDepth 20000 in
theorem ggX8_of_X8_isLead : GoodIn wsX8_of wsX8_isLead := goodIn_r _ [13] (by decide +kernel) (by decide +kernel)
set_option maxRecDepth 20000 in
theorem gX8_of_X8_isLead : GoodIn wsX8_of (va_wsS RX8 95 yX8_isLead wsX8_isLead) := goodIn_app (goodIn_of _ (by decide +kernel)) ggX8_of_X8_isLead
theorem dX8_of_0 : decode cX8_of 0 = .ok (.iload_n 1, 1) := by decide +kernel
theorem dX8_of_1 : decode cX8_of 1 = .ok (.tableswitch 103 0 3 #[31, 60, 71, 82], 31) := by decide +kernel
theorem dX8_of_32 : decode cX8_of 32 = .ok (.iload_n 2, 1) := by decide +kernel
theorem dX8_of_33 : decode cX8_of 33 = .ok (.ifCond .lt 26, 3) := by decide +kernel
theorem dX8_of_36 : decode cX8_of 36 = .ok (.iload_n 2, 1) := by decide +kernel
theorem dX8_of_37 : decode cX8_of 37 = .ok (.aload_n 0, 1) := by decide +kernel
theorem dX8_of_38 : decode cX8_of 38 = .ok (.getfield 14, 3) := by decide +kernel
theorem dX8_of_41 : decode cX8_of 41 = .ok (.getfield 80, 3) := by decide +kernel
theorem dX8_of_44 : decode cX8_of 44 = .ok (.if_icmp .ge 15, 3) := by decide +kernel
theorem dX8_of_47 : decode cX8_of 47 = .ok (.aload_n 0, 1) := by decide +kernel
theorem dX8_of_48 : decode cX8_of 48 = .ok (.getfield 14, 3) := by decide +kernel
theorem dX8_of_51 : decode cX8_of 51 = .ok (.getfield 83, 3) := by decide +kernel
theorem dX8_of_54 : decode cX8_of 54 = .ok (.iload_n 2, 1) := by decide +kernel
theorem dX8_of_55 : decode cX8_of 55 = .ok (.iaload, 1) := by decide +kernel
theorem dX8_of_56 : decode cX8_of 56 = .ok (.goto 4, 3) := by decide +kernel
theorem dX8_of_59 : decode cX8_of 59 = .ok (.iconst (-1), 1) := by decide +kernel
theorem dX8_of_60 : decode cX8_of 60 = .ok (.ireturn, 1) := by decide +kernel
theorem dX8_of_61 : decode cX8_of 61 = .ok (.aload_n 0, 1) := by decide +kernel
theorem dX8_of_62 : decode cX8_of 62 = .ok (.getfield 14, 3) := by decide +kernel
theorem dX8_of_65 : decode cX8_of 65 = .ok (.getfield 121, 3) := by decide +kernel
theorem dX8_of_68 : decode cX8_of 68 = .ok (.invokestatic 124, 3) := by decide +kernel
theorem dX8_of_71 : decode cX8_of 71 = .ok (.ireturn, 1) := by decide +kernel
theorem dX8_of_72 : decode cX8_of 72 = .ok (.aload_n 0, 1) := by decide +kernel
theorem dX8_of_73 : decode cX8_of 73 = .ok (.getfield 14, 3) := by decide +kernel
theorem dX8_of_76 : decode cX8_of 76 = .ok (.getfield 127, 3) := by decide +kernel
theorem dX8_of_79 : decode cX8_of 79 = .ok (.invokestatic 124, 3) := by decide +kernel
theorem dX8_of_82 : decode cX8_of 82 = .ok (.ireturn, 1) := by decide +kernel
theorem dX8_of_83 : decode cX8_of 83 = .ok (.iload_n 2, 1) := by decide +kernel
theorem dX8_of_84 : decode cX8_of 84 = .ok (.invokestatic 95, 3) := by decide +kernel
theorem dX8_of_87 : decode cX8_of 87 = .ok (.ifCond .eq 15, 3) := by decide +kernel
theorem dX8_of_90 : decode cX8_of 90 = .ok (.aload_n 0, 1) := by decide +kernel
theorem dX8_of_91 : decode cX8_of 91 = .ok (.getfield 14, 3) := by decide +kernel
theorem dX8_of_94 : decode cX8_of 94 = .ok (.getfield 98, 3) := by decide +kernel
theorem dX8_of_97 : decode cX8_of 97 = .ok (.iload_n 2, 1) := by decide +kernel
theorem dX8_of_98 : decode cX8_of 98 = .ok (.iaload, 1) := by decide +kernel
theorem dX8_of_99 : decode cX8_of 99 = .ok (.goto 4, 3) := by decide +kernel
theorem dX8_of_102 : decode cX8_of 102 = .ok (.iconst (-1), 1) := by decide +kernel
theorem dX8_of_103 : decode cX8_of 103 = .ok (.ireturn, 1) := by decide +kernel
theorem dX8_of_104 : decode cX8_of 104 = .ok (.iconst (-1), 1) := by decide +kernel
theorem dX8_of_105 : decode cX8_of 105 = .ok (.ireturn, 1) := by decide +kernel
set_option maxRecDepth 20000 in
theorem ggX8_told_X8_rung : GoodIn wsX8_told wsX8_rung := goodIn_r _ [10, 11, 12, 1, 13, 14, 15, 16, 17, 18, 19, 20, 21, 22, 23, 24, 25, 26, 27, 28, 29, 30, 31, 32, 33, 34, 35, 36, 37, 38, 39, 40, 41, 42, 43, 44, 45, 46, 47, 48, 49, 50, 51, 52, 53, 54, 55, 56, 94, 95, 96, 97, 98, 99, 100, 101, 102, 103, 104, 105, 106, 107, 108, 109, 110, 111, 112, 113, 114, 115, 116, 117, 118, 119, 120, 121, 122] (by decide +kernel) (by decide +kernel)
set_option maxRecDepth 20000 in
theorem gX8_told_X8_rung : GoodIn wsX8_told (wsV RX8 130 RX8 yX8_rung wsX8_rung) := goodIn_app (goodIn_of _ (by decide +kernel)) ggX8_told_X8_rung
set_option maxRecDepth 20000 in
theorem ggX8_told_X7_roundRow : GoodIn wsX8_told wsX7_roundRow := goodIn_r _ [60, 31, 61, 62, 63, 64, 16, 65, 32, 66, 30, 67, 68, 69, 70, 71, 72, 73, 74, 75, 76, 77, 78, 79, 80, 115, 116, 117, 118, 119, 120, 121, 122, 123] (by decide +kernel) (by decide +kernel)
set_option maxRecDepth 20000 in
theorem gX8_told_X7_roundRow : GoodIn wsX8_told (wsV RX8 137 RX7 yX7_roundRow wsX7_roundRow) := goodIn_app (goodIn_of _ (by decide +kernel)) ggX8_told_X7_roundRow
set_option maxRecDepth 20000 in
theorem ggX8_told_X7_falseRow : GoodIn wsX8_told wsX7_falseRow := goodIn_r _ [84, 31, 61, 62, 63, 64, 16, 65, 32, 66, 30, 67, 68, 69, 70, 71, 72, 73, 74, 75, 76, 77, 78, 79, 80, 115, 116, 117, 118, 119, 120, 121, 122, 123] (by decide +kernel) (by decide +kernel)
set_option maxRecDepth 20000 in
theorem gX8_told_X7_falseRow : GoodIn wsX8_told (wsV RX8 140 RX7 yX7_falseRow wsX7_falseRow) := goodIn_app (goodIn_of _ (by decide +kernel)) ggX8_told_X7_falseRow
set_option maxRecDepth 20000 in
theorem ggX8_told_X7_isTrue : GoodIn wsX8_told wsX7_isTrue := goodIn_r _ [88, 31, 30, 89, 82, 83, 16, 84, 61, 62, 63, 64, 65, 32, 66, 67, 68, 69, 70, 71, 72, 73, 74, 75, 76, 77, 78, 79, 80, 115, 116, 117, 118, 119, 120, 121, 122, 123] (by decide +kernel) (by decide +kernel)
set_option maxRecDepth 20000 in
theorem gX8_told_X7_isTrue : GoodIn wsX8_told (wsV RX8 143 RX7 yX7_isTrue wsX7_isTrue) := goodIn_app (goodIn_of _ (by decide +kernel)) ggX8_told_X7_isTrue
set_option maxRecDepth 20000 in
theorem ggX8_told_X7_course : GoodIn wsX8_told wsX7_course := goodIn_r _ [93, 30, 19, 26, 54, 55, 35, 56, 115, 116, 117, 118, 119, 120, 121, 122] (by decide +kernel) (by decide +kernel)
set_option maxRecDepth 20000 in
theorem gX8_told_X7_course : GoodIn wsX8_told (wsV RX8 147 RX7 yX7_course wsX7_course) := goodIn_app (goodIn_of _ (by decide +kernel)) ggX8_told_X7_course
theorem dX8_told_0 : decode cX8_told 0 = .ok (.iload_n 1, 1) := by decide +kernel
theorem dX8_told_1 : decode cX8_told 1 = .ok (.tableswitch 119 0 7 #[47, 55, 63, 71, 79, 87, 95, 111], 47) := by decide +kernel
theorem dX8_told_48 : decode cX8_told 48 = .ok (.aload_n 0, 1) := by decide +kernel
theorem dX8_told_49 : decode cX8_told 49 = .ok (.getfield 14, 3) := by decide +kernel
theorem dX8_told_52 : decode cX8_told 52 = .ok (.getfield 62, 3) := by decide +kernel
theorem dX8_told_55 : decode cX8_told 55 = .ok (.ireturn, 1) := by decide +kernel
theorem dX8_told_56 : decode cX8_told 56 = .ok (.aload_n 0, 1) := by decide +kernel
theorem dX8_told_57 : decode cX8_told 57 = .ok (.getfield 14, 3) := by decide +kernel
theorem dX8_told_60 : decode cX8_told 60 = .ok (.getfield 80, 3) := by decide +kernel
theorem dX8_told_63 : decode cX8_told 63 = .ok (.ireturn, 1) := by decide +kernel
theorem dX8_told_64 : decode cX8_told 64 = .ok (.aload_n 0, 1) := by decide +kernel
theorem dX8_told_65 : decode cX8_told 65 = .ok (.getfield 14, 3) := by decide +kernel
theorem dX8_told_68 : decode cX8_told 68 = .ok (.getfield 101, 3) := by decide +kernel
theorem dX8_told_71 : decode cX8_told 71 = .ok (.ireturn, 1) := by decide +kernel
theorem dX8_told_72 : decode cX8_told 72 = .ok (.aload_n 0, 1) := by decide +kernel
theorem dX8_told_73 : decode cX8_told 73 = .ok (.invokevirtual 130, 3) := by decide +kernel
theorem dX8_told_76 : decode cX8_told 76 = .ok (.getfield 134, 3) := by decide +kernel
theorem dX8_told_79 : decode cX8_told 79 = .ok (.ireturn, 1) := by decide +kernel
theorem dX8_told_80 : decode cX8_told 80 = .ok (.aload_n 0, 1) := by decide +kernel
theorem dX8_told_81 : decode cX8_told 81 = .ok (.invokevirtual 130, 3) := by decide +kernel
theorem dX8_told_84 : decode cX8_told 84 = .ok (.invokevirtual 137, 3) := by decide +kernel
theorem dX8_told_87 : decode cX8_told 87 = .ok (.ireturn, 1) := by decide +kernel
theorem dX8_told_88 : decode cX8_told 88 = .ok (.aload_n 0, 1) := by decide +kernel
theorem dX8_told_89 : decode cX8_told 89 = .ok (.invokevirtual 130, 3) := by decide +kernel
theorem dX8_told_92 : decode cX8_told 92 = .ok (.invokevirtual 140, 3) := by decide +kernel
theorem dX8_told_95 : decode cX8_told 95 = .ok (.ireturn, 1) := by decide +kernel
theorem dX8_told_96 : decode cX8_told 96 = .ok (.aload_n 0, 1) := by decide +kernel
theorem dX8_told_97 : decode cX8_told 97 = .ok (.invokevirtual 130, 3) := by decide +kernel
theorem dX8_told_100 : decode cX8_told 100 = .ok (.invokevirtual 143, 3) := by decide +kernel
theorem dX8_told_103 : decode cX8_told 103 = .ok (.ifCond .eq 7, 3) := by decide +kernel
theorem dX8_told_106 : decode cX8_told 106 = .ok (.iconst 1, 1) := by decide +kernel
theorem dX8_told_107 : decode cX8_told 107 = .ok (.goto 4, 3) := by decide +kernel
theorem dX8_told_110 : decode cX8_told 110 = .ok (.iconst 0, 1) := by decide +kernel
theorem dX8_told_111 : decode cX8_told 111 = .ok (.ireturn, 1) := by decide +kernel
theorem dX8_told_112 : decode cX8_told 112 = .ok (.aload_n 0, 1) := by decide +kernel
theorem dX8_told_113 : decode cX8_told 113 = .ok (.invokevirtual 130, 3) := by decide +kernel
theorem dX8_told_116 : decode cX8_told 116 = .ok (.invokevirtual 147, 3) := by decide +kernel
theorem dX8_told_119 : decode cX8_told 119 = .ok (.ireturn, 1) := by decide +kernel
theorem dX8_told_120 : decode cX8_told 120 = .ok (.iconst (-1), 1) := by decide +kernel
theorem dX8_told_121 : decode cX8_told 121 = .ok (.ireturn, 1) := by decide +kernel
set_option maxRecDepth 20000 in
theorem ggX8_at_X8_isRow : GoodIn wsX8_at wsX8_isRow := goodIn_r _ [6, 7, 8, 9, 10, 5, 11, 12, 13, 14, 15, 16, 17, 18, 19, 20, 21, 22, 23, 24, 25, 26, 27, 28, 29, 30, 31, 32, 33, 34, 35, 36, 37, 38, 39, 40, 41, 42, 43, 44, 45, 46, 47, 48, 49, 50, 51, 52, 53, 54, 55, 56, 57, 58, 67, 68, 69, 70, 71, 72, 73, 74, 75, 76, 77, 78, 79, 80, 81, 82, 83, 84, 85, 86, 87, 88, 89, 90, 91, 92, 93, 94, 95] (by decide +kernel) (by decide +kernel)
set_option maxRecDepth 20000 in
theorem gX8_at_X8_isRow : GoodIn wsX8_at (wsV RX8 150 RX8 yX8_isRow wsX8_isRow) := goodIn_app (goodIn_of _ (by decide +kernel)) ggX8_at_X8_isRow
set_option maxRecDepth 20000 in
theorem ggX8_at_X8_isBell : GoodIn wsX8_at wsX8_isBell := goodIn_r _ [62, 14, 63, 75, 76, 77, 78, 79, 80, 81, 82, 83, 84, 85, 86, 87, 88, 89, 90, 91, 92, 93, 94, 95] (by decide +kernel) (by decide +kernel)
set_option maxRecDepth 20000 in
theorem gX8_at_X8_isBell : GoodIn wsX8_at (wsV RX8 153 RX8 yX8_isBell wsX8_isBell) := goodIn_app (goodIn_of _ (by decide +kernel)) ggX8_at_X8_isBell
set_option maxRecDepth 20000 in
theorem ggX8_at_X8_rung : GoodIn wsX8_at wsX8_rung := goodIn_r _ [11, 12, 13, 14, 15, 16, 17, 18, 19, 20, 21, 22, 23, 24, 25, 26, 27, 28, 29, 30, 31, 32, 33, 34, 35, 36, 37, 38, 39, 40, 41, 42, 43, 44, 45, 46, 47, 48, 49, 50, 51, 52, 53, 54, 55, 56, 57, 58, 75, 76, 77, 78, 79, 80, 81, 82, 83, 84, 85, 86, 87, 88, 89, 90, 91, 92, 93, 94, 95, 67, 68, 69, 70, 71, 72, 73, 74] (by decide +kernel) (by decide +kernel)
set_option maxRecDepth 20000 in
theorem gX8_at_X8_rung : GoodIn wsX8_at (wsV RX8 130 RX8 yX8_rung wsX8_rung) := goodIn_app (goodIn_of _ (by decide +kernel)) ggX8_at_X8_rung
set_option maxRecDepth 20000 in
theorem ggX8_at_X2_bellIn : GoodIn wsX8_at wsX2_bellIn := goodIn_r _ [66] (by decide +kernel) (by decide +kernel)
set_option maxRecDepth 20000 in
theorem gX8_at_X2_bellIn : GoodIn wsX8_at (va_wsS RX8 159 yX2_bellIn wsX2_bellIn) := goodIn_app (goodIn_of _ (by decide +kernel)) ggX8_at_X2_bellIn
theorem dX8_at_0 : decode cX8_at 0 = .ok (.aload_n 0, 1) := by decide +kernel
theorem dX8_at_1 : decode cX8_at 1 = .ok (.iload_n 1, 1) := by decide +kernel
theorem dX8_at_2 : decode cX8_at 2 = .ok (.invokevirtual 150, 3) := by decide +kernel
theorem dX8_at_5 : decode cX8_at 5 = .ok (.ifCond .eq 11, 3) := by decide +kernel
theorem dX8_at_8 : decode cX8_at 8 = .ok (.aload_n 0, 1) := by decide +kernel
theorem dX8_at_9 : decode cX8_at 9 = .ok (.iload_n 2, 1) := by decide +kernel
theorem dX8_at_10 : decode cX8_at 10 = .ok (.invokevirtual 153, 3) := by decide +kernel
theorem dX8_at_13 : decode cX8_at 13 = .ok (.ifCond .ne 5, 3) := by decide +kernel
theorem dX8_at_16 : decode cX8_at 16 = .ok (.iconst (-1), 1) := by decide +kernel
theorem dX8_at_17 : decode cX8_at 17 = .ok (.ireturn, 1) := by decide +kernel
theorem dX8_at_18 : decode cX8_at 18 = .ok (.aload_n 0, 1) := by decide +kernel
theorem dX8_at_19 : decode cX8_at 19 = .ok (.invokevirtual 130, 3) := by decide +kernel
theorem dX8_at_22 : decode cX8_at 22 = .ok (.getfield 156, 3) := by decide +kernel
theorem dX8_at_25 : decode cX8_at 25 = .ok (.iload_n 1, 1) := by decide +kernel
theorem dX8_at_26 : decode cX8_at 26 = .ok (.iaload, 1) := by decide +kernel
theorem dX8_at_27 : decode cX8_at 27 = .ok (.iload_n 2, 1) := by decide +kernel
theorem dX8_at_28 : decode cX8_at 28 = .ok (.invokestatic 159, 3) := by decide +kernel
theorem dX8_at_31 : decode cX8_at 31 = .ok (.ireturn, 1) := by decide +kernel
set_option maxRecDepth 20000 in
theorem ggX8_where_X8_isRow : GoodIn wsX8_where wsX8_isRow := goodIn_r _ [6, 7, 8, 9, 10, 5, 11, 12, 13, 14, 15, 16, 17, 18, 19, 20, 21, 22, 23, 24, 25, 26, 27, 28, 29, 30, 31, 32, 33, 34, 35, 36, 37, 38, 39, 40, 41, 42, 43, 44, 45, 46, 47, 48, 49, 50, 51, 52, 53, 54, 55, 56, 57, 58, 70, 71, 72, 73, 74, 75, 76, 77, 78, 79, 80, 81, 82, 83, 84, 85, 86, 87, 88, 89, 90, 91, 92, 93, 94, 95, 96, 97, 98] (by decide +kernel) (by decide +kernel)
set_option maxRecDepth 20000 in
theorem gX8_where_X8_isRow : GoodIn wsX8_where (wsV RX8 150 RX8 yX8_isRow wsX8_isRow) := goodIn_app (goodIn_of _ (by decide +kernel)) ggX8_where_X8_isRow
set_option maxRecDepth 20000 in
theorem ggX8_where_X8_isBell : GoodIn wsX8_where wsX8_isBell := goodIn_r _ [62, 14, 63, 78, 79, 80, 81, 82, 83, 84, 85, 86, 87, 88, 89, 90, 91, 92, 93, 94, 95, 96, 97, 98] (by decide +kernel) (by decide +kernel)
set_option maxRecDepth 20000 in
theorem gX8_where_X8_isBell : GoodIn wsX8_where (wsV RX8 153 RX8 yX8_isBell wsX8_isBell) := goodIn_app (goodIn_of _ (by decide +kernel)) ggX8_where_X8_isBell
set_option maxRecDepth 20000 in
theorem ggX8_where_X8_rung : GoodIn wsX8_where wsX8_rung := goodIn_r _ [11, 12, 13, 14, 15, 16, 17, 18, 19, 20, 21, 22, 23, 24, 25, 26, 27, 28, 29, 30, 31, 32, 33, 34, 35, 36, 37, 38, 39, 40, 41, 42, 43, 44, 45, 46, 47, 48, 49, 50, 51, 52, 53, 54, 55, 56, 57, 58, 78, 79, 80, 81, 82, 83, 84, 85, 86, 87, 88, 89, 90, 91, 92, 93, 94, 95, 96, 97, 98, 70, 71, 72, 73, 74, 75, 76, 77] (by decide +kernel) (by decide +kernel)
set_option maxRecDepth 20000 in
theorem gX8_where_X8_rung : GoodIn wsX8_where (wsV RX8 130 RX8 yX8_rung wsX8_rung) := goodIn_app (goodIn_of _ (by decide +kernel)) ggX8_where_X8_rung
set_option maxRecDepth 20000 in
theorem ggX8_where_X2_placeOf : GoodIn wsX8_where wsX2_placeOf := goodIn_r _ [66, 67, 68, 37, 69] (by decide +kernel) (by decide +kernel)
set_option maxRecDepth 20000 in
theorem gX8_where_X2_placeOf : GoodIn wsX8_where (va_wsS RX8 163 yX2_placeOf wsX2_placeOf) := goodIn_app (goodIn_of _ (by decide +kernel)) ggX8_where_X2_placeOf
theorem dX8_where_0 : decode cX8_where 0 = .ok (.aload_n 0, 1) := by decide +kernel
theorem dX8_where_1 : decode cX8_where 1 = .ok (.iload_n 1, 1) := by decide +kernel
theorem dX8_where_2 : decode cX8_where 2 = .ok (.invokevirtual 150, 3) := by decide +kernel
theorem dX8_where_5 : decode cX8_where 5 = .ok (.ifCond .eq 11, 3) := by decide +kernel
theorem dX8_where_8 : decode cX8_where 8 = .ok (.aload_n 0, 1) := by decide +kernel
theorem dX8_where_9 : decode cX8_where 9 = .ok (.iload_n 2, 1) := by decide +kernel
theorem dX8_where_10 : decode cX8_where 10 = .ok (.invokevirtual 153, 3) := by decide +kernel
theorem dX8_where_13 : decode cX8_where 13 = .ok (.ifCond .ne 5, 3) := by decide +kernel
theorem dX8_where_16 : decode cX8_where 16 = .ok (.iconst (-1), 1) := by decide +kernel
theorem dX8_where_17 : decode cX8_where 17 = .ok (.ireturn, 1) := by decide +kernel
theorem dX8_where_18 : decode cX8_where 18 = .ok (.aload_n 0, 1) := by decide +kernel
theorem dX8_where_19 : decode cX8_where 19 = .ok (.invokevirtual 130, 3) := by decide +kernel
theorem dX8_where_22 : decode cX8_where 22 = .ok (.getfield 156, 3) := by decide +kernel
theorem dX8_where_25 : decode cX8_where 25 = .ok (.iload_n 1, 1) := by decide +kernel
theorem dX8_where_26 : decode cX8_where 26 = .ok (.iaload, 1) := by decide +kernel
theorem dX8_where_27 : decode cX8_where 27 = .ok (.iload_n 2, 1) := by decide +kernel
theorem dX8_where_28 : decode cX8_where 28 = .ok (.invokestatic 163, 3) := by decide +kernel
theorem dX8_where_31 : decode cX8_where 31 = .ok (.ireturn, 1) := by decide +kernel
set_option maxRecDepth 20000 in
theorem ggX8_same_X8_isRow : GoodIn wsX8_same wsX8_isRow := goodIn_r _ [5, 6, 7, 8, 9, 4, 10, 11, 12, 13, 14, 15, 16, 17, 18, 19, 20, 21, 22, 23, 24, 25, 26, 27, 28, 29, 30, 31, 32, 33, 34, 35, 36, 37, 38, 39, 40, 41, 42, 43, 44, 45, 46, 47, 48, 49, 50, 51, 52, 53, 54, 55, 56, 57, 82, 83, 84, 85, 86, 87, 88, 89, 90, 91, 92, 93, 94, 95, 96, 97, 98, 99, 100, 101, 102, 103, 104, 105, 106, 107, 108, 109, 110] (by decide +kernel) (by decide +kernel)
set_option maxRecDepth 20000 in
theorem gX8_same_X8_isRow : GoodIn wsX8_same (wsV RX8 150 RX8 yX8_isRow wsX8_isRow) := goodIn_app (goodIn_of _ (by decide +kernel)) ggX8_same_X8_isRow
set_option maxRecDepth 20000 in
theorem ggX8_same_X8_rung : GoodIn wsX8_same wsX8_rung := goodIn_r _ [10, 11, 12, 13, 14, 15, 16, 17, 18, 19, 20, 21, 22, 23, 24, 25, 26, 27, 28, 29, 30, 31, 32, 33, 34, 35, 36, 37, 38, 39, 40, 41, 42, 43, 44, 45, 46, 47, 48, 49, 50, 51, 52, 53, 54, 55, 56, 57, 90, 91, 92, 93, 94, 95, 96, 97, 98, 99, 100, 101, 102, 103, 104, 105, 106, 107, 108, 109, 110, 82, 83, 84, 85, 86, 87, 88, 89] (by decide +kernel) (by decide +kernel)
set_option maxRecDepth 20000 in
theorem gX8_same_X8_rung : GoodIn wsX8_same (wsV RX8 130 RX8 yX8_rung wsX8_rung) := goodIn_app (goodIn_of _ (by decide +kernel)) ggX8_same_X8_rung
set_option maxRecDepth 20000 in
theorem ggX8_same_X7_firstAs : GoodIn wsX8_same wsX7_firstAs := goodIn_r _ [61, 62, 63, 64, 65, 17, 66, 33, 32, 67, 31, 68, 69, 70, 71, 72, 73, 74, 75, 76, 77, 78, 79, 80, 81, 82, 83, 84, 85, 86, 87, 88, 89, 111] (by decide +kernel) (by decide +kernel)
set_option maxRecDepth 20000 in
theorem gX8_same_X7_firstAs : GoodIn wsX8_same (wsV RX8 166 RX7 yX7_firstAs wsX7_firstAs) := goodIn_app (goodIn_of _ (by decide +kernel)) ggX8_same_X7_firstAs
theorem dX8_same_0 : decode cX8_same 0 = .ok (.aload_n 0, 1) := by decide +kernel
theorem dX8_same_1 : decode cX8_same 1 = .ok (.iload_n 1, 1) := by decide +kernel
theorem dX8_same_2 : decode cX8_same 2 = .ok (.invokevirtual 150, 3) := by decide +kernel
theorem dX8_same_5 : decode cX8_same 5 = .ok (.ifCond .ne 5, 3) := by decide +kernel
theorem dX8_same_8 : decode cX8_same 8 = .ok (.iconst (-1), 1) := by decide +kernel
theorem dX8_same_9 : decode cX8_same 9 = .ok (.ireturn, 1) := by decide +kernel
theorem dX8_same_10 : decode cX8_same 10 = .ok (.aload_n 0, 1) := by decide +kernel
theorem dX8_same_11 : decode cX8_same 11 = .ok (.invokevirtual 130, 3) := by decide +kernel
theorem dX8_same_14 : decode cX8_same 14 = .ok (.iload_n 1, 1) := by decide +kernel
theorem dX8_same_15 : decode cX8_same 15 = .ok (.invokevirtual 166, 3) := by decide +kernel
theorem dX8_same_18 : decode cX8_same 18 = .ok (.ireturn, 1) := by decide +kernel
set_option maxRecDepth 20000 in
theorem ggX8_good_X8_isPlaces : GoodIn wsX8_good wsX8_isPlaces := goodIn_r _ [7, 1, 2, 18, 19, 20, 21, 22, 23, 24, 25, 26, 27, 28, 29, 30, 31, 32, 33, 34, 35, 36, 37, 38] (by decide +kernel) (by decide +kernel)
set_option maxRecDepth 20000 in
theorem gX8_good_X8_isPlaces : GoodIn wsX8_good (wsV RX8 70 RX8 yX8_isPlaces wsX8_isPlaces) := goodIn_app (goodIn_of _ (by decide +kernel)) ggX8_good_X8_isPlaces
set_option maxRecDepth 20000 in
theorem ggX8_good_X2_isGood : GoodIn wsX8_good wsX2_isGood := goodIn_r _ [11, 12, 13, 10, 14, 15, 16, 17] (by decide +kernel) (by decide +kernel)
set_option maxRecDepth 20000 in
theorem gX8_good_X2_isGood : GoodIn wsX8_good (va_wsS RX8 74 yX2_isGood wsX2_isGood) := goodIn_app (goodIn_of _ (by decide +kernel)) ggX8_good_X2_isGood
theorem dX8_good_0 : decode cX8_good 0 = .ok (.aload_n 0, 1) := by decide +kernel
theorem dX8_good_1 : decode cX8_good 1 = .ok (.iload_n 1, 1) := by decide +kernel
theorem dX8_good_2 : decode cX8_good 2 = .ok (.invokevirtual 70, 3) := by decide +kernel
theorem dX8_good_5 : decode cX8_good 5 = .ok (.ifCond .ne 6, 3) := by decide +kernel
theorem dX8_good_8 : decode cX8_good 8 = .ok (.bipush (-2), 2) := by decide +kernel
theorem dX8_good_10 : decode cX8_good 10 = .ok (.ireturn, 1) := by decide +kernel
theorem dX8_good_11 : decode cX8_good 11 = .ok (.aload_n 0, 1) := by decide +kernel
theorem dX8_good_12 : decode cX8_good 12 = .ok (.getfield 14, 3) := by decide +kernel
theorem dX8_good_15 : decode cX8_good 15 = .ok (.getfield 62, 3) := by decide +kernel
theorem dX8_good_18 : decode cX8_good 18 = .ok (.iload_n 1, 1) := by decide +kernel
theorem dX8_good_19 : decode cX8_good 19 = .ok (.invokestatic 74, 3) := by decide +kernel
theorem dX8_good_22 : decode cX8_good 22 = .ok (.ifCond .eq 7, 3) := by decide +kernel
theorem dX8_good_25 : decode cX8_good 25 = .ok (.iconst 1, 1) := by decide +kernel
theorem dX8_good_26 : decode cX8_good 26 = .ok (.goto 4, 3) := by decide +kernel
theorem dX8_good_29 : decode cX8_good 29 = .ok (.iconst 0, 1) := by decide +kernel
theorem dX8_good_30 : decode cX8_good 30 = .ok (.ireturn, 1) := by decide +kernel
set_option maxRecDepth 20000 in
theorem ggX8_music_X8_countMusic : GoodIn wsX8_music wsX8_countMusic := goodIn_r _ [5, 6, 7, 8, 9, 10, 11, 12, 4, 13, 14, 15, 16, 17, 18, 19, 20, 21, 22, 23, 24, 25, 26, 27, 28, 29, 30, 31, 32, 33, 34, 35, 36, 37, 38, 39, 40, 41, 42, 43, 44, 45, 46, 47, 48, 49, 50, 51, 52, 53, 54, 55, 56, 57, 58, 59, 60, 61, 62, 63, 64, 65, 66, 67, 68, 69, 70, 71, 72, 73, 74, 75, 76, 77, 78, 79, 80, 81, 82, 83, 84, 85, 86, 87, 88, 89, 90, 91, 92, 93, 94, 95, 96, 97, 98, 99, 100, 101, 102, 103, 104, 105, 106, 107, 108, 109] (by decide +kernel) (by decide +kernel)
set_option maxRecDepth 20000 in
theorem gX8_music_X8_countMusic : GoodIn wsX8_music (wsV RX8 169 RX8 yX8_countMusic wsX8_countMusic) := goodIn_app (goodIn_of _ (by decide +kernel)) ggX8_music_X8_countMusic
theorem dX8_music_0 : decode cX8_music 0 = .ok (.iload_n 1, 1) := by decide +kernel
theorem dX8_music_1 : decode cX8_music 1 = .ok (.ifCond .lt 8, 3) := by decide +kernel
theorem dX8_music_4 : decode cX8_music 4 = .ok (.iload_n 1, 1) := by decide +kernel
theorem dX8_music_5 : decode cX8_music 5 = .ok (.iconst 4, 1) := by decide +kernel
theorem dX8_music_6 : decode cX8_music 6 = .ok (.if_icmp .lt 5, 3) := by decide +kernel
theorem dX8_music_9 : decode cX8_music 9 = .ok (.iconst (-1), 1) := by decide +kernel
theorem dX8_music_10 : decode cX8_music 10 = .ok (.ireturn, 1) := by decide +kernel
theorem dX8_music_11 : decode cX8_music 11 = .ok (.aload_n 0, 1) := by decide +kernel
theorem dX8_music_12 : decode cX8_music 12 = .ok (.iload_n 1, 1) := by decide +kernel
theorem dX8_music_13 : decode cX8_music 13 = .ok (.invokevirtual 169, 3) := by decide +kernel
theorem dX8_music_16 : decode cX8_music 16 = .ok (.ireturn, 1) := by decide +kernel
set_option maxRecDepth 20000 in
theorem ggX8_least_X0_find : GoodIn wsX8_least wsX0_find := goodIn_r _ [9, 10, 11, 12, 13, 14, 15, 16, 17, 18, 19, 20, 21, 22, 23, 24, 25, 26, 27, 28, 29, 30, 31, 32, 33, 34, 35, 36, 37, 38, 39, 40, 41, 42, 43, 44, 45, 46, 47, 48, 49, 50, 51, 52, 53, 54, 55, 56, 57, 58, 59, 60, 61, 62, 63, 8, 64, 65, 66, 67, 68, 69, 70, 71, 72, 73, 74, 75, 76, 77, 78, 79, 80, 81, 82, 83, 84, 85, 86, 87, 88, 99, 100, 101, 102, 103, 104, 105, 106, 107, 108, 109, 110, 111, 112, 113, 114, 115, 116, 117, 118, 119, 120, 121, 122, 123, 124, 125] (by decide +kernel) (by decide +kernel)
set_option maxRecDepth 20000 in
theorem gX8_least_X0_find : GoodIn wsX8_least (wsV RX8 172 RX0 yX0_find wsX0_find) := goodIn_app (goodIn_of _ (by decide +kernel)) ggX8_least_X0_find
theorem dX8_least_0 : decode cX8_least 0 = .ok (.iload_n 1, 1) := by decide +kernel
theorem dX8_least_1 : decode cX8_least 1 = .ok (.iconst 1, 1) := by decide +kernel
theorem dX8_least_2 : decode cX8_least 2 = .ok (.if_icmp .lt 8, 3) := by decide +kernel
theorem dX8_least_5 : decode cX8_least 5 = .ok (.iload_n 1, 1) := by decide +kernel
theorem dX8_least_6 : decode cX8_least 6 = .ok (.iconst 5, 1) := by decide +kernel
theorem dX8_least_7 : decode cX8_least 7 = .ok (.if_icmp .le 6, 3) := by decide +kernel
theorem dX8_least_10 : decode cX8_least 10 = .ok (.bipush (-2), 2) := by decide +kernel
theorem dX8_least_12 : decode cX8_least 12 = .ok (.ireturn, 1) := by decide +kernel
theorem dX8_least_13 : decode cX8_least 13 = .ok (.iload_n 2, 1) := by decide +kernel
theorem dX8_least_14 : decode cX8_least 14 = .ok (.ifCond .eq 10, 3) := by decide +kernel
theorem dX8_least_17 : decode cX8_least 17 = .ok (.iload_n 2, 1) := by decide +kernel
theorem dX8_least_18 : decode cX8_least 18 = .ok (.iconst 1, 1) := by decide +kernel
theorem dX8_least_19 : decode cX8_least 19 = .ok (.if_icmp .eq 5, 3) := by decide +kernel
theorem dX8_least_22 : decode cX8_least 22 = .ok (.iconst (-1), 1) := by decide +kernel
theorem dX8_least_23 : decode cX8_least 23 = .ok (.ireturn, 1) := by decide +kernel
theorem dX8_least_24 : decode cX8_least 24 = .ok (.aload_n 0, 1) := by decide +kernel
theorem dX8_least_25 : decode cX8_least 25 = .ok (.getfield 37, 3) := by decide +kernel
theorem dX8_least_28 : decode cX8_least 28 = .ok (.aload_n 0, 1) := by decide +kernel
theorem dX8_least_29 : decode cX8_least 29 = .ok (.getfield 14, 3) := by decide +kernel
theorem dX8_least_32 : decode cX8_least 32 = .ok (.iload_n 1, 1) := by decide +kernel
theorem dX8_least_33 : decode cX8_least 33 = .ok (.invokevirtual 172, 3) := by decide +kernel
theorem dX8_least_36 : decode cX8_least 36 = .ok (.iload_n 2, 1) := by decide +kernel
theorem dX8_least_37 : decode cX8_least 37 = .ok (.ifCond .ne 13, 3) := by decide +kernel
theorem dX8_least_40 : decode cX8_least 40 = .ok (.aload_n 0, 1) := by decide +kernel
theorem dX8_least_41 : decode cX8_least 41 = .ok (.getfield 37, 3) := by decide +kernel
theorem dX8_least_44 : decode cX8_least 44 = .ok (.getfield 176, 3) := by decide +kernel
theorem dX8_least_47 : decode cX8_least 47 = .ok (.goto 10, 3) := by decide +kernel
theorem dX8_least_50 : decode cX8_least 50 = .ok (.aload_n 0, 1) := by decide +kernel
theorem dX8_least_51 : decode cX8_least 51 = .ok (.getfield 37, 3) := by decide +kernel
theorem dX8_least_54 : decode cX8_least 54 = .ok (.getfield 179, 3) := by decide +kernel
theorem dX8_least_57 : decode cX8_least 57 = .ok (.ireturn, 1) := by decide +kernel
set_option maxRecDepth 20000 in
theorem ggX8_still_X8_isBell : GoodIn wsX8_still wsX8_isBell := goodIn_r _ [8, 9, 10, 74, 75, 76, 77, 78, 79, 80, 81, 82, 83, 84, 85, 86, 87, 88, 89, 90, 91, 92, 93, 94] (by decide +kernel) (by decide +kernel)
set_option maxRecDepth 20000 in
theorem gX8_still_X8_isBell : GoodIn wsX8_still (wsV RX8 153 RX8 yX8_isBell wsX8_isBell) := goodIn_app (goodIn_of _ (by decide +kernel)) ggX8_still_X8_isBell
set_option maxRecDepth 20000 in
theorem ggX8_still_X8_rung : GoodIn wsX8_still wsX8_rung := goodIn_r _ [14, 15, 2, 9, 16, 17, 18, 19, 20, 21, 22, 23, 24, 25, 26, 27, 28, 29, 30, 31, 32, 33, 34, 35, 36, 37, 38, 39, 40, 41, 42, 43, 44, 45, 46, 47, 48, 49, 50, 51, 52, 53, 54, 55, 56, 57, 58, 59, 74, 75, 76, 77, 78, 79, 80, 81, 82, 83, 84, 85, 86, 87, 88, 89, 90, 91, 92, 93, 94, 66, 67, 68, 69, 70, 71, 72, 73] (by decide +kernel) (by decide +kernel)
set_option maxRecDepth 20000 in
theorem gX8_still_X8_rung : GoodIn wsX8_still (wsV RX8 130 RX8 yX8_rung wsX8_rung) := goodIn_app (goodIn_of _ (by decide +kernel)) ggX8_still_X8_rung
set_option maxRecDepth 20000 in
theorem ggX8_still_X2_placeOf : GoodIn wsX8_still wsX2_placeOf := goodIn_r _ [62, 63, 64, 38, 65] (by decide +kernel) (by decide +kernel)
set_option maxRecDepth 20000 in
theorem gX8_still_X2_placeOf : GoodIn wsX8_still (va_wsS RX8 163 yX2_placeOf wsX2_placeOf) := goodIn_app (goodIn_of _ (by decide +kernel)) ggX8_still_X2_placeOf
theorem dX8_still_0 : decode cX8_still 0 = .ok (.aload_n 0, 1) := by decide +kernel
theorem dX8_still_1 : decode cX8_still 1 = .ok (.iload_n 1, 1) := by decide +kernel
theorem dX8_still_2 : decode cX8_still 2 = .ok (.invokevirtual 153, 3) := by decide +kernel
theorem dX8_still_5 : decode cX8_still 5 = .ok (.ifCond .ne 5, 3) := by decide +kernel
theorem dX8_still_8 : decode cX8_still 8 = .ok (.iconst (-1), 1) := by decide +kernel
theorem dX8_still_9 : decode cX8_still 9 = .ok (.ireturn, 1) := by decide +kernel
theorem dX8_still_10 : decode cX8_still 10 = .ok (.aload_n 0, 1) := by decide +kernel
theorem dX8_still_11 : decode cX8_still 11 = .ok (.invokevirtual 130, 3) := by decide +kernel
theorem dX8_still_14 : decode cX8_still 14 = .ok (.getfield 156, 3) := by decide +kernel
theorem dX8_still_17 : decode cX8_still 17 = .ok (.astore_n 2, 1) := by decide +kernel
theorem dX8_still_18 : decode cX8_still 18 = .ok (.iconst 0, 1) := by decide +kernel
theorem dX8_still_19 : decode cX8_still 19 = .ok (.istore_n 3, 1) := by decide +kernel
theorem dX8_still_20 : decode cX8_still 20 = .ok (.iconst 1, 1) := by decide +kernel
theorem dX8_still_21 : decode cX8_still 21 = .ok (.istore 4, 2) := by decide +kernel
theorem dX8_still_23 : decode cX8_still 23 = .ok (.iload 4, 2) := by decide +kernel
theorem dX8_still_25 : decode cX8_still 25 = .ok (.aload_n 0, 1) := by decide +kernel
theorem dX8_still_26 : decode cX8_still 26 = .ok (.getfield 27, 3) := by decide +kernel
theorem dX8_still_29 : decode cX8_still 29 = .ok (.getfield 134, 3) := by decide +kernel
theorem dX8_still_32 : decode cX8_still 32 = .ok (.if_icmp .gt 33, 3) := by decide +kernel
theorem dX8_still_35 : decode cX8_still 35 = .ok (.aload_n 2, 1) := by decide +kernel
theorem dX8_still_36 : decode cX8_still 36 = .ok (.iload 4, 2) := by decide +kernel
theorem dX8_still_38 : decode cX8_still 38 = .ok (.iaload, 1) := by decide +kernel
theorem dX8_still_39 : decode cX8_still 39 = .ok (.iload_n 1, 1) := by decide +kernel
theorem dX8_still_40 : decode cX8_still 40 = .ok (.invokestatic 163, 3) := by decide +kernel
theorem dX8_still_43 : decode cX8_still 43 = .ok (.aload_n 2, 1) := by decide +kernel
theorem dX8_still_44 : decode cX8_still 44 = .ok (.iload 4, 2) := by decide +kernel
theorem dX8_still_46 : decode cX8_still 46 = .ok (.iconst 1, 1) := by decide +kernel
theorem dX8_still_47 : decode cX8_still 47 = .ok (.isub, 1) := by decide +kernel
theorem dX8_still_48 : decode cX8_still 48 = .ok (.iaload, 1) := by decide +kernel
theorem dX8_still_49 : decode cX8_still 49 = .ok (.iload_n 1, 1) := by decide +kernel
theorem dX8_still_50 : decode cX8_still 50 = .ok (.invokestatic 163, 3) := by decide +kernel
theorem dX8_still_53 : decode cX8_still 53 = .ok (.if_icmp .ne 6, 3) := by decide +kernel
theorem dX8_still_56 : decode cX8_still 56 = .ok (.iinc 3 1, 3) := by decide +kernel
theorem dX8_still_59 : decode cX8_still 59 = .ok (.iinc 4 1, 3) := by decide +kernel
theorem dX8_still_62 : decode cX8_still 62 = .ok (.goto (-39), 3) := by decide +kernel
theorem dX8_still_65 : decode cX8_still 65 = .ok (.iload_n 3, 1) := by decide +kernel
theorem dX8_still_66 : decode cX8_still 66 = .ok (.ireturn, 1) := by decide +kernel
set_option maxRecDepth 20000 in
theorem ggX8_ahead_X8_isBell : GoodIn wsX8_ahead wsX8_isBell := goodIn_r _ [8, 9, 10, 77, 78, 79, 80, 81, 82, 83, 84, 85, 86, 87, 88, 89, 90, 91, 92, 93, 94, 95, 96, 97] (by decide +kernel) (by decide +kernel)
set_option maxRecDepth 20000 in
theorem gX8_ahead_X8_isBell : GoodIn wsX8_ahead (wsV RX8 153 RX8 yX8_isBell wsX8_isBell) := goodIn_app (goodIn_of _ (by decide +kernel)) ggX8_ahead_X8_isBell
set_option maxRecDepth 20000 in
theorem ggX8_ahead_X8_rung : GoodIn wsX8_ahead wsX8_rung := goodIn_r _ [14, 15, 2, 9, 16, 17, 18, 19, 20, 21, 22, 23, 24, 25, 26, 27, 28, 29, 30, 31, 32, 33, 34, 35, 36, 37, 38, 39, 40, 41, 42, 43, 44, 45, 46, 47, 48, 49, 50, 51, 52, 53, 54, 55, 56, 57, 58, 59, 77, 78, 79, 80, 81, 82, 83, 84, 85, 86, 87, 88, 89, 90, 91, 92, 93, 94, 95, 96, 97, 69, 70, 71, 72, 73, 74, 75, 76] (by decide +kernel) (by decide +kernel)
set_option maxRecDepth 20000 in
theorem gX8_ahead_X8_rung : GoodIn wsX8_ahead (wsV RX8 130 RX8 yX8_rung wsX8_rung) := goodIn_app (goodIn_of _ (by decide +kernel)) ggX8_ahead_X8_rung
set_option maxRecDepth 20000 in
theorem ggX8_ahead_X2_isRightAhead : GoodIn wsX8_ahead wsX2_isRightAhead := goodIn_r _ [62, 63, 64, 38, 65, 66, 67, 68] (by decide +kernel) (by decide +kernel)
set_option maxRecDepth 20000 in
theorem gX8_ahead_X2_isRightAhead : GoodIn wsX8_ahead (va_wsS RX8 182 yX2_isRightAhead wsX2_isRightAhead) := goodIn_app (goodIn_of _ (by decide +kernel)) ggX8_ahead_X2_isRightAhead
theorem dX8_ahead_0 : decode cX8_ahead 0 = .ok (.aload_n 0, 1) := by decide +kernel
theorem dX8_ahead_1 : decode cX8_ahead 1 = .ok (.iload_n 1, 1) := by decide +kernel
theorem dX8_ahead_2 : decode cX8_ahead 2 = .ok (.invokevirtual 153, 3) := by decide +kernel
theorem dX8_ahead_5 : decode cX8_ahead 5 = .ok (.ifCond .eq 16, 3) := by decide +kernel
theorem dX8_ahead_8 : decode cX8_ahead 8 = .ok (.aload_n 0, 1) := by decide +kernel
theorem dX8_ahead_9 : decode cX8_ahead 9 = .ok (.iload_n 2, 1) := by decide +kernel
theorem dX8_ahead_10 : decode cX8_ahead 10 = .ok (.invokevirtual 153, 3) := by decide +kernel
theorem dX8_ahead_13 : decode cX8_ahead 13 = .ok (.ifCond .eq 8, 3) := by decide +kernel
theorem dX8_ahead_16 : decode cX8_ahead 16 = .ok (.iload_n 1, 1) := by decide +kernel
theorem dX8_ahead_17 : decode cX8_ahead 17 = .ok (.iload_n 2, 1) := by decide +kernel
theorem dX8_ahead_18 : decode cX8_ahead 18 = .ok (.if_icmp .ne 5, 3) := by decide +kernel
theorem dX8_ahead_21 : decode cX8_ahead 21 = .ok (.iconst (-1), 1) := by decide +kernel
theorem dX8_ahead_22 : decode cX8_ahead 22 = .ok (.ireturn, 1) := by decide +kernel
theorem dX8_ahead_23 : decode cX8_ahead 23 = .ok (.aload_n 0, 1) := by decide +kernel
theorem dX8_ahead_24 : decode cX8_ahead 24 = .ok (.invokevirtual 130, 3) := by decide +kernel
theorem dX8_ahead_27 : decode cX8_ahead 27 = .ok (.getfield 156, 3) := by decide +kernel
theorem dX8_ahead_30 : decode cX8_ahead 30 = .ok (.astore_n 3, 1) := by decide +kernel
theorem dX8_ahead_31 : decode cX8_ahead 31 = .ok (.iconst 0, 1) := by decide +kernel
theorem dX8_ahead_32 : decode cX8_ahead 32 = .ok (.istore 4, 2) := by decide +kernel
theorem dX8_ahead_34 : decode cX8_ahead 34 = .ok (.iconst 0, 1) := by decide +kernel
theorem dX8_ahead_35 : decode cX8_ahead 35 = .ok (.istore 5, 2) := by decide +kernel
theorem dX8_ahead_37 : decode cX8_ahead 37 = .ok (.iload 5, 2) := by decide +kernel
theorem dX8_ahead_39 : decode cX8_ahead 39 = .ok (.aload_n 0, 1) := by decide +kernel
theorem dX8_ahead_40 : decode cX8_ahead 40 = .ok (.getfield 27, 3) := by decide +kernel
theorem dX8_ahead_43 : decode cX8_ahead 43 = .ok (.getfield 134, 3) := by decide +kernel
theorem dX8_ahead_46 : decode cX8_ahead 46 = .ok (.if_icmp .gt 24, 3) := by decide +kernel
theorem dX8_ahead_49 : decode cX8_ahead 49 = .ok (.aload_n 3, 1) := by decide +kernel
theorem dX8_ahead_50 : decode cX8_ahead 50 = .ok (.iload 5, 2) := by decide +kernel
theorem dX8_ahead_52 : decode cX8_ahead 52 = .ok (.iaload, 1) := by decide +kernel
theorem dX8_ahead_53 : decode cX8_ahead 53 = .ok (.iload_n 1, 1) := by decide +kernel
theorem dX8_ahead_54 : decode cX8_ahead 54 = .ok (.iload_n 2, 1) := by decide +kernel
theorem dX8_ahead_55 : decode cX8_ahead 55 = .ok (.invokestatic 182, 3) := by decide +kernel
theorem dX8_ahead_58 : decode cX8_ahead 58 = .ok (.ifCond .eq 6, 3) := by decide +kernel
theorem dX8_ahead_61 : decode cX8_ahead 61 = .ok (.iinc 4 1, 3) := by decide +kernel
theorem dX8_ahead_64 : decode cX8_ahead 64 = .ok (.iinc 5 1, 3) := by decide +kernel
theorem dX8_ahead_67 : decode cX8_ahead 67 = .ok (.goto (-30), 3) := by decide +kernel
theorem dX8_ahead_70 : decode cX8_ahead 70 = .ok (.iload 4, 2) := by decide +kernel
theorem dX8_ahead_72 : decode cX8_ahead 72 = .ok (.ireturn, 1) := by decide +kernel
set_option maxRecDepth 20000 in
theorem ggX8_see_X8_isBell : GoodIn wsX8_see wsX8_isBell := goodIn_r _ [8, 1, 9, 19, 20, 21, 22, 23, 24, 25, 26, 27, 28, 29, 30, 31, 32, 33, 34, 35, 36, 37, 38, 39] (by decide +kernel) (by decide +kernel)
set_option maxRecDepth 20000 in
theorem gX8_see_X8_isBell : GoodIn wsX8_see (wsV RX8 153 RX8 yX8_isBell wsX8_isBell) := goodIn_app (goodIn_of _ (by decide +kernel)) ggX8_see_X8_isBell
set_option maxRecDepth 20000 in
theorem ggX8_see_X1_append : GoodIn wsX8_see wsX1_append := goodIn_r _ [14, 15, 16, 17, 18, 40, 41, 42, 43] (by decide +kernel) (by decide +kernel)
set_option maxRecDepth 20000 in
theorem gX8_see_X1_append : GoodIn wsX8_see (wsV RX8 195 RX1 yX1_append wsX1_append) := goodIn_app (goodIn_of _ (by decide +kernel)) ggX8_see_X1_append
theorem dX8_see_0 : decode cX8_see 0 = .ok (.iload_n 1, 1) := by decide +kernel
theorem dX8_see_1 : decode cX8_see 1 = .ok (.iconst (-1), 1) := by decide +kernel
theorem dX8_see_2 : decode cX8_see 2 = .ok (.if_icmp .ne 16, 3) := by decide +kernel
theorem dX8_see_5 : decode cX8_see 5 = .ok (.aload_n 0, 1) := by decide +kernel
theorem dX8_see_6 : decode cX8_see 6 = .ok (.getfield 14, 3) := by decide +kernel
theorem dX8_see_9 : decode cX8_see 9 = .ok (.getfield 186, 3) := by decide +kernel
theorem dX8_see_12 : decode cX8_see 12 = .ok (.iconst 0, 1) := by decide +kernel
theorem dX8_see_13 : decode cX8_see 13 = .ok (.putfield 190, 3) := by decide +kernel
theorem dX8_see_16 : decode cX8_see 16 = .ok (.iconst 0, 1) := by decide +kernel
theorem dX8_see_17 : decode cX8_see 17 = .ok (.ireturn, 1) := by decide +kernel
theorem dX8_see_18 : decode cX8_see 18 = .ok (.iload_n 1, 1) := by decide +kernel
theorem dX8_see_19 : decode cX8_see 19 = .ok (.ifCond .lt 26, 3) := by decide +kernel
theorem dX8_see_22 : decode cX8_see 22 = .ok (.iload_n 1, 1) := by decide +kernel
theorem dX8_see_23 : decode cX8_see 23 = .ok (.sipush 192, 3) := by decide +kernel
theorem dX8_see_26 : decode cX8_see 26 = .ok (.if_icmp .gt 19, 3) := by decide +kernel
theorem dX8_see_29 : decode cX8_see 29 = .ok (.aload_n 0, 1) := by decide +kernel
theorem dX8_see_30 : decode cX8_see 30 = .ok (.iload_n 2, 1) := by decide +kernel
theorem dX8_see_31 : decode cX8_see 31 = .ok (.invokevirtual 153, 3) := by decide +kernel
theorem dX8_see_34 : decode cX8_see 34 = .ok (.ifCond .eq 11, 3) := by decide +kernel
theorem dX8_see_37 : decode cX8_see 37 = .ok (.aload_n 0, 1) := by decide +kernel
theorem dX8_see_38 : decode cX8_see 38 = .ok (.iload_n 3, 1) := by decide +kernel
theorem dX8_see_39 : decode cX8_see 39 = .ok (.invokevirtual 153, 3) := by decide +kernel
theorem dX8_see_42 : decode cX8_see 42 = .ok (.ifCond .ne 5, 3) := by decide +kernel
theorem dX8_see_45 : decode cX8_see 45 = .ok (.iconst (-1), 1) := by decide +kernel
theorem dX8_see_46 : decode cX8_see 46 = .ok (.ireturn, 1) := by decide +kernel
theorem dX8_see_47 : decode cX8_see 47 = .ok (.aload_n 0, 1) := by decide +kernel
theorem dX8_see_48 : decode cX8_see 48 = .ok (.getfield 14, 3) := by decide +kernel
theorem dX8_see_51 : decode cX8_see 51 = .ok (.getfield 186, 3) := by decide +kernel
theorem dX8_see_54 : decode cX8_see 54 = .ok (.iload_n 1, 1) := by decide +kernel
theorem dX8_see_55 : decode cX8_see 55 = .ok (.iload_n 2, 1) := by decide +kernel
theorem dX8_see_56 : decode cX8_see 56 = .ok (.iload_n 3, 1) := by decide +kernel
theorem dX8_see_57 : decode cX8_see 57 = .ok (.invokevirtual 195, 3) := by decide +kernel
theorem dX8_see_60 : decode cX8_see 60 = .ok (.ifCond .eq 16, 3) := by decide +kernel
theorem dX8_see_63 : decode cX8_see 63 = .ok (.aload_n 0, 1) := by decide +kernel
theorem dX8_see_64 : decode cX8_see 64 = .ok (.getfield 14, 3) := by decide +kernel
theorem dX8_see_67 : decode cX8_see 67 = .ok (.getfield 186, 3) := by decide +kernel
theorem dX8_see_70 : decode cX8_see 70 = .ok (.getfield 190, 3) := by decide +kernel
theorem dX8_see_73 : decode cX8_see 73 = .ok (.goto 5, 3) := by decide +kernel
theorem dX8_see_76 : decode cX8_see 76 = .ok (.bipush (-4), 2) := by decide +kernel
theorem dX8_see_78 : decode cX8_see 78 = .ok (.ireturn, 1) := by decide +kernel
set_option maxRecDepth 20000 in
theorem ggX8_fits_X4_copyFrom : GoodIn wsX8_fits wsX4_copyFrom := goodIn_r _ [9, 10, 11, 12, 13, 14, 15, 16, 17, 18, 19, 20, 21, 22, 23, 24, 25, 26, 27, 28, 29, 30, 31, 32, 33, 34, 35, 36, 37, 110, 111, 112, 113, 114, 115, 116, 117, 118, 119, 120, 121, 122, 123, 124] (by decide +kernel) (by decide +kernel)
set_option maxRecDepth 20000 in
theorem gX8_fits_X4_copyFrom : GoodIn wsX8_fits (wsV RX8 197 RX4 yX4_copyFrom wsX4_copyFrom) := goodIn_app (goodIn_of _ (by decide +kernel)) ggX8_fits_X4_copyFrom
set_option maxRecDepth 20000 in
theorem ggX8_fits_X2_isGood : GoodIn wsX8_fits wsX2_isGood := goodIn_r _ [41, 42, 43, 40, 44, 45, 46, 47] (by decide +kernel) (by decide +kernel)
set_option maxRecDepth 20000 in
theorem gX8_fits_X2_isGood : GoodIn wsX8_fits (va_wsS RX8 74 yX2_isGood wsX2_isGood) := goodIn_app (goodIn_of _ (by decide +kernel)) ggX8_fits_X2_isGood
set_option maxRecDepth 20000 in
theorem ggX8_fits_X8_fitsLast : GoodIn wsX8_fits wsX8_fitsLast := goodIn_r _ [52, 1, 3, 53, 54, 2, 55, 56, 57, 58, 59, 60, 61, 62, 63, 64, 65, 66, 67, 68, 69, 70, 71, 72, 73, 74, 75, 76, 77, 78, 79, 80, 81, 82, 43, 40, 44, 45, 46, 47, 83, 84, 85, 8, 86, 12, 13, 87, 88, 89, 90, 91, 92, 93, 94, 95, 96, 97, 98, 99, 100, 101, 102, 103, 104, 105, 106, 107, 108, 109, 110, 111, 112, 113, 114, 115, 116, 117, 118, 119, 120, 121, 122, 123, 124, 125, 126, 127, 128, 129, 130, 131, 132] (by decide +kernel) (by decide +kernel)
set_option maxRecDepth 20000 in
theorem gX8_fits_X8_fitsLast : GoodIn wsX8_fits (wsV RX8 201 RX8 yX8_fitsLast wsX8_fitsLast) := goodIn_app (goodIn_of _ (by decide +kernel)) ggX8_fits_X8_fitsLast
theorem dX8_fits_0 : decode cX8_fits 0 = .ok (.iload_n 1, 1) := by decide +kernel
theorem dX8_fits_1 : decode cX8_fits 1 = .ok (.ifCond .eq 10, 3) := by decide +kernel
theorem dX8_fits_4 : decode cX8_fits 4 = .ok (.iload_n 1, 1) := by decide +kernel
theorem dX8_fits_5 : decode cX8_fits 5 = .ok (.iconst 1, 1) := by decide +kernel
theorem dX8_fits_6 : decode cX8_fits 6 = .ok (.if_icmp .eq 5, 3) := by decide +kernel
theorem dX8_fits_9 : decode cX8_fits 9 = .ok (.iconst (-1), 1) := by decide +kernel
theorem dX8_fits_10 : decode cX8_fits 10 = .ok (.ireturn, 1) := by decide +kernel
theorem dX8_fits_11 : decode cX8_fits 11 = .ok (.iconst 0, 1) := by decide +kernel
theorem dX8_fits_12 : decode cX8_fits 12 = .ok (.istore_n 2, 1) := by decide +kernel
theorem dX8_fits_13 : decode cX8_fits 13 = .ok (.bipush (-5), 2) := by decide +kernel
theorem dX8_fits_15 : decode cX8_fits 15 = .ok (.istore_n 3, 1) := by decide +kernel
theorem dX8_fits_16 : decode cX8_fits 16 = .ok (.aload_n 0, 1) := by decide +kernel
theorem dX8_fits_17 : decode cX8_fits 17 = .ok (.getfield 21, 3) := by decide +kernel
theorem dX8_fits_20 : decode cX8_fits 20 = .ok (.aload_n 0, 1) := by decide +kernel
theorem dX8_fits_21 : decode cX8_fits 21 = .ok (.getfield 14, 3) := by decide +kernel
theorem dX8_fits_24 : decode cX8_fits 24 = .ok (.invokevirtual 197, 3) := by decide +kernel
theorem dX8_fits_27 : decode cX8_fits 27 = .ok (.aload_n 0, 1) := by decide +kernel
theorem dX8_fits_28 : decode cX8_fits 28 = .ok (.getfield 14, 3) := by decide +kernel
theorem dX8_fits_31 : decode cX8_fits 31 = .ok (.getfield 80, 3) := by decide +kernel
theorem dX8_fits_34 : decode cX8_fits 34 = .ok (.ifCond .le 15, 3) := by decide +kernel
theorem dX8_fits_37 : decode cX8_fits 37 = .ok (.iconst 1, 1) := by decide +kernel
theorem dX8_fits_38 : decode cX8_fits 38 = .ok (.aload_n 0, 1) := by decide +kernel
theorem dX8_fits_39 : decode cX8_fits 39 = .ok (.getfield 14, 3) := by decide +kernel
theorem dX8_fits_42 : decode cX8_fits 42 = .ok (.getfield 62, 3) := by decide +kernel
theorem dX8_fits_45 : decode cX8_fits 45 = .ok (.ishl, 1) := by decide +kernel
theorem dX8_fits_46 : decode cX8_fits 46 = .ok (.goto 4, 3) := by decide +kernel
theorem dX8_fits_49 : decode cX8_fits 49 = .ok (.iconst 0, 1) := by decide +kernel
theorem dX8_fits_50 : decode cX8_fits 50 = .ok (.istore 4, 2) := by decide +kernel
theorem dX8_fits_52 : decode cX8_fits 52 = .ok (.iconst 0, 1) := by decide +kernel
theorem dX8_fits_53 : decode cX8_fits 53 = .ok (.istore 5, 2) := by decide +kernel
theorem dX8_fits_55 : decode cX8_fits 55 = .ok (.iload 5, 2) := by decide +kernel
theorem dX8_fits_57 : decode cX8_fits 57 = .ok (.iload 4, 2) := by decide +kernel
theorem dX8_fits_59 : decode cX8_fits 59 = .ok (.if_icmp .ge 49, 3) := by decide +kernel
theorem dX8_fits_62 : decode cX8_fits 62 = .ok (.aload_n 0, 1) := by decide +kernel
theorem dX8_fits_63 : decode cX8_fits 63 = .ok (.getfield 14, 3) := by decide +kernel
theorem dX8_fits_66 : decode cX8_fits 66 = .ok (.getfield 62, 3) := by decide +kernel
theorem dX8_fits_69 : decode cX8_fits 69 = .ok (.iload 5, 2) := by decide +kernel
theorem dX8_fits_71 : decode cX8_fits 71 = .ok (.invokestatic 74, 3) := by decide +kernel
theorem dX8_fits_74 : decode cX8_fits 74 = .ok (.ifCond .eq 28, 3) := by decide +kernel
theorem dX8_fits_77 : decode cX8_fits 77 = .ok (.aload_n 0, 1) := by decide +kernel
theorem dX8_fits_78 : decode cX8_fits 78 = .ok (.iload 5, 2) := by decide +kernel
theorem dX8_fits_80 : decode cX8_fits 80 = .ok (.invokevirtual 201, 3) := by decide +kernel
theorem dX8_fits_83 : decode cX8_fits 83 = .ok (.ifCond .eq 19, 3) := by decide +kernel
theorem dX8_fits_86 : decode cX8_fits 86 = .ok (.iinc 2 1, 3) := by decide +kernel
theorem dX8_fits_89 : decode cX8_fits 89 = .ok (.iload_n 3, 1) := by decide +kernel
theorem dX8_fits_90 : decode cX8_fits 90 = .ok (.bipush (-5), 2) := by decide +kernel
theorem dX8_fits_92 : decode cX8_fits 92 = .ok (.if_icmp .ne 8, 3) := by decide +kernel
theorem dX8_fits_95 : decode cX8_fits 95 = .ok (.iload 5, 2) := by decide +kernel
theorem dX8_fits_97 : decode cX8_fits 97 = .ok (.goto 4, 3) := by decide +kernel
theorem dX8_fits_100 : decode cX8_fits 100 = .ok (.iload_n 3, 1) := by decide +kernel
theorem dX8_fits_101 : decode cX8_fits 101 = .ok (.istore_n 3, 1) := by decide +kernel
theorem dX8_fits_102 : decode cX8_fits 102 = .ok (.iinc 5 1, 3) := by decide +kernel
theorem dX8_fits_105 : decode cX8_fits 105 = .ok (.goto (-50), 3) := by decide +kernel
theorem dX8_fits_108 : decode cX8_fits 108 = .ok (.iload_n 1, 1) := by decide +kernel
theorem dX8_fits_109 : decode cX8_fits 109 = .ok (.ifCond .ne 7, 3) := by decide +kernel
theorem dX8_fits_112 : decode cX8_fits 112 = .ok (.iload_n 2, 1) := by decide +kernel
theorem dX8_fits_113 : decode cX8_fits 113 = .ok (.goto 4, 3) := by decide +kernel
theorem dX8_fits_116 : decode cX8_fits 116 = .ok (.iload_n 3, 1) := by decide +kernel
theorem dX8_fits_117 : decode cX8_fits 117 = .ok (.ireturn, 1) := by decide +kernel
set_option maxRecDepth 20000 in
theorem ggX8_odds_X8_isBell : GoodIn wsX8_odds wsX8_isBell := goodIn_r _ [9, 10, 11, 78, 79, 80, 81, 82, 83, 84, 85, 86, 87, 88, 89, 90, 91, 92, 93, 94, 95, 96, 97, 98] (by decide +kernel) (by decide +kernel)
set_option maxRecDepth 20000 in
theorem gX8_odds_X8_isBell : GoodIn wsX8_odds (wsV RX8 153 RX8 yX8_isBell wsX8_isBell) := goodIn_app (goodIn_of _ (by decide +kernel)) ggX8_odds_X8_isBell
set_option maxRecDepth 20000 in
theorem ggX8_odds_X8_isPart : GoodIn wsX8_odds wsX8_isPart := goodIn_r _ [14] (by decide +kernel) (by decide +kernel)
set_option maxRecDepth 20000 in
theorem gX8_odds_X8_isPart : GoodIn wsX8_odds (va_wsS RX8 204 yX8_isPart wsX8_isPart) := goodIn_app (goodIn_of _ (by decide +kernel)) ggX8_odds_X8_isPart
set_option maxRecDepth 20000 in
theorem ggX8_odds_X8_rung : GoodIn wsX8_odds wsX8_rung := goodIn_r _ [18, 19, 3, 10, 20, 21, 22, 23, 24, 25, 26, 27, 28, 29, 30, 31, 32, 33, 34, 35, 36, 37, 38, 39, 40, 41, 42, 43, 44, 45, 46, 47, 48, 49, 50, 51, 52, 53, 54, 55, 56, 57, 58, 59, 60, 61, 62, 63, 78, 79, 80, 81, 82, 83, 84, 85, 86, 87, 88, 89, 90, 91, 92, 93, 94, 95, 96, 97, 98, 70, 71, 72, 73, 74, 75, 76, 77] (by decide +kernel) (by decide +kernel)
set_option maxRecDepth 20000 in
theorem gX8_odds_X8_rung : GoodIn wsX8_odds (wsV RX8 130 RX8 yX8_rung wsX8_rung) := goodIn_app (goodIn_of _ (by decide +kernel)) ggX8_odds_X8_rung
set_option maxRecDepth 20000 in
theorem ggX8_odds_X2_bellIn : GoodIn wsX8_odds wsX2_bellIn := goodIn_r _ [66] (by decide +kernel) (by decide +kernel)
set_option maxRecDepth 20000 in
theorem gX8_odds_X2_bellIn : GoodIn wsX8_odds (va_wsS RX8 159 yX2_bellIn wsX2_bellIn) := goodIn_app (goodIn_of _ (by decide +kernel)) ggX8_odds_X2_bellIn
set_option maxRecDepth 20000 in
theorem ggX8_odds_X8_lowestTerms : GoodIn wsX8_odds wsX8_lowestTerms := goodIn_r _ [69] (by decide +kernel) (by decide +kernel)
set_option maxRecDepth 20000 in
theorem gX8_odds_X8_lowestTerms : GoodIn wsX8_odds (va_wsS RX8 209 yX8_lowestTerms wsX8_lowestTerms) := goodIn_app (goodIn_of _ (by decide +kernel)) ggX8_odds_X8_lowestTerms
theorem dX8_odds_0 : decode cX8_odds 0 = .ok (.aload_n 0, 1) := by decide +kernel
theorem dX8_odds_1 : decode cX8_odds 1 = .ok (.iload_n 1, 1) := by decide +kernel
theorem dX8_odds_2 : decode cX8_odds 2 = .ok (.invokevirtual 153, 3) := by decide +kernel
theorem dX8_odds_5 : decode cX8_odds 5 = .ok (.ifCond .eq 18, 3) := by decide +kernel
theorem dX8_odds_8 : decode cX8_odds 8 = .ok (.aload_n 0, 1) := by decide +kernel
theorem dX8_odds_9 : decode cX8_odds 9 = .ok (.iload_n 2, 1) := by decide +kernel
theorem dX8_odds_10 : decode cX8_odds 10 = .ok (.invokevirtual 153, 3) := by decide +kernel
theorem dX8_odds_13 : decode cX8_odds 13 = .ok (.ifCond .eq 10, 3) := by decide +kernel
theorem dX8_odds_16 : decode cX8_odds 16 = .ok (.iload_n 3, 1) := by decide +kernel
theorem dX8_odds_17 : decode cX8_odds 17 = .ok (.invokestatic 204, 3) := by decide +kernel
theorem dX8_odds_20 : decode cX8_odds 20 = .ok (.ifCond .ne 7, 3) := by decide +kernel
theorem dX8_odds_23 : decode cX8_odds 23 = .ok (.ldc2_w 207, 3) := by decide +kernel
theorem dX8_odds_26 : decode cX8_odds 26 = .ok (.lreturn, 1) := by decide +kernel
theorem dX8_odds_27 : decode cX8_odds 27 = .ok (.aload_n 0, 1) := by decide +kernel
theorem dX8_odds_28 : decode cX8_odds 28 = .ok (.invokevirtual 130, 3) := by decide +kernel
theorem dX8_odds_31 : decode cX8_odds 31 = .ok (.getfield 156, 3) := by decide +kernel
theorem dX8_odds_34 : decode cX8_odds 34 = .ok (.astore 4, 2) := by decide +kernel
theorem dX8_odds_36 : decode cX8_odds 36 = .ok (.iconst 0, 1) := by decide +kernel
theorem dX8_odds_37 : decode cX8_odds 37 = .ok (.istore 5, 2) := by decide +kernel
theorem dX8_odds_39 : decode cX8_odds 39 = .ok (.iconst 0, 1) := by decide +kernel
theorem dX8_odds_40 : decode cX8_odds 40 = .ok (.istore 6, 2) := by decide +kernel
theorem dX8_odds_42 : decode cX8_odds 42 = .ok (.iload 6, 2) := by decide +kernel
theorem dX8_odds_44 : decode cX8_odds 44 = .ok (.aload_n 0, 1) := by decide +kernel
theorem dX8_odds_45 : decode cX8_odds 45 = .ok (.getfield 27, 3) := by decide +kernel
theorem dX8_odds_48 : decode cX8_odds 48 = .ok (.getfield 134, 3) := by decide +kernel
theorem dX8_odds_51 : decode cX8_odds 51 = .ok (.if_icmp .gt 25, 3) := by decide +kernel
theorem dX8_odds_54 : decode cX8_odds 54 = .ok (.aload 4, 2) := by decide +kernel
theorem dX8_odds_56 : decode cX8_odds 56 = .ok (.iload 6, 2) := by decide +kernel
theorem dX8_odds_58 : decode cX8_odds 58 = .ok (.iaload, 1) := by decide +kernel
theorem dX8_odds_59 : decode cX8_odds 59 = .ok (.iload_n 2, 1) := by decide +kernel
theorem dX8_odds_60 : decode cX8_odds 60 = .ok (.invokestatic 159, 3) := by decide +kernel
theorem dX8_odds_63 : decode cX8_odds 63 = .ok (.iload_n 1, 1) := by decide +kernel
theorem dX8_odds_64 : decode cX8_odds 64 = .ok (.if_icmp .ne 6, 3) := by decide +kernel
theorem dX8_odds_67 : decode cX8_odds 67 = .ok (.iinc 5 1, 3) := by decide +kernel
theorem dX8_odds_70 : decode cX8_odds 70 = .ok (.iinc 6 1, 3) := by decide +kernel
theorem dX8_odds_73 : decode cX8_odds 73 = .ok (.goto (-31), 3) := by decide +kernel
theorem dX8_odds_76 : decode cX8_odds 76 = .ok (.iload 5, 2) := by decide +kernel
theorem dX8_odds_78 : decode cX8_odds 78 = .ok (.aload_n 0, 1) := by decide +kernel
theorem dX8_odds_79 : decode cX8_odds 79 = .ok (.getfield 27, 3) := by decide +kernel
theorem dX8_odds_82 : decode cX8_odds 82 = .ok (.getfield 134, 3) := by decide +kernel
theorem dX8_odds_85 : decode cX8_odds 85 = .ok (.iconst 1, 1) := by decide +kernel
theorem dX8_odds_86 : decode cX8_odds 86 = .ok (.iadd, 1) := by decide +kernel
theorem dX8_odds_87 : decode cX8_odds 87 = .ok (.iload_n 3, 1) := by decide +kernel
theorem dX8_odds_88 : decode cX8_odds 88 = .ok (.invokestatic 209, 3) := by decide +kernel
theorem dX8_odds_91 : decode cX8_odds 91 = .ok (.lreturn, 1) := by decide +kernel
set_option maxRecDepth 20000 in
theorem ggX8_mean_X8_isPart : GoodIn wsX8_mean wsX8_isPart := goodIn_r _ [6] (by decide +kernel) (by decide +kernel)
set_option maxRecDepth 20000 in
theorem gX8_mean_X8_isPart : GoodIn wsX8_mean (va_wsS RX8 204 yX8_isPart wsX8_isPart) := goodIn_app (goodIn_of _ (by decide +kernel)) ggX8_mean_X8_isPart
set_option maxRecDepth 20000 in
theorem ggX8_mean_X8_countMusic : GoodIn wsX8_mean wsX8_countMusic := goodIn_r _ [10, 11, 12, 2, 13, 14, 15, 16, 5, 17, 18, 19, 20, 21, 22, 23, 24, 25, 26, 27, 28, 29, 30, 31, 32, 33, 34, 35, 36, 37, 38, 39, 40, 41, 42, 43, 44, 45, 46, 47, 48, 49, 50, 51, 52, 53, 54, 55, 56, 57, 58, 59, 60, 61, 62, 63, 64, 65, 66, 67, 68, 69, 70, 71, 72, 73, 74, 75, 76, 77, 78, 79, 80, 81, 82, 83, 84, 88, 89, 90, 91, 92, 93, 94, 95, 96, 97, 98, 99, 100, 101, 102, 103, 104, 105, 106, 107, 108, 109, 110, 111, 112, 113, 114, 115, 116] (by decide +kernel) (by decide +kernel)
set_option maxRecDepth 20000 in
theorem gX8_mean_X8_countMusic : GoodIn wsX8_mean (wsV RX8 169 RX8 yX8_countMusic wsX8_countMusic) := goodIn_app (goodIn_of _ (by decide +kernel)) ggX8_mean_X8_countMusic
set_option maxRecDepth 20000 in
theorem ggX8_mean_X8_rung : GoodIn wsX8_mean wsX8_rung := goodIn_r _ [17, 18, 12, 13, 19, 20, 21, 22, 23, 24, 25, 26, 27, 28, 29, 30, 31, 32, 33, 34, 35, 36, 37, 38, 39, 40, 41, 42, 43, 44, 45, 46, 47, 48, 49, 50, 51, 52, 53, 54, 55, 56, 57, 58, 59, 60, 61, 62, 96, 97, 98, 99, 100, 101, 102, 103, 104, 105, 106, 107, 108, 109, 110, 111, 112, 113, 114, 115, 116, 88, 89, 90, 91, 92, 93, 94, 95] (by decide +kernel) (by decide +kernel)
set_option maxRecDepth 20000 in
theorem gX8_mean_X8_rung : GoodIn wsX8_mean (wsV RX8 130 RX8 yX8_rung wsX8_rung) := goodIn_app (goodIn_of _ (by decide +kernel)) ggX8_mean_X8_rung
set_option maxRecDepth 20000 in
theorem ggX8_mean_X8_lowestTerms : GoodIn wsX8_mean wsX8_lowestTerms := goodIn_r _ [87] (by decide +kernel) (by decide +kernel)
set_option maxRecDepth 20000 in
theorem gX8_mean_X8_lowestTerms : GoodIn wsX8_mean (va_wsS RX8 209 yX8_lowestTerms wsX8_lowestTerms) := goodIn_app (goodIn_of _ (by decide +kernel)) ggX8_mean_X8_lowestTerms
theorem dX8_mean_0 : decode cX8_mean 0 = .ok (.iload_n 1, 1) := by decide +kernel
theorem dX8_mean_1 : decode cX8_mean 1 = .ok (.invokestatic 204, 3) := by decide +kernel
theorem dX8_mean_4 : decode cX8_mean 4 = .ok (.ifCond .ne 7, 3) := by decide +kernel
theorem dX8_mean_7 : decode cX8_mean 7 = .ok (.ldc2_w 207, 3) := by decide +kernel
theorem dX8_mean_10 : decode cX8_mean 10 = .ok (.lreturn, 1) := by decide +kernel
theorem dX8_mean_11 : decode cX8_mean 11 = .ok (.iconst 0, 1) := by decide +kernel
theorem dX8_mean_12 : decode cX8_mean 12 = .ok (.istore_n 2, 1) := by decide +kernel
theorem dX8_mean_13 : decode cX8_mean 13 = .ok (.iconst 0, 1) := by decide +kernel
theorem dX8_mean_14 : decode cX8_mean 14 = .ok (.istore_n 3, 1) := by decide +kernel
theorem dX8_mean_15 : decode cX8_mean 15 = .ok (.iload_n 3, 1) := by decide +kernel
theorem dX8_mean_16 : decode cX8_mean 16 = .ok (.iconst 4, 1) := by decide +kernel
theorem dX8_mean_17 : decode cX8_mean 17 = .ok (.if_icmp .ge 17, 3) := by decide +kernel
theorem dX8_mean_20 : decode cX8_mean 20 = .ok (.iload_n 2, 1) := by decide +kernel
theorem dX8_mean_21 : decode cX8_mean 21 = .ok (.aload_n 0, 1) := by decide +kernel
theorem dX8_mean_22 : decode cX8_mean 22 = .ok (.iload_n 3, 1) := by decide +kernel
theorem dX8_mean_23 : decode cX8_mean 23 = .ok (.invokevirtual 169, 3) := by decide +kernel
theorem dX8_mean_26 : decode cX8_mean 26 = .ok (.iadd, 1) := by decide +kernel
theorem dX8_mean_27 : decode cX8_mean 27 = .ok (.istore_n 2, 1) := by decide +kernel
theorem dX8_mean_28 : decode cX8_mean 28 = .ok (.iinc 3 1, 3) := by decide +kernel
theorem dX8_mean_31 : decode cX8_mean 31 = .ok (.goto (-16), 3) := by decide +kernel
theorem dX8_mean_34 : decode cX8_mean 34 = .ok (.iload_n 2, 1) := by decide +kernel
theorem dX8_mean_35 : decode cX8_mean 35 = .ok (.aload_n 0, 1) := by decide +kernel
theorem dX8_mean_36 : decode cX8_mean 36 = .ok (.invokevirtual 130, 3) := by decide +kernel
theorem dX8_mean_39 : decode cX8_mean 39 = .ok (.getfield 134, 3) := by decide +kernel
theorem dX8_mean_42 : decode cX8_mean 42 = .ok (.iconst 1, 1) := by decide +kernel
theorem dX8_mean_43 : decode cX8_mean 43 = .ok (.iadd, 1) := by decide +kernel
theorem dX8_mean_44 : decode cX8_mean 44 = .ok (.iload_n 1, 1) := by decide +kernel
theorem dX8_mean_45 : decode cX8_mean 45 = .ok (.invokestatic 209, 3) := by decide +kernel
theorem dX8_mean_48 : decode cX8_mean 48 = .ok (.lreturn, 1) := by decide +kernel
set_option maxRecDepth 20000 in
theorem ggX8_event_X8_isLead : GoodIn wsX8_event wsX8_isLead := goodIn_r _ [7] (by decide +kernel) (by decide +kernel)
set_option maxRecDepth 20000 in
theorem gX8_event_X8_isLead : GoodIn wsX8_event (va_wsS RX8 95 yX8_isLead wsX8_isLead) := goodIn_app (goodIn_of _ (by decide +kernel)) ggX8_event_X8_isLead
set_option maxRecDepth 20000 in
theorem ggX8_event_X1_append : GoodIn wsX8_event wsX1_append := goodIn_r _ [12, 13, 14, 15, 16, 38, 39, 40, 41] (by decide +kernel) (by decide +kernel)
set_option maxRecDepth 20000 in
theorem gX8_event_X1_append : GoodIn wsX8_event (wsV RX8 195 RX1 yX1_append wsX1_append) := goodIn_app (goodIn_of _ (by decide +kernel)) ggX8_event_X1_append
theorem dX8_event_0 : decode cX8_event 0 = .ok (.iload_n 1, 1) := by decide +kernel
theorem dX8_event_1 : decode cX8_event 1 = .ok (.iconst (-1), 1) := by decide +kernel
theorem dX8_event_2 : decode cX8_event 2 = .ok (.if_icmp .ne 16, 3) := by decide +kernel
theorem dX8_event_5 : decode cX8_event 5 = .ok (.aload_n 0, 1) := by decide +kernel
theorem dX8_event_6 : decode cX8_event 6 = .ok (.getfield 14, 3) := by decide +kernel
theorem dX8_event_9 : decode cX8_event 9 = .ok (.getfield 213, 3) := by decide +kernel
theorem dX8_event_12 : decode cX8_event 12 = .ok (.iconst 0, 1) := by decide +kernel
theorem dX8_event_13 : decode cX8_event 13 = .ok (.putfield 190, 3) := by decide +kernel
theorem dX8_event_16 : decode cX8_event 16 = .ok (.iconst 0, 1) := by decide +kernel
theorem dX8_event_17 : decode cX8_event 17 = .ok (.ireturn, 1) := by decide +kernel
theorem dX8_event_18 : decode cX8_event 18 = .ok (.iload_n 1, 1) := by decide +kernel
theorem dX8_event_19 : decode cX8_event 19 = .ok (.ifCond .lt 8, 3) := by decide +kernel
theorem dX8_event_22 : decode cX8_event 22 = .ok (.iload_n 1, 1) := by decide +kernel
theorem dX8_event_23 : decode cX8_event 23 = .ok (.iconst 3, 1) := by decide +kernel
theorem dX8_event_24 : decode cX8_event 24 = .ok (.if_icmp .le 5, 3) := by decide +kernel
theorem dX8_event_27 : decode cX8_event 27 = .ok (.iconst (-1), 1) := by decide +kernel
theorem dX8_event_28 : decode cX8_event 28 = .ok (.ireturn, 1) := by decide +kernel
theorem dX8_event_29 : decode cX8_event 29 = .ok (.iload_n 1, 1) := by decide +kernel
theorem dX8_event_30 : decode cX8_event 30 = .ok (.iconst 1, 1) := by decide +kernel
theorem dX8_event_31 : decode cX8_event 31 = .ok (.if_icmp .gt 12, 3) := by decide +kernel
theorem dX8_event_34 : decode cX8_event 34 = .ok (.iload_n 2, 1) := by decide +kernel
theorem dX8_event_35 : decode cX8_event 35 = .ok (.invokestatic 95, 3) := by decide +kernel
theorem dX8_event_38 : decode cX8_event 38 = .ok (.ifCond .ne 5, 3) := by decide +kernel
theorem dX8_event_41 : decode cX8_event 41 = .ok (.iconst (-1), 1) := by decide +kernel
theorem dX8_event_42 : decode cX8_event 42 = .ok (.ireturn, 1) := by decide +kernel
theorem dX8_event_43 : decode cX8_event 43 = .ok (.iload_n 1, 1) := by decide +kernel
theorem dX8_event_44 : decode cX8_event 44 = .ok (.iconst 2, 1) := by decide +kernel
theorem dX8_event_45 : decode cX8_event 45 = .ok (.if_icmp .ne 16, 3) := by decide +kernel
theorem dX8_event_48 : decode cX8_event 48 = .ok (.iload_n 2, 1) := by decide +kernel
theorem dX8_event_49 : decode cX8_event 49 = .ok (.ifCond .lt 9, 3) := by decide +kernel
theorem dX8_event_52 : decode cX8_event 52 = .ok (.iload_n 2, 1) := by decide +kernel
theorem dX8_event_53 : decode cX8_event 53 = .ok (.bipush 16, 2) := by decide +kernel
theorem dX8_event_55 : decode cX8_event 55 = .ok (.if_icmp .le 6, 3) := by decide +kernel
theorem dX8_event_58 : decode cX8_event 58 = .ok (.bipush (-2), 2) := by decide +kernel
theorem dX8_event_60 : decode cX8_event 60 = .ok (.ireturn, 1) := by decide +kernel
theorem dX8_event_61 : decode cX8_event 61 = .ok (.iload_n 1, 1) := by decide +kernel
theorem dX8_event_62 : decode cX8_event 62 = .ok (.iconst 3, 1) := by decide +kernel
theorem dX8_event_63 : decode cX8_event 63 = .ok (.if_icmp .ne 17, 3) := by decide +kernel
theorem dX8_event_66 : decode cX8_event 66 = .ok (.iload_n 2, 1) := by decide +kernel
theorem dX8_event_67 : decode cX8_event 67 = .ok (.iconst 1, 1) := by decide +kernel
theorem dX8_event_68 : decode cX8_event 68 = .ok (.if_icmp .lt 9, 3) := by decide +kernel
theorem dX8_event_71 : decode cX8_event 71 = .ok (.iload_n 2, 1) := by decide +kernel
theorem dX8_event_72 : decode cX8_event 72 = .ok (.bipush 12, 2) := by decide +kernel
theorem dX8_event_74 : decode cX8_event 74 = .ok (.if_icmp .le 6, 3) := by decide +kernel
theorem dX8_event_77 : decode cX8_event 77 = .ok (.bipush (-2), 2) := by decide +kernel
theorem dX8_event_79 : decode cX8_event 79 = .ok (.ireturn, 1) := by decide +kernel
theorem dX8_event_80 : decode cX8_event 80 = .ok (.aload_n 0, 1) := by decide +kernel
theorem dX8_event_81 : decode cX8_event 81 = .ok (.getfield 14, 3) := by decide +kernel
theorem dX8_event_84 : decode cX8_event 84 = .ok (.getfield 213, 3) := by decide +kernel
theorem dX8_event_87 : decode cX8_event 87 = .ok (.iload_n 1, 1) := by decide +kernel
theorem dX8_event_88 : decode cX8_event 88 = .ok (.iload_n 2, 1) := by decide +kernel
theorem dX8_event_89 : decode cX8_event 89 = .ok (.iconst 0, 1) := by decide +kernel
theorem dX8_event_90 : decode cX8_event 90 = .ok (.invokevirtual 195, 3) := by decide +kernel
theorem dX8_event_93 : decode cX8_event 93 = .ok (.ifCond .eq 16, 3) := by decide +kernel
theorem dX8_event_96 : decode cX8_event 96 = .ok (.aload_n 0, 1) := by decide +kernel
theorem dX8_event_97 : decode cX8_event 97 = .ok (.getfield 14, 3) := by decide +kernel
theorem dX8_event_100 : decode cX8_event 100 = .ok (.getfield 213, 3) := by decide +kernel
theorem dX8_event_103 : decode cX8_event 103 = .ok (.getfield 190, 3) := by decide +kernel
theorem dX8_event_106 : decode cX8_event 106 = .ok (.goto 5, 3) := by decide +kernel
theorem dX8_event_109 : decode cX8_event 109 = .ok (.bipush (-4), 2) := by decide +kernel
theorem dX8_event_111 : decode cX8_event 111 = .ok (.ireturn, 1) := by decide +kernel
set_option maxRecDepth 20000 in
theorem ggX8_after_X4_copyFrom : GoodIn wsX8_after wsX4_copyFrom := goodIn_r _ [8, 9, 10, 11, 12, 13, 14, 15, 16, 17, 18, 19, 20, 21, 22, 23, 24, 25, 26, 27, 28, 29, 30, 31, 32, 33, 34, 35, 36, 132, 133, 134, 135, 136, 137, 138, 139, 140, 141, 142, 143, 144, 145, 146] (by decide +kernel) (by decide +kernel)
set_option maxRecDepth 20000 in
theorem gX8_after_X4_copyFrom : GoodIn wsX8_after (wsV RX8 197 RX4 yX4_copyFrom wsX4_copyFrom) := goodIn_app (goodIn_of _ (by decide +kernel)) ggX8_after_X4_copyFrom
set_option maxRecDepth 20000 in
theorem ggX8_after_X4_happen : GoodIn wsX8_after wsX4_happen := goodIn_r _ [40, 22, 41, 42, 43, 19, 10, 44, 45, 46, 47, 13, 132, 133, 134, 135, 136, 137, 138, 139, 140, 141, 142, 143, 144, 145, 146] (by decide +kernel) (by decide +kernel)
set_option maxRecDepth 20000 in
theorem gX8_after_X4_happen : GoodIn wsX8_after (wsV RX8 216 RX4 yX4_happen wsX4_happen) := goodIn_app (goodIn_of _ (by decide +kernel)) ggX8_after_X4_happen
set_option maxRecDepth 20000 in
theorem ggX8_after_X7_ring : GoodIn wsX8_after wsX7_ring := goodIn_r _ [52, 53, 54, 55, 56, 57, 58, 51, 59, 60, 61, 62, 63, 64, 65, 66, 67, 68, 69, 70, 71, 72, 73, 74, 75, 76, 77, 7, 78, 11, 12, 79, 80, 81, 82, 83, 84, 85, 86, 87, 88, 132, 133, 134, 135, 136, 137, 138, 139, 140, 141, 142, 147, 148, 149, 150, 151, 152, 153, 154] (by decide +kernel) (by decide +kernel)
set_option maxRecDepth 20000 in
theorem gX8_after_X7_ring : GoodIn wsX8_after (wsV RX8 219 RX7 yX7_ring wsX7_ring) := goodIn_app (goodIn_of _ (by decide +kernel)) ggX8_after_X7_ring
set_option maxRecDepth 20000 in
theorem ggX8_after_X7_roundRow : GoodIn wsX8_after wsX7_roundRow := goodIn_r _ [92, 66, 93, 94, 95, 96, 51, 97, 67, 98, 65, 99, 100, 101, 102, 103, 104, 105, 106, 107, 108, 109, 110, 111, 112, 147, 148, 149, 150, 151, 152, 153, 154, 155] (by decide +kernel) (by decide +kernel)
set_option maxRecDepth 20000 in
theorem gX8_after_X7_roundRow : GoodIn wsX8_after (wsV RX8 137 RX7 yX7_roundRow wsX7_roundRow) := goodIn_app (goodIn_of _ (by decide +kernel)) ggX8_after_X7_roundRow
set_option maxRecDepth 20000 in
theorem ggX8_after_X7_falseRow : GoodIn wsX8_after wsX7_falseRow := goodIn_r _ [116, 66, 93, 94, 95, 96, 51, 97, 67, 98, 65, 99, 100, 101, 102, 103, 104, 105, 106, 107, 108, 109, 110, 111, 112, 147, 148, 149, 150, 151, 152, 153, 154, 155] (by decide +kernel) (by decide +kernel)
set_option maxRecDepth 20000 in
theorem gX8_after_X7_falseRow : GoodIn wsX8_after (wsV RX8 140 RX7 yX7_falseRow wsX7_falseRow) := goodIn_app (goodIn_of _ (by decide +kernel)) ggX8_after_X7_falseRow
set_option maxRecDepth 20000 in
theorem ggX8_after_X7_isTrue : GoodIn wsX8_after wsX7_isTrue := goodIn_r _ [120, 66, 65, 121, 114, 115, 51, 116, 93, 94, 95, 96, 97, 67, 98, 99, 100, 101, 102, 103, 104, 105, 106, 107, 108, 109, 110, 111, 112, 147, 148, 149, 150, 151, 152, 153, 154, 155] (by decide +kernel) (by decide +kernel)
set_option maxRecDepth 20000 in
theorem gX8_after_X7_isTrue : GoodIn wsX8_after (wsV RX8 143 RX7 yX7_isTrue wsX7_isTrue) := goodIn_app (goodIn_of _ (by decide +kernel)) ggX8_after_X7_isTrue
theorem dX8_after_0 : decode cX8_after 0 = .ok (.iload_n 1, 1) := by decide +kernel
theorem dX8_after_1 : decode cX8_after 1 = .ok (.ifCond .lt 8, 3) := by decide +kernel
theorem dX8_after_4 : decode cX8_after 4 = .ok (.iload_n 1, 1) := by decide +kernel
theorem dX8_after_5 : decode cX8_after 5 = .ok (.iconst 2, 1) := by decide +kernel
theorem dX8_after_6 : decode cX8_after 6 = .ok (.if_icmp .le 5, 3) := by decide +kernel
theorem dX8_after_9 : decode cX8_after 9 = .ok (.iconst (-1), 1) := by decide +kernel
theorem dX8_after_10 : decode cX8_after 10 = .ok (.ireturn, 1) := by decide +kernel
theorem dX8_after_11 : decode cX8_after 11 = .ok (.aload_n 0, 1) := by decide +kernel
theorem dX8_after_12 : decode cX8_after 12 = .ok (.getfield 21, 3) := by decide +kernel
theorem dX8_after_15 : decode cX8_after 15 = .ok (.aload_n 0, 1) := by decide +kernel
theorem dX8_after_16 : decode cX8_after 16 = .ok (.getfield 14, 3) := by decide +kernel
theorem dX8_after_19 : decode cX8_after 19 = .ok (.invokevirtual 197, 3) := by decide +kernel
theorem dX8_after_22 : decode cX8_after 22 = .ok (.aload_n 0, 1) := by decide +kernel
theorem dX8_after_23 : decode cX8_after 23 = .ok (.getfield 21, 3) := by decide +kernel
theorem dX8_after_26 : decode cX8_after 26 = .ok (.invokevirtual 216, 3) := by decide +kernel
theorem dX8_after_29 : decode cX8_after 29 = .ok (.aload_n 0, 1) := by decide +kernel
theorem dX8_after_30 : decode cX8_after 30 = .ok (.getfield 31, 3) := by decide +kernel
theorem dX8_after_33 : decode cX8_after 33 = .ok (.aload_n 0, 1) := by decide +kernel
theorem dX8_after_34 : decode cX8_after 34 = .ok (.getfield 21, 3) := by decide +kernel
theorem dX8_after_37 : decode cX8_after 37 = .ok (.invokevirtual 219, 3) := by decide +kernel
theorem dX8_after_40 : decode cX8_after 40 = .ok (.iload_n 1, 1) := by decide +kernel
theorem dX8_after_41 : decode cX8_after 41 = .ok (.lookupswitch 43 #[(0, 27), (1, 35)], 27) := by decide +kernel
theorem dX8_after_68 : decode cX8_after 68 = .ok (.aload_n 0, 1) := by decide +kernel
theorem dX8_after_69 : decode cX8_after 69 = .ok (.getfield 31, 3) := by decide +kernel
theorem dX8_after_72 : decode cX8_after 72 = .ok (.invokevirtual 137, 3) := by decide +kernel
theorem dX8_after_75 : decode cX8_after 75 = .ok (.ireturn, 1) := by decide +kernel
theorem dX8_after_76 : decode cX8_after 76 = .ok (.aload_n 0, 1) := by decide +kernel
theorem dX8_after_77 : decode cX8_after 77 = .ok (.getfield 31, 3) := by decide +kernel
theorem dX8_after_80 : decode cX8_after 80 = .ok (.invokevirtual 140, 3) := by decide +kernel
theorem dX8_after_83 : decode cX8_after 83 = .ok (.ireturn, 1) := by decide +kernel
theorem dX8_after_84 : decode cX8_after 84 = .ok (.aload_n 0, 1) := by decide +kernel
theorem dX8_after_85 : decode cX8_after 85 = .ok (.getfield 31, 3) := by decide +kernel
theorem dX8_after_88 : decode cX8_after 88 = .ok (.invokevirtual 143, 3) := by decide +kernel
theorem dX8_after_91 : decode cX8_after 91 = .ok (.ifCond .eq 7, 3) := by decide +kernel
theorem dX8_after_94 : decode cX8_after 94 = .ok (.iconst 1, 1) := by decide +kernel
theorem dX8_after_95 : decode cX8_after 95 = .ok (.goto 4, 3) := by decide +kernel
theorem dX8_after_98 : decode cX8_after 98 = .ok (.iconst 0, 1) := by decide +kernel
theorem dX8_after_99 : decode cX8_after 99 = .ok (.ireturn, 1) := by decide +kernel
set_option maxRecDepth 20000 in
theorem ggX8_book_X8_isBell : GoodIn wsX8_book wsX8_isBell := goodIn_r _ [8, 1, 9, 19, 20, 21, 22, 23, 24, 25, 26, 27, 28, 29, 30, 31, 32, 33, 34, 35, 36, 37, 38, 39] (by decide +kernel) (by decide +kernel)
set_option maxRecDepth 20000 in
theorem gX8_book_X8_isBell : GoodIn wsX8_book (wsV RX8 153 RX8 yX8_isBell wsX8_isBell) := goodIn_app (goodIn_of _ (by decide +kernel)) ggX8_book_X8_isBell
set_option maxRecDepth 20000 in
theorem ggX8_book_X1_append : GoodIn wsX8_book wsX1_append := goodIn_r _ [14, 15, 16, 17, 18, 40, 41, 42, 43] (by decide +kernel) (by decide +kernel)
set_option maxRecDepth 20000 in
theorem gX8_book_X1_append : GoodIn wsX8_book (wsV RX8 195 RX1 yX1_append wsX1_append) := goodIn_app (goodIn_of _ (by decide +kernel)) ggX8_book_X1_append
theorem dX8_book_0 : decode cX8_book 0 = .ok (.iload_n 1, 1) := by decide +kernel
theorem dX8_book_1 : decode cX8_book 1 = .ok (.iconst (-1), 1) := by decide +kernel
theorem dX8_book_2 : decode cX8_book 2 = .ok (.if_icmp .ne 16, 3) := by decide +kernel
theorem dX8_book_5 : decode cX8_book 5 = .ok (.aload_n 0, 1) := by decide +kernel
theorem dX8_book_6 : decode cX8_book 6 = .ok (.getfield 14, 3) := by decide +kernel
theorem dX8_book_9 : decode cX8_book 9 = .ok (.getfield 222, 3) := by decide +kernel
theorem dX8_book_12 : decode cX8_book 12 = .ok (.iconst 0, 1) := by decide +kernel
theorem dX8_book_13 : decode cX8_book 13 = .ok (.putfield 190, 3) := by decide +kernel
theorem dX8_book_16 : decode cX8_book 16 = .ok (.iconst 0, 1) := by decide +kernel
theorem dX8_book_17 : decode cX8_book 17 = .ok (.ireturn, 1) := by decide +kernel
theorem dX8_book_18 : decode cX8_book 18 = .ok (.iload_n 1, 1) := by decide +kernel
theorem dX8_book_19 : decode cX8_book 19 = .ok (.ifCond .lt 18, 3) := by decide +kernel
theorem dX8_book_22 : decode cX8_book 22 = .ok (.iload_n 1, 1) := by decide +kernel
theorem dX8_book_23 : decode cX8_book 23 = .ok (.sipush 192, 3) := by decide +kernel
theorem dX8_book_26 : decode cX8_book 26 = .ok (.if_icmp .gt 11, 3) := by decide +kernel
theorem dX8_book_29 : decode cX8_book 29 = .ok (.aload_n 0, 1) := by decide +kernel
theorem dX8_book_30 : decode cX8_book 30 = .ok (.iload_n 2, 1) := by decide +kernel
theorem dX8_book_31 : decode cX8_book 31 = .ok (.invokevirtual 153, 3) := by decide +kernel
theorem dX8_book_34 : decode cX8_book 34 = .ok (.ifCond .ne 5, 3) := by decide +kernel
theorem dX8_book_37 : decode cX8_book 37 = .ok (.iconst (-1), 1) := by decide +kernel
theorem dX8_book_38 : decode cX8_book 38 = .ok (.ireturn, 1) := by decide +kernel
theorem dX8_book_39 : decode cX8_book 39 = .ok (.aload_n 0, 1) := by decide +kernel
theorem dX8_book_40 : decode cX8_book 40 = .ok (.getfield 14, 3) := by decide +kernel
theorem dX8_book_43 : decode cX8_book 43 = .ok (.getfield 222, 3) := by decide +kernel
theorem dX8_book_46 : decode cX8_book 46 = .ok (.iload_n 1, 1) := by decide +kernel
theorem dX8_book_47 : decode cX8_book 47 = .ok (.iload_n 2, 1) := by decide +kernel
theorem dX8_book_48 : decode cX8_book 48 = .ok (.iconst 0, 1) := by decide +kernel
theorem dX8_book_49 : decode cX8_book 49 = .ok (.invokevirtual 195, 3) := by decide +kernel
theorem dX8_book_52 : decode cX8_book 52 = .ok (.ifCond .eq 16, 3) := by decide +kernel
theorem dX8_book_55 : decode cX8_book 55 = .ok (.aload_n 0, 1) := by decide +kernel
theorem dX8_book_56 : decode cX8_book 56 = .ok (.getfield 14, 3) := by decide +kernel
theorem dX8_book_59 : decode cX8_book 59 = .ok (.getfield 222, 3) := by decide +kernel
theorem dX8_book_62 : decode cX8_book 62 = .ok (.getfield 190, 3) := by decide +kernel
theorem dX8_book_65 : decode cX8_book 65 = .ok (.goto 5, 3) := by decide +kernel
theorem dX8_book_68 : decode cX8_book 68 = .ok (.bipush (-4), 2) := by decide +kernel
theorem dX8_book_70 : decode cX8_book 70 = .ok (.ireturn, 1) := by decide +kernel
set_option maxRecDepth 20000 in
theorem ggX8_looked_X8_isRow : GoodIn wsX8_looked wsX8_isRow := goodIn_r _ [11, 12, 13, 14, 15, 10, 16, 17, 18, 1, 19, 20, 21, 22, 23, 24, 25, 26, 27, 28, 29, 30, 31, 32, 33, 34, 35, 36, 37, 38, 39, 40, 41, 42, 43, 44, 45, 46, 47, 48, 49, 50, 51, 52, 53, 54, 55, 56, 57, 58, 59, 60, 61, 62, 91, 92, 93, 94, 95, 96, 97, 98, 66, 67, 68, 69, 70, 71, 72, 73, 74, 75, 76, 77, 78, 79, 80, 81, 82, 83, 84, 85, 86] (by decide +kernel) (by decide +kernel)
set_option maxRecDepth 20000 in
theorem gX8_looked_X8_isRow : GoodIn wsX8_looked (wsV RX8 150 RX8 yX8_isRow wsX8_isRow) := goodIn_app (goodIn_of _ (by decide +kernel)) ggX8_looked_X8_isRow
set_option maxRecDepth 20000 in
theorem ggX8_looked_X8_rung : GoodIn wsX8_looked wsX8_rung := goodIn_r _ [16, 17, 18, 1, 19, 20, 21, 22, 23, 24, 25, 26, 27, 28, 29, 30, 31, 32, 33, 34, 35, 36, 37, 38, 39, 40, 41, 42, 43, 44, 45, 46, 47, 48, 49, 50, 51, 52, 53, 54, 55, 56, 57, 58, 59, 60, 61, 62, 66, 67, 68, 69, 70, 71, 72, 73, 74, 75, 76, 77, 78, 79, 80, 81, 82, 83, 84, 85, 86, 91, 92, 93, 94, 95, 96, 97, 98] (by decide +kernel) (by decide +kernel)
set_option maxRecDepth 20000 in
theorem gX8_looked_X8_rung : GoodIn wsX8_looked (wsV RX8 130 RX8 yX8_rung wsX8_rung) := goodIn_app (goodIn_of _ (by decide +kernel)) ggX8_looked_X8_rung
set_option maxRecDepth 20000 in
theorem ggX8_looked_X2_bellIn : GoodIn wsX8_looked wsX2_bellIn := goodIn_r _ [65] (by decide +kernel) (by decide +kernel)
set_option maxRecDepth 20000 in
theorem gX8_looked_X2_bellIn : GoodIn wsX8_looked (va_wsS RX8 159 yX2_bellIn wsX2_bellIn) := goodIn_app (goodIn_of _ (by decide +kernel)) ggX8_looked_X2_bellIn
theorem dX8_looked_0 : decode cX8_looked 0 = .ok (.aload_n 0, 1) := by decide +kernel
theorem dX8_looked_1 : decode cX8_looked 1 = .ok (.getfield 14, 3) := by decide +kernel
theorem dX8_looked_4 : decode cX8_looked 4 = .ok (.getfield 222, 3) := by decide +kernel
theorem dX8_looked_7 : decode cX8_looked 7 = .ok (.astore_n 1, 1) := by decide +kernel
theorem dX8_looked_8 : decode cX8_looked 8 = .ok (.iconst 0, 1) := by decide +kernel
theorem dX8_looked_9 : decode cX8_looked 9 = .ok (.istore_n 2, 1) := by decide +kernel
theorem dX8_looked_10 : decode cX8_looked 10 = .ok (.iload_n 2, 1) := by decide +kernel
theorem dX8_looked_11 : decode cX8_looked 11 = .ok (.aload_n 1, 1) := by decide +kernel
theorem dX8_looked_12 : decode cX8_looked 12 = .ok (.getfield 190, 3) := by decide +kernel
theorem dX8_looked_15 : decode cX8_looked 15 = .ok (.if_icmp .ge 48, 3) := by decide +kernel
theorem dX8_looked_18 : decode cX8_looked 18 = .ok (.aload_n 1, 1) := by decide +kernel
theorem dX8_looked_19 : decode cX8_looked 19 = .ok (.getfield 225, 3) := by decide +kernel
theorem dX8_looked_22 : decode cX8_looked 22 = .ok (.iload_n 2, 1) := by decide +kernel
theorem dX8_looked_23 : decode cX8_looked 23 = .ok (.iaload, 1) := by decide +kernel
theorem dX8_looked_24 : decode cX8_looked 24 = .ok (.istore_n 3, 1) := by decide +kernel
theorem dX8_looked_25 : decode cX8_looked 25 = .ok (.aload_n 0, 1) := by decide +kernel
theorem dX8_looked_26 : decode cX8_looked 26 = .ok (.iload_n 3, 1) := by decide +kernel
theorem dX8_looked_27 : decode cX8_looked 27 = .ok (.invokevirtual 150, 3) := by decide +kernel
theorem dX8_looked_30 : decode cX8_looked 30 = .ok (.ifCond .eq 25, 3) := by decide +kernel
theorem dX8_looked_33 : decode cX8_looked 33 = .ok (.aload_n 0, 1) := by decide +kernel
theorem dX8_looked_34 : decode cX8_looked 34 = .ok (.invokevirtual 130, 3) := by decide +kernel
theorem dX8_looked_37 : decode cX8_looked 37 = .ok (.getfield 156, 3) := by decide +kernel
theorem dX8_looked_40 : decode cX8_looked 40 = .ok (.iload_n 3, 1) := by decide +kernel
theorem dX8_looked_41 : decode cX8_looked 41 = .ok (.iaload, 1) := by decide +kernel
theorem dX8_looked_42 : decode cX8_looked 42 = .ok (.iconst 1, 1) := by decide +kernel
theorem dX8_looked_43 : decode cX8_looked 43 = .ok (.invokestatic 159, 3) := by decide +kernel
theorem dX8_looked_46 : decode cX8_looked 46 = .ok (.aload_n 1, 1) := by decide +kernel
theorem dX8_looked_47 : decode cX8_looked 47 = .ok (.getfield 228, 3) := by decide +kernel
theorem dX8_looked_50 : decode cX8_looked 50 = .ok (.iload_n 2, 1) := by decide +kernel
theorem dX8_looked_51 : decode cX8_looked 51 = .ok (.iaload, 1) := by decide +kernel
theorem dX8_looked_52 : decode cX8_looked 52 = .ok (.if_icmp .eq 5, 3) := by decide +kernel
theorem dX8_looked_55 : decode cX8_looked 55 = .ok (.iload_n 2, 1) := by decide +kernel
theorem dX8_looked_56 : decode cX8_looked 56 = .ok (.ireturn, 1) := by decide +kernel
theorem dX8_looked_57 : decode cX8_looked 57 = .ok (.iinc 2 1, 3) := by decide +kernel
theorem dX8_looked_60 : decode cX8_looked 60 = .ok (.goto (-50), 3) := by decide +kernel
theorem dX8_looked_63 : decode cX8_looked 63 = .ok (.bipush (-5), 2) := by decide +kernel
theorem dX8_looked_65 : decode cX8_looked 65 = .ok (.ireturn, 1) := by decide +kernel
set_option maxRecDepth 20000 in
theorem ggX8_judge_X8_isRow : GoodIn wsX8_judge wsX8_isRow := goodIn_r _ [11, 12, 13, 14, 15, 10, 16, 17, 18, 3, 19, 20, 21, 22, 23, 24, 25, 26, 27, 28, 29, 30, 31, 32, 33, 34, 35, 36, 37, 38, 39, 40, 41, 42, 43, 44, 45, 46, 47, 48, 49, 50, 51, 52, 53, 54, 55, 56, 57, 58, 59, 60, 61, 62, 99, 100, 101, 102, 103, 104, 105, 106, 75, 76, 77, 78, 79, 80, 81, 82, 83, 84, 88, 89, 90, 91, 92, 93, 94, 95, 96, 97, 98] (by decide +kernel) (by decide +kernel)
set_option maxRecDepth 20000 in
theorem gX8_judge_X8_isRow : GoodIn wsX8_judge (wsV RX8 150 RX8 yX8_isRow wsX8_isRow) := goodIn_app (goodIn_of _ (by decide +kernel)) ggX8_judge_X8_isRow
set_option maxRecDepth 20000 in
theorem ggX8_judge_X8_isTape : GoodIn wsX8_judge wsX8_isTape := goodIn_r _ [65] (by decide +kernel) (by decide +kernel)
set_option maxRecDepth 20000 in
theorem gX8_judge_X8_isTape : GoodIn wsX8_judge (va_wsS RX8 231 yX8_isTape wsX8_isTape) := goodIn_app (goodIn_of _ (by decide +kernel)) ggX8_judge_X8_isTape
set_option maxRecDepth 20000 in
theorem ggX8_judge_X6_has : GoodIn wsX8_judge wsX6_has := goodIn_r _ [70, 71, 85, 86, 87] (by decide +kernel) (by decide +kernel)
set_option maxRecDepth 20000 in
theorem gX8_judge_X6_has : GoodIn wsX8_judge (wsV RX8 237 RX6 yX6_has wsX6_has) := goodIn_app (goodIn_of _ (by decide +kernel)) ggX8_judge_X6_has
set_option maxRecDepth 20000 in
theorem ggX8_judge_X8_rung : GoodIn wsX8_judge wsX8_rung := goodIn_r _ [16, 17, 18, 3, 19, 20, 21, 22, 23, 24, 25, 26, 27, 28, 29, 30, 31, 32, 33, 34, 35, 36, 37, 38, 39, 40, 41, 42, 43, 44, 45, 46, 47, 48, 49, 50, 51, 52, 53, 54, 55, 56, 57, 58, 59, 60, 61, 62, 75, 76, 77, 78, 79, 80, 81, 82, 83, 84, 88, 89, 90, 91, 92, 93, 94, 95, 96, 97, 98, 99, 100, 101, 102, 103, 104, 105, 106] (by decide +kernel) (by decide +kernel)
set_option maxRecDepth 20000 in
theorem gX8_judge_X8_rung : GoodIn wsX8_judge (wsV RX8 130 RX8 yX8_rung wsX8_rung) := goodIn_app (goodIn_of _ (by decide +kernel)) ggX8_judge_X8_rung
set_option maxRecDepth 20000 in
theorem ggX8_judge_X2_bellIn : GoodIn wsX8_judge wsX2_bellIn := goodIn_r _ [74] (by decide +kernel) (by decide +kernel)
set_option maxRecDepth 20000 in
theorem gX8_judge_X2_bellIn : GoodIn wsX8_judge (va_wsS RX8 159 yX2_bellIn wsX2_bellIn) := goodIn_app (goodIn_of _ (by decide +kernel)) ggX8_judge_X2_bellIn
theorem dX8_judge_0 : decode cX8_judge 0 = .ok (.aload_n 0, 1) := by decide +kernel
theorem dX8_judge_1 : decode cX8_judge 1 = .ok (.iload_n 1, 1) := by decide +kernel
theorem dX8_judge_2 : decode cX8_judge 2 = .ok (.invokevirtual 150, 3) := by decide +kernel
theorem dX8_judge_5 : decode cX8_judge 5 = .ok (.ifCond .eq 10, 3) := by decide +kernel
theorem dX8_judge_8 : decode cX8_judge 8 = .ok (.iload_n 2, 1) := by decide +kernel
theorem dX8_judge_9 : decode cX8_judge 9 = .ok (.invokestatic 231, 3) := by decide +kernel
theorem dX8_judge_12 : decode cX8_judge 12 = .ok (.ifCond .ne 5, 3) := by decide +kernel
theorem dX8_judge_15 : decode cX8_judge 15 = .ok (.iconst (-1), 1) := by decide +kernel
theorem dX8_judge_16 : decode cX8_judge 16 = .ok (.ireturn, 1) := by decide +kernel
theorem dX8_judge_17 : decode cX8_judge 17 = .ok (.aload_n 0, 1) := by decide +kernel
theorem dX8_judge_18 : decode cX8_judge 18 = .ok (.getfield 50, 3) := by decide +kernel
theorem dX8_judge_21 : decode cX8_judge 21 = .ok (.iload_n 2, 1) := by decide +kernel
theorem dX8_judge_22 : decode cX8_judge 22 = .ok (.aaload, 1) := by decide +kernel
theorem dX8_judge_23 : decode cX8_judge 23 = .ok (.astore 4, 2) := by decide +kernel
theorem dX8_judge_25 : decode cX8_judge 25 = .ok (.aload 4, 2) := by decide +kernel
theorem dX8_judge_27 : decode cX8_judge 27 = .ok (.getfield 234, 3) := by decide +kernel
theorem dX8_judge_30 : decode cX8_judge 30 = .ok (.iconst (-1), 1) := by decide +kernel
theorem dX8_judge_31 : decode cX8_judge 31 = .ok (.if_icmp .eq 14, 3) := by decide +kernel
theorem dX8_judge_34 : decode cX8_judge 34 = .ok (.aload 4, 2) := by decide +kernel
theorem dX8_judge_36 : decode cX8_judge 36 = .ok (.getfield 234, 3) := by decide +kernel
theorem dX8_judge_39 : decode cX8_judge 39 = .ok (.ifCond .eq 6, 3) := by decide +kernel
theorem dX8_judge_42 : decode cX8_judge 42 = .ok (.bipush (-12), 2) := by decide +kernel
theorem dX8_judge_44 : decode cX8_judge 44 = .ok (.ireturn, 1) := by decide +kernel
theorem dX8_judge_45 : decode cX8_judge 45 = .ok (.iload_n 3, 1) := by decide +kernel
theorem dX8_judge_46 : decode cX8_judge 46 = .ok (.ifCond .ge 6, 3) := by decide +kernel
theorem dX8_judge_49 : decode cX8_judge 49 = .ok (.bipush 100, 2) := by decide +kernel
theorem dX8_judge_51 : decode cX8_judge 51 = .ok (.ireturn, 1) := by decide +kernel
theorem dX8_judge_52 : decode cX8_judge 52 = .ok (.iconst 1, 1) := by decide +kernel
theorem dX8_judge_53 : decode cX8_judge 53 = .ok (.istore 5, 2) := by decide +kernel
theorem dX8_judge_55 : decode cX8_judge 55 = .ok (.iload 5, 2) := by decide +kernel
theorem dX8_judge_57 : decode cX8_judge 57 = .ok (.aload_n 0, 1) := by decide +kernel
theorem dX8_judge_58 : decode cX8_judge 58 = .ok (.getfield 14, 3) := by decide +kernel
theorem dX8_judge_61 : decode cX8_judge 61 = .ok (.getfield 62, 3) := by decide +kernel
theorem dX8_judge_64 : decode cX8_judge 64 = .ok (.if_icmp .gt 62, 3) := by decide +kernel
theorem dX8_judge_67 : decode cX8_judge 67 = .ok (.aload 4, 2) := by decide +kernel
theorem dX8_judge_69 : decode cX8_judge 69 = .ok (.iload_n 3, 1) := by decide +kernel
theorem dX8_judge_70 : decode cX8_judge 70 = .ok (.iload 5, 2) := by decide +kernel
theorem dX8_judge_72 : decode cX8_judge 72 = .ok (.invokevirtual 237, 3) := by decide +kernel
theorem dX8_judge_75 : decode cX8_judge 75 = .ok (.ifCond .ne 11, 3) := by decide +kernel
theorem dX8_judge_78 : decode cX8_judge 78 = .ok (.bipush 100, 2) := by decide +kernel
theorem dX8_judge_80 : decode cX8_judge 80 = .ok (.iload 5, 2) := by decide +kernel
theorem dX8_judge_82 : decode cX8_judge 82 = .ok (.iadd, 1) := by decide +kernel
theorem dX8_judge_83 : decode cX8_judge 83 = .ok (.iconst 1, 1) := by decide +kernel
theorem dX8_judge_84 : decode cX8_judge 84 = .ok (.isub, 1) := by decide +kernel
theorem dX8_judge_85 : decode cX8_judge 85 = .ok (.ireturn, 1) := by decide +kernel
theorem dX8_judge_86 : decode cX8_judge 86 = .ok (.aload 4, 2) := by decide +kernel
theorem dX8_judge_88 : decode cX8_judge 88 = .ok (.getfield 240, 3) := by decide +kernel
theorem dX8_judge_91 : decode cX8_judge 91 = .ok (.iload_n 3, 1) := by decide +kernel
theorem dX8_judge_92 : decode cX8_judge 92 = .ok (.iload 5, 2) := by decide +kernel
theorem dX8_judge_94 : decode cX8_judge 94 = .ok (.iadd, 1) := by decide +kernel
theorem dX8_judge_95 : decode cX8_judge 95 = .ok (.iconst 1, 1) := by decide +kernel
theorem dX8_judge_96 : decode cX8_judge 96 = .ok (.isub, 1) := by decide +kernel
theorem dX8_judge_97 : decode cX8_judge 97 = .ok (.laload, 1) := by decide +kernel
theorem dX8_judge_98 : decode cX8_judge 98 = .ok (.aload_n 0, 1) := by decide +kernel
theorem dX8_judge_99 : decode cX8_judge 99 = .ok (.invokevirtual 130, 3) := by decide +kernel
theorem dX8_judge_102 : decode cX8_judge 102 = .ok (.getfield 156, 3) := by decide +kernel
theorem dX8_judge_105 : decode cX8_judge 105 = .ok (.iload_n 1, 1) := by decide +kernel
theorem dX8_judge_106 : decode cX8_judge 106 = .ok (.iaload, 1) := by decide +kernel
theorem dX8_judge_107 : decode cX8_judge 107 = .ok (.iload 5, 2) := by decide +kernel
theorem dX8_judge_109 : decode cX8_judge 109 = .ok (.invokestatic 159, 3) := by decide +kernel
theorem dX8_judge_112 : decode cX8_judge 112 = .ok (.i2l, 1) := by decide +kernel
theorem dX8_judge_113 : decode cX8_judge 113 = .ok (.lcmp, 1) := by decide +kernel
theorem dX8_judge_114 : decode cX8_judge 114 = .ok (.ifCond .eq 6, 3) := by decide +kernel
theorem dX8_judge_117 : decode cX8_judge 117 = .ok (.iload 5, 2) := by decide +kernel
theorem dX8_judge_119 : decode cX8_judge 119 = .ok (.ireturn, 1) := by decide +kernel
theorem dX8_judge_120 : decode cX8_judge 120 = .ok (.iinc 5 1, 3) := by decide +kernel
theorem dX8_judge_123 : decode cX8_judge 123 = .ok (.goto (-68), 3) := by decide +kernel
theorem dX8_judge_126 : decode cX8_judge 126 = .ok (.bipush (-5), 2) := by decide +kernel
theorem dX8_judge_128 : decode cX8_judge 128 = .ok (.ireturn, 1) := by decide +kernel
set_option maxRecDepth 20000 in
theorem ggX8_image_X4_copyFrom : GoodIn wsX8_image wsX4_copyFrom := goodIn_r _ [9, 10, 11, 12, 13, 14, 15, 16, 17, 18, 19, 20, 21, 22, 23, 24, 25, 26, 27, 28, 29, 30, 31, 32, 33, 34, 35, 36, 37, 48, 49, 50, 51, 52, 53, 54, 55, 56, 57, 58, 59, 60, 61, 62] (by decide +kernel) (by decide +kernel)
set_option maxRecDepth 20000 in
theorem gX8_image_X4_copyFrom : GoodIn wsX8_image (wsV RX8 197 RX4 yX4_copyFrom wsX4_copyFrom) := goodIn_app (goodIn_of _ (by decide +kernel)) ggX8_image_X4_copyFrom
theorem dX8_image_0 : decode cX8_image 0 = .ok (.aload_n 0, 1) := by decide +kernel
theorem dX8_image_1 : decode cX8_image 1 = .ok (.getfield 18, 3) := by decide +kernel
theorem dX8_image_4 : decode cX8_image 4 = .ok (.aload_n 0, 1) := by decide +kernel
theorem dX8_image_5 : decode cX8_image 5 = .ok (.getfield 14, 3) := by decide +kernel
theorem dX8_image_8 : decode cX8_image 8 = .ok (.invokevirtual 197, 3) := by decide +kernel
theorem dX8_image_11 : decode cX8_image 11 = .ok (.aload_n 0, 1) := by decide +kernel
theorem dX8_image_12 : decode cX8_image 12 = .ok (.iconst 1, 1) := by decide +kernel
theorem dX8_image_13 : decode cX8_image 13 = .ok (.putfield 54, 3) := by decide +kernel
theorem dX8_image_16 : decode cX8_image 16 = .ok (.aload_n 0, 1) := by decide +kernel
theorem dX8_image_17 : decode cX8_image 17 = .ok (.getfield 14, 3) := by decide +kernel
theorem dX8_image_20 : decode cX8_image 20 = .ok (.getfield 80, 3) := by decide +kernel
theorem dX8_image_23 : decode cX8_image 23 = .ok (.ireturn, 1) := by decide +kernel
set_option maxRecDepth 20000 in
theorem ggX8_undo_X4_copyFrom : GoodIn wsX8_undo wsX4_copyFrom := goodIn_r _ [10, 11, 12, 13, 14, 15, 16, 17, 18, 19, 20, 21, 22, 23, 24, 25, 26, 27, 28, 29, 30, 31, 32, 33, 34, 35, 36, 37, 38, 49, 50, 51, 52, 53, 54, 55, 56, 57, 58, 59, 60, 61, 62, 63] (by decide +kernel) (by decide +kernel)
set_option maxRecDepth 20000 in
theorem gX8_undo_X4_copyFrom : GoodIn wsX8_undo (wsV RX8 197 RX4 yX4_copyFrom wsX4_copyFrom) := goodIn_app (goodIn_of _ (by decide +kernel)) ggX8_undo_X4_copyFrom
theorem dX8_undo_0 : decode cX8_undo 0 = .ok (.aload_n 0, 1) := by decide +kernel
theorem dX8_undo_1 : decode cX8_undo 1 = .ok (.getfield 54, 3) := by decide +kernel
theorem dX8_undo_4 : decode cX8_undo 4 = .ok (.ifCond .ne 6, 3) := by decide +kernel
theorem dX8_undo_7 : decode cX8_undo 7 = .ok (.bipush (-3), 2) := by decide +kernel
theorem dX8_undo_9 : decode cX8_undo 9 = .ok (.ireturn, 1) := by decide +kernel
theorem dX8_undo_10 : decode cX8_undo 10 = .ok (.aload_n 0, 1) := by decide +kernel
theorem dX8_undo_11 : decode cX8_undo 11 = .ok (.getfield 14, 3) := by decide +kernel
theorem dX8_undo_14 : decode cX8_undo 14 = .ok (.aload_n 0, 1) := by decide +kernel
theorem dX8_undo_15 : decode cX8_undo 15 = .ok (.getfield 18, 3) := by decide +kernel
theorem dX8_undo_18 : decode cX8_undo 18 = .ok (.invokevirtual 197, 3) := by decide +kernel
theorem dX8_undo_21 : decode cX8_undo 21 = .ok (.aload_n 0, 1) := by decide +kernel
theorem dX8_undo_22 : decode cX8_undo 22 = .ok (.iconst 1, 1) := by decide +kernel
theorem dX8_undo_23 : decode cX8_undo 23 = .ok (.putfield 58, 3) := by decide +kernel
theorem dX8_undo_26 : decode cX8_undo 26 = .ok (.aload_n 0, 1) := by decide +kernel
theorem dX8_undo_27 : decode cX8_undo 27 = .ok (.getfield 14, 3) := by decide +kernel
theorem dX8_undo_30 : decode cX8_undo 30 = .ok (.getfield 80, 3) := by decide +kernel
theorem dX8_undo_33 : decode cX8_undo 33 = .ok (.ireturn, 1) := by decide +kernel
theorem dX8_count_0 : decode cX8_count 0 = .ok (.iload_n 1, 1) := by decide +kernel
theorem dX8_count_1 : decode cX8_count 1 = .ok (.tableswitch 72 0 3 #[31, 42, 53, 64], 31) := by decide +kernel
theorem dX8_count_32 : decode cX8_count 32 = .ok (.aload_n 0, 1) := by decide +kernel
theorem dX8_count_33 : decode cX8_count 33 = .ok (.getfield 14, 3) := by decide +kernel
theorem dX8_count_36 : decode cX8_count 36 = .ok (.getfield 186, 3) := by decide +kernel
theorem dX8_count_39 : decode cX8_count 39 = .ok (.getfield 190, 3) := by decide +kernel
theorem dX8_count_42 : decode cX8_count 42 = .ok (.ireturn, 1) := by decide +kernel
theorem dX8_count_43 : decode cX8_count 43 = .ok (.aload_n 0, 1) := by decide +kernel
theorem dX8_count_44 : decode cX8_count 44 = .ok (.getfield 14, 3) := by decide +kernel
theorem dX8_count_47 : decode cX8_count 47 = .ok (.getfield 213, 3) := by decide +kernel
theorem dX8_count_50 : decode cX8_count 50 = .ok (.getfield 190, 3) := by decide +kernel
theorem dX8_count_53 : decode cX8_count 53 = .ok (.ireturn, 1) := by decide +kernel
theorem dX8_count_54 : decode cX8_count 54 = .ok (.aload_n 0, 1) := by decide +kernel
theorem dX8_count_55 : decode cX8_count 55 = .ok (.getfield 14, 3) := by decide +kernel
theorem dX8_count_58 : decode cX8_count 58 = .ok (.getfield 222, 3) := by decide +kernel
theorem dX8_count_61 : decode cX8_count 61 = .ok (.getfield 190, 3) := by decide +kernel
theorem dX8_count_64 : decode cX8_count 64 = .ok (.ireturn, 1) := by decide +kernel
theorem dX8_count_65 : decode cX8_count 65 = .ok (.aload_n 0, 1) := by decide +kernel
theorem dX8_count_66 : decode cX8_count 66 = .ok (.getfield 44, 3) := by decide +kernel
theorem dX8_count_69 : decode cX8_count 69 = .ok (.getfield 110, 3) := by decide +kernel
theorem dX8_count_72 : decode cX8_count 72 = .ok (.ireturn, 1) := by decide +kernel
theorem dX8_count_73 : decode cX8_count 73 = .ok (.bipush (-2), 2) := by decide +kernel
theorem dX8_count_75 : decode cX8_count 75 = .ok (.ireturn, 1) := by decide +kernel
set_option maxRecDepth 20000 in
theorem ggX8_tape_X8_isTape : GoodIn wsX8_tape wsX8_isTape := goodIn_r _ [5] (by decide +kernel) (by decide +kernel)
set_option maxRecDepth 20000 in
theorem gX8_tape_X8_isTape : GoodIn wsX8_tape (va_wsS RX8 231 yX8_isTape wsX8_isTape) := goodIn_app (goodIn_of _ (by decide +kernel)) ggX8_tape_X8_isTape
set_option maxRecDepth 20000 in
theorem ggX8_tape_X6_begin : GoodIn wsX8_tape wsX6_begin := goodIn_r _ [10, 11, 12, 13, 24, 25, 26] (by decide +kernel) (by decide +kernel)
set_option maxRecDepth 20000 in
theorem gX8_tape_X6_begin : GoodIn wsX8_tape (wsV RX8 244 RX6 yX6_begin wsX6_begin) := goodIn_app (goodIn_of _ (by decide +kernel)) ggX8_tape_X6_begin
theorem dX8_tape_0 : decode cX8_tape 0 = .ok (.iload_n 1, 1) := by decide +kernel
theorem dX8_tape_1 : decode cX8_tape 1 = .ok (.invokestatic 231, 3) := by decide +kernel
theorem dX8_tape_4 : decode cX8_tape 4 = .ok (.ifCond .ne 5, 3) := by decide +kernel
theorem dX8_tape_7 : decode cX8_tape 7 = .ok (.iconst (-1), 1) := by decide +kernel
theorem dX8_tape_8 : decode cX8_tape 8 = .ok (.ireturn, 1) := by decide +kernel
theorem dX8_tape_9 : decode cX8_tape 9 = .ok (.iload_n 2, 1) := by decide +kernel
theorem dX8_tape_10 : decode cX8_tape 10 = .ok (.iconst (-1), 1) := by decide +kernel
theorem dX8_tape_11 : decode cX8_tape 11 = .ok (.if_icmp .lt 8, 3) := by decide +kernel
theorem dX8_tape_14 : decode cX8_tape 14 = .ok (.iload_n 2, 1) := by decide +kernel
theorem dX8_tape_15 : decode cX8_tape 15 = .ok (.iconst 4, 1) := by decide +kernel
theorem dX8_tape_16 : decode cX8_tape 16 = .ok (.if_icmp .le 6, 3) := by decide +kernel
theorem dX8_tape_19 : decode cX8_tape 19 = .ok (.bipush (-2), 2) := by decide +kernel
theorem dX8_tape_21 : decode cX8_tape 21 = .ok (.ireturn, 1) := by decide +kernel
theorem dX8_tape_22 : decode cX8_tape 22 = .ok (.iload_n 2, 1) := by decide +kernel
theorem dX8_tape_23 : decode cX8_tape 23 = .ok (.iconst (-1), 1) := by decide +kernel
theorem dX8_tape_24 : decode cX8_tape 24 = .ok (.if_icmp .ne 16, 3) := by decide +kernel
theorem dX8_tape_27 : decode cX8_tape 27 = .ok (.aload_n 0, 1) := by decide +kernel
theorem dX8_tape_28 : decode cX8_tape 28 = .ok (.getfield 50, 3) := by decide +kernel
theorem dX8_tape_31 : decode cX8_tape 31 = .ok (.iload_n 1, 1) := by decide +kernel
theorem dX8_tape_32 : decode cX8_tape 32 = .ok (.aaload, 1) := by decide +kernel
theorem dX8_tape_33 : decode cX8_tape 33 = .ok (.iconst (-1), 1) := by decide +kernel
theorem dX8_tape_34 : decode cX8_tape 34 = .ok (.iconst 0, 1) := by decide +kernel
theorem dX8_tape_35 : decode cX8_tape 35 = .ok (.invokevirtual 244, 3) := by decide +kernel
theorem dX8_tape_38 : decode cX8_tape 38 = .ok (.iconst 1, 1) := by decide +kernel
theorem dX8_tape_39 : decode cX8_tape 39 = .ok (.ireturn, 1) := by decide +kernel
theorem dX8_tape_40 : decode cX8_tape 40 = .ok (.iload_n 3, 1) := by decide +kernel
theorem dX8_tape_41 : decode cX8_tape 41 = .ok (.bipush 60, 2) := by decide +kernel
theorem dX8_tape_43 : decode cX8_tape 43 = .ok (.if_icmp .le 6, 3) := by decide +kernel
theorem dX8_tape_46 : decode cX8_tape 46 = .ok (.bipush (-2), 2) := by decide +kernel
theorem dX8_tape_48 : decode cX8_tape 48 = .ok (.ireturn, 1) := by decide +kernel
theorem dX8_tape_49 : decode cX8_tape 49 = .ok (.iload_n 3, 1) := by decide +kernel
theorem dX8_tape_50 : decode cX8_tape 50 = .ok (.ifCond .ge 6, 3) := by decide +kernel
theorem dX8_tape_53 : decode cX8_tape 53 = .ok (.bipush (-14), 2) := by decide +kernel
theorem dX8_tape_55 : decode cX8_tape 55 = .ok (.ireturn, 1) := by decide +kernel
theorem dX8_tape_56 : decode cX8_tape 56 = .ok (.aload_n 0, 1) := by decide +kernel
theorem dX8_tape_57 : decode cX8_tape 57 = .ok (.getfield 50, 3) := by decide +kernel
theorem dX8_tape_60 : decode cX8_tape 60 = .ok (.iload_n 1, 1) := by decide +kernel
theorem dX8_tape_61 : decode cX8_tape 61 = .ok (.aaload, 1) := by decide +kernel
theorem dX8_tape_62 : decode cX8_tape 62 = .ok (.iload_n 2, 1) := by decide +kernel
theorem dX8_tape_63 : decode cX8_tape 63 = .ok (.iload_n 3, 1) := by decide +kernel
theorem dX8_tape_64 : decode cX8_tape 64 = .ok (.invokevirtual 244, 3) := by decide +kernel
theorem dX8_tape_67 : decode cX8_tape 67 = .ok (.iconst 1, 1) := by decide +kernel
theorem dX8_tape_68 : decode cX8_tape 68 = .ok (.ireturn, 1) := by decide +kernel
set_option maxRecDepth 20000 in
theorem ggX8_item_X8_isTape : GoodIn wsX8_item wsX8_isTape := goodIn_r _ [7] (by decide +kernel) (by decide +kernel)
set_option maxRecDepth 20000 in
theorem gX8_item_X8_isTape : GoodIn wsX8_item (va_wsS RX8 231 yX8_isTape wsX8_isTape) := goodIn_app (goodIn_of _ (by decide +kernel)) ggX8_item_X8_isTape
set_option maxRecDepth 20000 in
theorem ggX8_item_X6_has : GoodIn wsX8_item wsX6_has := goodIn_r _ [12, 13, 27, 28, 29] (by decide +kernel) (by decide +kernel)
set_option maxRecDepth 20000 in
theorem gX8_item_X6_has : GoodIn wsX8_item (wsV RX8 237 RX6 yX6_has wsX6_has) := goodIn_app (goodIn_of _ (by decide +kernel)) ggX8_item_X6_has
set_option maxRecDepth 20000 in
theorem ggX8_item_X6_narrowed : GoodIn wsX8_item wsX6_narrowed := goodIn_r _ [16] (by decide +kernel) (by decide +kernel)
set_option maxRecDepth 20000 in
theorem gX8_item_X6_narrowed : GoodIn wsX8_item (va_wsS RX8 246 yX6_narrowed wsX6_narrowed) := goodIn_app (goodIn_of _ (by decide +kernel)) ggX8_item_X6_narrowed
theorem dX8_item_0 : decode cX8_item 0 = .ok (.iload_n 1, 1) := by decide +kernel
theorem dX8_item_1 : decode cX8_item 1 = .ok (.invokestatic 231, 3) := by decide +kernel
theorem dX8_item_4 : decode cX8_item 4 = .ok (.ifCond .ne 5, 3) := by decide +kernel
theorem dX8_item_7 : decode cX8_item 7 = .ok (.iconst (-1), 1) := by decide +kernel
theorem dX8_item_8 : decode cX8_item 8 = .ok (.ireturn, 1) := by decide +kernel
theorem dX8_item_9 : decode cX8_item 9 = .ok (.aload_n 0, 1) := by decide +kernel
theorem dX8_item_10 : decode cX8_item 10 = .ok (.getfield 50, 3) := by decide +kernel
theorem dX8_item_13 : decode cX8_item 13 = .ok (.iload_n 1, 1) := by decide +kernel
theorem dX8_item_14 : decode cX8_item 14 = .ok (.aaload, 1) := by decide +kernel
theorem dX8_item_15 : decode cX8_item 15 = .ok (.astore 5, 2) := by decide +kernel
theorem dX8_item_17 : decode cX8_item 17 = .ok (.aload 5, 2) := by decide +kernel
theorem dX8_item_19 : decode cX8_item 19 = .ok (.getfield 234, 3) := by decide +kernel
theorem dX8_item_22 : decode cX8_item 22 = .ok (.iconst (-1), 1) := by decide +kernel
theorem dX8_item_23 : decode cX8_item 23 = .ok (.if_icmp .ne 6, 3) := by decide +kernel
theorem dX8_item_26 : decode cX8_item 26 = .ok (.bipush (-11), 2) := by decide +kernel
theorem dX8_item_28 : decode cX8_item 28 = .ok (.ireturn, 1) := by decide +kernel
theorem dX8_item_29 : decode cX8_item 29 = .ok (.aload 5, 2) := by decide +kernel
theorem dX8_item_31 : decode cX8_item 31 = .ok (.iload_n 2, 1) := by decide +kernel
theorem dX8_item_32 : decode cX8_item 32 = .ok (.iconst 1, 1) := by decide +kernel
theorem dX8_item_33 : decode cX8_item 33 = .ok (.invokevirtual 237, 3) := by decide +kernel
theorem dX8_item_36 : decode cX8_item 36 = .ok (.ifCond .ne 6, 3) := by decide +kernel
theorem dX8_item_39 : decode cX8_item 39 = .ok (.bipush (-13), 2) := by decide +kernel
theorem dX8_item_41 : decode cX8_item 41 = .ok (.ireturn, 1) := by decide +kernel
theorem dX8_item_42 : decode cX8_item 42 = .ok (.aload 5, 2) := by decide +kernel
theorem dX8_item_44 : decode cX8_item 44 = .ok (.getfield 240, 3) := by decide +kernel
theorem dX8_item_47 : decode cX8_item 47 = .ok (.iload_n 2, 1) := by decide +kernel
theorem dX8_item_48 : decode cX8_item 48 = .ok (.aload 5, 2) := by decide +kernel
theorem dX8_item_50 : decode cX8_item 50 = .ok (.getfield 234, 3) := by decide +kernel
theorem dX8_item_53 : decode cX8_item 53 = .ok (.lload_n 3, 1) := by decide +kernel
theorem dX8_item_54 : decode cX8_item 54 = .ok (.invokestatic 246, 3) := by decide +kernel
theorem dX8_item_57 : decode cX8_item 57 = .ok (.lastore, 1) := by decide +kernel
theorem dX8_item_58 : decode cX8_item 58 = .ok (.iconst 1, 1) := by decide +kernel
theorem dX8_item_59 : decode cX8_item 59 = .ok (.ireturn, 1) := by decide +kernel
set_option maxRecDepth 20000 in
theorem ggX8_peek_X8_isTape : GoodIn wsX8_peek wsX8_isTape := goodIn_r _ [7] (by decide +kernel) (by decide +kernel)
set_option maxRecDepth 20000 in
theorem gX8_peek_X8_isTape : GoodIn wsX8_peek (va_wsS RX8 231 yX8_isTape wsX8_isTape) := goodIn_app (goodIn_of _ (by decide +kernel)) ggX8_peek_X8_isTape
set_option maxRecDepth 20000 in
theorem ggX8_peek_X6_has : GoodIn wsX8_peek wsX6_has := goodIn_r _ [12, 13, 24, 25, 26] (by decide +kernel) (by decide +kernel)
set_option maxRecDepth 20000 in
theorem gX8_peek_X6_has : GoodIn wsX8_peek (wsV RX8 237 RX6 yX6_has wsX6_has) := goodIn_app (goodIn_of _ (by decide +kernel)) ggX8_peek_X6_has
theorem dX8_peek_0 : decode cX8_peek 0 = .ok (.iload_n 1, 1) := by decide +kernel
theorem dX8_peek_1 : decode cX8_peek 1 = .ok (.invokestatic 231, 3) := by decide +kernel
theorem dX8_peek_4 : decode cX8_peek 4 = .ok (.ifCond .eq 17, 3) := by decide +kernel
theorem dX8_peek_7 : decode cX8_peek 7 = .ok (.aload_n 0, 1) := by decide +kernel
theorem dX8_peek_8 : decode cX8_peek 8 = .ok (.getfield 50, 3) := by decide +kernel
theorem dX8_peek_11 : decode cX8_peek 11 = .ok (.iload_n 1, 1) := by decide +kernel
theorem dX8_peek_12 : decode cX8_peek 12 = .ok (.aaload, 1) := by decide +kernel
theorem dX8_peek_13 : decode cX8_peek 13 = .ok (.iload_n 2, 1) := by decide +kernel
theorem dX8_peek_14 : decode cX8_peek 14 = .ok (.iconst 1, 1) := by decide +kernel
theorem dX8_peek_15 : decode cX8_peek 15 = .ok (.invokevirtual 237, 3) := by decide +kernel
theorem dX8_peek_18 : decode cX8_peek 18 = .ok (.ifCond .ne 7, 3) := by decide +kernel
theorem dX8_peek_21 : decode cX8_peek 21 = .ok (.ldc2_w 207, 3) := by decide +kernel
theorem dX8_peek_24 : decode cX8_peek 24 = .ok (.lreturn, 1) := by decide +kernel
theorem dX8_peek_25 : decode cX8_peek 25 = .ok (.aload_n 0, 1) := by decide +kernel
theorem dX8_peek_26 : decode cX8_peek 26 = .ok (.getfield 50, 3) := by decide +kernel
theorem dX8_peek_29 : decode cX8_peek 29 = .ok (.iload_n 1, 1) := by decide +kernel
theorem dX8_peek_30 : decode cX8_peek 30 = .ok (.aaload, 1) := by decide +kernel
theorem dX8_peek_31 : decode cX8_peek 31 = .ok (.getfield 240, 3) := by decide +kernel
theorem dX8_peek_34 : decode cX8_peek 34 = .ok (.iload_n 2, 1) := by decide +kernel
theorem dX8_peek_35 : decode cX8_peek 35 = .ok (.laload, 1) := by decide +kernel
theorem dX8_peek_36 : decode cX8_peek 36 = .ok (.lreturn, 1) := by decide +kernel
set_option maxRecDepth 20000 in
theorem ggX8_shift_X8_isTape : GoodIn wsX8_shift wsX8_isTape := goodIn_r _ [11] (by decide +kernel) (by decide +kernel)
set_option maxRecDepth 20000 in
theorem gX8_shift_X8_isTape : GoodIn wsX8_shift (va_wsS RX8 231 yX8_isTape wsX8_isTape) := goodIn_app (goodIn_of _ (by decide +kernel)) ggX8_shift_X8_isTape
set_option maxRecDepth 20000 in
theorem ggX8_shift_X6_has : GoodIn wsX8_shift wsX6_has := goodIn_r _ [16, 17, 28, 29, 30] (by decide +kernel) (by decide +kernel)
set_option maxRecDepth 20000 in
theorem gX8_shift_X6_has : GoodIn wsX8_shift (wsV RX8 237 RX6 yX6_has wsX6_has) := goodIn_app (goodIn_of _ (by decide +kernel)) ggX8_shift_X6_has
theorem dX8_shift_0 : decode cX8_shift 0 = .ok (.iload_n 1, 1) := by decide +kernel
theorem dX8_shift_1 : decode cX8_shift 1 = .ok (.invokestatic 231, 3) := by decide +kernel
theorem dX8_shift_4 : decode cX8_shift 4 = .ok (.ifCond .eq 10, 3) := by decide +kernel
theorem dX8_shift_7 : decode cX8_shift 7 = .ok (.iload_n 3, 1) := by decide +kernel
theorem dX8_shift_8 : decode cX8_shift 8 = .ok (.invokestatic 231, 3) := by decide +kernel
theorem dX8_shift_11 : decode cX8_shift 11 = .ok (.ifCond .ne 5, 3) := by decide +kernel
theorem dX8_shift_14 : decode cX8_shift 14 = .ok (.iconst (-1), 1) := by decide +kernel
theorem dX8_shift_15 : decode cX8_shift 15 = .ok (.ireturn, 1) := by decide +kernel
theorem dX8_shift_16 : decode cX8_shift 16 = .ok (.aload_n 0, 1) := by decide +kernel
theorem dX8_shift_17 : decode cX8_shift 17 = .ok (.getfield 50, 3) := by decide +kernel
theorem dX8_shift_20 : decode cX8_shift 20 = .ok (.iload_n 1, 1) := by decide +kernel
theorem dX8_shift_21 : decode cX8_shift 21 = .ok (.aaload, 1) := by decide +kernel
theorem dX8_shift_22 : decode cX8_shift 22 = .ok (.astore 6, 2) := by decide +kernel
theorem dX8_shift_24 : decode cX8_shift 24 = .ok (.aload_n 0, 1) := by decide +kernel
theorem dX8_shift_25 : decode cX8_shift 25 = .ok (.getfield 50, 3) := by decide +kernel
theorem dX8_shift_28 : decode cX8_shift 28 = .ok (.iload_n 3, 1) := by decide +kernel
theorem dX8_shift_29 : decode cX8_shift 29 = .ok (.aaload, 1) := by decide +kernel
theorem dX8_shift_30 : decode cX8_shift 30 = .ok (.astore 7, 2) := by decide +kernel
theorem dX8_shift_32 : decode cX8_shift 32 = .ok (.aload 6, 2) := by decide +kernel
theorem dX8_shift_34 : decode cX8_shift 34 = .ok (.getfield 234, 3) := by decide +kernel
theorem dX8_shift_37 : decode cX8_shift 37 = .ok (.iconst (-1), 1) := by decide +kernel
theorem dX8_shift_38 : decode cX8_shift 38 = .ok (.if_icmp .eq 12, 3) := by decide +kernel
theorem dX8_shift_41 : decode cX8_shift 41 = .ok (.aload 7, 2) := by decide +kernel
theorem dX8_shift_43 : decode cX8_shift 43 = .ok (.getfield 234, 3) := by decide +kernel
theorem dX8_shift_46 : decode cX8_shift 46 = .ok (.iconst (-1), 1) := by decide +kernel
theorem dX8_shift_47 : decode cX8_shift 47 = .ok (.if_icmp .ne 6, 3) := by decide +kernel
theorem dX8_shift_50 : decode cX8_shift 50 = .ok (.bipush (-11), 2) := by decide +kernel
theorem dX8_shift_52 : decode cX8_shift 52 = .ok (.ireturn, 1) := by decide +kernel
theorem dX8_shift_53 : decode cX8_shift 53 = .ok (.aload 6, 2) := by decide +kernel
theorem dX8_shift_55 : decode cX8_shift 55 = .ok (.getfield 234, 3) := by decide +kernel
theorem dX8_shift_58 : decode cX8_shift 58 = .ok (.aload 7, 2) := by decide +kernel
theorem dX8_shift_60 : decode cX8_shift 60 = .ok (.getfield 234, 3) := by decide +kernel
theorem dX8_shift_63 : decode cX8_shift 63 = .ok (.if_icmp .eq 6, 3) := by decide +kernel
theorem dX8_shift_66 : decode cX8_shift 66 = .ok (.bipush (-12), 2) := by decide +kernel
theorem dX8_shift_68 : decode cX8_shift 68 = .ok (.ireturn, 1) := by decide +kernel
theorem dX8_shift_69 : decode cX8_shift 69 = .ok (.aload 6, 2) := by decide +kernel
theorem dX8_shift_71 : decode cX8_shift 71 = .ok (.iload_n 2, 1) := by decide +kernel
theorem dX8_shift_72 : decode cX8_shift 72 = .ok (.iload 5, 2) := by decide +kernel
theorem dX8_shift_74 : decode cX8_shift 74 = .ok (.invokevirtual 237, 3) := by decide +kernel
theorem dX8_shift_77 : decode cX8_shift 77 = .ok (.ifCond .eq 15, 3) := by decide +kernel
theorem dX8_shift_80 : decode cX8_shift 80 = .ok (.aload 7, 2) := by decide +kernel
theorem dX8_shift_82 : decode cX8_shift 82 = .ok (.iload 4, 2) := by decide +kernel
theorem dX8_shift_84 : decode cX8_shift 84 = .ok (.iload 5, 2) := by decide +kernel
theorem dX8_shift_86 : decode cX8_shift 86 = .ok (.invokevirtual 237, 3) := by decide +kernel
theorem dX8_shift_89 : decode cX8_shift 89 = .ok (.ifCond .ne 6, 3) := by decide +kernel
theorem dX8_shift_92 : decode cX8_shift 92 = .ok (.bipush (-13), 2) := by decide +kernel
theorem dX8_shift_94 : decode cX8_shift 94 = .ok (.ireturn, 1) := by decide +kernel
theorem dX8_shift_95 : decode cX8_shift 95 = .ok (.aload 6, 2) := by decide +kernel
theorem dX8_shift_97 : decode cX8_shift 97 = .ok (.getfield 240, 3) := by decide +kernel
theorem dX8_shift_100 : decode cX8_shift 100 = .ok (.iload_n 2, 1) := by decide +kernel
theorem dX8_shift_101 : decode cX8_shift 101 = .ok (.aload 7, 2) := by decide +kernel
theorem dX8_shift_103 : decode cX8_shift 103 = .ok (.getfield 240, 3) := by decide +kernel
theorem dX8_shift_106 : decode cX8_shift 106 = .ok (.iload 4, 2) := by decide +kernel
theorem dX8_shift_108 : decode cX8_shift 108 = .ok (.iload 5, 2) := by decide +kernel
theorem dX8_shift_110 : decode cX8_shift 110 = .ok (.invokestatic 250, 3) := by decide +kernel
theorem dX8_shift_113 : decode cX8_shift 113 = .ok (.iload 5, 2) := by decide +kernel
theorem dX8_shift_115 : decode cX8_shift 115 = .ok (.ireturn, 1) := by decide +kernel
theorem dX8_isPlaces_0 : decode cX8_isPlaces 0 = .ok (.iload_n 1, 1) := by decide +kernel
theorem dX8_isPlaces_1 : decode cX8_isPlaces 1 = .ok (.ifCond .lt 20, 3) := by decide +kernel
theorem dX8_isPlaces_4 : decode cX8_isPlaces 4 = .ok (.iload_n 1, 1) := by decide +kernel
theorem dX8_isPlaces_5 : decode cX8_isPlaces 5 = .ok (.iconst 1, 1) := by decide +kernel
theorem dX8_isPlaces_6 : decode cX8_isPlaces 6 = .ok (.aload_n 0, 1) := by decide +kernel
theorem dX8_isPlaces_7 : decode cX8_isPlaces 7 = .ok (.getfield 14, 3) := by decide +kernel
theorem dX8_isPlaces_10 : decode cX8_isPlaces 10 = .ok (.getfield 62, 3) := by decide +kernel
theorem dX8_isPlaces_13 : decode cX8_isPlaces 13 = .ok (.ishl, 1) := by decide +kernel
theorem dX8_isPlaces_14 : decode cX8_isPlaces 14 = .ok (.if_icmp .ge 7, 3) := by decide +kernel
theorem dX8_isPlaces_17 : decode cX8_isPlaces 17 = .ok (.iconst 1, 1) := by decide +kernel
theorem dX8_isPlaces_18 : decode cX8_isPlaces 18 = .ok (.goto 4, 3) := by decide +kernel
theorem dX8_isPlaces_21 : decode cX8_isPlaces 21 = .ok (.iconst 0, 1) := by decide +kernel
theorem dX8_isPlaces_22 : decode cX8_isPlaces 22 = .ok (.ireturn, 1) := by decide +kernel
theorem dX8_isBell_0 : decode cX8_isBell 0 = .ok (.iload_n 1, 1) := by decide +kernel
theorem dX8_isBell_1 : decode cX8_isBell 1 = .ok (.iconst 1, 1) := by decide +kernel
theorem dX8_isBell_2 : decode cX8_isBell 2 = .ok (.if_icmp .lt 18, 3) := by decide +kernel
theorem dX8_isBell_5 : decode cX8_isBell 5 = .ok (.iload_n 1, 1) := by decide +kernel
theorem dX8_isBell_6 : decode cX8_isBell 6 = .ok (.aload_n 0, 1) := by decide +kernel
theorem dX8_isBell_7 : decode cX8_isBell 7 = .ok (.getfield 14, 3) := by decide +kernel
theorem dX8_isBell_10 : decode cX8_isBell 10 = .ok (.getfield 62, 3) := by decide +kernel
theorem dX8_isBell_13 : decode cX8_isBell 13 = .ok (.if_icmp .gt 7, 3) := by decide +kernel
theorem dX8_isBell_16 : decode cX8_isBell 16 = .ok (.iconst 1, 1) := by decide +kernel
theorem dX8_isBell_17 : decode cX8_isBell 17 = .ok (.goto 4, 3) := by decide +kernel
theorem dX8_isBell_20 : decode cX8_isBell 20 = .ok (.iconst 0, 1) := by decide +kernel
theorem dX8_isBell_21 : decode cX8_isBell 21 = .ok (.ireturn, 1) := by decide +kernel
set_option maxRecDepth 20000 in
theorem ggX8_isRow_X8_rung : GoodIn wsX8_isRow wsX8_rung := goodIn_r _ [6, 7, 8, 9, 10, 11, 12, 13, 14, 15, 16, 17, 18, 19, 20, 21, 22, 23, 24, 25, 26, 27, 28, 29, 30, 31, 32, 33, 34, 35, 36, 37, 38, 39, 40, 41, 42, 43, 44, 45, 46, 47, 48, 49, 50, 51, 52, 53, 62, 63, 64, 65, 66, 67, 68, 69, 70, 71, 72, 73, 74, 75, 76, 77, 78, 79, 80, 81, 82, 54, 55, 56, 57, 58, 59, 60, 61] (by decide +kernel) (by decide +kernel)
set_option maxRecDepth 20000 in
theorem gX8_isRow_X8_rung : GoodIn wsX8_isRow (wsV RX8 130 RX8 yX8_rung wsX8_rung) := goodIn_app (goodIn_of _ (by decide +kernel)) ggX8_isRow_X8_rung
theorem dX8_isRow_0 : decode cX8_isRow 0 = .ok (.iload_n 1, 1) := by decide +kernel
theorem dX8_isRow_1 : decode cX8_isRow 1 = .ok (.ifCond .lt 18, 3) := by decide +kernel
theorem dX8_isRow_4 : decode cX8_isRow 4 = .ok (.iload_n 1, 1) := by decide +kernel
theorem dX8_isRow_5 : decode cX8_isRow 5 = .ok (.aload_n 0, 1) := by decide +kernel
theorem dX8_isRow_6 : decode cX8_isRow 6 = .ok (.invokevirtual 130, 3) := by decide +kernel
theorem dX8_isRow_9 : decode cX8_isRow 9 = .ok (.getfield 134, 3) := by decide +kernel
theorem dX8_isRow_12 : decode cX8_isRow 12 = .ok (.if_icmp .gt 7, 3) := by decide +kernel
theorem dX8_isRow_15 : decode cX8_isRow 15 = .ok (.iconst 1, 1) := by decide +kernel
theorem dX8_isRow_16 : decode cX8_isRow 16 = .ok (.goto 4, 3) := by decide +kernel
theorem dX8_isRow_19 : decode cX8_isRow 19 = .ok (.iconst 0, 1) := by decide +kernel
theorem dX8_isRow_20 : decode cX8_isRow 20 = .ok (.ireturn, 1) := by decide +kernel
theorem dX8_isLead_0 : decode cX8_isLead 0 = .ok (.iload_n 0, 1) := by decide +kernel
theorem dX8_isLead_1 : decode cX8_isLead 1 = .ok (.ifCond .lt 13, 3) := by decide +kernel
theorem dX8_isLead_4 : decode cX8_isLead 4 = .ok (.iload_n 0, 1) := by decide +kernel
theorem dX8_isLead_5 : decode cX8_isLead 5 = .ok (.bipush 12, 2) := by decide +kernel
theorem dX8_isLead_7 : decode cX8_isLead 7 = .ok (.if_icmp .ge 7, 3) := by decide +kernel
theorem dX8_isLead_10 : decode cX8_isLead 10 = .ok (.iconst 1, 1) := by decide +kernel
theorem dX8_isLead_11 : decode cX8_isLead 11 = .ok (.goto 4, 3) := by decide +kernel
theorem dX8_isLead_14 : decode cX8_isLead 14 = .ok (.iconst 0, 1) := by decide +kernel
theorem dX8_isLead_15 : decode cX8_isLead 15 = .ok (.ireturn, 1) := by decide +kernel
theorem dX8_isTape_0 : decode cX8_isTape 0 = .ok (.iload_n 0, 1) := by decide +kernel
theorem dX8_isTape_1 : decode cX8_isTape 1 = .ok (.ifCond .lt 13, 3) := by decide +kernel
theorem dX8_isTape_4 : decode cX8_isTape 4 = .ok (.iload_n 0, 1) := by decide +kernel
theorem dX8_isTape_5 : decode cX8_isTape 5 = .ok (.bipush 6, 2) := by decide +kernel
theorem dX8_isTape_7 : decode cX8_isTape 7 = .ok (.if_icmp .ge 7, 3) := by decide +kernel
theorem dX8_isTape_10 : decode cX8_isTape 10 = .ok (.iconst 1, 1) := by decide +kernel
theorem dX8_isTape_11 : decode cX8_isTape 11 = .ok (.goto 4, 3) := by decide +kernel
theorem dX8_isTape_14 : decode cX8_isTape 14 = .ok (.iconst 0, 1) := by decide +kernel
theorem dX8_isTape_15 : decode cX8_isTape 15 = .ok (.ireturn, 1) := by decide +kernel
theorem dX8_isPart_0 : decode cX8_isPart 0 = .ok (.iload_n 0, 1) := by decide +kernel
theorem dX8_isPart_1 : decode cX8_isPart 1 = .ok (.ifCond .eq 8, 3) := by decide +kernel
theorem dX8_isPart_4 : decode cX8_isPart 4 = .ok (.iload_n 0, 1) := by decide +kernel
theorem dX8_isPart_5 : decode cX8_isPart 5 = .ok (.iconst 1, 1) := by decide +kernel
theorem dX8_isPart_6 : decode cX8_isPart 6 = .ok (.if_icmp .ne 7, 3) := by decide +kernel
theorem dX8_isPart_9 : decode cX8_isPart 9 = .ok (.iconst 1, 1) := by decide +kernel
theorem dX8_isPart_10 : decode cX8_isPart 10 = .ok (.goto 4, 3) := by decide +kernel
theorem dX8_isPart_13 : decode cX8_isPart 13 = .ok (.iconst 0, 1) := by decide +kernel
theorem dX8_isPart_14 : decode cX8_isPart 14 = .ok (.ireturn, 1) := by decide +kernel
theorem dX8_orNotFound_0 : decode cX8_orNotFound 0 = .ok (.iload_n 0, 1) := by decide +kernel
theorem dX8_orNotFound_1 : decode cX8_orNotFound 1 = .ok (.iconst (-1), 1) := by decide +kernel
theorem dX8_orNotFound_2 : decode cX8_orNotFound 2 = .ok (.if_icmp .ne 8, 3) := by decide +kernel
theorem dX8_orNotFound_5 : decode cX8_orNotFound 5 = .ok (.bipush (-5), 2) := by decide +kernel
theorem dX8_orNotFound_7 : decode cX8_orNotFound 7 = .ok (.goto 4, 3) := by decide +kernel
theorem dX8_orNotFound_10 : decode cX8_orNotFound 10 = .ok (.iload_n 0, 1) := by decide +kernel
theorem dX8_orNotFound_11 : decode cX8_orNotFound 11 = .ok (.ireturn, 1) := by decide +kernel
set_option maxRecDepth 20000 in
theorem ggX8_rung_X7_ring : GoodIn wsX8_rung wsX7_ring := goodIn_r _ [8, 9, 10, 11, 12, 13, 14, 7, 15, 16, 17, 18, 19, 20, 21, 22, 23, 24, 25, 26, 27, 28, 29, 30, 31, 32, 33, 34, 35, 36, 37, 38, 39, 40, 41, 42, 43, 44, 45, 46, 47, 58, 59, 60, 61, 62, 63, 64, 65, 66, 67, 68, 69, 70, 71, 72, 73, 74, 75, 76] (by decide +kernel) (by decide +kernel)
set_option maxRecDepth 20000 in
theorem gX8_rung_X7_ring : GoodIn wsX8_rung (wsV RX8 219 RX7 yX7_ring wsX7_ring) := goodIn_app (goodIn_of _ (by decide +kernel)) ggX8_rung_X7_ring
theorem dX8_rung_0 : decode cX8_rung 0 = .ok (.aload_n 0, 1) := by decide +kernel
theorem dX8_rung_1 : decode cX8_rung 1 = .ok (.getfield 58, 3) := by decide +kernel
theorem dX8_rung_4 : decode cX8_rung 4 = .ok (.ifCond .eq 19, 3) := by decide +kernel
theorem dX8_rung_7 : decode cX8_rung 7 = .ok (.aload_n 0, 1) := by decide +kernel
theorem dX8_rung_8 : decode cX8_rung 8 = .ok (.getfield 27, 3) := by decide +kernel
theorem dX8_rung_11 : decode cX8_rung 11 = .ok (.aload_n 0, 1) := by decide +kernel
theorem dX8_rung_12 : decode cX8_rung 12 = .ok (.getfield 14, 3) := by decide +kernel
theorem dX8_rung_15 : decode cX8_rung 15 = .ok (.invokevirtual 219, 3) := by decide +kernel
theorem dX8_rung_18 : decode cX8_rung 18 = .ok (.aload_n 0, 1) := by decide +kernel
theorem dX8_rung_19 : decode cX8_rung 19 = .ok (.iconst 0, 1) := by decide +kernel
theorem dX8_rung_20 : decode cX8_rung 20 = .ok (.putfield 58, 3) := by decide +kernel
theorem dX8_rung_23 : decode cX8_rung 23 = .ok (.aload_n 0, 1) := by decide +kernel
theorem dX8_rung_24 : decode cX8_rung 24 = .ok (.getfield 27, 3) := by decide +kernel
theorem dX8_rung_27 : decode cX8_rung 27 = .ok (.areturn, 1) := by decide +kernel
set_option maxRecDepth 20000 in
theorem ggX8_countMusic_X8_rung : GoodIn wsX8_countMusic wsX8_rung := goodIn_r _ [9, 10, 2, 4, 11, 12, 13, 14, 15, 16, 17, 18, 19, 20, 21, 22, 23, 24, 25, 26, 27, 28, 29, 30, 31, 32, 33, 34, 35, 36, 37, 38, 39, 40, 41, 42, 43, 44, 45, 46, 47, 48, 49, 50, 51, 52, 53, 54, 85, 86, 87, 88, 89, 90, 91, 92, 93, 94, 95, 96, 97, 98, 99, 100, 101, 102, 103, 104, 105, 77, 78, 79, 80, 81, 82, 83, 84] (by decide +kernel) (by decide +kernel)
set_option maxRecDepth 20000 in
theorem gX8_countMusic_X8_rung : GoodIn wsX8_countMusic (wsV RX8 130 RX8 yX8_rung wsX8_rung) := goodIn_app (goodIn_of _ (by decide +kernel)) ggX8_countMusic_X8_rung
set_option maxRecDepth 20000 in
theorem ggX8_countMusic_X4_isMusic : GoodIn wsX8_countMusic wsX4_isMusic := goodIn_r _ [58, 59, 60, 61, 46, 33, 47, 62, 63, 64, 41, 65, 66, 67, 68, 69, 70, 71, 72, 73, 74, 75, 76, 95, 96, 97, 98, 99, 100, 101, 102, 103, 104, 105] (by decide +kernel) (by decide +kernel)
set_option maxRecDepth 20000 in
theorem gX8_countMusic_X4_isMusic : GoodIn wsX8_countMusic (wsV RX8 256 RX4 yX4_isMusic wsX4_isMusic) := goodIn_app (goodIn_of _ (by decide +kernel)) ggX8_countMusic_X4_isMusic
theorem dX8_countMusic_0 : decode cX8_countMusic 0 = .ok (.aload_n 0, 1) := by decide +kernel
theorem dX8_countMusic_1 : decode cX8_countMusic 1 = .ok (.invokevirtual 130, 3) := by decide +kernel
theorem dX8_countMusic_4 : decode cX8_countMusic 4 = .ok (.getfield 156, 3) := by decide +kernel
theorem dX8_countMusic_7 : decode cX8_countMusic 7 = .ok (.astore_n 2, 1) := by decide +kernel
theorem dX8_countMusic_8 : decode cX8_countMusic 8 = .ok (.iconst 0, 1) := by decide +kernel
theorem dX8_countMusic_9 : decode cX8_countMusic 9 = .ok (.istore_n 3, 1) := by decide +kernel
theorem dX8_countMusic_10 : decode cX8_countMusic 10 = .ok (.iconst 1, 1) := by decide +kernel
theorem dX8_countMusic_11 : decode cX8_countMusic 11 = .ok (.istore 4, 2) := by decide +kernel
theorem dX8_countMusic_13 : decode cX8_countMusic 13 = .ok (.iload 4, 2) := by decide +kernel
theorem dX8_countMusic_15 : decode cX8_countMusic 15 = .ok (.aload_n 0, 1) := by decide +kernel
theorem dX8_countMusic_16 : decode cX8_countMusic 16 = .ok (.getfield 27, 3) := by decide +kernel
theorem dX8_countMusic_19 : decode cX8_countMusic 19 = .ok (.getfield 134, 3) := by decide +kernel
theorem dX8_countMusic_22 : decode cX8_countMusic 22 = .ok (.if_icmp .gt 27, 3) := by decide +kernel
theorem dX8_countMusic_25 : decode cX8_countMusic 25 = .ok (.aload_n 0, 1) := by decide +kernel
theorem dX8_countMusic_26 : decode cX8_countMusic 26 = .ok (.getfield 14, 3) := by decide +kernel
theorem dX8_countMusic_29 : decode cX8_countMusic 29 = .ok (.aload_n 2, 1) := by decide +kernel
theorem dX8_countMusic_30 : decode cX8_countMusic 30 = .ok (.iload 4, 2) := by decide +kernel
theorem dX8_countMusic_32 : decode cX8_countMusic 32 = .ok (.iaload, 1) := by decide +kernel
theorem dX8_countMusic_33 : decode cX8_countMusic 33 = .ok (.iload_n 1, 1) := by decide +kernel
theorem dX8_countMusic_34 : decode cX8_countMusic 34 = .ok (.invokevirtual 256, 3) := by decide +kernel
theorem dX8_countMusic_37 : decode cX8_countMusic 37 = .ok (.ifCond .eq 6, 3) := by decide +kernel
theorem dX8_countMusic_40 : decode cX8_countMusic 40 = .ok (.iinc 3 1, 3) := by decide +kernel
theorem dX8_countMusic_43 : decode cX8_countMusic 43 = .ok (.iinc 4 1, 3) := by decide +kernel
theorem dX8_countMusic_46 : decode cX8_countMusic 46 = .ok (.goto (-33), 3) := by decide +kernel
theorem dX8_countMusic_49 : decode cX8_countMusic 49 = .ok (.iload_n 3, 1) := by decide +kernel
theorem dX8_countMusic_50 : decode cX8_countMusic 50 = .ok (.ireturn, 1) := by decide +kernel
set_option maxRecDepth 20000 in
theorem ggX8_fitsLast_X7_ring : GoodIn wsX8_fitsLast wsX7_ring := goodIn_r _ [17, 18, 19, 20, 21, 22, 23, 16, 24, 25, 26, 27, 28, 29, 30, 31, 32, 33, 34, 35, 36, 37, 38, 39, 40, 41, 42, 43, 44, 45, 46, 47, 48, 49, 50, 51, 52, 53, 54, 55, 56, 70, 71, 72, 73, 74, 75, 76, 77, 78, 79, 80, 85, 86, 87, 88, 89, 90, 91, 92] (by decide +kernel) (by decide +kernel)
set_option maxRecDepth 20000 in
theorem gX8_fitsLast_X7_ring : GoodIn wsX8_fitsLast (wsV RX8 219 RX7 yX7_ring wsX7_ring) := goodIn_app (goodIn_of _ (by decide +kernel)) ggX8_fitsLast_X7_ring
set_option maxRecDepth 20000 in
theorem ggX8_fitsLast_X2_bellIn : GoodIn wsX8_fitsLast wsX2_bellIn := goodIn_r _ [59] (by decide +kernel) (by decide +kernel)
set_option maxRecDepth 20000 in
theorem gX8_fitsLast_X2_bellIn : GoodIn wsX8_fitsLast (va_wsS RX8 159 yX2_bellIn wsX2_bellIn) := goodIn_app (goodIn_of _ (by decide +kernel)) ggX8_fitsLast_X2_bellIn
theorem dX8_fitsLast_0 : decode cX8_fitsLast 0 = .ok (.aload_n 0, 1) := by decide +kernel
theorem dX8_fitsLast_1 : decode cX8_fitsLast 1 = .ok (.getfield 21, 3) := by decide +kernel
theorem dX8_fitsLast_4 : decode cX8_fitsLast 4 = .ok (.getfield 80, 3) := by decide +kernel
theorem dX8_fitsLast_7 : decode cX8_fitsLast 7 = .ok (.iconst 1, 1) := by decide +kernel
theorem dX8_fitsLast_8 : decode cX8_fitsLast 8 = .ok (.isub, 1) := by decide +kernel
theorem dX8_fitsLast_9 : decode cX8_fitsLast 9 = .ok (.istore_n 2, 1) := by decide +kernel
theorem dX8_fitsLast_10 : decode cX8_fitsLast 10 = .ok (.iload_n 2, 1) := by decide +kernel
theorem dX8_fitsLast_11 : decode cX8_fitsLast 11 = .ok (.ifCond .ge 5, 3) := by decide +kernel
theorem dX8_fitsLast_14 : decode cX8_fitsLast 14 = .ok (.iconst 0, 1) := by decide +kernel
theorem dX8_fitsLast_15 : decode cX8_fitsLast 15 = .ok (.ireturn, 1) := by decide +kernel
theorem dX8_fitsLast_16 : decode cX8_fitsLast 16 = .ok (.aload_n 0, 1) := by decide +kernel
theorem dX8_fitsLast_17 : decode cX8_fitsLast 17 = .ok (.getfield 21, 3) := by decide +kernel
theorem dX8_fitsLast_20 : decode cX8_fitsLast 20 = .ok (.getfield 83, 3) := by decide +kernel
theorem dX8_fitsLast_23 : decode cX8_fitsLast 23 = .ok (.iload_n 2, 1) := by decide +kernel
theorem dX8_fitsLast_24 : decode cX8_fitsLast 24 = .ok (.iload_n 1, 1) := by decide +kernel
theorem dX8_fitsLast_25 : decode cX8_fitsLast 25 = .ok (.iastore, 1) := by decide +kernel
theorem dX8_fitsLast_26 : decode cX8_fitsLast 26 = .ok (.aload_n 0, 1) := by decide +kernel
theorem dX8_fitsLast_27 : decode cX8_fitsLast 27 = .ok (.getfield 31, 3) := by decide +kernel
theorem dX8_fitsLast_30 : decode cX8_fitsLast 30 = .ok (.aload_n 0, 1) := by decide +kernel
theorem dX8_fitsLast_31 : decode cX8_fitsLast 31 = .ok (.getfield 21, 3) := by decide +kernel
theorem dX8_fitsLast_34 : decode cX8_fitsLast 34 = .ok (.invokevirtual 219, 3) := by decide +kernel
theorem dX8_fitsLast_37 : decode cX8_fitsLast 37 = .ok (.aload_n 0, 1) := by decide +kernel
theorem dX8_fitsLast_38 : decode cX8_fitsLast 38 = .ok (.getfield 14, 3) := by decide +kernel
theorem dX8_fitsLast_41 : decode cX8_fitsLast 41 = .ok (.getfield 186, 3) := by decide +kernel
theorem dX8_fitsLast_44 : decode cX8_fitsLast 44 = .ok (.astore_n 3, 1) := by decide +kernel
theorem dX8_fitsLast_45 : decode cX8_fitsLast 45 = .ok (.iconst 0, 1) := by decide +kernel
theorem dX8_fitsLast_46 : decode cX8_fitsLast 46 = .ok (.istore 4, 2) := by decide +kernel
theorem dX8_fitsLast_48 : decode cX8_fitsLast 48 = .ok (.iload 4, 2) := by decide +kernel
theorem dX8_fitsLast_50 : decode cX8_fitsLast 50 = .ok (.aload_n 3, 1) := by decide +kernel
theorem dX8_fitsLast_51 : decode cX8_fitsLast 51 = .ok (.getfield 190, 3) := by decide +kernel
theorem dX8_fitsLast_54 : decode cX8_fitsLast 54 = .ok (.if_icmp .ge 62, 3) := by decide +kernel
theorem dX8_fitsLast_57 : decode cX8_fitsLast 57 = .ok (.aload_n 3, 1) := by decide +kernel
theorem dX8_fitsLast_58 : decode cX8_fitsLast 58 = .ok (.getfield 225, 3) := by decide +kernel
theorem dX8_fitsLast_61 : decode cX8_fitsLast 61 = .ok (.iload 4, 2) := by decide +kernel
theorem dX8_fitsLast_63 : decode cX8_fitsLast 63 = .ok (.iaload, 1) := by decide +kernel
theorem dX8_fitsLast_64 : decode cX8_fitsLast 64 = .ok (.istore 5, 2) := by decide +kernel
theorem dX8_fitsLast_66 : decode cX8_fitsLast 66 = .ok (.iload 5, 2) := by decide +kernel
theorem dX8_fitsLast_68 : decode cX8_fitsLast 68 = .ok (.aload_n 0, 1) := by decide +kernel
theorem dX8_fitsLast_69 : decode cX8_fitsLast 69 = .ok (.getfield 31, 3) := by decide +kernel
theorem dX8_fitsLast_72 : decode cX8_fitsLast 72 = .ok (.getfield 134, 3) := by decide +kernel
theorem dX8_fitsLast_75 : decode cX8_fitsLast 75 = .ok (.if_icmp .gt 35, 3) := by decide +kernel
theorem dX8_fitsLast_78 : decode cX8_fitsLast 78 = .ok (.aload_n 0, 1) := by decide +kernel
theorem dX8_fitsLast_79 : decode cX8_fitsLast 79 = .ok (.getfield 31, 3) := by decide +kernel
theorem dX8_fitsLast_82 : decode cX8_fitsLast 82 = .ok (.getfield 156, 3) := by decide +kernel
theorem dX8_fitsLast_85 : decode cX8_fitsLast 85 = .ok (.iload 5, 2) := by decide +kernel
theorem dX8_fitsLast_87 : decode cX8_fitsLast 87 = .ok (.iaload, 1) := by decide +kernel
theorem dX8_fitsLast_88 : decode cX8_fitsLast 88 = .ok (.aload_n 3, 1) := by decide +kernel
theorem dX8_fitsLast_89 : decode cX8_fitsLast 89 = .ok (.getfield 228, 3) := by decide +kernel
theorem dX8_fitsLast_92 : decode cX8_fitsLast 92 = .ok (.iload 4, 2) := by decide +kernel
theorem dX8_fitsLast_94 : decode cX8_fitsLast 94 = .ok (.iaload, 1) := by decide +kernel
theorem dX8_fitsLast_95 : decode cX8_fitsLast 95 = .ok (.invokestatic 159, 3) := by decide +kernel
theorem dX8_fitsLast_98 : decode cX8_fitsLast 98 = .ok (.aload_n 3, 1) := by decide +kernel
theorem dX8_fitsLast_99 : decode cX8_fitsLast 99 = .ok (.getfield 259, 3) := by decide +kernel
theorem dX8_fitsLast_102 : decode cX8_fitsLast 102 = .ok (.iload 4, 2) := by decide +kernel
theorem dX8_fitsLast_104 : decode cX8_fitsLast 104 = .ok (.iaload, 1) := by decide +kernel
theorem dX8_fitsLast_105 : decode cX8_fitsLast 105 = .ok (.if_icmp .eq 5, 3) := by decide +kernel
theorem dX8_fitsLast_108 : decode cX8_fitsLast 108 = .ok (.iconst 0, 1) := by decide +kernel
theorem dX8_fitsLast_109 : decode cX8_fitsLast 109 = .ok (.ireturn, 1) := by decide +kernel
theorem dX8_fitsLast_110 : decode cX8_fitsLast 110 = .ok (.iinc 4 1, 3) := by decide +kernel
theorem dX8_fitsLast_113 : decode cX8_fitsLast 113 = .ok (.goto (-65), 3) := by decide +kernel
theorem dX8_fitsLast_116 : decode cX8_fitsLast 116 = .ok (.iconst 1, 1) := by decide +kernel
theorem dX8_fitsLast_117 : decode cX8_fitsLast 117 = .ok (.ireturn, 1) := by decide +kernel
theorem dX8_lowestTerms_0 : decode cX8_lowestTerms 0 = .ok (.iload_n 2, 1) := by decide +kernel
theorem dX8_lowestTerms_1 : decode cX8_lowestTerms 1 = .ok (.ifCond .ne 7, 3) := by decide +kernel
theorem dX8_lowestTerms_4 : decode cX8_lowestTerms 4 = .ok (.iload_n 0, 1) := by decide +kernel
theorem dX8_lowestTerms_5 : decode cX8_lowestTerms 5 = .ok (.goto 4, 3) := by decide +kernel
theorem dX8_lowestTerms_8 : decode cX8_lowestTerms 8 = .ok (.iload_n 1, 1) := by decide +kernel
theorem dX8_lowestTerms_9 : decode cX8_lowestTerms 9 = .ok (.istore_n 3, 1) := by decide +kernel
theorem dX8_lowestTerms_10 : decode cX8_lowestTerms 10 = .ok (.iload_n 1, 1) := by decide +kernel
theorem dX8_lowestTerms_11 : decode cX8_lowestTerms 11 = .ok (.istore 4, 2) := by decide +kernel
theorem dX8_lowestTerms_13 : decode cX8_lowestTerms 13 = .ok (.iload 4, 2) := by decide +kernel
theorem dX8_lowestTerms_15 : decode cX8_lowestTerms 15 = .ok (.iconst 1, 1) := by decide +kernel
theorem dX8_lowestTerms_16 : decode cX8_lowestTerms 16 = .ok (.if_icmp .le 29, 3) := by decide +kernel
theorem dX8_lowestTerms_19 : decode cX8_lowestTerms 19 = .ok (.iload_n 0, 1) := by decide +kernel
theorem dX8_lowestTerms_20 : decode cX8_lowestTerms 20 = .ok (.iload 4, 2) := by decide +kernel
theorem dX8_lowestTerms_22 : decode cX8_lowestTerms 22 = .ok (.irem, 1) := by decide +kernel
theorem dX8_lowestTerms_23 : decode cX8_lowestTerms 23 = .ok (.ifCond .ne 16, 3) := by decide +kernel
theorem dX8_lowestTerms_26 : decode cX8_lowestTerms 26 = .ok (.iload_n 1, 1) := by decide +kernel
theorem dX8_lowestTerms_27 : decode cX8_lowestTerms 27 = .ok (.iload 4, 2) := by decide +kernel
theorem dX8_lowestTerms_29 : decode cX8_lowestTerms 29 = .ok (.irem, 1) := by decide +kernel
theorem dX8_lowestTerms_30 : decode cX8_lowestTerms 30 = .ok (.ifCond .ne 9, 3) := by decide +kernel
theorem dX8_lowestTerms_33 : decode cX8_lowestTerms 33 = .ok (.iload_n 3, 1) := by decide +kernel
theorem dX8_lowestTerms_34 : decode cX8_lowestTerms 34 = .ok (.iload 4, 2) := by decide +kernel
theorem dX8_lowestTerms_36 : decode cX8_lowestTerms 36 = .ok (.idiv, 1) := by decide +kernel
theorem dX8_lowestTerms_37 : decode cX8_lowestTerms 37 = .ok (.i2l, 1) := by decide +kernel
theorem dX8_lowestTerms_38 : decode cX8_lowestTerms 38 = .ok (.lreturn, 1) := by decide +kernel
theorem dX8_lowestTerms_39 : decode cX8_lowestTerms 39 = .ok (.iinc 4 (-1), 3) := by decide +kernel
theorem dX8_lowestTerms_42 : decode cX8_lowestTerms 42 = .ok (.goto (-29), 3) := by decide +kernel
theorem dX8_lowestTerms_45 : decode cX8_lowestTerms 45 = .ok (.iload_n 3, 1) := by decide +kernel
theorem dX8_lowestTerms_46 : decode cX8_lowestTerms 46 = .ok (.i2l, 1) := by decide +kernel
theorem dX8_lowestTerms_47 : decode cX8_lowestTerms 47 = .ok (.lreturn, 1) := by decide +kernel
set_option maxRecDepth 20000 in
theorem ggX9_init_X9_begins : GoodIn wsX9_init wsX9_begins := goodIn_r _ [23, 5, 24, 25, 26, 27, 28, 29, 30, 31, 32, 33, 34, 35, 36, 37, 38, 39, 40, 41, 42, 43] (by decide +kernel) (by decide +kernel)
set_option maxRecDepth 20000 in
theorem gX9_init_X9_begins : GoodIn wsX9_init (wsV RX9 52 RX9 yX9_begins wsX9_begins) := goodIn_app (goodIn_of _ (by decide +kernel)) ggX9_init_X9_begins
theorem dX9_init_0 : decode cX9_init 0 = .ok (.aload_n 0, 1) := by decide +kernel
theorem dX9_init_1 : decode cX9_init 1 = .ok (.invokespecial 3, 3) := by decide +kernel
theorem dX9_init_4 : decode cX9_init 4 = .ok (.aload_n 0, 1) := by decide +kernel
theorem dX9_init_5 : decode cX9_init 5 = .ok (.bipush 91, 2) := by decide +kernel
theorem dX9_init_7 : decode cX9_init 7 = .ok (.newarray .int, 2) := by decide +kernel
theorem dX9_init_9 : decode cX9_init 9 = .ok (.putfield 9, 3) := by decide +kernel
theorem dX9_init_12 : decode cX9_init 12 = .ok (.aload_n 0, 1) := by decide +kernel
theorem dX9_init_13 : decode cX9_init 13 = .ok (.bipush 91, 2) := by decide +kernel
theorem dX9_init_15 : decode cX9_init 15 = .ok (.newarray .int, 2) := by decide +kernel
theorem dX9_init_17 : decode cX9_init 17 = .ok (.putfield 15, 3) := by decide +kernel
theorem dX9_init_20 : decode cX9_init 20 = .ok (.aload_n 0, 1) := by decide +kernel
theorem dX9_init_21 : decode cX9_init 21 = .ok (.sipush 1544, 3) := by decide +kernel
theorem dX9_init_24 : decode cX9_init 24 = .ok (.newarray .int, 2) := by decide +kernel
theorem dX9_init_26 : decode cX9_init 26 = .ok (.putfield 18, 3) := by decide +kernel
theorem dX9_init_29 : decode cX9_init 29 = .ok (.aload_n 0, 1) := by decide +kernel
theorem dX9_init_30 : decode cX9_init 30 = .ok (.sipush 193, 3) := by decide +kernel
theorem dX9_init_33 : decode cX9_init 33 = .ok (.newarray .int, 2) := by decide +kernel
theorem dX9_init_35 : decode cX9_init 35 = .ok (.putfield 21, 3) := by decide +kernel
theorem dX9_init_38 : decode cX9_init 38 = .ok (.aload_n 0, 1) := by decide +kernel
theorem dX9_init_39 : decode cX9_init 39 = .ok (.bipush 100, 2) := by decide +kernel
theorem dX9_init_41 : decode cX9_init 41 = .ok (.newarray .int, 2) := by decide +kernel
theorem dX9_init_43 : decode cX9_init 43 = .ok (.putfield 24, 3) := by decide +kernel
theorem dX9_init_46 : decode cX9_init 46 = .ok (.aload_n 0, 1) := by decide +kernel
theorem dX9_init_47 : decode cX9_init 47 = .ok (.bipush 10, 2) := by decide +kernel
theorem dX9_init_49 : decode cX9_init 49 = .ok (.newarray .int, 2) := by decide +kernel
theorem dX9_init_51 : decode cX9_init 51 = .ok (.putfield 27, 3) := by decide +kernel
theorem dX9_init_54 : decode cX9_init 54 = .ok (.aload_n 0, 1) := by decide +kernel
theorem dX9_init_55 : decode cX9_init 55 = .ok (.bipush 10, 2) := by decide +kernel
theorem dX9_init_57 : decode cX9_init 57 = .ok (.newarray .int, 2) := by decide +kernel
theorem dX9_init_59 : decode cX9_init 59 = .ok (.putfield 30, 3) := by decide +kernel
theorem dX9_init_62 : decode cX9_init 62 = .ok (.aload_n 0, 1) := by decide +kernel
theorem dX9_init_63 : decode cX9_init 63 = .ok (.bipush 10, 2) := by decide +kernel
theorem dX9_init_65 : decode cX9_init 65 = .ok (.newarray .int, 2) := by decide +kernel
theorem dX9_init_67 : decode cX9_init 67 = .ok (.putfield 33, 3) := by decide +kernel
theorem dX9_init_70 : decode cX9_init 70 = .ok (.aload_n 0, 1) := by decide +kernel
theorem dX9_init_71 : decode cX9_init 71 = .ok (.bipush 100, 2) := by decide +kernel
theorem dX9_init_73 : decode cX9_init 73 = .ok (.newarray .int, 2) := by decide +kernel
theorem dX9_init_75 : decode cX9_init 75 = .ok (.putfield 36, 3) := by decide +kernel
theorem dX9_init_78 : decode cX9_init 78 = .ok (.aload_n 0, 1) := by decide +kernel
theorem dX9_init_79 : decode cX9_init 79 = .ok (.bipush 6, 2) := by decide +kernel
theorem dX9_init_81 : decode cX9_init 81 = .ok (.newarray .int, 2) := by decide +kernel
theorem dX9_init_83 : decode cX9_init 83 = .ok (.putfield 39, 3) := by decide +kernel
theorem dX9_init_86 : decode cX9_init 86 = .ok (.aload_n 0, 1) := by decide +kernel
theorem dX9_init_87 : decode cX9_init 87 = .ok (.bipush 6, 2) := by decide +kernel
theorem dX9_init_89 : decode cX9_init 89 = .ok (.newarray .int, 2) := by decide +kernel
theorem dX9_init_91 : decode cX9_init 91 = .ok (.putfield 42, 3) := by decide +kernel
theorem dX9_init_94 : decode cX9_init 94 = .ok (.aload_n 0, 1) := by decide +kernel
theorem dX9_init_95 : decode cX9_init 95 = .ok (.sipush 360, 3) := by decide +kernel
theorem dX9_init_98 : decode cX9_init 98 = .ok (.newarray .long, 2) := by decide +kernel
theorem dX9_init_100 : decode cX9_init 100 = .ok (.putfield 45, 3) := by decide +kernel
theorem dX9_init_103 : decode cX9_init 103 = .ok (.aload_n 0, 1) := by decide +kernel
theorem dX9_init_104 : decode cX9_init 104 = .ok (.bipush 60, 2) := by decide +kernel
theorem dX9_init_106 : decode cX9_init 106 = .ok (.newarray .long, 2) := by decide +kernel
theorem dX9_init_108 : decode cX9_init 108 = .ok (.putfield 49, 3) := by decide +kernel
theorem dX9_init_111 : decode cX9_init 111 = .ok (.aload_n 0, 1) := by decide +kernel
theorem dX9_init_112 : decode cX9_init 112 = .ok (.bipush 6, 2) := by decide +kernel
theorem dX9_init_114 : decode cX9_init 114 = .ok (.invokevirtual 52, 3) := by decide +kernel
theorem dX9_init_117 : decode cX9_init 117 = .ok (.return_, 1) := by decide +kernel
theorem dX9_within_0 : decode cX9_within 0 = .ok (.iload_n 0, 1) := by decide +kernel
theorem dX9_within_1 : decode cX9_within 1 = .ok (.iload_n 1, 1) := by decide +kernel
theorem dX9_within_2 : decode cX9_within 2 = .ok (.if_icmp .lt 12, 3) := by decide +kernel
theorem dX9_within_5 : decode cX9_within 5 = .ok (.iload_n 0, 1) := by decide +kernel
theorem dX9_within_6 : decode cX9_within 6 = .ok (.iload_n 2, 1) := by decide +kernel
theorem dX9_within_7 : decode cX9_within 7 = .ok (.if_icmp .gt 7, 3) := by decide +kernel
theorem dX9_within_10 : decode cX9_within 10 = .ok (.iconst 1, 1) := by decide +kernel
theorem dX9_within_11 : decode cX9_within 11 = .ok (.goto 4, 3) := by decide +kernel
theorem dX9_within_14 : decode cX9_within 14 = .ok (.iconst 0, 1) := by decide +kernel
theorem dX9_within_15 : decode cX9_within 15 = .ok (.ireturn, 1) := by decide +kernel
theorem dX9_begins_0 : decode cX9_begins 0 = .ok (.iconst 0, 1) := by decide +kernel
theorem dX9_begins_1 : decode cX9_begins 1 = .ok (.istore_n 2, 1) := by decide +kernel
theorem dX9_begins_2 : decode cX9_begins 2 = .ok (.iload_n 2, 1) := by decide +kernel
theorem dX9_begins_3 : decode cX9_begins 3 = .ok (.bipush 91, 2) := by decide +kernel
theorem dX9_begins_5 : decode cX9_begins 5 = .ok (.if_icmp .ge 16, 3) := by decide +kernel
theorem dX9_begins_8 : decode cX9_begins 8 = .ok (.aload_n 0, 1) := by decide +kernel
theorem dX9_begins_9 : decode cX9_begins 9 = .ok (.getfield 9, 3) := by decide +kernel
theorem dX9_begins_12 : decode cX9_begins 12 = .ok (.iload_n 2, 1) := by decide +kernel
theorem dX9_begins_13 : decode cX9_begins 13 = .ok (.iconst 0, 1) := by decide +kernel
theorem dX9_begins_14 : decode cX9_begins 14 = .ok (.iastore, 1) := by decide +kernel
theorem dX9_begins_15 : decode cX9_begins 15 = .ok (.iinc 2 1, 3) := by decide +kernel
theorem dX9_begins_18 : decode cX9_begins 18 = .ok (.goto (-16), 3) := by decide +kernel
theorem dX9_begins_21 : decode cX9_begins 21 = .ok (.aload_n 0, 1) := by decide +kernel
theorem dX9_begins_22 : decode cX9_begins 22 = .ok (.getfield 9, 3) := by decide +kernel
theorem dX9_begins_25 : decode cX9_begins 25 = .ok (.iconst 0, 1) := by decide +kernel
theorem dX9_begins_26 : decode cX9_begins 26 = .ok (.iload_n 1, 1) := by decide +kernel
theorem dX9_begins_27 : decode cX9_begins 27 = .ok (.iastore, 1) := by decide +kernel
theorem dX9_begins_28 : decode cX9_begins 28 = .ok (.aload_n 0, 1) := by decide +kernel
theorem dX9_begins_29 : decode cX9_begins 29 = .ok (.getfield 9, 3) := by decide +kernel
theorem dX9_begins_32 : decode cX9_begins 32 = .ok (.iconst 2, 1) := by decide +kernel
theorem dX9_begins_33 : decode cX9_begins 33 = .ok (.iconst (-1), 1) := by decide +kernel
theorem dX9_begins_34 : decode cX9_begins 34 = .ok (.iastore, 1) := by decide +kernel
theorem dX9_begins_35 : decode cX9_begins 35 = .ok (.aload_n 0, 1) := by decide +kernel
theorem dX9_begins_36 : decode cX9_begins 36 = .ok (.getfield 9, 3) := by decide +kernel
theorem dX9_begins_39 : decode cX9_begins 39 = .ok (.iconst 3, 1) := by decide +kernel
theorem dX9_begins_40 : decode cX9_begins 40 = .ok (.iconst (-1), 1) := by decide +kernel
theorem dX9_begins_41 : decode cX9_begins 41 = .ok (.iastore, 1) := by decide +kernel
theorem dX9_begins_42 : decode cX9_begins 42 = .ok (.aload_n 0, 1) := by decide +kernel
theorem dX9_begins_43 : decode cX9_begins 43 = .ok (.getfield 9, 3) := by decide +kernel
theorem dX9_begins_46 : decode cX9_begins 46 = .ok (.iconst 4, 1) := by decide +kernel
theorem dX9_begins_47 : decode cX9_begins 47 = .ok (.iconst 1, 1) := by decide +kernel
theorem dX9_begins_48 : decode cX9_begins 48 = .ok (.iastore, 1) := by decide +kernel
theorem dX9_begins_49 : decode cX9_begins 49 = .ok (.return_, 1) := by decide +kernel
theorem dX9_becomes_0 : decode cX9_becomes 0 = .ok (.aload_n 0, 1) := by decide +kernel
theorem dX9_becomes_1 : decode cX9_becomes 1 = .ok (.getfield 9, 3) := by decide +kernel
theorem dX9_becomes_4 : decode cX9_becomes 4 = .ok (.iload_n 1, 1) := by decide +kernel
theorem dX9_becomes_5 : decode cX9_becomes 5 = .ok (.iaload, 1) := by decide +kernel
theorem dX9_becomes_6 : decode cX9_becomes 6 = .ok (.istore_n 3, 1) := by decide +kernel
theorem dX9_becomes_7 : decode cX9_becomes 7 = .ok (.aload_n 0, 1) := by decide +kernel
theorem dX9_becomes_8 : decode cX9_becomes 8 = .ok (.getfield 9, 3) := by decide +kernel
theorem dX9_becomes_11 : decode cX9_becomes 11 = .ok (.iload_n 1, 1) := by decide +kernel
theorem dX9_becomes_12 : decode cX9_becomes 12 = .ok (.iload_n 2, 1) := by decide +kernel
theorem dX9_becomes_13 : decode cX9_becomes 13 = .ok (.iastore, 1) := by decide +kernel
theorem dX9_becomes_14 : decode cX9_becomes 14 = .ok (.iload_n 3, 1) := by decide +kernel
theorem dX9_becomes_15 : decode cX9_becomes 15 = .ok (.ireturn, 1) := by decide +kernel
set_option maxRecDepth 20000 in
theorem ggX9_bells_X9_within : GoodIn wsX9_bells wsX9_within := goodIn_r _ [5] (by decide +kernel) (by decide +kernel)
set_option maxRecDepth 20000 in
theorem gX9_bells_X9_within : GoodIn wsX9_bells (va_wsS RX9 56 yX9_within wsX9_within) := goodIn_app (goodIn_of _ (by decide +kernel)) ggX9_bells_X9_within
set_option maxRecDepth 20000 in
theorem ggX9_bells_X9_begins : GoodIn wsX9_bells wsX9_begins := goodIn_r _ [9, 1, 10, 11, 12, 13, 14, 15, 16, 17, 18, 19, 20, 21, 22, 23, 24, 25, 26, 27, 28, 29] (by decide +kernel) (by decide +kernel)
set_option maxRecDepth 20000 in
theorem gX9_bells_X9_begins : GoodIn wsX9_bells (wsV RX9 52 RX9 yX9_begins wsX9_begins) := goodIn_app (goodIn_of _ (by decide +kernel)) ggX9_bells_X9_begins
theorem dX9_bells_0 : decode cX9_bells 0 = .ok (.iload_n 1, 1) := by decide +kernel
theorem dX9_bells_1 : decode cX9_bells 1 = .ok (.iconst 4, 1) := by decide +kernel
theorem dX9_bells_2 : decode cX9_bells 2 = .ok (.bipush 8, 2) := by decide +kernel
theorem dX9_bells_4 : decode cX9_bells 4 = .ok (.invokestatic 56, 3) := by decide +kernel
theorem dX9_bells_7 : decode cX9_bells 7 = .ok (.ifCond .ne 6, 3) := by decide +kernel
theorem dX9_bells_10 : decode cX9_bells 10 = .ok (.bipush (-2), 2) := by decide +kernel
theorem dX9_bells_12 : decode cX9_bells 12 = .ok (.ireturn, 1) := by decide +kernel
theorem dX9_bells_13 : decode cX9_bells 13 = .ok (.aload_n 0, 1) := by decide +kernel
theorem dX9_bells_14 : decode cX9_bells 14 = .ok (.getfield 9, 3) := by decide +kernel
theorem dX9_bells_17 : decode cX9_bells 17 = .ok (.iconst 0, 1) := by decide +kernel
theorem dX9_bells_18 : decode cX9_bells 18 = .ok (.iaload, 1) := by decide +kernel
theorem dX9_bells_19 : decode cX9_bells 19 = .ok (.istore_n 2, 1) := by decide +kernel
theorem dX9_bells_20 : decode cX9_bells 20 = .ok (.aload_n 0, 1) := by decide +kernel
theorem dX9_bells_21 : decode cX9_bells 21 = .ok (.iload_n 1, 1) := by decide +kernel
theorem dX9_bells_22 : decode cX9_bells 22 = .ok (.invokevirtual 52, 3) := by decide +kernel
theorem dX9_bells_25 : decode cX9_bells 25 = .ok (.iload_n 2, 1) := by decide +kernel
theorem dX9_bells_26 : decode cX9_bells 26 = .ok (.ireturn, 1) := by decide +kernel
set_option maxRecDepth 20000 in
theorem ggX9_areKept_X9_within : GoodIn wsX9_areKept wsX9_within := goodIn_r _ [5] (by decide +kernel) (by decide +kernel)
set_option maxRecDepth 20000 in
theorem gX9_areKept_X9_within : GoodIn wsX9_areKept (va_wsS RX9 56 yX9_within wsX9_within) := goodIn_app (goodIn_of _ (by decide +kernel)) ggX9_areKept_X9_within
theorem dX9_areKept_0 : decode cX9_areKept 0 = .ok (.iload_n 1, 1) := by decide +kernel
theorem dX9_areKept_1 : decode cX9_areKept 1 = .ok (.iconst 0, 1) := by decide +kernel
theorem dX9_areKept_2 : decode cX9_areKept 2 = .ok (.iconst 1, 1) := by decide +kernel
theorem dX9_areKept_3 : decode cX9_areKept 3 = .ok (.aload_n 0, 1) := by decide +kernel
theorem dX9_areKept_4 : decode cX9_areKept 4 = .ok (.getfield 9, 3) := by decide +kernel
theorem dX9_areKept_7 : decode cX9_areKept 7 = .ok (.iconst 0, 1) := by decide +kernel
theorem dX9_areKept_8 : decode cX9_areKept 8 = .ok (.iaload, 1) := by decide +kernel
theorem dX9_areKept_9 : decode cX9_areKept 9 = .ok (.ishl, 1) := by decide +kernel
theorem dX9_areKept_10 : decode cX9_areKept 10 = .ok (.iconst 1, 1) := by decide +kernel
theorem dX9_areKept_11 : decode cX9_areKept 11 = .ok (.isub, 1) := by decide +kernel
theorem dX9_areKept_12 : decode cX9_areKept 12 = .ok (.invokestatic 56, 3) := by decide +kernel
theorem dX9_areKept_15 : decode cX9_areKept 15 = .ok (.ireturn, 1) := by decide +kernel
theorem dX9_isGood_0 : decode cX9_isGood 0 = .ok (.iconst 0, 1) := by decide +kernel
theorem dX9_isGood_1 : decode cX9_isGood 1 = .ok (.istore_n 2, 1) := by decide +kernel
theorem dX9_isGood_2 : decode cX9_isGood 2 = .ok (.iload_n 2, 1) := by decide +kernel
theorem dX9_isGood_3 : decode cX9_isGood 3 = .ok (.aload_n 0, 1) := by decide +kernel
theorem dX9_isGood_4 : decode cX9_isGood 4 = .ok (.getfield 9, 3) := by decide +kernel
theorem dX9_isGood_7 : decode cX9_isGood 7 = .ok (.iconst 0, 1) := by decide +kernel
theorem dX9_isGood_8 : decode cX9_isGood 8 = .ok (.iaload, 1) := by decide +kernel
theorem dX9_isGood_9 : decode cX9_isGood 9 = .ok (.if_icmp .ge 48, 3) := by decide +kernel
theorem dX9_isGood_12 : decode cX9_isGood 12 = .ok (.iload_n 1, 1) := by decide +kernel
theorem dX9_isGood_13 : decode cX9_isGood 13 = .ok (.iload_n 2, 1) := by decide +kernel
theorem dX9_isGood_14 : decode cX9_isGood 14 = .ok (.ishr, 1) := by decide +kernel
theorem dX9_isGood_15 : decode cX9_isGood 15 = .ok (.iconst 1, 1) := by decide +kernel
theorem dX9_isGood_16 : decode cX9_isGood 16 = .ok (.iand, 1) := by decide +kernel
theorem dX9_isGood_17 : decode cX9_isGood 17 = .ok (.iconst 1, 1) := by decide +kernel
theorem dX9_isGood_18 : decode cX9_isGood 18 = .ok (.if_icmp .ne 9, 3) := by decide +kernel
theorem dX9_isGood_21 : decode cX9_isGood 21 = .ok (.iinc 2 1, 3) := by decide +kernel
