theorem dX8_looked_65 : decode cX8_looked 65 = .ok (.ireturn, 1) := by decide +kernel
set_option maxRecDepth 20000 in
theorem ggX8_judge_X8_isRow : GoodIn wsX8_judge wsX8_isRow := goodIn_r _ [11, 12, 13, 14, 15, 10, 16, 17, 18, 3, 19, 20, 21, 22, 23, 24, 25, 26, 27, 28, 29, 30, 31, 32, 33, 34, 35, 36, 37, 38, 39, 40, 41, 42, 43, 44, 45, 46, 47, 48, 49, 50, 51, 52, 53, 54, 55, 56, 57, 58, 59, 60, 61, 62, 99, 100, 101, 102, 103, 104, 105, 106, 75, 76, 77, 78, 79, 80, 81, 82, 83, 84, 88, 89, 90, 91, 92, 93, 94, 95, 96, 97, 98] (by decide +kernel) (by decide +kernel)
set_option maxRecDepth 20000 in
theorem gX8_judge_X8_isRow : GoodIn wsX8_judge (wsV RX8 150 RX8 yX8_isRow wsX8_isRow) := goodIn_app (goodIn_of _ (by decide +kernel)) ggX8_judge_X8_isRow
set_option maxRecDepth 20000 in
theorem ggX8_judge_X8_isTape : GoodIn wsX8_judge wsX8_isTape := goodIn_r _ [65] (by decide +kernel) (by decide +kernel)
set_option maxRecDepth 20000 in
theorem gX8_judge_X8_isTape : GoodIn wsX8_judge (va_wsS RX8 231 yX8_isTape wsX8_isTape) := goodIn_app (goodIn_of _ (by decide +kernel)) ggX8_judge_X8_isTape
set_option maxRecDepth 20000 in
theorem ggX8_judge_X6_has : GoodIn wsX8_judge wsX6_has := goodIn_r _ [70, 71, 85, 86, 87] (by decide +kernel) (by decide +kernel)
set_option maxRecDepth 20000 in
theorem gX8_judge_X6_has : GoodIn wsX8_judge (wsV RX8 237 RX6 yX6_has wsX6_has) := goodIn_app (goodIn_of _ (by decide +kernel)) ggX8_judge_X6_has
set_option maxRecDepth 20000 in
theorem ggX8_judge_X8_rung : GoodIn wsX8_judge wsX8_rung := goodIn_r _ [16, 17, 18, 3, 19, 20, 21, 22, 23, 24, 25, 26, 27, 28, 29, 30, 31, 32, 33, 34, 35, 36, 37, 38, 39, 40, 41, 42, 43, 44, 45, 46, 47, 48, 49, 50, 51, 52, 53, 54, 55, 56, 57, 58, 59, 60, 61, 62, 75, 76, 77, 78, 79, 80, 81, 82, 83, 84, 88, 89, 90, 91, 92, 93, 94, 95, 96, 97, 98, 99, 100, 101, 102, 103, 104, 105, 106] (by decide +kernel) (by decide +kernel)
set_option maxRecDepth 20000 in
theorem gX8_judge_X8_rung : GoodIn wsX8_judge (wsV RX8 130 RX8 yX8_rung wsX8_rung) := goodIn_app (goodIn_of _ (by decide +kernel)) ggX8_judge_X8_rung
set_option maxRecDepth 20000 in
theorem ggX8_judge_X2_bellIn : GoodIn wsX8_judge wsX2_bellIn := goodIn_r _ [74] (by decide +kernel) (by decide +kernel)
set_option maxRecDepth 20000 in
theorem gX8_judge_X2_bellIn : GoodIn wsX8_judge (va_wsS RX8 159 yX2_bellIn wsX2_bellIn) := goodIn_app (goodIn_of _ (by decide +kernel)) ggX8_judge_X2_bellIn
theorem dX8_judge_0 : decode cX8_judge 0 = .ok (.aload_n 0, 1) := by decide +kernel
theorem dX8_judge_1 : decode cX8_judge 1 = .ok (.iload_n 1, 1) := by decide +kernel
theorem dX8_judge_2 : decode cX8_judge 2 = .ok (.invokevirtual 150, 3) := by decide +kernel
theorem dX8_judge_5 : decode cX8_judge 5 = .ok (.ifCond .eq 10, 3) := by decide +kernel
theorem dX8_judge_8 : decode cX8_judge 8 = .ok (.iload_n 2, 1) := by decide +kernel
theorem dX8_judge_9 : decode cX8_judge 9 = .ok (.invokestatic 231, 3) := by decide +kernel
theorem dX8_judge_12 : decode cX8_judge 12 = .ok (.ifCond .ne 5, 3) := by decide +kernel
theorem dX8_judge_15 : decode cX8_judge 15 = .ok (.iconst (-1), 1) := by decide +kernel
theorem dX8_judge_16 : decode cX8_judge 16 = .ok (.ireturn, 1) := by decide +kernel
theorem dX8_judge_17 : decode cX8_judge 17 = .ok (.aload_n 0, 1) := by decide +kernel
theorem dX8_judge_18 : decode cX8_judge 18 = .ok (.getfield 50, 3) := by decide +kernel
theorem dX8_judge_21 : decode cX8_judge 21 = .ok (.iload_n 2, 1) := by decide +kernel
theorem dX8_judge_22 : decode cX8_judge 22 = .ok (.aaload, 1) := by decide +kernel
theorem dX8_judge_23 : decode cX8_judge 23 = .ok (.astore 4, 2) := by decide +kernel
theorem dX8_judge_25 : decode cX8_judge 25 = .ok (.aload 4, 2) := by decide +kernel
theorem dX8_judge_27 : decode cX8_judge 27 = .ok (.getfield 234, 3) := by decide +kernel
theorem dX8_judge_30 : decode cX8_judge 30 = .ok (.iconst (-1), 1) := by decide +kernel
theorem dX8_judge_31 : decode cX8_judge 31 = .ok (.if_icmp .eq 14, 3) := by decide +kernel
theorem dX8_judge_34 : decode cX8_judge 34 = .ok (.aload 4, 2) := by decide +kernel
theorem dX8_judge_36 : decode cX8_judge 36 = .ok (.getfield 234, 3) := by decide +kernel
theorem dX8_judge_39 : decode cX8_judge 39 = .ok (.ifCond .eq 6, 3) := by decide +kernel
theorem dX8_judge_42 : decode cX8_judge 42 = .ok (.bipush (-12), 2) := by decide +kernel
theorem dX8_judge_44 : decode cX8_judge 44 = .ok (.ireturn, 1) := by decide +kernel
theorem dX8_judge_45 : decode cX8_judge 45 = .ok (.iload_n 3, 1) := by decide +kernel
theorem dX8_judge_46 : decode cX8_judge 46 = .ok (.ifCond .ge 6, 3) := by decide +kernel
theorem dX8_judge_49 : decode cX8_judge 49 = .ok (.bipush 100, 2) := by decide +kernel
theorem dX8_judge_51 : decode cX8_judge 51 = .ok (.ireturn, 1) := by decide +kernel
theorem dX8_judge_52 : decode cX8_judge 52 = .ok (.iconst 1, 1) := by decide +kernel
theorem dX8_judge_53 : decode cX8_judge 53 = .ok (.istore 5, 2) := by decide +kernel
theorem dX8_judge_55 : decode cX8_judge 55 = .ok (.iload 5, 2) := by decide +kernel
theorem dX8_judge_57 : decode cX8_judge 57 = .ok (.aload_n 0, 1) := by decide +kernel
theorem dX8_judge_58 : decode cX8_judge 58 = .ok (.getfield 14, 3) := by decide +kernel
theorem dX8_judge_61 : decode cX8_judge 61 = .ok (.getfield 62, 3) := by decide +kernel
theorem dX8_judge_64 : decode cX8_judge 64 = .ok (.if_icmp .gt 62, 3) := by decide +kernel
theorem dX8_judge_67 : decode cX8_judge 67 = .ok (.aload 4, 2) := by decide +kernel
theorem dX8_judge_69 : decode cX8_judge 69 = .ok (.iload_n 3, 1) := by decide +kernel
theorem dX8_judge_70 : decode cX8_judge 70 = .ok (.iload 5, 2) := by decide +kernel
theorem dX8_judge_72 : decode cX8_judge 72 = .ok (.invokevirtual 237, 3) := by decide +kernel
theorem dX8_judge_75 : decode cX8_judge 75 = .ok (.ifCond .ne 11, 3) := by decide +kernel
theorem dX8_judge_78 : decode cX8_judge 78 = .ok (.bipush 100, 2) := by decide +kernel
theorem dX8_judge_80 : decode cX8_judge 80 = .ok (.iload 5, 2) := by decide +kernel
theorem dX8_judge_82 : decode cX8_judge 82 = .ok (.iadd, 1) := by decide +kernel
theorem dX8_judge_83 : decode cX8_judge 83 = .ok (.iconst 1, 1) := by decide +kernel
theorem dX8_judge_84 : decode cX8_judge 84 = .ok (.isub, 1) := by decide +kernel
theorem dX8_judge_85 : decode cX8_judge 85 = .ok (.ireturn, 1) := by decide +kernel
theorem dX8_judge_86 : decode cX8_judge 86 = .ok (.aload 4, 2) := by decide +kernel
theorem dX8_judge_88 : decode cX8_judge 88 = .ok (.getfield 240, 3) := by decide +kernel
theorem dX8_judge_91 : decode cX8_judge 91 = .ok (.iload_n 3, 1) := by decide +kernel
theorem dX8_judge_92 : decode cX8_judge 92 = .ok (.iload 5, 2) := by decide +kernel
theorem dX8_judge_94 : decode cX8_judge 94 = .ok (.iadd, 1) := by decide +kernel
theorem dX8_judge_95 : decode cX8_judge 95 = .ok (.iconst 1, 1) := by decide +kernel
theorem dX8_judge_96 : decode cX8_judge 96 = .ok (.isub, 1) := by decide +kernel
theorem dX8_judge_97 : decode cX8_judge 97 = .ok (.laload, 1) := by decide +kernel
theorem dX8_judge_98 : decode cX8_judge 98 = .ok (.aload_n 0, 1) := by decide +kernel
theorem dX8_judge_99 : decode cX8_judge 99 = .ok (.invokevirtual 130, 3) := by decide +kernel
theorem dX8_judge_102 : decode cX8_judge 102 = .ok (.getfield 156, 3) := by decide +kernel
theorem dX8_judge_105 : decode cX8_judge 105 = .ok (.iload_n 1, 1) := by decide +kernel
theorem dX8_judge_106 : decode cX8_judge 106 = .ok (.iaload, 1) := by decide +kernel
theorem dX8_judge_107 : decode cX8_judge 107 = .ok (.iload 5, 2) := by decide +kernel
theorem dX8_judge_109 : decode cX8_judge 109 = .ok (.invokestatic 159, 3) := by decide +kernel
theorem dX8_judge_112 : decode cX8_judge 112 = .ok (.i2l, 1) := by decide +kernel
theorem dX8_judge_113 : decode cX8_judge 113 = .ok (.lcmp, 1) := by decide +kernel
theorem dX8_judge_114 : decode cX8_judge 114 = .ok (.ifCond .eq 6, 3) := by decide +kernel
theorem dX8_judge_117 : decode cX8_judge 117 = .ok (.iload 5, 2) := by decide +kernel
theorem dX8_judge_119 : decode cX8_judge 119 = .ok (.ireturn, 1) := by decide +kernel
theorem dX8_judge_120 : decode cX8_judge 120 = .ok (.iinc 5 1, 3) := by decide +kernel
theorem dX8_judge_123 : decode cX8_judge 123 = .ok (.goto (-68), 3) := by decide +kernel
theorem dX8_judge_126 : decode cX8_judge 126 = .ok (.bipush (-5), 2) := by decide +kernel
theorem dX8_judge_128 : decode cX8_judge 128 = .ok (.ireturn, 1) := by decide +kernel
set_option maxRecDepth 20000 in
theorem ggX8_image_X4_copyFrom : GoodIn wsX8_image wsX4_copyFrom := goodIn_r _ [9, 10, 11, 12, 13, 14, 15, 16, 17, 18, 19, 20, 21, 22, 23, 24, 25, 26, 27, 28, 29, 30, 31, 32, 33, 34, 35, 36, 37, 48, 49, 50, 51, 52, 53, 54, 55, 56, 57, 58, 59, 60, 61, 62] (by decide +kernel) (by decide +kernel)
set_option maxRecDepth 20000 in
theorem gX8_image_X4_copyFrom : GoodIn wsX8_image (wsV RX8 197 RX4 yX4_copyFrom wsX4_copyFrom) := goodIn_app (goodIn_of _ (by decide +kernel)) ggX8_image_X4_copyFrom
theorem dX8_image_0 : decode cX8_image 0 = .ok (.aload_n 0, 1) := by decide +kernel
theorem dX8_image_1 : decode cX8_image 1 = .ok (.getfield 18, 3) := by decide +kernel
theorem dX8_image_4 : decode cX8_image 4 = .ok (.aload_n 0, 1) := by decide +kernel
theorem dX8_image_5 : decode cX8_image 5 = .ok (.getfield 14, 3) := by decide +kernel
theorem dX8_image_8 : decode cX8_image 8 = .ok (.invokevirtual 197, 3) := by decide +kernel
theorem dX8_image_11 : decode cX8_image 11 = .ok (.aload_n 0, 1) := by decide +kernel
theorem dX8_image_12 : decode cX8_image 12 = .ok (.iconst 1, 1) := by decide +kernel
theorem dX8_image_13 : decode cX8_image 13 = .ok (.putfield 54, 3) := by decide +kernel
theorem dX8_image_16 : decode cX8_image 16 = .ok (.aload_n 0, 1) := by decide +kernel
theorem dX8_image_17 : decode cX8_image 17 = .ok (.getfield 14, 3) := by decide +kernel
theorem dX8_image_20 : decode cX8_image 20 = .ok (.getfield 80, 3) := by decide +kernel
theorem dX8_image_23 : decode cX8_image 23 = .ok (.ireturn, 1) := by decide +kernel
set_option maxRecDepth 20000 in
theorem ggX8_undo_X4_copyFrom : GoodIn wsX8_undo wsX4_copyFrom := goodIn_r _ [10, 11, 12, 13, 14, 15, 16, 17, 18, 19, 20, 21, 22, 23, 24, 25, 26, 27, 28, 29, 30, 31, 32, 33, 34, 35, 36, 37, 38, 49, 50, 51, 52, 53, 54, 55, 56, 57, 58, 59, 60, 61, 62, 63] (by decide +kernel) (by decide +kernel)
set_option maxRecDepth 20000 in
theorem gX8_undo_X4_copyFrom : GoodIn wsX8_undo (wsV RX8 197 RX4 yX4_copyFrom wsX4_copyFrom) := goodIn_app (goodIn_of _ (by decide +kernel)) ggX8_undo_X4_copyFrom
theorem dX8_undo_0 : decode cX8_undo 0 = .ok (.aload_n 0, 1) := by decide +kernel
theorem dX8_undo_1 : decode cX8_undo 1 = .ok (.getfield 54, 3) := by decide +kernel
theorem dX8_undo_4 : decode cX8_undo 4 = .ok (.ifCond .ne 6, 3) := by decide +kernel
theorem dX8_undo_7 : decode cX8_undo 7 = .ok (.bipush (-3), 2) := by decide +kernel
theorem dX8_undo_9 : decode cX8_undo 9 = .ok (.ireturn, 1) := by decide +kernel
theorem dX8_undo_10 : decode cX8_undo 10 = .ok (.aload_n 0, 1) := by decide +kernel
theorem dX8_undo_11 : decode cX8_undo 11 = .ok (.getfield 14, 3) := by decide +kernel
theorem dX8_undo_14 : decode cX8_undo 14 = .ok (.aload_n 0, 1) := by decide +kernel
theorem dX8_undo_15 : decode cX8_undo 15 = .ok (.getfield 18, 3) := by decide +kernel
theorem dX8_undo_18 : decode cX8_undo 18 = .ok (.invokevirtual 197, 3) := by decide +kernel
theorem dX8_undo_21 : decode cX8_undo 21 = .ok (.aload_n 0, 1) := by decide +kernel
theorem dX8_undo_22 : decode cX8_undo 22 = .ok (.iconst 1, 1) := by decide +kernel
theorem dX8_undo_23 : decode cX8_undo 23 = .ok (.putfield 58, 3) := by decide +kernel
theorem dX8_undo_26 : decode cX8_undo 26 = .ok (.aload_n 0, 1) := by decide +kernel
theorem dX8_undo_27 : decode cX8_undo 27 = .ok (.getfield 14, 3) := by decide +kernel
theorem dX8_undo_30 : decode cX8_undo 30 = .ok (.getfield 80, 3) := by decide +kernel
theorem dX8_undo_33 : decode cX8_undo 33 = .ok (.ireturn, 1) := by decide +kernel
theorem dX8_count_0 : decode cX8_count 0 = .ok (.iload_n 1, 1) := by decide +kernel
theorem dX8_count_1 : decode cX8_count 1 = .ok (.tableswitch 72 0 3 #[31, 42, 53, 64], 31) := by decide +kernel
theorem dX8_count_32 : decode cX8_count 32 = .ok (.aload_n 0, 1) := by decide +kernel
theorem dX8_count_33 : decode cX8_count 33 = .ok (.getfield 14, 3) := by decide +kernel
theorem dX8_count_36 : decode cX8_count 36 = .ok (.getfield 186, 3) := by decide +kernel
theorem dX8_count_39 : decode cX8_count 39 = .ok (.getfield 190, 3) := by decide +kernel
theorem dX8_count_42 : decode cX8_count 42 = .ok (.ireturn, 1) := by decide +kernel
theorem dX8_count_43 : decode cX8_count 43 = .ok (.aload_n 0, 1) := by decide +kernel
theorem dX8_count_44 : decode cX8_count 44 = .ok (.getfield 14, 3) := by decide +kernel
theorem dX8_count_47 : decode cX8_count 47 = .ok (.getfield 213, 3) := by decide +kernel
theorem dX8_count_50 : decode cX8_count 50 = .ok (.getfield 190, 3) := by decide +kernel
theorem dX8_count_53 : decode cX8_count 53 = .ok (.ireturn, 1) := by decide +kernel
theorem dX8_count_54 : decode cX8_count 54 = .ok (.aload_n 0, 1) := by decide +kernel
theorem dX8_count_55 : decode cX8_count 55 = .ok (.getfield 14, 3) := by decide +kernel
theorem dX8_count_58 : decode cX8_count 58 = .ok (.getfield 222, 3) := by decide +kernel
theorem dX8_count_61 : decode cX8_count 61 = .ok (.getfield 190, 3) := by decide +kernel
theorem dX8_count_64 : decode cX8_count 64 = .ok (.ireturn, 1) := by decide +kernel
theorem dX8_count_65 : decode cX8_count 65 = .ok (.aload_n 0, 1) := by decide +kernel
theorem dX8_count_66 : decode cX8_count 66 = .ok (.getfield 44, 3) := by decide +kernel
theorem dX8_count_69 : decode cX8_count 69 = .ok (.getfield 110, 3) := by decide +kernel
theorem dX8_count_72 : decode cX8_count 72 = .ok (.ireturn, 1) := by decide +kernel
theorem dX8_count_73 : decode cX8_count 73 = .ok (.bipush (-2), 2) := by decide +kernel
theorem dX8_count_75 : decode cX8_count 75 = .ok (.ireturn, 1) := by decide +kernel
set_option maxRecDepth 20000 in
theorem ggX8_tape_X8_isTape : GoodIn wsX8_tape wsX8_isTape := goodIn_r _ [5] (by decide +kernel) (by decide +kernel)
set_option maxRecDepth 20000 in
theorem gX8_tape_X8_isTape : GoodIn wsX8_tape (va_wsS RX8 231 yX8_isTape wsX8_isTape) := goodIn_app (goodIn_of _ (by decide +kernel)) ggX8_tape_X8_isTape
set_option maxRecDepth 20000 in
theorem ggX8_tape_X6_begin : GoodIn wsX8_tape wsX6_begin := goodIn_r _ [10, 11, 12, 13, 24, 25, 26] (by decide +kernel) (by decide +kernel)
set_option maxRecDepth 20000 in
theorem gX8_tape_X6_begin : GoodIn wsX8_tape (wsV RX8 244 RX6 yX6_begin wsX6_begin) := goodIn_app (goodIn_of _ (by decide +kernel)) ggX8_tape_X6_begin
theorem dX8_tape_0 : decode cX8_tape 0 = .ok (.iload_n 1, 1) := by decide +kernel
theorem dX8_tape_1 : decode cX8_tape 1 = .ok (.invokestatic 231, 3) := by decide +kernel
theorem dX8_tape_4 : decode cX8_tape 4 = .ok (.ifCond .ne 5, 3) := by decide +kernel
theorem dX8_tape_7 : decode cX8_tape 7 = .ok (.iconst (-1), 1) := by decide +kernel
theorem dX8_tape_8 : decode cX8_tape 8 = .ok (.ireturn, 1) := by decide +kernel
theorem dX8_tape_9 : decode cX8_tape 9 = .ok (.iload_n 2, 1) := by decide +kernel
theorem dX8_tape_10 : decode cX8_tape 10 = .ok (.iconst (-1), 1) := by decide +kernel
theorem dX8_tape_11 : decode cX8_tape 11 = .ok (.if_icmp .lt 8, 3) := by decide +kernel
theorem dX8_tape_14 : decode cX8_tape 14 = .ok (.iload_n 2, 1) := by decide +kernel
theorem dX8_tape_15 : decode cX8_tape 15 = .ok (.iconst 4, 1) := by decide +kernel
theorem dX8_tape_16 : decode cX8_tape 16 = .ok (.if_icmp .le 6, 3) := by decide +kernel
theorem dX8_tape_19 : decode cX8_tape 19 = .ok (.bipush (-2), 2) := by decide +kernel
theorem dX8_tape_21 : decode cX8_tape 21 = .ok (.ireturn, 1) := by decide +kernel
theorem dX8_tape_22 : decode cX8_tape 22 = .ok (.iload_n 2, 1) := by decide +kernel
theorem dX8_tape_23 : decode cX8_tape 23 = .ok (.iconst (-1), 1) := by decide +kernel
theorem dX8_tape_24 : decode cX8_tape 24 = .ok (.if_icmp .ne 16, 3) := by decide +kernel
theorem dX8_tape_27 : decode cX8_tape 27 = .ok (.aload_n 0, 1) := by decide +kernel
theorem dX8_tape_28 : decode cX8_tape 28 = .ok (.getfield 50, 3) := by decide +kernel
theorem dX8_tape_31 : decode cX8_tape 31 = .ok (.iload_n 1, 1) := by decide +kernel
theorem dX8_tape_32 : decode cX8_tape 32 = .ok (.aaload, 1) := by decide +kernel
theorem dX8_tape_33 : decode cX8_tape 33 = .ok (.iconst (-1), 1) := by decide +kernel
theorem dX8_tape_34 : decode cX8_tape 34 = .ok (.iconst 0, 1) := by decide +kernel
theorem dX8_tape_35 : decode cX8_tape 35 = .ok (.invokevirtual 244, 3) := by decide +kernel
theorem dX8_tape_38 : decode cX8_tape 38 = .ok (.iconst 1, 1) := by decide +kernel
theorem dX8_tape_39 : decode cX8_tape 39 = .ok (.ireturn, 1) := by decide +kernel
theorem dX8_tape_40 : decode cX8_tape 40 = .ok (.iload_n 3, 1) := by decide +kernel
theorem dX8_tape_41 : decode cX8_tape 41 = .ok (.bipush 60, 2) := by decide +kernel
theorem dX8_tape_43 : decode cX8_tape 43 = .ok (.if_icmp .le 6, 3) := by decide +kernel
theorem dX8_tape_46 : decode cX8_tape 46 = .ok (.bipush (-2), 2) := by decide +kernel
theorem dX8_tape_48 : decode cX8_tape 48 = .ok (.ireturn, 1) := by decide +kernel
theorem dX8_tape_49 : decode cX8_tape 49 = .ok (.iload_n 3, 1) := by decide +kernel
theorem dX8_tape_50 : decode cX8_tape 50 = .ok (.ifCond .ge 6, 3) := by decide +kernel
theorem dX8_tape_53 : decode cX8_tape 53 = .ok (.bipush (-14), 2) := by decide +kernel
theorem dX8_tape_55 : decode cX8_tape 55 = .ok (.ireturn, 1) := by decide +kernel
theorem dX8_tape_56 : decode cX8_tape 56 = .ok (.aload_n 0, 1) := by decide +kernel
theorem dX8_tape_57 : decode cX8_tape 57 = .ok (.getfield 50, 3) := by decide +kernel
theorem dX8_tape_60 : decode cX8_tape 60 = .ok (.iload_n 1, 1) := by decide +kernel
theorem dX8_tape_61 : decode cX8_tape 61 = .ok (.aaload, 1) := by decide +kernel
theorem dX8_tape_62 : decode cX8_tape 62 = .ok (.iload_n 2, 1) := by decide +kernel
theorem dX8_tape_63 : decode cX8_tape 63 = .ok (.iload_n 3, 1) := by decide +kernel
theorem dX8_tape_64 : decode cX8_tape 64 = .ok (.invokevirtual 244, 3) := by decide +kernel
theorem dX8_tape_67 : decode cX8_tape 67 = .ok (.iconst 1, 1) := by decide +kernel
theorem dX8_tape_68 : decode cX8_tape 68 = .ok (.ireturn, 1) := by decide +kernel
set_option maxRecDepth 20000 in
theorem ggX8_item_X8_isTape : GoodIn wsX8_item wsX8_isTape := goodIn_r _ [7] (by decide +kernel) (by decide +kernel)
set_option maxRecDepth 20000 in
theorem gX8_item_X8_isTape : GoodIn wsX8_item (va_wsS RX8 231 yX8_isTape wsX8_isTape) := goodIn_app (goodIn_of _ (by decide +kernel)) ggX8_item_X8_isTape
set_option maxRecDepth 20000 in
theorem ggX8_item_X6_has : GoodIn wsX8_item wsX6_has := goodIn_r _ [12, 13, 27, 28, 29] (by decide +kernel) (by decide +kernel)
set_option maxRecDepth 20000 in
theorem gX8_item_X6_has : GoodIn wsX8_item (wsV RX8 237 RX6 yX6_has wsX6_has) := goodIn_app (goodIn_of _ (by decide +kernel)) ggX8_item_X6_has
set_option maxRecDepth 20000 in
theorem ggX8_item_X6_narrowed : GoodIn wsX8_item wsX6_narrowed := goodIn_r _ [16] (by decide +kernel) (by decide +kernel)
set_option maxRecDepth 20000 in
theorem gX8_item_X6_narrowed : GoodIn wsX8_item (va_wsS RX8 246 yX6_narrowed wsX6_narrowed) := goodIn_app (goodIn_of _ (by decide +kernel)) ggX8_item_X6_narrowed
theorem dX8_item_0 : decode cX8_item 0 = .ok (.iload_n 1, 1) := by decide +kernel
theorem dX8_item_1 : decode cX8_item 1 = .ok (.invokestatic 231, 3) := by decide +kernel
theorem dX8_item_4 : decode cX8_item 4 = .ok (.ifCond .ne 5, 3) := by decide +kernel
theorem dX8_item_7 : decode cX8_item 7 = .ok (.iconst (-1), 1) := by decide +kernel
theorem dX8_item_8 : decode cX8_item 8 = .ok (.ireturn, 1) := by decide +kernel
theorem dX8_item_9 : decode cX8_item 9 = .ok (.aload_n 0, 1) := by decide +kernel
theorem dX8_item_10 : decode cX8_item 10 = .ok (.getfield 50, 3) := by decide +kernel
theorem dX8_item_13 : decode cX8_item 13 = .ok (.iload_n 1, 1) := by decide +kernel
theorem dX8_item_14 : decode cX8_item 14 = .ok (.aaload, 1) := by decide +kernel
theorem dX8_item_15 : decode cX8_item 15 = .ok (.astore 5, 2) := by decide +kernel
theorem dX8_item_17 : decode cX8_item 17 = .ok (.aload 5, 2) := by decide +kernel
theorem dX8_item_19 : decode cX8_item 19 = .ok (.getfield 234, 3) := by decide +kernel
theorem dX8_item_22 : decode cX8_item 22 = .ok (.iconst (-1), 1) := by decide +kernel
theorem dX8_item_23 : decode cX8_item 23 = .ok (.if_icmp .ne 6, 3) := by decide +kernel
theorem dX8_item_26 : decode cX8_item 26 = .ok (.bipush (-11), 2) := by decide +kernel
theorem dX8_item_28 : decode cX8_item 28 = .ok (.ireturn, 1) := by decide +kernel
theorem dX8_item_29 : decode cX8_item 29 = .ok (.aload 5, 2) := by decide +kernel
theorem dX8_item_31 : decode cX8_item 31 = .ok (.iload_n 2, 1) := by decide +kernel
theorem dX8_item_32 : decode cX8_item 32 = .ok (.iconst 1, 1) := by decide +kernel
theorem dX8_item_33 : decode cX8_item 33 = .ok (.invokevirtual 237, 3) := by decide +kernel
theorem dX8_item_36 : decode cX8_item 36 = .ok (.ifCond .ne 6, 3) := by decide +kernel
theorem dX8_item_39 : decode cX8_item 39 = .ok (.bipush (-13), 2) := by decide +kernel
theorem dX8_item_41 : decode cX8_item 41 = .ok (.ireturn, 1) := by decide +kernel
theorem dX8_item_42 : decode cX8_item 42 = .ok (.aload 5, 2) := by decide +kernel
theorem dX8_item_44 : decode cX8_item 44 = .ok (.getfield 240, 3) := by decide +kernel
theorem dX8_item_47 : decode cX8_item 47 = .ok (.iload_n 2, 1) := by decide +kernel
theorem dX8_item_48 : decode cX8_item 48 = .ok (.aload 5, 2) := by decide +kernel
theorem dX8_item_50 : decode cX8_item 50 = .ok (.getfield 234, 3) := by decide +kernel
theorem dX8_item_53 : decode cX8_item 53 = .ok (.lload_n 3, 1) := by decide +kernel
theorem dX8_item_54 : decode cX8_item 54 = .ok (.invokestatic 246, 3) := by decide +kernel
theorem dX8_item_57 : decode cX8_item 57 = .ok (.lastore, 1) := by decide +kernel
theorem dX8_item_58 : decode cX8_item 58 = .ok (.iconst 1, 1) := by decide +kernel
theorem dX8_item_59 : decode cX8_item 59 = .ok (.ireturn, 1) := by decide +kernel
set_option maxRecDepth 20000 in
theorem ggX8_peek_X8_isTape : GoodIn wsX8_peek wsX8_isTape := goodIn_r _ [7] (by decide +kernel) (by decide +kernel)
set_option maxRecDepth 20000 in
theorem gX8_peek_X8_isTape : GoodIn wsX8_peek (va_wsS RX8 231 yX8_isTape wsX8_isTape) := goodIn_app (goodIn_of _ (by decide +kernel)) ggX8_peek_X8_isTape
set_option maxRecDepth 20000 in
theorem ggX8_peek_X6_has : GoodIn wsX8_peek wsX6_has := goodIn_r _ [12, 13, 24, 25, 26] (by decide +kernel) (by decide +kernel)
set_option maxRecDepth 20000 in
theorem gX8_peek_X6_has : GoodIn wsX8_peek (wsV RX8 237 RX6 yX6_has wsX6_has) := goodIn_app (goodIn_of _ (by decide +kernel)) ggX8_peek_X6_has
theorem dX8_peek_0 : decode cX8_peek 0 = .ok (.iload_n 1, 1) := by decide +kernel
theorem dX8_peek_1 : decode cX8_peek 1 = .ok (.invokestatic 231, 3) := by decide +kernel
theorem dX8_peek_4 : decode cX8_peek 4 = .ok (.ifCond .eq 17, 3) := by decide +kernel
theorem dX8_peek_7 : decode cX8_peek 7 = .ok (.aload_n 0, 1) := by decide +kernel
theorem dX8_peek_8 : decode cX8_peek 8 = .ok (.getfield 50, 3) := by decide +kernel
theorem dX8_peek_11 : decode cX8_peek 11 = .ok (.iload_n 1, 1) := by decide +kernel
theorem dX8_peek_12 : decode cX8_peek 12 = .ok (.aaload, 1) := by decide +kernel
theorem dX8_peek_13 : decode cX8_peek 13 = .ok (.iload_n 2, 1) := by decide +kernel
theorem dX8_peek_14 : decode cX8_peek 14 = .ok (.iconst 1, 1) := by decide +kernel
theorem dX8_peek_15 : decode cX8_peek 15 = .ok (.invokevirtual 237, 3) := by decide +kernel
theorem dX8_peek_18 : decode cX8_peek 18 = .ok (.ifCond .ne 7, 3) := by decide +kernel
theorem dX8_peek_21 : decode cX8_peek 21 = .ok (.ldc2_w 207, 3) := by decide +kernel
theorem dX8_peek_24 : decode cX8_peek 24 = .ok (.lreturn, 1) := by decide +kernel
theorem dX8_peek_25 : decode cX8_peek 25 = .ok (.aload_n 0, 1) := by decide +kernel
theorem dX8_peek_26 : decode cX8_peek 26 = .ok (.getfield 50, 3) := by decide +kernel
theorem dX8_peek_29 : decode cX8_peek 29 = .ok (.iload_n 1, 1) := by decide +kernel
theorem dX8_peek_30 : decode cX8_peek 30 = .ok (.aaload, 1) := by decide +kernel
theorem dX8_peek_31 : decode cX8_peek 31 = .ok (.getfield 240, 3) := by decide +kernel
theorem dX8_peek_34 : decode cX8_peek 34 = .ok (.iload_n 2, 1) := by decide +kernel
theorem dX8_peek_35 : decode cX8_peek 35 = .ok (.laload, 1) := by decide +kernel
theorem dX8_peek_36 : decode cX8_peek 36 = .ok (.lreturn, 1) := by decide +kernel
set_option maxRecDepth 20000 in
theorem ggX8_shift_X8_isTape : GoodIn wsX8_shift wsX8_isTape := goodIn_r _ [11] (by decide +kernel) (by decide +kernel)
set_option maxRecDepth 20000 in
theorem gX8_shift_X8_isTape : GoodIn wsX8_shift (va_wsS RX8 231 yX8_isTape wsX8_isTape) := goodIn_app (goodIn_of _ (by decide +kernel)) ggX8_shift_X8_isTape
set_option maxRecDepth 20000 in
theorem ggX8_shift_X6_has : GoodIn wsX8_shift wsX6_has := goodIn_r _ [16, 17, 28, 29, 30] (by decide +kernel) (by decide +kernel)
set_option maxRecDepth 20000 in
theorem gX8_shift_X6_has : GoodIn wsX8_shift (wsV RX8 237 RX6 yX6_has wsX6_has) := goodIn_app (goodIn_of _ (by decide +kernel)) ggX8_shift_X6_has
theorem dX8_shift_0 : decode cX8_shift 0 = .ok (.iload_n 1, 1) := by decide +kernel
theorem dX8_shift_1 : decode cX8_shift 1 = .ok (.invokestatic 231, 3) := by decide +kernel
theorem dX8_shift_4 : decode cX8_shift 4 = .ok (.ifCond .eq 10, 3) := by decide +kernel
theorem dX8_shift_7 : decode cX8_shift 7 = .ok (.iload_n 3, 1) := by decide +kernel
theorem dX8_shift_8 : decode cX8_shift 8 = .ok (.invokestatic 231, 3) := by decide +kernel
theorem dX8_shift_11 : decode cX8_shift 11 = .ok (.ifCond .ne 5, 3) := by decide +kernel
theorem dX8_shift_14 : decode cX8_shift 14 = .ok (.iconst (-1), 1) := by decide +kernel
theorem dX8_shift_15 : decode cX8_shift 15 = .ok (.ireturn, 1) := by decide +kernel
theorem dX8_shift_16 : decode cX8_shift 16 = .ok (.aload_n 0, 1) := by decide +kernel
theorem dX8_shift_17 : decode cX8_shift 17 = .ok (.getfield 50, 3) := by decide +kernel
theorem dX8_shift_20 : decode cX8_shift 20 = .ok (.iload_n 1, 1) := by decide +kernel
theorem dX8_shift_21 : decode cX8_shift 21 = .ok (.aaload, 1) := by decide +kernel
theorem dX8_shift_22 : decode cX8_shift 22 = .ok (.astore 6, 2) := by decide +kernel
theorem dX8_shift_24 : decode cX8_shift 24 = .ok (.aload_n 0, 1) := by decide +kernel
theorem dX8_shift_25 : decode cX8_shift 25 = .ok (.getfield 50, 3) := by decide +kernel
theorem dX8_shift_28 : decode cX8_shift 28 = .ok (.iload_n 3, 1) := by decide +kernel
theorem dX8_shift_29 : decode cX8_shift 29 = .ok (.aaload, 1) := by decide +kernel
theorem dX8_shift_30 : decode cX8_shift 30 = .ok (.astore 7, 2) := by decide +kernel
theorem dX8_shift_32 : decode cX8_shift 32 = .ok (.aload 6, 2) := by decide +kernel
theorem dX8_shift_34 : decode cX8_shift 34 = .ok (.getfield 234, 3) := by decide +kernel
theorem dX8_shift_37 : decode cX8_shift 37 = .ok (.iconst (-1), 1) := by decide +kernel
theorem dX8_shift_38 : decode cX8_shift 38 = .ok (.if_icmp .eq 12, 3) := by decide +kernel
theorem dX8_shift_41 : decode cX8_shift 41 = .ok (.aload 7, 2) := by decide +kernel
theorem dX8_shift_43 : decode cX8_shift 43 = .ok (.getfield 234, 3) := by decide +kernel
theorem dX8_shift_46 : decode cX8_shift 46 = .ok (.iconst (-1), 1) := by decide +kernel
theorem dX8_shift_47 : decode cX8_shift 47 = .ok (.if_icmp .ne 6, 3) := by decide +kernel
theorem dX8_shift_50 : decode cX8_shift 50 = .ok (.bipush (-11), 2) := by decide +kernel
theorem dX8_shift_52 : decode cX8_shift 52 = .ok (.ireturn, 1) := by decide +kernel
theorem dX8_shift_53 : decode cX8_shift 53 = .ok (.aload 6, 2) := by decide +kernel
theorem dX8_shift_55 : decode cX8_shift 55 = .ok (.getfield 234, 3) := by decide +kernel
theorem dX8_shift_58 : decode cX8_shift 58 = .ok (.aload 7, 2) := by decide +kernel
theorem dX8_shift_60 : decode cX8_shift 60 = .ok (.getfield 234, 3) := by decide +kernel
theorem dX8_shift_63 : decode cX8_shift 63 = .ok (.if_icmp .eq 6, 3) := by decide +kernel
theorem dX8_shift_66 : decode cX8_shift 66 = .ok (.bipush (-12), 2) := by decide +kernel
theorem dX8_shift_68 : decode cX8_shift 68 = .ok (.ireturn, 1) := by decide +kernel
theorem dX8_shift_69 : decode cX8_shift 69 = .ok (.aload 6, 2) := by decide +kernel
theorem dX8_shift_71 : decode cX8_shift 71 = .ok (.iload_n 2, 1) := by decide +kernel
theorem dX8_shift_72 : decode cX8_shift 72 = .ok (.iload 5, 2) := by decide +kernel
theorem dX8_shift_74 : decode cX8_shift 74 = .ok (.invokevirtual 237, 3) := by decide +kernel
theorem dX8_shift_77 : decode cX8_shift 77 = .ok (.ifCond .eq 15, 3) := by decide +kernel
theorem dX8_shift_80 : decode cX8_shift 80 = .ok (.aload 7, 2) := by decide +kernel
theorem dX8_shift_82 : decode cX8_shift 82 = .ok (.iload 4, 2) := by decide +kernel
theorem dX8_shift_84 : decode cX8_shift 84 = .ok (.iload 5, 2) := by decide +kernel
theorem dX8_shift_86 : decode cX8_shift 86 = .ok (.invokevirtual 237, 3) := by decide +kernel
theorem dX8_shift_89 : decode cX8_shift 89 = .ok (.ifCond .ne 6, 3) := by decide +kernel
theorem dX8_shift_92 : decode cX8_shift 92 = .ok (.bipush (-13), 2) := by decide +kernel
theorem dX8_shift_94 : decode cX8_shift 94 = .ok (.ireturn, 1) := by decide +kernel
theorem dX8_shift_95 : decode cX8_shift 95 = .ok (.aload 6, 2) := by decide +kernel
theorem dX8_shift_97 : decode cX8_shift 97 = .ok (.getfield 240, 3) := by decide +kernel
theorem dX8_shift_100 : decode cX8_shift 100 = .ok (.iload_n 2, 1) := by decide +kernel
theorem dX8_shift_101 : decode cX8_shift 101 = .ok (.aload 7, 2) := by decide +kernel
theorem dX8_shift_103 : decode cX8_shift 103 = .ok (.getfield 240, 3) := by decide +kernel
theorem dX8_shift_106 : decode cX8_shift 106 = .ok (.iload 4, 2) := by decide +kernel
theorem dX8_shift_108 : decode cX8_shift 108 = .ok (.iload 5, 2) := by decide +kernel
theorem dX8_shift_110 : decode cX8_shift 110 = .ok (.invokestatic 250, 3) := by decide +kernel
theorem dX8_shift_113 : decode cX8_shift 113 = .ok (.iload 5, 2) := by decide +kernel
theorem dX8_shift_115 : decode cX8_shift 115 = .ok (.ireturn, 1) := by decide +kernel
theorem dX8_isPlaces_0 : decode cX8_isPlaces 0 = .ok (.iload_n 1, 1) := by decide +kernel
theorem dX8_isPlaces_1 : decode cX8_isPlaces 1 = .ok (.ifCond .lt 20, 3) := by decide +kernel
theorem dX8_isPlaces_4 : decode cX8_isPlaces 4 = .ok (.iload_n 1, 1) := by decide +kernel
theorem dX8_isPlaces_5 : decode cX8_isPlaces 5 = .ok (.iconst 1, 1) := by decide +kernel
theorem dX8_isPlaces_6 : decode cX8_isPlaces 6 = .ok (.aload_n 0, 1) := by decide +kernel
theorem dX8_isPlaces_7 : decode cX8_isPlaces 7 = .ok (.getfield 14, 3) := by decide +kernel
theorem dX8_isPlaces_10 : decode cX8_isPlaces 10 = .ok (.getfield 62, 3) := by decide +kernel
theorem dX8_isPlaces_13 : decode cX8_isPlaces 13 = .ok (.ishl, 1) := by decide +kernel
theorem dX8_isPlaces_14 : decode cX8_isPlaces 14 = .ok (.if_icmp .ge 7, 3) := by decide +kernel
theorem dX8_isPlaces_17 : decode cX8_isPlaces 17 = .ok (.iconst 1, 1) := by decide +kernel
theorem dX8_isPlaces_18 : decode cX8_isPlaces 18 = .ok (.goto 4, 3) := by decide +kernel
theorem dX8_isPlaces_21 : decode cX8_isPlaces 21 = .ok (.iconst 0, 1) := by decide +kernel
theorem dX8_isPlaces_22 : decode cX8_isPlaces 22 = .ok (.ireturn, 1) := by decide +kernel
theorem dX8_isBell_0 : decode cX8_isBell 0 = .ok (.iload_n 1, 1) := by decide +kernel
theorem dX8_isBell_1 : decode cX8_isBell 1 = .ok (.iconst 1, 1) := by decide +kernel
theorem dX8_isBell_2 : decode cX8_isBell 2 = .ok (.if_icmp .lt 18, 3) := by decide +kernel
theorem dX8_isBell_5 : decode cX8_isBell 5 = .ok (.iload_n 1, 1) := by decide +kernel
theorem dX8_isBell_6 : decode cX8_isBell 6 = .ok (.aload_n 0, 1) := by decide +kernel
theorem dX8_isBell_7 : decode cX8_isBell 7 = .ok (.getfield 14, 3) := by decide +kernel
theorem dX8_isBell_10 : decode cX8_isBell 10 = .ok (.getfield 62, 3) := by decide +kernel
theorem dX8_isBell_13 : decode cX8_isBell 13 = .ok (.if_icmp .gt 7, 3) := by decide +kernel
theorem dX8_isBell_16 : decode cX8_isBell 16 = .ok (.iconst 1, 1) := by decide +kernel
theorem dX8_isBell_17 : decode cX8_isBell 17 = .ok (.goto 4, 3) := by decide +kernel
theorem dX8_isBell_20 : decode cX8_isBell 20 = .ok (.iconst 0, 1) := by decide +kernel
theorem dX8_isBell_21 : decode cX8_isBell 21 = .ok (.ireturn, 1) := by decide +kernel
set_option maxRecDepth 20000 in
theorem ggX8_isRow_X8_rung : GoodIn wsX8_isRow wsX8_rung := goodIn_r _ [6, 7, 8, 9, 10, 11, 12, 13, 14, 15, 16, 17, 18, 19, 20, 21, 22, 23, 24, 25, 26, 27, 28, 29, 30, 31, 32, 33, 34, 35, 36, 37, 38, 39, 40, 41, 42, 43, 44, 45, 46, 47, 48, 49, 50, 51, 52, 53, 62, 63, 64, 65, 66, 67, 68, 69, 70, 71, 72, 73, 74, 75, 76, 77, 78, 79, 80, 81, 82, 54, 55, 56, 57, 58, 59, 60, 61] (by decide +kernel) (by decide +kernel)
set_option maxRecDepth 20000 in
theorem gX8_isRow_X8_rung : GoodIn wsX8_isRow (wsV RX8 130 RX8 yX8_rung wsX8_rung) := goodIn_app (goodIn_of _ (by decide +kernel)) ggX8_isRow_X8_rung
theorem dX8_isRow_0 : decode cX8_isRow 0 = .ok (.iload_n 1, 1) := by decide +kernel
theorem dX8_isRow_1 : decode cX8_isRow 1 = .ok (.ifCond .lt 18, 3) := by decide +kernel
theorem dX8_isRow_4 : decode cX8_isRow 4 = .ok (.iload_n 1, 1) := by decide +kernel
theorem dX8_isRow_5 : decode cX8_isRow 5 = .ok (.aload_n 0, 1) := by decide +kernel
theorem dX8_isRow_6 : decode cX8_isRow 6 = .ok (.invokevirtual 130, 3) := by decide +kernel
theorem dX8_isRow_9 : decode cX8_isRow 9 = .ok (.getfield 134, 3) := by decide +kernel
theorem dX8_isRow_12 : decode cX8_isRow 12 = .ok (.if_icmp .gt 7, 3) := by decide +kernel
theorem dX8_isRow_15 : decode cX8_isRow 15 = .ok (.iconst 1, 1) := by decide +kernel
theorem dX8_isRow_16 : decode cX8_isRow 16 = .ok (.goto 4, 3) := by decide +kernel
theorem dX8_isRow_19 : decode cX8_isRow 19 = .ok (.iconst 0, 1) := by decide +kernel
theorem dX8_isRow_20 : decode cX8_isRow 20 = .ok (.ireturn, 1) := by decide +kernel
theorem dX8_isLead_0 : decode cX8_isLead 0 = .ok (.iload_n 0, 1) := by decide +kernel
theorem dX8_isLead_1 : decode cX8_isLead 1 = .ok (.ifCond .lt 13, 3) := by decide +kernel
theorem dX8_isLead_4 : decode cX8_isLead 4 = .ok (.iload_n 0, 1) := by decide +kernel
theorem dX8_isLead_5 : decode cX8_isLead 5 = .ok (.bipush 12, 2) := by decide +kernel
theorem dX8_isLead_7 : decode cX8_isLead 7 = .ok (.if_icmp .ge 7, 3) := by decide +kernel
theorem dX8_isLead_10 : decode cX8_isLead 10 = .ok (.iconst 1, 1) := by decide +kernel
theorem dX8_isLead_11 : decode cX8_isLead 11 = .ok (.goto 4, 3) := by decide +kernel
theorem dX8_isLead_14 : decode cX8_isLead 14 = .ok (.iconst 0, 1) := by decide +kernel
theorem dX8_isLead_15 : decode cX8_isLead 15 = .ok (.ireturn, 1) := by decide +kernel
theorem dX8_isTape_0 : decode cX8_isTape 0 = .ok (.iload_n 0, 1) := by decide +kernel
theorem dX8_isTape_1 : decode cX8_isTape 1 = .ok (.ifCond .lt 13, 3) := by decide +kernel
theorem dX8_isTape_4 : decode cX8_isTape 4 = .ok (.iload_n 0, 1) := by decide +kernel
theorem dX8_isTape_5 : decode cX8_isTape 5 = .ok (.bipush 6, 2) := by decide +kernel
theorem dX8_isTape_7 : decode cX8_isTape 7 = .ok (.if_icmp .ge 7, 3) := by decide +kernel
theorem dX8_isTape_10 : decode cX8_isTape 10 = .ok (.iconst 1, 1) := by decide +kernel
theorem dX8_isTape_11 : decode cX8_isTape 11 = .ok (.goto 4, 3) := by decide +kernel
theorem dX8_isTape_14 : decode cX8_isTape 14 = .ok (.iconst 0, 1) := by decide +kernel
theorem dX8_isTape_15 : decode cX8_isTape 15 = .ok (.ireturn, 1) := by decide +kernel
theorem dX8_isPart_0 : decode cX8_isPart 0 = .ok (.iload_n 0, 1) := by decide +kernel
theorem dX8_isPart_1 : decode cX8_isPart 1 = .ok (.ifCond .eq 8, 3) := by decide +kernel
theorem dX8_isPart_4 : decode cX8_isPart 4 = .ok (.iload_n 0, 1) := by decide +kernel
theorem dX8_isPart_5 : decode cX8_isPart 5 = .ok (.iconst 1, 1) := by decide +kernel
theorem dX8_isPart_6 : decode cX8_isPart 6 = .ok (.if_icmp .ne 7, 3) := by decide +kernel
theorem dX8_isPart_9 : decode cX8_isPart 9 = .ok (.iconst 1, 1) := by decide +kernel
theorem dX8_isPart_10 : decode cX8_isPart 10 = .ok (.goto 4, 3) := by decide +kernel
theorem dX8_isPart_13 : decode cX8_isPart 13 = .ok (.iconst 0, 1) := by decide +kernel
theorem dX8_isPart_14 : decode cX8_isPart 14 = .ok (.ireturn, 1) := by decide +kernel
theorem dX8_orNotFound_0 : decode cX8_orNotFound 0 = .ok (.iload_n 0, 1) := by decide +kernel
theorem dX8_orNotFound_1 : decode cX8_orNotFound 1 = .ok (.iconst (-1), 1) := by decide +kernel
theorem dX8_orNotFound_2 : decode cX8_orNotFound 2 = .ok (.if_icmp .ne 8, 3) := by decide +kernel
theorem dX8_orNotFound_5 : decode cX8_orNotFound 5 = .ok (.bipush (-5), 2) := by decide +kernel
theorem dX8_orNotFound_7 : decode cX8_orNotFound 7 = .ok (.goto 4, 3) := by decide +kernel
theorem dX8_orNotFound_10 : decode cX8_orNotFound 10 = .ok (.iload_n 0, 1) := by decide +kernel
theorem dX8_orNotFound_11 : decode cX8_orNotFound 11 = .ok (.ireturn, 1) := by decide +kernel
set_option maxRecDepth 20000 in
theorem ggX8_rung_X7_ring : GoodIn wsX8_rung wsX7_ring := goodIn_r _ [8, 9, 10, 11, 12, 13, 14, 7, 15, 16, 17, 18, 19, 20, 21, 22, 23, 24, 25, 26, 27, 28, 29, 30, 31, 32, 33, 34, 35, 36, 37, 38, 39, 40, 41, 42, 43, 44, 45, 46, 47, 58, 59, 60, 61, 62, 63, 64, 65, 66, 67, 68, 69, 70, 71, 72, 73, 74, 75, 76] (by decide +kernel) (by decide +kernel)
set_option maxRecDepth 20000 in
theorem gX8_rung_X7_ring : GoodIn wsX8_rung (wsV RX8 219 RX7 yX7_ring wsX7_ring) := goodIn_app (goodIn_of _ (by decide +kernel)) ggX8_rung_X7_ring
theorem dX8_rung_0 : decode cX8_rung 0 = .ok (.aload_n 0, 1) := by decide +kernel
theorem dX8_rung_1 : decode cX8_rung 1 = .ok (.getfield 58, 3) := by decide +kernel
theorem dX8_rung_4 : decode cX8_rung 4 = .ok (.ifCond .eq 19, 3) := by decide +kernel
theorem dX8_rung_7 : decode cX8_rung 7 = .ok (.aload_n 0, 1) := by decide +kernel
theorem dX8_rung_8 : decode cX8_rung 8 = .ok (.getfield 27, 3) := by decide +kernel
theorem dX8_rung_11 : decode cX8_rung 11 = .ok (.aload_n 0, 1) := by decide +kernel
theorem dX8_rung_12 : decode cX8_rung 12 = .ok (.getfield 14, 3) := by decide +kernel
theorem dX8_rung_15 : decode cX8_rung 15 = .ok (.invokevirtual 219, 3) := by decide +kernel
theorem dX8_rung_18 : decode cX8_rung 18 = .ok (.aload_n 0, 1) := by decide +kernel
theorem dX8_rung_19 : decode cX8_rung 19 = .ok (.iconst 0, 1) := by decide +kernel
theorem dX8_rung_20 : decode cX8_rung 20 = .ok (.putfield 58, 3) := by decide +kernel
theorem dX8_rung_23 : decode cX8_rung 23 = .ok (.aload_n 0, 1) := by decide +kernel
theorem dX8_rung_24 : decode cX8_rung 24 = .ok (.getfield 27, 3) := by decide +kernel
theorem dX8_rung_27 : decode cX8_rung 27 = .ok (.areturn, 1) := by decide +kernel
set_option maxRecDepth 20000 in
theorem ggX8_countMusic_X8_rung : GoodIn wsX8_countMusic wsX8_rung := goodIn_r _ [9, 10, 2, 4, 11, 12, 13, 14, 15, 16, 17, 18, 19, 20, 21, 22, 23, 24, 25, 26, 27, 28, 29, 30, 31, 32, 33, 34, 35, 36, 37, 38, 39, 40, 41, 42, 43, 44, 45, 46, 47, 48, 49, 50, 51, 52, 53, 54, 85, 86, 87, 88, 89, 90, 91, 92, 93, 94, 95, 96, 97, 98, 99, 100, 101, 102, 103, 104, 105, 77, 78, 79, 80, 81, 82, 83, 84] (by decide +kernel) (by decide +kernel)
set_option maxRecDepth 20000 in
theorem gX8_countMusic_X8_rung : GoodIn wsX8_countMusic (wsV RX8 130 RX8 yX8_rung wsX8_rung) := goodIn_app (goodIn_of _ (by decide +kernel)) ggX8_countMusic_X8_rung
set_option maxRecDepth 20000 in
theorem ggX8_countMusic_X4_isMusic : GoodIn wsX8_countMusic wsX4_isMusic := goodIn_r _ [58, 59, 60, 61, 46, 33, 47, 62, 63, 64, 41, 65, 66, 67, 68, 69, 70, 71, 72, 73, 74, 75, 76, 95, 96, 97, 98, 99, 100, 101, 102, 103, 104, 105] (by decide +kernel) (by decide +kernel)
set_option maxRecDepth 20000 in
theorem gX8_countMusic_X4_isMusic : GoodIn wsX8_countMusic (wsV RX8 256 RX4 yX4_isMusic wsX4_isMusic) := goodIn_app (goodIn_of _ (by decide +kernel)) ggX8_countMusic_X4_isMusic
theorem dX8_countMusic_0 : decode cX8_countMusic 0 = .ok (.aload_n 0, 1) := by decide +kernel
theorem dX8_countMusic_1 : decode cX8_countMusic 1 = .ok (.invokevirtual 130, 3) := by decide +kernel
theorem dX8_countMusic_4 : decode cX8_countMusic 4 = .ok (.getfield 156, 3) := by decide +kernel
theorem dX8_countMusic_7 : decode cX8_countMusic 7 = .ok (.astore_n 2, 1) := by decide +kernel
theorem dX8_countMusic_8 : decode cX8_countMusic 8 = .ok (.iconst 0, 1) := by decide +kernel
theorem dX8_countMusic_9 : decode cX8_countMusic 9 = .ok (.istore_n 3, 1) := by decide +kernel
theorem dX8_countMusic_10 : decode cX8_countMusic 10 = .ok (.iconst 1, 1) := by decide +kernel
theorem dX8_countMusic_11 : decode cX8_countMusic 11 = .ok (.istore 4, 2) := by decide +kernel
theorem dX8_countMusic_13 : decode cX8_countMusic 13 = .ok (.iload 4, 2) := by decide +kernel
theorem dX8_countMusic_15 : decode cX8_countMusic 15 = .ok (.aload_n 0, 1) := by decide +kernel
theorem dX8_countMusic_16 : decode cX8_countMusic 16 = .ok (.getfield 27, 3) := by decide +kernel
theorem dX8_countMusic_19 : decode cX8_countMusic 19 = .ok (.getfield 134, 3) := by decide +kernel
theorem dX8_countMusic_22 : decode cX8_countMusic 22 = .ok (.if_icmp .gt 27, 3) := by decide +kernel
theorem dX8_countMusic_25 : decode cX8_countMusic 25 = .ok (.aload_n 0, 1) := by decide +kernel
theorem dX8_countMusic_26 : decode cX8_countMusic 26 = .ok (.getfield 14, 3) := by decide +kernel
theorem dX8_countMusic_29 : decode cX8_countMusic 29 = .ok (.aload_n 2, 1) := by decide +kernel
theorem dX8_countMusic_30 : decode cX8_countMusic 30 = .ok (.iload 4, 2) := by decide +kernel
theorem dX8_countMusic_32 : decode cX8_countMusic 32 = .ok (.iaload, 1) := by decide +kernel
theorem dX8_countMusic_33 : decode cX8_countMusic 33 = .ok (.iload_n 1, 1) := by decide +kernel
theorem dX8_countMusic_34 : decode cX8_countMusic 34 = .ok (.invokevirtual 256, 3) := by decide +kernel
theorem dX8_countMusic_37 : decode cX8_countMusic 37 = .ok (.ifCond .eq 6, 3) := by decide +kernel
theorem dX8_countMusic_40 : decode cX8_countMusic 40 = .ok (.iinc 3 1, 3) := by decide +kernel
theorem dX8_countMusic_43 : decode cX8_countMusic 43 = .ok (.iinc 4 1, 3) := by decide +kernel
theorem dX8_countMusic_46 : decode cX8_countMusic 46 = .ok (.goto (-33), 3) := by decide +kernel
theorem dX8_countMusic_49 : decode cX8_countMusic 49 = .ok (.iload_n 3, 1) := by decide +kernel
theorem dX8_countMusic_50 : decode cX8_countMusic 50 = .ok (.ireturn, 1) := by decide +kernel
set_option maxRecDepth 20000 in
theorem ggX8_fitsLast_X7_ring : GoodIn wsX8_fitsLast wsX7_ring := goodIn_r _ [17, 18, 19, 20, 21, 22, 23, 16, 24, 25, 26, 27, 28, 29, 30, 31, 32, 33, 34, 35, 36, 37, 38, 39, 40, 41, 42, 43, 44, 45, 46, 47, 48, 49, 50, 51, 52, 53, 54, 55, 56, 70, 71, 72, 73, 74, 75, 76, 77, 78, 79, 80, 85, 86, 87, 88, 89, 90, 91, 92] (by decide +kernel) (by decide +kernel)
set_option maxRecDepth 20000 in
theorem gX8_fitsLast_X7_ring : GoodIn wsX8_fitsLast (wsV RX8 219 RX7 yX7_ring wsX7_ring) := goodIn_app (goodIn_of _ (by decide +kernel)) ggX8_fitsLast_X7_ring
set_option maxRecDepth 20000 in
theorem ggX8_fitsLast_X2_bellIn : GoodIn wsX8_fitsLast wsX2_bellIn := goodIn_r _ [59] (by decide +kernel) (by decide +kernel)
set_option maxRecDepth 20000 in
theorem gX8_fitsLast_X2_bellIn : GoodIn wsX8_fitsLast (va_wsS RX8 159 yX2_bellIn wsX2_bellIn) := goodIn_app (goodIn_of _ (by decide +kernel)) ggX8_fitsLast_X2_bellIn
theorem dX8_fitsLast_0 : decode cX8_fitsLast 0 = .ok (.aload_n 0, 1) := by decide +kernel
theorem dX8_fitsLast_1 : decode cX8_fitsLast 1 = .ok (.getfield 21, 3) := by decide +kernel
theorem dX8_fitsLast_4 : decode cX8_fitsLast 4 = .ok (.getfield 80, 3) := by decide +kernel
theorem dX8_fitsLast_7 : decode cX8_fitsLast 7 = .ok (.iconst 1, 1) := by decide +kernel
theorem dX8_fitsLast_8 : decode cX8_fitsLast 8 = .ok (.isub, 1) := by decide +kernel
theorem dX8_fitsLast_9 : decode cX8_fitsLast 9 = .ok (.istore_n 2, 1) := by decide +kernel
theorem dX8_fitsLast_10 : decode cX8_fitsLast 10 = .ok (.iload_n 2, 1) := by decide +kernel
theorem dX8_fitsLast_11 : decode cX8_fitsLast 11 = .ok (.ifCond .ge 5, 3) := by decide +kernel
theorem dX8_fitsLast_14 : decode cX8_fitsLast 14 = .ok (.iconst 0, 1) := by decide +kernel
theorem dX8_fitsLast_15 : decode cX8_fitsLast 15 = .ok (.ireturn, 1) := by decide +kernel
theorem dX8_fitsLast_16 : decode cX8_fitsLast 16 = .ok (.aload_n 0, 1) := by decide +kernel
theorem dX8_fitsLast_17 : decode cX8_fitsLast 17 = .ok (.getfield 21, 3) := by decide +kernel
theorem dX8_fitsLast_20 : decode cX8_fitsLast 20 = .ok (.getfield 83, 3) := by decide +kernel
theorem dX8_fitsLast_23 : decode cX8_fitsLast 23 = .ok (.iload_n 2, 1) := by decide +kernel
theorem dX8_fitsLast_24 : decode cX8_fitsLast 24 = .ok (.iload_n 1, 1) := by decide +kernel
theorem dX8_fitsLast_25 : decode cX8_fitsLast 25 = .ok (.iastore, 1) := by decide +kernel
theorem dX8_fitsLast_26 : decode cX8_fitsLast 26 = .ok (.aload_n 0, 1) := by decide +kernel
theorem dX8_fitsLast_27 : decode cX8_fitsLast 27 = .ok (.getfield 31, 3) := by decide +kernel
theorem dX8_fitsLast_30 : decode cX8_fitsLast 30 = .ok (.aload_n 0, 1) := by decide +kernel
theorem dX8_fitsLast_31 : decode cX8_fitsLast 31 = .ok (.getfield 21, 3) := by decide +kernel
theorem dX8_fitsLast_34 : decode cX8_fitsLast 34 = .ok (.invokevirtual 219, 3) := by decide +kernel
theorem dX8_fitsLast_37 : decode cX8_fitsLast 37 = .ok (.aload_n 0, 1) := by decide +kernel
theorem dX8_fitsLast_38 : decode cX8_fitsLast 38 = .ok (.getfield 14, 3) := by decide +kernel
theorem dX8_fitsLast_41 : decode cX8_fitsLast 41 = .ok (.getfield 186, 3) := by decide +kernel
theorem dX8_fitsLast_44 : decode cX8_fitsLast 44 = .ok (.astore_n 3, 1) := by decide +kernel
theorem dX8_fitsLast_45 : decode cX8_fitsLast 45 = .ok (.iconst 0, 1) := by decide +kernel
theorem dX8_fitsLast_46 : decode cX8_fitsLast 46 = .ok (.istore 4, 2) := by decide +kernel
theorem dX8_fitsLast_48 : decode cX8_fitsLast 48 = .ok (.iload 4, 2) := by decide +kernel
theorem dX8_fitsLast_50 : decode cX8_fitsLast 50 = .ok (.aload_n 3, 1) := by decide +kernel
theorem dX8_fitsLast_51 : decode cX8_fitsLast 51 = .ok (.getfield 190, 3) := by decide +kernel
theorem dX8_fitsLast_54 : decode cX8_fitsLast 54 = .ok (.if_icmp .ge 62, 3) := by decide +kernel
theorem dX8_fitsLast_57 : decode cX8_fitsLast 57 = .ok (.aload_n 3, 1) := by decide +kernel
theorem dX8_fitsLast_58 : decode cX8_fitsLast 58 = .ok (.getfield 225, 3) := by decide +kernel
theorem dX8_fitsLast_61 : decode cX8_fitsLast 61 = .ok (.iload 4, 2) := by decide +kernel
theorem dX8_fitsLast_63 : decode cX8_fitsLast 63 = .ok (.iaload, 1) := by decide +kernel
theorem dX8_fitsLast_64 : decode cX8_fitsLast 64 = .ok (.istore 5, 2) := by decide +kernel
theorem dX8_fitsLast_66 : decode cX8_fitsLast 66 = .ok (.iload 5, 2) := by decide +kernel
theorem dX8_fitsLast_68 : decode cX8_fitsLast 68 = .ok (.aload_n 0, 1) := by decide +kernel
theorem dX8_fitsLast_69 : decode cX8_fitsLast 69 = .ok (.getfield 31, 3) := by decide +kernel
theorem dX8_fitsLast_72 : decode cX8_fitsLast 72 = .ok (.getfield 134, 3) := by decide +kernel
theorem dX8_fitsLast_75 : decode cX8_fitsLast 75 = .ok (.if_icmp .gt 35, 3) := by decide +kernel
theorem dX8_fitsLast_78 : decode cX8_fitsLast 78 = .ok (.aload_n 0, 1) := by decide +kernel
theorem dX8_fitsLast_79 : decode cX8_fitsLast 79 = .ok (.getfield 31, 3) := by decide +kernel
theorem dX8_fitsLast_82 : decode cX8_fitsLast 82 = .ok (.getfield 156, 3) := by decide +kernel
theorem dX8_fitsLast_85 : decode cX8_fitsLast 85 = .ok (.iload 5, 2) := by decide +kernel
theorem dX8_fitsLast_87 : decode cX8_fitsLast 87 = .ok (.iaload, 1) := by decide +kernel
theorem dX8_fitsLast_88 : decode cX8_fitsLast 88 = .ok (.aload_n 3, 1) := by decide +kernel
theorem dX8_fitsLast_89 : decode cX8_fitsLast 89 = .ok (.getfield 228, 3) := by decide +kernel
theorem dX8_fitsLast_92 : decode cX8_fitsLast 92 = .ok (.iload 4, 2) := by decide +kernel
theorem dX8_fitsLast_94 : decode cX8_fitsLast 94 = .ok (.iaload, 1) := by decide +kernel
theorem dX8_fitsLast_95 : decode cX8_fitsLast 95 = .ok (.invokestatic 159, 3) := by decide +kernel
theorem dX8_fitsLast_98 : decode cX8_fitsLast 98 = .ok (.aload_n 3, 1) := by decide +kernel
theorem dX8_fitsLast_99 : decode cX8_fitsLast 99 = .ok (.getfield 259, 3) := by decide +kernel
theorem dX8_fitsLast_102 : decode cX8_fitsLast 102 = .ok (.iload 4, 2) := by decide +kernel
theorem dX8_fitsLast_104 : decode cX8_fitsLast 104 = .ok (.iaload, 1) := by decide +kernel
theorem dX8_fitsLast_105 : decode cX8_fitsLast 105 = .ok (.if_icmp .eq 5, 3) := by decide +kernel
theorem dX8_fitsLast_108 : decode cX8_fitsLast 108 = .ok (.iconst 0, 1) := by decide +kernel
theorem dX8_fitsLast_109 : decode cX8_fitsLast 109 = .ok (.ireturn, 1) := by decide +kernel
theorem dX8_fitsLast_110 : decode cX8_fitsLast 110 = .ok (.iinc 4 1, 3) := by decide +kernel
theorem dX8_fitsLast_113 : decode cX8_fitsLast 113 = .ok (.goto (-65), 3) := by decide +kernel
theorem dX8_fitsLast_116 : decode cX8_fitsLast 116 = .ok (.iconst 1, 1) := by decide +kernel
theorem dX8_fitsLast_117 : decode cX8_fitsLast 117 = .ok (.ireturn, 1) := by decide +kernel
theorem dX8_lowestTerms_0 : decode cX8_lowestTerms 0 = .ok (.iload_n 2, 1) := by decide +kernel
theorem dX8_lowestTerms_1 : decode cX8_lowestTerms 1 = .ok (.ifCond .ne 7, 3) := by decide +kernel
theorem dX8_lowestTerms_4 : decode cX8_lowestTerms 4 = .ok (.iload_n 0, 1) := by decide +kernel
theorem dX8_lowestTerms_5 : decode cX8_lowestTerms 5 = .ok (.goto 4, 3) := by decide +kernel
theorem dX8_lowestTerms_8 : decode cX8_lowestTerms 8 = .ok (.iload_n 1, 1) := by decide +kernel
theorem dX8_lowestTerms_9 : decode cX8_lowestTerms 9 = .ok (.istore_n 3, 1) := by decide +kernel
theorem dX8_lowestTerms_10 : decode cX8_lowestTerms 10 = .ok (.iload_n 1, 1) := by decide +kernel
theorem dX8_lowestTerms_11 : decode cX8_lowestTerms 11 = .ok (.istore 4, 2) := by decide +kernel
theorem dX8_lowestTerms_13 : decode cX8_lowestTerms 13 = .ok (.iload 4, 2) := by decide +kernel
theorem dX8_lowestTerms_15 : decode cX8_lowestTerms 15 = .ok (.iconst 1, 1) := by decide +kernel
theorem dX8_lowestTerms_16 : decode cX8_lowestTerms 16 = .ok (.if_icmp .le 29, 3) := by decide +kernel
theorem dX8_lowestTerms_19 : decode cX8_lowestTerms 19 = .ok (.iload_n 0, 1) := by decide +kernel
theorem dX8_lowestTerms_20 : decode cX8_lowestTerms 20 = .ok (.iload 4, 2) := by decide +kernel
theorem dX8_lowestTerms_22 : decode cX8_lowestTerms 22 = .ok (.irem, 1) := by decide +kernel
theorem dX8_lowestTerms_23 : decode cX8_lowestTerms 23 = .ok (.ifCond .ne 16, 3) := by decide +kernel
theorem dX8_lowestTerms_26 : decode cX8_lowestTerms 26 = .ok (.iload_n 1, 1) := by decide +kernel
theorem dX8_lowestTerms_27 : decode cX8_lowestTerms 27 = .ok (.iload 4, 2) := by decide +kernel
theorem dX8_lowestTerms_29 : decode cX8_lowestTerms 29 = .ok (.irem, 1) := by decide +kernel
theorem dX8_lowestTerms_30 : decode cX8_lowestTerms 30 = .ok (.ifCond .ne 9, 3) := by decide +kernel
theorem dX8_lowestTerms_33 : decode cX8_lowestTerms 33 = .ok (.iload_n 3, 1) := by decide +kernel
theorem dX8_lowestTerms_34 : decode cX8_lowestTerms 34 = .ok (.iload 4, 2) := by decide +kernel
theorem dX8_lowestTerms_36 : decode cX8_lowestTerms 36 = .ok (.idiv, 1) := by decide +kernel
theorem dX8_lowestTerms_37 : decode cX8_lowestTerms 37 = .ok (.i2l, 1) := by decide +kernel
theorem dX8_lowestTerms_38 : decode cX8_lowestTerms 38 = .ok (.lreturn, 1) := by decide +kernel
theorem dX8_lowestTerms_39 : decode cX8_lowestTerms 39 = .ok (.iinc 4 (-1), 3) := by decide +kernel
theorem dX8_lowestTerms_42 : decode cX8_lowestTerms 42 = .ok (.goto (-29), 3) := by decide +kernel
theorem dX8_lowestTerms_45 : decode cX8_lowestTerms 45 = .ok (.iload_n 3, 1) := by decide +kernel
theorem dX8_lowestTerms_46 : decode cX8_lowestTerms 46 = .ok (.i2l, 1) := by decide +kernel
theorem dX8_lowestTerms_47 : decode cX8_lowestTerms 47 = .ok (.lreturn, 1) := by decide +kernel
