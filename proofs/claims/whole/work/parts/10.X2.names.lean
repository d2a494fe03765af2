theorem dX2_rounds_0 : decode cX2_rounds 0 = .ok (.iconst 0, 1) := by decide +kernel
theorem dX2_rounds_1 : decode cX2_rounds 1 = .ok (.istore_n 1, 1) := by decide +kernel
theorem dX2_rounds_2 : decode cX2_rounds 2 = .ok (.iconst 1, 1) := by decide +kernel
theorem dX2_rounds_3 : decode cX2_rounds 3 = .ok (.istore_n 2, 1) := by decide +kernel
theorem dX2_rounds_4 : decode cX2_rounds 4 = .ok (.iload_n 2, 1) := by decide +kernel
theorem dX2_rounds_5 : decode cX2_rounds 5 = .ok (.iload_n 0, 1) := by decide +kernel
theorem dX2_rounds_6 : decode cX2_rounds 6 = .ok (.if_icmp .gt 19, 3) := by decide +kernel
theorem dX2_rounds_9 : decode cX2_rounds 9 = .ok (.iload_n 1, 1) := by decide +kernel
theorem dX2_rounds_10 : decode cX2_rounds 10 = .ok (.iload_n 2, 1) := by decide +kernel
theorem dX2_rounds_11 : decode cX2_rounds 11 = .ok (.iconst 4, 1) := by decide +kernel
theorem dX2_rounds_12 : decode cX2_rounds 12 = .ok (.iload_n 2, 1) := by decide +kernel
theorem dX2_rounds_13 : decode cX2_rounds 13 = .ok (.iconst 1, 1) := by decide +kernel
theorem dX2_rounds_14 : decode cX2_rounds 14 = .ok (.isub, 1) := by decide +kernel
theorem dX2_rounds_15 : decode cX2_rounds 15 = .ok (.imul, 1) := by decide +kernel
theorem dX2_rounds_16 : decode cX2_rounds 16 = .ok (.ishl, 1) := by decide +kernel
theorem dX2_rounds_17 : decode cX2_rounds 17 = .ok (.ior, 1) := by decide +kernel
theorem dX2_rounds_18 : decode cX2_rounds 18 = .ok (.istore_n 1, 1) := by decide +kernel
theorem dX2_rounds_19 : decode cX2_rounds 19 = .ok (.iinc 2 1, 3) := by decide +kernel
theorem dX2_rounds_22 : decode cX2_rounds 22 = .ok (.goto (-18), 3) := by decide +kernel
theorem dX2_rounds_25 : decode cX2_rounds 25 = .ok (.iload_n 1, 1) := by decide +kernel
theorem dX2_rounds_26 : decode cX2_rounds 26 = .ok (.ireturn, 1) := by decide +kernel
theorem dX2_bellIn_0 : decode cX2_bellIn 0 = .ok (.iload_n 0, 1) := by decide +kernel
theorem dX2_bellIn_1 : decode cX2_bellIn 1 = .ok (.iconst 4, 1) := by decide +kernel
theorem dX2_bellIn_2 : decode cX2_bellIn 2 = .ok (.iload_n 1, 1) := by decide +kernel
theorem dX2_bellIn_3 : decode cX2_bellIn 3 = .ok (.iconst 1, 1) := by decide +kernel
theorem dX2_bellIn_4 : decode cX2_bellIn 4 = .ok (.isub, 1) := by decide +kernel
theorem dX2_bellIn_5 : decode cX2_bellIn 5 = .ok (.imul, 1) := by decide +kernel
theorem dX2_bellIn_6 : decode cX2_bellIn 6 = .ok (.iushr, 1) := by decide +kernel
theorem dX2_bellIn_7 : decode cX2_bellIn 7 = .ok (.bipush 15, 2) := by decide +kernel
theorem dX2_bellIn_9 : decode cX2_bellIn 9 = .ok (.iand, 1) := by decide +kernel
theorem dX2_bellIn_10 : decode cX2_bellIn 10 = .ok (.ireturn, 1) := by decide +kernel
set_option maxRecDepth 20000 in
theorem ggX2_placeOf_X2_bellIn : GoodIn wsX2_placeOf wsX2_bellIn := goodIn_r _ [4] (by decide +kernel) (by decide +kernel)
set_option maxRecDepth 20000 in
theorem gX2_placeOf_X2_bellIn : GoodIn wsX2_placeOf (va_wsS RX2 9 yX2_bellIn wsX2_bellIn) := goodIn_app (goodIn_of _ (by decide +kernel)) ggX2_placeOf_X2_bellIn
theorem dX2_placeOf_0 : decode cX2_placeOf 0 = .ok (.iconst 1, 1) := by decide +kernel
theorem dX2_placeOf_1 : decode cX2_placeOf 1 = .ok (.istore_n 2, 1) := by decide +kernel
theorem dX2_placeOf_2 : decode cX2_placeOf 2 = .ok (.iload_n 2, 1) := by decide +kernel
theorem dX2_placeOf_3 : decode cX2_placeOf 3 = .ok (.bipush 8, 2) := by decide +kernel
theorem dX2_placeOf_5 : decode cX2_placeOf 5 = .ok (.if_icmp .gt 20, 3) := by decide +kernel
theorem dX2_placeOf_8 : decode cX2_placeOf 8 = .ok (.iload_n 0, 1) := by decide +kernel
theorem dX2_placeOf_9 : decode cX2_placeOf 9 = .ok (.iload_n 2, 1) := by decide +kernel
theorem dX2_placeOf_10 : decode cX2_placeOf 10 = .ok (.invokestatic 9, 3) := by decide +kernel
theorem dX2_placeOf_13 : decode cX2_placeOf 13 = .ok (.iload_n 1, 1) := by decide +kernel
theorem dX2_placeOf_14 : decode cX2_placeOf 14 = .ok (.if_icmp .ne 5, 3) := by decide +kernel
theorem dX2_placeOf_17 : decode cX2_placeOf 17 = .ok (.iload_n 2, 1) := by decide +kernel
theorem dX2_placeOf_18 : decode cX2_placeOf 18 = .ok (.ireturn, 1) := by decide +kernel
theorem dX2_placeOf_19 : decode cX2_placeOf 19 = .ok (.iinc 2 1, 3) := by decide +kernel
theorem dX2_placeOf_22 : decode cX2_placeOf 22 = .ok (.goto (-20), 3) := by decide +kernel
theorem dX2_placeOf_25 : decode cX2_placeOf 25 = .ok (.iconst 0, 1) := by decide +kernel
theorem dX2_placeOf_26 : decode cX2_placeOf 26 = .ok (.ireturn, 1) := by decide +kernel
set_option maxRecDepth 20000 in
theorem ggX2_isRightAhead_X2_placeOf : GoodIn wsX2_isRightAhead wsX2_placeOf := goodIn_r _ [4, 5, 6, 3, 7] (by decide +kernel) (by decide +kernel)
set_option maxRecDepth 20000 in
theorem gX2_isRightAhead_X2_placeOf : GoodIn wsX2_isRightAhead (va_wsS RX2 15 yX2_placeOf wsX2_placeOf) := goodIn_app (goodIn_of _ (by decide +kernel)) ggX2_isRightAhead_X2_placeOf
theorem dX2_isRightAhead_0 : decode cX2_isRightAhead 0 = .ok (.iload_n 0, 1) := by decide +kernel
theorem dX2_isRightAhead_1 : decode cX2_isRightAhead 1 = .ok (.iload_n 1, 1) := by decide +kernel
theorem dX2_isRightAhead_2 : decode cX2_isRightAhead 2 = .ok (.invokestatic 15, 3) := by decide +kernel
theorem dX2_isRightAhead_5 : decode cX2_isRightAhead 5 = .ok (.iconst 1, 1) := by decide +kernel
theorem dX2_isRightAhead_6 : decode cX2_isRightAhead 6 = .ok (.iadd, 1) := by decide +kernel
theorem dX2_isRightAhead_7 : decode cX2_isRightAhead 7 = .ok (.iload_n 0, 1) := by decide +kernel
theorem dX2_isRightAhead_8 : decode cX2_isRightAhead 8 = .ok (.iload_n 2, 1) := by decide +kernel
theorem dX2_isRightAhead_9 : decode cX2_isRightAhead 9 = .ok (.invokestatic 15, 3) := by decide +kernel
theorem dX2_isRightAhead_12 : decode cX2_isRightAhead 12 = .ok (.if_icmp .ne 7, 3) := by decide +kernel
theorem dX2_isRightAhead_15 : decode cX2_isRightAhead 15 = .ok (.iconst 1, 1) := by decide +kernel
theorem dX2_isRightAhead_16 : decode cX2_isRightAhead 16 = .ok (.goto 4, 3) := by decide +kernel
theorem dX2_isRightAhead_19 : decode cX2_isRightAhead 19 = .ok (.iconst 0, 1) := by decide +kernel
theorem dX2_isRightAhead_20 : decode cX2_isRightAhead 20 = .ok (.ireturn, 1) := by decide +kernel
set_option maxRecDepth 20000 in
theorem ggX2_isGood_X2_pairs : GoodIn wsX2_isGood wsX2_pairs := goodIn_r _ [4, 5, 6, 3, 7] (by decide +kernel) (by decide +kernel)
set_option maxRecDepth 20000 in
theorem gX2_isGood_X2_pairs : GoodIn wsX2_isGood (va_wsS RX2 18 yX2_pairs wsX2_pairs) := goodIn_app (goodIn_of _ (by decide +kernel)) ggX2_isGood_X2_pairs
theorem dX2_isGood_0 : decode cX2_isGood 0 = .ok (.iload_n 0, 1) := by decide +kernel
theorem dX2_isGood_1 : decode cX2_isGood 1 = .ok (.iload_n 1, 1) := by decide +kernel
theorem dX2_isGood_2 : decode cX2_isGood 2 = .ok (.invokestatic 18, 3) := by decide +kernel
theorem dX2_isGood_5 : decode cX2_isGood 5 = .ok (.iconst (-1), 1) := by decide +kernel
theorem dX2_isGood_6 : decode cX2_isGood 6 = .ok (.if_icmp .eq 7, 3) := by decide +kernel
theorem dX2_isGood_9 : decode cX2_isGood 9 = .ok (.iconst 1, 1) := by decide +kernel
theorem dX2_isGood_10 : decode cX2_isGood 10 = .ok (.goto 4, 3) := by decide +kernel
theorem dX2_isGood_13 : decode cX2_isGood 13 = .ok (.iconst 0, 1) := by decide +kernel
theorem dX2_isGood_14 : decode cX2_isGood 14 = .ok (.ireturn, 1) := by decide +kernel
set_option maxRecDepth 20000 in
theorem ggX2_pairs_X2_isKept : GoodIn wsX2_pairs wsX2_isKept := goodIn_r _ [4] (by decide +kernel) (by decide +kernel)
set_option maxRecDepth 20000 in
theorem gX2_pairs_X2_isKept : GoodIn wsX2_pairs (va_wsS RX2 21 yX2_isKept wsX2_isKept) := goodIn_app (goodIn_of _ (by decide +kernel)) ggX2_pairs_X2_isKept
theorem dX2_pairs_0 : decode cX2_pairs 0 = .ok (.iload_n 1, 1) := by decide +kernel
theorem dX2_pairs_1 : decode cX2_pairs 1 = .ok (.ifCond .lt 9, 3) := by decide +kernel
theorem dX2_pairs_4 : decode cX2_pairs 4 = .ok (.iload_n 1, 1) := by decide +kernel
theorem dX2_pairs_5 : decode cX2_pairs 5 = .ok (.iload_n 0, 1) := by decide +kernel
theorem dX2_pairs_6 : decode cX2_pairs 6 = .ok (.ishr, 1) := by decide +kernel
theorem dX2_pairs_7 : decode cX2_pairs 7 = .ok (.ifCond .eq 5, 3) := by decide +kernel
theorem dX2_pairs_10 : decode cX2_pairs 10 = .ok (.iconst (-1), 1) := by decide +kernel
theorem dX2_pairs_11 : decode cX2_pairs 11 = .ok (.ireturn, 1) := by decide +kernel
theorem dX2_pairs_12 : decode cX2_pairs 12 = .ok (.iconst 0, 1) := by decide +kernel
theorem dX2_pairs_13 : decode cX2_pairs 13 = .ok (.istore_n 2, 1) := by decide +kernel
theorem dX2_pairs_14 : decode cX2_pairs 14 = .ok (.iconst 0, 1) := by decide +kernel
theorem dX2_pairs_15 : decode cX2_pairs 15 = .ok (.istore_n 3, 1) := by decide +kernel
theorem dX2_pairs_16 : decode cX2_pairs 16 = .ok (.iload_n 3, 1) := by decide +kernel
theorem dX2_pairs_17 : decode cX2_pairs 17 = .ok (.iload_n 0, 1) := by decide +kernel
theorem dX2_pairs_18 : decode cX2_pairs 18 = .ok (.if_icmp .ge 51, 3) := by decide +kernel
theorem dX2_pairs_21 : decode cX2_pairs 21 = .ok (.iload_n 1, 1) := by decide +kernel
theorem dX2_pairs_22 : decode cX2_pairs 22 = .ok (.iload_n 3, 1) := by decide +kernel
theorem dX2_pairs_23 : decode cX2_pairs 23 = .ok (.invokestatic 21, 3) := by decide +kernel
theorem dX2_pairs_26 : decode cX2_pairs 26 = .ok (.ifCond .eq 9, 3) := by decide +kernel
theorem dX2_pairs_29 : decode cX2_pairs 29 = .ok (.iinc 3 1, 3) := by decide +kernel
theorem dX2_pairs_32 : decode cX2_pairs 32 = .ok (.goto (-16), 3) := by decide +kernel
theorem dX2_pairs_35 : decode cX2_pairs 35 = .ok (.iload_n 3, 1) := by decide +kernel
theorem dX2_pairs_36 : decode cX2_pairs 36 = .ok (.iconst 1, 1) := by decide +kernel
theorem dX2_pairs_37 : decode cX2_pairs 37 = .ok (.iadd, 1) := by decide +kernel
theorem dX2_pairs_38 : decode cX2_pairs 38 = .ok (.iload_n 0, 1) := by decide +kernel
theorem dX2_pairs_39 : decode cX2_pairs 39 = .ok (.if_icmp .ge 13, 3) := by decide +kernel
theorem dX2_pairs_42 : decode cX2_pairs 42 = .ok (.iload_n 1, 1) := by decide +kernel
theorem dX2_pairs_43 : decode cX2_pairs 43 = .ok (.iload_n 3, 1) := by decide +kernel
theorem dX2_pairs_44 : decode cX2_pairs 44 = .ok (.iconst 1, 1) := by decide +kernel
theorem dX2_pairs_45 : decode cX2_pairs 45 = .ok (.iadd, 1) := by decide +kernel
theorem dX2_pairs_46 : decode cX2_pairs 46 = .ok (.invokestatic 21, 3) := by decide +kernel
theorem dX2_pairs_49 : decode cX2_pairs 49 = .ok (.ifCond .eq 5, 3) := by decide +kernel
theorem dX2_pairs_52 : decode cX2_pairs 52 = .ok (.iconst (-1), 1) := by decide +kernel
theorem dX2_pairs_53 : decode cX2_pairs 53 = .ok (.ireturn, 1) := by decide +kernel
theorem dX2_pairs_54 : decode cX2_pairs 54 = .ok (.iload_n 2, 1) := by decide +kernel
theorem dX2_pairs_55 : decode cX2_pairs 55 = .ok (.bipush 15, 2) := by decide +kernel
theorem dX2_pairs_57 : decode cX2_pairs 57 = .ok (.iconst 4, 1) := by decide +kernel
theorem dX2_pairs_58 : decode cX2_pairs 58 = .ok (.iload_n 3, 1) := by decide +kernel
theorem dX2_pairs_59 : decode cX2_pairs 59 = .ok (.imul, 1) := by decide +kernel
theorem dX2_pairs_60 : decode cX2_pairs 60 = .ok (.ishl, 1) := by decide +kernel
theorem dX2_pairs_61 : decode cX2_pairs 61 = .ok (.ior, 1) := by decide +kernel
theorem dX2_pairs_62 : decode cX2_pairs 62 = .ok (.istore_n 2, 1) := by decide +kernel
theorem dX2_pairs_63 : decode cX2_pairs 63 = .ok (.iinc 3 2, 3) := by decide +kernel
theorem dX2_pairs_66 : decode cX2_pairs 66 = .ok (.goto (-50), 3) := by decide +kernel
theorem dX2_pairs_69 : decode cX2_pairs 69 = .ok (.iload_n 2, 1) := by decide +kernel
theorem dX2_pairs_70 : decode cX2_pairs 70 = .ok (.ireturn, 1) := by decide +kernel
theorem dX2_isKept_0 : decode cX2_isKept 0 = .ok (.iload_n 0, 1) := by decide +kernel
theorem dX2_isKept_1 : decode cX2_isKept 1 = .ok (.iload_n 1, 1) := by decide +kernel
theorem dX2_isKept_2 : decode cX2_isKept 2 = .ok (.ishr, 1) := by decide +kernel
theorem dX2_isKept_3 : decode cX2_isKept 3 = .ok (.iconst 1, 1) := by decide +kernel
theorem dX2_isKept_4 : decode cX2_isKept 4 = .ok (.iand, 1) := by decide +kernel
theorem dX2_isKept_5 : decode cX2_isKept 5 = .ok (.ifCond .eq 7, 3) := by decide +kernel
theorem dX2_isKept_8 : decode cX2_isKept 8 = .ok (.iconst 1, 1) := by decide +kernel
theorem dX2_isKept_9 : decode cX2_isKept 9 = .ok (.goto 4, 3) := by decide +kernel
theorem dX2_isKept_12 : decode cX2_isKept 12 = .ok (.iconst 0, 1) := by decide +kernel
theorem dX2_isKept_13 : decode cX2_isKept 13 = .ok (.ireturn, 1) := by decide +kernel
theorem dX2_swapped_0 : decode cX2_swapped 0 = .ok (.iload_n 0, 1) := by decide +kernel
theorem dX2_swapped_1 : decode cX2_swapped 1 = .ok (.iload_n 1, 1) := by decide +kernel
theorem dX2_swapped_2 : decode cX2_swapped 2 = .ok (.iload_n 1, 1) := by decide +kernel
theorem dX2_swapped_3 : decode cX2_swapped 3 = .ok (.iconst 4, 1) := by decide +kernel
theorem dX2_swapped_4 : decode cX2_swapped 4 = .ok (.ishl, 1) := by decide +kernel
theorem dX2_swapped_5 : decode cX2_swapped 5 = .ok (.ior, 1) := by decide +kernel
theorem dX2_swapped_6 : decode cX2_swapped 6 = .ok (.iconst (-1), 1) := by decide +kernel
theorem dX2_swapped_7 : decode cX2_swapped 7 = .ok (.ixor, 1) := by decide +kernel
theorem dX2_swapped_8 : decode cX2_swapped 8 = .ok (.iand, 1) := by decide +kernel
theorem dX2_swapped_9 : decode cX2_swapped 9 = .ok (.istore_n 2, 1) := by decide +kernel
theorem dX2_swapped_10 : decode cX2_swapped 10 = .ok (.iload_n 2, 1) := by decide +kernel
theorem dX2_swapped_11 : decode cX2_swapped 11 = .ok (.iload_n 0, 1) := by decide +kernel
theorem dX2_swapped_12 : decode cX2_swapped 12 = .ok (.iload_n 1, 1) := by decide +kernel
theorem dX2_swapped_13 : decode cX2_swapped 13 = .ok (.iand, 1) := by decide +kernel
theorem dX2_swapped_14 : decode cX2_swapped 14 = .ok (.iconst 4, 1) := by decide +kernel
theorem dX2_swapped_15 : decode cX2_swapped 15 = .ok (.ishl, 1) := by decide +kernel
theorem dX2_swapped_16 : decode cX2_swapped 16 = .ok (.ior, 1) := by decide +kernel
theorem dX2_swapped_17 : decode cX2_swapped 17 = .ok (.iload_n 0, 1) := by decide +kernel
theorem dX2_swapped_18 : decode cX2_swapped 18 = .ok (.iconst 4, 1) := by decide +kernel
theorem dX2_swapped_19 : decode cX2_swapped 19 = .ok (.iushr, 1) := by decide +kernel
theorem dX2_swapped_20 : decode cX2_swapped 20 = .ok (.iload_n 1, 1) := by decide +kernel
theorem dX2_swapped_21 : decode cX2_swapped 21 = .ok (.iand, 1) := by decide +kernel
theorem dX2_swapped_22 : decode cX2_swapped 22 = .ok (.ior, 1) := by decide +kernel
theorem dX2_swapped_23 : decode cX2_swapped 23 = .ok (.ireturn, 1) := by decide +kernel
