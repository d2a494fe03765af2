theorem dX9_isGood_24 : decode cX9_isGood 24 = .ok (.goto (-22), 3) := by decide +kernel
theorem dX9_isGood_27 : decode cX9_isGood 27 = .ok (.iload_n 2, 1) := by decide +kernel
theorem dX9_isGood_28 : decode cX9_isGood 28 = .ok (.iconst 1, 1) := by decide +kernel
theorem dX9_isGood_29 : decode cX9_isGood 29 = .ok (.iadd, 1) := by decide +kernel
theorem dX9_isGood_30 : decode cX9_isGood 30 = .ok (.aload_n 0, 1) := by decide +kernel
theorem dX9_isGood_31 : decode cX9_isGood 31 = .ok (.getfield 9, 3) := by decide +kernel
theorem dX9_isGood_34 : decode cX9_isGood 34 = .ok (.iconst 0, 1) := by decide +kernel
theorem dX9_isGood_35 : decode cX9_isGood 35 = .ok (.iaload, 1) := by decide +kernel
theorem dX9_isGood_36 : decode cX9_isGood 36 = .ok (.if_icmp .ge 19, 3) := by decide +kernel
theorem dX9_isGood_39 : decode cX9_isGood 39 = .ok (.iload_n 1, 1) := by decide +kernel
theorem dX9_isGood_40 : decode cX9_isGood 40 = .ok (.iload_n 2, 1) := by decide +kernel
theorem dX9_isGood_41 : decode cX9_isGood 41 = .ok (.iconst 1, 1) := by decide +kernel
theorem dX9_isGood_42 : decode cX9_isGood 42 = .ok (.iadd, 1) := by decide +kernel
theorem dX9_isGood_43 : decode cX9_isGood 43 = .ok (.ishr, 1) := by decide +kernel
theorem dX9_isGood_44 : decode cX9_isGood 44 = .ok (.iconst 1, 1) := by decide +kernel
theorem dX9_isGood_45 : decode cX9_isGood 45 = .ok (.iand, 1) := by decide +kernel
theorem dX9_isGood_46 : decode cX9_isGood 46 = .ok (.ifCond .ne 9, 3) := by decide +kernel
theorem dX9_isGood_49 : decode cX9_isGood 49 = .ok (.iinc 2 2, 3) := by decide +kernel
theorem dX9_isGood_52 : decode cX9_isGood 52 = .ok (.goto (-50), 3) := by decide +kernel
theorem dX9_isGood_55 : decode cX9_isGood 55 = .ok (.iconst 0, 1) := by decide +kernel
theorem dX9_isGood_56 : decode cX9_isGood 56 = .ok (.ireturn, 1) := by decide +kernel
theorem dX9_isGood_57 : decode cX9_isGood 57 = .ok (.iconst 1, 1) := by decide +kernel
theorem dX9_isGood_58 : decode cX9_isGood 58 = .ok (.ireturn, 1) := by decide +kernel
set_option maxRecDepth 20000 in
theorem ggX9_change_X9_areKept : GoodIn wsX9_change wsX9_areKept := goodIn_r _ [6, 1, 7, 8, 5, 9, 14, 15, 16, 17, 18, 19, 20, 21, 22, 23, 24, 25, 26, 27, 28, 29, 30, 31, 32, 33] (by decide +kernel) (by decide +kernel)
set_option maxRecDepth 20000 in
theorem gX9_change_X9_areKept : GoodIn wsX9_change (wsV RX9 60 RX9 yX9_areKept wsX9_areKept) := goodIn_app (goodIn_of _ (by decide +kernel)) ggX9_change_X9_areKept
set_option maxRecDepth 20000 in
theorem ggX9_change_X9_isGood : GoodIn wsX9_change wsX9_isGood := goodIn_r _ [13, 1, 14, 15, 16, 17, 18, 19, 20, 21, 22, 23, 24, 25, 26, 27, 28, 29, 30, 31, 32, 33] (by decide +kernel) (by decide +kernel)
set_option maxRecDepth 20000 in
theorem gX9_change_X9_isGood : GoodIn wsX9_change (wsV RX9 64 RX9 yX9_isGood wsX9_isGood) := goodIn_app (goodIn_of _ (by decide +kernel)) ggX9_change_X9_isGood
theorem dX9_change_0 : decode cX9_change 0 = .ok (.aload_n 0, 1) := by decide +kernel
theorem dX9_change_1 : decode cX9_change 1 = .ok (.iload_n 1, 1) := by decide +kernel
theorem dX9_change_2 : decode cX9_change 2 = .ok (.invokevirtual 60, 3) := by decide +kernel
theorem dX9_change_5 : decode cX9_change 5 = .ok (.ifCond .ne 6, 3) := by decide +kernel
theorem dX9_change_8 : decode cX9_change 8 = .ok (.bipush (-2), 2) := by decide +kernel
theorem dX9_change_10 : decode cX9_change 10 = .ok (.ireturn, 1) := by decide +kernel
theorem dX9_change_11 : decode cX9_change 11 = .ok (.aload_n 0, 1) := by decide +kernel
theorem dX9_change_12 : decode cX9_change 12 = .ok (.iload_n 1, 1) := by decide +kernel
theorem dX9_change_13 : decode cX9_change 13 = .ok (.invokevirtual 64, 3) := by decide +kernel
theorem dX9_change_16 : decode cX9_change 16 = .ok (.ifCond .ne 6, 3) := by decide +kernel
theorem dX9_change_19 : decode cX9_change 19 = .ok (.bipush (-3), 2) := by decide +kernel
theorem dX9_change_21 : decode cX9_change 21 = .ok (.ireturn, 1) := by decide +kernel
theorem dX9_change_22 : decode cX9_change 22 = .ok (.aload_n 0, 1) := by decide +kernel
theorem dX9_change_23 : decode cX9_change 23 = .ok (.getfield 9, 3) := by decide +kernel
theorem dX9_change_26 : decode cX9_change 26 = .ok (.iconst 1, 1) := by decide +kernel
theorem dX9_change_27 : decode cX9_change 27 = .ok (.iaload, 1) := by decide +kernel
theorem dX9_change_28 : decode cX9_change 28 = .ok (.bipush 16, 2) := by decide +kernel
theorem dX9_change_30 : decode cX9_change 30 = .ok (.if_icmp .ne 6, 3) := by decide +kernel
theorem dX9_change_33 : decode cX9_change 33 = .ok (.bipush (-4), 2) := by decide +kernel
theorem dX9_change_35 : decode cX9_change 35 = .ok (.ireturn, 1) := by decide +kernel
theorem dX9_change_36 : decode cX9_change 36 = .ok (.aload_n 0, 1) := by decide +kernel
theorem dX9_change_37 : decode cX9_change 37 = .ok (.getfield 9, 3) := by decide +kernel
theorem dX9_change_40 : decode cX9_change 40 = .ok (.bipush 8, 2) := by decide +kernel
theorem dX9_change_42 : decode cX9_change 42 = .ok (.aload_n 0, 1) := by decide +kernel
theorem dX9_change_43 : decode cX9_change 43 = .ok (.getfield 9, 3) := by decide +kernel
theorem dX9_change_46 : decode cX9_change 46 = .ok (.iconst 1, 1) := by decide +kernel
theorem dX9_change_47 : decode cX9_change 47 = .ok (.iaload, 1) := by decide +kernel
theorem dX9_change_48 : decode cX9_change 48 = .ok (.iadd, 1) := by decide +kernel
theorem dX9_change_49 : decode cX9_change 49 = .ok (.iload_n 1, 1) := by decide +kernel
theorem dX9_change_50 : decode cX9_change 50 = .ok (.iastore, 1) := by decide +kernel
theorem dX9_change_51 : decode cX9_change 51 = .ok (.aload_n 0, 1) := by decide +kernel
theorem dX9_change_52 : decode cX9_change 52 = .ok (.getfield 9, 3) := by decide +kernel
theorem dX9_change_55 : decode cX9_change 55 = .ok (.iconst 1, 1) := by decide +kernel
theorem dX9_change_56 : decode cX9_change 56 = .ok (.dup2, 1) := by decide +kernel
theorem dX9_change_57 : decode cX9_change 57 = .ok (.iaload, 1) := by decide +kernel
theorem dX9_change_58 : decode cX9_change 58 = .ok (.iconst 1, 1) := by decide +kernel
theorem dX9_change_59 : decode cX9_change 59 = .ok (.iadd, 1) := by decide +kernel
theorem dX9_change_60 : decode cX9_change 60 = .ok (.dup_x2, 1) := by decide +kernel
theorem dX9_change_61 : decode cX9_change 61 = .ok (.iastore, 1) := by decide +kernel
theorem dX9_change_62 : decode cX9_change 62 = .ok (.ireturn, 1) := by decide +kernel
set_option maxRecDepth 20000 in
theorem ggX9_calls_X9_within : GoodIn wsX9_calls wsX9_within := goodIn_r _ [4] (by decide +kernel) (by decide +kernel)
set_option maxRecDepth 20000 in
theorem gX9_calls_X9_within : GoodIn wsX9_calls (va_wsS RX9 56 yX9_within wsX9_within) := goodIn_app (goodIn_of _ (by decide +kernel)) ggX9_calls_X9_within
set_option maxRecDepth 20000 in
theorem ggX9_calls_X9_areKept : GoodIn wsX9_calls wsX9_areKept := goodIn_r _ [8, 9, 1, 2, 3, 4, 18, 19, 20, 21, 22, 23, 24, 25, 26, 27, 28, 29, 30, 31, 32, 33, 34, 35, 36, 37] (by decide +kernel) (by decide +kernel)
set_option maxRecDepth 20000 in
theorem gX9_calls_X9_areKept : GoodIn wsX9_calls (wsV RX9 60 RX9 yX9_areKept wsX9_areKept) := goodIn_app (goodIn_of _ (by decide +kernel)) ggX9_calls_X9_areKept
set_option maxRecDepth 20000 in
theorem ggX9_calls_X9_isGood : GoodIn wsX9_calls wsX9_isGood := goodIn_r _ [13, 9, 18, 19, 20, 21, 22, 23, 24, 25, 26, 27, 28, 29, 30, 31, 32, 33, 34, 35, 36, 37] (by decide +kernel) (by decide +kernel)
set_option maxRecDepth 20000 in
theorem gX9_calls_X9_isGood : GoodIn wsX9_calls (wsV RX9 64 RX9 yX9_isGood wsX9_isGood) := goodIn_app (goodIn_of _ (by decide +kernel)) ggX9_calls_X9_isGood
set_option maxRecDepth 20000 in
theorem ggX9_calls_X9_becomes : GoodIn wsX9_calls wsX9_becomes := goodIn_r _ [17, 9, 18, 19, 20, 21, 22, 23, 24, 25, 26, 27, 28, 29, 30, 31, 32, 33, 34, 35, 36, 37] (by decide +kernel) (by decide +kernel)
set_option maxRecDepth 20000 in
theorem gX9_calls_X9_becomes : GoodIn wsX9_calls (wsV RX9 67 RX9 yX9_becomes wsX9_becomes) := goodIn_app (goodIn_of _ (by decide +kernel)) ggX9_calls_X9_becomes
theorem dX9_calls_0 : decode cX9_calls 0 = .ok (.iload_n 1, 1) := by decide +kernel
theorem dX9_calls_1 : decode cX9_calls 1 = .ok (.iconst 1, 1) := by decide +kernel
theorem dX9_calls_2 : decode cX9_calls 2 = .ok (.iconst 2, 1) := by decide +kernel
theorem dX9_calls_3 : decode cX9_calls 3 = .ok (.invokestatic 56, 3) := by decide +kernel
theorem dX9_calls_6 : decode cX9_calls 6 = .ok (.ifCond .ne 5, 3) := by decide +kernel
theorem dX9_calls_9 : decode cX9_calls 9 = .ok (.iconst (-1), 1) := by decide +kernel
theorem dX9_calls_10 : decode cX9_calls 10 = .ok (.ireturn, 1) := by decide +kernel
theorem dX9_calls_11 : decode cX9_calls 11 = .ok (.iload_n 2, 1) := by decide +kernel
theorem dX9_calls_12 : decode cX9_calls 12 = .ok (.iconst (-1), 1) := by decide +kernel
theorem dX9_calls_13 : decode cX9_calls 13 = .ok (.if_icmp .eq 14, 3) := by decide +kernel
theorem dX9_calls_16 : decode cX9_calls 16 = .ok (.aload_n 0, 1) := by decide +kernel
theorem dX9_calls_17 : decode cX9_calls 17 = .ok (.iload_n 2, 1) := by decide +kernel
theorem dX9_calls_18 : decode cX9_calls 18 = .ok (.invokevirtual 60, 3) := by decide +kernel
theorem dX9_calls_21 : decode cX9_calls 21 = .ok (.ifCond .ne 6, 3) := by decide +kernel
theorem dX9_calls_24 : decode cX9_calls 24 = .ok (.bipush (-2), 2) := by decide +kernel
theorem dX9_calls_26 : decode cX9_calls 26 = .ok (.ireturn, 1) := by decide +kernel
theorem dX9_calls_27 : decode cX9_calls 27 = .ok (.iload_n 2, 1) := by decide +kernel
theorem dX9_calls_28 : decode cX9_calls 28 = .ok (.iconst (-1), 1) := by decide +kernel
theorem dX9_calls_29 : decode cX9_calls 29 = .ok (.if_icmp .eq 14, 3) := by decide +kernel
theorem dX9_calls_32 : decode cX9_calls 32 = .ok (.aload_n 0, 1) := by decide +kernel
theorem dX9_calls_33 : decode cX9_calls 33 = .ok (.iload_n 2, 1) := by decide +kernel
theorem dX9_calls_34 : decode cX9_calls 34 = .ok (.invokevirtual 64, 3) := by decide +kernel
theorem dX9_calls_37 : decode cX9_calls 37 = .ok (.ifCond .ne 6, 3) := by decide +kernel
theorem dX9_calls_40 : decode cX9_calls 40 = .ok (.bipush (-3), 2) := by decide +kernel
theorem dX9_calls_42 : decode cX9_calls 42 = .ok (.ireturn, 1) := by decide +kernel
theorem dX9_calls_43 : decode cX9_calls 43 = .ok (.aload_n 0, 1) := by decide +kernel
theorem dX9_calls_44 : decode cX9_calls 44 = .ok (.iconst 1, 1) := by decide +kernel
theorem dX9_calls_45 : decode cX9_calls 45 = .ok (.iload_n 1, 1) := by decide +kernel
theorem dX9_calls_46 : decode cX9_calls 46 = .ok (.iadd, 1) := by decide +kernel
theorem dX9_calls_47 : decode cX9_calls 47 = .ok (.iload_n 2, 1) := by decide +kernel
theorem dX9_calls_48 : decode cX9_calls 48 = .ok (.invokevirtual 67, 3) := by decide +kernel
theorem dX9_calls_51 : decode cX9_calls 51 = .ok (.iconst (-1), 1) := by decide +kernel
theorem dX9_calls_52 : decode cX9_calls 52 = .ok (.if_icmp .ne 7, 3) := by decide +kernel
theorem dX9_calls_55 : decode cX9_calls 55 = .ok (.iconst 0, 1) := by decide +kernel
theorem dX9_calls_56 : decode cX9_calls 56 = .ok (.goto 4, 3) := by decide +kernel
theorem dX9_calls_59 : decode cX9_calls 59 = .ok (.iconst 1, 1) := by decide +kernel
theorem dX9_calls_60 : decode cX9_calls 60 = .ok (.ireturn, 1) := by decide +kernel
set_option maxRecDepth 20000 in
theorem ggX9_call_X9_within : GoodIn wsX9_call wsX9_within := goodIn_r _ [4] (by decide +kernel) (by decide +kernel)
set_option maxRecDepth 20000 in
theorem gX9_call_X9_within : GoodIn wsX9_call (va_wsS RX9 56 yX9_within wsX9_within) := goodIn_app (goodIn_of _ (by decide +kernel)) ggX9_call_X9_within
set_option maxRecDepth 20000 in
theorem ggX9_call_X9_becomes : GoodIn wsX9_call wsX9_becomes := goodIn_r _ [8, 9, 10, 11, 12, 13, 14, 15, 16, 17, 18, 19, 20, 21, 22, 23, 24, 25, 26, 27, 28, 29] (by decide +kernel) (by decide +kernel)
set_option maxRecDepth 20000 in
theorem gX9_call_X9_becomes : GoodIn wsX9_call (wsV RX9 67 RX9 yX9_becomes wsX9_becomes) := goodIn_app (goodIn_of _ (by decide +kernel)) ggX9_call_X9_becomes
theorem dX9_call_0 : decode cX9_call 0 = .ok (.iload_n 1, 1) := by decide +kernel
theorem dX9_call_1 : decode cX9_call 1 = .ok (.iconst 0, 1) := by decide +kernel
theorem dX9_call_2 : decode cX9_call 2 = .ok (.bipush 11, 2) := by decide +kernel
theorem dX9_call_4 : decode cX9_call 4 = .ok (.invokestatic 56, 3) := by decide +kernel
theorem dX9_call_7 : decode cX9_call 7 = .ok (.ifCond .ne 5, 3) := by decide +kernel
theorem dX9_call_10 : decode cX9_call 10 = .ok (.iconst (-1), 1) := by decide +kernel
theorem dX9_call_11 : decode cX9_call 11 = .ok (.ireturn, 1) := by decide +kernel
theorem dX9_call_12 : decode cX9_call 12 = .ok (.iload_n 2, 1) := by decide +kernel
theorem dX9_call_13 : decode cX9_call 13 = .ok (.iconst 0, 1) := by decide +kernel
theorem dX9_call_14 : decode cX9_call 14 = .ok (.iconst 2, 1) := by decide +kernel
theorem dX9_call_15 : decode cX9_call 15 = .ok (.invokestatic 56, 3) := by decide +kernel
theorem dX9_call_18 : decode cX9_call 18 = .ok (.ifCond .eq 15, 3) := by decide +kernel
theorem dX9_call_21 : decode cX9_call 21 = .ok (.aload_n 0, 1) := by decide +kernel
theorem dX9_call_22 : decode cX9_call 22 = .ok (.bipush 24, 2) := by decide +kernel
theorem dX9_call_24 : decode cX9_call 24 = .ok (.iload_n 1, 1) := by decide +kernel
theorem dX9_call_25 : decode cX9_call 25 = .ok (.iadd, 1) := by decide +kernel
theorem dX9_call_26 : decode cX9_call 26 = .ok (.iload_n 2, 1) := by decide +kernel
theorem dX9_call_27 : decode cX9_call 27 = .ok (.invokevirtual 67, 3) := by decide +kernel
theorem dX9_call_30 : decode cX9_call 30 = .ok (.goto 5, 3) := by decide +kernel
theorem dX9_call_33 : decode cX9_call 33 = .ok (.bipush (-2), 2) := by decide +kernel
theorem dX9_call_35 : decode cX9_call 35 = .ok (.ireturn, 1) := by decide +kernel
set_option maxRecDepth 20000 in
theorem ggX9_leads_X9_within : GoodIn wsX9_leads wsX9_within := goodIn_r _ [4] (by decide +kernel) (by decide +kernel)
set_option maxRecDepth 20000 in
theorem gX9_leads_X9_within : GoodIn wsX9_leads (va_wsS RX9 56 yX9_within wsX9_within) := goodIn_app (goodIn_of _ (by decide +kernel)) ggX9_leads_X9_within
set_option maxRecDepth 20000 in
theorem ggX9_leads_X9_becomes : GoodIn wsX9_leads wsX9_becomes := goodIn_r _ [8, 9, 10, 11, 12, 13, 14, 15, 16, 17, 18, 19, 20, 21, 22, 23, 24, 25, 26, 27, 28, 29] (by decide +kernel) (by decide +kernel)
set_option maxRecDepth 20000 in
theorem gX9_leads_X9_becomes : GoodIn wsX9_leads (wsV RX9 67 RX9 yX9_becomes wsX9_becomes) := goodIn_app (goodIn_of _ (by decide +kernel)) ggX9_leads_X9_becomes
theorem dX9_leads_0 : decode cX9_leads 0 = .ok (.iload_n 1, 1) := by decide +kernel
theorem dX9_leads_1 : decode cX9_leads 1 = .ok (.iconst 1, 1) := by decide +kernel
theorem dX9_leads_2 : decode cX9_leads 2 = .ok (.bipush 12, 2) := by decide +kernel
theorem dX9_leads_4 : decode cX9_leads 4 = .ok (.invokestatic 56, 3) := by decide +kernel
theorem dX9_leads_7 : decode cX9_leads 7 = .ok (.ifCond .eq 12, 3) := by decide +kernel
theorem dX9_leads_10 : decode cX9_leads 10 = .ok (.aload_n 0, 1) := by decide +kernel
theorem dX9_leads_11 : decode cX9_leads 11 = .ok (.iconst 4, 1) := by decide +kernel
theorem dX9_leads_12 : decode cX9_leads 12 = .ok (.iload_n 1, 1) := by decide +kernel
theorem dX9_leads_13 : decode cX9_leads 13 = .ok (.invokevirtual 67, 3) := by decide +kernel
theorem dX9_leads_16 : decode cX9_leads 16 = .ok (.goto 5, 3) := by decide +kernel
theorem dX9_leads_19 : decode cX9_leads 19 = .ok (.bipush (-2), 2) := by decide +kernel
theorem dX9_leads_21 : decode cX9_leads 21 = .ok (.ireturn, 1) := by decide +kernel
set_option maxRecDepth 20000 in
theorem ggX9_pattern_X9_within : GoodIn wsX9_pattern wsX9_within := goodIn_r _ [4] (by decide +kernel) (by decide +kernel)
set_option maxRecDepth 20000 in
theorem gX9_pattern_X9_within : GoodIn wsX9_pattern (va_wsS RX9 56 yX9_within wsX9_within) := goodIn_app (goodIn_of _ (by decide +kernel)) ggX9_pattern_X9_within
set_option maxRecDepth 20000 in
theorem ggX9_pattern_X9_becomes : GoodIn wsX9_pattern wsX9_becomes := goodIn_r _ [8, 9, 10, 11, 12, 13, 14, 15, 16, 17, 18, 19, 20, 21, 22, 23, 24, 25, 26, 27, 28, 29] (by decide +kernel) (by decide +kernel)
set_option maxRecDepth 20000 in
theorem gX9_pattern_X9_becomes : GoodIn wsX9_pattern (wsV RX9 67 RX9 yX9_becomes wsX9_becomes) := goodIn_app (goodIn_of _ (by decide +kernel)) ggX9_pattern_X9_becomes
theorem dX9_pattern_0 : decode cX9_pattern 0 = .ok (.iload_n 1, 1) := by decide +kernel
theorem dX9_pattern_1 : decode cX9_pattern 1 = .ok (.iconst 1, 1) := by decide +kernel
theorem dX9_pattern_2 : decode cX9_pattern 2 = .ok (.bipush 8, 2) := by decide +kernel
theorem dX9_pattern_4 : decode cX9_pattern 4 = .ok (.invokestatic 56, 3) := by decide +kernel
theorem dX9_pattern_7 : decode cX9_pattern 7 = .ok (.ifCond .ne 5, 3) := by decide +kernel
theorem dX9_pattern_10 : decode cX9_pattern 10 = .ok (.iconst (-1), 1) := by decide +kernel
theorem dX9_pattern_11 : decode cX9_pattern 11 = .ok (.ireturn, 1) := by decide +kernel
theorem dX9_pattern_12 : decode cX9_pattern 12 = .ok (.iload_n 2, 1) := by decide +kernel
theorem dX9_pattern_13 : decode cX9_pattern 13 = .ok (.iconst 0, 1) := by decide +kernel
theorem dX9_pattern_14 : decode cX9_pattern 14 = .ok (.bipush 8, 2) := by decide +kernel
theorem dX9_pattern_16 : decode cX9_pattern 16 = .ok (.invokestatic 56, 3) := by decide +kernel
theorem dX9_pattern_19 : decode cX9_pattern 19 = .ok (.ifCond .eq 17, 3) := by decide +kernel
theorem dX9_pattern_22 : decode cX9_pattern 22 = .ok (.aload_n 0, 1) := by decide +kernel
theorem dX9_pattern_23 : decode cX9_pattern 23 = .ok (.bipush 36, 2) := by decide +kernel
theorem dX9_pattern_25 : decode cX9_pattern 25 = .ok (.iload_n 1, 1) := by decide +kernel
theorem dX9_pattern_26 : decode cX9_pattern 26 = .ok (.iadd, 1) := by decide +kernel
theorem dX9_pattern_27 : decode cX9_pattern 27 = .ok (.iconst 1, 1) := by decide +kernel
theorem dX9_pattern_28 : decode cX9_pattern 28 = .ok (.isub, 1) := by decide +kernel
theorem dX9_pattern_29 : decode cX9_pattern 29 = .ok (.iload_n 2, 1) := by decide +kernel
theorem dX9_pattern_30 : decode cX9_pattern 30 = .ok (.invokevirtual 67, 3) := by decide +kernel
theorem dX9_pattern_33 : decode cX9_pattern 33 = .ok (.goto 5, 3) := by decide +kernel
theorem dX9_pattern_36 : decode cX9_pattern 36 = .ok (.bipush (-2), 2) := by decide +kernel
theorem dX9_pattern_38 : decode cX9_pattern 38 = .ok (.ireturn, 1) := by decide +kernel
set_option maxRecDepth 20000 in
theorem ggX9_feed_X9_within : GoodIn wsX9_feed wsX9_within := goodIn_r _ [6] (by decide +kernel) (by decide +kernel)
set_option maxRecDepth 20000 in
theorem gX9_feed_X9_within : GoodIn wsX9_feed (va_wsS RX9 56 yX9_within wsX9_within) := goodIn_app (goodIn_of _ (by decide +kernel)) ggX9_feed_X9_within
theorem dX9_feed_0 : decode cX9_feed 0 = .ok (.iload_n 1, 1) := by decide +kernel
theorem dX9_feed_1 : decode cX9_feed 1 = .ok (.iconst 0, 1) := by decide +kernel
theorem dX9_feed_2 : decode cX9_feed 2 = .ok (.bipush 127, 2) := by decide +kernel
theorem dX9_feed_4 : decode cX9_feed 4 = .ok (.invokestatic 56, 3) := by decide +kernel
theorem dX9_feed_7 : decode cX9_feed 7 = .ok (.ifCond .ne 6, 3) := by decide +kernel
theorem dX9_feed_10 : decode cX9_feed 10 = .ok (.bipush (-2), 2) := by decide +kernel
theorem dX9_feed_12 : decode cX9_feed 12 = .ok (.ireturn, 1) := by decide +kernel
theorem dX9_feed_13 : decode cX9_feed 13 = .ok (.aload_n 0, 1) := by decide +kernel
theorem dX9_feed_14 : decode cX9_feed 14 = .ok (.getfield 71, 3) := by decide +kernel
theorem dX9_feed_17 : decode cX9_feed 17 = .ok (.bipush 100, 2) := by decide +kernel
theorem dX9_feed_19 : decode cX9_feed 19 = .ok (.if_icmp .ne 6, 3) := by decide +kernel
theorem dX9_feed_22 : decode cX9_feed 22 = .ok (.bipush (-4), 2) := by decide +kernel
theorem dX9_feed_24 : decode cX9_feed 24 = .ok (.ireturn, 1) := by decide +kernel
theorem dX9_feed_25 : decode cX9_feed 25 = .ok (.aload_n 0, 1) := by decide +kernel
theorem dX9_feed_26 : decode cX9_feed 26 = .ok (.getfield 24, 3) := by decide +kernel
theorem dX9_feed_29 : decode cX9_feed 29 = .ok (.aload_n 0, 1) := by decide +kernel
theorem dX9_feed_30 : decode cX9_feed 30 = .ok (.dup, 1) := by decide +kernel
theorem dX9_feed_31 : decode cX9_feed 31 = .ok (.getfield 71, 3) := by decide +kernel
theorem dX9_feed_34 : decode cX9_feed 34 = .ok (.dup_x1, 1) := by decide +kernel
theorem dX9_feed_35 : decode cX9_feed 35 = .ok (.iconst 1, 1) := by decide +kernel
theorem dX9_feed_36 : decode cX9_feed 36 = .ok (.iadd, 1) := by decide +kernel
theorem dX9_feed_37 : decode cX9_feed 37 = .ok (.putfield 71, 3) := by decide +kernel
theorem dX9_feed_40 : decode cX9_feed 40 = .ok (.iload_n 1, 1) := by decide +kernel
theorem dX9_feed_41 : decode cX9_feed 41 = .ok (.iastore, 1) := by decide +kernel
theorem dX9_feed_42 : decode cX9_feed 42 = .ok (.aload_n 0, 1) := by decide +kernel
theorem dX9_feed_43 : decode cX9_feed 43 = .ok (.getfield 71, 3) := by decide +kernel
theorem dX9_feed_46 : decode cX9_feed 46 = .ok (.ireturn, 1) := by decide +kernel
theorem dX9_sign_0 : decode cX9_sign 0 = .ok (.aload_n 0, 1) := by decide +kernel
theorem dX9_sign_1 : decode cX9_sign 1 = .ok (.getfield 75, 3) := by decide +kernel
theorem dX9_sign_4 : decode cX9_sign 4 = .ok (.aload_n 0, 1) := by decide +kernel
theorem dX9_sign_5 : decode cX9_sign 5 = .ok (.getfield 71, 3) := by decide +kernel
theorem dX9_sign_8 : decode cX9_sign 8 = .ok (.if_icmp .ge 15, 3) := by decide +kernel
theorem dX9_sign_11 : decode cX9_sign 11 = .ok (.aload_n 0, 1) := by decide +kernel
theorem dX9_sign_12 : decode cX9_sign 12 = .ok (.getfield 24, 3) := by decide +kernel
theorem dX9_sign_15 : decode cX9_sign 15 = .ok (.aload_n 0, 1) := by decide +kernel
theorem dX9_sign_16 : decode cX9_sign 16 = .ok (.getfield 75, 3) := by decide +kernel
theorem dX9_sign_19 : decode cX9_sign 19 = .ok (.iaload, 1) := by decide +kernel
theorem dX9_sign_20 : decode cX9_sign 20 = .ok (.goto 4, 3) := by decide +kernel
theorem dX9_sign_23 : decode cX9_sign 23 = .ok (.iconst (-1), 1) := by decide +kernel
theorem dX9_sign_24 : decode cX9_sign 24 = .ok (.ireturn, 1) := by decide +kernel
theorem dX9_wrong_0 : decode cX9_wrong 0 = .ok (.aload_n 0, 1) := by decide +kernel
theorem dX9_wrong_1 : decode cX9_wrong 1 = .ok (.getfield 78, 3) := by decide +kernel
theorem dX9_wrong_4 : decode cX9_wrong 4 = .ok (.ifCond .ge 11, 3) := by decide +kernel
theorem dX9_wrong_7 : decode cX9_wrong 7 = .ok (.aload_n 0, 1) := by decide +kernel
theorem dX9_wrong_8 : decode cX9_wrong 8 = .ok (.aload_n 0, 1) := by decide +kernel
theorem dX9_wrong_9 : decode cX9_wrong 9 = .ok (.getfield 75, 3) := by decide +kernel
theorem dX9_wrong_12 : decode cX9_wrong 12 = .ok (.putfield 78, 3) := by decide +kernel
theorem dX9_wrong_15 : decode cX9_wrong 15 = .ok (.return_, 1) := by decide +kernel
theorem dX9_adds_0 : decode cX9_adds 0 = .ok (.aload_n 0, 1) := by decide +kernel
theorem dX9_adds_1 : decode cX9_adds 1 = .ok (.getfield 36, 3) := by decide +kernel
theorem dX9_adds_4 : decode cX9_adds 4 = .ok (.aload_n 0, 1) := by decide +kernel
theorem dX9_adds_5 : decode cX9_adds 5 = .ok (.dup, 1) := by decide +kernel
theorem dX9_adds_6 : decode cX9_adds 6 = .ok (.getfield 81, 3) := by decide +kernel
theorem dX9_adds_9 : decode cX9_adds 9 = .ok (.dup_x1, 1) := by decide +kernel
theorem dX9_adds_10 : decode cX9_adds 10 = .ok (.iconst 1, 1) := by decide +kernel
theorem dX9_adds_11 : decode cX9_adds 11 = .ok (.iadd, 1) := by decide +kernel
theorem dX9_adds_12 : decode cX9_adds 12 = .ok (.putfield 81, 3) := by decide +kernel
theorem dX9_adds_15 : decode cX9_adds 15 = .ok (.iload_n 1, 1) := by decide +kernel
theorem dX9_adds_16 : decode cX9_adds 16 = .ok (.iastore, 1) := by decide +kernel
theorem dX9_adds_17 : decode cX9_adds 17 = .ok (.aload_n 0, 1) := by decide +kernel
theorem dX9_adds_18 : decode cX9_adds 18 = .ok (.getfield 33, 3) := by decide +kernel
theorem dX9_adds_21 : decode cX9_adds 21 = .ok (.aload_n 0, 1) := by decide +kernel
theorem dX9_adds_22 : decode cX9_adds 22 = .ok (.getfield 84, 3) := by decide +kernel
theorem dX9_adds_25 : decode cX9_adds 25 = .ok (.dup2, 1) := by decide +kernel
theorem dX9_adds_26 : decode cX9_adds 26 = .ok (.iaload, 1) := by decide +kernel
theorem dX9_adds_27 : decode cX9_adds 27 = .ok (.iconst 1, 1) := by decide +kernel
theorem dX9_adds_28 : decode cX9_adds 28 = .ok (.iadd, 1) := by decide +kernel
theorem dX9_adds_29 : decode cX9_adds 29 = .ok (.iastore, 1) := by decide +kernel
theorem dX9_adds_30 : decode cX9_adds 30 = .ok (.return_, 1) := by decide +kernel
set_option maxRecDepth 20000 in
theorem ggX9_digits_X9_sign : GoodIn wsX9_digits wsX9_sign := goodIn_r _ [6, 1, 7, 8, 25, 26, 27, 28, 29, 30, 31, 32, 33, 34, 35, 36, 37, 38, 39, 40, 41, 42, 43, 44] (by decide +kernel) (by decide +kernel)
set_option maxRecDepth 20000 in
theorem gX9_digits_X9_sign : GoodIn wsX9_digits (wsV RX9 87 RX9 yX9_sign wsX9_sign) := goodIn_app (goodIn_of _ (by decide +kernel)) ggX9_digits_X9_sign
set_option maxRecDepth 20000 in
theorem ggX9_digits_X9_within : GoodIn wsX9_digits wsX9_within := goodIn_r _ [11] (by decide +kernel) (by decide +kernel)
set_option maxRecDepth 20000 in
theorem gX9_digits_X9_within : GoodIn wsX9_digits (va_wsS RX9 56 yX9_within wsX9_within) := goodIn_app (goodIn_of _ (by decide +kernel)) ggX9_digits_X9_within
set_option maxRecDepth 20000 in
theorem ggX9_digits_X9_wrong : GoodIn wsX9_digits wsX9_wrong := goodIn_r _ [15, 16, 1, 25, 26, 27, 28, 29, 30, 31, 32, 33, 34, 35, 36, 37, 38, 39, 40, 41, 42, 43, 44] (by decide +kernel) (by decide +kernel)
set_option maxRecDepth 20000 in
theorem gX9_digits_X9_wrong : GoodIn wsX9_digits (wsV RX9 91 RX9 yX9_wrong wsX9_wrong) := goodIn_app (goodIn_of _ (by decide +kernel)) ggX9_digits_X9_wrong
set_option maxRecDepth 20000 in
theorem ggX9_digits_X9_adds : GoodIn wsX9_digits wsX9_adds := goodIn_r _ [20, 21, 22, 23, 24, 25, 26, 27, 28, 29, 30, 31, 32, 33, 34, 35, 36, 37, 38, 39, 40, 41, 42, 43, 44] (by decide +kernel) (by decide +kernel)
set_option maxRecDepth 20000 in
theorem gX9_digits_X9_adds : GoodIn wsX9_digits (wsV RX9 94 RX9 yX9_adds wsX9_adds) := goodIn_app (goodIn_of _ (by decide +kernel)) ggX9_digits_X9_adds
theorem dX9_digits_0 : decode cX9_digits 0 = .ok (.iconst 0, 1) := by decide +kernel
theorem dX9_digits_1 : decode cX9_digits 1 = .ok (.istore_n 1, 1) := by decide +kernel
theorem dX9_digits_2 : decode cX9_digits 2 = .ok (.iconst 0, 1) := by decide +kernel
theorem dX9_digits_3 : decode cX9_digits 3 = .ok (.istore_n 2, 1) := by decide +kernel
theorem dX9_digits_4 : decode cX9_digits 4 = .ok (.aload_n 0, 1) := by decide +kernel
theorem dX9_digits_5 : decode cX9_digits 5 = .ok (.invokevirtual 87, 3) := by decide +kernel
theorem dX9_digits_8 : decode cX9_digits 8 = .ok (.bipush 49, 2) := by decide +kernel
theorem dX9_digits_10 : decode cX9_digits 10 = .ok (.bipush 56, 2) := by decide +kernel
theorem dX9_digits_12 : decode cX9_digits 12 = .ok (.invokestatic 56, 3) := by decide +kernel
theorem dX9_digits_15 : decode cX9_digits 15 = .ok (.ifCond .eq 37, 3) := by decide +kernel
theorem dX9_digits_18 : decode cX9_digits 18 = .ok (.iload_n 2, 1) := by decide +kernel
theorem dX9_digits_19 : decode cX9_digits 19 = .ok (.bipush 8, 2) := by decide +kernel
theorem dX9_digits_21 : decode cX9_digits 21 = .ok (.if_icmp .ge 31, 3) := by decide +kernel
theorem dX9_digits_24 : decode cX9_digits 24 = .ok (.iload_n 1, 1) := by decide +kernel
theorem dX9_digits_25 : decode cX9_digits 25 = .ok (.iconst 1, 1) := by decide +kernel
theorem dX9_digits_26 : decode cX9_digits 26 = .ok (.aload_n 0, 1) := by decide +kernel
theorem dX9_digits_27 : decode cX9_digits 27 = .ok (.invokevirtual 87, 3) := by decide +kernel
theorem dX9_digits_30 : decode cX9_digits 30 = .ok (.bipush 49, 2) := by decide +kernel
theorem dX9_digits_32 : decode cX9_digits 32 = .ok (.isub, 1) := by decide +kernel
theorem dX9_digits_33 : decode cX9_digits 33 = .ok (.ishl, 1) := by decide +kernel
theorem dX9_digits_34 : decode cX9_digits 34 = .ok (.ior, 1) := by decide +kernel
theorem dX9_digits_35 : decode cX9_digits 35 = .ok (.istore_n 1, 1) := by decide +kernel
theorem dX9_digits_36 : decode cX9_digits 36 = .ok (.aload_n 0, 1) := by decide +kernel
theorem dX9_digits_37 : decode cX9_digits 37 = .ok (.dup, 1) := by decide +kernel
theorem dX9_digits_38 : decode cX9_digits 38 = .ok (.getfield 75, 3) := by decide +kernel
theorem dX9_digits_41 : decode cX9_digits 41 = .ok (.iconst 1, 1) := by decide +kernel
theorem dX9_digits_42 : decode cX9_digits 42 = .ok (.iadd, 1) := by decide +kernel
theorem dX9_digits_43 : decode cX9_digits 43 = .ok (.putfield 75, 3) := by decide +kernel
theorem dX9_digits_46 : decode cX9_digits 46 = .ok (.iinc 2 1, 3) := by decide +kernel
theorem dX9_digits_49 : decode cX9_digits 49 = .ok (.goto (-45), 3) := by decide +kernel
theorem dX9_digits_52 : decode cX9_digits 52 = .ok (.iload_n 2, 1) := by decide +kernel
theorem dX9_digits_53 : decode cX9_digits 53 = .ok (.ifCond .ne 10, 3) := by decide +kernel
theorem dX9_digits_56 : decode cX9_digits 56 = .ok (.aload_n 0, 1) := by decide +kernel
theorem dX9_digits_57 : decode cX9_digits 57 = .ok (.invokevirtual 91, 3) := by decide +kernel
theorem dX9_digits_60 : decode cX9_digits 60 = .ok (.goto 8, 3) := by decide +kernel
theorem dX9_digits_63 : decode cX9_digits 63 = .ok (.aload_n 0, 1) := by decide +kernel
theorem dX9_digits_64 : decode cX9_digits 64 = .ok (.iload_n 1, 1) := by decide +kernel
theorem dX9_digits_65 : decode cX9_digits 65 = .ok (.invokevirtual 94, 3) := by decide +kernel
theorem dX9_digits_68 : decode cX9_digits 68 = .ok (.return_, 1) := by decide +kernel
set_option maxRecDepth 20000 in
theorem ggX9_word_X9_sign : GoodIn wsX9_word wsX9_sign := goodIn_r _ [6, 1, 7, 8, 29, 30, 31, 32, 33, 34, 35, 36, 37, 38, 39, 40, 41, 42, 43, 44, 45, 46, 47, 48] (by decide +kernel) (by decide +kernel)
set_option maxRecDepth 20000 in
theorem gX9_word_X9_sign : GoodIn wsX9_word (wsV RX9 87 RX9 yX9_sign wsX9_sign) := goodIn_app (goodIn_of _ (by decide +kernel)) ggX9_word_X9_sign
set_option maxRecDepth 20000 in
theorem ggX9_word_X9_adds : GoodIn wsX9_word wsX9_adds := goodIn_r _ [12, 13, 14, 15, 16, 29, 30, 31, 32, 33, 34, 35, 36, 37, 38, 39, 40, 41, 42, 43, 44, 45, 46, 47, 48] (by decide +kernel) (by decide +kernel)
set_option maxRecDepth 20000 in
theorem gX9_word_X9_adds : GoodIn wsX9_word (wsV RX9 94 RX9 yX9_adds wsX9_adds) := goodIn_app (goodIn_of _ (by decide +kernel)) ggX9_word_X9_adds
set_option maxRecDepth 20000 in
theorem ggX9_word_X9_digits : GoodIn wsX9_word wsX9_digits := goodIn_r _ [20, 1, 2, 3, 4, 5, 6, 7, 8, 21, 22, 23, 24, 25, 26, 27, 28, 9, 10, 11, 12, 13, 14, 15, 16, 29, 30, 31, 32, 33, 34, 35, 36, 37, 38, 39, 40, 41, 42, 43, 44, 45, 46, 47, 48] (by decide +kernel) (by decide +kernel)
set_option maxRecDepth 20000 in
theorem gX9_word_X9_digits : GoodIn wsX9_word (wsV RX9 97 RX9 yX9_digits wsX9_digits) := goodIn_app (goodIn_of _ (by decide +kernel)) ggX9_word_X9_digits
theorem dX9_word_0 : decode cX9_word 0 = .ok (.aload_n 0, 1) := by decide +kernel
theorem dX9_word_1 : decode cX9_word 1 = .ok (.invokevirtual 87, 3) := by decide +kernel
theorem dX9_word_4 : decode cX9_word 4 = .ok (.bipush 120, 2) := by decide +kernel
theorem dX9_word_6 : decode cX9_word 6 = .ok (.if_icmp .ne 20, 3) := by decide +kernel
theorem dX9_word_9 : decode cX9_word 9 = .ok (.aload_n 0, 1) := by decide +kernel
theorem dX9_word_10 : decode cX9_word 10 = .ok (.dup, 1) := by decide +kernel
theorem dX9_word_11 : decode cX9_word 11 = .ok (.getfield 75, 3) := by decide +kernel
theorem dX9_word_14 : decode cX9_word 14 = .ok (.iconst 1, 1) := by decide +kernel
theorem dX9_word_15 : decode cX9_word 15 = .ok (.iadd, 1) := by decide +kernel
theorem dX9_word_16 : decode cX9_word 16 = .ok (.putfield 75, 3) := by decide +kernel
theorem dX9_word_19 : decode cX9_word 19 = .ok (.aload_n 0, 1) := by decide +kernel
theorem dX9_word_20 : decode cX9_word 20 = .ok (.iconst 0, 1) := by decide +kernel
theorem dX9_word_21 : decode cX9_word 21 = .ok (.invokevirtual 94, 3) := by decide +kernel
theorem dX9_word_24 : decode cX9_word 24 = .ok (.iconst 1, 1) := by decide +kernel
theorem dX9_word_25 : decode cX9_word 25 = .ok (.ireturn, 1) := by decide +kernel
theorem dX9_word_26 : decode cX9_word 26 = .ok (.aload_n 0, 1) := by decide +kernel
theorem dX9_word_27 : decode cX9_word 27 = .ok (.invokevirtual 97, 3) := by decide +kernel
theorem dX9_word_30 : decode cX9_word 30 = .ok (.iconst 0, 1) := by decide +kernel
theorem dX9_word_31 : decode cX9_word 31 = .ok (.ireturn, 1) := by decide +kernel
set_option maxRecDepth 20000 in
theorem ggX9_words_X9_word : GoodIn wsX9_words wsX9_word := goodIn_r _ [9, 4, 10, 11, 12, 8, 13, 14, 15, 16, 17, 18, 19, 20, 21, 2, 3, 22, 23, 24, 25, 26, 27, 28, 29, 30, 31, 32, 1, 33, 34, 35, 36, 37, 38, 39, 40, 41, 42, 43, 44, 45, 46, 47, 48, 49, 50, 51, 52] (by decide +kernel) (by decide +kernel)
set_option maxRecDepth 20000 in
theorem gX9_words_X9_word : GoodIn wsX9_words (wsV RX9 100 RX9 yX9_word wsX9_word) := goodIn_app (goodIn_of _ (by decide +kernel)) ggX9_words_X9_word
set_option maxRecDepth 20000 in
theorem ggX9_words_X9_sign : GoodIn wsX9_words wsX9_sign := goodIn_r _ [13, 4, 14, 15, 33, 34, 35, 36, 37, 38, 39, 40, 41, 42, 43, 44, 45, 46, 47, 48, 49, 50, 51, 52] (by decide +kernel) (by decide +kernel)
set_option maxRecDepth 20000 in
theorem gX9_words_X9_sign : GoodIn wsX9_words (wsV RX9 87 RX9 yX9_sign wsX9_sign) := goodIn_app (goodIn_of _ (by decide +kernel)) ggX9_words_X9_sign
set_option maxRecDepth 20000 in
theorem ggX9_words_X9_within : GoodIn wsX9_words wsX9_within := goodIn_r _ [28] (by decide +kernel) (by decide +kernel)
set_option maxRecDepth 20000 in
theorem gX9_words_X9_within : GoodIn wsX9_words (va_wsS RX9 56 yX9_within wsX9_within) := goodIn_app (goodIn_of _ (by decide +kernel)) ggX9_words_X9_within
set_option maxRecDepth 20000 in
theorem ggX9_words_X9_digits : GoodIn wsX9_words wsX9_digits := goodIn_r _ [25, 4, 10, 11, 12, 8, 13, 14, 15, 26, 27, 28, 29, 30, 31, 32, 1, 16, 17, 18, 19, 20, 21, 2, 3, 33, 34, 35, 36, 37, 38, 39, 40, 41, 42, 43, 44, 45, 46, 47, 48, 49, 50, 51, 52] (by decide +kernel) (by decide +kernel)
set_option maxRecDepth 20000 in
theorem gX9_words_X9_digits : GoodIn wsX9_words (wsV RX9 97 RX9 yX9_digits wsX9_digits) := goodIn_app (goodIn_of _ (by decide +kernel)) ggX9_words_X9_digits
theorem dX9_words_0 : decode cX9_words 0 = .ok (.aload_n 0, 1) := by decide +kernel
theorem dX9_words_1 : decode cX9_words 1 = .ok (.invokevirtual 100, 3) := by decide +kernel
theorem dX9_words_4 : decode cX9_words 4 = .ok (.istore_n 1, 1) := by decide +kernel
theorem dX9_words_5 : decode cX9_words 5 = .ok (.aload_n 0, 1) := by decide +kernel
theorem dX9_words_6 : decode cX9_words 6 = .ok (.getfield 78, 3) := by decide +kernel
theorem dX9_words_9 : decode cX9_words 9 = .ok (.ifCond .ge 7, 3) := by decide +kernel
theorem dX9_words_12 : decode cX9_words 12 = .ok (.iconst 1, 1) := by decide +kernel
theorem dX9_words_13 : decode cX9_words 13 = .ok (.goto 4, 3) := by decide +kernel
theorem dX9_words_16 : decode cX9_words 16 = .ok (.iconst 0, 1) := by decide +kernel
theorem dX9_words_17 : decode cX9_words 17 = .ok (.istore_n 2, 1) := by decide +kernel
theorem dX9_words_18 : decode cX9_words 18 = .ok (.iload_n 2, 1) := by decide +kernel
theorem dX9_words_19 : decode cX9_words 19 = .ok (.ifCond .eq 124, 3) := by decide +kernel
theorem dX9_words_22 : decode cX9_words 22 = .ok (.aload_n 0, 1) := by decide +kernel
theorem dX9_words_23 : decode cX9_words 23 = .ok (.getfield 33, 3) := by decide +kernel
theorem dX9_words_26 : decode cX9_words 26 = .ok (.aload_n 0, 1) := by decide +kernel
theorem dX9_words_27 : decode cX9_words 27 = .ok (.getfield 84, 3) := by decide +kernel
theorem dX9_words_30 : decode cX9_words 30 = .ok (.iaload, 1) := by decide +kernel
theorem dX9_words_31 : decode cX9_words 31 = .ok (.bipush 16, 2) := by decide +kernel
theorem dX9_words_33 : decode cX9_words 33 = .ok (.if_icmp .ge 110, 3) := by decide +kernel
theorem dX9_words_36 : decode cX9_words 36 = .ok (.iload_n 1, 1) := by decide +kernel
theorem dX9_words_37 : decode cX9_words 37 = .ok (.ifCond .ne 16, 3) := by decide +kernel
theorem dX9_words_40 : decode cX9_words 40 = .ok (.aload_n 0, 1) := by decide +kernel
theorem dX9_words_41 : decode cX9_words 41 = .ok (.invokevirtual 87, 3) := by decide +kernel
theorem dX9_words_44 : decode cX9_words 44 = .ok (.bipush 46, 2) := by decide +kernel
theorem dX9_words_46 : decode cX9_words 46 = .ok (.if_icmp .ne 7, 3) := by decide +kernel
theorem dX9_words_49 : decode cX9_words 49 = .ok (.iconst 1, 1) := by decide +kernel
theorem dX9_words_50 : decode cX9_words 50 = .ok (.goto 4, 3) := by decide +kernel
theorem dX9_words_53 : decode cX9_words 53 = .ok (.iconst 0, 1) := by decide +kernel
theorem dX9_words_54 : decode cX9_words 54 = .ok (.istore_n 3, 1) := by decide +kernel
theorem dX9_words_55 : decode cX9_words 55 = .ok (.iload_n 3, 1) := by decide +kernel
theorem dX9_words_56 : decode cX9_words 56 = .ok (.ifCond .ne 30, 3) := by decide +kernel
theorem dX9_words_59 : decode cX9_words 59 = .ok (.aload_n 0, 1) := by decide +kernel
theorem dX9_words_60 : decode cX9_words 60 = .ok (.invokevirtual 87, 3) := by decide +kernel
theorem dX9_words_63 : decode cX9_words 63 = .ok (.bipush 120, 2) := by decide +kernel
theorem dX9_words_65 : decode cX9_words 65 = .ok (.if_icmp .eq 21, 3) := by decide +kernel
theorem dX9_words_68 : decode cX9_words 68 = .ok (.iload_n 1, 1) := by decide +kernel
theorem dX9_words_69 : decode cX9_words 69 = .ok (.ifCond .eq 21, 3) := by decide +kernel
theorem dX9_words_72 : decode cX9_words 72 = .ok (.aload_n 0, 1) := by decide +kernel
theorem dX9_words_73 : decode cX9_words 73 = .ok (.invokevirtual 87, 3) := by decide +kernel
theorem dX9_words_76 : decode cX9_words 76 = .ok (.bipush 49, 2) := by decide +kernel
theorem dX9_words_78 : decode cX9_words 78 = .ok (.bipush 56, 2) := by decide +kernel
theorem dX9_words_80 : decode cX9_words 80 = .ok (.invokestatic 56, 3) := by decide +kernel
theorem dX9_words_83 : decode cX9_words 83 = .ok (.ifCond .eq 7, 3) := by decide +kernel
theorem dX9_words_86 : decode cX9_words 86 = .ok (.iconst 1, 1) := by decide +kernel
theorem dX9_words_87 : decode cX9_words 87 = .ok (.goto 4, 3) := by decide +kernel
theorem dX9_words_90 : decode cX9_words 90 = .ok (.iconst 0, 1) := by decide +kernel
theorem dX9_words_91 : decode cX9_words 91 = .ok (.istore_n 2, 1) := by decide +kernel
theorem dX9_words_92 : decode cX9_words 92 = .ok (.iload_n 2, 1) := by decide +kernel
theorem dX9_words_93 : decode cX9_words 93 = .ok (.ifCond .ne 6, 3) := by decide +kernel
theorem dX9_words_96 : decode cX9_words 96 = .ok (.goto 47, 3) := by decide +kernel
theorem dX9_words_99 : decode cX9_words 99 = .ok (.iload_n 3, 1) := by decide +kernel
theorem dX9_words_100 : decode cX9_words 100 = .ok (.ifCond .eq 22, 3) := by decide +kernel
theorem dX9_words_103 : decode cX9_words 103 = .ok (.aload_n 0, 1) := by decide +kernel
theorem dX9_words_104 : decode cX9_words 104 = .ok (.dup, 1) := by decide +kernel
theorem dX9_words_105 : decode cX9_words 105 = .ok (.getfield 75, 3) := by decide +kernel
theorem dX9_words_108 : decode cX9_words 108 = .ok (.iconst 1, 1) := by decide +kernel
theorem dX9_words_109 : decode cX9_words 109 = .ok (.iadd, 1) := by decide +kernel
theorem dX9_words_110 : decode cX9_words 110 = .ok (.putfield 75, 3) := by decide +kernel
theorem dX9_words_113 : decode cX9_words 113 = .ok (.aload_n 0, 1) := by decide +kernel
theorem dX9_words_114 : decode cX9_words 114 = .ok (.invokevirtual 97, 3) := by decide +kernel
theorem dX9_words_117 : decode cX9_words 117 = .ok (.iconst 0, 1) := by decide +kernel
theorem dX9_words_118 : decode cX9_words 118 = .ok (.istore_n 1, 1) := by decide +kernel
theorem dX9_words_119 : decode cX9_words 119 = .ok (.goto 8, 3) := by decide +kernel
theorem dX9_words_122 : decode cX9_words 122 = .ok (.aload_n 0, 1) := by decide +kernel
theorem dX9_words_123 : decode cX9_words 123 = .ok (.invokevirtual 100, 3) := by decide +kernel
theorem dX9_words_126 : decode cX9_words 126 = .ok (.istore_n 1, 1) := by decide +kernel
theorem dX9_words_127 : decode cX9_words 127 = .ok (.aload_n 0, 1) := by decide +kernel
theorem dX9_words_128 : decode cX9_words 128 = .ok (.getfield 78, 3) := by decide +kernel
theorem dX9_words_131 : decode cX9_words 131 = .ok (.ifCond .ge 7, 3) := by decide +kernel
theorem dX9_words_134 : decode cX9_words 134 = .ok (.iconst 1, 1) := by decide +kernel
theorem dX9_words_135 : decode cX9_words 135 = .ok (.goto 4, 3) := by decide +kernel
theorem dX9_words_138 : decode cX9_words 138 = .ok (.iconst 0, 1) := by decide +kernel
theorem dX9_words_139 : decode cX9_words 139 = .ok (.istore_n 2, 1) := by decide +kernel
theorem dX9_words_140 : decode cX9_words 140 = .ok (.goto (-122), 3) := by decide +kernel
theorem dX9_words_143 : decode cX9_words 143 = .ok (.return_, 1) := by decide +kernel
theorem dX9_callOf_0 : decode cX9_callOf 0 = .ok (.iload_n 0, 1) := by decide +kernel
theorem dX9_callOf_1 : decode cX9_callOf 1 = .ok (.bipush 112, 2) := by decide +kernel
theorem dX9_callOf_3 : decode cX9_callOf 3 = .ok (.if_icmp .ne 7, 3) := by decide +kernel
theorem dX9_callOf_6 : decode cX9_callOf 6 = .ok (.iconst 0, 1) := by decide +kernel
theorem dX9_callOf_7 : decode cX9_callOf 7 = .ok (.goto 24, 3) := by decide +kernel
theorem dX9_callOf_10 : decode cX9_callOf 10 = .ok (.iload_n 0, 1) := by decide +kernel
theorem dX9_callOf_11 : decode cX9_callOf 11 = .ok (.bipush 98, 2) := by decide +kernel
theorem dX9_callOf_13 : decode cX9_callOf 13 = .ok (.if_icmp .ne 7, 3) := by decide +kernel
theorem dX9_callOf_16 : decode cX9_callOf 16 = .ok (.iconst 1, 1) := by decide +kernel
theorem dX9_callOf_17 : decode cX9_callOf 17 = .ok (.goto 14, 3) := by decide +kernel
theorem dX9_callOf_20 : decode cX9_callOf 20 = .ok (.iload_n 0, 1) := by decide +kernel
theorem dX9_callOf_21 : decode cX9_callOf 21 = .ok (.bipush 115, 2) := by decide +kernel
theorem dX9_callOf_23 : decode cX9_callOf 23 = .ok (.if_icmp .ne 7, 3) := by decide +kernel
theorem dX9_callOf_26 : decode cX9_callOf 26 = .ok (.iconst 2, 1) := by decide +kernel
theorem dX9_callOf_27 : decode cX9_callOf 27 = .ok (.goto 4, 3) := by decide +kernel
theorem dX9_callOf_30 : decode cX9_callOf 30 = .ok (.iconst (-1), 1) := by decide +kernel
theorem dX9_callOf_31 : decode cX9_callOf 31 = .ok (.ireturn, 1) := by decide +kernel
set_option maxRecDepth 20000 in
theorem ggX9_reads_X9_sign : GoodIn wsX9_reads wsX9_sign := goodIn_r _ [11, 6, 12, 13, 42, 43, 44, 45, 46, 47, 48, 49, 50, 51, 52, 53, 54, 55, 56, 57, 58, 59, 60, 61] (by decide +kernel) (by decide +kernel)
set_option maxRecDepth 20000 in
theorem gX9_reads_X9_sign : GoodIn wsX9_reads (wsV RX9 87 RX9 yX9_sign wsX9_sign) := goodIn_app (goodIn_of _ (by decide +kernel)) ggX9_reads_X9_sign
set_option maxRecDepth 20000 in
theorem ggX9_reads_X9_within : GoodIn wsX9_reads wsX9_within := goodIn_r _ [16] (by decide +kernel) (by decide +kernel)
set_option maxRecDepth 20000 in
theorem gX9_reads_X9_within : GoodIn wsX9_reads (va_wsS RX9 56 yX9_within wsX9_within) := goodIn_app (goodIn_of _ (by decide +kernel)) ggX9_reads_X9_within
set_option maxRecDepth 20000 in
theorem ggX9_reads_X9_wrong : GoodIn wsX9_reads wsX9_wrong := goodIn_r _ [20, 21, 6, 42, 43, 44, 45, 46, 47, 48, 49, 50, 51, 52, 53, 54, 55, 56, 57, 58, 59, 60, 61] (by decide +kernel) (by decide +kernel)
set_option maxRecDepth 20000 in
theorem gX9_reads_X9_wrong : GoodIn wsX9_reads (wsV RX9 91 RX9 yX9_wrong wsX9_wrong) := goodIn_app (goodIn_of _ (by decide +kernel)) ggX9_reads_X9_wrong
set_option maxRecDepth 20000 in
theorem ggX9_reads_X9_adds : GoodIn wsX9_reads wsX9_adds := goodIn_r _ [25, 26, 4, 5, 2, 42, 43, 44, 45, 46, 47, 48, 49, 50, 51, 52, 53, 54, 55, 56, 57, 58, 59, 60, 61] (by decide +kernel) (by decide +kernel)
set_option maxRecDepth 20000 in
theorem gX9_reads_X9_adds : GoodIn wsX9_reads (wsV RX9 94 RX9 yX9_adds wsX9_adds) := goodIn_app (goodIn_of _ (by decide +kernel)) ggX9_reads_X9_adds
set_option maxRecDepth 20000 in
theorem ggX9_reads_X9_words : GoodIn wsX9_reads wsX9_words := goodIn_r _ [30, 21, 5, 2, 6, 31, 32, 33, 10, 34, 7, 8, 9, 11, 12, 13, 22, 23, 24, 25, 26, 4, 35, 36, 37, 38, 14, 15, 16, 17, 18, 19, 20, 42, 43, 44, 45, 46, 47, 48, 49, 50, 51, 52, 53, 54, 55, 56, 57, 58, 59, 60, 61] (by decide +kernel) (by decide +kernel)
set_option maxRecDepth 20000 in
theorem gX9_reads_X9_words : GoodIn wsX9_reads (wsV RX9 104 RX9 yX9_words wsX9_words) := goodIn_app (goodIn_of _ (by decide +kernel)) ggX9_reads_X9_words
set_option maxRecDepth 20000 in
theorem ggX9_reads_X9_word : GoodIn wsX9_reads wsX9_word := goodIn_r _ [34, 6, 7, 8, 9, 10, 11, 12, 13, 22, 23, 24, 25, 26, 4, 5, 2, 35, 36, 37, 38, 14, 15, 16, 17, 18, 19, 20, 21, 42, 43, 44, 45, 46, 47, 48, 49, 50, 51, 52, 53, 54, 55, 56, 57, 58, 59, 60, 61] (by decide +kernel) (by decide +kernel)
set_option maxRecDepth 20000 in
theorem gX9_reads_X9_word : GoodIn wsX9_reads (wsV RX9 100 RX9 yX9_word wsX9_word) := goodIn_app (goodIn_of _ (by decide +kernel)) ggX9_reads_X9_word
set_option maxRecDepth 20000 in
theorem ggX9_reads_X9_callOf : GoodIn wsX9_reads wsX9_callOf := goodIn_r _ [41] (by decide +kernel) (by decide +kernel)
set_option maxRecDepth 20000 in
theorem gX9_reads_X9_callOf : GoodIn wsX9_reads (va_wsS RX9 107 yX9_callOf wsX9_callOf) := goodIn_app (goodIn_of _ (by decide +kernel)) ggX9_reads_X9_callOf
theorem dX9_reads_0 : decode cX9_reads 0 = .ok (.aload_n 0, 1) := by decide +kernel
theorem dX9_reads_1 : decode cX9_reads 1 = .ok (.getfield 27, 3) := by decide +kernel
theorem dX9_reads_4 : decode cX9_reads 4 = .ok (.aload_n 0, 1) := by decide +kernel
theorem dX9_reads_5 : decode cX9_reads 5 = .ok (.getfield 84, 3) := by decide +kernel
theorem dX9_reads_8 : decode cX9_reads 8 = .ok (.aload_n 0, 1) := by decide +kernel
theorem dX9_reads_9 : decode cX9_reads 9 = .ok (.invokevirtual 87, 3) := by decide +kernel
theorem dX9_reads_12 : decode cX9_reads 12 = .ok (.iastore, 1) := by decide +kernel
theorem dX9_reads_13 : decode cX9_reads 13 = .ok (.aload_n 0, 1) := by decide +kernel
theorem dX9_reads_14 : decode cX9_reads 14 = .ok (.getfield 30, 3) := by decide +kernel
theorem dX9_reads_17 : decode cX9_reads 17 = .ok (.aload_n 0, 1) := by decide +kernel
theorem dX9_reads_18 : decode cX9_reads 18 = .ok (.getfield 84, 3) := by decide +kernel
theorem dX9_reads_21 : decode cX9_reads 21 = .ok (.aload_n 0, 1) := by decide +kernel
theorem dX9_reads_22 : decode cX9_reads 22 = .ok (.getfield 81, 3) := by decide +kernel
theorem dX9_reads_25 : decode cX9_reads 25 = .ok (.iastore, 1) := by decide +kernel
theorem dX9_reads_26 : decode cX9_reads 26 = .ok (.aload_n 0, 1) := by decide +kernel
theorem dX9_reads_27 : decode cX9_reads 27 = .ok (.getfield 33, 3) := by decide +kernel
theorem dX9_reads_30 : decode cX9_reads 30 = .ok (.aload_n 0, 1) := by decide +kernel
theorem dX9_reads_31 : decode cX9_reads 31 = .ok (.getfield 84, 3) := by decide +kernel
theorem dX9_reads_34 : decode cX9_reads 34 = .ok (.iconst 0, 1) := by decide +kernel
theorem dX9_reads_35 : decode cX9_reads 35 = .ok (.iastore, 1) := by decide +kernel
theorem dX9_reads_36 : decode cX9_reads 36 = .ok (.aload_n 0, 1) := by decide +kernel
theorem dX9_reads_37 : decode cX9_reads 37 = .ok (.invokevirtual 87, 3) := by decide +kernel
theorem dX9_reads_40 : decode cX9_reads 40 = .ok (.lookupswitch 220 #[(98, 124), (99, 142), (109, 107), (110, 52), (115, 124)], 52) := by decide +kernel
theorem dX9_reads_92 : decode cX9_reads 92 = .ok (.aload_n 0, 1) := by decide +kernel
theorem dX9_reads_93 : decode cX9_reads 93 = .ok (.dup, 1) := by decide +kernel
theorem dX9_reads_94 : decode cX9_reads 94 = .ok (.getfield 75, 3) := by decide +kernel
theorem dX9_reads_97 : decode cX9_reads 97 = .ok (.iconst 1, 1) := by decide +kernel
theorem dX9_reads_98 : decode cX9_reads 98 = .ok (.iadd, 1) := by decide +kernel
theorem dX9_reads_99 : decode cX9_reads 99 = .ok (.putfield 75, 3) := by decide +kernel
theorem dX9_reads_102 : decode cX9_reads 102 = .ok (.aload_n 0, 1) := by decide +kernel
theorem dX9_reads_103 : decode cX9_reads 103 = .ok (.invokevirtual 87, 3) := by decide +kernel
theorem dX9_reads_106 : decode cX9_reads 106 = .ok (.bipush 48, 2) := by decide +kernel
theorem dX9_reads_108 : decode cX9_reads 108 = .ok (.bipush 57, 2) := by decide +kernel
theorem dX9_reads_110 : decode cX9_reads 110 = .ok (.invokestatic 56, 3) := by decide +kernel
theorem dX9_reads_113 : decode cX9_reads 113 = .ok (.ifCond .ne 10, 3) := by decide +kernel
theorem dX9_reads_116 : decode cX9_reads 116 = .ok (.aload_n 0, 1) := by decide +kernel
theorem dX9_reads_117 : decode cX9_reads 117 = .ok (.invokevirtual 91, 3) := by decide +kernel
theorem dX9_reads_120 : decode cX9_reads 120 = .ok (.goto 14, 3) := by decide +kernel
theorem dX9_reads_123 : decode cX9_reads 123 = .ok (.aload_n 0, 1) := by decide +kernel
theorem dX9_reads_124 : decode cX9_reads 124 = .ok (.aload_n 0, 1) := by decide +kernel
theorem dX9_reads_125 : decode cX9_reads 125 = .ok (.invokevirtual 87, 3) := by decide +kernel
theorem dX9_reads_128 : decode cX9_reads 128 = .ok (.bipush 48, 2) := by decide +kernel
theorem dX9_reads_130 : decode cX9_reads 130 = .ok (.isub, 1) := by decide +kernel
theorem dX9_reads_131 : decode cX9_reads 131 = .ok (.invokevirtual 94, 3) := by decide +kernel
theorem dX9_reads_134 : decode cX9_reads 134 = .ok (.aload_n 0, 1) := by decide +kernel
theorem dX9_reads_135 : decode cX9_reads 135 = .ok (.dup, 1) := by decide +kernel
theorem dX9_reads_136 : decode cX9_reads 136 = .ok (.getfield 75, 3) := by decide +kernel
theorem dX9_reads_139 : decode cX9_reads 139 = .ok (.iconst 1, 1) := by decide +kernel
theorem dX9_reads_140 : decode cX9_reads 140 = .ok (.iadd, 1) := by decide +kernel
theorem dX9_reads_141 : decode cX9_reads 141 = .ok (.putfield 75, 3) := by decide +kernel
theorem dX9_reads_144 : decode cX9_reads 144 = .ok (.goto 120, 3) := by decide +kernel
theorem dX9_reads_147 : decode cX9_reads 147 = .ok (.aload_n 0, 1) := by decide +kernel
theorem dX9_reads_148 : decode cX9_reads 148 = .ok (.dup, 1) := by decide +kernel
theorem dX9_reads_149 : decode cX9_reads 149 = .ok (.getfield 75, 3) := by decide +kernel
theorem dX9_reads_152 : decode cX9_reads 152 = .ok (.iconst 1, 1) := by decide +kernel
theorem dX9_reads_153 : decode cX9_reads 153 = .ok (.iadd, 1) := by decide +kernel
theorem dX9_reads_154 : decode cX9_reads 154 = .ok (.putfield 75, 3) := by decide +kernel
theorem dX9_reads_157 : decode cX9_reads 157 = .ok (.aload_n 0, 1) := by decide +kernel
theorem dX9_reads_158 : decode cX9_reads 158 = .ok (.invokevirtual 104, 3) := by decide +kernel
theorem dX9_reads_161 : decode cX9_reads 161 = .ok (.goto 103, 3) := by decide +kernel
theorem dX9_reads_164 : decode cX9_reads 164 = .ok (.aload_n 0, 1) := by decide +kernel
theorem dX9_reads_165 : decode cX9_reads 165 = .ok (.dup, 1) := by decide +kernel
theorem dX9_reads_166 : decode cX9_reads 166 = .ok (.getfield 75, 3) := by decide +kernel
theorem dX9_reads_169 : decode cX9_reads 169 = .ok (.iconst 1, 1) := by decide +kernel
theorem dX9_reads_170 : decode cX9_reads 170 = .ok (.iadd, 1) := by decide +kernel
theorem dX9_reads_171 : decode cX9_reads 171 = .ok (.putfield 75, 3) := by decide +kernel
theorem dX9_reads_174 : decode cX9_reads 174 = .ok (.aload_n 0, 1) := by decide +kernel
theorem dX9_reads_175 : decode cX9_reads 175 = .ok (.invokevirtual 100, 3) := by decide +kernel
theorem dX9_reads_178 : decode cX9_reads 178 = .ok (.pop, 1) := by decide +kernel
theorem dX9_reads_179 : decode cX9_reads 179 = .ok (.goto 85, 3) := by decide +kernel
theorem dX9_reads_182 : decode cX9_reads 182 = .ok (.aload_n 0, 1) := by decide +kernel
theorem dX9_reads_183 : decode cX9_reads 183 = .ok (.dup, 1) := by decide +kernel
theorem dX9_reads_184 : decode cX9_reads 184 = .ok (.getfield 75, 3) := by decide +kernel
theorem dX9_reads_187 : decode cX9_reads 187 = .ok (.iconst 1, 1) := by decide +kernel
theorem dX9_reads_188 : decode cX9_reads 188 = .ok (.iadd, 1) := by decide +kernel
theorem dX9_reads_189 : decode cX9_reads 189 = .ok (.putfield 75, 3) := by decide +kernel
theorem dX9_reads_192 : decode cX9_reads 192 = .ok (.aload_n 0, 1) := by decide +kernel
theorem dX9_reads_193 : decode cX9_reads 193 = .ok (.invokevirtual 87, 3) := by decide +kernel
theorem dX9_reads_196 : decode cX9_reads 196 = .ok (.invokestatic 107, 3) := by decide +kernel
theorem dX9_reads_199 : decode cX9_reads 199 = .ok (.iconst (-1), 1) := by decide +kernel
theorem dX9_reads_200 : decode cX9_reads 200 = .ok (.if_icmp .eq 41, 3) := by decide +kernel
theorem dX9_reads_203 : decode cX9_reads 203 = .ok (.aload_n 0, 1) := by decide +kernel
theorem dX9_reads_204 : decode cX9_reads 204 = .ok (.getfield 33, 3) := by decide +kernel
theorem dX9_reads_207 : decode cX9_reads 207 = .ok (.aload_n 0, 1) := by decide +kernel
theorem dX9_reads_208 : decode cX9_reads 208 = .ok (.getfield 84, 3) := by decide +kernel
theorem dX9_reads_211 : decode cX9_reads 211 = .ok (.iaload, 1) := by decide +kernel
theorem dX9_reads_212 : decode cX9_reads 212 = .ok (.bipush 12, 2) := by decide +kernel
theorem dX9_reads_214 : decode cX9_reads 214 = .ok (.if_icmp .ge 27, 3) := by decide +kernel
theorem dX9_reads_217 : decode cX9_reads 217 = .ok (.aload_n 0, 1) := by decide +kernel
theorem dX9_reads_218 : decode cX9_reads 218 = .ok (.aload_n 0, 1) := by decide +kernel
theorem dX9_reads_219 : decode cX9_reads 219 = .ok (.invokevirtual 87, 3) := by decide +kernel
theorem dX9_reads_222 : decode cX9_reads 222 = .ok (.invokestatic 107, 3) := by decide +kernel
theorem dX9_reads_225 : decode cX9_reads 225 = .ok (.invokevirtual 94, 3) := by decide +kernel
theorem dX9_reads_228 : decode cX9_reads 228 = .ok (.aload_n 0, 1) := by decide +kernel
theorem dX9_reads_229 : decode cX9_reads 229 = .ok (.dup, 1) := by decide +kernel
theorem dX9_reads_230 : decode cX9_reads 230 = .ok (.getfield 75, 3) := by decide +kernel
theorem dX9_reads_233 : decode cX9_reads 233 = .ok (.iconst 1, 1) := by decide +kernel
theorem dX9_reads_234 : decode cX9_reads 234 = .ok (.iadd, 1) := by decide +kernel
theorem dX9_reads_235 : decode cX9_reads 235 = .ok (.putfield 75, 3) := by decide +kernel
theorem dX9_reads_238 : decode cX9_reads 238 = .ok (.goto (-46), 3) := by decide +kernel
theorem dX9_reads_241 : decode cX9_reads 241 = .ok (.aload_n 0, 1) := by decide +kernel
theorem dX9_reads_242 : decode cX9_reads 242 = .ok (.getfield 33, 3) := by decide +kernel
theorem dX9_reads_245 : decode cX9_reads 245 = .ok (.aload_n 0, 1) := by decide +kernel
theorem dX9_reads_246 : decode cX9_reads 246 = .ok (.getfield 84, 3) := by decide +kernel
theorem dX9_reads_249 : decode cX9_reads 249 = .ok (.iaload, 1) := by decide +kernel
theorem dX9_reads_250 : decode cX9_reads 250 = .ok (.ifCond .ne 14, 3) := by decide +kernel
theorem dX9_reads_253 : decode cX9_reads 253 = .ok (.aload_n 0, 1) := by decide +kernel
theorem dX9_reads_254 : decode cX9_reads 254 = .ok (.invokevirtual 91, 3) := by decide +kernel
theorem dX9_reads_257 : decode cX9_reads 257 = .ok (.goto 7, 3) := by decide +kernel
theorem dX9_reads_260 : decode cX9_reads 260 = .ok (.aload_n 0, 1) := by decide +kernel
theorem dX9_reads_261 : decode cX9_reads 261 = .ok (.invokevirtual 91, 3) := by decide +kernel
theorem dX9_reads_264 : decode cX9_reads 264 = .ok (.aload_n 0, 1) := by decide +kernel
theorem dX9_reads_265 : decode cX9_reads 265 = .ok (.dup, 1) := by decide +kernel
theorem dX9_reads_266 : decode cX9_reads 266 = .ok (.getfield 84, 3) := by decide +kernel
theorem dX9_reads_269 : decode cX9_reads 269 = .ok (.iconst 1, 1) := by decide +kernel
theorem dX9_reads_270 : decode cX9_reads 270 = .ok (.iadd, 1) := by decide +kernel
theorem dX9_reads_271 : decode cX9_reads 271 = .ok (.putfield 84, 3) := by decide +kernel
theorem dX9_reads_274 : decode cX9_reads 274 = .ok (.return_, 1) := by decide +kernel
set_option maxRecDepth 20000 in
theorem ggX9_areGood_X9_areKept : GoodIn wsX9_areGood wsX9_areKept := goodIn_r _ [8, 9, 10, 11, 7, 12, 17, 18, 19, 20, 21, 22, 23, 24, 25, 26, 27, 28, 29, 30, 31, 32, 33, 34, 35, 36] (by decide +kernel) (by decide +kernel)
set_option maxRecDepth 20000 in
theorem gX9_areGood_X9_areKept : GoodIn wsX9_areGood (wsV RX9 60 RX9 yX9_areKept wsX9_areKept) := goodIn_app (goodIn_of _ (by decide +kernel)) ggX9_areGood_X9_areKept
set_option maxRecDepth 20000 in
theorem ggX9_areGood_X9_isGood : GoodIn wsX9_areGood wsX9_isGood := goodIn_r _ [16, 9, 17, 18, 19, 20, 21, 22, 23, 24, 25, 26, 27, 28, 29, 30, 31, 32, 33, 34, 35, 36] (by decide +kernel) (by decide +kernel)
set_option maxRecDepth 20000 in
theorem gX9_areGood_X9_isGood : GoodIn wsX9_areGood (wsV RX9 64 RX9 yX9_isGood wsX9_isGood) := goodIn_app (goodIn_of _ (by decide +kernel)) ggX9_areGood_X9_isGood
theorem dX9_areGood_0 : decode cX9_areGood 0 = .ok (.iconst 0, 1) := by decide +kernel
theorem dX9_areGood_1 : decode cX9_areGood 1 = .ok (.istore_n 2, 1) := by decide +kernel
theorem dX9_areGood_2 : decode cX9_areGood 2 = .ok (.iload_n 2, 1) := by decide +kernel
theorem dX9_areGood_3 : decode cX9_areGood 3 = .ok (.aload_n 0, 1) := by decide +kernel
theorem dX9_areGood_4 : decode cX9_areGood 4 = .ok (.getfield 33, 3) := by decide +kernel
theorem dX9_areGood_7 : decode cX9_areGood 7 = .ok (.iload_n 1, 1) := by decide +kernel
theorem dX9_areGood_8 : decode cX9_areGood 8 = .ok (.iaload, 1) := by decide +kernel
theorem dX9_areGood_9 : decode cX9_areGood 9 = .ok (.if_icmp .ge 41, 3) := by decide +kernel
theorem dX9_areGood_12 : decode cX9_areGood 12 = .ok (.aload_n 0, 1) := by decide +kernel
theorem dX9_areGood_13 : decode cX9_areGood 13 = .ok (.getfield 36, 3) := by decide +kernel
theorem dX9_areGood_16 : decode cX9_areGood 16 = .ok (.aload_n 0, 1) := by decide +kernel
theorem dX9_areGood_17 : decode cX9_areGood 17 = .ok (.getfield 30, 3) := by decide +kernel
theorem dX9_areGood_20 : decode cX9_areGood 20 = .ok (.iload_n 1, 1) := by decide +kernel
theorem dX9_areGood_21 : decode cX9_areGood 21 = .ok (.iaload, 1) := by decide +kernel
theorem dX9_areGood_22 : decode cX9_areGood 22 = .ok (.iload_n 2, 1) := by decide +kernel
theorem dX9_areGood_23 : decode cX9_areGood 23 = .ok (.iadd, 1) := by decide +kernel
theorem dX9_areGood_24 : decode cX9_areGood 24 = .ok (.iaload, 1) := by decide +kernel
theorem dX9_areGood_25 : decode cX9_areGood 25 = .ok (.istore_n 3, 1) := by decide +kernel
theorem dX9_areGood_26 : decode cX9_areGood 26 = .ok (.aload_n 0, 1) := by decide +kernel
theorem dX9_areGood_27 : decode cX9_areGood 27 = .ok (.iload_n 3, 1) := by decide +kernel
theorem dX9_areGood_28 : decode cX9_areGood 28 = .ok (.invokevirtual 60, 3) := by decide +kernel
theorem dX9_areGood_31 : decode cX9_areGood 31 = .ok (.ifCond .eq 11, 3) := by decide +kernel
theorem dX9_areGood_34 : decode cX9_areGood 34 = .ok (.aload_n 0, 1) := by decide +kernel
theorem dX9_areGood_35 : decode cX9_areGood 35 = .ok (.iload_n 3, 1) := by decide +kernel
theorem dX9_areGood_36 : decode cX9_areGood 36 = .ok (.invokevirtual 64, 3) := by decide +kernel
theorem dX9_areGood_39 : decode cX9_areGood 39 = .ok (.ifCond .ne 5, 3) := by decide +kernel
theorem dX9_areGood_42 : decode cX9_areGood 42 = .ok (.iconst 0, 1) := by decide +kernel
theorem dX9_areGood_43 : decode cX9_areGood 43 = .ok (.ireturn, 1) := by decide +kernel
theorem dX9_areGood_44 : decode cX9_areGood 44 = .ok (.iinc 2 1, 3) := by decide +kernel
theorem dX9_areGood_47 : decode cX9_areGood 47 = .ok (.goto (-45), 3) := by decide +kernel
theorem dX9_areGood_50 : decode cX9_areGood 50 = .ok (.iconst 1, 1) := by decide +kernel
theorem dX9_areGood_51 : decode cX9_areGood 51 = .ok (.ireturn, 1) := by decide +kernel
set_option maxRecDepth 20000 in
theorem ggX9_does_X9_bells : GoodIn wsX9_does wsX9_bells := goodIn_r _ [10, 4, 11, 12, 9, 13, 14, 15, 16, 17, 38, 39, 40, 41, 42, 43, 44, 45, 46, 47, 48, 49, 50, 51, 52, 53, 54, 55, 56, 57] (by decide +kernel) (by decide +kernel)
set_option maxRecDepth 20000 in
theorem gX9_does_X9_bells : GoodIn wsX9_does (wsV RX9 111 RX9 yX9_bells wsX9_bells) := goodIn_app (goodIn_of _ (by decide +kernel)) ggX9_does_X9_bells
set_option maxRecDepth 20000 in
theorem ggX9_does_X9_calls : GoodIn wsX9_does wsX9_calls := goodIn_r _ [21, 11, 12, 9, 13, 22, 23, 24, 25, 4, 26, 27, 28, 29, 30, 31, 32, 33, 38, 39, 40, 41, 42, 43, 44, 45, 46, 47, 48, 49, 50, 51, 52, 53, 54, 55, 56, 57] (by decide +kernel) (by decide +kernel)
set_option maxRecDepth 20000 in
theorem gX9_does_X9_calls : GoodIn wsX9_does (wsV RX9 114 RX9 yX9_calls wsX9_calls) := goodIn_app (goodIn_of _ (by decide +kernel)) ggX9_does_X9_calls
set_option maxRecDepth 20000 in
theorem ggX9_does_X9_areGood : GoodIn wsX9_does wsX9_areGood := goodIn_r _ [37, 5, 1, 2, 22, 23, 24, 9, 25, 4, 11, 12, 13, 26, 27, 28, 29, 38, 39, 40, 41, 42, 43, 44, 45, 46, 47, 48, 49, 50, 51, 52, 53, 54, 55, 56, 57] (by decide +kernel) (by decide +kernel)
set_option maxRecDepth 20000 in
theorem gX9_does_X9_areGood : GoodIn wsX9_does (wsV RX9 117 RX9 yX9_areGood wsX9_areGood) := goodIn_app (goodIn_of _ (by decide +kernel)) ggX9_does_X9_areGood
theorem dX9_does_0 : decode cX9_does 0 = .ok (.aload_n 0, 1) := by decide +kernel
theorem dX9_does_1 : decode cX9_does 1 = .ok (.getfield 36, 3) := by decide +kernel
theorem dX9_does_4 : decode cX9_does 4 = .ok (.aload_n 0, 1) := by decide +kernel
theorem dX9_does_5 : decode cX9_does 5 = .ok (.getfield 30, 3) := by decide +kernel
theorem dX9_does_8 : decode cX9_does 8 = .ok (.iload_n 1, 1) := by decide +kernel
theorem dX9_does_9 : decode cX9_does 9 = .ok (.iaload, 1) := by decide +kernel
theorem dX9_does_10 : decode cX9_does 10 = .ok (.iaload, 1) := by decide +kernel
theorem dX9_does_11 : decode cX9_does 11 = .ok (.istore_n 2, 1) := by decide +kernel
theorem dX9_does_12 : decode cX9_does 12 = .ok (.aload_n 0, 1) := by decide +kernel
theorem dX9_does_13 : decode cX9_does 13 = .ok (.getfield 27, 3) := by decide +kernel
theorem dX9_does_16 : decode cX9_does 16 = .ok (.iload_n 1, 1) := by decide +kernel
theorem dX9_does_17 : decode cX9_does 17 = .ok (.iaload, 1) := by decide +kernel
theorem dX9_does_18 : decode cX9_does 18 = .ok (.lookupswitch 140 #[(98, 56), (99, 86), (110, 42), (115, 71)], 42) := by decide +kernel
theorem dX9_does_60 : decode cX9_does 60 = .ok (.aload_n 0, 1) := by decide +kernel
theorem dX9_does_61 : decode cX9_does 61 = .ok (.iload_n 2, 1) := by decide +kernel
theorem dX9_does_62 : decode cX9_does 62 = .ok (.invokevirtual 111, 3) := by decide +kernel
theorem dX9_does_65 : decode cX9_does 65 = .ok (.ifCond .lt 7, 3) := by decide +kernel
theorem dX9_does_68 : decode cX9_does 68 = .ok (.iconst 1, 1) := by decide +kernel
theorem dX9_does_69 : decode cX9_does 69 = .ok (.goto 4, 3) := by decide +kernel
theorem dX9_does_72 : decode cX9_does 72 = .ok (.iconst 0, 1) := by decide +kernel
theorem dX9_does_73 : decode cX9_does 73 = .ok (.ireturn, 1) := by decide +kernel
theorem dX9_does_74 : decode cX9_does 74 = .ok (.aload_n 0, 1) := by decide +kernel
theorem dX9_does_75 : decode cX9_does 75 = .ok (.iconst 1, 1) := by decide +kernel
theorem dX9_does_76 : decode cX9_does 76 = .ok (.iload_n 2, 1) := by decide +kernel
theorem dX9_does_77 : decode cX9_does 77 = .ok (.invokevirtual 114, 3) := by decide +kernel
theorem dX9_does_80 : decode cX9_does 80 = .ok (.ifCond .lt 7, 3) := by decide +kernel
theorem dX9_does_83 : decode cX9_does 83 = .ok (.iconst 1, 1) := by decide +kernel
theorem dX9_does_84 : decode cX9_does 84 = .ok (.goto 4, 3) := by decide +kernel
theorem dX9_does_87 : decode cX9_does 87 = .ok (.iconst 0, 1) := by decide +kernel
theorem dX9_does_88 : decode cX9_does 88 = .ok (.ireturn, 1) := by decide +kernel
theorem dX9_does_89 : decode cX9_does 89 = .ok (.aload_n 0, 1) := by decide +kernel
theorem dX9_does_90 : decode cX9_does 90 = .ok (.iconst 2, 1) := by decide +kernel
theorem dX9_does_91 : decode cX9_does 91 = .ok (.iload_n 2, 1) := by decide +kernel
theorem dX9_does_92 : decode cX9_does 92 = .ok (.invokevirtual 114, 3) := by decide +kernel
theorem dX9_does_95 : decode cX9_does 95 = .ok (.ifCond .lt 7, 3) := by decide +kernel
theorem dX9_does_98 : decode cX9_does 98 = .ok (.iconst 1, 1) := by decide +kernel
theorem dX9_does_99 : decode cX9_does 99 = .ok (.goto 4, 3) := by decide +kernel
theorem dX9_does_102 : decode cX9_does 102 = .ok (.iconst 0, 1) := by decide +kernel
theorem dX9_does_103 : decode cX9_does 103 = .ok (.ireturn, 1) := by decide +kernel
theorem dX9_does_104 : decode cX9_does 104 = .ok (.aload_n 0, 1) := by decide +kernel
theorem dX9_does_105 : decode cX9_does 105 = .ok (.getfield 9, 3) := by decide +kernel
theorem dX9_does_108 : decode cX9_does 108 = .ok (.iconst 4, 1) := by decide +kernel
theorem dX9_does_109 : decode cX9_does 109 = .ok (.aload_n 0, 1) := by decide +kernel
theorem dX9_does_110 : decode cX9_does 110 = .ok (.getfield 33, 3) := by decide +kernel
theorem dX9_does_113 : decode cX9_does 113 = .ok (.iload_n 1, 1) := by decide +kernel
theorem dX9_does_114 : decode cX9_does 114 = .ok (.iaload, 1) := by decide +kernel
theorem dX9_does_115 : decode cX9_does 115 = .ok (.iastore, 1) := by decide +kernel
theorem dX9_does_116 : decode cX9_does 116 = .ok (.iconst 0, 1) := by decide +kernel
theorem dX9_does_117 : decode cX9_does 117 = .ok (.istore_n 3, 1) := by decide +kernel
theorem dX9_does_118 : decode cX9_does 118 = .ok (.iload_n 3, 1) := by decide +kernel
theorem dX9_does_119 : decode cX9_does 119 = .ok (.aload_n 0, 1) := by decide +kernel
theorem dX9_does_120 : decode cX9_does 120 = .ok (.getfield 33, 3) := by decide +kernel
theorem dX9_does_123 : decode cX9_does 123 = .ok (.iload_n 1, 1) := by decide +kernel
theorem dX9_does_124 : decode cX9_does 124 = .ok (.iaload, 1) := by decide +kernel
theorem dX9_does_125 : decode cX9_does 125 = .ok (.if_icmp .ge 31, 3) := by decide +kernel
theorem dX9_does_128 : decode cX9_does 128 = .ok (.aload_n 0, 1) := by decide +kernel
theorem dX9_does_129 : decode cX9_does 129 = .ok (.getfield 9, 3) := by decide +kernel
theorem dX9_does_132 : decode cX9_does 132 = .ok (.bipush 24, 2) := by decide +kernel
theorem dX9_does_134 : decode cX9_does 134 = .ok (.iload_n 3, 1) := by decide +kernel
theorem dX9_does_135 : decode cX9_does 135 = .ok (.iadd, 1) := by decide +kernel
theorem dX9_does_136 : decode cX9_does 136 = .ok (.aload_n 0, 1) := by decide +kernel
theorem dX9_does_137 : decode cX9_does 137 = .ok (.getfield 36, 3) := by decide +kernel
theorem dX9_does_140 : decode cX9_does 140 = .ok (.aload_n 0, 1) := by decide +kernel
theorem dX9_does_141 : decode cX9_does 141 = .ok (.getfield 30, 3) := by decide +kernel
theorem dX9_does_144 : decode cX9_does 144 = .ok (.iload_n 1, 1) := by decide +kernel
theorem dX9_does_145 : decode cX9_does 145 = .ok (.iaload, 1) := by decide +kernel
theorem dX9_does_146 : decode cX9_does 146 = .ok (.iload_n 3, 1) := by decide +kernel
theorem dX9_does_147 : decode cX9_does 147 = .ok (.iadd, 1) := by decide +kernel
theorem dX9_does_148 : decode cX9_does 148 = .ok (.iaload, 1) := by decide +kernel
theorem dX9_does_149 : decode cX9_does 149 = .ok (.iastore, 1) := by decide +kernel
theorem dX9_does_150 : decode cX9_does 150 = .ok (.iinc 3 1, 3) := by decide +kernel
theorem dX9_does_153 : decode cX9_does 153 = .ok (.goto (-35), 3) := by decide +kernel
theorem dX9_does_156 : decode cX9_does 156 = .ok (.iconst 1, 1) := by decide +kernel
theorem dX9_does_157 : decode cX9_does 157 = .ok (.ireturn, 1) := by decide +kernel
theorem dX9_does_158 : decode cX9_does 158 = .ok (.aload_n 0, 1) := by decide +kernel
theorem dX9_does_159 : decode cX9_does 159 = .ok (.iload_n 1, 1) := by decide +kernel
theorem dX9_does_160 : decode cX9_does 160 = .ok (.invokevirtual 117, 3) := by decide +kernel
theorem dX9_does_163 : decode cX9_does 163 = .ok (.ifCond .ne 5, 3) := by decide +kernel
theorem dX9_does_166 : decode cX9_does 166 = .ok (.iconst 0, 1) := by decide +kernel
theorem dX9_does_167 : decode cX9_does 167 = .ok (.ireturn, 1) := by decide +kernel
theorem dX9_does_168 : decode cX9_does 168 = .ok (.aload_n 0, 1) := by decide +kernel
theorem dX9_does_169 : decode cX9_does 169 = .ok (.getfield 9, 3) := by decide +kernel
theorem dX9_does_172 : decode cX9_does 172 = .ok (.iconst 1, 1) := by decide +kernel
theorem dX9_does_173 : decode cX9_does 173 = .ok (.aload_n 0, 1) := by decide +kernel
theorem dX9_does_174 : decode cX9_does 174 = .ok (.getfield 33, 3) := by decide +kernel
theorem dX9_does_177 : decode cX9_does 177 = .ok (.iload_n 1, 1) := by decide +kernel
theorem dX9_does_178 : decode cX9_does 178 = .ok (.iaload, 1) := by decide +kernel
theorem dX9_does_179 : decode cX9_does 179 = .ok (.iastore, 1) := by decide +kernel
theorem dX9_does_180 : decode cX9_does 180 = .ok (.iconst 0, 1) := by decide +kernel
theorem dX9_does_181 : decode cX9_does 181 = .ok (.istore_n 3, 1) := by decide +kernel
theorem dX9_does_182 : decode cX9_does 182 = .ok (.iload_n 3, 1) := by decide +kernel
theorem dX9_does_183 : decode cX9_does 183 = .ok (.aload_n 0, 1) := by decide +kernel
theorem dX9_does_184 : decode cX9_does 184 = .ok (.getfield 33, 3) := by decide +kernel
theorem dX9_does_187 : decode cX9_does 187 = .ok (.iload_n 1, 1) := by decide +kernel
theorem dX9_does_188 : decode cX9_does 188 = .ok (.iaload, 1) := by decide +kernel
theorem dX9_does_189 : decode cX9_does 189 = .ok (.if_icmp .ge 31, 3) := by decide +kernel
theorem dX9_does_192 : decode cX9_does 192 = .ok (.aload_n 0, 1) := by decide +kernel
theorem dX9_does_193 : decode cX9_does 193 = .ok (.getfield 9, 3) := by decide +kernel
theorem dX9_does_196 : decode cX9_does 196 = .ok (.bipush 8, 2) := by decide +kernel
theorem dX9_does_198 : decode cX9_does 198 = .ok (.iload_n 3, 1) := by decide +kernel
theorem dX9_does_199 : decode cX9_does 199 = .ok (.iadd, 1) := by decide +kernel
theorem dX9_does_200 : decode cX9_does 200 = .ok (.aload_n 0, 1) := by decide +kernel
theorem dX9_does_201 : decode cX9_does 201 = .ok (.getfield 36, 3) := by decide +kernel
theorem dX9_does_204 : decode cX9_does 204 = .ok (.aload_n 0, 1) := by decide +kernel
theorem dX9_does_205 : decode cX9_does 205 = .ok (.getfield 30, 3) := by decide +kernel
theorem dX9_does_208 : decode cX9_does 208 = .ok (.iload_n 1, 1) := by decide +kernel
theorem dX9_does_209 : decode cX9_does 209 = .ok (.iaload, 1) := by decide +kernel
theorem dX9_does_210 : decode cX9_does 210 = .ok (.iload_n 3, 1) := by decide +kernel
theorem dX9_does_211 : decode cX9_does 211 = .ok (.iadd, 1) := by decide +kernel
theorem dX9_does_212 : decode cX9_does 212 = .ok (.iaload, 1) := by decide +kernel
theorem dX9_does_213 : decode cX9_does 213 = .ok (.iastore, 1) := by decide +kernel
theorem dX9_does_214 : decode cX9_does 214 = .ok (.iinc 3 1, 3) := by decide +kernel
theorem dX9_does_217 : decode cX9_does 217 = .ok (.goto (-35), 3) := by decide +kernel
theorem dX9_does_220 : decode cX9_does 220 = .ok (.iconst 1, 1) := by decide +kernel
theorem dX9_does_221 : decode cX9_does 221 = .ok (.ireturn, 1) := by decide +kernel
set_option maxRecDepth 20000 in
theorem ggX9_read_X9_reads : GoodIn wsX9_read wsX9_reads := goodIn_r _ [10, 11, 3, 12, 4, 13, 1, 14, 15, 16, 9, 17, 5, 18, 19, 20, 21, 22, 23, 24, 25, 2, 26, 27, 28, 29, 30, 31, 32, 33, 34, 35, 36, 37, 38, 39, 40, 41, 42, 43, 44, 45, 79, 80, 81, 82, 83, 84, 85, 86, 87, 88, 89, 90, 91, 92, 93, 94, 95, 96, 97, 98] (by decide +kernel) (by decide +kernel)
set_option maxRecDepth 20000 in
theorem gX9_read_X9_reads : GoodIn wsX9_read (wsV RX9 120 RX9 yX9_reads wsX9_reads) := goodIn_app (goodIn_of _ (by decide +kernel)) ggX9_read_X9_reads
set_option maxRecDepth 20000 in
theorem ggX9_read_X9_sign : GoodIn wsX9_read wsX9_sign := goodIn_r _ [17, 1, 5, 18, 79, 80, 81, 82, 83, 84, 85, 86, 87, 88, 89, 90, 91, 92, 93, 94, 95, 96, 97, 98] (by decide +kernel) (by decide +kernel)
set_option maxRecDepth 20000 in
theorem gX9_read_X9_sign : GoodIn wsX9_read (wsV RX9 87 RX9 yX9_sign wsX9_sign) := goodIn_app (goodIn_of _ (by decide +kernel)) ggX9_read_X9_sign
set_option maxRecDepth 20000 in
theorem ggX9_read_X9_wrong : GoodIn wsX9_read wsX9_wrong := goodIn_r _ [25, 2, 1, 79, 80, 81, 82, 83, 84, 85, 86, 87, 88, 89, 90, 91, 92, 93, 94, 95, 96, 97, 98] (by decide +kernel) (by decide +kernel)
set_option maxRecDepth 20000 in
theorem gX9_read_X9_wrong : GoodIn wsX9_read (wsV RX9 91 RX9 yX9_wrong wsX9_wrong) := goodIn_app (goodIn_of _ (by decide +kernel)) ggX9_read_X9_wrong
set_option maxRecDepth 20000 in
theorem ggX9_read_X9_does : GoodIn wsX9_read wsX9_does := goodIn_r _ [49, 30, 12, 11, 50, 13, 51, 52, 53, 9, 54, 19, 20, 21, 55, 56, 57, 58, 59, 60, 61, 62, 63, 64, 65, 66, 67, 68, 69, 70, 71, 72, 73, 74, 75, 76, 77, 78, 79, 80, 81, 82, 83, 84, 85, 86, 87, 88, 89, 90, 91, 92, 93, 94, 95, 96, 97, 98] (by decide +kernel) (by decide +kernel)
set_option maxRecDepth 20000 in
theorem gX9_read_X9_does : GoodIn wsX9_read (wsV RX9 123 RX9 yX9_does wsX9_does) := goodIn_app (goodIn_of _ (by decide +kernel)) ggX9_read_X9_does
theorem dX9_read_0 : decode cX9_read 0 = .ok (.aload_n 0, 1) := by decide +kernel
theorem dX9_read_1 : decode cX9_read 1 = .ok (.iconst 0, 1) := by decide +kernel
theorem dX9_read_2 : decode cX9_read 2 = .ok (.putfield 75, 3) := by decide +kernel
theorem dX9_read_5 : decode cX9_read 5 = .ok (.aload_n 0, 1) := by decide +kernel
theorem dX9_read_6 : decode cX9_read 6 = .ok (.iconst (-1), 1) := by decide +kernel
theorem dX9_read_7 : decode cX9_read 7 = .ok (.putfield 78, 3) := by decide +kernel
theorem dX9_read_10 : decode cX9_read 10 = .ok (.aload_n 0, 1) := by decide +kernel
theorem dX9_read_11 : decode cX9_read 11 = .ok (.iconst 0, 1) := by decide +kernel
theorem dX9_read_12 : decode cX9_read 12 = .ok (.putfield 84, 3) := by decide +kernel
theorem dX9_read_15 : decode cX9_read 15 = .ok (.aload_n 0, 1) := by decide +kernel
theorem dX9_read_16 : decode cX9_read 16 = .ok (.iconst 0, 1) := by decide +kernel
theorem dX9_read_17 : decode cX9_read 17 = .ok (.putfield 81, 3) := by decide +kernel
theorem dX9_read_20 : decode cX9_read 20 = .ok (.iconst 1, 1) := by decide +kernel
theorem dX9_read_21 : decode cX9_read 21 = .ok (.istore_n 1, 1) := by decide +kernel
theorem dX9_read_22 : decode cX9_read 22 = .ok (.iload_n 1, 1) := by decide +kernel
theorem dX9_read_23 : decode cX9_read 23 = .ok (.ifCond .eq 80, 3) := by decide +kernel
theorem dX9_read_26 : decode cX9_read 26 = .ok (.aload_n 0, 1) := by decide +kernel
theorem dX9_read_27 : decode cX9_read 27 = .ok (.getfield 78, 3) := by decide +kernel
theorem dX9_read_30 : decode cX9_read 30 = .ok (.ifCond .ge 73, 3) := by decide +kernel
theorem dX9_read_33 : decode cX9_read 33 = .ok (.aload_n 0, 1) := by decide +kernel
theorem dX9_read_34 : decode cX9_read 34 = .ok (.invokevirtual 120, 3) := by decide +kernel
theorem dX9_read_37 : decode cX9_read 37 = .ok (.aload_n 0, 1) := by decide +kernel
theorem dX9_read_38 : decode cX9_read 38 = .ok (.getfield 78, 3) := by decide +kernel
theorem dX9_read_41 : decode cX9_read 41 = .ok (.ifCond .lt 6, 3) := by decide +kernel
theorem dX9_read_44 : decode cX9_read 44 = .ok (.goto 59, 3) := by decide +kernel
theorem dX9_read_47 : decode cX9_read 47 = .ok (.aload_n 0, 1) := by decide +kernel
theorem dX9_read_48 : decode cX9_read 48 = .ok (.getfield 75, 3) := by decide +kernel
theorem dX9_read_51 : decode cX9_read 51 = .ok (.aload_n 0, 1) := by decide +kernel
theorem dX9_read_52 : decode cX9_read 52 = .ok (.getfield 71, 3) := by decide +kernel
theorem dX9_read_55 : decode cX9_read 55 = .ok (.if_icmp .ge 7, 3) := by decide +kernel
theorem dX9_read_58 : decode cX9_read 58 = .ok (.iconst 1, 1) := by decide +kernel
theorem dX9_read_59 : decode cX9_read 59 = .ok (.goto 4, 3) := by decide +kernel
theorem dX9_read_62 : decode cX9_read 62 = .ok (.iconst 0, 1) := by decide +kernel
theorem dX9_read_63 : decode cX9_read 63 = .ok (.istore_n 1, 1) := by decide +kernel
theorem dX9_read_64 : decode cX9_read 64 = .ok (.iload_n 1, 1) := by decide +kernel
theorem dX9_read_65 : decode cX9_read 65 = .ok (.ifCond .eq 25, 3) := by decide +kernel
theorem dX9_read_68 : decode cX9_read 68 = .ok (.aload_n 0, 1) := by decide +kernel
theorem dX9_read_69 : decode cX9_read 69 = .ok (.invokevirtual 87, 3) := by decide +kernel
theorem dX9_read_72 : decode cX9_read 72 = .ok (.bipush 59, 2) := by decide +kernel
theorem dX9_read_74 : decode cX9_read 74 = .ok (.if_icmp .ne 12, 3) := by decide +kernel
theorem dX9_read_77 : decode cX9_read 77 = .ok (.aload_n 0, 1) := by decide +kernel
theorem dX9_read_78 : decode cX9_read 78 = .ok (.getfield 84, 3) := by decide +kernel
theorem dX9_read_81 : decode cX9_read 81 = .ok (.bipush 10, 2) := by decide +kernel
theorem dX9_read_83 : decode cX9_read 83 = .ok (.if_icmp .ne 7, 3) := by decide +kernel
theorem dX9_read_86 : decode cX9_read 86 = .ok (.aload_n 0, 1) := by decide +kernel
theorem dX9_read_87 : decode cX9_read 87 = .ok (.invokevirtual 91, 3) := by decide +kernel
theorem dX9_read_90 : decode cX9_read 90 = .ok (.aload_n 0, 1) := by decide +kernel
theorem dX9_read_91 : decode cX9_read 91 = .ok (.dup, 1) := by decide +kernel
theorem dX9_read_92 : decode cX9_read 92 = .ok (.getfield 75, 3) := by decide +kernel
theorem dX9_read_95 : decode cX9_read 95 = .ok (.iconst 1, 1) := by decide +kernel
theorem dX9_read_96 : decode cX9_read 96 = .ok (.iadd, 1) := by decide +kernel
theorem dX9_read_97 : decode cX9_read 97 = .ok (.putfield 75, 3) := by decide +kernel
theorem dX9_read_100 : decode cX9_read 100 = .ok (.goto (-78), 3) := by decide +kernel
theorem dX9_read_103 : decode cX9_read 103 = .ok (.aload_n 0, 1) := by decide +kernel
theorem dX9_read_104 : decode cX9_read 104 = .ok (.iconst 0, 1) := by decide +kernel
theorem dX9_read_105 : decode cX9_read 105 = .ok (.putfield 71, 3) := by decide +kernel
theorem dX9_read_108 : decode cX9_read 108 = .ok (.aload_n 0, 1) := by decide +kernel
theorem dX9_read_109 : decode cX9_read 109 = .ok (.getfield 78, 3) := by decide +kernel
theorem dX9_read_112 : decode cX9_read 112 = .ok (.ifCond .lt 11, 3) := by decide +kernel
theorem dX9_read_115 : decode cX9_read 115 = .ok (.bipush (-10), 2) := by decide +kernel
theorem dX9_read_117 : decode cX9_read 117 = .ok (.aload_n 0, 1) := by decide +kernel
theorem dX9_read_118 : decode cX9_read 118 = .ok (.getfield 78, 3) := by decide +kernel
theorem dX9_read_121 : decode cX9_read 121 = .ok (.isub, 1) := by decide +kernel
theorem dX9_read_122 : decode cX9_read 122 = .ok (.ireturn, 1) := by decide +kernel
theorem dX9_read_123 : decode cX9_read 123 = .ok (.iconst 0, 1) := by decide +kernel
theorem dX9_read_124 : decode cX9_read 124 = .ok (.istore_n 2, 1) := by decide +kernel
theorem dX9_read_125 : decode cX9_read 125 = .ok (.iconst 0, 1) := by decide +kernel
theorem dX9_read_126 : decode cX9_read 126 = .ok (.istore_n 3, 1) := by decide +kernel
theorem dX9_read_127 : decode cX9_read 127 = .ok (.iload_n 3, 1) := by decide +kernel
theorem dX9_read_128 : decode cX9_read 128 = .ok (.aload_n 0, 1) := by decide +kernel
theorem dX9_read_129 : decode cX9_read 129 = .ok (.getfield 84, 3) := by decide +kernel
theorem dX9_read_132 : decode cX9_read 132 = .ok (.if_icmp .ge 20, 3) := by decide +kernel
theorem dX9_read_135 : decode cX9_read 135 = .ok (.aload_n 0, 1) := by decide +kernel
theorem dX9_read_136 : decode cX9_read 136 = .ok (.iload_n 3, 1) := by decide +kernel
theorem dX9_read_137 : decode cX9_read 137 = .ok (.invokevirtual 123, 3) := by decide +kernel
theorem dX9_read_140 : decode cX9_read 140 = .ok (.ifCond .eq 6, 3) := by decide +kernel
theorem dX9_read_143 : decode cX9_read 143 = .ok (.iinc 2 1, 3) := by decide +kernel
theorem dX9_read_146 : decode cX9_read 146 = .ok (.iinc 3 1, 3) := by decide +kernel
theorem dX9_read_149 : decode cX9_read 149 = .ok (.goto (-22), 3) := by decide +kernel
theorem dX9_read_152 : decode cX9_read 152 = .ok (.iload_n 2, 1) := by decide +kernel
theorem dX9_read_153 : decode cX9_read 153 = .ok (.ireturn, 1) := by decide +kernel
set_option maxRecDepth 20000 in
theorem ggX9_goes_X9_keys : GoodIn wsX9_goes wsX9_keys := goodIn_r _ [7, 1, 2, 8, 9, 10, 11, 12, 13, 14, 15, 16, 17, 18, 19, 20, 21, 22, 23, 24, 25, 26, 27, 28] (by decide +kernel) (by decide +kernel)
set_option maxRecDepth 20000 in
theorem gX9_goes_X9_keys : GoodIn wsX9_goes (wsV RX9 126 RX9 yX9_keys wsX9_keys) := goodIn_app (goodIn_of _ (by decide +kernel)) ggX9_goes_X9_keys
theorem dX9_goes_0 : decode cX9_goes 0 = .ok (.aload_n 0, 1) := by decide +kernel
theorem dX9_goes_1 : decode cX9_goes 1 = .ok (.getfield 9, 3) := by decide +kernel
theorem dX9_goes_4 : decode cX9_goes 4 = .ok (.iconst 0, 1) := by decide +kernel
theorem dX9_goes_5 : decode cX9_goes 5 = .ok (.iaload, 1) := by decide +kernel
theorem dX9_goes_6 : decode cX9_goes 6 = .ok (.istore_n 3, 1) := by decide +kernel
theorem dX9_goes_7 : decode cX9_goes 7 = .ok (.iconst 0, 1) := by decide +kernel
theorem dX9_goes_8 : decode cX9_goes 8 = .ok (.istore 4, 2) := by decide +kernel
theorem dX9_goes_10 : decode cX9_goes 10 = .ok (.iload 4, 2) := by decide +kernel
theorem dX9_goes_12 : decode cX9_goes 12 = .ok (.iload_n 3, 1) := by decide +kernel
theorem dX9_goes_13 : decode cX9_goes 13 = .ok (.if_icmp .ge 108, 3) := by decide +kernel
theorem dX9_goes_16 : decode cX9_goes 16 = .ok (.iload_n 2, 1) := by decide +kernel
theorem dX9_goes_17 : decode cX9_goes 17 = .ok (.iload 4, 2) := by decide +kernel
theorem dX9_goes_19 : decode cX9_goes 19 = .ok (.ishr, 1) := by decide +kernel
theorem dX9_goes_20 : decode cX9_goes 20 = .ok (.iconst 1, 1) := by decide +kernel
theorem dX9_goes_21 : decode cX9_goes 21 = .ok (.iand, 1) := by decide +kernel
theorem dX9_goes_22 : decode cX9_goes 22 = .ok (.iconst 1, 1) := by decide +kernel
theorem dX9_goes_23 : decode cX9_goes 23 = .ok (.if_icmp .ne 36, 3) := by decide +kernel
theorem dX9_goes_26 : decode cX9_goes 26 = .ok (.aload_n 0, 1) := by decide +kernel
theorem dX9_goes_27 : decode cX9_goes 27 = .ok (.getfield 18, 3) := by decide +kernel
theorem dX9_goes_30 : decode cX9_goes 30 = .ok (.bipush 8, 2) := by decide +kernel
theorem dX9_goes_32 : decode cX9_goes 32 = .ok (.iload_n 1, 1) := by decide +kernel
theorem dX9_goes_33 : decode cX9_goes 33 = .ok (.imul, 1) := by decide +kernel
theorem dX9_goes_34 : decode cX9_goes 34 = .ok (.bipush 8, 2) := by decide +kernel
theorem dX9_goes_36 : decode cX9_goes 36 = .ok (.iadd, 1) := by decide +kernel
theorem dX9_goes_37 : decode cX9_goes 37 = .ok (.iload 4, 2) := by decide +kernel
theorem dX9_goes_39 : decode cX9_goes 39 = .ok (.iadd, 1) := by decide +kernel
theorem dX9_goes_40 : decode cX9_goes 40 = .ok (.aload_n 0, 1) := by decide +kernel
theorem dX9_goes_41 : decode cX9_goes 41 = .ok (.getfield 18, 3) := by decide +kernel
theorem dX9_goes_44 : decode cX9_goes 44 = .ok (.bipush 8, 2) := by decide +kernel
theorem dX9_goes_46 : decode cX9_goes 46 = .ok (.iload_n 1, 1) := by decide +kernel
theorem dX9_goes_47 : decode cX9_goes 47 = .ok (.imul, 1) := by decide +kernel
theorem dX9_goes_48 : decode cX9_goes 48 = .ok (.iload 4, 2) := by decide +kernel
theorem dX9_goes_50 : decode cX9_goes 50 = .ok (.iadd, 1) := by decide +kernel
theorem dX9_goes_51 : decode cX9_goes 51 = .ok (.iaload, 1) := by decide +kernel
theorem dX9_goes_52 : decode cX9_goes 52 = .ok (.iastore, 1) := by decide +kernel
theorem dX9_goes_53 : decode cX9_goes 53 = .ok (.iinc 4 1, 3) := by decide +kernel
theorem dX9_goes_56 : decode cX9_goes 56 = .ok (.goto (-46), 3) := by decide +kernel
theorem dX9_goes_59 : decode cX9_goes 59 = .ok (.aload_n 0, 1) := by decide +kernel
theorem dX9_goes_60 : decode cX9_goes 60 = .ok (.getfield 18, 3) := by decide +kernel
theorem dX9_goes_63 : decode cX9_goes 63 = .ok (.bipush 8, 2) := by decide +kernel
theorem dX9_goes_65 : decode cX9_goes 65 = .ok (.iload_n 1, 1) := by decide +kernel
theorem dX9_goes_66 : decode cX9_goes 66 = .ok (.imul, 1) := by decide +kernel
theorem dX9_goes_67 : decode cX9_goes 67 = .ok (.bipush 8, 2) := by decide +kernel
theorem dX9_goes_69 : decode cX9_goes 69 = .ok (.iadd, 1) := by decide +kernel
theorem dX9_goes_70 : decode cX9_goes 70 = .ok (.iload 4, 2) := by decide +kernel
theorem dX9_goes_72 : decode cX9_goes 72 = .ok (.iadd, 1) := by decide +kernel
theorem dX9_goes_73 : decode cX9_goes 73 = .ok (.aload_n 0, 1) := by decide +kernel
theorem dX9_goes_74 : decode cX9_goes 74 = .ok (.getfield 18, 3) := by decide +kernel
theorem dX9_goes_77 : decode cX9_goes 77 = .ok (.bipush 8, 2) := by decide +kernel
theorem dX9_goes_79 : decode cX9_goes 79 = .ok (.iload_n 1, 1) := by decide +kernel
theorem dX9_goes_80 : decode cX9_goes 80 = .ok (.imul, 1) := by decide +kernel
theorem dX9_goes_81 : decode cX9_goes 81 = .ok (.iload 4, 2) := by decide +kernel
theorem dX9_goes_83 : decode cX9_goes 83 = .ok (.iadd, 1) := by decide +kernel
theorem dX9_goes_84 : decode cX9_goes 84 = .ok (.iconst 1, 1) := by decide +kernel
theorem dX9_goes_85 : decode cX9_goes 85 = .ok (.iadd, 1) := by decide +kernel
theorem dX9_goes_86 : decode cX9_goes 86 = .ok (.iaload, 1) := by decide +kernel
theorem dX9_goes_87 : decode cX9_goes 87 = .ok (.iastore, 1) := by decide +kernel
theorem dX9_goes_88 : decode cX9_goes 88 = .ok (.aload_n 0, 1) := by decide +kernel
theorem dX9_goes_89 : decode cX9_goes 89 = .ok (.getfield 18, 3) := by decide +kernel
theorem dX9_goes_92 : decode cX9_goes 92 = .ok (.bipush 8, 2) := by decide +kernel
theorem dX9_goes_94 : decode cX9_goes 94 = .ok (.iload_n 1, 1) := by decide +kernel
theorem dX9_goes_95 : decode cX9_goes 95 = .ok (.imul, 1) := by decide +kernel
theorem dX9_goes_96 : decode cX9_goes 96 = .ok (.bipush 9, 2) := by decide +kernel
theorem dX9_goes_98 : decode cX9_goes 98 = .ok (.iadd, 1) := by decide +kernel
theorem dX9_goes_99 : decode cX9_goes 99 = .ok (.iload 4, 2) := by decide +kernel
theorem dX9_goes_101 : decode cX9_goes 101 = .ok (.iadd, 1) := by decide +kernel
theorem dX9_goes_102 : decode cX9_goes 102 = .ok (.aload_n 0, 1) := by decide +kernel
theorem dX9_goes_103 : decode cX9_goes 103 = .ok (.getfield 18, 3) := by decide +kernel
theorem dX9_goes_106 : decode cX9_goes 106 = .ok (.bipush 8, 2) := by decide +kernel
theorem dX9_goes_108 : decode cX9_goes 108 = .ok (.iload_n 1, 1) := by decide +kernel
theorem dX9_goes_109 : decode cX9_goes 109 = .ok (.imul, 1) := by decide +kernel
theorem dX9_goes_110 : decode cX9_goes 110 = .ok (.iload 4, 2) := by decide +kernel
theorem dX9_goes_112 : decode cX9_goes 112 = .ok (.iadd, 1) := by decide +kernel
theorem dX9_goes_113 : decode cX9_goes 113 = .ok (.iaload, 1) := by decide +kernel
theorem dX9_goes_114 : decode cX9_goes 114 = .ok (.iastore, 1) := by decide +kernel
theorem dX9_goes_115 : decode cX9_goes 115 = .ok (.iinc 4 2, 3) := by decide +kernel
theorem dX9_goes_118 : decode cX9_goes 118 = .ok (.goto (-108), 3) := by decide +kernel
theorem dX9_goes_121 : decode cX9_goes 121 = .ok (.aload_n 0, 1) := by decide +kernel
theorem dX9_goes_122 : decode cX9_goes 122 = .ok (.iload_n 1, 1) := by decide +kernel
theorem dX9_goes_123 : decode cX9_goes 123 = .ok (.iconst 1, 1) := by decide +kernel
theorem dX9_goes_124 : decode cX9_goes 124 = .ok (.iadd, 1) := by decide +kernel
theorem dX9_goes_125 : decode cX9_goes 125 = .ok (.invokevirtual 126, 3) := by decide +kernel
theorem dX9_goes_128 : decode cX9_goes 128 = .ok (.return_, 1) := by decide +kernel
theorem dX9_keys_0 : decode cX9_keys 0 = .ok (.iconst 0, 1) := by decide +kernel
theorem dX9_keys_1 : decode cX9_keys 1 = .ok (.istore_n 2, 1) := by decide +kernel
theorem dX9_keys_2 : decode cX9_keys 2 = .ok (.iconst 0, 1) := by decide +kernel
theorem dX9_keys_3 : decode cX9_keys 3 = .ok (.istore_n 3, 1) := by decide +kernel
theorem dX9_keys_4 : decode cX9_keys 4 = .ok (.iload_n 3, 1) := by decide +kernel
theorem dX9_keys_5 : decode cX9_keys 5 = .ok (.aload_n 0, 1) := by decide +kernel
theorem dX9_keys_6 : decode cX9_keys 6 = .ok (.getfield 9, 3) := by decide +kernel
theorem dX9_keys_9 : decode cX9_keys 9 = .ok (.iconst 0, 1) := by decide +kernel
theorem dX9_keys_10 : decode cX9_keys 10 = .ok (.iaload, 1) := by decide +kernel
theorem dX9_keys_11 : decode cX9_keys 11 = .ok (.if_icmp .ge 28, 3) := by decide +kernel
theorem dX9_keys_14 : decode cX9_keys 14 = .ok (.bipush 8, 2) := by decide +kernel
theorem dX9_keys_16 : decode cX9_keys 16 = .ok (.iload_n 2, 1) := by decide +kernel
theorem dX9_keys_17 : decode cX9_keys 17 = .ok (.imul, 1) := by decide +kernel
theorem dX9_keys_18 : decode cX9_keys 18 = .ok (.aload_n 0, 1) := by decide +kernel
theorem dX9_keys_19 : decode cX9_keys 19 = .ok (.getfield 18, 3) := by decide +kernel
theorem dX9_keys_22 : decode cX9_keys 22 = .ok (.bipush 8, 2) := by decide +kernel
theorem dX9_keys_24 : decode cX9_keys 24 = .ok (.iload_n 1, 1) := by decide +kernel
theorem dX9_keys_25 : decode cX9_keys 25 = .ok (.imul, 1) := by decide +kernel
theorem dX9_keys_26 : decode cX9_keys 26 = .ok (.iload_n 3, 1) := by decide +kernel
theorem dX9_keys_27 : decode cX9_keys 27 = .ok (.iadd, 1) := by decide +kernel
theorem dX9_keys_28 : decode cX9_keys 28 = .ok (.iaload, 1) := by decide +kernel
theorem dX9_keys_29 : decode cX9_keys 29 = .ok (.iadd, 1) := by decide +kernel
theorem dX9_keys_30 : decode cX9_keys 30 = .ok (.iconst 1, 1) := by decide +kernel
theorem dX9_keys_31 : decode cX9_keys 31 = .ok (.isub, 1) := by decide +kernel
theorem dX9_keys_32 : decode cX9_keys 32 = .ok (.istore_n 2, 1) := by decide +kernel
theorem dX9_keys_33 : decode cX9_keys 33 = .ok (.iinc 3 1, 3) := by decide +kernel
theorem dX9_keys_36 : decode cX9_keys 36 = .ok (.goto (-32), 3) := by decide +kernel
theorem dX9_keys_39 : decode cX9_keys 39 = .ok (.aload_n 0, 1) := by decide +kernel
theorem dX9_keys_40 : decode cX9_keys 40 = .ok (.getfield 21, 3) := by decide +kernel
theorem dX9_keys_43 : decode cX9_keys 43 = .ok (.iload_n 1, 1) := by decide +kernel
theorem dX9_keys_44 : decode cX9_keys 44 = .ok (.iload_n 2, 1) := by decide +kernel
theorem dX9_keys_45 : decode cX9_keys 45 = .ok (.iastore, 1) := by decide +kernel
theorem dX9_keys_46 : decode cX9_keys 46 = .ok (.return_, 1) := by decide +kernel
set_option maxRecDepth 20000 in
theorem ggX9_rings_X9_keys : GoodIn wsX9_rings wsX9_keys := goodIn_r _ [8, 1, 2, 9, 14, 15, 16, 17, 18, 19, 20, 21, 22, 23, 24, 25, 26, 27, 28, 29, 30, 31, 32, 33] (by decide +kernel) (by decide +kernel)
set_option maxRecDepth 20000 in
theorem gX9_rings_X9_keys : GoodIn wsX9_rings (wsV RX9 126 RX9 yX9_keys wsX9_keys) := goodIn_app (goodIn_of _ (by decide +kernel)) ggX9_rings_X9_keys
set_option maxRecDepth 20000 in
theorem ggX9_rings_X9_goes : GoodIn wsX9_rings wsX9_goes := goodIn_r _ [13, 1, 2, 4, 5, 6, 7, 8, 9, 14, 15, 16, 17, 18, 19, 20, 21, 22, 23, 24, 25, 26, 27, 28, 29, 30, 31, 32, 33] (by decide +kernel) (by decide +kernel)
set_option maxRecDepth 20000 in
theorem gX9_rings_X9_goes : GoodIn wsX9_rings (wsV RX9 132 RX9 yX9_goes wsX9_goes) := goodIn_app (goodIn_of _ (by decide +kernel)) ggX9_rings_X9_goes
theorem dX9_rings_0 : decode cX9_rings 0 = .ok (.iconst 0, 1) := by decide +kernel
theorem dX9_rings_1 : decode cX9_rings 1 = .ok (.istore_n 1, 1) := by decide +kernel
theorem dX9_rings_2 : decode cX9_rings 2 = .ok (.iload_n 1, 1) := by decide +kernel
theorem dX9_rings_3 : decode cX9_rings 3 = .ok (.aload_n 0, 1) := by decide +kernel
theorem dX9_rings_4 : decode cX9_rings 4 = .ok (.getfield 9, 3) := by decide +kernel
theorem dX9_rings_7 : decode cX9_rings 7 = .ok (.iconst 0, 1) := by decide +kernel
theorem dX9_rings_8 : decode cX9_rings 8 = .ok (.iaload, 1) := by decide +kernel
theorem dX9_rings_9 : decode cX9_rings 9 = .ok (.if_icmp .ge 18, 3) := by decide +kernel
theorem dX9_rings_12 : decode cX9_rings 12 = .ok (.aload_n 0, 1) := by decide +kernel
theorem dX9_rings_13 : decode cX9_rings 13 = .ok (.getfield 18, 3) := by decide +kernel
theorem dX9_rings_16 : decode cX9_rings 16 = .ok (.iload_n 1, 1) := by decide +kernel
theorem dX9_rings_17 : decode cX9_rings 17 = .ok (.iload_n 1, 1) := by decide +kernel
theorem dX9_rings_18 : decode cX9_rings 18 = .ok (.iconst 1, 1) := by decide +kernel
theorem dX9_rings_19 : decode cX9_rings 19 = .ok (.iadd, 1) := by decide +kernel
theorem dX9_rings_20 : decode cX9_rings 20 = .ok (.iastore, 1) := by decide +kernel
theorem dX9_rings_21 : decode cX9_rings 21 = .ok (.iinc 1 1, 3) := by decide +kernel
theorem dX9_rings_24 : decode cX9_rings 24 = .ok (.goto (-22), 3) := by decide +kernel
theorem dX9_rings_27 : decode cX9_rings 27 = .ok (.aload_n 0, 1) := by decide +kernel
theorem dX9_rings_28 : decode cX9_rings 28 = .ok (.iconst 0, 1) := by decide +kernel
theorem dX9_rings_29 : decode cX9_rings 29 = .ok (.invokevirtual 126, 3) := by decide +kernel
theorem dX9_rings_32 : decode cX9_rings 32 = .ok (.aload_n 0, 1) := by decide +kernel
theorem dX9_rings_33 : decode cX9_rings 33 = .ok (.getfield 9, 3) := by decide +kernel
theorem dX9_rings_36 : decode cX9_rings 36 = .ok (.iconst 1, 1) := by decide +kernel
theorem dX9_rings_37 : decode cX9_rings 37 = .ok (.iaload, 1) := by decide +kernel
theorem dX9_rings_38 : decode cX9_rings 38 = .ok (.istore_n 1, 1) := by decide +kernel
theorem dX9_rings_39 : decode cX9_rings 39 = .ok (.aload_n 0, 1) := by decide +kernel
theorem dX9_rings_40 : decode cX9_rings 40 = .ok (.iload_n 1, 1) := by decide +kernel
theorem dX9_rings_41 : decode cX9_rings 41 = .ok (.aload_n 0, 1) := by decide +kernel
theorem dX9_rings_42 : decode cX9_rings 42 = .ok (.getfield 9, 3) := by decide +kernel
theorem dX9_rings_45 : decode cX9_rings 45 = .ok (.iconst 4, 1) := by decide +kernel
theorem dX9_rings_46 : decode cX9_rings 46 = .ok (.iaload, 1) := by decide +kernel
theorem dX9_rings_47 : decode cX9_rings 47 = .ok (.imul, 1) := by decide +kernel
theorem dX9_rings_48 : decode cX9_rings 48 = .ok (.putfield 129, 3) := by decide +kernel
theorem dX9_rings_51 : decode cX9_rings 51 = .ok (.iconst 0, 1) := by decide +kernel
theorem dX9_rings_52 : decode cX9_rings 52 = .ok (.istore_n 2, 1) := by decide +kernel
theorem dX9_rings_53 : decode cX9_rings 53 = .ok (.iload_n 2, 1) := by decide +kernel
theorem dX9_rings_54 : decode cX9_rings 54 = .ok (.aload_n 0, 1) := by decide +kernel
theorem dX9_rings_55 : decode cX9_rings 55 = .ok (.getfield 129, 3) := by decide +kernel
theorem dX9_rings_58 : decode cX9_rings 58 = .ok (.if_icmp .ge 77, 3) := by decide +kernel
theorem dX9_rings_61 : decode cX9_rings 61 = .ok (.aload_n 0, 1) := by decide +kernel
theorem dX9_rings_62 : decode cX9_rings 62 = .ok (.getfield 9, 3) := by decide +kernel
theorem dX9_rings_65 : decode cX9_rings 65 = .ok (.bipush 8, 2) := by decide +kernel
theorem dX9_rings_67 : decode cX9_rings 67 = .ok (.iload_n 2, 1) := by decide +kernel
theorem dX9_rings_68 : decode cX9_rings 68 = .ok (.iload_n 1, 1) := by decide +kernel
theorem dX9_rings_69 : decode cX9_rings 69 = .ok (.irem, 1) := by decide +kernel
theorem dX9_rings_70 : decode cX9_rings 70 = .ok (.iadd, 1) := by decide +kernel
theorem dX9_rings_71 : decode cX9_rings 71 = .ok (.iaload, 1) := by decide +kernel
theorem dX9_rings_72 : decode cX9_rings 72 = .ok (.istore_n 3, 1) := by decide +kernel
theorem dX9_rings_73 : decode cX9_rings 73 = .ok (.aload_n 0, 1) := by decide +kernel
theorem dX9_rings_74 : decode cX9_rings 74 = .ok (.getfield 9, 3) := by decide +kernel
theorem dX9_rings_77 : decode cX9_rings 77 = .ok (.bipush 24, 2) := by decide +kernel
theorem dX9_rings_79 : decode cX9_rings 79 = .ok (.iload_n 2, 1) := by decide +kernel
theorem dX9_rings_80 : decode cX9_rings 80 = .ok (.iload_n 1, 1) := by decide +kernel
theorem dX9_rings_81 : decode cX9_rings 81 = .ok (.idiv, 1) := by decide +kernel
theorem dX9_rings_82 : decode cX9_rings 82 = .ok (.iadd, 1) := by decide +kernel
theorem dX9_rings_83 : decode cX9_rings 83 = .ok (.iaload, 1) := by decide +kernel
theorem dX9_rings_84 : decode cX9_rings 84 = .ok (.istore 4, 2) := by decide +kernel
theorem dX9_rings_86 : decode cX9_rings 86 = .ok (.iload_n 2, 1) := by decide +kernel
theorem dX9_rings_87 : decode cX9_rings 87 = .ok (.iload_n 1, 1) := by decide +kernel
theorem dX9_rings_88 : decode cX9_rings 88 = .ok (.irem, 1) := by decide +kernel
theorem dX9_rings_89 : decode cX9_rings 89 = .ok (.iload_n 1, 1) := by decide +kernel
theorem dX9_rings_90 : decode cX9_rings 90 = .ok (.iconst 1, 1) := by decide +kernel
theorem dX9_rings_91 : decode cX9_rings 91 = .ok (.isub, 1) := by decide +kernel
theorem dX9_rings_92 : decode cX9_rings 92 = .ok (.if_icmp .ne 31, 3) := by decide +kernel
theorem dX9_rings_95 : decode cX9_rings 95 = .ok (.iload 4, 2) := by decide +kernel
theorem dX9_rings_97 : decode cX9_rings 97 = .ok (.ifCond .eq 26, 3) := by decide +kernel
theorem dX9_rings_100 : decode cX9_rings 100 = .ok (.aload_n 0, 1) := by decide +kernel
theorem dX9_rings_101 : decode cX9_rings 101 = .ok (.getfield 9, 3) := by decide +kernel
theorem dX9_rings_104 : decode cX9_rings 104 = .ok (.iconst 1, 1) := by decide +kernel
theorem dX9_rings_105 : decode cX9_rings 105 = .ok (.iload 4, 2) := by decide +kernel
theorem dX9_rings_107 : decode cX9_rings 107 = .ok (.iadd, 1) := by decide +kernel
theorem dX9_rings_108 : decode cX9_rings 108 = .ok (.iaload, 1) := by decide +kernel
theorem dX9_rings_109 : decode cX9_rings 109 = .ok (.iconst (-1), 1) := by decide +kernel
theorem dX9_rings_110 : decode cX9_rings 110 = .ok (.if_icmp .eq 13, 3) := by decide +kernel
theorem dX9_rings_113 : decode cX9_rings 113 = .ok (.aload_n 0, 1) := by decide +kernel
theorem dX9_rings_114 : decode cX9_rings 114 = .ok (.getfield 9, 3) := by decide +kernel
theorem dX9_rings_117 : decode cX9_rings 117 = .ok (.iconst 1, 1) := by decide +kernel
theorem dX9_rings_118 : decode cX9_rings 118 = .ok (.iload 4, 2) := by decide +kernel
theorem dX9_rings_120 : decode cX9_rings 120 = .ok (.iadd, 1) := by decide +kernel
theorem dX9_rings_121 : decode cX9_rings 121 = .ok (.iaload, 1) := by decide +kernel
theorem dX9_rings_122 : decode cX9_rings 122 = .ok (.istore_n 3, 1) := by decide +kernel
theorem dX9_rings_123 : decode cX9_rings 123 = .ok (.aload_n 0, 1) := by decide +kernel
theorem dX9_rings_124 : decode cX9_rings 124 = .ok (.iload_n 2, 1) := by decide +kernel
theorem dX9_rings_125 : decode cX9_rings 125 = .ok (.iload_n 3, 1) := by decide +kernel
theorem dX9_rings_126 : decode cX9_rings 126 = .ok (.invokevirtual 132, 3) := by decide +kernel
theorem dX9_rings_129 : decode cX9_rings 129 = .ok (.iinc 2 1, 3) := by decide +kernel
theorem dX9_rings_132 : decode cX9_rings 132 = .ok (.goto (-79), 3) := by decide +kernel
theorem dX9_rings_135 : decode cX9_rings 135 = .ok (.return_, 1) := by decide +kernel
theorem dX9_round_0 : decode cX9_round 0 = .ok (.iconst 1, 1) := by decide +kernel
theorem dX9_round_1 : decode cX9_round 1 = .ok (.istore_n 1, 1) := by decide +kernel
theorem dX9_round_2 : decode cX9_round 2 = .ok (.iload_n 1, 1) := by decide +kernel
theorem dX9_round_3 : decode cX9_round 3 = .ok (.aload_n 0, 1) := by decide +kernel
theorem dX9_round_4 : decode cX9_round 4 = .ok (.getfield 129, 3) := by decide +kernel
theorem dX9_round_7 : decode cX9_round 7 = .ok (.if_icmp .gt 26, 3) := by decide +kernel
theorem dX9_round_10 : decode cX9_round 10 = .ok (.aload_n 0, 1) := by decide +kernel
theorem dX9_round_11 : decode cX9_round 11 = .ok (.getfield 21, 3) := by decide +kernel
theorem dX9_round_14 : decode cX9_round 14 = .ok (.iload_n 1, 1) := by decide +kernel
theorem dX9_round_15 : decode cX9_round 15 = .ok (.iaload, 1) := by decide +kernel
theorem dX9_round_16 : decode cX9_round 16 = .ok (.aload_n 0, 1) := by decide +kernel
theorem dX9_round_17 : decode cX9_round 17 = .ok (.getfield 21, 3) := by decide +kernel
theorem dX9_round_20 : decode cX9_round 20 = .ok (.iconst 0, 1) := by decide +kernel
theorem dX9_round_21 : decode cX9_round 21 = .ok (.iaload, 1) := by decide +kernel
theorem dX9_round_22 : decode cX9_round 22 = .ok (.if_icmp .ne 5, 3) := by decide +kernel
theorem dX9_round_25 : decode cX9_round 25 = .ok (.iload_n 1, 1) := by decide +kernel
theorem dX9_round_26 : decode cX9_round 26 = .ok (.ireturn, 1) := by decide +kernel
theorem dX9_round_27 : decode cX9_round 27 = .ok (.iinc 1 1, 3) := by decide +kernel
theorem dX9_round_30 : decode cX9_round 30 = .ok (.goto (-28), 3) := by decide +kernel
theorem dX9_round_33 : decode cX9_round 33 = .ok (.bipush (-5), 2) := by decide +kernel
theorem dX9_round_35 : decode cX9_round 35 = .ok (.ireturn, 1) := by decide +kernel
theorem dX9_first_0 : decode cX9_first 0 = .ok (.iconst 0, 1) := by decide +kernel
theorem dX9_first_1 : decode cX9_first 1 = .ok (.istore_n 2, 1) := by decide +kernel
theorem dX9_first_2 : decode cX9_first 2 = .ok (.aload_n 0, 1) := by decide +kernel
theorem dX9_first_3 : decode cX9_first 3 = .ok (.getfield 21, 3) := by decide +kernel
theorem dX9_first_6 : decode cX9_first 6 = .ok (.iload_n 2, 1) := by decide +kernel
theorem dX9_first_7 : decode cX9_first 7 = .ok (.iaload, 1) := by decide +kernel
theorem dX9_first_8 : decode cX9_first 8 = .ok (.aload_n 0, 1) := by decide +kernel
theorem dX9_first_9 : decode cX9_first 9 = .ok (.getfield 21, 3) := by decide +kernel
theorem dX9_first_12 : decode cX9_first 12 = .ok (.iload_n 1, 1) := by decide +kernel
theorem dX9_first_13 : decode cX9_first 13 = .ok (.iaload, 1) := by decide +kernel
theorem dX9_first_14 : decode cX9_first 14 = .ok (.if_icmp .eq 9, 3) := by decide +kernel
theorem dX9_first_17 : decode cX9_first 17 = .ok (.iinc 2 1, 3) := by decide +kernel
theorem dX9_first_20 : decode cX9_first 20 = .ok (.goto (-18), 3) := by decide +kernel
theorem dX9_first_23 : decode cX9_first 23 = .ok (.iload_n 2, 1) := by decide +kernel
theorem dX9_first_24 : decode cX9_first 24 = .ok (.ireturn, 1) := by decide +kernel
set_option maxRecDepth 20000 in
theorem ggX9_wrongRow_X9_first : GoodIn wsX9_wrongRow wsX9_first := goodIn_r _ [6, 7, 8, 9, 10, 11, 12, 13, 14, 15, 16, 17, 18, 19, 20, 21, 22, 23, 24, 25, 26, 27] (by decide +kernel) (by decide +kernel)
set_option maxRecDepth 20000 in
theorem gX9_wrongRow_X9_first : GoodIn wsX9_wrongRow (wsV RX9 136 RX9 yX9_first wsX9_first) := goodIn_app (goodIn_of _ (by decide +kernel)) ggX9_wrongRow_X9_first
theorem dX9_wrongRow_0 : decode cX9_wrongRow 0 = .ok (.iconst 1, 1) := by decide +kernel
theorem dX9_wrongRow_1 : decode cX9_wrongRow 1 = .ok (.istore_n 1, 1) := by decide +kernel
theorem dX9_wrongRow_2 : decode cX9_wrongRow 2 = .ok (.iload_n 1, 1) := by decide +kernel
theorem dX9_wrongRow_3 : decode cX9_wrongRow 3 = .ok (.aload_n 0, 1) := by decide +kernel
theorem dX9_wrongRow_4 : decode cX9_wrongRow 4 = .ok (.getfield 129, 3) := by decide +kernel
theorem dX9_wrongRow_7 : decode cX9_wrongRow 7 = .ok (.if_icmp .gt 34, 3) := by decide +kernel
theorem dX9_wrongRow_10 : decode cX9_wrongRow 10 = .ok (.aload_n 0, 1) := by decide +kernel
theorem dX9_wrongRow_11 : decode cX9_wrongRow 11 = .ok (.iload_n 1, 1) := by decide +kernel
theorem dX9_wrongRow_12 : decode cX9_wrongRow 12 = .ok (.invokevirtual 136, 3) := by decide +kernel
theorem dX9_wrongRow_15 : decode cX9_wrongRow 15 = .ok (.istore_n 2, 1) := by decide +kernel
theorem dX9_wrongRow_16 : decode cX9_wrongRow 16 = .ok (.iload_n 2, 1) := by decide +kernel
theorem dX9_wrongRow_17 : decode cX9_wrongRow 17 = .ok (.iload_n 1, 1) := by decide +kernel
theorem dX9_wrongRow_18 : decode cX9_wrongRow 18 = .ok (.if_icmp .ge 17, 3) := by decide +kernel
theorem dX9_wrongRow_21 : decode cX9_wrongRow 21 = .ok (.iload_n 1, 1) := by decide +kernel
theorem dX9_wrongRow_22 : decode cX9_wrongRow 22 = .ok (.aload_n 0, 1) := by decide +kernel
theorem dX9_wrongRow_23 : decode cX9_wrongRow 23 = .ok (.getfield 129, 3) := by decide +kernel
theorem dX9_wrongRow_26 : decode cX9_wrongRow 26 = .ok (.if_icmp .lt 7, 3) := by decide +kernel
theorem dX9_wrongRow_29 : decode cX9_wrongRow 29 = .ok (.iload_n 2, 1) := by decide +kernel
theorem dX9_wrongRow_30 : decode cX9_wrongRow 30 = .ok (.ifCond .le 5, 3) := by decide +kernel
theorem dX9_wrongRow_33 : decode cX9_wrongRow 33 = .ok (.iload_n 1, 1) := by decide +kernel
theorem dX9_wrongRow_34 : decode cX9_wrongRow 34 = .ok (.ireturn, 1) := by decide +kernel
theorem dX9_wrongRow_35 : decode cX9_wrongRow 35 = .ok (.iinc 1 1, 3) := by decide +kernel
theorem dX9_wrongRow_38 : decode cX9_wrongRow 38 = .ok (.goto (-36), 3) := by decide +kernel
theorem dX9_wrongRow_41 : decode cX9_wrongRow 41 = .ok (.bipush (-5), 2) := by decide +kernel
theorem dX9_wrongRow_43 : decode cX9_wrongRow 43 = .ok (.ireturn, 1) := by decide +kernel
set_option maxRecDepth 20000 in
theorem ggX9_isTrue_X9_wrongRow : GoodIn wsX9_isTrue wsX9_wrongRow := goodIn_r _ [7, 1, 8, 9, 10, 6, 11, 2, 12, 13, 14, 15, 16, 17, 18, 19, 20, 21, 22, 23, 24, 25, 26, 27, 28, 29, 30, 31] (by decide +kernel) (by decide +kernel)
set_option maxRecDepth 20000 in
theorem gX9_isTrue_X9_wrongRow : GoodIn wsX9_isTrue (wsV RX9 139 RX9 yX9_wrongRow wsX9_wrongRow) := goodIn_app (goodIn_of _ (by decide +kernel)) ggX9_isTrue_X9_wrongRow
theorem dX9_isTrue_0 : decode cX9_isTrue 0 = .ok (.aload_n 0, 1) := by decide +kernel
theorem dX9_isTrue_1 : decode cX9_isTrue 1 = .ok (.getfield 129, 3) := by decide +kernel
theorem dX9_isTrue_4 : decode cX9_isTrue 4 = .ok (.ifCond .le 34, 3) := by decide +kernel
theorem dX9_isTrue_7 : decode cX9_isTrue 7 = .ok (.aload_n 0, 1) := by decide +kernel
theorem dX9_isTrue_8 : decode cX9_isTrue 8 = .ok (.getfield 21, 3) := by decide +kernel
theorem dX9_isTrue_11 : decode cX9_isTrue 11 = .ok (.aload_n 0, 1) := by decide +kernel
theorem dX9_isTrue_12 : decode cX9_isTrue 12 = .ok (.getfield 129, 3) := by decide +kernel
theorem dX9_isTrue_15 : decode cX9_isTrue 15 = .ok (.iaload, 1) := by decide +kernel
theorem dX9_isTrue_16 : decode cX9_isTrue 16 = .ok (.aload_n 0, 1) := by decide +kernel
theorem dX9_isTrue_17 : decode cX9_isTrue 17 = .ok (.getfield 21, 3) := by decide +kernel
theorem dX9_isTrue_20 : decode cX9_isTrue 20 = .ok (.iconst 0, 1) := by decide +kernel
theorem dX9_isTrue_21 : decode cX9_isTrue 21 = .ok (.iaload, 1) := by decide +kernel
theorem dX9_isTrue_22 : decode cX9_isTrue 22 = .ok (.if_icmp .ne 16, 3) := by decide +kernel
theorem dX9_isTrue_25 : decode cX9_isTrue 25 = .ok (.aload_n 0, 1) := by decide +kernel
theorem dX9_isTrue_26 : decode cX9_isTrue 26 = .ok (.invokevirtual 139, 3) := by decide +kernel
theorem dX9_isTrue_29 : decode cX9_isTrue 29 = .ok (.bipush (-5), 2) := by decide +kernel
theorem dX9_isTrue_31 : decode cX9_isTrue 31 = .ok (.if_icmp .ne 7, 3) := by decide +kernel
theorem dX9_isTrue_34 : decode cX9_isTrue 34 = .ok (.iconst 1, 1) := by decide +kernel
theorem dX9_isTrue_35 : decode cX9_isTrue 35 = .ok (.goto 4, 3) := by decide +kernel
theorem dX9_isTrue_38 : decode cX9_isTrue 38 = .ok (.iconst 0, 1) := by decide +kernel
theorem dX9_isTrue_39 : decode cX9_isTrue 39 = .ok (.ireturn, 1) := by decide +kernel
set_option maxRecDepth 20000 in
theorem ggX9_course_X9_keys : GoodIn wsX9_course wsX9_keys := goodIn_r _ [8, 1, 2, 3, 13, 14, 15, 16, 17, 18, 19, 20, 21, 22, 23, 24, 25, 26, 27, 28, 29, 30, 31, 32] (by decide +kernel) (by decide +kernel)
set_option maxRecDepth 20000 in
theorem gX9_course_X9_keys : GoodIn wsX9_course (wsV RX9 126 RX9 yX9_keys wsX9_keys) := goodIn_app (goodIn_of _ (by decide +kernel)) ggX9_course_X9_keys
set_option maxRecDepth 20000 in
theorem ggX9_course_X9_goes : GoodIn wsX9_course wsX9_goes := goodIn_r _ [12, 1, 2, 4, 5, 6, 7, 8, 3, 13, 14, 15, 16, 17, 18, 19, 20, 21, 22, 23, 24, 25, 26, 27, 28, 29, 30, 31, 32] (by decide +kernel) (by decide +kernel)
set_option maxRecDepth 20000 in
theorem gX9_course_X9_goes : GoodIn wsX9_course (wsV RX9 132 RX9 yX9_goes wsX9_goes) := goodIn_app (goodIn_of _ (by decide +kernel)) ggX9_course_X9_goes
theorem dX9_course_0 : decode cX9_course 0 = .ok (.aload_n 0, 1) := by decide +kernel
theorem dX9_course_1 : decode cX9_course 1 = .ok (.getfield 9, 3) := by decide +kernel
theorem dX9_course_4 : decode cX9_course 4 = .ok (.iconst 1, 1) := by decide +kernel
theorem dX9_course_5 : decode cX9_course 5 = .ok (.iaload, 1) := by decide +kernel
theorem dX9_course_6 : decode cX9_course 6 = .ok (.istore_n 1, 1) := by decide +kernel
theorem dX9_course_7 : decode cX9_course 7 = .ok (.iload_n 1, 1) := by decide +kernel
theorem dX9_course_8 : decode cX9_course 8 = .ok (.ifCond .ne 5, 3) := by decide +kernel
theorem dX9_course_11 : decode cX9_course 11 = .ok (.iconst 0, 1) := by decide +kernel
theorem dX9_course_12 : decode cX9_course 12 = .ok (.ireturn, 1) := by decide +kernel
theorem dX9_course_13 : decode cX9_course 13 = .ok (.iconst 0, 1) := by decide +kernel
theorem dX9_course_14 : decode cX9_course 14 = .ok (.istore_n 2, 1) := by decide +kernel
theorem dX9_course_15 : decode cX9_course 15 = .ok (.iload_n 2, 1) := by decide +kernel
theorem dX9_course_16 : decode cX9_course 16 = .ok (.aload_n 0, 1) := by decide +kernel
theorem dX9_course_17 : decode cX9_course 17 = .ok (.getfield 9, 3) := by decide +kernel
theorem dX9_course_20 : decode cX9_course 20 = .ok (.iconst 0, 1) := by decide +kernel
theorem dX9_course_21 : decode cX9_course 21 = .ok (.iaload, 1) := by decide +kernel
theorem dX9_course_22 : decode cX9_course 22 = .ok (.if_icmp .ge 18, 3) := by decide +kernel
theorem dX9_course_25 : decode cX9_course 25 = .ok (.aload_n 0, 1) := by decide +kernel
theorem dX9_course_26 : decode cX9_course 26 = .ok (.getfield 18, 3) := by decide +kernel
theorem dX9_course_29 : decode cX9_course 29 = .ok (.iload_n 2, 1) := by decide +kernel
theorem dX9_course_30 : decode cX9_course 30 = .ok (.iload_n 2, 1) := by decide +kernel
theorem dX9_course_31 : decode cX9_course 31 = .ok (.iconst 1, 1) := by decide +kernel
theorem dX9_course_32 : decode cX9_course 32 = .ok (.iadd, 1) := by decide +kernel
theorem dX9_course_33 : decode cX9_course 33 = .ok (.iastore, 1) := by decide +kernel
theorem dX9_course_34 : decode cX9_course 34 = .ok (.iinc 2 1, 3) := by decide +kernel
theorem dX9_course_37 : decode cX9_course 37 = .ok (.goto (-22), 3) := by decide +kernel
theorem dX9_course_40 : decode cX9_course 40 = .ok (.aload_n 0, 1) := by decide +kernel
theorem dX9_course_41 : decode cX9_course 41 = .ok (.iconst 0, 1) := by decide +kernel
theorem dX9_course_42 : decode cX9_course 42 = .ok (.invokevirtual 126, 3) := by decide +kernel
theorem dX9_course_45 : decode cX9_course 45 = .ok (.aload_n 0, 1) := by decide +kernel
theorem dX9_course_46 : decode cX9_course 46 = .ok (.getfield 21, 3) := by decide +kernel
theorem dX9_course_49 : decode cX9_course 49 = .ok (.iconst 0, 1) := by decide +kernel
theorem dX9_course_50 : decode cX9_course 50 = .ok (.iaload, 1) := by decide +kernel
theorem dX9_course_51 : decode cX9_course 51 = .ok (.istore_n 2, 1) := by decide +kernel
theorem dX9_course_52 : decode cX9_course 52 = .ok (.iconst 0, 1) := by decide +kernel
theorem dX9_course_53 : decode cX9_course 53 = .ok (.istore_n 3, 1) := by decide +kernel
theorem dX9_course_54 : decode cX9_course 54 = .ok (.iconst 1, 1) := by decide +kernel
theorem dX9_course_55 : decode cX9_course 55 = .ok (.istore 4, 2) := by decide +kernel
theorem dX9_course_57 : decode cX9_course 57 = .ok (.iload 4, 2) := by decide +kernel
theorem dX9_course_59 : decode cX9_course 59 = .ok (.ifCond .eq 96, 3) := by decide +kernel
theorem dX9_course_62 : decode cX9_course 62 = .ok (.iconst 0, 1) := by decide +kernel
theorem dX9_course_63 : decode cX9_course 63 = .ok (.istore 5, 2) := by decide +kernel
theorem dX9_course_65 : decode cX9_course 65 = .ok (.iload 5, 2) := by decide +kernel
theorem dX9_course_67 : decode cX9_course 67 = .ok (.iload_n 1, 1) := by decide +kernel
theorem dX9_course_68 : decode cX9_course 68 = .ok (.if_icmp .ge 25, 3) := by decide +kernel
theorem dX9_course_71 : decode cX9_course 71 = .ok (.aload_n 0, 1) := by decide +kernel
theorem dX9_course_72 : decode cX9_course 72 = .ok (.iload 5, 2) := by decide +kernel
theorem dX9_course_74 : decode cX9_course 74 = .ok (.aload_n 0, 1) := by decide +kernel
theorem dX9_course_75 : decode cX9_course 75 = .ok (.getfield 9, 3) := by decide +kernel
theorem dX9_course_78 : decode cX9_course 78 = .ok (.bipush 8, 2) := by decide +kernel
theorem dX9_course_80 : decode cX9_course 80 = .ok (.iload 5, 2) := by decide +kernel
theorem dX9_course_82 : decode cX9_course 82 = .ok (.iadd, 1) := by decide +kernel
theorem dX9_course_83 : decode cX9_course 83 = .ok (.iaload, 1) := by decide +kernel
theorem dX9_course_84 : decode cX9_course 84 = .ok (.invokevirtual 132, 3) := by decide +kernel
theorem dX9_course_87 : decode cX9_course 87 = .ok (.iinc 5 1, 3) := by decide +kernel
theorem dX9_course_90 : decode cX9_course 90 = .ok (.goto (-25), 3) := by decide +kernel
theorem dX9_course_93 : decode cX9_course 93 = .ok (.iinc 3 1, 3) := by decide +kernel
theorem dX9_course_96 : decode cX9_course 96 = .ok (.aload_n 0, 1) := by decide +kernel
theorem dX9_course_97 : decode cX9_course 97 = .ok (.getfield 21, 3) := by decide +kernel
theorem dX9_course_100 : decode cX9_course 100 = .ok (.iload_n 1, 1) := by decide +kernel
theorem dX9_course_101 : decode cX9_course 101 = .ok (.iaload, 1) := by decide +kernel
theorem dX9_course_102 : decode cX9_course 102 = .ok (.iload_n 2, 1) := by decide +kernel
theorem dX9_course_103 : decode cX9_course 103 = .ok (.if_icmp .eq 7, 3) := by decide +kernel
theorem dX9_course_106 : decode cX9_course 106 = .ok (.iconst 1, 1) := by decide +kernel
theorem dX9_course_107 : decode cX9_course 107 = .ok (.goto 4, 3) := by decide +kernel
theorem dX9_course_110 : decode cX9_course 110 = .ok (.iconst 0, 1) := by decide +kernel
theorem dX9_course_111 : decode cX9_course 111 = .ok (.istore 4, 2) := by decide +kernel
theorem dX9_course_113 : decode cX9_course 113 = .ok (.iconst 0, 1) := by decide +kernel
theorem dX9_course_114 : decode cX9_course 114 = .ok (.istore 5, 2) := by decide +kernel
theorem dX9_course_116 : decode cX9_course 116 = .ok (.iload 5, 2) := by decide +kernel
theorem dX9_course_118 : decode cX9_course 118 = .ok (.aload_n 0, 1) := by decide +kernel
theorem dX9_course_119 : decode cX9_course 119 = .ok (.getfield 9, 3) := by decide +kernel
theorem dX9_course_122 : decode cX9_course 122 = .ok (.iconst 0, 1) := by decide +kernel
theorem dX9_course_123 : decode cX9_course 123 = .ok (.iaload, 1) := by decide +kernel
theorem dX9_course_124 : decode cX9_course 124 = .ok (.if_icmp .ge 28, 3) := by decide +kernel
theorem dX9_course_127 : decode cX9_course 127 = .ok (.aload_n 0, 1) := by decide +kernel
theorem dX9_course_128 : decode cX9_course 128 = .ok (.getfield 18, 3) := by decide +kernel
theorem dX9_course_131 : decode cX9_course 131 = .ok (.iload 5, 2) := by decide +kernel
theorem dX9_course_133 : decode cX9_course 133 = .ok (.aload_n 0, 1) := by decide +kernel
theorem dX9_course_134 : decode cX9_course 134 = .ok (.getfield 18, 3) := by decide +kernel
theorem dX9_course_137 : decode cX9_course 137 = .ok (.bipush 8, 2) := by decide +kernel
theorem dX9_course_139 : decode cX9_course 139 = .ok (.iload_n 1, 1) := by decide +kernel
theorem dX9_course_140 : decode cX9_course 140 = .ok (.imul, 1) := by decide +kernel
theorem dX9_course_141 : decode cX9_course 141 = .ok (.iload 5, 2) := by decide +kernel
theorem dX9_course_143 : decode cX9_course 143 = .ok (.iadd, 1) := by decide +kernel
theorem dX9_course_144 : decode cX9_course 144 = .ok (.iaload, 1) := by decide +kernel
theorem dX9_course_145 : decode cX9_course 145 = .ok (.iastore, 1) := by decide +kernel
theorem dX9_course_146 : decode cX9_course 146 = .ok (.iinc 5 1, 3) := by decide +kernel
theorem dX9_course_149 : decode cX9_course 149 = .ok (.goto (-33), 3) := by decide +kernel
theorem dX9_course_152 : decode cX9_course 152 = .ok (.goto (-95), 3) := by decide +kernel
theorem dX9_course_155 : decode cX9_course 155 = .ok (.iload_n 3, 1) := by decide +kernel
theorem dX9_course_156 : decode cX9_course 156 = .ok (.ireturn, 1) := by decide +kernel
set_option maxRecDepth 20000 in
theorem ggX9_of_X9_within : GoodIn wsX9_of wsX9_within := goodIn_r _ [5] (by decide +kernel) (by decide +kernel)
set_option maxRecDepth 20000 in
theorem gX9_of_X9_within : GoodIn wsX9_of (va_wsS RX9 56 yX9_within wsX9_within) := goodIn_app (goodIn_of _ (by decide +kernel)) ggX9_of_X9_within
theorem dX9_of_0 : decode cX9_of 0 = .ok (.iload_n 1, 1) := by decide +kernel
theorem dX9_of_1 : decode cX9_of 1 = .ok (.tableswitch 111 0 3 #[31, 61, 61, 87], 31) := by decide +kernel
theorem dX9_of_32 : decode cX9_of 32 = .ok (.iload_n 2, 1) := by decide +kernel
theorem dX9_of_33 : decode cX9_of 33 = .ok (.iconst 0, 1) := by decide +kernel
theorem dX9_of_34 : decode cX9_of 34 = .ok (.aload_n 0, 1) := by decide +kernel
theorem dX9_of_35 : decode cX9_of 35 = .ok (.getfield 9, 3) := by decide +kernel
theorem dX9_of_38 : decode cX9_of 38 = .ok (.iconst 1, 1) := by decide +kernel
theorem dX9_of_39 : decode cX9_of 39 = .ok (.iaload, 1) := by decide +kernel
theorem dX9_of_40 : decode cX9_of 40 = .ok (.iconst 1, 1) := by decide +kernel
theorem dX9_of_41 : decode cX9_of 41 = .ok (.isub, 1) := by decide +kernel
theorem dX9_of_42 : decode cX9_of 42 = .ok (.invokestatic 56, 3) := by decide +kernel
theorem dX9_of_45 : decode cX9_of 45 = .ok (.ifCond .eq 15, 3) := by decide +kernel
theorem dX9_of_48 : decode cX9_of 48 = .ok (.aload_n 0, 1) := by decide +kernel
theorem dX9_of_49 : decode cX9_of 49 = .ok (.getfield 9, 3) := by decide +kernel
theorem dX9_of_52 : decode cX9_of 52 = .ok (.bipush 8, 2) := by decide +kernel
theorem dX9_of_54 : decode cX9_of 54 = .ok (.iload_n 2, 1) := by decide +kernel
theorem dX9_of_55 : decode cX9_of 55 = .ok (.iadd, 1) := by decide +kernel
theorem dX9_of_56 : decode cX9_of 56 = .ok (.iaload, 1) := by decide +kernel
theorem dX9_of_57 : decode cX9_of 57 = .ok (.goto 4, 3) := by decide +kernel
theorem dX9_of_60 : decode cX9_of 60 = .ok (.iconst (-1), 1) := by decide +kernel
theorem dX9_of_61 : decode cX9_of 61 = .ok (.ireturn, 1) := by decide +kernel
theorem dX9_of_62 : decode cX9_of 62 = .ok (.aload_n 0, 1) := by decide +kernel
theorem dX9_of_63 : decode cX9_of 63 = .ok (.getfield 9, 3) := by decide +kernel
theorem dX9_of_66 : decode cX9_of 66 = .ok (.iconst 1, 1) := by decide +kernel
theorem dX9_of_67 : decode cX9_of 67 = .ok (.iload_n 1, 1) := by decide +kernel
theorem dX9_of_68 : decode cX9_of 68 = .ok (.iadd, 1) := by decide +kernel
theorem dX9_of_69 : decode cX9_of 69 = .ok (.iaload, 1) := by decide +kernel
theorem dX9_of_70 : decode cX9_of 70 = .ok (.iconst (-1), 1) := by decide +kernel
theorem dX9_of_71 : decode cX9_of 71 = .ok (.if_icmp .ne 8, 3) := by decide +kernel
theorem dX9_of_74 : decode cX9_of 74 = .ok (.bipush (-5), 2) := by decide +kernel
theorem dX9_of_76 : decode cX9_of 76 = .ok (.goto 11, 3) := by decide +kernel
theorem dX9_of_79 : decode cX9_of 79 = .ok (.aload_n 0, 1) := by decide +kernel
theorem dX9_of_80 : decode cX9_of 80 = .ok (.getfield 9, 3) := by decide +kernel
theorem dX9_of_83 : decode cX9_of 83 = .ok (.iconst 1, 1) := by decide +kernel
theorem dX9_of_84 : decode cX9_of 84 = .ok (.iload_n 1, 1) := by decide +kernel
theorem dX9_of_85 : decode cX9_of 85 = .ok (.iadd, 1) := by decide +kernel
theorem dX9_of_86 : decode cX9_of 86 = .ok (.iaload, 1) := by decide +kernel
theorem dX9_of_87 : decode cX9_of 87 = .ok (.ireturn, 1) := by decide +kernel
theorem dX9_of_88 : decode cX9_of 88 = .ok (.iload_n 2, 1) := by decide +kernel
theorem dX9_of_89 : decode cX9_of 89 = .ok (.iconst 0, 1) := by decide +kernel
theorem dX9_of_90 : decode cX9_of 90 = .ok (.bipush 11, 2) := by decide +kernel
theorem dX9_of_92 : decode cX9_of 92 = .ok (.invokestatic 56, 3) := by decide +kernel
theorem dX9_of_95 : decode cX9_of 95 = .ok (.ifCond .eq 15, 3) := by decide +kernel
theorem dX9_of_98 : decode cX9_of 98 = .ok (.aload_n 0, 1) := by decide +kernel
theorem dX9_of_99 : decode cX9_of 99 = .ok (.getfield 9, 3) := by decide +kernel
theorem dX9_of_102 : decode cX9_of 102 = .ok (.bipush 24, 2) := by decide +kernel
theorem dX9_of_104 : decode cX9_of 104 = .ok (.iload_n 2, 1) := by decide +kernel
theorem dX9_of_105 : decode cX9_of 105 = .ok (.iadd, 1) := by decide +kernel
theorem dX9_of_106 : decode cX9_of 106 = .ok (.iaload, 1) := by decide +kernel
theorem dX9_of_107 : decode cX9_of 107 = .ok (.goto 4, 3) := by decide +kernel
theorem dX9_of_110 : decode cX9_of 110 = .ok (.iconst (-1), 1) := by decide +kernel
theorem dX9_of_111 : decode cX9_of 111 = .ok (.ireturn, 1) := by decide +kernel
theorem dX9_of_112 : decode cX9_of 112 = .ok (.iconst (-1), 1) := by decide +kernel
theorem dX9_of_113 : decode cX9_of 113 = .ok (.ireturn, 1) := by decide +kernel
set_option maxRecDepth 20000 in
theorem ggX9_told_X9_course : GoodIn wsX9_told wsX9_course := goodIn_r _ [7, 1, 8, 9, 10, 11, 12, 6, 13, 14, 15, 16, 17, 38, 39, 40, 41, 42, 43, 44, 45, 46, 47, 48, 49, 50, 51, 52, 53, 54, 55, 56, 57] (by decide +kernel) (by decide +kernel)
set_option maxRecDepth 20000 in
theorem gX9_told_X9_course : GoodIn wsX9_told (wsV RX9 142 RX9 yX9_course wsX9_course) := goodIn_app (goodIn_of _ (by decide +kernel)) ggX9_told_X9_course
set_option maxRecDepth 20000 in
theorem ggX9_told_X9_rings : GoodIn wsX9_told wsX9_rings := goodIn_r _ [21, 1, 8, 2, 10, 11, 12, 6, 13, 9, 14, 15, 16, 17, 38, 39, 40, 41, 42, 43, 44, 45, 46, 47, 48, 49, 50, 51, 52, 53, 54, 55, 56, 57] (by decide +kernel) (by decide +kernel)
set_option maxRecDepth 20000 in
theorem gX9_told_X9_rings : GoodIn wsX9_told (wsV RX9 145 RX9 yX9_rings wsX9_rings) := goodIn_app (goodIn_of _ (by decide +kernel)) ggX9_told_X9_rings
set_option maxRecDepth 20000 in
theorem ggX9_told_X9_round : GoodIn wsX9_told wsX9_round := goodIn_r _ [25, 2, 9, 38, 39, 40, 41, 42, 43, 44, 45, 46, 47, 48, 49, 50, 51, 52, 53, 54, 55, 56, 57] (by decide +kernel) (by decide +kernel)
set_option maxRecDepth 20000 in
theorem gX9_told_X9_round : GoodIn wsX9_told (wsV RX9 148 RX9 yX9_round wsX9_round) := goodIn_app (goodIn_of _ (by decide +kernel)) ggX9_told_X9_round
set_option maxRecDepth 20000 in
theorem ggX9_told_X9_wrongRow : GoodIn wsX9_told wsX9_wrongRow := goodIn_r _ [29, 2, 30, 31, 32, 6, 33, 9, 38, 39, 40, 41, 42, 43, 44, 45, 46, 47, 48, 49, 50, 51, 52, 53, 54, 55, 56, 57] (by decide +kernel) (by decide +kernel)
set_option maxRecDepth 20000 in
theorem gX9_told_X9_wrongRow : GoodIn wsX9_told (wsV RX9 139 RX9 yX9_wrongRow wsX9_wrongRow) := goodIn_app (goodIn_of _ (by decide +kernel)) ggX9_told_X9_wrongRow
set_option maxRecDepth 20000 in
theorem ggX9_told_X9_isTrue : GoodIn wsX9_told wsX9_isTrue := goodIn_r _ [37, 2, 9, 26, 27, 28, 6, 29, 30, 31, 32, 33, 38, 39, 40, 41, 42, 43, 44, 45, 46, 47, 48, 49, 50, 51, 52, 53, 54, 55, 56, 57] (by decide +kernel) (by decide +kernel)
set_option maxRecDepth 20000 in
theorem gX9_told_X9_isTrue : GoodIn wsX9_told (wsV RX9 151 RX9 yX9_isTrue wsX9_isTrue) := goodIn_app (goodIn_of _ (by decide +kernel)) ggX9_told_X9_isTrue
theorem dX9_told_0 : decode cX9_told 0 = .ok (.iload_n 1, 1) := by decide +kernel
theorem dX9_told_1 : decode cX9_told 1 = .ok (.bipush 7, 2) := by decide +kernel
theorem dX9_told_3 : decode cX9_told 3 = .ok (.if_icmp .ne 8, 3) := by decide +kernel
theorem dX9_told_6 : decode cX9_told 6 = .ok (.aload_n 0, 1) := by decide +kernel
theorem dX9_told_7 : decode cX9_told 7 = .ok (.invokevirtual 142, 3) := by decide +kernel
theorem dX9_told_10 : decode cX9_told 10 = .ok (.ireturn, 1) := by decide +kernel
theorem dX9_told_11 : decode cX9_told 11 = .ok (.aload_n 0, 1) := by decide +kernel
theorem dX9_told_12 : decode cX9_told 12 = .ok (.invokevirtual 145, 3) := by decide +kernel
theorem dX9_told_15 : decode cX9_told 15 = .ok (.iload_n 1, 1) := by decide +kernel
theorem dX9_told_16 : decode cX9_told 16 = .ok (.tableswitch 85 0 6 #[44, 51, 58, 65, 70, 75, 80], 44) := by decide +kernel
theorem dX9_told_60 : decode cX9_told 60 = .ok (.aload_n 0, 1) := by decide +kernel
theorem dX9_told_61 : decode cX9_told 61 = .ok (.getfield 9, 3) := by decide +kernel
theorem dX9_told_64 : decode cX9_told 64 = .ok (.iconst 0, 1) := by decide +kernel
theorem dX9_told_65 : decode cX9_told 65 = .ok (.iaload, 1) := by decide +kernel
theorem dX9_told_66 : decode cX9_told 66 = .ok (.ireturn, 1) := by decide +kernel
theorem dX9_told_67 : decode cX9_told 67 = .ok (.aload_n 0, 1) := by decide +kernel
theorem dX9_told_68 : decode cX9_told 68 = .ok (.getfield 9, 3) := by decide +kernel
theorem dX9_told_71 : decode cX9_told 71 = .ok (.iconst 1, 1) := by decide +kernel
theorem dX9_told_72 : decode cX9_told 72 = .ok (.iaload, 1) := by decide +kernel
theorem dX9_told_73 : decode cX9_told 73 = .ok (.ireturn, 1) := by decide +kernel
theorem dX9_told_74 : decode cX9_told 74 = .ok (.aload_n 0, 1) := by decide +kernel
theorem dX9_told_75 : decode cX9_told 75 = .ok (.getfield 9, 3) := by decide +kernel
theorem dX9_told_78 : decode cX9_told 78 = .ok (.iconst 4, 1) := by decide +kernel
theorem dX9_told_79 : decode cX9_told 79 = .ok (.iaload, 1) := by decide +kernel
theorem dX9_told_80 : decode cX9_told 80 = .ok (.ireturn, 1) := by decide +kernel
theorem dX9_told_81 : decode cX9_told 81 = .ok (.aload_n 0, 1) := by decide +kernel
theorem dX9_told_82 : decode cX9_told 82 = .ok (.getfield 129, 3) := by decide +kernel
theorem dX9_told_85 : decode cX9_told 85 = .ok (.ireturn, 1) := by decide +kernel
theorem dX9_told_86 : decode cX9_told 86 = .ok (.aload_n 0, 1) := by decide +kernel
theorem dX9_told_87 : decode cX9_told 87 = .ok (.invokevirtual 148, 3) := by decide +kernel
theorem dX9_told_90 : decode cX9_told 90 = .ok (.ireturn, 1) := by decide +kernel
theorem dX9_told_91 : decode cX9_told 91 = .ok (.aload_n 0, 1) := by decide +kernel
theorem dX9_told_92 : decode cX9_told 92 = .ok (.invokevirtual 139, 3) := by decide +kernel
theorem dX9_told_95 : decode cX9_told 95 = .ok (.ireturn, 1) := by decide +kernel
theorem dX9_told_96 : decode cX9_told 96 = .ok (.aload_n 0, 1) := by decide +kernel
theorem dX9_told_97 : decode cX9_told 97 = .ok (.invokevirtual 151, 3) := by decide +kernel
theorem dX9_told_100 : decode cX9_told 100 = .ok (.ireturn, 1) := by decide +kernel
theorem dX9_told_101 : decode cX9_told 101 = .ok (.iconst (-1), 1) := by decide +kernel
theorem dX9_told_102 : decode cX9_told 102 = .ok (.ireturn, 1) := by decide +kernel
set_option maxRecDepth 20000 in
theorem ggX9_isPlace_X9_within : GoodIn wsX9_isPlace wsX9_within := goodIn_r _ [5] (by decide +kernel) (by decide +kernel)
set_option maxRecDepth 20000 in
theorem gX9_isPlace_X9_within : GoodIn wsX9_isPlace (va_wsS RX9 56 yX9_within wsX9_within) := goodIn_app (goodIn_of _ (by decide +kernel)) ggX9_isPlace_X9_within
theorem dX9_isPlace_0 : decode cX9_isPlace 0 = .ok (.iload_n 1, 1) := by decide +kernel
theorem dX9_isPlace_1 : decode cX9_isPlace 1 = .ok (.iconst 1, 1) := by decide +kernel
theorem dX9_isPlace_2 : decode cX9_isPlace 2 = .ok (.aload_n 0, 1) := by decide +kernel
theorem dX9_isPlace_3 : decode cX9_isPlace 3 = .ok (.getfield 9, 3) := by decide +kernel
theorem dX9_isPlace_6 : decode cX9_isPlace 6 = .ok (.iconst 0, 1) := by decide +kernel
theorem dX9_isPlace_7 : decode cX9_isPlace 7 = .ok (.iaload, 1) := by decide +kernel
theorem dX9_isPlace_8 : decode cX9_isPlace 8 = .ok (.invokestatic 56, 3) := by decide +kernel
theorem dX9_isPlace_11 : decode cX9_isPlace 11 = .ok (.ireturn, 1) := by decide +kernel
theorem dX9_place_0 : decode cX9_place 0 = .ok (.iconst 0, 1) := by decide +kernel
theorem dX9_place_1 : decode cX9_place 1 = .ok (.istore_n 3, 1) := by decide +kernel
theorem dX9_place_2 : decode cX9_place 2 = .ok (.aload_n 0, 1) := by decide +kernel
theorem dX9_place_3 : decode cX9_place 3 = .ok (.getfield 18, 3) := by decide +kernel
theorem dX9_place_6 : decode cX9_place 6 = .ok (.bipush 8, 2) := by decide +kernel
theorem dX9_place_8 : decode cX9_place 8 = .ok (.iload_n 1, 1) := by decide +kernel
theorem dX9_place_9 : decode cX9_place 9 = .ok (.imul, 1) := by decide +kernel
theorem dX9_place_10 : decode cX9_place 10 = .ok (.iload_n 3, 1) := by decide +kernel
theorem dX9_place_11 : decode cX9_place 11 = .ok (.iadd, 1) := by decide +kernel
theorem dX9_place_12 : decode cX9_place 12 = .ok (.iaload, 1) := by decide +kernel
theorem dX9_place_13 : decode cX9_place 13 = .ok (.iload_n 2, 1) := by decide +kernel
theorem dX9_place_14 : decode cX9_place 14 = .ok (.if_icmp .eq 9, 3) := by decide +kernel
theorem dX9_place_17 : decode cX9_place 17 = .ok (.iinc 3 1, 3) := by decide +kernel
theorem dX9_place_20 : decode cX9_place 20 = .ok (.goto (-18), 3) := by decide +kernel
theorem dX9_place_23 : decode cX9_place 23 = .ok (.iload_n 3, 1) := by decide +kernel
theorem dX9_place_24 : decode cX9_place 24 = .ok (.iconst 1, 1) := by decide +kernel
theorem dX9_place_25 : decode cX9_place 25 = .ok (.iadd, 1) := by decide +kernel
theorem dX9_place_26 : decode cX9_place 26 = .ok (.ireturn, 1) := by decide +kernel
set_option maxRecDepth 20000 in
theorem ggX9_at_X9_rings : GoodIn wsX9_at wsX9_rings := goodIn_r _ [7, 8, 2, 1, 9, 10, 11, 6, 12, 13, 14, 15, 16, 17, 25, 26, 27, 28, 29, 30, 31, 32, 33, 34, 35, 36, 37, 38, 39, 40, 41, 42, 43, 44] (by decide +kernel) (by decide +kernel)
set_option maxRecDepth 20000 in
theorem gX9_at_X9_rings : GoodIn wsX9_at (wsV RX9 145 RX9 yX9_rings wsX9_rings) := goodIn_app (goodIn_of _ (by decide +kernel)) ggX9_at_X9_rings
set_option maxRecDepth 20000 in
theorem ggX9_at_X9_within : GoodIn wsX9_at wsX9_within := goodIn_r _ [20] (by decide +kernel) (by decide +kernel)
set_option maxRecDepth 20000 in
theorem gX9_at_X9_within : GoodIn wsX9_at (va_wsS RX9 56 yX9_within wsX9_within) := goodIn_app (goodIn_of _ (by decide +kernel)) ggX9_at_X9_within
set_option maxRecDepth 20000 in
theorem ggX9_at_X9_isPlace : GoodIn wsX9_at wsX9_isPlace := goodIn_r _ [24, 8, 18, 19, 6, 20, 25, 26, 27, 28, 29, 30, 31, 32, 33, 34, 35, 36, 37, 38, 39, 40, 41, 42, 43, 44] (by decide +kernel) (by decide +kernel)
set_option maxRecDepth 20000 in
theorem gX9_at_X9_isPlace : GoodIn wsX9_at (wsV RX9 154 RX9 yX9_isPlace wsX9_isPlace) := goodIn_app (goodIn_of _ (by decide +kernel)) ggX9_at_X9_isPlace
theorem dX9_at_0 : decode cX9_at 0 = .ok (.aload_n 0, 1) := by decide +kernel
theorem dX9_at_1 : decode cX9_at 1 = .ok (.invokevirtual 145, 3) := by decide +kernel
theorem dX9_at_4 : decode cX9_at 4 = .ok (.iload_n 1, 1) := by decide +kernel
theorem dX9_at_5 : decode cX9_at 5 = .ok (.iconst 0, 1) := by decide +kernel
theorem dX9_at_6 : decode cX9_at 6 = .ok (.aload_n 0, 1) := by decide +kernel
theorem dX9_at_7 : decode cX9_at 7 = .ok (.getfield 129, 3) := by decide +kernel
theorem dX9_at_10 : decode cX9_at 10 = .ok (.invokestatic 56, 3) := by decide +kernel
theorem dX9_at_13 : decode cX9_at 13 = .ok (.ifCond .eq 27, 3) := by decide +kernel
theorem dX9_at_16 : decode cX9_at 16 = .ok (.aload_n 0, 1) := by decide +kernel
theorem dX9_at_17 : decode cX9_at 17 = .ok (.iload_n 2, 1) := by decide +kernel
theorem dX9_at_18 : decode cX9_at 18 = .ok (.invokevirtual 154, 3) := by decide +kernel
theorem dX9_at_21 : decode cX9_at 21 = .ok (.ifCond .eq 19, 3) := by decide +kernel
theorem dX9_at_24 : decode cX9_at 24 = .ok (.aload_n 0, 1) := by decide +kernel
theorem dX9_at_25 : decode cX9_at 25 = .ok (.getfield 18, 3) := by decide +kernel
theorem dX9_at_28 : decode cX9_at 28 = .ok (.bipush 8, 2) := by decide +kernel
theorem dX9_at_30 : decode cX9_at 30 = .ok (.iload_n 1, 1) := by decide +kernel
theorem dX9_at_31 : decode cX9_at 31 = .ok (.imul, 1) := by decide +kernel
theorem dX9_at_32 : decode cX9_at 32 = .ok (.iload_n 2, 1) := by decide +kernel
theorem dX9_at_33 : decode cX9_at 33 = .ok (.iadd, 1) := by decide +kernel
theorem dX9_at_34 : decode cX9_at 34 = .ok (.iconst 1, 1) := by decide +kernel
theorem dX9_at_35 : decode cX9_at 35 = .ok (.isub, 1) := by decide +kernel
theorem dX9_at_36 : decode cX9_at 36 = .ok (.iaload, 1) := by decide +kernel
theorem dX9_at_37 : decode cX9_at 37 = .ok (.goto 4, 3) := by decide +kernel
theorem dX9_at_40 : decode cX9_at 40 = .ok (.iconst (-1), 1) := by decide +kernel
theorem dX9_at_41 : decode cX9_at 41 = .ok (.ireturn, 1) := by decide +kernel
set_option maxRecDepth 20000 in
theorem ggX9_where_X9_rings : GoodIn wsX9_where wsX9_rings := goodIn_r _ [6, 7, 8, 1, 9, 10, 11, 5, 12, 13, 14, 15, 16, 17, 29, 30, 31, 32, 33, 34, 35, 36, 37, 38, 39, 40, 41, 42, 43, 44, 45, 46, 47, 48] (by decide +kernel) (by decide +kernel)
set_option maxRecDepth 20000 in
theorem gX9_where_X9_rings : GoodIn wsX9_where (wsV RX9 145 RX9 yX9_rings wsX9_rings) := goodIn_app (goodIn_of _ (by decide +kernel)) ggX9_where_X9_rings
set_option maxRecDepth 20000 in
theorem ggX9_where_X9_within : GoodIn wsX9_where wsX9_within := goodIn_r _ [20] (by decide +kernel) (by decide +kernel)
set_option maxRecDepth 20000 in
theorem gX9_where_X9_within : GoodIn wsX9_where (va_wsS RX9 56 yX9_within wsX9_within) := goodIn_app (goodIn_of _ (by decide +kernel)) ggX9_where_X9_within
set_option maxRecDepth 20000 in
theorem ggX9_where_X9_isPlace : GoodIn wsX9_where wsX9_isPlace := goodIn_r _ [24, 7, 18, 19, 5, 20, 29, 30, 31, 32, 33, 34, 35, 36, 37, 38, 39, 40, 41, 42, 43, 44, 45, 46, 47, 48] (by decide +kernel) (by decide +kernel)
set_option maxRecDepth 20000 in
theorem gX9_where_X9_isPlace : GoodIn wsX9_where (wsV RX9 154 RX9 yX9_isPlace wsX9_isPlace) := goodIn_app (goodIn_of _ (by decide +kernel)) ggX9_where_X9_isPlace
set_option maxRecDepth 20000 in
theorem ggX9_where_X9_place : GoodIn wsX9_where wsX9_place := goodIn_r _ [28, 8, 29, 30, 31, 32, 33, 34, 35, 36, 37, 38, 39, 40, 41, 42, 43, 44, 45, 46, 47, 48] (by decide +kernel) (by decide +kernel)
set_option maxRecDepth 20000 in
theorem gX9_where_X9_place : GoodIn wsX9_where (wsV RX9 157 RX9 yX9_place wsX9_place) := goodIn_app (goodIn_of _ (by decide +kernel)) ggX9_where_X9_place
theorem dX9_where_0 : decode cX9_where 0 = .ok (.aload_n 0, 1) := by decide +kernel
theorem dX9_where_1 : decode cX9_where 1 = .ok (.invokevirtual 145, 3) := by decide +kernel
theorem dX9_where_4 : decode cX9_where 4 = .ok (.iload_n 1, 1) := by decide +kernel
theorem dX9_where_5 : decode cX9_where 5 = .ok (.iconst 0, 1) := by decide +kernel
theorem dX9_where_6 : decode cX9_where 6 = .ok (.aload_n 0, 1) := by decide +kernel
theorem dX9_where_7 : decode cX9_where 7 = .ok (.getfield 129, 3) := by decide +kernel
theorem dX9_where_10 : decode cX9_where 10 = .ok (.invokestatic 56, 3) := by decide +kernel
theorem dX9_where_13 : decode cX9_where 13 = .ok (.ifCond .eq 20, 3) := by decide +kernel
theorem dX9_where_16 : decode cX9_where 16 = .ok (.aload_n 0, 1) := by decide +kernel
theorem dX9_where_17 : decode cX9_where 17 = .ok (.iload_n 2, 1) := by decide +kernel
theorem dX9_where_18 : decode cX9_where 18 = .ok (.invokevirtual 154, 3) := by decide +kernel
theorem dX9_where_21 : decode cX9_where 21 = .ok (.ifCond .eq 12, 3) := by decide +kernel
theorem dX9_where_24 : decode cX9_where 24 = .ok (.aload_n 0, 1) := by decide +kernel
theorem dX9_where_25 : decode cX9_where 25 = .ok (.iload_n 1, 1) := by decide +kernel
theorem dX9_where_26 : decode cX9_where 26 = .ok (.iload_n 2, 1) := by decide +kernel
theorem dX9_where_27 : decode cX9_where 27 = .ok (.invokevirtual 157, 3) := by decide +kernel
theorem dX9_where_30 : decode cX9_where 30 = .ok (.goto 4, 3) := by decide +kernel
theorem dX9_where_33 : decode cX9_where 33 = .ok (.iconst (-1), 1) := by decide +kernel
theorem dX9_where_34 : decode cX9_where 34 = .ok (.ireturn, 1) := by decide +kernel
set_option maxRecDepth 20000 in
theorem ggX9_same_X9_rings : GoodIn wsX9_same wsX9_rings := goodIn_r _ [6, 7, 8, 1, 9, 10, 11, 5, 12, 13, 14, 15, 16, 17, 25, 26, 27, 28, 29, 30, 31, 32, 33, 34, 35, 36, 37, 38, 39, 40, 41, 42, 43, 44] (by decide +kernel) (by decide +kernel)
set_option maxRecDepth 20000 in
theorem gX9_same_X9_rings : GoodIn wsX9_same (wsV RX9 145 RX9 yX9_rings wsX9_rings) := goodIn_app (goodIn_of _ (by decide +kernel)) ggX9_same_X9_rings
set_option maxRecDepth 20000 in
theorem ggX9_same_X9_within : GoodIn wsX9_same wsX9_within := goodIn_r _ [20] (by decide +kernel) (by decide +kernel)
set_option maxRecDepth 20000 in
theorem gX9_same_X9_within : GoodIn wsX9_same (va_wsS RX9 56 yX9_within wsX9_within) := goodIn_app (goodIn_of _ (by decide +kernel)) ggX9_same_X9_within
set_option maxRecDepth 20000 in
theorem ggX9_same_X9_first : GoodIn wsX9_same wsX9_first := goodIn_r _ [24, 13, 25, 26, 27, 28, 29, 30, 31, 32, 33, 34, 35, 36, 37, 38, 39, 40, 41, 42, 43, 44] (by decide +kernel) (by decide +kernel)
set_option maxRecDepth 20000 in
theorem gX9_same_X9_first : GoodIn wsX9_same (wsV RX9 136 RX9 yX9_first wsX9_first) := goodIn_app (goodIn_of _ (by decide +kernel)) ggX9_same_X9_first
theorem dX9_same_0 : decode cX9_same 0 = .ok (.aload_n 0, 1) := by decide +kernel
theorem dX9_same_1 : decode cX9_same 1 = .ok (.invokevirtual 145, 3) := by decide +kernel
theorem dX9_same_4 : decode cX9_same 4 = .ok (.iload_n 1, 1) := by decide +kernel
theorem dX9_same_5 : decode cX9_same 5 = .ok (.iconst 0, 1) := by decide +kernel
theorem dX9_same_6 : decode cX9_same 6 = .ok (.aload_n 0, 1) := by decide +kernel
theorem dX9_same_7 : decode cX9_same 7 = .ok (.getfield 129, 3) := by decide +kernel
theorem dX9_same_10 : decode cX9_same 10 = .ok (.invokestatic 56, 3) := by decide +kernel
theorem dX9_same_13 : decode cX9_same 13 = .ok (.ifCond .eq 11, 3) := by decide +kernel
theorem dX9_same_16 : decode cX9_same 16 = .ok (.aload_n 0, 1) := by decide +kernel
theorem dX9_same_17 : decode cX9_same 17 = .ok (.iload_n 1, 1) := by decide +kernel
theorem dX9_same_18 : decode cX9_same 18 = .ok (.invokevirtual 136, 3) := by decide +kernel
theorem dX9_same_21 : decode cX9_same 21 = .ok (.goto 4, 3) := by decide +kernel
theorem dX9_same_24 : decode cX9_same 24 = .ok (.iconst (-1), 1) := by decide +kernel
theorem dX9_same_25 : decode cX9_same 25 = .ok (.ireturn, 1) := by decide +kernel
set_option maxRecDepth 20000 in
theorem ggX9_good_X9_areKept : GoodIn wsX9_good wsX9_areKept := goodIn_r _ [5, 6, 7, 8, 4, 9, 14, 15, 16, 17, 18, 19, 20, 21, 22, 23, 24, 25, 26, 27, 28, 29, 30, 31, 32, 33] (by decide +kernel) (by decide +kernel)
set_option maxRecDepth 20000 in
theorem gX9_good_X9_areKept : GoodIn wsX9_good (wsV RX9 60 RX9 yX9_areKept wsX9_areKept) := goodIn_app (goodIn_of _ (by decide +kernel)) ggX9_good_X9_areKept
set_option maxRecDepth 20000 in
theorem ggX9_good_X9_isGood : GoodIn wsX9_good wsX9_isGood := goodIn_r _ [13, 6, 14, 15, 16, 17, 18, 19, 20, 21, 22, 23, 24, 25, 26, 27, 28, 29, 30, 31, 32, 33] (by decide +kernel) (by decide +kernel)
set_option maxRecDepth 20000 in
theorem gX9_good_X9_isGood : GoodIn wsX9_good (wsV RX9 64 RX9 yX9_isGood wsX9_isGood) := goodIn_app (goodIn_of _ (by decide +kernel)) ggX9_good_X9_isGood
theorem dX9_good_0 : decode cX9_good 0 = .ok (.aload_n 0, 1) := by decide +kernel
theorem dX9_good_1 : decode cX9_good 1 = .ok (.iload_n 1, 1) := by decide +kernel
theorem dX9_good_2 : decode cX9_good 2 = .ok (.invokevirtual 60, 3) := by decide +kernel
theorem dX9_good_5 : decode cX9_good 5 = .ok (.ifCond .ne 6, 3) := by decide +kernel
theorem dX9_good_8 : decode cX9_good 8 = .ok (.bipush (-2), 2) := by decide +kernel
theorem dX9_good_10 : decode cX9_good 10 = .ok (.ireturn, 1) := by decide +kernel
theorem dX9_good_11 : decode cX9_good 11 = .ok (.aload_n 0, 1) := by decide +kernel
theorem dX9_good_12 : decode cX9_good 12 = .ok (.iload_n 1, 1) := by decide +kernel
theorem dX9_good_13 : decode cX9_good 13 = .ok (.invokevirtual 64, 3) := by decide +kernel
theorem dX9_good_16 : decode cX9_good 16 = .ok (.ifCond .eq 7, 3) := by decide +kernel
theorem dX9_good_19 : decode cX9_good 19 = .ok (.iconst 1, 1) := by decide +kernel
theorem dX9_good_20 : decode cX9_good 20 = .ok (.goto 4, 3) := by decide +kernel
theorem dX9_good_23 : decode cX9_good 23 = .ok (.iconst 0, 1) := by decide +kernel
theorem dX9_good_24 : decode cX9_good 24 = .ok (.ireturn, 1) := by decide +kernel
set_option maxRecDepth 20000 in
theorem ggX9_isMusic_X9_place : GoodIn wsX9_isMusic wsX9_place := goodIn_r _ [7, 2, 8, 9, 10, 11, 12, 13, 14, 15, 16, 17, 18, 19, 20, 21, 22, 23, 24, 25, 26, 27] (by decide +kernel) (by decide +kernel)
set_option maxRecDepth 20000 in
theorem gX9_isMusic_X9_place : GoodIn wsX9_isMusic (wsV RX9 157 RX9 yX9_place wsX9_place) := goodIn_app (goodIn_of _ (by decide +kernel)) ggX9_isMusic_X9_place
theorem dX9_isMusic_0 : decode cX9_isMusic 0 = .ok (.aload_n 0, 1) := by decide +kernel
theorem dX9_isMusic_1 : decode cX9_isMusic 1 = .ok (.getfield 9, 3) := by decide +kernel
theorem dX9_isMusic_4 : decode cX9_isMusic 4 = .ok (.iconst 0, 1) := by decide +kernel
theorem dX9_isMusic_5 : decode cX9_isMusic 5 = .ok (.iaload, 1) := by decide +kernel
theorem dX9_isMusic_6 : decode cX9_isMusic 6 = .ok (.istore_n 3, 1) := by decide +kernel
theorem dX9_isMusic_7 : decode cX9_isMusic 7 = .ok (.iload_n 1, 1) := by decide +kernel
theorem dX9_isMusic_8 : decode cX9_isMusic 8 = .ok (.tableswitch 165 0 2 #[28, 70, 108], 28) := by decide +kernel
theorem dX9_isMusic_36 : decode cX9_isMusic 36 = .ok (.iconst 1, 1) := by decide +kernel
theorem dX9_isMusic_37 : decode cX9_isMusic 37 = .ok (.istore 4, 2) := by decide +kernel
theorem dX9_isMusic_39 : decode cX9_isMusic 39 = .ok (.iload 4, 2) := by decide +kernel
theorem dX9_isMusic_41 : decode cX9_isMusic 41 = .ok (.iconst 5, 1) := by decide +kernel
theorem dX9_isMusic_42 : decode cX9_isMusic 42 = .ok (.if_icmp .ge 34, 3) := by decide +kernel
theorem dX9_isMusic_45 : decode cX9_isMusic 45 = .ok (.aload_n 0, 1) := by decide +kernel
theorem dX9_isMusic_46 : decode cX9_isMusic 46 = .ok (.getfield 18, 3) := by decide +kernel
theorem dX9_isMusic_49 : decode cX9_isMusic 49 = .ok (.bipush 8, 2) := by decide +kernel
theorem dX9_isMusic_51 : decode cX9_isMusic 51 = .ok (.iload_n 2, 1) := by decide +kernel
theorem dX9_isMusic_52 : decode cX9_isMusic 52 = .ok (.imul, 1) := by decide +kernel
theorem dX9_isMusic_53 : decode cX9_isMusic 53 = .ok (.iload_n 3, 1) := by decide +kernel
theorem dX9_isMusic_54 : decode cX9_isMusic 54 = .ok (.iadd, 1) := by decide +kernel
theorem dX9_isMusic_55 : decode cX9_isMusic 55 = .ok (.iload 4, 2) := by decide +kernel
theorem dX9_isMusic_57 : decode cX9_isMusic 57 = .ok (.isub, 1) := by decide +kernel
theorem dX9_isMusic_58 : decode cX9_isMusic 58 = .ok (.iaload, 1) := by decide +kernel
theorem dX9_isMusic_59 : decode cX9_isMusic 59 = .ok (.iload_n 3, 1) := by decide +kernel
theorem dX9_isMusic_60 : decode cX9_isMusic 60 = .ok (.iconst 1, 1) := by decide +kernel
theorem dX9_isMusic_61 : decode cX9_isMusic 61 = .ok (.iadd, 1) := by decide +kernel
theorem dX9_isMusic_62 : decode cX9_isMusic 62 = .ok (.iload 4, 2) := by decide +kernel
theorem dX9_isMusic_64 : decode cX9_isMusic 64 = .ok (.isub, 1) := by decide +kernel
theorem dX9_isMusic_65 : decode cX9_isMusic 65 = .ok (.if_icmp .eq 5, 3) := by decide +kernel
theorem dX9_isMusic_68 : decode cX9_isMusic 68 = .ok (.iconst 0, 1) := by decide +kernel
theorem dX9_isMusic_69 : decode cX9_isMusic 69 = .ok (.ireturn, 1) := by decide +kernel
theorem dX9_isMusic_70 : decode cX9_isMusic 70 = .ok (.iinc 4 1, 3) := by decide +kernel
theorem dX9_isMusic_73 : decode cX9_isMusic 73 = .ok (.goto (-34), 3) := by decide +kernel
theorem dX9_isMusic_76 : decode cX9_isMusic 76 = .ok (.iconst 1, 1) := by decide +kernel
theorem dX9_isMusic_77 : decode cX9_isMusic 77 = .ok (.ireturn, 1) := by decide +kernel
theorem dX9_isMusic_78 : decode cX9_isMusic 78 = .ok (.iconst 0, 1) := by decide +kernel
theorem dX9_isMusic_79 : decode cX9_isMusic 79 = .ok (.istore 4, 2) := by decide +kernel
theorem dX9_isMusic_81 : decode cX9_isMusic 81 = .ok (.iload 4, 2) := by decide +kernel
theorem dX9_isMusic_83 : decode cX9_isMusic 83 = .ok (.iconst 4, 1) := by decide +kernel
theorem dX9_isMusic_84 : decode cX9_isMusic 84 = .ok (.if_icmp .ge 30, 3) := by decide +kernel
theorem dX9_isMusic_87 : decode cX9_isMusic 87 = .ok (.aload_n 0, 1) := by decide +kernel
theorem dX9_isMusic_88 : decode cX9_isMusic 88 = .ok (.getfield 18, 3) := by decide +kernel
theorem dX9_isMusic_91 : decode cX9_isMusic 91 = .ok (.bipush 8, 2) := by decide +kernel
theorem dX9_isMusic_93 : decode cX9_isMusic 93 = .ok (.iload_n 2, 1) := by decide +kernel
theorem dX9_isMusic_94 : decode cX9_isMusic 94 = .ok (.imul, 1) := by decide +kernel
theorem dX9_isMusic_95 : decode cX9_isMusic 95 = .ok (.iload 4, 2) := by decide +kernel
theorem dX9_isMusic_97 : decode cX9_isMusic 97 = .ok (.iadd, 1) := by decide +kernel
theorem dX9_isMusic_98 : decode cX9_isMusic 98 = .ok (.iaload, 1) := by decide +kernel
theorem dX9_isMusic_99 : decode cX9_isMusic 99 = .ok (.iload 4, 2) := by decide +kernel
theorem dX9_isMusic_101 : decode cX9_isMusic 101 = .ok (.iconst 1, 1) := by decide +kernel
theorem dX9_isMusic_102 : decode cX9_isMusic 102 = .ok (.iadd, 1) := by decide +kernel
theorem dX9_isMusic_103 : decode cX9_isMusic 103 = .ok (.if_icmp .eq 5, 3) := by decide +kernel
theorem dX9_isMusic_106 : decode cX9_isMusic 106 = .ok (.iconst 0, 1) := by decide +kernel
theorem dX9_isMusic_107 : decode cX9_isMusic 107 = .ok (.ireturn, 1) := by decide +kernel
theorem dX9_isMusic_108 : decode cX9_isMusic 108 = .ok (.iinc 4 1, 3) := by decide +kernel
theorem dX9_isMusic_111 : decode cX9_isMusic 111 = .ok (.goto (-30), 3) := by decide +kernel
theorem dX9_isMusic_114 : decode cX9_isMusic 114 = .ok (.iconst 1, 1) := by decide +kernel
theorem dX9_isMusic_115 : decode cX9_isMusic 115 = .ok (.ireturn, 1) := by decide +kernel
theorem dX9_isMusic_116 : decode cX9_isMusic 116 = .ok (.iconst 0, 1) := by decide +kernel
theorem dX9_isMusic_117 : decode cX9_isMusic 117 = .ok (.istore 4, 2) := by decide +kernel
theorem dX9_isMusic_119 : decode cX9_isMusic 119 = .ok (.iload 4, 2) := by decide +kernel
theorem dX9_isMusic_121 : decode cX9_isMusic 121 = .ok (.iload_n 3, 1) := by decide +kernel
theorem dX9_isMusic_122 : decode cX9_isMusic 122 = .ok (.if_icmp .ge 49, 3) := by decide +kernel
theorem dX9_isMusic_125 : decode cX9_isMusic 125 = .ok (.aload_n 0, 1) := by decide +kernel
theorem dX9_isMusic_126 : decode cX9_isMusic 126 = .ok (.getfield 9, 3) := by decide +kernel
theorem dX9_isMusic_129 : decode cX9_isMusic 129 = .ok (.bipush 36, 2) := by decide +kernel
theorem dX9_isMusic_131 : decode cX9_isMusic 131 = .ok (.iload 4, 2) := by decide +kernel
theorem dX9_isMusic_133 : decode cX9_isMusic 133 = .ok (.iadd, 1) := by decide +kernel
theorem dX9_isMusic_134 : decode cX9_isMusic 134 = .ok (.iaload, 1) := by decide +kernel
theorem dX9_isMusic_135 : decode cX9_isMusic 135 = .ok (.ifCond .eq 30, 3) := by decide +kernel
theorem dX9_isMusic_138 : decode cX9_isMusic 138 = .ok (.aload_n 0, 1) := by decide +kernel
theorem dX9_isMusic_139 : decode cX9_isMusic 139 = .ok (.getfield 9, 3) := by decide +kernel
theorem dX9_isMusic_142 : decode cX9_isMusic 142 = .ok (.bipush 36, 2) := by decide +kernel
theorem dX9_isMusic_144 : decode cX9_isMusic 144 = .ok (.iload 4, 2) := by decide +kernel
theorem dX9_isMusic_146 : decode cX9_isMusic 146 = .ok (.iadd, 1) := by decide +kernel
theorem dX9_isMusic_147 : decode cX9_isMusic 147 = .ok (.iaload, 1) := by decide +kernel
theorem dX9_isMusic_148 : decode cX9_isMusic 148 = .ok (.aload_n 0, 1) := by decide +kernel
theorem dX9_isMusic_149 : decode cX9_isMusic 149 = .ok (.getfield 18, 3) := by decide +kernel
theorem dX9_isMusic_152 : decode cX9_isMusic 152 = .ok (.bipush 8, 2) := by decide +kernel
theorem dX9_isMusic_154 : decode cX9_isMusic 154 = .ok (.iload_n 2, 1) := by decide +kernel
theorem dX9_isMusic_155 : decode cX9_isMusic 155 = .ok (.imul, 1) := by decide +kernel
theorem dX9_isMusic_156 : decode cX9_isMusic 156 = .ok (.iload 4, 2) := by decide +kernel
theorem dX9_isMusic_158 : decode cX9_isMusic 158 = .ok (.iadd, 1) := by decide +kernel
theorem dX9_isMusic_159 : decode cX9_isMusic 159 = .ok (.iaload, 1) := by decide +kernel
theorem dX9_isMusic_160 : decode cX9_isMusic 160 = .ok (.if_icmp .eq 5, 3) := by decide +kernel
theorem dX9_isMusic_163 : decode cX9_isMusic 163 = .ok (.iconst 0, 1) := by decide +kernel
theorem dX9_isMusic_164 : decode cX9_isMusic 164 = .ok (.ireturn, 1) := by decide +kernel
theorem dX9_isMusic_165 : decode cX9_isMusic 165 = .ok (.iinc 4 1, 3) := by decide +kernel
theorem dX9_isMusic_168 : decode cX9_isMusic 168 = .ok (.goto (-49), 3) := by decide +kernel
theorem dX9_isMusic_171 : decode cX9_isMusic 171 = .ok (.iconst 1, 1) := by decide +kernel
theorem dX9_isMusic_172 : decode cX9_isMusic 172 = .ok (.ireturn, 1) := by decide +kernel
theorem dX9_isMusic_173 : decode cX9_isMusic 173 = .ok (.aload_n 0, 1) := by decide +kernel
theorem dX9_isMusic_174 : decode cX9_isMusic 174 = .ok (.iload_n 2, 1) := by decide +kernel
theorem dX9_isMusic_175 : decode cX9_isMusic 175 = .ok (.iload_n 3, 1) := by decide +kernel
theorem dX9_isMusic_176 : decode cX9_isMusic 176 = .ok (.invokevirtual 157, 3) := by decide +kernel
theorem dX9_isMusic_179 : decode cX9_isMusic 179 = .ok (.aload_n 0, 1) := by decide +kernel
theorem dX9_isMusic_180 : decode cX9_isMusic 180 = .ok (.iload_n 2, 1) := by decide +kernel
theorem dX9_isMusic_181 : decode cX9_isMusic 181 = .ok (.iload_n 3, 1) := by decide +kernel
theorem dX9_isMusic_182 : decode cX9_isMusic 182 = .ok (.iconst 1, 1) := by decide +kernel
theorem dX9_isMusic_183 : decode cX9_isMusic 183 = .ok (.isub, 1) := by decide +kernel
theorem dX9_isMusic_184 : decode cX9_isMusic 184 = .ok (.invokevirtual 157, 3) := by decide +kernel
theorem dX9_isMusic_187 : decode cX9_isMusic 187 = .ok (.iconst 1, 1) := by decide +kernel
theorem dX9_isMusic_188 : decode cX9_isMusic 188 = .ok (.iadd, 1) := by decide +kernel
theorem dX9_isMusic_189 : decode cX9_isMusic 189 = .ok (.if_icmp .ne 7, 3) := by decide +kernel
theorem dX9_isMusic_192 : decode cX9_isMusic 192 = .ok (.iconst 1, 1) := by decide +kernel
theorem dX9_isMusic_193 : decode cX9_isMusic 193 = .ok (.goto 4, 3) := by decide +kernel
theorem dX9_isMusic_196 : decode cX9_isMusic 196 = .ok (.iconst 0, 1) := by decide +kernel
theorem dX9_isMusic_197 : decode cX9_isMusic 197 = .ok (.ireturn, 1) := by decide +kernel
set_option maxRecDepth 20000 in
theorem ggX9_musicOf_X9_isMusic : GoodIn wsX9_musicOf wsX9_isMusic := goodIn_r _ [6, 7, 8, 9, 10, 11, 5, 12, 13, 14, 15, 16, 17, 18, 19, 20, 21, 22, 23, 24, 25, 26, 27, 28, 29, 30, 31, 32] (by decide +kernel) (by decide +kernel)
set_option maxRecDepth 20000 in
theorem gX9_musicOf_X9_isMusic : GoodIn wsX9_musicOf (wsV RX9 160 RX9 yX9_isMusic wsX9_isMusic) := goodIn_app (goodIn_of _ (by decide +kernel)) ggX9_musicOf_X9_isMusic
theorem dX9_musicOf_0 : decode cX9_musicOf 0 = .ok (.iconst 0, 1) := by decide +kernel
theorem dX9_musicOf_1 : decode cX9_musicOf 1 = .ok (.istore_n 2, 1) := by decide +kernel
theorem dX9_musicOf_2 : decode cX9_musicOf 2 = .ok (.iconst 1, 1) := by decide +kernel
theorem dX9_musicOf_3 : decode cX9_musicOf 3 = .ok (.istore_n 3, 1) := by decide +kernel
theorem dX9_musicOf_4 : decode cX9_musicOf 4 = .ok (.iload_n 3, 1) := by decide +kernel
theorem dX9_musicOf_5 : decode cX9_musicOf 5 = .ok (.aload_n 0, 1) := by decide +kernel
theorem dX9_musicOf_6 : decode cX9_musicOf 6 = .ok (.getfield 129, 3) := by decide +kernel
theorem dX9_musicOf_9 : decode cX9_musicOf 9 = .ok (.if_icmp .gt 21, 3) := by decide +kernel
theorem dX9_musicOf_12 : decode cX9_musicOf 12 = .ok (.aload_n 0, 1) := by decide +kernel
theorem dX9_musicOf_13 : decode cX9_musicOf 13 = .ok (.iload_n 1, 1) := by decide +kernel
theorem dX9_musicOf_14 : decode cX9_musicOf 14 = .ok (.iload_n 3, 1) := by decide +kernel
theorem dX9_musicOf_15 : decode cX9_musicOf 15 = .ok (.invokevirtual 160, 3) := by decide +kernel
theorem dX9_musicOf_18 : decode cX9_musicOf 18 = .ok (.ifCond .eq 6, 3) := by decide +kernel
theorem dX9_musicOf_21 : decode cX9_musicOf 21 = .ok (.iinc 2 1, 3) := by decide +kernel
theorem dX9_musicOf_24 : decode cX9_musicOf 24 = .ok (.iinc 3 1, 3) := by decide +kernel
theorem dX9_musicOf_27 : decode cX9_musicOf 27 = .ok (.goto (-23), 3) := by decide +kernel
theorem dX9_musicOf_30 : decode cX9_musicOf 30 = .ok (.iload_n 2, 1) := by decide +kernel
theorem dX9_musicOf_31 : decode cX9_musicOf 31 = .ok (.ireturn, 1) := by decide +kernel
set_option maxRecDepth 20000 in
theorem ggX9_music_X9_within : GoodIn wsX9_music wsX9_within := goodIn_r _ [4] (by decide +kernel) (by decide +kernel)
set_option maxRecDepth 20000 in
theorem gX9_music_X9_within : GoodIn wsX9_music (va_wsS RX9 56 yX9_within wsX9_within) := goodIn_app (goodIn_of _ (by decide +kernel)) ggX9_music_X9_within
set_option maxRecDepth 20000 in
theorem ggX9_music_X9_rings : GoodIn wsX9_music wsX9_rings := goodIn_r _ [8, 9, 10, 11, 12, 13, 14, 3, 15, 16, 17, 18, 19, 20, 33, 34, 35, 36, 37, 38, 39, 40, 41, 42, 43, 44, 45, 46, 47, 48, 49, 50, 51, 52] (by decide +kernel) (by decide +kernel)
set_option maxRecDepth 20000 in
theorem gX9_music_X9_rings : GoodIn wsX9_music (wsV RX9 145 RX9 yX9_rings wsX9_rings) := goodIn_app (goodIn_of _ (by decide +kernel)) ggX9_music_X9_rings
set_option maxRecDepth 20000 in
theorem ggX9_music_X9_musicOf : GoodIn wsX9_music wsX9_musicOf := goodIn_r _ [24, 11, 25, 26, 27, 3, 28, 9, 10, 29, 30, 31, 32, 33, 34, 35, 36, 37, 38, 39, 40, 41, 42, 43, 44, 45, 46, 47, 48, 49, 50, 51, 52] (by decide +kernel) (by decide +kernel)
set_option maxRecDepth 20000 in
theorem gX9_music_X9_musicOf : GoodIn wsX9_music (wsV RX9 164 RX9 yX9_musicOf wsX9_musicOf) := goodIn_app (goodIn_of _ (by decide +kernel)) ggX9_music_X9_musicOf
theorem dX9_music_0 : decode cX9_music 0 = .ok (.iload_n 1, 1) := by decide +kernel
theorem dX9_music_1 : decode cX9_music 1 = .ok (.iconst 0, 1) := by decide +kernel
theorem dX9_music_2 : decode cX9_music 2 = .ok (.iconst 3, 1) := by decide +kernel
theorem dX9_music_3 : decode cX9_music 3 = .ok (.invokestatic 56, 3) := by decide +kernel
theorem dX9_music_6 : decode cX9_music 6 = .ok (.ifCond .ne 5, 3) := by decide +kernel
theorem dX9_music_9 : decode cX9_music 9 = .ok (.iconst (-1), 1) := by decide +kernel
theorem dX9_music_10 : decode cX9_music 10 = .ok (.ireturn, 1) := by decide +kernel
theorem dX9_music_11 : decode cX9_music 11 = .ok (.aload_n 0, 1) := by decide +kernel
theorem dX9_music_12 : decode cX9_music 12 = .ok (.invokevirtual 145, 3) := by decide +kernel
theorem dX9_music_15 : decode cX9_music 15 = .ok (.aload_n 0, 1) := by decide +kernel
theorem dX9_music_16 : decode cX9_music 16 = .ok (.iload_n 1, 1) := by decide +kernel
theorem dX9_music_17 : decode cX9_music 17 = .ok (.invokevirtual 164, 3) := by decide +kernel
theorem dX9_music_20 : decode cX9_music 20 = .ok (.ireturn, 1) := by decide +kernel
set_option maxRecDepth 20000 in
theorem ggX9_least_X9_within : GoodIn wsX9_least wsX9_within := goodIn_r _ [5] (by decide +kernel) (by decide +kernel)
set_option maxRecDepth 20000 in
theorem gX9_least_X9_within : GoodIn wsX9_least (va_wsS RX9 56 yX9_within wsX9_within) := goodIn_app (goodIn_of _ (by decide +kernel)) ggX9_least_X9_within
set_option maxRecDepth 20000 in
theorem ggX9_least_X9_rings : GoodIn wsX9_least wsX9_rings := goodIn_r _ [9, 1, 10, 11, 12, 13, 14, 4, 15, 16, 17, 18, 19, 20, 33, 34, 35, 36, 37, 38, 39, 40, 41, 42, 43, 44, 45, 46, 47, 48, 49, 50, 51, 52] (by decide +kernel) (by decide +kernel)
set_option maxRecDepth 20000 in
theorem gX9_least_X9_rings : GoodIn wsX9_least (wsV RX9 145 RX9 yX9_rings wsX9_rings) := goodIn_app (goodIn_of _ (by decide +kernel)) ggX9_least_X9_rings
set_option maxRecDepth 20000 in
theorem ggX9_least_X9_isTrue : GoodIn wsX9_least wsX9_isTrue := goodIn_r _ [24, 11, 16, 25, 26, 27, 4, 28, 29, 30, 31, 32, 33, 34, 35, 36, 37, 38, 39, 40, 41, 42, 43, 44, 45, 46, 47, 48, 49, 50, 51, 52] (by decide +kernel) (by decide +kernel)
set_option maxRecDepth 20000 in
theorem gX9_least_X9_isTrue : GoodIn wsX9_least (wsV RX9 151 RX9 yX9_isTrue wsX9_isTrue) := goodIn_app (goodIn_of _ (by decide +kernel)) ggX9_least_X9_isTrue
theorem dX9_least_0 : decode cX9_least 0 = .ok (.iload_n 1, 1) := by decide +kernel
theorem dX9_least_1 : decode cX9_least 1 = .ok (.iconst 1, 1) := by decide +kernel
theorem dX9_least_2 : decode cX9_least 2 = .ok (.iconst 5, 1) := by decide +kernel
theorem dX9_least_3 : decode cX9_least 3 = .ok (.invokestatic 56, 3) := by decide +kernel
theorem dX9_least_6 : decode cX9_least 6 = .ok (.ifCond .ne 6, 3) := by decide +kernel
theorem dX9_least_9 : decode cX9_least 9 = .ok (.bipush (-2), 2) := by decide +kernel
theorem dX9_least_11 : decode cX9_least 11 = .ok (.ireturn, 1) := by decide +kernel
theorem dX9_least_12 : decode cX9_least 12 = .ok (.iload_n 2, 1) := by decide +kernel
theorem dX9_least_13 : decode cX9_least 13 = .ok (.iconst 0, 1) := by decide +kernel
theorem dX9_least_14 : decode cX9_least 14 = .ok (.iconst 1, 1) := by decide +kernel
theorem dX9_least_15 : decode cX9_least 15 = .ok (.invokestatic 56, 3) := by decide +kernel
theorem dX9_least_18 : decode cX9_least 18 = .ok (.ifCond .ne 5, 3) := by decide +kernel
theorem dX9_least_21 : decode cX9_least 21 = .ok (.iconst (-1), 1) := by decide +kernel
theorem dX9_least_22 : decode cX9_least 22 = .ok (.ireturn, 1) := by decide +kernel
theorem dX9_least_23 : decode cX9_least 23 = .ok (.aload_n 0, 1) := by decide +kernel
theorem dX9_least_24 : decode cX9_least 24 = .ok (.getfield 9, 3) := by decide +kernel
theorem dX9_least_27 : decode cX9_least 27 = .ok (.iconst 4, 1) := by decide +kernel
theorem dX9_least_28 : decode cX9_least 28 = .ok (.iaload, 1) := by decide +kernel
theorem dX9_least_29 : decode cX9_least 29 = .ok (.istore_n 3, 1) := by decide +kernel
theorem dX9_least_30 : decode cX9_least 30 = .ok (.aload_n 0, 1) := by decide +kernel
theorem dX9_least_31 : decode cX9_least 31 = .ok (.getfield 9, 3) := by decide +kernel
theorem dX9_least_34 : decode cX9_least 34 = .ok (.bipush 24, 2) := by decide +kernel
theorem dX9_least_36 : decode cX9_least 36 = .ok (.iaload, 1) := by decide +kernel
theorem dX9_least_37 : decode cX9_least 37 = .ok (.istore 4, 2) := by decide +kernel
theorem dX9_least_39 : decode cX9_least 39 = .ok (.aload_n 0, 1) := by decide +kernel
theorem dX9_least_40 : decode cX9_least 40 = .ok (.getfield 9, 3) := by decide +kernel
theorem dX9_least_43 : decode cX9_least 43 = .ok (.bipush 25, 2) := by decide +kernel
theorem dX9_least_45 : decode cX9_least 45 = .ok (.iaload, 1) := by decide +kernel
theorem dX9_least_46 : decode cX9_least 46 = .ok (.istore 5, 2) := by decide +kernel
theorem dX9_least_48 : decode cX9_least 48 = .ok (.aload_n 0, 1) := by decide +kernel
theorem dX9_least_49 : decode cX9_least 49 = .ok (.getfield 9, 3) := by decide +kernel
theorem dX9_least_52 : decode cX9_least 52 = .ok (.bipush 26, 2) := by decide +kernel
theorem dX9_least_54 : decode cX9_least 54 = .ok (.iaload, 1) := by decide +kernel
theorem dX9_least_55 : decode cX9_least 55 = .ok (.istore 6, 2) := by decide +kernel
theorem dX9_least_57 : decode cX9_least 57 = .ok (.aload_n 0, 1) := by decide +kernel
theorem dX9_least_58 : decode cX9_least 58 = .ok (.getfield 9, 3) := by decide +kernel
theorem dX9_least_61 : decode cX9_least 61 = .ok (.bipush 27, 2) := by decide +kernel
theorem dX9_least_63 : decode cX9_least 63 = .ok (.iaload, 1) := by decide +kernel
theorem dX9_least_64 : decode cX9_least 64 = .ok (.istore 7, 2) := by decide +kernel
theorem dX9_least_66 : decode cX9_least 66 = .ok (.aload_n 0, 1) := by decide +kernel
theorem dX9_least_67 : decode cX9_least 67 = .ok (.getfield 9, 3) := by decide +kernel
theorem dX9_least_70 : decode cX9_least 70 = .ok (.bipush 28, 2) := by decide +kernel
theorem dX9_least_72 : decode cX9_least 72 = .ok (.iaload, 1) := by decide +kernel
theorem dX9_least_73 : decode cX9_least 73 = .ok (.istore 8, 2) := by decide +kernel
theorem dX9_least_75 : decode cX9_least 75 = .ok (.aload_n 0, 1) := by decide +kernel
theorem dX9_least_76 : decode cX9_least 76 = .ok (.getfield 9, 3) := by decide +kernel
theorem dX9_least_79 : decode cX9_least 79 = .ok (.iconst 4, 1) := by decide +kernel
theorem dX9_least_80 : decode cX9_least 80 = .ok (.iload_n 1, 1) := by decide +kernel
theorem dX9_least_81 : decode cX9_least 81 = .ok (.iastore, 1) := by decide +kernel
theorem dX9_least_82 : decode cX9_least 82 = .ok (.iconst 1, 1) := by decide +kernel
theorem dX9_least_83 : decode cX9_least 83 = .ok (.istore 9, 2) := by decide +kernel
theorem dX9_least_85 : decode cX9_least 85 = .ok (.iconst 0, 1) := by decide +kernel
theorem dX9_least_86 : decode cX9_least 86 = .ok (.istore 10, 2) := by decide +kernel
theorem dX9_least_88 : decode cX9_least 88 = .ok (.iload 10, 2) := by decide +kernel
theorem dX9_least_90 : decode cX9_least 90 = .ok (.iload_n 1, 1) := by decide +kernel
theorem dX9_least_91 : decode cX9_least 91 = .ok (.if_icmp .ge 15, 3) := by decide +kernel
theorem dX9_least_94 : decode cX9_least 94 = .ok (.iload 9, 2) := by decide +kernel
theorem dX9_least_96 : decode cX9_least 96 = .ok (.iconst 3, 1) := by decide +kernel
theorem dX9_least_97 : decode cX9_least 97 = .ok (.imul, 1) := by decide +kernel
theorem dX9_least_98 : decode cX9_least 98 = .ok (.istore 9, 2) := by decide +kernel
theorem dX9_least_100 : decode cX9_least 100 = .ok (.iinc 10 1, 3) := by decide +kernel
theorem dX9_least_103 : decode cX9_least 103 = .ok (.goto (-15), 3) := by decide +kernel
theorem dX9_least_106 : decode cX9_least 106 = .ok (.bipush (-5), 2) := by decide +kernel
theorem dX9_least_108 : decode cX9_least 108 = .ok (.istore 10, 2) := by decide +kernel
theorem dX9_least_110 : decode cX9_least 110 = .ok (.bipush (-5), 2) := by decide +kernel
theorem dX9_least_112 : decode cX9_least 112 = .ok (.istore 11, 2) := by decide +kernel
theorem dX9_least_114 : decode cX9_least 114 = .ok (.iconst 0, 1) := by decide +kernel
theorem dX9_least_115 : decode cX9_least 115 = .ok (.istore 12, 2) := by decide +kernel
theorem dX9_least_117 : decode cX9_least 117 = .ok (.iload 12, 2) := by decide +kernel
theorem dX9_least_119 : decode cX9_least 119 = .ok (.iload 9, 2) := by decide +kernel
theorem dX9_least_121 : decode cX9_least 121 = .ok (.if_icmp .ge 108, 3) := by decide +kernel
theorem dX9_least_124 : decode cX9_least 124 = .ok (.iload 12, 2) := by decide +kernel
theorem dX9_least_126 : decode cX9_least 126 = .ok (.istore 13, 2) := by decide +kernel
theorem dX9_least_128 : decode cX9_least 128 = .ok (.iconst 0, 1) := by decide +kernel
theorem dX9_least_129 : decode cX9_least 129 = .ok (.istore 14, 2) := by decide +kernel
theorem dX9_least_131 : decode cX9_least 131 = .ok (.iload_n 1, 1) := by decide +kernel
theorem dX9_least_132 : decode cX9_least 132 = .ok (.iconst 1, 1) := by decide +kernel
theorem dX9_least_133 : decode cX9_least 133 = .ok (.isub, 1) := by decide +kernel
theorem dX9_least_134 : decode cX9_least 134 = .ok (.istore 15, 2) := by decide +kernel
theorem dX9_least_136 : decode cX9_least 136 = .ok (.iload 15, 2) := by decide +kernel
theorem dX9_least_138 : decode cX9_least 138 = .ok (.ifCond .lt 46, 3) := by decide +kernel
theorem dX9_least_141 : decode cX9_least 141 = .ok (.aload_n 0, 1) := by decide +kernel
theorem dX9_least_142 : decode cX9_least 142 = .ok (.getfield 9, 3) := by decide +kernel
theorem dX9_least_145 : decode cX9_least 145 = .ok (.bipush 24, 2) := by decide +kernel
theorem dX9_least_147 : decode cX9_least 147 = .ok (.iload 15, 2) := by decide +kernel
theorem dX9_least_149 : decode cX9_least 149 = .ok (.iadd, 1) := by decide +kernel
theorem dX9_least_150 : decode cX9_least 150 = .ok (.iload 13, 2) := by decide +kernel
theorem dX9_least_152 : decode cX9_least 152 = .ok (.iconst 3, 1) := by decide +kernel
theorem dX9_least_153 : decode cX9_least 153 = .ok (.irem, 1) := by decide +kernel
theorem dX9_least_154 : decode cX9_least 154 = .ok (.iastore, 1) := by decide +kernel
theorem dX9_least_155 : decode cX9_least 155 = .ok (.iload 14, 2) := by decide +kernel
theorem dX9_least_157 : decode cX9_least 157 = .ok (.iload 13, 2) := by decide +kernel
theorem dX9_least_159 : decode cX9_least 159 = .ok (.iconst 3, 1) := by decide +kernel
theorem dX9_least_160 : decode cX9_least 160 = .ok (.irem, 1) := by decide +kernel
theorem dX9_least_161 : decode cX9_least 161 = .ok (.ifCond .ne 7, 3) := by decide +kernel
theorem dX9_least_164 : decode cX9_least 164 = .ok (.iconst 0, 1) := by decide +kernel
theorem dX9_least_165 : decode cX9_least 165 = .ok (.goto 4, 3) := by decide +kernel
theorem dX9_least_168 : decode cX9_least 168 = .ok (.iconst 1, 1) := by decide +kernel
theorem dX9_least_169 : decode cX9_least 169 = .ok (.iadd, 1) := by decide +kernel
theorem dX9_least_170 : decode cX9_least 170 = .ok (.istore 14, 2) := by decide +kernel
theorem dX9_least_172 : decode cX9_least 172 = .ok (.iload 13, 2) := by decide +kernel
theorem dX9_least_174 : decode cX9_least 174 = .ok (.iconst 3, 1) := by decide +kernel
theorem dX9_least_175 : decode cX9_least 175 = .ok (.idiv, 1) := by decide +kernel
theorem dX9_least_176 : decode cX9_least 176 = .ok (.istore 13, 2) := by decide +kernel
theorem dX9_least_178 : decode cX9_least 178 = .ok (.iinc 15 (-1), 3) := by decide +kernel
theorem dX9_least_181 : decode cX9_least 181 = .ok (.goto (-45), 3) := by decide +kernel
theorem dX9_least_184 : decode cX9_least 184 = .ok (.iload 10, 2) := by decide +kernel
theorem dX9_least_186 : decode cX9_least 186 = .ok (.bipush (-5), 2) := by decide +kernel
theorem dX9_least_188 : decode cX9_least 188 = .ok (.if_icmp .eq 13, 3) := by decide +kernel
theorem dX9_least_191 : decode cX9_least 191 = .ok (.iload 14, 2) := by decide +kernel
theorem dX9_least_193 : decode cX9_least 193 = .ok (.iload 11, 2) := by decide +kernel
theorem dX9_least_195 : decode cX9_least 195 = .ok (.if_icmp .lt 6, 3) := by decide +kernel
theorem dX9_least_198 : decode cX9_least 198 = .ok (.goto 25, 3) := by decide +kernel
theorem dX9_least_201 : decode cX9_least 201 = .ok (.aload_n 0, 1) := by decide +kernel
theorem dX9_least_202 : decode cX9_least 202 = .ok (.invokevirtual 145, 3) := by decide +kernel
theorem dX9_least_205 : decode cX9_least 205 = .ok (.aload_n 0, 1) := by decide +kernel
theorem dX9_least_206 : decode cX9_least 206 = .ok (.invokevirtual 151, 3) := by decide +kernel
theorem dX9_least_209 : decode cX9_least 209 = .ok (.ifCond .ne 6, 3) := by decide +kernel
theorem dX9_least_212 : decode cX9_least 212 = .ok (.goto 11, 3) := by decide +kernel
theorem dX9_least_215 : decode cX9_least 215 = .ok (.iload 12, 2) := by decide +kernel
theorem dX9_least_217 : decode cX9_least 217 = .ok (.istore 10, 2) := by decide +kernel
theorem dX9_least_219 : decode cX9_least 219 = .ok (.iload 14, 2) := by decide +kernel
theorem dX9_least_221 : decode cX9_least 221 = .ok (.istore 11, 2) := by decide +kernel
theorem dX9_least_223 : decode cX9_least 223 = .ok (.iinc 12 1, 3) := by decide +kernel
theorem dX9_least_226 : decode cX9_least 226 = .ok (.goto (-109), 3) := by decide +kernel
theorem dX9_least_229 : decode cX9_least 229 = .ok (.aload_n 0, 1) := by decide +kernel
theorem dX9_least_230 : decode cX9_least 230 = .ok (.getfield 9, 3) := by decide +kernel
theorem dX9_least_233 : decode cX9_least 233 = .ok (.iconst 4, 1) := by decide +kernel
theorem dX9_least_234 : decode cX9_least 234 = .ok (.iload_n 3, 1) := by decide +kernel
theorem dX9_least_235 : decode cX9_least 235 = .ok (.iastore, 1) := by decide +kernel
theorem dX9_least_236 : decode cX9_least 236 = .ok (.aload_n 0, 1) := by decide +kernel
theorem dX9_least_237 : decode cX9_least 237 = .ok (.getfield 9, 3) := by decide +kernel
theorem dX9_least_240 : decode cX9_least 240 = .ok (.bipush 24, 2) := by decide +kernel
theorem dX9_least_242 : decode cX9_least 242 = .ok (.iload 4, 2) := by decide +kernel
theorem dX9_least_244 : decode cX9_least 244 = .ok (.iastore, 1) := by decide +kernel
theorem dX9_least_245 : decode cX9_least 245 = .ok (.aload_n 0, 1) := by decide +kernel
theorem dX9_least_246 : decode cX9_least 246 = .ok (.getfield 9, 3) := by decide +kernel
theorem dX9_least_249 : decode cX9_least 249 = .ok (.bipush 25, 2) := by decide +kernel
theorem dX9_least_251 : decode cX9_least 251 = .ok (.iload 5, 2) := by decide +kernel
theorem dX9_least_253 : decode cX9_least 253 = .ok (.iastore, 1) := by decide +kernel
theorem dX9_least_254 : decode cX9_least 254 = .ok (.aload_n 0, 1) := by decide +kernel
theorem dX9_least_255 : decode cX9_least 255 = .ok (.getfield 9, 3) := by decide +kernel
theorem dX9_least_258 : decode cX9_least 258 = .ok (.bipush 26, 2) := by decide +kernel
theorem dX9_least_260 : decode cX9_least 260 = .ok (.iload 6, 2) := by decide +kernel
theorem dX9_least_262 : decode cX9_least 262 = .ok (.iastore, 1) := by decide +kernel
theorem dX9_least_263 : decode cX9_least 263 = .ok (.aload_n 0, 1) := by decide +kernel
theorem dX9_least_264 : decode cX9_least 264 = .ok (.getfield 9, 3) := by decide +kernel
theorem dX9_least_267 : decode cX9_least 267 = .ok (.bipush 27, 2) := by decide +kernel
theorem dX9_least_269 : decode cX9_least 269 = .ok (.iload 7, 2) := by decide +kernel
theorem dX9_least_271 : decode cX9_least 271 = .ok (.iastore, 1) := by decide +kernel
theorem dX9_least_272 : decode cX9_least 272 = .ok (.aload_n 0, 1) := by decide +kernel
theorem dX9_least_273 : decode cX9_least 273 = .ok (.getfield 9, 3) := by decide +kernel
theorem dX9_least_276 : decode cX9_least 276 = .ok (.bipush 28, 2) := by decide +kernel
theorem dX9_least_278 : decode cX9_least 278 = .ok (.iload 8, 2) := by decide +kernel
theorem dX9_least_280 : decode cX9_least 280 = .ok (.iastore, 1) := by decide +kernel
theorem dX9_least_281 : decode cX9_least 281 = .ok (.iload_n 2, 1) := by decide +kernel
theorem dX9_least_282 : decode cX9_least 282 = .ok (.ifCond .ne 8, 3) := by decide +kernel
theorem dX9_least_285 : decode cX9_least 285 = .ok (.iload 10, 2) := by decide +kernel
theorem dX9_least_287 : decode cX9_least 287 = .ok (.goto 5, 3) := by decide +kernel
theorem dX9_least_290 : decode cX9_least 290 = .ok (.iload 11, 2) := by decide +kernel
theorem dX9_least_292 : decode cX9_least 292 = .ok (.ireturn, 1) := by decide +kernel
set_option maxRecDepth 20000 in
theorem ggX9_still_X9_isPlace : GoodIn wsX9_still wsX9_isPlace := goodIn_r _ [6, 7, 8, 9, 5, 10, 29, 30, 31, 32, 33, 34, 35, 36, 37, 38, 39, 40, 41, 42, 43, 44, 45, 46, 47, 48] (by decide +kernel) (by decide +kernel)
set_option maxRecDepth 20000 in
theorem gX9_still_X9_isPlace : GoodIn wsX9_still (wsV RX9 154 RX9 yX9_isPlace wsX9_isPlace) := goodIn_app (goodIn_of _ (by decide +kernel)) ggX9_still_X9_isPlace
set_option maxRecDepth 20000 in
theorem ggX9_still_X9_rings : GoodIn wsX9_still wsX9_rings := goodIn_r _ [14, 7, 15, 1, 16, 17, 18, 5, 19, 20, 21, 22, 23, 24, 29, 30, 31, 32, 33, 34, 35, 36, 37, 38, 39, 40, 41, 42, 43, 44, 45, 46, 47, 48] (by decide +kernel) (by decide +kernel)
set_option maxRecDepth 20000 in
theorem gX9_still_X9_rings : GoodIn wsX9_still (wsV RX9 145 RX9 yX9_rings wsX9_rings) := goodIn_app (goodIn_of _ (by decide +kernel)) ggX9_still_X9_rings
set_option maxRecDepth 20000 in
theorem ggX9_still_X9_place : GoodIn wsX9_still wsX9_place := goodIn_r _ [28, 15, 29, 30, 31, 32, 33, 34, 35, 36, 37, 38, 39, 40, 41, 42, 43, 44, 45, 46, 47, 48] (by decide +kernel) (by decide +kernel)
set_option maxRecDepth 20000 in
theorem gX9_still_X9_place : GoodIn wsX9_still (wsV RX9 157 RX9 yX9_place wsX9_place) := goodIn_app (goodIn_of _ (by decide +kernel)) ggX9_still_X9_place
theorem dX9_still_0 : decode cX9_still 0 = .ok (.aload_n 0, 1) := by decide +kernel
theorem dX9_still_1 : decode cX9_still 1 = .ok (.iload_n 1, 1) := by decide +kernel
theorem dX9_still_2 : decode cX9_still 2 = .ok (.invokevirtual 154, 3) := by decide +kernel
theorem dX9_still_5 : decode cX9_still 5 = .ok (.ifCond .ne 5, 3) := by decide +kernel
theorem dX9_still_8 : decode cX9_still 8 = .ok (.iconst (-1), 1) := by decide +kernel
theorem dX9_still_9 : decode cX9_still 9 = .ok (.ireturn, 1) := by decide +kernel
theorem dX9_still_10 : decode cX9_still 10 = .ok (.aload_n 0, 1) := by decide +kernel
theorem dX9_still_11 : decode cX9_still 11 = .ok (.invokevirtual 145, 3) := by decide +kernel
theorem dX9_still_14 : decode cX9_still 14 = .ok (.iconst 0, 1) := by decide +kernel
theorem dX9_still_15 : decode cX9_still 15 = .ok (.istore_n 2, 1) := by decide +kernel
theorem dX9_still_16 : decode cX9_still 16 = .ok (.iconst 1, 1) := by decide +kernel
theorem dX9_still_17 : decode cX9_still 17 = .ok (.istore_n 3, 1) := by decide +kernel
theorem dX9_still_18 : decode cX9_still 18 = .ok (.iload_n 3, 1) := by decide +kernel
theorem dX9_still_19 : decode cX9_still 19 = .ok (.aload_n 0, 1) := by decide +kernel
theorem dX9_still_20 : decode cX9_still 20 = .ok (.getfield 129, 3) := by decide +kernel
theorem dX9_still_23 : decode cX9_still 23 = .ok (.if_icmp .gt 29, 3) := by decide +kernel
theorem dX9_still_26 : decode cX9_still 26 = .ok (.aload_n 0, 1) := by decide +kernel
theorem dX9_still_27 : decode cX9_still 27 = .ok (.iload_n 3, 1) := by decide +kernel
theorem dX9_still_28 : decode cX9_still 28 = .ok (.iload_n 1, 1) := by decide +kernel
theorem dX9_still_29 : decode cX9_still 29 = .ok (.invokevirtual 157, 3) := by decide +kernel
theorem dX9_still_32 : decode cX9_still 32 = .ok (.aload_n 0, 1) := by decide +kernel
theorem dX9_still_33 : decode cX9_still 33 = .ok (.iload_n 3, 1) := by decide +kernel
theorem dX9_still_34 : decode cX9_still 34 = .ok (.iconst 1, 1) := by decide +kernel
theorem dX9_still_35 : decode cX9_still 35 = .ok (.isub, 1) := by decide +kernel
theorem dX9_still_36 : decode cX9_still 36 = .ok (.iload_n 1, 1) := by decide +kernel
theorem dX9_still_37 : decode cX9_still 37 = .ok (.invokevirtual 157, 3) := by decide +kernel
theorem dX9_still_40 : decode cX9_still 40 = .ok (.if_icmp .ne 6, 3) := by decide +kernel
theorem dX9_still_43 : decode cX9_still 43 = .ok (.iinc 2 1, 3) := by decide +kernel
theorem dX9_still_46 : decode cX9_still 46 = .ok (.iinc 3 1, 3) := by decide +kernel
theorem dX9_still_49 : decode cX9_still 49 = .ok (.goto (-31), 3) := by decide +kernel
theorem dX9_still_52 : decode cX9_still 52 = .ok (.iload_n 2, 1) := by decide +kernel
theorem dX9_still_53 : decode cX9_still 53 = .ok (.ireturn, 1) := by decide +kernel
set_option maxRecDepth 20000 in
theorem ggX9_ahead_X9_isPlace : GoodIn wsX9_ahead wsX9_isPlace := goodIn_r _ [6, 7, 8, 9, 5, 10, 29, 30, 31, 32, 33, 34, 35, 36, 37, 38, 39, 40, 41, 42, 43, 44, 45, 46, 47, 48] (by decide +kernel) (by decide +kernel)
set_option maxRecDepth 20000 in
theorem gX9_ahead_X9_isPlace : GoodIn wsX9_ahead (wsV RX9 154 RX9 yX9_isPlace wsX9_isPlace) := goodIn_app (goodIn_of _ (by decide +kernel)) ggX9_ahead_X9_isPlace
set_option maxRecDepth 20000 in
theorem ggX9_ahead_X9_rings : GoodIn wsX9_ahead wsX9_rings := goodIn_r _ [14, 7, 15, 1, 16, 17, 18, 5, 19, 20, 21, 22, 23, 24, 29, 30, 31, 32, 33, 34, 35, 36, 37, 38, 39, 40, 41, 42, 43, 44, 45, 46, 47, 48] (by decide +kernel) (by decide +kernel)
set_option maxRecDepth 20000 in
theorem gX9_ahead_X9_rings : GoodIn wsX9_ahead (wsV RX9 145 RX9 yX9_rings wsX9_rings) := goodIn_app (goodIn_of _ (by decide +kernel)) ggX9_ahead_X9_rings
set_option maxRecDepth 20000 in
theorem ggX9_ahead_X9_place : GoodIn wsX9_ahead wsX9_place := goodIn_r _ [28, 15, 29, 30, 31, 32, 33, 34, 35, 36, 37, 38, 39, 40, 41, 42, 43, 44, 45, 46, 47, 48] (by decide +kernel) (by decide +kernel)
set_option maxRecDepth 20000 in
theorem gX9_ahead_X9_place : GoodIn wsX9_ahead (wsV RX9 157 RX9 yX9_place wsX9_place) := goodIn_app (goodIn_of _ (by decide +kernel)) ggX9_ahead_X9_place
theorem dX9_ahead_0 : decode cX9_ahead 0 = .ok (.aload_n 0, 1) := by decide +kernel
theorem dX9_ahead_1 : decode cX9_ahead 1 = .ok (.iload_n 1, 1) := by decide +kernel
theorem dX9_ahead_2 : decode cX9_ahead 2 = .ok (.invokevirtual 154, 3) := by decide +kernel
theorem dX9_ahead_5 : decode cX9_ahead 5 = .ok (.ifCond .eq 16, 3) := by decide +kernel
theorem dX9_ahead_8 : decode cX9_ahead 8 = .ok (.aload_n 0, 1) := by decide +kernel
theorem dX9_ahead_9 : decode cX9_ahead 9 = .ok (.iload_n 2, 1) := by decide +kernel
theorem dX9_ahead_10 : decode cX9_ahead 10 = .ok (.invokevirtual 154, 3) := by decide +kernel
theorem dX9_ahead_13 : decode cX9_ahead 13 = .ok (.ifCond .eq 8, 3) := by decide +kernel
theorem dX9_ahead_16 : decode cX9_ahead 16 = .ok (.iload_n 1, 1) := by decide +kernel
theorem dX9_ahead_17 : decode cX9_ahead 17 = .ok (.iload_n 2, 1) := by decide +kernel
theorem dX9_ahead_18 : decode cX9_ahead 18 = .ok (.if_icmp .ne 5, 3) := by decide +kernel
theorem dX9_ahead_21 : decode cX9_ahead 21 = .ok (.iconst (-1), 1) := by decide +kernel
theorem dX9_ahead_22 : decode cX9_ahead 22 = .ok (.ireturn, 1) := by decide +kernel
theorem dX9_ahead_23 : decode cX9_ahead 23 = .ok (.aload_n 0, 1) := by decide +kernel
theorem dX9_ahead_24 : decode cX9_ahead 24 = .ok (.invokevirtual 145, 3) := by decide +kernel
theorem dX9_ahead_27 : decode cX9_ahead 27 = .ok (.iconst 0, 1) := by decide +kernel
theorem dX9_ahead_28 : decode cX9_ahead 28 = .ok (.istore_n 3, 1) := by decide +kernel
theorem dX9_ahead_29 : decode cX9_ahead 29 = .ok (.iconst 0, 1) := by decide +kernel
theorem dX9_ahead_30 : decode cX9_ahead 30 = .ok (.istore 4, 2) := by decide +kernel
theorem dX9_ahead_32 : decode cX9_ahead 32 = .ok (.iload 4, 2) := by decide +kernel
theorem dX9_ahead_34 : decode cX9_ahead 34 = .ok (.aload_n 0, 1) := by decide +kernel
theorem dX9_ahead_35 : decode cX9_ahead 35 = .ok (.getfield 129, 3) := by decide +kernel
theorem dX9_ahead_38 : decode cX9_ahead 38 = .ok (.if_icmp .gt 31, 3) := by decide +kernel
theorem dX9_ahead_41 : decode cX9_ahead 41 = .ok (.aload_n 0, 1) := by decide +kernel
theorem dX9_ahead_42 : decode cX9_ahead 42 = .ok (.iload 4, 2) := by decide +kernel
theorem dX9_ahead_44 : decode cX9_ahead 44 = .ok (.iload_n 1, 1) := by decide +kernel
theorem dX9_ahead_45 : decode cX9_ahead 45 = .ok (.invokevirtual 157, 3) := by decide +kernel
theorem dX9_ahead_48 : decode cX9_ahead 48 = .ok (.iconst 1, 1) := by decide +kernel
theorem dX9_ahead_49 : decode cX9_ahead 49 = .ok (.iadd, 1) := by decide +kernel
theorem dX9_ahead_50 : decode cX9_ahead 50 = .ok (.aload_n 0, 1) := by decide +kernel
theorem dX9_ahead_51 : decode cX9_ahead 51 = .ok (.iload 4, 2) := by decide +kernel
theorem dX9_ahead_53 : decode cX9_ahead 53 = .ok (.iload_n 2, 1) := by decide +kernel
theorem dX9_ahead_54 : decode cX9_ahead 54 = .ok (.invokevirtual 157, 3) := by decide +kernel
theorem dX9_ahead_57 : decode cX9_ahead 57 = .ok (.if_icmp .ne 6, 3) := by decide +kernel
theorem dX9_ahead_60 : decode cX9_ahead 60 = .ok (.iinc 3 1, 3) := by decide +kernel
theorem dX9_ahead_63 : decode cX9_ahead 63 = .ok (.iinc 4 1, 3) := by decide +kernel
theorem dX9_ahead_66 : decode cX9_ahead 66 = .ok (.goto (-34), 3) := by decide +kernel
theorem dX9_ahead_69 : decode cX9_ahead 69 = .ok (.iload_n 3, 1) := by decide +kernel
theorem dX9_ahead_70 : decode cX9_ahead 70 = .ok (.ireturn, 1) := by decide +kernel
set_option maxRecDepth 20000 in
theorem ggX9_see_X9_within : GoodIn wsX9_see wsX9_within := goodIn_r _ [5] (by decide +kernel) (by decide +kernel)
set_option maxRecDepth 20000 in
theorem gX9_see_X9_within : GoodIn wsX9_see (va_wsS RX9 56 yX9_within wsX9_within) := goodIn_app (goodIn_of _ (by decide +kernel)) ggX9_see_X9_within
set_option maxRecDepth 20000 in
theorem ggX9_see_X9_isPlace : GoodIn wsX9_see wsX9_isPlace := goodIn_r _ [9, 1, 2, 3, 4, 5, 10, 11, 12, 13, 14, 15, 16, 17, 18, 19, 20, 21, 22, 23, 24, 25, 26, 27, 28, 29] (by decide +kernel) (by decide +kernel)
set_option maxRecDepth 20000 in
theorem gX9_see_X9_isPlace : GoodIn wsX9_see (wsV RX9 154 RX9 yX9_isPlace wsX9_isPlace) := goodIn_app (goodIn_of _ (by decide +kernel)) ggX9_see_X9_isPlace
theorem dX9_see_0 : decode cX9_see 0 = .ok (.iload_n 1, 1) := by decide +kernel
theorem dX9_see_1 : decode cX9_see 1 = .ok (.iconst (-1), 1) := by decide +kernel
theorem dX9_see_2 : decode cX9_see 2 = .ok (.if_icmp .ne 12, 3) := by decide +kernel
theorem dX9_see_5 : decode cX9_see 5 = .ok (.aload_n 0, 1) := by decide +kernel
theorem dX9_see_6 : decode cX9_see 6 = .ok (.getfield 9, 3) := by decide +kernel
theorem dX9_see_9 : decode cX9_see 9 = .ok (.iconst 5, 1) := by decide +kernel
theorem dX9_see_10 : decode cX9_see 10 = .ok (.iconst 0, 1) := by decide +kernel
theorem dX9_see_11 : decode cX9_see 11 = .ok (.iastore, 1) := by decide +kernel
theorem dX9_see_12 : decode cX9_see 12 = .ok (.iconst 0, 1) := by decide +kernel
theorem dX9_see_13 : decode cX9_see 13 = .ok (.ireturn, 1) := by decide +kernel
theorem dX9_see_14 : decode cX9_see 14 = .ok (.iload_n 1, 1) := by decide +kernel
theorem dX9_see_15 : decode cX9_see 15 = .ok (.iconst 0, 1) := by decide +kernel
theorem dX9_see_16 : decode cX9_see 16 = .ok (.sipush 192, 3) := by decide +kernel
theorem dX9_see_19 : decode cX9_see 19 = .ok (.invokestatic 56, 3) := by decide +kernel
theorem dX9_see_22 : decode cX9_see 22 = .ok (.ifCond .eq 19, 3) := by decide +kernel
theorem dX9_see_25 : decode cX9_see 25 = .ok (.aload_n 0, 1) := by decide +kernel
theorem dX9_see_26 : decode cX9_see 26 = .ok (.iload_n 2, 1) := by decide +kernel
theorem dX9_see_27 : decode cX9_see 27 = .ok (.invokevirtual 154, 3) := by decide +kernel
theorem dX9_see_30 : decode cX9_see 30 = .ok (.ifCond .eq 11, 3) := by decide +kernel
theorem dX9_see_33 : decode cX9_see 33 = .ok (.aload_n 0, 1) := by decide +kernel
theorem dX9_see_34 : decode cX9_see 34 = .ok (.iload_n 3, 1) := by decide +kernel
theorem dX9_see_35 : decode cX9_see 35 = .ok (.invokevirtual 154, 3) := by decide +kernel
theorem dX9_see_38 : decode cX9_see 38 = .ok (.ifCond .ne 5, 3) := by decide +kernel
theorem dX9_see_41 : decode cX9_see 41 = .ok (.iconst (-1), 1) := by decide +kernel
theorem dX9_see_42 : decode cX9_see 42 = .ok (.ireturn, 1) := by decide +kernel
theorem dX9_see_43 : decode cX9_see 43 = .ok (.aload_n 0, 1) := by decide +kernel
theorem dX9_see_44 : decode cX9_see 44 = .ok (.getfield 9, 3) := by decide +kernel
theorem dX9_see_47 : decode cX9_see 47 = .ok (.iconst 5, 1) := by decide +kernel
theorem dX9_see_48 : decode cX9_see 48 = .ok (.iaload, 1) := by decide +kernel
theorem dX9_see_49 : decode cX9_see 49 = .ok (.iconst 5, 1) := by decide +kernel
theorem dX9_see_50 : decode cX9_see 50 = .ok (.if_icmp .ne 6, 3) := by decide +kernel
theorem dX9_see_53 : decode cX9_see 53 = .ok (.bipush (-4), 2) := by decide +kernel
theorem dX9_see_55 : decode cX9_see 55 = .ok (.ireturn, 1) := by decide +kernel
theorem dX9_see_56 : decode cX9_see 56 = .ok (.bipush 44, 2) := by decide +kernel
theorem dX9_see_58 : decode cX9_see 58 = .ok (.iconst 3, 1) := by decide +kernel
theorem dX9_see_59 : decode cX9_see 59 = .ok (.aload_n 0, 1) := by decide +kernel
theorem dX9_see_60 : decode cX9_see 60 = .ok (.getfield 9, 3) := by decide +kernel
theorem dX9_see_63 : decode cX9_see 63 = .ok (.iconst 5, 1) := by decide +kernel
theorem dX9_see_64 : decode cX9_see 64 = .ok (.iaload, 1) := by decide +kernel
theorem dX9_see_65 : decode cX9_see 65 = .ok (.imul, 1) := by decide +kernel
theorem dX9_see_66 : decode cX9_see 66 = .ok (.iadd, 1) := by decide +kernel
theorem dX9_see_67 : decode cX9_see 67 = .ok (.istore 4, 2) := by decide +kernel
theorem dX9_see_69 : decode cX9_see 69 = .ok (.aload_n 0, 1) := by decide +kernel
theorem dX9_see_70 : decode cX9_see 70 = .ok (.getfield 9, 3) := by decide +kernel
theorem dX9_see_73 : decode cX9_see 73 = .ok (.iload 4, 2) := by decide +kernel
theorem dX9_see_75 : decode cX9_see 75 = .ok (.iload_n 1, 1) := by decide +kernel
theorem dX9_see_76 : decode cX9_see 76 = .ok (.iastore, 1) := by decide +kernel
theorem dX9_see_77 : decode cX9_see 77 = .ok (.aload_n 0, 1) := by decide +kernel
theorem dX9_see_78 : decode cX9_see 78 = .ok (.getfield 9, 3) := by decide +kernel
theorem dX9_see_81 : decode cX9_see 81 = .ok (.iload 4, 2) := by decide +kernel
theorem dX9_see_83 : decode cX9_see 83 = .ok (.iconst 1, 1) := by decide +kernel
theorem dX9_see_84 : decode cX9_see 84 = .ok (.iadd, 1) := by decide +kernel
theorem dX9_see_85 : decode cX9_see 85 = .ok (.iload_n 2, 1) := by decide +kernel
theorem dX9_see_86 : decode cX9_see 86 = .ok (.iastore, 1) := by decide +kernel
theorem dX9_see_87 : decode cX9_see 87 = .ok (.aload_n 0, 1) := by decide +kernel
theorem dX9_see_88 : decode cX9_see 88 = .ok (.getfield 9, 3) := by decide +kernel
theorem dX9_see_91 : decode cX9_see 91 = .ok (.iload 4, 2) := by decide +kernel
theorem dX9_see_93 : decode cX9_see 93 = .ok (.iconst 2, 1) := by decide +kernel
theorem dX9_see_94 : decode cX9_see 94 = .ok (.iadd, 1) := by decide +kernel
theorem dX9_see_95 : decode cX9_see 95 = .ok (.iload_n 3, 1) := by decide +kernel
theorem dX9_see_96 : decode cX9_see 96 = .ok (.iastore, 1) := by decide +kernel
theorem dX9_see_97 : decode cX9_see 97 = .ok (.aload_n 0, 1) := by decide +kernel
theorem dX9_see_98 : decode cX9_see 98 = .ok (.getfield 9, 3) := by decide +kernel
theorem dX9_see_101 : decode cX9_see 101 = .ok (.iconst 5, 1) := by decide +kernel
theorem dX9_see_102 : decode cX9_see 102 = .ok (.dup2, 1) := by decide +kernel
theorem dX9_see_103 : decode cX9_see 103 = .ok (.iaload, 1) := by decide +kernel
theorem dX9_see_104 : decode cX9_see 104 = .ok (.iconst 1, 1) := by decide +kernel
theorem dX9_see_105 : decode cX9_see 105 = .ok (.iadd, 1) := by decide +kernel
theorem dX9_see_106 : decode cX9_see 106 = .ok (.dup_x2, 1) := by decide +kernel
theorem dX9_see_107 : decode cX9_see 107 = .ok (.iastore, 1) := by decide +kernel
theorem dX9_see_108 : decode cX9_see 108 = .ok (.ireturn, 1) := by decide +kernel
theorem dX9_isSeen_0 : decode cX9_isSeen 0 = .ok (.iconst 0, 1) := by decide +kernel
theorem dX9_isSeen_1 : decode cX9_isSeen 1 = .ok (.istore_n 1, 1) := by decide +kernel
theorem dX9_isSeen_2 : decode cX9_isSeen 2 = .ok (.iload_n 1, 1) := by decide +kernel
theorem dX9_isSeen_3 : decode cX9_isSeen 3 = .ok (.aload_n 0, 1) := by decide +kernel
theorem dX9_isSeen_4 : decode cX9_isSeen 4 = .ok (.getfield 9, 3) := by decide +kernel
theorem dX9_isSeen_7 : decode cX9_isSeen 7 = .ok (.iconst 5, 1) := by decide +kernel
theorem dX9_isSeen_8 : decode cX9_isSeen 8 = .ok (.iaload, 1) := by decide +kernel
theorem dX9_isSeen_9 : decode cX9_isSeen 9 = .ok (.if_icmp .ge 67, 3) := by decide +kernel
theorem dX9_isSeen_12 : decode cX9_isSeen 12 = .ok (.bipush 44, 2) := by decide +kernel
theorem dX9_isSeen_14 : decode cX9_isSeen 14 = .ok (.iconst 3, 1) := by decide +kernel
theorem dX9_isSeen_15 : decode cX9_isSeen 15 = .ok (.iload_n 1, 1) := by decide +kernel
theorem dX9_isSeen_16 : decode cX9_isSeen 16 = .ok (.imul, 1) := by decide +kernel
theorem dX9_isSeen_17 : decode cX9_isSeen 17 = .ok (.iadd, 1) := by decide +kernel
theorem dX9_isSeen_18 : decode cX9_isSeen 18 = .ok (.istore_n 2, 1) := by decide +kernel
theorem dX9_isSeen_19 : decode cX9_isSeen 19 = .ok (.aload_n 0, 1) := by decide +kernel
theorem dX9_isSeen_20 : decode cX9_isSeen 20 = .ok (.getfield 9, 3) := by decide +kernel
theorem dX9_isSeen_23 : decode cX9_isSeen 23 = .ok (.iload_n 2, 1) := by decide +kernel
theorem dX9_isSeen_24 : decode cX9_isSeen 24 = .ok (.iaload, 1) := by decide +kernel
theorem dX9_isSeen_25 : decode cX9_isSeen 25 = .ok (.aload_n 0, 1) := by decide +kernel
theorem dX9_isSeen_26 : decode cX9_isSeen 26 = .ok (.getfield 129, 3) := by decide +kernel
theorem dX9_isSeen_29 : decode cX9_isSeen 29 = .ok (.if_icmp .gt 41, 3) := by decide +kernel
theorem dX9_isSeen_32 : decode cX9_isSeen 32 = .ok (.aload_n 0, 1) := by decide +kernel
theorem dX9_isSeen_33 : decode cX9_isSeen 33 = .ok (.getfield 18, 3) := by decide +kernel
theorem dX9_isSeen_36 : decode cX9_isSeen 36 = .ok (.bipush 8, 2) := by decide +kernel
theorem dX9_isSeen_38 : decode cX9_isSeen 38 = .ok (.aload_n 0, 1) := by decide +kernel
theorem dX9_isSeen_39 : decode cX9_isSeen 39 = .ok (.getfield 9, 3) := by decide +kernel
theorem dX9_isSeen_42 : decode cX9_isSeen 42 = .ok (.iload_n 2, 1) := by decide +kernel
theorem dX9_isSeen_43 : decode cX9_isSeen 43 = .ok (.iaload, 1) := by decide +kernel
theorem dX9_isSeen_44 : decode cX9_isSeen 44 = .ok (.imul, 1) := by decide +kernel
theorem dX9_isSeen_45 : decode cX9_isSeen 45 = .ok (.aload_n 0, 1) := by decide +kernel
theorem dX9_isSeen_46 : decode cX9_isSeen 46 = .ok (.getfield 9, 3) := by decide +kernel
theorem dX9_isSeen_49 : decode cX9_isSeen 49 = .ok (.iload_n 2, 1) := by decide +kernel
theorem dX9_isSeen_50 : decode cX9_isSeen 50 = .ok (.iconst 1, 1) := by decide +kernel
theorem dX9_isSeen_51 : decode cX9_isSeen 51 = .ok (.iadd, 1) := by decide +kernel
theorem dX9_isSeen_52 : decode cX9_isSeen 52 = .ok (.iaload, 1) := by decide +kernel
theorem dX9_isSeen_53 : decode cX9_isSeen 53 = .ok (.iadd, 1) := by decide +kernel
theorem dX9_isSeen_54 : decode cX9_isSeen 54 = .ok (.iconst 1, 1) := by decide +kernel
theorem dX9_isSeen_55 : decode cX9_isSeen 55 = .ok (.isub, 1) := by decide +kernel
theorem dX9_isSeen_56 : decode cX9_isSeen 56 = .ok (.iaload, 1) := by decide +kernel
theorem dX9_isSeen_57 : decode cX9_isSeen 57 = .ok (.aload_n 0, 1) := by decide +kernel
theorem dX9_isSeen_58 : decode cX9_isSeen 58 = .ok (.getfield 9, 3) := by decide +kernel
theorem dX9_isSeen_61 : decode cX9_isSeen 61 = .ok (.iload_n 2, 1) := by decide +kernel
theorem dX9_isSeen_62 : decode cX9_isSeen 62 = .ok (.iconst 2, 1) := by decide +kernel
theorem dX9_isSeen_63 : decode cX9_isSeen 63 = .ok (.iadd, 1) := by decide +kernel
theorem dX9_isSeen_64 : decode cX9_isSeen 64 = .ok (.iaload, 1) := by decide +kernel
theorem dX9_isSeen_65 : decode cX9_isSeen 65 = .ok (.if_icmp .eq 5, 3) := by decide +kernel
theorem dX9_isSeen_68 : decode cX9_isSeen 68 = .ok (.iconst 0, 1) := by decide +kernel
theorem dX9_isSeen_69 : decode cX9_isSeen 69 = .ok (.ireturn, 1) := by decide +kernel
theorem dX9_isSeen_70 : decode cX9_isSeen 70 = .ok (.iinc 1 1, 3) := by decide +kernel
theorem dX9_isSeen_73 : decode cX9_isSeen 73 = .ok (.goto (-71), 3) := by decide +kernel
theorem dX9_isSeen_76 : decode cX9_isSeen 76 = .ok (.iconst 1, 1) := by decide +kernel
theorem dX9_isSeen_77 : decode cX9_isSeen 77 = .ok (.ireturn, 1) := by decide +kernel
set_option maxRecDepth 20000 in
theorem ggX9_fits_X9_within : GoodIn wsX9_fits wsX9_within := goodIn_r _ [5] (by decide +kernel) (by decide +kernel)
set_option maxRecDepth 20000 in
theorem gX9_fits_X9_within : GoodIn wsX9_fits (va_wsS RX9 56 yX9_within wsX9_within) := goodIn_app (goodIn_of _ (by decide +kernel)) ggX9_fits_X9_within
set_option maxRecDepth 20000 in
theorem ggX9_fits_X9_isGood : GoodIn wsX9_fits wsX9_isGood := goodIn_r _ [9, 1, 29, 30, 31, 32, 33, 34, 35, 36, 37, 38, 39, 40, 41, 42, 43, 44, 45, 46, 47, 48] (by decide +kernel) (by decide +kernel)
set_option maxRecDepth 20000 in
theorem gX9_fits_X9_isGood : GoodIn wsX9_fits (wsV RX9 64 RX9 yX9_isGood wsX9_isGood) := goodIn_app (goodIn_of _ (by decide +kernel)) ggX9_fits_X9_isGood
set_option maxRecDepth 20000 in
theorem ggX9_fits_X9_rings : GoodIn wsX9_fits wsX9_rings := goodIn_r _ [13, 1, 14, 15, 16, 17, 18, 4, 19, 20, 21, 22, 23, 24, 29, 30, 31, 32, 33, 34, 35, 36, 37, 38, 39, 40, 41, 42, 43, 44, 45, 46, 47, 48] (by decide +kernel) (by decide +kernel)
set_option maxRecDepth 20000 in
theorem gX9_fits_X9_rings : GoodIn wsX9_fits (wsV RX9 145 RX9 yX9_rings wsX9_rings) := goodIn_app (goodIn_of _ (by decide +kernel)) ggX9_fits_X9_rings
set_option maxRecDepth 20000 in
theorem ggX9_fits_X9_isSeen : GoodIn wsX9_fits wsX9_isSeen := goodIn_r _ [28, 1, 15, 14, 29, 30, 31, 32, 33, 34, 35, 36, 37, 38, 39, 40, 41, 42, 43, 44, 45, 46, 47, 48] (by decide +kernel) (by decide +kernel)
set_option maxRecDepth 20000 in
theorem gX9_fits_X9_isSeen : GoodIn wsX9_fits (wsV RX9 167 RX9 yX9_isSeen wsX9_isSeen) := goodIn_app (goodIn_of _ (by decide +kernel)) ggX9_fits_X9_isSeen
theorem dX9_fits_0 : decode cX9_fits 0 = .ok (.iload_n 1, 1) := by decide +kernel
theorem dX9_fits_1 : decode cX9_fits 1 = .ok (.iconst 0, 1) := by decide +kernel
theorem dX9_fits_2 : decode cX9_fits 2 = .ok (.iconst 1, 1) := by decide +kernel
theorem dX9_fits_3 : decode cX9_fits 3 = .ok (.invokestatic 56, 3) := by decide +kernel
theorem dX9_fits_6 : decode cX9_fits 6 = .ok (.ifCond .ne 5, 3) := by decide +kernel
theorem dX9_fits_9 : decode cX9_fits 9 = .ok (.iconst (-1), 1) := by decide +kernel
theorem dX9_fits_10 : decode cX9_fits 10 = .ok (.ireturn, 1) := by decide +kernel
theorem dX9_fits_11 : decode cX9_fits 11 = .ok (.aload_n 0, 1) := by decide +kernel
theorem dX9_fits_12 : decode cX9_fits 12 = .ok (.getfield 9, 3) := by decide +kernel
theorem dX9_fits_15 : decode cX9_fits 15 = .ok (.iconst 1, 1) := by decide +kernel
theorem dX9_fits_16 : decode cX9_fits 16 = .ok (.iaload, 1) := by decide +kernel
theorem dX9_fits_17 : decode cX9_fits 17 = .ok (.ifCond .ne 14, 3) := by decide +kernel
theorem dX9_fits_20 : decode cX9_fits 20 = .ok (.iload_n 1, 1) := by decide +kernel
theorem dX9_fits_21 : decode cX9_fits 21 = .ok (.ifCond .ne 7, 3) := by decide +kernel
theorem dX9_fits_24 : decode cX9_fits 24 = .ok (.iconst 0, 1) := by decide +kernel
theorem dX9_fits_25 : decode cX9_fits 25 = .ok (.goto 5, 3) := by decide +kernel
theorem dX9_fits_28 : decode cX9_fits 28 = .ok (.bipush (-5), 2) := by decide +kernel
theorem dX9_fits_30 : decode cX9_fits 30 = .ok (.ireturn, 1) := by decide +kernel
theorem dX9_fits_31 : decode cX9_fits 31 = .ok (.bipush 8, 2) := by decide +kernel
theorem dX9_fits_33 : decode cX9_fits 33 = .ok (.aload_n 0, 1) := by decide +kernel
theorem dX9_fits_34 : decode cX9_fits 34 = .ok (.getfield 9, 3) := by decide +kernel
theorem dX9_fits_37 : decode cX9_fits 37 = .ok (.iconst 1, 1) := by decide +kernel
theorem dX9_fits_38 : decode cX9_fits 38 = .ok (.iaload, 1) := by decide +kernel
theorem dX9_fits_39 : decode cX9_fits 39 = .ok (.iadd, 1) := by decide +kernel
theorem dX9_fits_40 : decode cX9_fits 40 = .ok (.iconst 1, 1) := by decide +kernel
theorem dX9_fits_41 : decode cX9_fits 41 = .ok (.isub, 1) := by decide +kernel
theorem dX9_fits_42 : decode cX9_fits 42 = .ok (.istore_n 2, 1) := by decide +kernel
theorem dX9_fits_43 : decode cX9_fits 43 = .ok (.aload_n 0, 1) := by decide +kernel
theorem dX9_fits_44 : decode cX9_fits 44 = .ok (.getfield 9, 3) := by decide +kernel
theorem dX9_fits_47 : decode cX9_fits 47 = .ok (.iload_n 2, 1) := by decide +kernel
theorem dX9_fits_48 : decode cX9_fits 48 = .ok (.iaload, 1) := by decide +kernel
theorem dX9_fits_49 : decode cX9_fits 49 = .ok (.istore_n 3, 1) := by decide +kernel
theorem dX9_fits_50 : decode cX9_fits 50 = .ok (.iconst 0, 1) := by decide +kernel
theorem dX9_fits_51 : decode cX9_fits 51 = .ok (.istore 4, 2) := by decide +kernel
theorem dX9_fits_53 : decode cX9_fits 53 = .ok (.bipush (-5), 2) := by decide +kernel
theorem dX9_fits_55 : decode cX9_fits 55 = .ok (.istore 5, 2) := by decide +kernel
theorem dX9_fits_57 : decode cX9_fits 57 = .ok (.iconst 1, 1) := by decide +kernel
theorem dX9_fits_58 : decode cX9_fits 58 = .ok (.aload_n 0, 1) := by decide +kernel
theorem dX9_fits_59 : decode cX9_fits 59 = .ok (.getfield 9, 3) := by decide +kernel
theorem dX9_fits_62 : decode cX9_fits 62 = .ok (.iconst 0, 1) := by decide +kernel
theorem dX9_fits_63 : decode cX9_fits 63 = .ok (.iaload, 1) := by decide +kernel
theorem dX9_fits_64 : decode cX9_fits 64 = .ok (.ishl, 1) := by decide +kernel
theorem dX9_fits_65 : decode cX9_fits 65 = .ok (.iconst 1, 1) := by decide +kernel
theorem dX9_fits_66 : decode cX9_fits 66 = .ok (.isub, 1) := by decide +kernel
theorem dX9_fits_67 : decode cX9_fits 67 = .ok (.istore 6, 2) := by decide +kernel
theorem dX9_fits_69 : decode cX9_fits 69 = .ok (.iload 6, 2) := by decide +kernel
theorem dX9_fits_71 : decode cX9_fits 71 = .ok (.ifCond .lt 50, 3) := by decide +kernel
theorem dX9_fits_74 : decode cX9_fits 74 = .ok (.aload_n 0, 1) := by decide +kernel
theorem dX9_fits_75 : decode cX9_fits 75 = .ok (.iload 6, 2) := by decide +kernel
theorem dX9_fits_77 : decode cX9_fits 77 = .ok (.invokevirtual 64, 3) := by decide +kernel
theorem dX9_fits_80 : decode cX9_fits 80 = .ok (.ifCond .ne 6, 3) := by decide +kernel
theorem dX9_fits_83 : decode cX9_fits 83 = .ok (.goto 32, 3) := by decide +kernel
theorem dX9_fits_86 : decode cX9_fits 86 = .ok (.aload_n 0, 1) := by decide +kernel
theorem dX9_fits_87 : decode cX9_fits 87 = .ok (.getfield 9, 3) := by decide +kernel
theorem dX9_fits_90 : decode cX9_fits 90 = .ok (.iload_n 2, 1) := by decide +kernel
theorem dX9_fits_91 : decode cX9_fits 91 = .ok (.iload 6, 2) := by decide +kernel
theorem dX9_fits_93 : decode cX9_fits 93 = .ok (.iastore, 1) := by decide +kernel
theorem dX9_fits_94 : decode cX9_fits 94 = .ok (.aload_n 0, 1) := by decide +kernel
theorem dX9_fits_95 : decode cX9_fits 95 = .ok (.invokevirtual 145, 3) := by decide +kernel
theorem dX9_fits_98 : decode cX9_fits 98 = .ok (.aload_n 0, 1) := by decide +kernel
theorem dX9_fits_99 : decode cX9_fits 99 = .ok (.invokevirtual 167, 3) := by decide +kernel
theorem dX9_fits_102 : decode cX9_fits 102 = .ok (.ifCond .ne 6, 3) := by decide +kernel
theorem dX9_fits_105 : decode cX9_fits 105 = .ok (.goto 10, 3) := by decide +kernel
theorem dX9_fits_108 : decode cX9_fits 108 = .ok (.iinc 4 1, 3) := by decide +kernel
theorem dX9_fits_111 : decode cX9_fits 111 = .ok (.iload 6, 2) := by decide +kernel
theorem dX9_fits_113 : decode cX9_fits 113 = .ok (.istore 5, 2) := by decide +kernel
theorem dX9_fits_115 : decode cX9_fits 115 = .ok (.iinc 6 (-1), 3) := by decide +kernel
theorem dX9_fits_118 : decode cX9_fits 118 = .ok (.goto (-49), 3) := by decide +kernel
theorem dX9_fits_121 : decode cX9_fits 121 = .ok (.aload_n 0, 1) := by decide +kernel
theorem dX9_fits_122 : decode cX9_fits 122 = .ok (.getfield 9, 3) := by decide +kernel
theorem dX9_fits_125 : decode cX9_fits 125 = .ok (.iload_n 2, 1) := by decide +kernel
theorem dX9_fits_126 : decode cX9_fits 126 = .ok (.iload_n 3, 1) := by decide +kernel
theorem dX9_fits_127 : decode cX9_fits 127 = .ok (.iastore, 1) := by decide +kernel
theorem dX9_fits_128 : decode cX9_fits 128 = .ok (.iload_n 1, 1) := by decide +kernel
theorem dX9_fits_129 : decode cX9_fits 129 = .ok (.ifCond .ne 8, 3) := by decide +kernel
theorem dX9_fits_132 : decode cX9_fits 132 = .ok (.iload 4, 2) := by decide +kernel
theorem dX9_fits_134 : decode cX9_fits 134 = .ok (.goto 5, 3) := by decide +kernel
theorem dX9_fits_137 : decode cX9_fits 137 = .ok (.iload 5, 2) := by decide +kernel
theorem dX9_fits_139 : decode cX9_fits 139 = .ok (.ireturn, 1) := by decide +kernel
theorem dX9_lowest_0 : decode cX9_lowest 0 = .ok (.iload_n 0, 1) := by decide +kernel
theorem dX9_lowest_1 : decode cX9_lowest 1 = .ok (.istore_n 3, 1) := by decide +kernel
theorem dX9_lowest_2 : decode cX9_lowest 2 = .ok (.iload_n 1, 1) := by decide +kernel
theorem dX9_lowest_3 : decode cX9_lowest 3 = .ok (.istore 4, 2) := by decide +kernel
theorem dX9_lowest_5 : decode cX9_lowest 5 = .ok (.iload 4, 2) := by decide +kernel
theorem dX9_lowest_7 : decode cX9_lowest 7 = .ok (.ifCond .eq 19, 3) := by decide +kernel
theorem dX9_lowest_10 : decode cX9_lowest 10 = .ok (.iload_n 3, 1) := by decide +kernel
theorem dX9_lowest_11 : decode cX9_lowest 11 = .ok (.iload 4, 2) := by decide +kernel
theorem dX9_lowest_13 : decode cX9_lowest 13 = .ok (.irem, 1) := by decide +kernel
theorem dX9_lowest_14 : decode cX9_lowest 14 = .ok (.istore 5, 2) := by decide +kernel
theorem dX9_lowest_16 : decode cX9_lowest 16 = .ok (.iload 4, 2) := by decide +kernel
theorem dX9_lowest_18 : decode cX9_lowest 18 = .ok (.istore_n 3, 1) := by decide +kernel
theorem dX9_lowest_19 : decode cX9_lowest 19 = .ok (.iload 5, 2) := by decide +kernel
theorem dX9_lowest_21 : decode cX9_lowest 21 = .ok (.istore 4, 2) := by decide +kernel
theorem dX9_lowest_23 : decode cX9_lowest 23 = .ok (.goto (-18), 3) := by decide +kernel
theorem dX9_lowest_26 : decode cX9_lowest 26 = .ok (.iload_n 2, 1) := by decide +kernel
theorem dX9_lowest_27 : decode cX9_lowest 27 = .ok (.ifCond .ne 10, 3) := by decide +kernel
theorem dX9_lowest_30 : decode cX9_lowest 30 = .ok (.iload_n 0, 1) := by decide +kernel
theorem dX9_lowest_31 : decode cX9_lowest 31 = .ok (.iload_n 3, 1) := by decide +kernel
theorem dX9_lowest_32 : decode cX9_lowest 32 = .ok (.idiv, 1) := by decide +kernel
theorem dX9_lowest_33 : decode cX9_lowest 33 = .ok (.i2l, 1) := by decide +kernel
theorem dX9_lowest_34 : decode cX9_lowest 34 = .ok (.goto 7, 3) := by decide +kernel
theorem dX9_lowest_37 : decode cX9_lowest 37 = .ok (.iload_n 1, 1) := by decide +kernel
theorem dX9_lowest_38 : decode cX9_lowest 38 = .ok (.iload_n 3, 1) := by decide +kernel
theorem dX9_lowest_39 : decode cX9_lowest 39 = .ok (.idiv, 1) := by decide +kernel
theorem dX9_lowest_40 : decode cX9_lowest 40 = .ok (.i2l, 1) := by decide +kernel
theorem dX9_lowest_41 : decode cX9_lowest 41 = .ok (.lreturn, 1) := by decide +kernel
set_option maxRecDepth 20000 in
theorem ggX9_odds_X9_isPlace : GoodIn wsX9_odds wsX9_isPlace := goodIn_r _ [7, 8, 9, 10, 6, 11, 33, 34, 35, 36, 37, 38, 39, 40, 41, 42, 43, 44, 45, 46, 47, 48, 49, 50, 51, 52] (by decide +kernel) (by decide +kernel)
set_option maxRecDepth 20000 in
theorem gX9_odds_X9_isPlace : GoodIn wsX9_odds (wsV RX9 154 RX9 yX9_isPlace wsX9_isPlace) := goodIn_app (goodIn_of _ (by decide +kernel)) ggX9_odds_X9_isPlace
set_option maxRecDepth 20000 in
theorem ggX9_odds_X9_within : GoodIn wsX9_odds wsX9_within := goodIn_r _ [11] (by decide +kernel) (by decide +kernel)
set_option maxRecDepth 20000 in
theorem gX9_odds_X9_within : GoodIn wsX9_odds (va_wsS RX9 56 yX9_within wsX9_within) := goodIn_app (goodIn_of _ (by decide +kernel)) ggX9_odds_X9_within
set_option maxRecDepth 20000 in
theorem ggX9_odds_X9_rings : GoodIn wsX9_odds wsX9_rings := goodIn_r _ [15, 8, 16, 2, 17, 18, 19, 6, 20, 21, 22, 23, 24, 25, 33, 34, 35, 36, 37, 38, 39, 40, 41, 42, 43, 44, 45, 46, 47, 48, 49, 50, 51, 52] (by decide +kernel) (by decide +kernel)
set_option maxRecDepth 20000 in
theorem gX9_odds_X9_rings : GoodIn wsX9_odds (wsV RX9 145 RX9 yX9_rings wsX9_rings) := goodIn_app (goodIn_of _ (by decide +kernel)) ggX9_odds_X9_rings
set_option maxRecDepth 20000 in
theorem ggX9_odds_X9_place : GoodIn wsX9_odds wsX9_place := goodIn_r _ [29, 16, 33, 34, 35, 36, 37, 38, 39, 40, 41, 42, 43, 44, 45, 46, 47, 48, 49, 50, 51, 52] (by decide +kernel) (by decide +kernel)
set_option maxRecDepth 20000 in
theorem gX9_odds_X9_place : GoodIn wsX9_odds (wsV RX9 157 RX9 yX9_place wsX9_place) := goodIn_app (goodIn_of _ (by decide +kernel)) ggX9_odds_X9_place
set_option maxRecDepth 20000 in
theorem ggX9_odds_X9_lowest : GoodIn wsX9_odds wsX9_lowest := goodIn_r _ [32] (by decide +kernel) (by decide +kernel)
set_option maxRecDepth 20000 in
theorem gX9_odds_X9_lowest : GoodIn wsX9_odds (va_wsS RX9 172 yX9_lowest wsX9_lowest) := goodIn_app (goodIn_of _ (by decide +kernel)) ggX9_odds_X9_lowest
theorem dX9_odds_0 : decode cX9_odds 0 = .ok (.aload_n 0, 1) := by decide +kernel
theorem dX9_odds_1 : decode cX9_odds 1 = .ok (.iload_n 1, 1) := by decide +kernel
theorem dX9_odds_2 : decode cX9_odds 2 = .ok (.invokevirtual 154, 3) := by decide +kernel
theorem dX9_odds_5 : decode cX9_odds 5 = .ok (.ifCond .eq 20, 3) := by decide +kernel
theorem dX9_odds_8 : decode cX9_odds 8 = .ok (.aload_n 0, 1) := by decide +kernel
theorem dX9_odds_9 : decode cX9_odds 9 = .ok (.iload_n 2, 1) := by decide +kernel
theorem dX9_odds_10 : decode cX9_odds 10 = .ok (.invokevirtual 154, 3) := by decide +kernel
theorem dX9_odds_13 : decode cX9_odds 13 = .ok (.ifCond .eq 12, 3) := by decide +kernel
theorem dX9_odds_16 : decode cX9_odds 16 = .ok (.iload_n 3, 1) := by decide +kernel
theorem dX9_odds_17 : decode cX9_odds 17 = .ok (.iconst 0, 1) := by decide +kernel
theorem dX9_odds_18 : decode cX9_odds 18 = .ok (.iconst 1, 1) := by decide +kernel
theorem dX9_odds_19 : decode cX9_odds 19 = .ok (.invokestatic 56, 3) := by decide +kernel
theorem dX9_odds_22 : decode cX9_odds 22 = .ok (.ifCond .ne 7, 3) := by decide +kernel
theorem dX9_odds_25 : decode cX9_odds 25 = .ok (.ldc2_w 170, 3) := by decide +kernel
theorem dX9_odds_28 : decode cX9_odds 28 = .ok (.lreturn, 1) := by decide +kernel
theorem dX9_odds_29 : decode cX9_odds 29 = .ok (.aload_n 0, 1) := by decide +kernel
theorem dX9_odds_30 : decode cX9_odds 30 = .ok (.invokevirtual 145, 3) := by decide +kernel
theorem dX9_odds_33 : decode cX9_odds 33 = .ok (.iconst 0, 1) := by decide +kernel
theorem dX9_odds_34 : decode cX9_odds 34 = .ok (.istore 4, 2) := by decide +kernel
theorem dX9_odds_36 : decode cX9_odds 36 = .ok (.iconst 0, 1) := by decide +kernel
theorem dX9_odds_37 : decode cX9_odds 37 = .ok (.istore 5, 2) := by decide +kernel
theorem dX9_odds_39 : decode cX9_odds 39 = .ok (.iload 5, 2) := by decide +kernel
theorem dX9_odds_41 : decode cX9_odds 41 = .ok (.aload_n 0, 1) := by decide +kernel
theorem dX9_odds_42 : decode cX9_odds 42 = .ok (.getfield 129, 3) := by decide +kernel
theorem dX9_odds_45 : decode cX9_odds 45 = .ok (.if_icmp .gt 23, 3) := by decide +kernel
theorem dX9_odds_48 : decode cX9_odds 48 = .ok (.aload_n 0, 1) := by decide +kernel
theorem dX9_odds_49 : decode cX9_odds 49 = .ok (.iload 5, 2) := by decide +kernel
theorem dX9_odds_51 : decode cX9_odds 51 = .ok (.iload_n 1, 1) := by decide +kernel
theorem dX9_odds_52 : decode cX9_odds 52 = .ok (.invokevirtual 157, 3) := by decide +kernel
theorem dX9_odds_55 : decode cX9_odds 55 = .ok (.iload_n 2, 1) := by decide +kernel
theorem dX9_odds_56 : decode cX9_odds 56 = .ok (.if_icmp .ne 6, 3) := by decide +kernel
theorem dX9_odds_59 : decode cX9_odds 59 = .ok (.iinc 4 1, 3) := by decide +kernel
theorem dX9_odds_62 : decode cX9_odds 62 = .ok (.iinc 5 1, 3) := by decide +kernel
theorem dX9_odds_65 : decode cX9_odds 65 = .ok (.goto (-26), 3) := by decide +kernel
theorem dX9_odds_68 : decode cX9_odds 68 = .ok (.iload 4, 2) := by decide +kernel
theorem dX9_odds_70 : decode cX9_odds 70 = .ok (.aload_n 0, 1) := by decide +kernel
theorem dX9_odds_71 : decode cX9_odds 71 = .ok (.getfield 129, 3) := by decide +kernel
theorem dX9_odds_74 : decode cX9_odds 74 = .ok (.iconst 1, 1) := by decide +kernel
theorem dX9_odds_75 : decode cX9_odds 75 = .ok (.iadd, 1) := by decide +kernel
theorem dX9_odds_76 : decode cX9_odds 76 = .ok (.iload_n 3, 1) := by decide +kernel
theorem dX9_odds_77 : decode cX9_odds 77 = .ok (.invokestatic 172, 3) := by decide +kernel
theorem dX9_odds_80 : decode cX9_odds 80 = .ok (.lreturn, 1) := by decide +kernel
set_option maxRecDepth 20000 in
theorem ggX9_mean_X9_within : GoodIn wsX9_mean wsX9_within := goodIn_r _ [6] (by decide +kernel) (by decide +kernel)
set_option maxRecDepth 20000 in
theorem gX9_mean_X9_within : GoodIn wsX9_mean (va_wsS RX9 56 yX9_within wsX9_within) := goodIn_app (goodIn_of _ (by decide +kernel)) ggX9_mean_X9_within
set_option maxRecDepth 20000 in
theorem ggX9_mean_X9_rings : GoodIn wsX9_mean wsX9_rings := goodIn_r _ [10, 11, 12, 2, 13, 14, 15, 5, 16, 17, 18, 19, 20, 21, 37, 38, 39, 40, 41, 42, 43, 44, 45, 46, 47, 48, 49, 50, 51, 52, 53, 54, 55, 56] (by decide +kernel) (by decide +kernel)
set_option maxRecDepth 20000 in
theorem gX9_mean_X9_rings : GoodIn wsX9_mean (wsV RX9 145 RX9 yX9_rings wsX9_rings) := goodIn_app (goodIn_of _ (by decide +kernel)) ggX9_mean_X9_rings
set_option maxRecDepth 20000 in
theorem ggX9_mean_X9_musicOf : GoodIn wsX9_mean wsX9_musicOf := goodIn_r _ [25, 2, 26, 27, 28, 5, 29, 11, 12, 30, 31, 32, 33, 37, 38, 39, 40, 41, 42, 43, 44, 45, 46, 47, 48, 49, 50, 51, 52, 53, 54, 55, 56] (by decide +kernel) (by decide +kernel)
set_option maxRecDepth 20000 in
theorem gX9_mean_X9_musicOf : GoodIn wsX9_mean (wsV RX9 164 RX9 yX9_musicOf wsX9_musicOf) := goodIn_app (goodIn_of _ (by decide +kernel)) ggX9_mean_X9_musicOf
set_option maxRecDepth 20000 in
theorem ggX9_mean_X9_lowest : GoodIn wsX9_mean wsX9_lowest := goodIn_r _ [36] (by decide +kernel) (by decide +kernel)
set_option maxRecDepth 20000 in
theorem gX9_mean_X9_lowest : GoodIn wsX9_mean (va_wsS RX9 172 yX9_lowest wsX9_lowest) := goodIn_app (goodIn_of _ (by decide +kernel)) ggX9_mean_X9_lowest
theorem dX9_mean_0 : decode cX9_mean 0 = .ok (.iload_n 1, 1) := by decide +kernel
theorem dX9_mean_1 : decode cX9_mean 1 = .ok (.iconst 0, 1) := by decide +kernel
theorem dX9_mean_2 : decode cX9_mean 2 = .ok (.iconst 1, 1) := by decide +kernel
theorem dX9_mean_3 : decode cX9_mean 3 = .ok (.invokestatic 56, 3) := by decide +kernel
theorem dX9_mean_6 : decode cX9_mean 6 = .ok (.ifCond .ne 7, 3) := by decide +kernel
theorem dX9_mean_9 : decode cX9_mean 9 = .ok (.ldc2_w 170, 3) := by decide +kernel
theorem dX9_mean_12 : decode cX9_mean 12 = .ok (.lreturn, 1) := by decide +kernel
theorem dX9_mean_13 : decode cX9_mean 13 = .ok (.aload_n 0, 1) := by decide +kernel
theorem dX9_mean_14 : decode cX9_mean 14 = .ok (.invokevirtual 145, 3) := by decide +kernel
theorem dX9_mean_17 : decode cX9_mean 17 = .ok (.iconst 0, 1) := by decide +kernel
theorem dX9_mean_18 : decode cX9_mean 18 = .ok (.istore_n 2, 1) := by decide +kernel
theorem dX9_mean_19 : decode cX9_mean 19 = .ok (.iconst 0, 1) := by decide +kernel
theorem dX9_mean_20 : decode cX9_mean 20 = .ok (.istore_n 3, 1) := by decide +kernel
theorem dX9_mean_21 : decode cX9_mean 21 = .ok (.iload_n 3, 1) := by decide +kernel
theorem dX9_mean_22 : decode cX9_mean 22 = .ok (.iconst 4, 1) := by decide +kernel
theorem dX9_mean_23 : decode cX9_mean 23 = .ok (.if_icmp .ge 17, 3) := by decide +kernel
theorem dX9_mean_26 : decode cX9_mean 26 = .ok (.iload_n 2, 1) := by decide +kernel
theorem dX9_mean_27 : decode cX9_mean 27 = .ok (.aload_n 0, 1) := by decide +kernel
theorem dX9_mean_28 : decode cX9_mean 28 = .ok (.iload_n 3, 1) := by decide +kernel
theorem dX9_mean_29 : decode cX9_mean 29 = .ok (.invokevirtual 164, 3) := by decide +kernel
theorem dX9_mean_32 : decode cX9_mean 32 = .ok (.iadd, 1) := by decide +kernel
theorem dX9_mean_33 : decode cX9_mean 33 = .ok (.istore_n 2, 1) := by decide +kernel
theorem dX9_mean_34 : decode cX9_mean 34 = .ok (.iinc 3 1, 3) := by decide +kernel
theorem dX9_mean_37 : decode cX9_mean 37 = .ok (.goto (-16), 3) := by decide +kernel
theorem dX9_mean_40 : decode cX9_mean 40 = .ok (.iload_n 2, 1) := by decide +kernel
theorem dX9_mean_41 : decode cX9_mean 41 = .ok (.aload_n 0, 1) := by decide +kernel
theorem dX9_mean_42 : decode cX9_mean 42 = .ok (.getfield 129, 3) := by decide +kernel
theorem dX9_mean_45 : decode cX9_mean 45 = .ok (.iconst 1, 1) := by decide +kernel
theorem dX9_mean_46 : decode cX9_mean 46 = .ok (.iadd, 1) := by decide +kernel
theorem dX9_mean_47 : decode cX9_mean 47 = .ok (.iload_n 1, 1) := by decide +kernel
theorem dX9_mean_48 : decode cX9_mean 48 = .ok (.invokestatic 172, 3) := by decide +kernel
theorem dX9_mean_51 : decode cX9_mean 51 = .ok (.lreturn, 1) := by decide +kernel
set_option maxRecDepth 20000 in
theorem ggX9_event_X9_within : GoodIn wsX9_event wsX9_within := goodIn_r _ [5] (by decide +kernel) (by decide +kernel)
set_option maxRecDepth 20000 in
theorem gX9_event_X9_within : GoodIn wsX9_event (va_wsS RX9 56 yX9_within wsX9_within) := goodIn_app (goodIn_of _ (by decide +kernel)) ggX9_event_X9_within
theorem dX9_event_0 : decode cX9_event 0 = .ok (.iload_n 1, 1) := by decide +kernel
theorem dX9_event_1 : decode cX9_event 1 = .ok (.iconst (-1), 1) := by decide +kernel
theorem dX9_event_2 : decode cX9_event 2 = .ok (.if_icmp .ne 13, 3) := by decide +kernel
theorem dX9_event_5 : decode cX9_event 5 = .ok (.aload_n 0, 1) := by decide +kernel
theorem dX9_event_6 : decode cX9_event 6 = .ok (.getfield 9, 3) := by decide +kernel
theorem dX9_event_9 : decode cX9_event 9 = .ok (.bipush 6, 2) := by decide +kernel
theorem dX9_event_11 : decode cX9_event 11 = .ok (.iconst 0, 1) := by decide +kernel
theorem dX9_event_12 : decode cX9_event 12 = .ok (.iastore, 1) := by decide +kernel
theorem dX9_event_13 : decode cX9_event 13 = .ok (.iconst 0, 1) := by decide +kernel
theorem dX9_event_14 : decode cX9_event 14 = .ok (.ireturn, 1) := by decide +kernel
theorem dX9_event_15 : decode cX9_event 15 = .ok (.iload_n 1, 1) := by decide +kernel
theorem dX9_event_16 : decode cX9_event 16 = .ok (.iconst 0, 1) := by decide +kernel
theorem dX9_event_17 : decode cX9_event 17 = .ok (.iconst 3, 1) := by decide +kernel
theorem dX9_event_18 : decode cX9_event 18 = .ok (.invokestatic 56, 3) := by decide +kernel
theorem dX9_event_21 : decode cX9_event 21 = .ok (.ifCond .eq 18, 3) := by decide +kernel
theorem dX9_event_24 : decode cX9_event 24 = .ok (.iload_n 1, 1) := by decide +kernel
theorem dX9_event_25 : decode cX9_event 25 = .ok (.iconst 2, 1) := by decide +kernel
theorem dX9_event_26 : decode cX9_event 26 = .ok (.if_icmp .ge 15, 3) := by decide +kernel
theorem dX9_event_29 : decode cX9_event 29 = .ok (.iload_n 2, 1) := by decide +kernel
theorem dX9_event_30 : decode cX9_event 30 = .ok (.iconst 0, 1) := by decide +kernel
theorem dX9_event_31 : decode cX9_event 31 = .ok (.bipush 11, 2) := by decide +kernel
theorem dX9_event_33 : decode cX9_event 33 = .ok (.invokestatic 56, 3) := by decide +kernel
theorem dX9_event_36 : decode cX9_event 36 = .ok (.ifCond .ne 5, 3) := by decide +kernel
theorem dX9_event_39 : decode cX9_event 39 = .ok (.iconst (-1), 1) := by decide +kernel
theorem dX9_event_40 : decode cX9_event 40 = .ok (.ireturn, 1) := by decide +kernel
theorem dX9_event_41 : decode cX9_event 41 = .ok (.iload_n 1, 1) := by decide +kernel
theorem dX9_event_42 : decode cX9_event 42 = .ok (.iconst 2, 1) := by decide +kernel
theorem dX9_event_43 : decode cX9_event 43 = .ok (.if_icmp .ne 13, 3) := by decide +kernel
theorem dX9_event_46 : decode cX9_event 46 = .ok (.iload_n 2, 1) := by decide +kernel
theorem dX9_event_47 : decode cX9_event 47 = .ok (.iconst 0, 1) := by decide +kernel
theorem dX9_event_48 : decode cX9_event 48 = .ok (.bipush 16, 2) := by decide +kernel
theorem dX9_event_50 : decode cX9_event 50 = .ok (.invokestatic 56, 3) := by decide +kernel
theorem dX9_event_53 : decode cX9_event 53 = .ok (.ifCond .eq 18, 3) := by decide +kernel
theorem dX9_event_56 : decode cX9_event 56 = .ok (.iload_n 1, 1) := by decide +kernel
theorem dX9_event_57 : decode cX9_event 57 = .ok (.iconst 3, 1) := by decide +kernel
theorem dX9_event_58 : decode cX9_event 58 = .ok (.if_icmp .ne 16, 3) := by decide +kernel
theorem dX9_event_61 : decode cX9_event 61 = .ok (.iload_n 2, 1) := by decide +kernel
theorem dX9_event_62 : decode cX9_event 62 = .ok (.iconst 1, 1) := by decide +kernel
theorem dX9_event_63 : decode cX9_event 63 = .ok (.bipush 12, 2) := by decide +kernel
theorem dX9_event_65 : decode cX9_event 65 = .ok (.invokestatic 56, 3) := by decide +kernel
theorem dX9_event_68 : decode cX9_event 68 = .ok (.ifCond .ne 6, 3) := by decide +kernel
theorem dX9_event_71 : decode cX9_event 71 = .ok (.bipush (-2), 2) := by decide +kernel
theorem dX9_event_73 : decode cX9_event 73 = .ok (.ireturn, 1) := by decide +kernel
theorem dX9_event_74 : decode cX9_event 74 = .ok (.aload_n 0, 1) := by decide +kernel
theorem dX9_event_75 : decode cX9_event 75 = .ok (.getfield 9, 3) := by decide +kernel
theorem dX9_event_78 : decode cX9_event 78 = .ok (.bipush 6, 2) := by decide +kernel
theorem dX9_event_80 : decode cX9_event 80 = .ok (.iaload, 1) := by decide +kernel
theorem dX9_event_81 : decode cX9_event 81 = .ok (.bipush 8, 2) := by decide +kernel
theorem dX9_event_83 : decode cX9_event 83 = .ok (.if_icmp .ne 6, 3) := by decide +kernel
theorem dX9_event_86 : decode cX9_event 86 = .ok (.bipush (-4), 2) := by decide +kernel
theorem dX9_event_88 : decode cX9_event 88 = .ok (.ireturn, 1) := by decide +kernel
theorem dX9_event_89 : decode cX9_event 89 = .ok (.aload_n 0, 1) := by decide +kernel
theorem dX9_event_90 : decode cX9_event 90 = .ok (.getfield 9, 3) := by decide +kernel
theorem dX9_event_93 : decode cX9_event 93 = .ok (.bipush 59, 2) := by decide +kernel
theorem dX9_event_95 : decode cX9_event 95 = .ok (.iconst 2, 1) := by decide +kernel
theorem dX9_event_96 : decode cX9_event 96 = .ok (.aload_n 0, 1) := by decide +kernel
theorem dX9_event_97 : decode cX9_event 97 = .ok (.getfield 9, 3) := by decide +kernel
theorem dX9_event_100 : decode cX9_event 100 = .ok (.bipush 6, 2) := by decide +kernel
theorem dX9_event_102 : decode cX9_event 102 = .ok (.iaload, 1) := by decide +kernel
theorem dX9_event_103 : decode cX9_event 103 = .ok (.imul, 1) := by decide +kernel
theorem dX9_event_104 : decode cX9_event 104 = .ok (.iadd, 1) := by decide +kernel
theorem dX9_event_105 : decode cX9_event 105 = .ok (.iload_n 1, 1) := by decide +kernel
theorem dX9_event_106 : decode cX9_event 106 = .ok (.iastore, 1) := by decide +kernel
theorem dX9_event_107 : decode cX9_event 107 = .ok (.aload_n 0, 1) := by decide +kernel
theorem dX9_event_108 : decode cX9_event 108 = .ok (.getfield 9, 3) := by decide +kernel
theorem dX9_event_111 : decode cX9_event 111 = .ok (.bipush 59, 2) := by decide +kernel
theorem dX9_event_113 : decode cX9_event 113 = .ok (.iconst 2, 1) := by decide +kernel
theorem dX9_event_114 : decode cX9_event 114 = .ok (.aload_n 0, 1) := by decide +kernel
theorem dX9_event_115 : decode cX9_event 115 = .ok (.getfield 9, 3) := by decide +kernel
theorem dX9_event_118 : decode cX9_event 118 = .ok (.bipush 6, 2) := by decide +kernel
theorem dX9_event_120 : decode cX9_event 120 = .ok (.iaload, 1) := by decide +kernel
theorem dX9_event_121 : decode cX9_event 121 = .ok (.imul, 1) := by decide +kernel
theorem dX9_event_122 : decode cX9_event 122 = .ok (.iadd, 1) := by decide +kernel
theorem dX9_event_123 : decode cX9_event 123 = .ok (.iconst 1, 1) := by decide +kernel
theorem dX9_event_124 : decode cX9_event 124 = .ok (.iadd, 1) := by decide +kernel
theorem dX9_event_125 : decode cX9_event 125 = .ok (.iload_n 2, 1) := by decide +kernel
theorem dX9_event_126 : decode cX9_event 126 = .ok (.iastore, 1) := by decide +kernel
theorem dX9_event_127 : decode cX9_event 127 = .ok (.aload_n 0, 1) := by decide +kernel
theorem dX9_event_128 : decode cX9_event 128 = .ok (.getfield 9, 3) := by decide +kernel
theorem dX9_event_131 : decode cX9_event 131 = .ok (.bipush 6, 2) := by decide +kernel
theorem dX9_event_133 : decode cX9_event 133 = .ok (.dup2, 1) := by decide +kernel
theorem dX9_event_134 : decode cX9_event 134 = .ok (.iaload, 1) := by decide +kernel
theorem dX9_event_135 : decode cX9_event 135 = .ok (.iconst 1, 1) := by decide +kernel
theorem dX9_event_136 : decode cX9_event 136 = .ok (.iadd, 1) := by decide +kernel
theorem dX9_event_137 : decode cX9_event 137 = .ok (.dup_x2, 1) := by decide +kernel
theorem dX9_event_138 : decode cX9_event 138 = .ok (.iastore, 1) := by decide +kernel
theorem dX9_event_139 : decode cX9_event 139 = .ok (.ireturn, 1) := by decide +kernel
set_option maxRecDepth 20000 in
theorem ggX9_after_X9_within : GoodIn wsX9_after wsX9_within := goodIn_r _ [9] (by decide +kernel) (by decide +kernel)
set_option maxRecDepth 20000 in
theorem gX9_after_X9_within : GoodIn wsX9_after (va_wsS RX9 56 yX9_within wsX9_within) := goodIn_app (goodIn_of _ (by decide +kernel)) ggX9_after_X9_within
set_option maxRecDepth 20000 in
theorem ggX9_after_X9_rings : GoodIn wsX9_after wsX9_rings := goodIn_r _ [13, 1, 14, 15, 16, 17, 18, 8, 19, 20, 21, 22, 23, 24, 41, 42, 43, 44, 45, 46, 47, 48, 49, 50, 51, 52, 53, 54, 55, 56, 57, 58, 59, 60] (by decide +kernel) (by decide +kernel)
set_option maxRecDepth 20000 in
theorem gX9_after_X9_rings : GoodIn wsX9_after (wsV RX9 145 RX9 yX9_rings wsX9_rings) := goodIn_app (goodIn_of _ (by decide +kernel)) ggX9_after_X9_rings
set_option maxRecDepth 20000 in
theorem ggX9_after_X9_round : GoodIn wsX9_after wsX9_round := goodIn_r _ [28, 15, 20, 41, 42, 43, 44, 45, 46, 47, 48, 49, 50, 51, 52, 53, 54, 55, 56, 57, 58, 59, 60] (by decide +kernel) (by decide +kernel)
set_option maxRecDepth 20000 in
theorem gX9_after_X9_round : GoodIn wsX9_after (wsV RX9 148 RX9 yX9_round wsX9_round) := goodIn_app (goodIn_of _ (by decide +kernel)) ggX9_after_X9_round
set_option maxRecDepth 20000 in
theorem ggX9_after_X9_wrongRow : GoodIn wsX9_after wsX9_wrongRow := goodIn_r _ [32, 15, 33, 34, 35, 8, 36, 20, 41, 42, 43, 44, 45, 46, 47, 48, 49, 50, 51, 52, 53, 54, 55, 56, 57, 58, 59, 60] (by decide +kernel) (by decide +kernel)
set_option maxRecDepth 20000 in
theorem gX9_after_X9_wrongRow : GoodIn wsX9_after (wsV RX9 139 RX9 yX9_wrongRow wsX9_wrongRow) := goodIn_app (goodIn_of _ (by decide +kernel)) ggX9_after_X9_wrongRow
set_option maxRecDepth 20000 in
theorem ggX9_after_X9_isTrue : GoodIn wsX9_after wsX9_isTrue := goodIn_r _ [40, 15, 20, 29, 30, 31, 8, 32, 33, 34, 35, 36, 41, 42, 43, 44, 45, 46, 47, 48, 49, 50, 51, 52, 53, 54, 55, 56, 57, 58, 59, 60] (by decide +kernel) (by decide +kernel)
set_option maxRecDepth 20000 in
theorem gX9_after_X9_isTrue : GoodIn wsX9_after (wsV RX9 151 RX9 yX9_isTrue wsX9_isTrue) := goodIn_app (goodIn_of _ (by decide +kernel)) ggX9_after_X9_isTrue
theorem dX9_after_0 : decode cX9_after 0 = .ok (.iload_n 1, 1) := by decide +kernel
theorem dX9_after_1 : decode cX9_after 1 = .ok (.iconst 0, 1) := by decide +kernel
theorem dX9_after_2 : decode cX9_after 2 = .ok (.iconst 2, 1) := by decide +kernel
theorem dX9_after_3 : decode cX9_after 3 = .ok (.invokestatic 56, 3) := by decide +kernel
theorem dX9_after_6 : decode cX9_after 6 = .ok (.ifCond .ne 5, 3) := by decide +kernel
theorem dX9_after_9 : decode cX9_after 9 = .ok (.iconst (-1), 1) := by decide +kernel
theorem dX9_after_10 : decode cX9_after 10 = .ok (.ireturn, 1) := by decide +kernel
theorem dX9_after_11 : decode cX9_after 11 = .ok (.aload_n 0, 1) := by decide +kernel
theorem dX9_after_12 : decode cX9_after 12 = .ok (.getfield 9, 3) := by decide +kernel
theorem dX9_after_15 : decode cX9_after 15 = .ok (.iconst 4, 1) := by decide +kernel
theorem dX9_after_16 : decode cX9_after 16 = .ok (.iaload, 1) := by decide +kernel
theorem dX9_after_17 : decode cX9_after 17 = .ok (.istore_n 2, 1) := by decide +kernel
theorem dX9_after_18 : decode cX9_after 18 = .ok (.aload_n 0, 1) := by decide +kernel
theorem dX9_after_19 : decode cX9_after 19 = .ok (.getfield 9, 3) := by decide +kernel
theorem dX9_after_22 : decode cX9_after 22 = .ok (.iconst 1, 1) := by decide +kernel
theorem dX9_after_23 : decode cX9_after 23 = .ok (.iaload, 1) := by decide +kernel
theorem dX9_after_24 : decode cX9_after 24 = .ok (.istore_n 3, 1) := by decide +kernel
theorem dX9_after_25 : decode cX9_after 25 = .ok (.iconst 0, 1) := by decide +kernel
theorem dX9_after_26 : decode cX9_after 26 = .ok (.istore 4, 2) := by decide +kernel
theorem dX9_after_28 : decode cX9_after 28 = .ok (.bipush 11, 2) := by decide +kernel
theorem dX9_after_30 : decode cX9_after 30 = .ok (.istore 5, 2) := by decide +kernel
theorem dX9_after_32 : decode cX9_after 32 = .ok (.iload 5, 2) := by decide +kernel
theorem dX9_after_34 : decode cX9_after 34 = .ok (.ifCond .lt 26, 3) := by decide +kernel
theorem dX9_after_37 : decode cX9_after 37 = .ok (.iconst 3, 1) := by decide +kernel
theorem dX9_after_38 : decode cX9_after 38 = .ok (.iload 4, 2) := by decide +kernel
theorem dX9_after_40 : decode cX9_after 40 = .ok (.imul, 1) := by decide +kernel
theorem dX9_after_41 : decode cX9_after 41 = .ok (.aload_n 0, 1) := by decide +kernel
theorem dX9_after_42 : decode cX9_after 42 = .ok (.getfield 9, 3) := by decide +kernel
theorem dX9_after_45 : decode cX9_after 45 = .ok (.bipush 24, 2) := by decide +kernel
theorem dX9_after_47 : decode cX9_after 47 = .ok (.iload 5, 2) := by decide +kernel
theorem dX9_after_49 : decode cX9_after 49 = .ok (.iadd, 1) := by decide +kernel
theorem dX9_after_50 : decode cX9_after 50 = .ok (.iaload, 1) := by decide +kernel
theorem dX9_after_51 : decode cX9_after 51 = .ok (.iadd, 1) := by decide +kernel
theorem dX9_after_52 : decode cX9_after 52 = .ok (.istore 4, 2) := by decide +kernel
theorem dX9_after_54 : decode cX9_after 54 = .ok (.iinc 5 (-1), 3) := by decide +kernel
theorem dX9_after_57 : decode cX9_after 57 = .ok (.goto (-25), 3) := by decide +kernel
theorem dX9_after_60 : decode cX9_after 60 = .ok (.iconst 0, 1) := by decide +kernel
theorem dX9_after_61 : decode cX9_after 61 = .ok (.istore 5, 2) := by decide +kernel
theorem dX9_after_63 : decode cX9_after 63 = .ok (.iload 5, 2) := by decide +kernel
theorem dX9_after_65 : decode cX9_after 65 = .ok (.aload_n 0, 1) := by decide +kernel
theorem dX9_after_66 : decode cX9_after 66 = .ok (.getfield 9, 3) := by decide +kernel
theorem dX9_after_69 : decode cX9_after 69 = .ok (.bipush 6, 2) := by decide +kernel
theorem dX9_after_71 : decode cX9_after 71 = .ok (.iaload, 1) := by decide +kernel
theorem dX9_after_72 : decode cX9_after 72 = .ok (.if_icmp .ge 120, 3) := by decide +kernel
theorem dX9_after_75 : decode cX9_after 75 = .ok (.aload_n 0, 1) := by decide +kernel
theorem dX9_after_76 : decode cX9_after 76 = .ok (.getfield 9, 3) := by decide +kernel
