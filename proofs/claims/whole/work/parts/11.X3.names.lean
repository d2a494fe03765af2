theorem dX3_init_0 : decode cX3_init 0 = .ok (.aload_n 0, 1) := by decide +kernel
theorem dX3_init_1 : decode cX3_init 1 = .ok (.invokespecial 3, 3) := by decide +kernel
theorem dX3_init_4 : decode cX3_init 4 = .ok (.aload_n 0, 1) := by decide +kernel
theorem dX3_init_5 : decode cX3_init 5 = .ok (.sipush 512, 3) := by decide +kernel
theorem dX3_init_8 : decode cX3_init 8 = .ok (.newarray .int, 2) := by decide +kernel
theorem dX3_init_10 : decode cX3_init 10 = .ok (.putfield 9, 3) := by decide +kernel
theorem dX3_init_13 : decode cX3_init 13 = .ok (.return_, 1) := by decide +kernel
set_option maxRecDepth 20000 in
theorem ggX3_enter_X3_start : GoodIn wsX3_enter wsX3_start := goodIn_r _ [5, 6] (by decide +kernel) (by decide +kernel)
set_option maxRecDepth 20000 in
theorem gX3_enter_X3_start : GoodIn wsX3_enter (va_wsS RX3 13 yX3_start wsX3_start) := goodIn_app (goodIn_of _ (by decide +kernel)) ggX3_enter_X3_start
theorem dX3_enter_0 : decode cX3_enter 0 = .ok (.aload_n 1, 1) := by decide +kernel
theorem dX3_enter_1 : decode cX3_enter 1 = .ok (.iload_n 2, 1) := by decide +kernel
theorem dX3_enter_2 : decode cX3_enter 2 = .ok (.iaload, 1) := by decide +kernel
theorem dX3_enter_3 : decode cX3_enter 3 = .ok (.invokestatic 13, 3) := by decide +kernel
theorem dX3_enter_6 : decode cX3_enter 6 = .ok (.istore_n 3, 1) := by decide +kernel
theorem dX3_enter_7 : decode cX3_enter 7 = .ok (.iconst 0, 1) := by decide +kernel
theorem dX3_enter_8 : decode cX3_enter 8 = .ok (.istore 4, 2) := by decide +kernel
theorem dX3_enter_10 : decode cX3_enter 10 = .ok (.iload 4, 2) := by decide +kernel
theorem dX3_enter_12 : decode cX3_enter 12 = .ok (.sipush 512, 3) := by decide +kernel
theorem dX3_enter_15 : decode cX3_enter 15 = .ok (.if_icmp .ge 60, 3) := by decide +kernel
theorem dX3_enter_18 : decode cX3_enter 18 = .ok (.iload_n 3, 1) := by decide +kernel
theorem dX3_enter_19 : decode cX3_enter 19 = .ok (.iload 4, 2) := by decide +kernel
theorem dX3_enter_21 : decode cX3_enter 21 = .ok (.iadd, 1) := by decide +kernel
theorem dX3_enter_22 : decode cX3_enter 22 = .ok (.sipush 511, 3) := by decide +kernel
theorem dX3_enter_25 : decode cX3_enter 25 = .ok (.iand, 1) := by decide +kernel
theorem dX3_enter_26 : decode cX3_enter 26 = .ok (.istore 5, 2) := by decide +kernel
theorem dX3_enter_28 : decode cX3_enter 28 = .ok (.aload_n 0, 1) := by decide +kernel
theorem dX3_enter_29 : decode cX3_enter 29 = .ok (.getfield 9, 3) := by decide +kernel
theorem dX3_enter_32 : decode cX3_enter 32 = .ok (.iload 5, 2) := by decide +kernel
theorem dX3_enter_34 : decode cX3_enter 34 = .ok (.iaload, 1) := by decide +kernel
theorem dX3_enter_35 : decode cX3_enter 35 = .ok (.iconst 1, 1) := by decide +kernel
theorem dX3_enter_36 : decode cX3_enter 36 = .ok (.isub, 1) := by decide +kernel
theorem dX3_enter_37 : decode cX3_enter 37 = .ok (.istore 6, 2) := by decide +kernel
theorem dX3_enter_39 : decode cX3_enter 39 = .ok (.iload 6, 2) := by decide +kernel
theorem dX3_enter_41 : decode cX3_enter 41 = .ok (.ifCond .ge 15, 3) := by decide +kernel
theorem dX3_enter_44 : decode cX3_enter 44 = .ok (.aload_n 0, 1) := by decide +kernel
theorem dX3_enter_45 : decode cX3_enter 45 = .ok (.getfield 9, 3) := by decide +kernel
theorem dX3_enter_48 : decode cX3_enter 48 = .ok (.iload 5, 2) := by decide +kernel
theorem dX3_enter_50 : decode cX3_enter 50 = .ok (.iload_n 2, 1) := by decide +kernel
theorem dX3_enter_51 : decode cX3_enter 51 = .ok (.iconst 1, 1) := by decide +kernel
theorem dX3_enter_52 : decode cX3_enter 52 = .ok (.iadd, 1) := by decide +kernel
theorem dX3_enter_53 : decode cX3_enter 53 = .ok (.iastore, 1) := by decide +kernel
theorem dX3_enter_54 : decode cX3_enter 54 = .ok (.iload_n 2, 1) := by decide +kernel
theorem dX3_enter_55 : decode cX3_enter 55 = .ok (.ireturn, 1) := by decide +kernel
theorem dX3_enter_56 : decode cX3_enter 56 = .ok (.aload_n 1, 1) := by decide +kernel
theorem dX3_enter_57 : decode cX3_enter 57 = .ok (.iload 6, 2) := by decide +kernel
theorem dX3_enter_59 : decode cX3_enter 59 = .ok (.iaload, 1) := by decide +kernel
theorem dX3_enter_60 : decode cX3_enter 60 = .ok (.aload_n 1, 1) := by decide +kernel
theorem dX3_enter_61 : decode cX3_enter 61 = .ok (.iload_n 2, 1) := by decide +kernel
theorem dX3_enter_62 : decode cX3_enter 62 = .ok (.iaload, 1) := by decide +kernel
theorem dX3_enter_63 : decode cX3_enter 63 = .ok (.if_icmp .ne 6, 3) := by decide +kernel
theorem dX3_enter_66 : decode cX3_enter 66 = .ok (.iload 6, 2) := by decide +kernel
theorem dX3_enter_68 : decode cX3_enter 68 = .ok (.ireturn, 1) := by decide +kernel
theorem dX3_enter_69 : decode cX3_enter 69 = .ok (.iinc 4 1, 3) := by decide +kernel
theorem dX3_enter_72 : decode cX3_enter 72 = .ok (.goto (-62), 3) := by decide +kernel
theorem dX3_enter_75 : decode cX3_enter 75 = .ok (.iload_n 2, 1) := by decide +kernel
theorem dX3_enter_76 : decode cX3_enter 76 = .ok (.ireturn, 1) := by decide +kernel
set_option maxRecDepth 20000 in
theorem ggX3_leave_X3_start : GoodIn wsX3_leave wsX3_start := goodIn_r _ [5, 6] (by decide +kernel) (by decide +kernel)
set_option maxRecDepth 20000 in
theorem gX3_leave_X3_start : GoodIn wsX3_leave (va_wsS RX3 13 yX3_start wsX3_start) := goodIn_app (goodIn_of _ (by decide +kernel)) ggX3_leave_X3_start
theorem dX3_leave_0 : decode cX3_leave 0 = .ok (.aload_n 1, 1) := by decide +kernel
theorem dX3_leave_1 : decode cX3_leave 1 = .ok (.iload_n 2, 1) := by decide +kernel
theorem dX3_leave_2 : decode cX3_leave 2 = .ok (.iaload, 1) := by decide +kernel
theorem dX3_leave_3 : decode cX3_leave 3 = .ok (.invokestatic 13, 3) := by decide +kernel
theorem dX3_leave_6 : decode cX3_leave 6 = .ok (.istore_n 3, 1) := by decide +kernel
theorem dX3_leave_7 : decode cX3_leave 7 = .ok (.iconst 0, 1) := by decide +kernel
theorem dX3_leave_8 : decode cX3_leave 8 = .ok (.istore 4, 2) := by decide +kernel
theorem dX3_leave_10 : decode cX3_leave 10 = .ok (.iload 4, 2) := by decide +kernel
theorem dX3_leave_12 : decode cX3_leave 12 = .ok (.sipush 512, 3) := by decide +kernel
theorem dX3_leave_15 : decode cX3_leave 15 = .ok (.if_icmp .ge 52, 3) := by decide +kernel
theorem dX3_leave_18 : decode cX3_leave 18 = .ok (.iload_n 3, 1) := by decide +kernel
theorem dX3_leave_19 : decode cX3_leave 19 = .ok (.iload 4, 2) := by decide +kernel
theorem dX3_leave_21 : decode cX3_leave 21 = .ok (.iadd, 1) := by decide +kernel
theorem dX3_leave_22 : decode cX3_leave 22 = .ok (.sipush 511, 3) := by decide +kernel
theorem dX3_leave_25 : decode cX3_leave 25 = .ok (.iand, 1) := by decide +kernel
theorem dX3_leave_26 : decode cX3_leave 26 = .ok (.istore 5, 2) := by decide +kernel
theorem dX3_leave_28 : decode cX3_leave 28 = .ok (.aload_n 0, 1) := by decide +kernel
theorem dX3_leave_29 : decode cX3_leave 29 = .ok (.getfield 9, 3) := by decide +kernel
theorem dX3_leave_32 : decode cX3_leave 32 = .ok (.iload 5, 2) := by decide +kernel
theorem dX3_leave_34 : decode cX3_leave 34 = .ok (.iaload, 1) := by decide +kernel
theorem dX3_leave_35 : decode cX3_leave 35 = .ok (.iload_n 2, 1) := by decide +kernel
theorem dX3_leave_36 : decode cX3_leave 36 = .ok (.iconst 1, 1) := by decide +kernel
theorem dX3_leave_37 : decode cX3_leave 37 = .ok (.iadd, 1) := by decide +kernel
theorem dX3_leave_38 : decode cX3_leave 38 = .ok (.if_icmp .ne 12, 3) := by decide +kernel
theorem dX3_leave_41 : decode cX3_leave 41 = .ok (.aload_n 0, 1) := by decide +kernel
theorem dX3_leave_42 : decode cX3_leave 42 = .ok (.getfield 9, 3) := by decide +kernel
theorem dX3_leave_45 : decode cX3_leave 45 = .ok (.iload 5, 2) := by decide +kernel
theorem dX3_leave_47 : decode cX3_leave 47 = .ok (.iconst 0, 1) := by decide +kernel
theorem dX3_leave_48 : decode cX3_leave 48 = .ok (.iastore, 1) := by decide +kernel
theorem dX3_leave_49 : decode cX3_leave 49 = .ok (.return_, 1) := by decide +kernel
theorem dX3_leave_50 : decode cX3_leave 50 = .ok (.aload_n 0, 1) := by decide +kernel
theorem dX3_leave_51 : decode cX3_leave 51 = .ok (.getfield 9, 3) := by decide +kernel
theorem dX3_leave_54 : decode cX3_leave 54 = .ok (.iload 5, 2) := by decide +kernel
theorem dX3_leave_56 : decode cX3_leave 56 = .ok (.iaload, 1) := by decide +kernel
theorem dX3_leave_57 : decode cX3_leave 57 = .ok (.ifCond .ne 4, 3) := by decide +kernel
theorem dX3_leave_60 : decode cX3_leave 60 = .ok (.return_, 1) := by decide +kernel
theorem dX3_leave_61 : decode cX3_leave 61 = .ok (.iinc 4 1, 3) := by decide +kernel
theorem dX3_leave_64 : decode cX3_leave 64 = .ok (.goto (-54), 3) := by decide +kernel
theorem dX3_leave_67 : decode cX3_leave 67 = .ok (.return_, 1) := by decide +kernel
theorem dX3_start_0 : decode cX3_start 0 = .ok (.iload_n 0, 1) := by decide +kernel
theorem dX3_start_1 : decode cX3_start 1 = .ok (.ldc 17, 2) := by decide +kernel
theorem dX3_start_3 : decode cX3_start 3 = .ok (.imul, 1) := by decide +kernel
theorem dX3_start_4 : decode cX3_start 4 = .ok (.bipush 23, 2) := by decide +kernel
theorem dX3_start_6 : decode cX3_start 6 = .ok (.iushr, 1) := by decide +kernel
theorem dX3_start_7 : decode cX3_start 7 = .ok (.ireturn, 1) := by decide +kernel
