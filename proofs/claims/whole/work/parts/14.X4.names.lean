set_option maxRecDepth 20000 in
theorem ggX4_init_X1_init : GoodIn wsX4_init wsX1_init := goodIn_r _ [21, 22, 2, 3, 23, 5, 24, 25, 26, 38, 39, 40, 41] (by decide +kernel) (by decide +kernel)
set_option maxRecDepth 20000 in
theorem gX4_init_X1_init : GoodIn wsX4_init (wsX1_init) := ggX4_init_X1_init
theorem dX4_init_0 : decode cX4_init 0 = .ok (.aload_n 0, 1) := by decide +kernel
theorem dX4_init_1 : decode cX4_init 1 = .ok (.invokespecial 3, 3) := by decide +kernel
theorem dX4_init_4 : decode cX4_init 4 = .ok (.aload_n 0, 1) := by decide +kernel
theorem dX4_init_5 : decode cX4_init 5 = .ok (.bipush 6, 2) := by decide +kernel
theorem dX4_init_7 : decode cX4_init 7 = .ok (.putfield 9, 3) := by decide +kernel
theorem dX4_init_10 : decode cX4_init 10 = .ok (.aload_n 0, 1) := by decide +kernel
theorem dX4_init_11 : decode cX4_init 11 = .ok (.bipush 16, 2) := by decide +kernel
theorem dX4_init_13 : decode cX4_init 13 = .ok (.newarray .int, 2) := by decide +kernel
theorem dX4_init_15 : decode cX4_init 15 = .ok (.putfield 15, 3) := by decide +kernel
theorem dX4_init_18 : decode cX4_init 18 = .ok (.aload_n 0, 1) := by decide +kernel
theorem dX4_init_19 : decode cX4_init 19 = .ok (.iconst 0, 1) := by decide +kernel
theorem dX4_init_20 : decode cX4_init 20 = .ok (.putfield 19, 3) := by decide +kernel
theorem dX4_init_23 : decode cX4_init 23 = .ok (.aload_n 0, 1) := by decide +kernel
theorem dX4_init_24 : decode cX4_init 24 = .ok (.iconst (-1), 1) := by decide +kernel
theorem dX4_init_25 : decode cX4_init 25 = .ok (.putfield 22, 3) := by decide +kernel
theorem dX4_init_28 : decode cX4_init 28 = .ok (.aload_n 0, 1) := by decide +kernel
theorem dX4_init_29 : decode cX4_init 29 = .ok (.iconst (-1), 1) := by decide +kernel
theorem dX4_init_30 : decode cX4_init 30 = .ok (.putfield 25, 3) := by decide +kernel
theorem dX4_init_33 : decode cX4_init 33 = .ok (.aload_n 0, 1) := by decide +kernel
theorem dX4_init_34 : decode cX4_init 34 = .ok (.bipush 12, 2) := by decide +kernel
theorem dX4_init_36 : decode cX4_init 36 = .ok (.newarray .int, 2) := by decide +kernel
theorem dX4_init_38 : decode cX4_init 38 = .ok (.putfield 28, 3) := by decide +kernel
theorem dX4_init_41 : decode cX4_init 41 = .ok (.aload_n 0, 1) := by decide +kernel
theorem dX4_init_42 : decode cX4_init 42 = .ok (.iconst 1, 1) := by decide +kernel
theorem dX4_init_43 : decode cX4_init 43 = .ok (.putfield 31, 3) := by decide +kernel
theorem dX4_init_46 : decode cX4_init 46 = .ok (.aload_n 0, 1) := by decide +kernel
theorem dX4_init_47 : decode cX4_init 47 = .ok (.bipush 8, 2) := by decide +kernel
theorem dX4_init_49 : decode cX4_init 49 = .ok (.newarray .int, 2) := by decide +kernel
theorem dX4_init_51 : decode cX4_init 51 = .ok (.putfield 34, 3) := by decide +kernel
theorem dX4_init_54 : decode cX4_init 54 = .ok (.aload_n 0, 1) := by decide +kernel
theorem dX4_init_55 : decode cX4_init 55 = .ok (.new 37, 3) := by decide +kernel
theorem dX4_init_58 : decode cX4_init 58 = .ok (.dup, 1) := by decide +kernel
theorem dX4_init_59 : decode cX4_init 59 = .ok (.iconst 5, 1) := by decide +kernel
theorem dX4_init_60 : decode cX4_init 60 = .ok (.invokespecial 39, 3) := by decide +kernel
theorem dX4_init_63 : decode cX4_init 63 = .ok (.putfield 42, 3) := by decide +kernel
theorem dX4_init_66 : decode cX4_init 66 = .ok (.aload_n 0, 1) := by decide +kernel
theorem dX4_init_67 : decode cX4_init 67 = .ok (.new 37, 3) := by decide +kernel
theorem dX4_init_70 : decode cX4_init 70 = .ok (.dup, 1) := by decide +kernel
theorem dX4_init_71 : decode cX4_init 71 = .ok (.bipush 8, 2) := by decide +kernel
theorem dX4_init_73 : decode cX4_init 73 = .ok (.invokespecial 39, 3) := by decide +kernel
theorem dX4_init_76 : decode cX4_init 76 = .ok (.putfield 46, 3) := by decide +kernel
theorem dX4_init_79 : decode cX4_init 79 = .ok (.aload_n 0, 1) := by decide +kernel
theorem dX4_init_80 : decode cX4_init 80 = .ok (.new 37, 3) := by decide +kernel
theorem dX4_init_83 : decode cX4_init 83 = .ok (.dup, 1) := by decide +kernel
theorem dX4_init_84 : decode cX4_init 84 = .ok (.bipush 8, 2) := by decide +kernel
theorem dX4_init_86 : decode cX4_init 86 = .ok (.invokespecial 39, 3) := by decide +kernel
theorem dX4_init_89 : decode cX4_init 89 = .ok (.putfield 49, 3) := by decide +kernel
theorem dX4_init_92 : decode cX4_init 92 = .ok (.return_, 1) := by decide +kernel
theorem dX4_begin_0 : decode cX4_begin 0 = .ok (.aload_n 0, 1) := by decide +kernel
theorem dX4_begin_1 : decode cX4_begin 1 = .ok (.iload_n 1, 1) := by decide +kernel
theorem dX4_begin_2 : decode cX4_begin 2 = .ok (.putfield 9, 3) := by decide +kernel
theorem dX4_begin_5 : decode cX4_begin 5 = .ok (.aload_n 0, 1) := by decide +kernel
theorem dX4_begin_6 : decode cX4_begin 6 = .ok (.iconst 0, 1) := by decide +kernel
theorem dX4_begin_7 : decode cX4_begin 7 = .ok (.putfield 19, 3) := by decide +kernel
theorem dX4_begin_10 : decode cX4_begin 10 = .ok (.aload_n 0, 1) := by decide +kernel
theorem dX4_begin_11 : decode cX4_begin 11 = .ok (.iconst (-1), 1) := by decide +kernel
theorem dX4_begin_12 : decode cX4_begin 12 = .ok (.putfield 22, 3) := by decide +kernel
theorem dX4_begin_15 : decode cX4_begin 15 = .ok (.aload_n 0, 1) := by decide +kernel
theorem dX4_begin_16 : decode cX4_begin 16 = .ok (.iconst (-1), 1) := by decide +kernel
theorem dX4_begin_17 : decode cX4_begin 17 = .ok (.putfield 25, 3) := by decide +kernel
theorem dX4_begin_20 : decode cX4_begin 20 = .ok (.aload_n 0, 1) := by decide +kernel
theorem dX4_begin_21 : decode cX4_begin 21 = .ok (.iconst 1, 1) := by decide +kernel
theorem dX4_begin_22 : decode cX4_begin 22 = .ok (.putfield 31, 3) := by decide +kernel
theorem dX4_begin_25 : decode cX4_begin 25 = .ok (.iconst 0, 1) := by decide +kernel
theorem dX4_begin_26 : decode cX4_begin 26 = .ok (.istore_n 2, 1) := by decide +kernel
theorem dX4_begin_27 : decode cX4_begin 27 = .ok (.iload_n 2, 1) := by decide +kernel
theorem dX4_begin_28 : decode cX4_begin 28 = .ok (.bipush 12, 2) := by decide +kernel
theorem dX4_begin_30 : decode cX4_begin 30 = .ok (.if_icmp .ge 16, 3) := by decide +kernel
theorem dX4_begin_33 : decode cX4_begin 33 = .ok (.aload_n 0, 1) := by decide +kernel
theorem dX4_begin_34 : decode cX4_begin 34 = .ok (.getfield 28, 3) := by decide +kernel
theorem dX4_begin_37 : decode cX4_begin 37 = .ok (.iload_n 2, 1) := by decide +kernel
theorem dX4_begin_38 : decode cX4_begin 38 = .ok (.iconst 0, 1) := by decide +kernel
theorem dX4_begin_39 : decode cX4_begin 39 = .ok (.iastore, 1) := by decide +kernel
theorem dX4_begin_40 : decode cX4_begin 40 = .ok (.iinc 2 1, 3) := by decide +kernel
theorem dX4_begin_43 : decode cX4_begin 43 = .ok (.goto (-16), 3) := by decide +kernel
theorem dX4_begin_46 : decode cX4_begin 46 = .ok (.iconst 0, 1) := by decide +kernel
theorem dX4_begin_47 : decode cX4_begin 47 = .ok (.istore_n 2, 1) := by decide +kernel
theorem dX4_begin_48 : decode cX4_begin 48 = .ok (.iload_n 2, 1) := by decide +kernel
theorem dX4_begin_49 : decode cX4_begin 49 = .ok (.bipush 8, 2) := by decide +kernel
theorem dX4_begin_51 : decode cX4_begin 51 = .ok (.if_icmp .ge 16, 3) := by decide +kernel
theorem dX4_begin_54 : decode cX4_begin 54 = .ok (.aload_n 0, 1) := by decide +kernel
theorem dX4_begin_55 : decode cX4_begin 55 = .ok (.getfield 34, 3) := by decide +kernel
theorem dX4_begin_58 : decode cX4_begin 58 = .ok (.iload_n 2, 1) := by decide +kernel
theorem dX4_begin_59 : decode cX4_begin 59 = .ok (.iconst 0, 1) := by decide +kernel
theorem dX4_begin_60 : decode cX4_begin 60 = .ok (.iastore, 1) := by decide +kernel
theorem dX4_begin_61 : decode cX4_begin 61 = .ok (.iinc 2 1, 3) := by decide +kernel
theorem dX4_begin_64 : decode cX4_begin 64 = .ok (.goto (-16), 3) := by decide +kernel
theorem dX4_begin_67 : decode cX4_begin 67 = .ok (.aload_n 0, 1) := by decide +kernel
theorem dX4_begin_68 : decode cX4_begin 68 = .ok (.getfield 42, 3) := by decide +kernel
theorem dX4_begin_71 : decode cX4_begin 71 = .ok (.iconst 0, 1) := by decide +kernel
theorem dX4_begin_72 : decode cX4_begin 72 = .ok (.putfield 52, 3) := by decide +kernel
theorem dX4_begin_75 : decode cX4_begin 75 = .ok (.aload_n 0, 1) := by decide +kernel
theorem dX4_begin_76 : decode cX4_begin 76 = .ok (.getfield 46, 3) := by decide +kernel
theorem dX4_begin_79 : decode cX4_begin 79 = .ok (.iconst 0, 1) := by decide +kernel
theorem dX4_begin_80 : decode cX4_begin 80 = .ok (.putfield 52, 3) := by decide +kernel
theorem dX4_begin_83 : decode cX4_begin 83 = .ok (.aload_n 0, 1) := by decide +kernel
theorem dX4_begin_84 : decode cX4_begin 84 = .ok (.getfield 49, 3) := by decide +kernel
theorem dX4_begin_87 : decode cX4_begin 87 = .ok (.iconst 0, 1) := by decide +kernel
theorem dX4_begin_88 : decode cX4_begin 88 = .ok (.putfield 52, 3) := by decide +kernel
theorem dX4_begin_91 : decode cX4_begin 91 = .ok (.return_, 1) := by decide +kernel
set_option maxRecDepth 20000 in
theorem ggX4_copyFrom_X1_copyFrom : GoodIn wsX4_copyFrom wsX1_copyFrom := goodIn_r _ [20, 21, 22, 23, 24, 25, 26, 27, 19, 28, 40, 41, 42, 43] (by decide +kernel) (by decide +kernel)
set_option maxRecDepth 20000 in
theorem gX4_copyFrom_X1_copyFrom : GoodIn wsX4_copyFrom (wsV RX4 61 RX1 yX1_copyFrom wsX1_copyFrom) := goodIn_app (goodIn_of _ (by decide +kernel)) ggX4_copyFrom_X1_copyFrom
theorem dX4_copyFrom_0 : decode cX4_copyFrom 0 = .ok (.aload_n 0, 1) := by decide +kernel
theorem dX4_copyFrom_1 : decode cX4_copyFrom 1 = .ok (.aload_n 1, 1) := by decide +kernel
theorem dX4_copyFrom_2 : decode cX4_copyFrom 2 = .ok (.getfield 9, 3) := by decide +kernel
theorem dX4_copyFrom_5 : decode cX4_copyFrom 5 = .ok (.putfield 9, 3) := by decide +kernel
theorem dX4_copyFrom_8 : decode cX4_copyFrom 8 = .ok (.aload_n 0, 1) := by decide +kernel
theorem dX4_copyFrom_9 : decode cX4_copyFrom 9 = .ok (.aload_n 1, 1) := by decide +kernel
theorem dX4_copyFrom_10 : decode cX4_copyFrom 10 = .ok (.getfield 19, 3) := by decide +kernel
theorem dX4_copyFrom_13 : decode cX4_copyFrom 13 = .ok (.putfield 19, 3) := by decide +kernel
theorem dX4_copyFrom_16 : decode cX4_copyFrom 16 = .ok (.aload_n 0, 1) := by decide +kernel
theorem dX4_copyFrom_17 : decode cX4_copyFrom 17 = .ok (.aload_n 1, 1) := by decide +kernel
theorem dX4_copyFrom_18 : decode cX4_copyFrom 18 = .ok (.getfield 22, 3) := by decide +kernel
theorem dX4_copyFrom_21 : decode cX4_copyFrom 21 = .ok (.putfield 22, 3) := by decide +kernel
theorem dX4_copyFrom_24 : decode cX4_copyFrom 24 = .ok (.aload_n 0, 1) := by decide +kernel
theorem dX4_copyFrom_25 : decode cX4_copyFrom 25 = .ok (.aload_n 1, 1) := by decide +kernel
theorem dX4_copyFrom_26 : decode cX4_copyFrom 26 = .ok (.getfield 25, 3) := by decide +kernel
theorem dX4_copyFrom_29 : decode cX4_copyFrom 29 = .ok (.putfield 25, 3) := by decide +kernel
theorem dX4_copyFrom_32 : decode cX4_copyFrom 32 = .ok (.aload_n 0, 1) := by decide +kernel
theorem dX4_copyFrom_33 : decode cX4_copyFrom 33 = .ok (.aload_n 1, 1) := by decide +kernel
theorem dX4_copyFrom_34 : decode cX4_copyFrom 34 = .ok (.getfield 31, 3) := by decide +kernel
theorem dX4_copyFrom_37 : decode cX4_copyFrom 37 = .ok (.putfield 31, 3) := by decide +kernel
theorem dX4_copyFrom_40 : decode cX4_copyFrom 40 = .ok (.aload_n 1, 1) := by decide +kernel
theorem dX4_copyFrom_41 : decode cX4_copyFrom 41 = .ok (.getfield 15, 3) := by decide +kernel
theorem dX4_copyFrom_44 : decode cX4_copyFrom 44 = .ok (.iconst 0, 1) := by decide +kernel
theorem dX4_copyFrom_45 : decode cX4_copyFrom 45 = .ok (.aload_n 0, 1) := by decide +kernel
theorem dX4_copyFrom_46 : decode cX4_copyFrom 46 = .ok (.getfield 15, 3) := by decide +kernel
theorem dX4_copyFrom_49 : decode cX4_copyFrom 49 = .ok (.iconst 0, 1) := by decide +kernel
theorem dX4_copyFrom_50 : decode cX4_copyFrom 50 = .ok (.bipush 16, 2) := by decide +kernel
theorem dX4_copyFrom_52 : decode cX4_copyFrom 52 = .ok (.invokestatic 55, 3) := by decide +kernel
theorem dX4_copyFrom_55 : decode cX4_copyFrom 55 = .ok (.aload_n 1, 1) := by decide +kernel
theorem dX4_copyFrom_56 : decode cX4_copyFrom 56 = .ok (.getfield 28, 3) := by decide +kernel
theorem dX4_copyFrom_59 : decode cX4_copyFrom 59 = .ok (.iconst 0, 1) := by decide +kernel
theorem dX4_copyFrom_60 : decode cX4_copyFrom 60 = .ok (.aload_n 0, 1) := by decide +kernel
theorem dX4_copyFrom_61 : decode cX4_copyFrom 61 = .ok (.getfield 28, 3) := by decide +kernel
theorem dX4_copyFrom_64 : decode cX4_copyFrom 64 = .ok (.iconst 0, 1) := by decide +kernel
theorem dX4_copyFrom_65 : decode cX4_copyFrom 65 = .ok (.bipush 12, 2) := by decide +kernel
theorem dX4_copyFrom_67 : decode cX4_copyFrom 67 = .ok (.invokestatic 55, 3) := by decide +kernel
theorem dX4_copyFrom_70 : decode cX4_copyFrom 70 = .ok (.aload_n 1, 1) := by decide +kernel
theorem dX4_copyFrom_71 : decode cX4_copyFrom 71 = .ok (.getfield 34, 3) := by decide +kernel
theorem dX4_copyFrom_74 : decode cX4_copyFrom 74 = .ok (.iconst 0, 1) := by decide +kernel
theorem dX4_copyFrom_75 : decode cX4_copyFrom 75 = .ok (.aload_n 0, 1) := by decide +kernel
theorem dX4_copyFrom_76 : decode cX4_copyFrom 76 = .ok (.getfield 34, 3) := by decide +kernel
theorem dX4_copyFrom_79 : decode cX4_copyFrom 79 = .ok (.iconst 0, 1) := by decide +kernel
theorem dX4_copyFrom_80 : decode cX4_copyFrom 80 = .ok (.bipush 8, 2) := by decide +kernel
theorem dX4_copyFrom_82 : decode cX4_copyFrom 82 = .ok (.invokestatic 55, 3) := by decide +kernel
theorem dX4_copyFrom_85 : decode cX4_copyFrom 85 = .ok (.aload_n 0, 1) := by decide +kernel
theorem dX4_copyFrom_86 : decode cX4_copyFrom 86 = .ok (.getfield 42, 3) := by decide +kernel
theorem dX4_copyFrom_89 : decode cX4_copyFrom 89 = .ok (.aload_n 1, 1) := by decide +kernel
theorem dX4_copyFrom_90 : decode cX4_copyFrom 90 = .ok (.getfield 42, 3) := by decide +kernel
theorem dX4_copyFrom_93 : decode cX4_copyFrom 93 = .ok (.invokevirtual 61, 3) := by decide +kernel
theorem dX4_copyFrom_96 : decode cX4_copyFrom 96 = .ok (.aload_n 0, 1) := by decide +kernel
theorem dX4_copyFrom_97 : decode cX4_copyFrom 97 = .ok (.getfield 46, 3) := by decide +kernel
theorem dX4_copyFrom_100 : decode cX4_copyFrom 100 = .ok (.aload_n 1, 1) := by decide +kernel
theorem dX4_copyFrom_101 : decode cX4_copyFrom 101 = .ok (.getfield 46, 3) := by decide +kernel
theorem dX4_copyFrom_104 : decode cX4_copyFrom 104 = .ok (.invokevirtual 61, 3) := by decide +kernel
theorem dX4_copyFrom_107 : decode cX4_copyFrom 107 = .ok (.aload_n 0, 1) := by decide +kernel
theorem dX4_copyFrom_108 : decode cX4_copyFrom 108 = .ok (.getfield 49, 3) := by decide +kernel
theorem dX4_copyFrom_111 : decode cX4_copyFrom 111 = .ok (.aload_n 1, 1) := by decide +kernel
theorem dX4_copyFrom_112 : decode cX4_copyFrom 112 = .ok (.getfield 49, 3) := by decide +kernel
theorem dX4_copyFrom_115 : decode cX4_copyFrom 115 = .ok (.invokevirtual 61, 3) := by decide +kernel
theorem dX4_copyFrom_118 : decode cX4_copyFrom 118 = .ok (.return_, 1) := by decide +kernel
theorem dX4_calledChange_0 : decode cX4_calledChange 0 = .ok (.iload_n 1, 1) := by decide +kernel
theorem dX4_calledChange_1 : decode cX4_calledChange 1 = .ok (.lookupswitch 37 #[(1, 27), (2, 32)], 27) := by decide +kernel
theorem dX4_calledChange_28 : decode cX4_calledChange 28 = .ok (.aload_n 0, 1) := by decide +kernel
theorem dX4_calledChange_29 : decode cX4_calledChange 29 = .ok (.getfield 22, 3) := by decide +kernel
theorem dX4_calledChange_32 : decode cX4_calledChange 32 = .ok (.ireturn, 1) := by decide +kernel
theorem dX4_calledChange_33 : decode cX4_calledChange 33 = .ok (.aload_n 0, 1) := by decide +kernel
theorem dX4_calledChange_34 : decode cX4_calledChange 34 = .ok (.getfield 25, 3) := by decide +kernel
theorem dX4_calledChange_37 : decode cX4_calledChange 37 = .ok (.ireturn, 1) := by decide +kernel
theorem dX4_calledChange_38 : decode cX4_calledChange 38 = .ok (.iconst (-1), 1) := by decide +kernel
theorem dX4_calledChange_39 : decode cX4_calledChange 39 = .ok (.ireturn, 1) := by decide +kernel
theorem dX4_setCalledChange_0 : decode cX4_setCalledChange 0 = .ok (.iload_n 1, 1) := by decide +kernel
theorem dX4_setCalledChange_1 : decode cX4_setCalledChange 1 = .ok (.iconst 1, 1) := by decide +kernel
theorem dX4_setCalledChange_2 : decode cX4_setCalledChange 2 = .ok (.if_icmp .ne 11, 3) := by decide +kernel
theorem dX4_setCalledChange_5 : decode cX4_setCalledChange 5 = .ok (.aload_n 0, 1) := by decide +kernel
theorem dX4_setCalledChange_6 : decode cX4_setCalledChange 6 = .ok (.iload_n 2, 1) := by decide +kernel
theorem dX4_setCalledChange_7 : decode cX4_setCalledChange 7 = .ok (.putfield 22, 3) := by decide +kernel
theorem dX4_setCalledChange_10 : decode cX4_setCalledChange 10 = .ok (.goto 8, 3) := by decide +kernel
theorem dX4_setCalledChange_13 : decode cX4_setCalledChange 13 = .ok (.aload_n 0, 1) := by decide +kernel
theorem dX4_setCalledChange_14 : decode cX4_setCalledChange 14 = .ok (.iload_n 2, 1) := by decide +kernel
theorem dX4_setCalledChange_15 : decode cX4_setCalledChange 15 = .ok (.putfield 25, 3) := by decide +kernel
theorem dX4_setCalledChange_18 : decode cX4_setCalledChange 18 = .ok (.return_, 1) := by decide +kernel
set_option maxRecDepth 20000 in
theorem ggX4_isMusic_X2_rounds : GoodIn wsX4_isMusic wsX2_rounds := goodIn_r _ [6] (by decide +kernel) (by decide +kernel)
set_option maxRecDepth 20000 in
theorem gX4_isMusic_X2_rounds : GoodIn wsX4_isMusic (va_wsS RX4 65 yX2_rounds wsX2_rounds) := goodIn_app (goodIn_of _ (by decide +kernel)) ggX4_isMusic_X2_rounds
set_option maxRecDepth 20000 in
theorem ggX4_isMusic_X4_holdsPattern : GoodIn wsX4_isMusic wsX4_holdsPattern := goodIn_r _ [11, 1, 12, 13, 14, 5, 15, 23, 24, 25, 26, 27, 28, 29, 30, 31, 32, 33] (by decide +kernel) (by decide +kernel)
set_option maxRecDepth 20000 in
theorem gX4_isMusic_X4_holdsPattern : GoodIn wsX4_isMusic (wsV RX4 72 RX4 yX4_holdsPattern wsX4_holdsPattern) := goodIn_app (goodIn_of _ (by decide +kernel)) ggX4_isMusic_X4_holdsPattern
set_option maxRecDepth 20000 in
theorem ggX4_isMusic_X2_isRightAhead : GoodIn wsX4_isMusic wsX2_isRightAhead := goodIn_r _ [18, 19, 20, 5, 21, 22, 14, 15] (by decide +kernel) (by decide +kernel)
set_option maxRecDepth 20000 in
theorem gX4_isMusic_X2_isRightAhead : GoodIn wsX4_isMusic (va_wsS RX4 76 yX2_isRightAhead wsX2_isRightAhead) := goodIn_app (goodIn_of _ (by decide +kernel)) ggX4_isMusic_X2_isRightAhead
theorem dX4_isMusic_0 : decode cX4_isMusic 0 = .ok (.iconst 4, 1) := by decide +kernel
theorem dX4_isMusic_1 : decode cX4_isMusic 1 = .ok (.aload_n 0, 1) := by decide +kernel
theorem dX4_isMusic_2 : decode cX4_isMusic 2 = .ok (.getfield 9, 3) := by decide +kernel
theorem dX4_isMusic_5 : decode cX4_isMusic 5 = .ok (.iconst 4, 1) := by decide +kernel
theorem dX4_isMusic_6 : decode cX4_isMusic 6 = .ok (.isub, 1) := by decide +kernel
theorem dX4_isMusic_7 : decode cX4_isMusic 7 = .ok (.imul, 1) := by decide +kernel
theorem dX4_isMusic_8 : decode cX4_isMusic 8 = .ok (.istore_n 3, 1) := by decide +kernel
theorem dX4_isMusic_9 : decode cX4_isMusic 9 = .ok (.iload_n 2, 1) := by decide +kernel
theorem dX4_isMusic_10 : decode cX4_isMusic 10 = .ok (.tableswitch 70 0 2 #[26, 47, 64], 26) := by decide +kernel
theorem dX4_isMusic_36 : decode cX4_isMusic 36 = .ok (.iload_n 1, 1) := by decide +kernel
theorem dX4_isMusic_37 : decode cX4_isMusic 37 = .ok (.iload_n 3, 1) := by decide +kernel
theorem dX4_isMusic_38 : decode cX4_isMusic 38 = .ok (.iushr, 1) := by decide +kernel
theorem dX4_isMusic_39 : decode cX4_isMusic 39 = .ok (.aload_n 0, 1) := by decide +kernel
theorem dX4_isMusic_40 : decode cX4_isMusic 40 = .ok (.getfield 9, 3) := by decide +kernel
theorem dX4_isMusic_43 : decode cX4_isMusic 43 = .ok (.invokestatic 65, 3) := by decide +kernel
theorem dX4_isMusic_46 : decode cX4_isMusic 46 = .ok (.iload_n 3, 1) := by decide +kernel
theorem dX4_isMusic_47 : decode cX4_isMusic 47 = .ok (.iushr, 1) := by decide +kernel
theorem dX4_isMusic_48 : decode cX4_isMusic 48 = .ok (.if_icmp .ne 7, 3) := by decide +kernel
theorem dX4_isMusic_51 : decode cX4_isMusic 51 = .ok (.iconst 1, 1) := by decide +kernel
theorem dX4_isMusic_52 : decode cX4_isMusic 52 = .ok (.goto 4, 3) := by decide +kernel
theorem dX4_isMusic_55 : decode cX4_isMusic 55 = .ok (.iconst 0, 1) := by decide +kernel
theorem dX4_isMusic_56 : decode cX4_isMusic 56 = .ok (.ireturn, 1) := by decide +kernel
theorem dX4_isMusic_57 : decode cX4_isMusic 57 = .ok (.iload_n 1, 1) := by decide +kernel
theorem dX4_isMusic_58 : decode cX4_isMusic 58 = .ok (.ldc 71, 2) := by decide +kernel
theorem dX4_isMusic_60 : decode cX4_isMusic 60 = .ok (.iand, 1) := by decide +kernel
theorem dX4_isMusic_61 : decode cX4_isMusic 61 = .ok (.iconst 4, 1) := by decide +kernel
theorem dX4_isMusic_62 : decode cX4_isMusic 62 = .ok (.invokestatic 65, 3) := by decide +kernel
theorem dX4_isMusic_65 : decode cX4_isMusic 65 = .ok (.if_icmp .ne 7, 3) := by decide +kernel
theorem dX4_isMusic_68 : decode cX4_isMusic 68 = .ok (.iconst 1, 1) := by decide +kernel
theorem dX4_isMusic_69 : decode cX4_isMusic 69 = .ok (.goto 4, 3) := by decide +kernel
theorem dX4_isMusic_72 : decode cX4_isMusic 72 = .ok (.iconst 0, 1) := by decide +kernel
theorem dX4_isMusic_73 : decode cX4_isMusic 73 = .ok (.ireturn, 1) := by decide +kernel
theorem dX4_isMusic_74 : decode cX4_isMusic 74 = .ok (.aload_n 0, 1) := by decide +kernel
theorem dX4_isMusic_75 : decode cX4_isMusic 75 = .ok (.iload_n 1, 1) := by decide +kernel
theorem dX4_isMusic_76 : decode cX4_isMusic 76 = .ok (.invokevirtual 72, 3) := by decide +kernel
theorem dX4_isMusic_79 : decode cX4_isMusic 79 = .ok (.ireturn, 1) := by decide +kernel
theorem dX4_isMusic_80 : decode cX4_isMusic 80 = .ok (.iload_n 1, 1) := by decide +kernel
theorem dX4_isMusic_81 : decode cX4_isMusic 81 = .ok (.aload_n 0, 1) := by decide +kernel
theorem dX4_isMusic_82 : decode cX4_isMusic 82 = .ok (.getfield 9, 3) := by decide +kernel
theorem dX4_isMusic_85 : decode cX4_isMusic 85 = .ok (.iconst 1, 1) := by decide +kernel
theorem dX4_isMusic_86 : decode cX4_isMusic 86 = .ok (.isub, 1) := by decide +kernel
theorem dX4_isMusic_87 : decode cX4_isMusic 87 = .ok (.aload_n 0, 1) := by decide +kernel
theorem dX4_isMusic_88 : decode cX4_isMusic 88 = .ok (.getfield 9, 3) := by decide +kernel
theorem dX4_isMusic_91 : decode cX4_isMusic 91 = .ok (.invokestatic 76, 3) := by decide +kernel
theorem dX4_isMusic_94 : decode cX4_isMusic 94 = .ok (.ireturn, 1) := by decide +kernel
set_option maxRecDepth 20000 in
theorem ggX4_holdsPattern_X2_bellIn : GoodIn wsX4_holdsPattern wsX2_bellIn := goodIn_r _ [6] (by decide +kernel) (by decide +kernel)
set_option maxRecDepth 20000 in
theorem gX4_holdsPattern_X2_bellIn : GoodIn wsX4_holdsPattern (va_wsS RX4 80 yX2_bellIn wsX2_bellIn) := goodIn_app (goodIn_of _ (by decide +kernel)) ggX4_holdsPattern_X2_bellIn
theorem dX4_holdsPattern_0 : decode cX4_holdsPattern 0 = .ok (.iconst 1, 1) := by decide +kernel
theorem dX4_holdsPattern_1 : decode cX4_holdsPattern 1 = .ok (.istore_n 2, 1) := by decide +kernel
theorem dX4_holdsPattern_2 : decode cX4_holdsPattern 2 = .ok (.iload_n 2, 1) := by decide +kernel
theorem dX4_holdsPattern_3 : decode cX4_holdsPattern 3 = .ok (.aload_n 0, 1) := by decide +kernel
theorem dX4_holdsPattern_4 : decode cX4_holdsPattern 4 = .ok (.getfield 9, 3) := by decide +kernel
theorem dX4_holdsPattern_7 : decode cX4_holdsPattern 7 = .ok (.if_icmp .gt 33, 3) := by decide +kernel
theorem dX4_holdsPattern_10 : decode cX4_holdsPattern 10 = .ok (.aload_n 0, 1) := by decide +kernel
theorem dX4_holdsPattern_11 : decode cX4_holdsPattern 11 = .ok (.getfield 34, 3) := by decide +kernel
theorem dX4_holdsPattern_14 : decode cX4_holdsPattern 14 = .ok (.iload_n 2, 1) := by decide +kernel
theorem dX4_holdsPattern_15 : decode cX4_holdsPattern 15 = .ok (.iconst 1, 1) := by decide +kernel
theorem dX4_holdsPattern_16 : decode cX4_holdsPattern 16 = .ok (.isub, 1) := by decide +kernel
theorem dX4_holdsPattern_17 : decode cX4_holdsPattern 17 = .ok (.iaload, 1) := by decide +kernel
theorem dX4_holdsPattern_18 : decode cX4_holdsPattern 18 = .ok (.istore_n 3, 1) := by decide +kernel
theorem dX4_holdsPattern_19 : decode cX4_holdsPattern 19 = .ok (.iload_n 3, 1) := by decide +kernel
theorem dX4_holdsPattern_20 : decode cX4_holdsPattern 20 = .ok (.ifCond .eq 14, 3) := by decide +kernel
theorem dX4_holdsPattern_23 : decode cX4_holdsPattern 23 = .ok (.iload_n 3, 1) := by decide +kernel
theorem dX4_holdsPattern_24 : decode cX4_holdsPattern 24 = .ok (.iload_n 1, 1) := by decide +kernel
theorem dX4_holdsPattern_25 : decode cX4_holdsPattern 25 = .ok (.iload_n 2, 1) := by decide +kernel
theorem dX4_holdsPattern_26 : decode cX4_holdsPattern 26 = .ok (.invokestatic 80, 3) := by decide +kernel
theorem dX4_holdsPattern_29 : decode cX4_holdsPattern 29 = .ok (.if_icmp .eq 5, 3) := by decide +kernel
theorem dX4_holdsPattern_32 : decode cX4_holdsPattern 32 = .ok (.iconst 0, 1) := by decide +kernel
theorem dX4_holdsPattern_33 : decode cX4_holdsPattern 33 = .ok (.ireturn, 1) := by decide +kernel
theorem dX4_holdsPattern_34 : decode cX4_holdsPattern 34 = .ok (.iinc 2 1, 3) := by decide +kernel
theorem dX4_holdsPattern_37 : decode cX4_holdsPattern 37 = .ok (.goto (-35), 3) := by decide +kernel
theorem dX4_holdsPattern_40 : decode cX4_holdsPattern 40 = .ok (.iconst 1, 1) := by decide +kernel
theorem dX4_holdsPattern_41 : decode cX4_holdsPattern 41 = .ok (.ireturn, 1) := by decide +kernel
theorem dX4_happen_0 : decode cX4_happen 0 = .ok (.iconst 0, 1) := by decide +kernel
theorem dX4_happen_1 : decode cX4_happen 1 = .ok (.istore_n 1, 1) := by decide +kernel
theorem dX4_happen_2 : decode cX4_happen 2 = .ok (.iload_n 1, 1) := by decide +kernel
theorem dX4_happen_3 : decode cX4_happen 3 = .ok (.aload_n 0, 1) := by decide +kernel
theorem dX4_happen_4 : decode cX4_happen 4 = .ok (.getfield 46, 3) := by decide +kernel
theorem dX4_happen_7 : decode cX4_happen 7 = .ok (.getfield 52, 3) := by decide +kernel
theorem dX4_happen_10 : decode cX4_happen 10 = .ok (.if_icmp .ge 98, 3) := by decide +kernel
theorem dX4_happen_13 : decode cX4_happen 13 = .ok (.aload_n 0, 1) := by decide +kernel
theorem dX4_happen_14 : decode cX4_happen 14 = .ok (.getfield 46, 3) := by decide +kernel
theorem dX4_happen_17 : decode cX4_happen 17 = .ok (.getfield 84, 3) := by decide +kernel
theorem dX4_happen_20 : decode cX4_happen 20 = .ok (.iload_n 1, 1) := by decide +kernel
theorem dX4_happen_21 : decode cX4_happen 21 = .ok (.iaload, 1) := by decide +kernel
theorem dX4_happen_22 : decode cX4_happen 22 = .ok (.istore_n 2, 1) := by decide +kernel
theorem dX4_happen_23 : decode cX4_happen 23 = .ok (.aload_n 0, 1) := by decide +kernel
theorem dX4_happen_24 : decode cX4_happen 24 = .ok (.getfield 46, 3) := by decide +kernel
theorem dX4_happen_27 : decode cX4_happen 27 = .ok (.getfield 87, 3) := by decide +kernel
theorem dX4_happen_30 : decode cX4_happen 30 = .ok (.iload_n 1, 1) := by decide +kernel
theorem dX4_happen_31 : decode cX4_happen 31 = .ok (.iaload, 1) := by decide +kernel
theorem dX4_happen_32 : decode cX4_happen 32 = .ok (.tableswitch 65 0 2 #[28, 38, 48], 28) := by decide +kernel
theorem dX4_happen_60 : decode cX4_happen 60 = .ok (.aload_n 0, 1) := by decide +kernel
theorem dX4_happen_61 : decode cX4_happen 61 = .ok (.getfield 28, 3) := by decide +kernel
theorem dX4_happen_64 : decode cX4_happen 64 = .ok (.iload_n 2, 1) := by decide +kernel
theorem dX4_happen_65 : decode cX4_happen 65 = .ok (.iconst 0, 1) := by decide +kernel
theorem dX4_happen_66 : decode cX4_happen 66 = .ok (.iastore, 1) := by decide +kernel
theorem dX4_happen_67 : decode cX4_happen 67 = .ok (.goto 35, 3) := by decide +kernel
theorem dX4_happen_70 : decode cX4_happen 70 = .ok (.aload_n 0, 1) := by decide +kernel
theorem dX4_happen_71 : decode cX4_happen 71 = .ok (.getfield 28, 3) := by decide +kernel
theorem dX4_happen_74 : decode cX4_happen 74 = .ok (.iload_n 2, 1) := by decide +kernel
theorem dX4_happen_75 : decode cX4_happen 75 = .ok (.iconst 1, 1) := by decide +kernel
theorem dX4_happen_76 : decode cX4_happen 76 = .ok (.iastore, 1) := by decide +kernel
theorem dX4_happen_77 : decode cX4_happen 77 = .ok (.goto 25, 3) := by decide +kernel
theorem dX4_happen_80 : decode cX4_happen 80 = .ok (.aload_n 0, 1) := by decide +kernel
theorem dX4_happen_81 : decode cX4_happen 81 = .ok (.iconst 0, 1) := by decide +kernel
theorem dX4_happen_82 : decode cX4_happen 82 = .ok (.aload_n 0, 1) := by decide +kernel
theorem dX4_happen_83 : decode cX4_happen 83 = .ok (.getfield 19, 3) := by decide +kernel
theorem dX4_happen_86 : decode cX4_happen 86 = .ok (.iload_n 2, 1) := by decide +kernel
theorem dX4_happen_87 : decode cX4_happen 87 = .ok (.isub, 1) := by decide +kernel
theorem dX4_happen_88 : decode cX4_happen 88 = .ok (.invokestatic 90, 3) := by decide +kernel
theorem dX4_happen_91 : decode cX4_happen 91 = .ok (.putfield 19, 3) := by decide +kernel
theorem dX4_happen_94 : decode cX4_happen 94 = .ok (.goto 8, 3) := by decide +kernel
theorem dX4_happen_97 : decode cX4_happen 97 = .ok (.aload_n 0, 1) := by decide +kernel
theorem dX4_happen_98 : decode cX4_happen 98 = .ok (.iload_n 2, 1) := by decide +kernel
theorem dX4_happen_99 : decode cX4_happen 99 = .ok (.putfield 31, 3) := by decide +kernel
theorem dX4_happen_102 : decode cX4_happen 102 = .ok (.iinc 1 1, 3) := by decide +kernel
theorem dX4_happen_105 : decode cX4_happen 105 = .ok (.goto (-103), 3) := by decide +kernel
theorem dX4_happen_108 : decode cX4_happen 108 = .ok (.return_, 1) := by decide +kernel
