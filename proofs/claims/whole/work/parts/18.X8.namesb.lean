theorem dX8_music_12 : decode cX8_music 12 = .ok (.iload_n 1, 1) := by decide +kernel
theorem dX8_music_13 : decode cX8_music 13 = .ok (.invokevirtual 169, 3) := by decide +kernel
theorem dX8_music_16 : decode cX8_music 16 = .ok (.ireturn, 1) := by decide +kernel
set_option maxRecDepth 20000 in
theorem ggX8_least_X0_find : GoodIn wsX8_least wsX0_find := goodIn_r _ [9, 10, 11, 12, 13, 14, 15, 16, 17, 18, 19, 20, 21, 22, 23, 24, 25, 26, 27, 28, 29, 30, 31, 32, 33, 34, 35, 36, 37, 38, 39, 40, 41, 42, 43, 44, 45, 46, 47, 48, 49, 50, 51, 52, 53, 54, 55, 56, 57, 58, 59, 60, 61, 62, 63, 8, 64, 65, 66, 67, 68, 69, 70, 71, 72, 73, 74, 75, 76, 77, 78, 79, 80, 81, 82, 83, 84, 85, 86, 87, 88, 99, 100, 101, 102, 103, 104, 105, 106, 107, 108, 109, 110, 111, 112, 113, 114, 115, 116, 117, 118, 119, 120, 121, 122, 123, 124, 125] (by decide +kernel) (by decide +kernel)
set_option maxRecDepth 20000 in
theorem gX8_least_X0_find : GoodIn wsX8_least (wsV RX8 172 RX0 yX0_find wsX0_find) := goodIn_app (goodIn_of _ (by decide +kernel)) ggX8_least_X0_find
theorem dX8_least_0 : decode cX8_least 0 = .ok (.iload_n 1, 1) := by decide +kernel
theorem dX8_least_1 : decode cX8_least 1 = .ok (.iconst 1, 1) := by decide +kernel
theorem dX8_least_2 : decode cX8_least 2 = .ok (.if_icmp .lt 8, 3) := by decide +kernel
theorem dX8_least_5 : decode cX8_least 5 = .ok (.iload_n 1, 1) := by decide +kernel
theorem dX8_least_6 : decode cX8_least 6 = .ok (.iconst 5, 1) := by decide +kernel
theorem dX8_least_7 : decode cX8_least 7 = .ok (.if_icmp .le 6, 3) := by decide +kernel
theorem dX8_least_10 : decode cX8_least 10 = .ok (.bipush (-2), 2) := by decide +kernel
theorem dX8_least_12 : decode cX8_least 12 = .ok (.ireturn, 1) := by decide +kernel
theorem dX8_least_13 : decode cX8_least 13 = .ok (.iload_n 2, 1) := by decide +kernel
theorem dX8_least_14 : decode cX8_least 14 = .ok (.ifCond .eq 10, 3) := by decide +kernel
theorem dX8_least_17 : decode cX8_least 17 = .ok (.iload_n 2, 1) := by decide +kernel
theorem dX8_least_18 : decode cX8_least 18 = .ok (.iconst 1, 1) := by decide +kernel
theorem dX8_least_19 : decode cX8_least 19 = .ok (.if_icmp .eq 5, 3) := by decide +kernel
theorem dX8_least_22 : decode cX8_least 22 = .ok (.iconst (-1), 1) := by decide +kernel
theorem dX8_least_23 : decode cX8_least 23 = .ok (.ireturn, 1) := by decide +kernel
theorem dX8_least_24 : decode cX8_least 24 = .ok (.aload_n 0, 1) := by decide +kernel
theorem dX8_least_25 : decode cX8_least 25 = .ok (.getfield 37, 3) := by decide +kernel
theorem dX8_least_28 : decode cX8_least 28 = .ok (.aload_n 0, 1) := by decide +kernel
theorem dX8_least_29 : decode cX8_least 29 = .ok (.getfield 14, 3) := by decide +kernel
theorem dX8_least_32 : decode cX8_least 32 = .ok (.iload_n 1, 1) := by decide +kernel
theorem dX8_least_33 : decode cX8_least 33 = .ok (.invokevirtual 172, 3) := by decide +kernel
theorem dX8_least_36 : decode cX8_least 36 = .ok (.iload_n 2, 1) := by decide +kernel
theorem dX8_least_37 : decode cX8_least 37 = .ok (.ifCond .ne 13, 3) := by decide +kernel
theorem dX8_least_40 : decode cX8_least 40 = .ok (.aload_n 0, 1) := by decide +kernel
theorem dX8_least_41 : decode cX8_least 41 = .ok (.getfield 37, 3) := by decide +kernel
theorem dX8_least_44 : decode cX8_least 44 = .ok (.getfield 176, 3) := by decide +kernel
theorem dX8_least_47 : decode cX8_least 47 = .ok (.goto 10, 3) := by decide +kernel
theorem dX8_least_50 : decode cX8_least 50 = .ok (.aload_n 0, 1) := by decide +kernel
theorem dX8_least_51 : decode cX8_least 51 = .ok (.getfield 37, 3) := by decide +kernel
theorem dX8_least_54 : decode cX8_least 54 = .ok (.getfield 179, 3) := by decide +kernel
theorem dX8_least_57 : decode cX8_least 57 = .ok (.ireturn, 1) := by decide +kernel
set_option maxRecDepth 20000 in
theorem ggX8_still_X8_isBell : GoodIn wsX8_still wsX8_isBell := goodIn_r _ [8, 9, 10, 74, 75, 76, 77, 78, 79, 80, 81, 82, 83, 84, 85, 86, 87, 88, 89, 90, 91, 92, 93, 94] (by decide +kernel) (by decide +kernel)
set_option maxRecDepth 20000 in
theorem gX8_still_X8_isBell : GoodIn wsX8_still (wsV RX8 153 RX8 yX8_isBell wsX8_isBell) := goodIn_app (goodIn_of _ (by decide +kernel)) ggX8_still_X8_isBell
set_option maxRecDepth 20000 in
theorem ggX8_still_X8_rung : GoodIn wsX8_still wsX8_rung := goodIn_r _ [14, 15, 2, 9, 16, 17, 18, 19, 20, 21, 22, 23, 24, 25, 26, 27, 28, 29, 30, 31, 32, 33, 34, 35, 36, 37, 38, 39, 40, 41, 42, 43, 44, 45, 46, 47, 48, 49, 50, 51, 52, 53, 54, 55, 56, 57, 58, 59, 74, 75, 76, 77, 78, 79, 80, 81, 82, 83, 84, 85, 86, 87, 88, 89, 90, 91, 92, 93, 94, 66, 67, 68, 69, 70, 71, 72, 73] (by decide +kernel) (by decide +kernel)
set_option maxRecDepth 20000 in
theorem gX8_still_X8_rung : GoodIn wsX8_still (wsV RX8 130 RX8 yX8_rung wsX8_rung) := goodIn_app (goodIn_of _ (by decide +kernel)) ggX8_still_X8_rung
set_option maxRecDepth 20000 in
theorem ggX8_still_X2_placeOf : GoodIn wsX8_still wsX2_placeOf := goodIn_r _ [62, 63, 64, 38, 65] (by decide +kernel) (by decide +kernel)
set_option maxRecDepth 20000 in
theorem gX8_still_X2_placeOf : GoodIn wsX8_still (va_wsS RX8 163 yX2_placeOf wsX2_placeOf) := goodIn_app (goodIn_of _ (by decide +kernel)) ggX8_still_X2_placeOf
theorem dX8_still_0 : decode cX8_still 0 = .ok (.aload_n 0, 1) := by decide +kernel
theorem dX8_still_1 : decode cX8_still 1 = .ok (.iload_n 1, 1) := by decide +kernel
theorem dX8_still_2 : decode cX8_still 2 = .ok (.invokevirtual 153, 3) := by decide +kernel
theorem dX8_still_5 : decode cX8_still 5 = .ok (.ifCond .ne 5, 3) := by decide +kernel
theorem dX8_still_8 : decode cX8_still 8 = .ok (.iconst (-1), 1) := by decide +kernel
theorem dX8_still_9 : decode cX8_still 9 = .ok (.ireturn, 1) := by decide +kernel
theorem dX8_still_10 : decode cX8_still 10 = .ok (.aload_n 0, 1) := by decide +kernel
theorem dX8_still_11 : decode cX8_still 11 = .ok (.invokevirtual 130, 3) := by decide +kernel
theorem dX8_still_14 : decode cX8_still 14 = .ok (.getfield 156, 3) := by decide +kernel
theorem dX8_still_17 : decode cX8_still 17 = .ok (.astore_n 2, 1) := by decide +kernel
theorem dX8_still_18 : decode cX8_still 18 = .ok (.iconst 0, 1) := by decide +kernel
theorem dX8_still_19 : decode cX8_still 19 = .ok (.istore_n 3, 1) := by decide +kernel
theorem dX8_still_20 : decode cX8_still 20 = .ok (.iconst 1, 1) := by decide +kernel
theorem dX8_still_21 : decode cX8_still 21 = .ok (.istore 4, 2) := by decide +kernel
theorem dX8_still_23 : decode cX8_still 23 = .ok (.iload 4, 2) := by decide +kernel
theorem dX8_still_25 : decode cX8_still 25 = .ok (.aload_n 0, 1) := by decide +kernel
theorem dX8_still_26 : decode cX8_still 26 = .ok (.getfield 27, 3) := by decide +kernel
theorem dX8_still_29 : decode cX8_still 29 = .ok (.getfield 134, 3) := by decide +kernel
theorem dX8_still_32 : decode cX8_still 32 = .ok (.if_icmp .gt 33, 3) := by decide +kernel
theorem dX8_still_35 : decode cX8_still 35 = .ok (.aload_n 2, 1) := by decide +kernel
theorem dX8_still_36 : decode cX8_still 36 = .ok (.iload 4, 2) := by decide +kernel
theorem dX8_still_38 : decode cX8_still 38 = .ok (.iaload, 1) := by decide +kernel
theorem dX8_still_39 : decode cX8_still 39 = .ok (.iload_n 1, 1) := by decide +kernel
theorem dX8_still_40 : decode cX8_still 40 = .ok (.invokestatic 163, 3) := by decide +kernel
theorem dX8_still_43 : decode cX8_still 43 = .ok (.aload_n 2, 1) := by decide +kernel
theorem dX8_still_44 : decode cX8_still 44 = .ok (.iload 4, 2) := by decide +kernel
theorem dX8_still_46 : decode cX8_still 46 = .ok (.iconst 1, 1) := by decide +kernel
theorem dX8_still_47 : decode cX8_still 47 = .ok (.isub, 1) := by decide +kernel
theorem dX8_still_48 : decode cX8_still 48 = .ok (.iaload, 1) := by decide +kernel
theorem dX8_still_49 : decode cX8_still 49 = .ok (.iload_n 1, 1) := by decide +kernel
theorem dX8_still_50 : decode cX8_still 50 = .ok (.invokestatic 163, 3) := by decide +kernel
theorem dX8_still_53 : decode cX8_still 53 = .ok (.if_icmp .ne 6, 3) := by decide +kernel
theorem dX8_still_56 : decode cX8_still 56 = .ok (.iinc 3 1, 3) := by decide +kernel
theorem dX8_still_59 : decode cX8_still 59 = .ok (.iinc 4 1, 3) := by decide +kernel
theorem dX8_still_62 : decode cX8_still 62 = .ok (.goto (-39), 3) := by decide +kernel
theorem dX8_still_65 : decode cX8_still 65 = .ok (.iload_n 3, 1) := by decide +kernel
theorem dX8_still_66 : decode cX8_still 66 = .ok (.ireturn, 1) := by decide +kernel
set_option maxRecDepth 20000 in
theorem ggX8_ahead_X8_isBell : GoodIn wsX8_ahead wsX8_isBell := goodIn_r _ [8, 9, 10, 77, 78, 79, 80, 81, 82, 83, 84, 85, 86, 87, 88, 89, 90, 91, 92, 93, 94, 95, 96, 97] (by decide +kernel) (by decide +kernel)
set_option maxRecDepth 20000 in
theorem gX8_ahead_X8_isBell : GoodIn wsX8_ahead (wsV RX8 153 RX8 yX8_isBell wsX8_isBell) := goodIn_app (goodIn_of _ (by decide +kernel)) ggX8_ahead_X8_isBell
set_option maxRecDepth 20000 in
theorem ggX8_ahead_X8_rung : GoodIn wsX8_ahead wsX8_rung := goodIn_r _ [14, 15, 2, 9, 16, 17, 18, 19, 20, 21, 22, 23, 24, 25, 26, 27, 28, 29, 30, 31, 32, 33, 34, 35, 36, 37, 38, 39, 40, 41, 42, 43, 44, 45, 46, 47, 48, 49, 50, 51, 52, 53, 54, 55, 56, 57, 58, 59, 77, 78, 79, 80, 81, 82, 83, 84, 85, 86, 87, 88, 89, 90, 91, 92, 93, 94, 95, 96, 97, 69, 70, 71, 72, 73, 74, 75, 76] (by decide +kernel) (by decide +kernel)
set_option maxRecDepth 20000 in
theorem gX8_ahead_X8_rung : GoodIn wsX8_ahead (wsV RX8 130 RX8 yX8_rung wsX8_rung) := goodIn_app (goodIn_of _ (by decide +kernel)) ggX8_ahead_X8_rung
set_option maxRecDepth 20000 in
theorem ggX8_ahead_X2_isRightAhead : GoodIn wsX8_ahead wsX2_isRightAhead := goodIn_r _ [62, 63, 64, 38, 65, 66, 67, 68] (by decide +kernel) (by decide +kernel)
set_option maxRecDepth 20000 in
theorem gX8_ahead_X2_isRightAhead : GoodIn wsX8_ahead (va_wsS RX8 182 yX2_isRightAhead wsX2_isRightAhead) := goodIn_app (goodIn_of _ (by decide +kernel)) ggX8_ahead_X2_isRightAhead
theorem dX8_ahead_0 : decode cX8_ahead 0 = .ok (.aload_n 0, 1) := by decide +kernel
theorem dX8_ahead_1 : decode cX8_ahead 1 = .ok (.iload_n 1, 1) := by decide +kernel
theorem dX8_ahead_2 : decode cX8_ahead 2 = .ok (.invokevirtual 153, 3) := by decide +kernel
theorem dX8_ahead_5 : decode cX8_ahead 5 = .ok (.ifCond .eq 16, 3) := by decide +kernel
theorem dX8_ahead_8 : decode cX8_ahead 8 = .ok (.aload_n 0, 1) := by decide +kernel
theorem dX8_ahead_9 : decode cX8_ahead 9 = .ok (.iload_n 2, 1) := by decide +kernel
theorem dX8_ahead_10 : decode cX8_ahead 10 = .ok (.invokevirtual 153, 3) := by decide +kernel
theorem dX8_ahead_13 : decode cX8_ahead 13 = .ok (.ifCond .eq 8, 3) := by decide +kernel
theorem dX8_ahead_16 : decode cX8_ahead 16 = .ok (.iload_n 1, 1) := by decide +kernel
theorem dX8_ahead_17 : decode cX8_ahead 17 = .ok (.iload_n 2, 1) := by decide +kernel
theorem dX8_ahead_18 : decode cX8_ahead 18 = .ok (.if_icmp .ne 5, 3) := by decide +kernel
theorem dX8_ahead_21 : decode cX8_ahead 21 = .ok (.iconst (-1), 1) := by decide +kernel
theorem dX8_ahead_22 : decode cX8_ahead 22 = .ok (.ireturn, 1) := by decide +kernel
theorem dX8_ahead_23 : decode cX8_ahead 23 = .ok (.aload_n 0, 1) := by decide +kernel
theorem dX8_ahead_24 : decode cX8_ahead 24 = .ok (.invokevirtual 130, 3) := by decide +kernel
theorem dX8_ahead_27 : decode cX8_ahead 27 = .ok (.getfield 156, 3) := by decide +kernel
theorem dX8_ahead_30 : decode cX8_ahead 30 = .ok (.astore_n 3, 1) := by decide +kernel
theorem dX8_ahead_31 : decode cX8_ahead 31 = .ok (.iconst 0, 1) := by decide +kernel
theorem dX8_ahead_32 : decode cX8_ahead 32 = .ok (.istore 4, 2) := by decide +kernel
theorem dX8_ahead_34 : decode cX8_ahead 34 = .ok (.iconst 0, 1) := by decide +kernel
theorem dX8_ahead_35 : decode cX8_ahead 35 = .ok (.istore 5, 2) := by decide +kernel
theorem dX8_ahead_37 : decode cX8_ahead 37 = .ok (.iload 5, 2) := by decide +kernel
theorem dX8_ahead_39 : decode cX8_ahead 39 = .ok (.aload_n 0, 1) := by decide +kernel
theorem dX8_ahead_40 : decode cX8_ahead 40 = .ok (.getfield 27, 3) := by decide +kernel
theorem dX8_ahead_43 : decode cX8_ahead 43 = .ok (.getfield 134, 3) := by decide +kernel
theorem dX8_ahead_46 : decode cX8_ahead 46 = .ok (.if_icmp .gt 24, 3) := by decide +kernel
theorem dX8_ahead_49 : decode cX8_ahead 49 = .ok (.aload_n 3, 1) := by decide +kernel
theorem dX8_ahead_50 : decode cX8_ahead 50 = .ok (.iload 5, 2) := by decide +kernel
theorem dX8_ahead_52 : decode cX8_ahead 52 = .ok (.iaload, 1) := by decide +kernel
theorem dX8_ahead_53 : decode cX8_ahead 53 = .ok (.iload_n 1, 1) := by decide +kernel
theorem dX8_ahead_54 : decode cX8_ahead 54 = .ok (.iload_n 2, 1) := by decide +kernel
theorem dX8_ahead_55 : decode cX8_ahead 55 = .ok (.invokestatic 182, 3) := by decide +kernel
theorem dX8_ahead_58 : decode cX8_ahead 58 = .ok (.ifCond .eq 6, 3) := by decide +kernel
theorem dX8_ahead_61 : decode cX8_ahead 61 = .ok (.iinc 4 1, 3) := by decide +kernel
theorem dX8_ahead_64 : decode cX8_ahead 64 = .ok (.iinc 5 1, 3) := by decide +kernel
theorem dX8_ahead_67 : decode cX8_ahead 67 = .ok (.goto (-30), 3) := by decide +kernel
theorem dX8_ahead_70 : decode cX8_ahead 70 = .ok (.iload 4, 2) := by decide +kernel
theorem dX8_ahead_72 : decode cX8_ahead 72 = .ok (.ireturn, 1) := by decide +kernel
set_option maxRecDepth 20000 in
theorem ggX8_see_X8_isBell : GoodIn wsX8_see wsX8_isBell := goodIn_r _ [8, 1, 9, 19, 20, 21, 22, 23, 24, 25, 26, 27, 28, 29, 30, 31, 32, 33, 34, 35, 36, 37, 38, 39] (by decide +kernel) (by decide +kernel)
set_option maxRecDepth 20000 in
theorem gX8_see_X8_isBell : GoodIn wsX8_see (wsV RX8 153 RX8 yX8_isBell wsX8_isBell) := goodIn_app (goodIn_of _ (by decide +kernel)) ggX8_see_X8_isBell
set_option maxRecDepth 20000 in
theorem ggX8_see_X1_append : GoodIn wsX8_see wsX1_append := goodIn_r _ [14, 15, 16, 17, 18, 40, 41, 42, 43] (by decide +kernel) (by decide +kernel)
set_option maxRecDepth 20000 in
theorem gX8_see_X1_append : GoodIn wsX8_see (wsV RX8 195 RX1 yX1_append wsX1_append) := goodIn_app (goodIn_of _ (by decide +kernel)) ggX8_see_X1_append
theorem dX8_see_0 : decode cX8_see 0 = .ok (.iload_n 1, 1) := by decide +kernel
theorem dX8_see_1 : decode cX8_see 1 = .ok (.iconst (-1), 1) := by decide +kernel
theorem dX8_see_2 : decode cX8_see 2 = .ok (.if_icmp .ne 16, 3) := by decide +kernel
theorem dX8_see_5 : decode cX8_see 5 = .ok (.aload_n 0, 1) := by decide +kernel
theorem dX8_see_6 : decode cX8_see 6 = .ok (.getfield 14, 3) := by decide +kernel
theorem dX8_see_9 : decode cX8_see 9 = .ok (.getfield 186, 3) := by decide +kernel
theorem dX8_see_12 : decode cX8_see 12 = .ok (.iconst 0, 1) := by decide +kernel
theorem dX8_see_13 : decode cX8_see 13 = .ok (.putfield 190, 3) := by decide +kernel
theorem dX8_see_16 : decode cX8_see 16 = .ok (.iconst 0, 1) := by decide +kernel
theorem dX8_see_17 : decode cX8_see 17 = .ok (.ireturn, 1) := by decide +kernel
theorem dX8_see_18 : decode cX8_see 18 = .ok (.iload_n 1, 1) := by decide +kernel
theorem dX8_see_19 : decode cX8_see 19 = .ok (.ifCond .lt 26, 3) := by decide +kernel
theorem dX8_see_22 : decode cX8_see 22 = .ok (.iload_n 1, 1) := by decide +kernel
theorem dX8_see_23 : decode cX8_see 23 = .ok (.sipush 192, 3) := by decide +kernel
theorem dX8_see_26 : decode cX8_see 26 = .ok (.if_icmp .gt 19, 3) := by decide +kernel
theorem dX8_see_29 : decode cX8_see 29 = .ok (.aload_n 0, 1) := by decide +kernel
theorem dX8_see_30 : decode cX8_see 30 = .ok (.iload_n 2, 1) := by decide +kernel
theorem dX8_see_31 : decode cX8_see 31 = .ok (.invokevirtual 153, 3) := by decide +kernel
theorem dX8_see_34 : decode cX8_see 34 = .ok (.ifCond .eq 11, 3) := by decide +kernel
theorem dX8_see_37 : decode cX8_see 37 = .ok (.aload_n 0, 1) := by decide +kernel
theorem dX8_see_38 : decode cX8_see 38 = .ok (.iload_n 3, 1) := by decide +kernel
theorem dX8_see_39 : decode cX8_see 39 = .ok (.invokevirtual 153, 3) := by decide +kernel
theorem dX8_see_42 : decode cX8_see 42 = .ok (.ifCond .ne 5, 3) := by decide +kernel
theorem dX8_see_45 : decode cX8_see 45 = .ok (.iconst (-1), 1) := by decide +kernel
theorem dX8_see_46 : decode cX8_see 46 = .ok (.ireturn, 1) := by decide +kernel
theorem dX8_see_47 : decode cX8_see 47 = .ok (.aload_n 0, 1) := by decide +kernel
theorem dX8_see_48 : decode cX8_see 48 = .ok (.getfield 14, 3) := by decide +kernel
theorem dX8_see_51 : decode cX8_see 51 = .ok (.getfield 186, 3) := by decide +kernel
theorem dX8_see_54 : decode cX8_see 54 = .ok (.iload_n 1, 1) := by decide +kernel
theorem dX8_see_55 : decode cX8_see 55 = .ok (.iload_n 2, 1) := by decide +kernel
theorem dX8_see_56 : decode cX8_see 56 = .ok (.iload_n 3, 1) := by decide +kernel
theorem dX8_see_57 : decode cX8_see 57 = .ok (.invokevirtual 195, 3) := by decide +kernel
theorem dX8_see_60 : decode cX8_see 60 = .ok (.ifCond .eq 16, 3) := by decide +kernel
theorem dX8_see_63 : decode cX8_see 63 = .ok (.aload_n 0, 1) := by decide +kernel
theorem dX8_see_64 : decode cX8_see 64 = .ok (.getfield 14, 3) := by decide +kernel
theorem dX8_see_67 : decode cX8_see 67 = .ok (.getfield 186, 3) := by decide +kernel
theorem dX8_see_70 : decode cX8_see 70 = .ok (.getfield 190, 3) := by decide +kernel
theorem dX8_see_73 : decode cX8_see 73 = .ok (.goto 5, 3) := by decide +kernel
theorem dX8_see_76 : decode cX8_see 76 = .ok (.bipush (-4), 2) := by decide +kernel
theorem dX8_see_78 : decode cX8_see 78 = .ok (.ireturn, 1) := by decide +kernel
set_option maxRecDepth 20000 in
theorem ggX8_fits_X4_copyFrom : GoodIn wsX8_fits wsX4_copyFrom := goodIn_r _ [9, 10, 11, 12, 13, 14, 15, 16, 17, 18, 19, 20, 21, 22, 23, 24, 25, 26, 27, 28, 29, 30, 31, 32, 33, 34, 35, 36, 37, 110, 111, 112, 113, 114, 115, 116, 117, 118, 119, 120, 121, 122, 123, 124] (by decide +kernel) (by decide +kernel)
set_option maxRecDepth 20000 in
theorem gX8_fits_X4_copyFrom : GoodIn wsX8_fits (wsV RX8 197 RX4 yX4_copyFrom wsX4_copyFrom) := goodIn_app (goodIn_of _ (by decide +kernel)) ggX8_fits_X4_copyFrom
set_option maxRecDepth 20000 in
theorem ggX8_fits_X2_isGood : GoodIn wsX8_fits wsX2_isGood := goodIn_r _ [41, 42, 43, 40, 44, 45, 46, 47] (by decide +kernel) (by decide +kernel)
set_option maxRecDepth 20000 in
theorem gX8_fits_X2_isGood : GoodIn wsX8_fits (va_wsS RX8 74 yX2_isGood wsX2_isGood) := goodIn_app (goodIn_of _ (by decide +kernel)) ggX8_fits_X2_isGood
set_option maxRecDepth 20000 in
theorem ggX8_fits_X8_fitsLast : GoodIn wsX8_fits wsX8_fitsLast := goodIn_r _ [52, 1, 3, 53, 54, 2, 55, 56, 57, 58, 59, 60, 61, 62, 63, 64, 65, 66, 67, 68, 69, 70, 71, 72, 73, 74, 75, 76, 77, 78, 79, 80, 81, 82, 43, 40, 44, 45, 46, 47, 83, 84, 85, 8, 86, 12, 13, 87, 88, 89, 90, 91, 92, 93, 94, 95, 96, 97, 98, 99, 100, 101, 102, 103, 104, 105, 106, 107, 108, 109, 110, 111, 112, 113, 114, 115, 116, 117, 118, 119, 120, 121, 122, 123, 124, 125, 126, 127, 128, 129, 130, 131, 132] (by decide +kernel) (by decide +kernel)
set_option maxRecDepth 20000 in
theorem gX8_fits_X8_fitsLast : GoodIn wsX8_fits (wsV RX8 201 RX8 yX8_fitsLast wsX8_fitsLast) := goodIn_app (goodIn_of _ (by decide +kernel)) ggX8_fits_X8_fitsLast
theorem dX8_fits_0 : decode cX8_fits 0 = .ok (.iload_n 1, 1) := by decide +kernel
theorem dX8_fits_1 : decode cX8_fits 1 = .ok (.ifCond .eq 10, 3) := by decide +kernel
theorem dX8_fits_4 : decode cX8_fits 4 = .ok (.iload_n 1, 1) := by decide +kernel
theorem dX8_fits_5 : decode cX8_fits 5 = .ok (.iconst 1, 1) := by decide +kernel
theorem dX8_fits_6 : decode cX8_fits 6 = .ok (.if_icmp .eq 5, 3) := by decide +kernel
theorem dX8_fits_9 : decode cX8_fits 9 = .ok (.iconst (-1), 1) := by decide +kernel
theorem dX8_fits_10 : decode cX8_fits 10 = .ok (.ireturn, 1) := by decide +kernel
theorem dX8_fits_11 : decode cX8_fits 11 = .ok (.iconst 0, 1) := by decide +kernel
theorem dX8_fits_12 : decode cX8_fits 12 = .ok (.istore_n 2, 1) := by decide +kernel
theorem dX8_fits_13 : decode cX8_fits 13 = .ok (.bipush (-5), 2) := by decide +kernel
theorem dX8_fits_15 : decode cX8_fits 15 = .ok (.istore_n 3, 1) := by decide +kernel
theorem dX8_fits_16 : decode cX8_fits 16 = .ok (.aload_n 0, 1) := by decide +kernel
theorem dX8_fits_17 : decode cX8_fits 17 = .ok (.getfield 21, 3) := by decide +kernel
theorem dX8_fits_20 : decode cX8_fits 20 = .ok (.aload_n 0, 1) := by decide +kernel
theorem dX8_fits_21 : decode cX8_fits 21 = .ok (.getfield 14, 3) := by decide +kernel
theorem dX8_fits_24 : decode cX8_fits 24 = .ok (.invokevirtual 197, 3) := by decide +kernel
theorem dX8_fits_27 : decode cX8_fits 27 = .ok (.aload_n 0, 1) := by decide +kernel
theorem dX8_fits_28 : decode cX8_fits 28 = .ok (.getfield 14, 3) := by decide +kernel
theorem dX8_fits_31 : decode cX8_fits 31 = .ok (.getfield 80, 3) := by decide +kernel
theorem dX8_fits_34 : decode cX8_fits 34 = .ok (.ifCond .le 15, 3) := by decide +kernel
theorem dX8_fits_37 : decode cX8_fits 37 = .ok (.iconst 1, 1) := by decide +kernel
theorem dX8_fits_38 : decode cX8_fits 38 = .ok (.aload_n 0, 1) := by decide +kernel
theorem dX8_fits_39 : decode cX8_fits 39 = .ok (.getfield 14, 3) := by decide +kernel
theorem dX8_fits_42 : decode cX8_fits 42 = .ok (.getfield 62, 3) := by decide +kernel
theorem dX8_fits_45 : decode cX8_fits 45 = .ok (.ishl, 1) := by decide +kernel
theorem dX8_fits_46 : decode cX8_fits 46 = .ok (.goto 4, 3) := by decide +kernel
theorem dX8_fits_49 : decode cX8_fits 49 = .ok (.iconst 0, 1) := by decide +kernel
theorem dX8_fits_50 : decode cX8_fits 50 = .ok (.istore 4, 2) := by decide +kernel
theorem dX8_fits_52 : decode cX8_fits 52 = .ok (.iconst 0, 1) := by decide +kernel
theorem dX8_fits_53 : decode cX8_fits 53 = .ok (.istore 5, 2) := by decide +kernel
theorem dX8_fits_55 : decode cX8_fits 55 = .ok (.iload 5, 2) := by decide +kernel
theorem dX8_fits_57 : decode cX8_fits 57 = .ok (.iload 4, 2) := by decide +kernel
theorem dX8_fits_59 : decode cX8_fits 59 = .ok (.if_icmp .ge 49, 3) := by decide +kernel
theorem dX8_fits_62 : decode cX8_fits 62 = .ok (.aload_n 0, 1) := by decide +kernel
theorem dX8_fits_63 : decode cX8_fits 63 = .ok (.getfield 14, 3) := by decide +kernel
theorem dX8_fits_66 : decode cX8_fits 66 = .ok (.getfield 62, 3) := by decide +kernel
theorem dX8_fits_69 : decode cX8_fits 69 = .ok (.iload 5, 2) := by decide +kernel
theorem dX8_fits_71 : decode cX8_fits 71 = .ok (.invokestatic 74, 3) := by decide +kernel
theorem dX8_fits_74 : decode cX8_fits 74 = .ok (.ifCond .eq 28, 3) := by decide +kernel
theorem dX8_fits_77 : decode cX8_fits 77 = .ok (.aload_n 0, 1) := by decide +kernel
theorem dX8_fits_78 : decode cX8_fits 78 = .ok (.iload 5, 2) := by decide +kernel
theorem dX8_fits_80 : decode cX8_fits 80 = .ok (.invokevirtual 201, 3) := by decide +kernel
theorem dX8_fits_83 : decode cX8_fits 83 = .ok (.ifCond .eq 19, 3) := by decide +kernel
theorem dX8_fits_86 : decode cX8_fits 86 = .ok (.iinc 2 1, 3) := by decide +kernel
theorem dX8_fits_89 : decode cX8_fits 89 = .ok (.iload_n 3, 1) := by decide +kernel
theorem dX8_fits_90 : decode cX8_fits 90 = .ok (.bipush (-5), 2) := by decide +kernel
theorem dX8_fits_92 : decode cX8_fits 92 = .ok (.if_icmp .ne 8, 3) := by decide +kernel
theorem dX8_fits_95 : decode cX8_fits 95 = .ok (.iload 5, 2) := by decide +kernel
theorem dX8_fits_97 : decode cX8_fits 97 = .ok (.goto 4, 3) := by decide +kernel
theorem dX8_fits_100 : decode cX8_fits 100 = .ok (.iload_n 3, 1) := by decide +kernel
theorem dX8_fits_101 : decode cX8_fits 101 = .ok (.istore_n 3, 1) := by decide +kernel
theorem dX8_fits_102 : decode cX8_fits 102 = .ok (.iinc 5 1, 3) := by decide +kernel
theorem dX8_fits_105 : decode cX8_fits 105 = .ok (.goto (-50), 3) := by decide +kernel
theorem dX8_fits_108 : decode cX8_fits 108 = .ok (.iload_n 1, 1) := by decide +kernel
theorem dX8_fits_109 : decode cX8_fits 109 = .ok (.ifCond .ne 7, 3) := by decide +kernel
theorem dX8_fits_112 : decode cX8_fits 112 = .ok (.iload_n 2, 1) := by decide +kernel
theorem dX8_fits_113 : decode cX8_fits 113 = .ok (.goto 4, 3) := by decide +kernel
theorem dX8_fits_116 : decode cX8_fits 116 = .ok (.iload_n 3, 1) := by decide +kernel
theorem dX8_fits_117 : decode cX8_fits 117 = .ok (.ireturn, 1) := by decide +kernel
set_option maxRecDepth 20000 in
theorem ggX8_odds_X8_isBell : GoodIn wsX8_odds wsX8_isBell := goodIn_r _ [9, 10, 11, 78, 79, 80, 81, 82, 83, 84, 85, 86, 87, 88, 89, 90, 91, 92, 93, 94, 95, 96, 97, 98] (by decide +kernel) (by decide +kernel)
set_option maxRecDepth 20000 in
theorem gX8_odds_X8_isBell : GoodIn wsX8_odds (wsV RX8 153 RX8 yX8_isBell wsX8_isBell) := goodIn_app (goodIn_of _ (by decide +kernel)) ggX8_odds_X8_isBell
set_option maxRecDepth 20000 in
theorem ggX8_odds_X8_isPart : GoodIn wsX8_odds wsX8_isPart := goodIn_r _ [14] (by decide +kernel) (by decide +kernel)
set_option maxRecDepth 20000 in
theorem gX8_odds_X8_isPart : GoodIn wsX8_odds (va_wsS RX8 204 yX8_isPart wsX8_isPart) := goodIn_app (goodIn_of _ (by decide +kernel)) ggX8_odds_X8_isPart
set_option maxRecDepth 20000 in
theorem ggX8_odds_X8_rung : GoodIn wsX8_odds wsX8_rung := goodIn_r _ [18, 19, 3, 10, 20, 21, 22, 23, 24, 25, 26, 27, 28, 29, 30, 31, 32, 33, 34, 35, 36, 37, 38, 39, 40, 41, 42, 43, 44, 45, 46, 47, 48, 49, 50, 51, 52, 53, 54, 55, 56, 57, 58, 59, 60, 61, 62, 63, 78, 79, 80, 81, 82, 83, 84, 85, 86, 87, 88, 89, 90, 91, 92, 93, 94, 95, 96, 97, 98, 70, 71, 72, 73, 74, 75, 76, 77] (by decide +kernel) (by decide +kernel)
set_option maxRecDepth 20000 in
theorem gX8_odds_X8_rung : GoodIn wsX8_odds (wsV RX8 130 RX8 yX8_rung wsX8_rung) := goodIn_app (goodIn_of _ (by decide +kernel)) ggX8_odds_X8_rung
set_option maxRecDepth 20000 in
theorem ggX8_odds_X2_bellIn : GoodIn wsX8_odds wsX2_bellIn := goodIn_r _ [66] (by decide +kernel) (by decide +kernel)
set_option maxRecDepth 20000 in
theorem gX8_odds_X2_bellIn : GoodIn wsX8_odds (va_wsS RX8 159 yX2_bellIn wsX2_bellIn) := goodIn_app (goodIn_of _ (by decide +kernel)) ggX8_odds_X2_bellIn
set_option maxRecDepth 20000 in
theorem ggX8_odds_X8_lowestTerms : GoodIn wsX8_odds wsX8_lowestTerms := goodIn_r _ [69] (by decide +kernel) (by decide +kernel)
set_option maxRecDepth 20000 in
theorem gX8_odds_X8_lowestTerms : GoodIn wsX8_odds (va_wsS RX8 209 yX8_lowestTerms wsX8_lowestTerms) := goodIn_app (goodIn_of _ (by decide +kernel)) ggX8_odds_X8_lowestTerms
theorem dX8_odds_0 : decode cX8_odds 0 = .ok (.aload_n 0, 1) := by decide +kernel
theorem dX8_odds_1 : decode cX8_odds 1 = .ok (.iload_n 1, 1) := by decide +kernel
theorem dX8_odds_2 : decode cX8_odds 2 = .ok (.invokevirtual 153, 3) := by decide +kernel
theorem dX8_odds_5 : decode cX8_odds 5 = .ok (.ifCond .eq 18, 3) := by decide +kernel
theorem dX8_odds_8 : decode cX8_odds 8 = .ok (.aload_n 0, 1) := by decide +kernel
theorem dX8_odds_9 : decode cX8_odds 9 = .ok (.iload_n 2, 1) := by decide +kernel
theorem dX8_odds_10 : decode cX8_odds 10 = .ok (.invokevirtual 153, 3) := by decide +kernel
theorem dX8_odds_13 : decode cX8_odds 13 = .ok (.ifCond .eq 10, 3) := by decide +kernel
theorem dX8_odds_16 : decode cX8_odds 16 = .ok (.iload_n 3, 1) := by decide +kernel
theorem dX8_odds_17 : decode cX8_odds 17 = .ok (.invokestatic 204, 3) := by decide +kernel
theorem dX8_odds_20 : decode cX8_odds 20 = .ok (.ifCond .ne 7, 3) := by decide +kernel
theorem dX8_odds_23 : decode cX8_odds 23 = .ok (.ldc2_w 207, 3) := by decide +kernel
theorem dX8_odds_26 : decode cX8_odds 26 = .ok (.lreturn, 1) := by decide +kernel
theorem dX8_odds_27 : decode cX8_odds 27 = .ok (.aload_n 0, 1) := by decide +kernel
theorem dX8_odds_28 : decode cX8_odds 28 = .ok (.invokevirtual 130, 3) := by decide +kernel
theorem dX8_odds_31 : decode cX8_odds 31 = .ok (.getfield 156, 3) := by decide +kernel
theorem dX8_odds_34 : decode cX8_odds 34 = .ok (.astore 4, 2) := by decide +kernel
theorem dX8_odds_36 : decode cX8_odds 36 = .ok (.iconst 0, 1) := by decide +kernel
theorem dX8_odds_37 : decode cX8_odds 37 = .ok (.istore 5, 2) := by decide +kernel
theorem dX8_odds_39 : decode cX8_odds 39 = .ok (.iconst 0, 1) := by decide +kernel
theorem dX8_odds_40 : decode cX8_odds 40 = .ok (.istore 6, 2) := by decide +kernel
theorem dX8_odds_42 : decode cX8_odds 42 = .ok (.iload 6, 2) := by decide +kernel
theorem dX8_odds_44 : decode cX8_odds 44 = .ok (.aload_n 0, 1) := by decide +kernel
theorem dX8_odds_45 : decode cX8_odds 45 = .ok (.getfield 27, 3) := by decide +kernel
theorem dX8_odds_48 : decode cX8_odds 48 = .ok (.getfield 134, 3) := by decide +kernel
theorem dX8_odds_51 : decode cX8_odds 51 = .ok (.if_icmp .gt 25, 3) := by decide +kernel
theorem dX8_odds_54 : decode cX8_odds 54 = .ok (.aload 4, 2) := by decide +kernel
theorem dX8_odds_56 : decode cX8_odds 56 = .ok (.iload 6, 2) := by decide +kernel
theorem dX8_odds_58 : decode cX8_odds 58 = .ok (.iaload, 1) := by decide +kernel
theorem dX8_odds_59 : decode cX8_odds 59 = .ok (.iload_n 2, 1) := by decide +kernel
theorem dX8_odds_60 : decode cX8_odds 60 = .ok (.invokestatic 159, 3) := by decide +kernel
theorem dX8_odds_63 : decode cX8_odds 63 = .ok (.iload_n 1, 1) := by decide +kernel
theorem dX8_odds_64 : decode cX8_odds 64 = .ok (.if_icmp .ne 6, 3) := by decide +kernel
theorem dX8_odds_67 : decode cX8_odds 67 = .ok (.iinc 5 1, 3) := by decide +kernel
theorem dX8_odds_70 : decode cX8_odds 70 = .ok (.iinc 6 1, 3) := by decide +kernel
theorem dX8_odds_73 : decode cX8_odds 73 = .ok (.goto (-31), 3) := by decide +kernel
theorem dX8_odds_76 : decode cX8_odds 76 = .ok (.iload 5, 2) := by decide +kernel
theorem dX8_odds_78 : decode cX8_odds 78 = .ok (.aload_n 0, 1) := by decide +kernel
theorem dX8_odds_79 : decode cX8_odds 79 = .ok (.getfield 27, 3) := by decide +kernel
theorem dX8_odds_82 : decode cX8_odds 82 = .ok (.getfield 134, 3) := by decide +kernel
theorem dX8_odds_85 : decode cX8_odds 85 = .ok (.iconst 1, 1) := by decide +kernel
theorem dX8_odds_86 : decode cX8_odds 86 = .ok (.iadd, 1) := by decide +kernel
theorem dX8_odds_87 : decode cX8_odds 87 = .ok (.iload_n 3, 1) := by decide +kernel
theorem dX8_odds_88 : decode cX8_odds 88 = .ok (.invokestatic 209, 3) := by decide +kernel
theorem dX8_odds_91 : decode cX8_odds 91 = .ok (.lreturn, 1) := by decide +kernel
set_option maxRecDepth 20000 in
theorem ggX8_mean_X8_isPart : GoodIn wsX8_mean wsX8_isPart := goodIn_r _ [6] (by decide +kernel) (by decide +kernel)
set_option maxRecDepth 20000 in
theorem gX8_mean_X8_isPart : GoodIn wsX8_mean (va_wsS RX8 204 yX8_isPart wsX8_isPart) := goodIn_app (goodIn_of _ (by decide +kernel)) ggX8_mean_X8_isPart
set_option maxRecDepth 20000 in
theorem ggX8_mean_X8_countMusic : GoodIn wsX8_mean wsX8_countMusic := goodIn_r _ [10, 11, 12, 2, 13, 14, 15, 16, 5, 17, 18, 19, 20, 21, 22, 23, 24, 25, 26, 27, 28, 29, 30, 31, 32, 33, 34, 35, 36, 37, 38, 39, 40, 41, 42, 43, 44, 45, 46, 47, 48, 49, 50, 51, 52, 53, 54, 55, 56, 57, 58, 59, 60, 61, 62, 63, 64, 65, 66, 67, 68, 69, 70, 71, 72, 73, 74, 75, 76, 77, 78, 79, 80, 81, 82, 83, 84, 88, 89, 90, 91, 92, 93, 94, 95, 96, 97, 98, 99, 100, 101, 102, 103, 104, 105, 106, 107, 108, 109, 110, 111, 112, 113, 114, 115, 116] (by decide +kernel) (by decide +kernel)
set_option maxRecDepth 20000 in
theorem gX8_mean_X8_countMusic : GoodIn wsX8_mean (wsV RX8 169 RX8 yX8_countMusic wsX8_countMusic) := goodIn_app (goodIn_of _ (by decide +kernel)) ggX8_mean_X8_countMusic
set_option maxRecDepth 20000 in
theorem ggX8_mean_X8_rung : GoodIn wsX8_mean wsX8_rung := goodIn_r _ [17, 18, 12, 13, 19, 20, 21, 22, 23, 24, 25, 26, 27, 28, 29, 30, 31, 32, 33, 34, 35, 36, 37, 38, 39, 40, 41, 42, 43, 44, 45, 46, 47, 48, 49, 50, 51, 52, 53, 54, 55, 56, 57, 58, 59, 60, 61, 62, 96, 97, 98, 99, 100, 101, 102, 103, 104, 105, 106, 107, 108, 109, 110, 111, 112, 113, 114, 115, 116, 88, 89, 90, 91, 92, 93, 94, 95] (by decide +kernel) (by decide +kernel)
set_option maxRecDepth 20000 in
theorem gX8_mean_X8_rung : GoodIn wsX8_mean (wsV RX8 130 RX8 yX8_rung wsX8_rung) := goodIn_app (goodIn_of _ (by decide +kernel)) ggX8_mean_X8_rung
set_option maxRecDepth 20000 in
theorem ggX8_mean_X8_lowestTerms : GoodIn wsX8_mean wsX8_lowestTerms := goodIn_r _ [87] (by decide +kernel) (by decide +kernel)
set_option maxRecDepth 20000 in
theorem gX8_mean_X8_lowestTerms : GoodIn wsX8_mean (va_wsS RX8 209 yX8_lowestTerms wsX8_lowestTerms) := goodIn_app (goodIn_of _ (by decide +kernel)) ggX8_mean_X8_lowestTerms
theorem dX8_mean_0 : decode cX8_mean 0 = .ok (.iload_n 1, 1) := by decide +kernel
theorem dX8_mean_1 : decode cX8_mean 1 = .ok (.invokestatic 204, 3) := by decide +kernel
theorem dX8_mean_4 : decode cX8_mean 4 = .ok (.ifCond .ne 7, 3) := by decide +kernel
theorem dX8_mean_7 : decode cX8_mean 7 = .ok (.ldc2_w 207, 3) := by decide +kernel
theorem dX8_mean_10 : decode cX8_mean 10 = .ok (.lreturn, 1) := by decide +kernel
theorem dX8_mean_11 : decode cX8_mean 11 = .ok (.iconst 0, 1) := by decide +kernel
theorem dX8_mean_12 : decode cX8_mean 12 = .ok (.istore_n 2, 1) := by decide +kernel
theorem dX8_mean_13 : decode cX8_mean 13 = .ok (.iconst 0, 1) := by decide +kernel
theorem dX8_mean_14 : decode cX8_mean 14 = .ok (.istore_n 3, 1) := by decide +kernel
theorem dX8_mean_15 : decode cX8_mean 15 = .ok (.iload_n 3, 1) := by decide +kernel
theorem dX8_mean_16 : decode cX8_mean 16 = .ok (.iconst 4, 1) := by decide +kernel
theorem dX8_mean_17 : decode cX8_mean 17 = .ok (.if_icmp .ge 17, 3) := by decide +kernel
theorem dX8_mean_20 : decode cX8_mean 20 = .ok (.iload_n 2, 1) := by decide +kernel
theorem dX8_mean_21 : decode cX8_mean 21 = .ok (.aload_n 0, 1) := by decide +kernel
theorem dX8_mean_22 : decode cX8_mean 22 = .ok (.iload_n 3, 1) := by decide +kernel
theorem dX8_mean_23 : decode cX8_mean 23 = .ok (.invokevirtual 169, 3) := by decide +kernel
theorem dX8_mean_26 : decode cX8_mean 26 = .ok (.iadd, 1) := by decide +kernel
theorem dX8_mean_27 : decode cX8_mean 27 = .ok (.istore_n 2, 1) := by decide +kernel
theorem dX8_mean_28 : decode cX8_mean 28 = .ok (.iinc 3 1, 3) := by decide +kernel
theorem dX8_mean_31 : decode cX8_mean 31 = .ok (.goto (-16), 3) := by decide +kernel
theorem dX8_mean_34 : decode cX8_mean 34 = .ok (.iload_n 2, 1) := by decide +kernel
theorem dX8_mean_35 : decode cX8_mean 35 = .ok (.aload_n 0, 1) := by decide +kernel
theorem dX8_mean_36 : decode cX8_mean 36 = .ok (.invokevirtual 130, 3) := by decide +kernel
theorem dX8_mean_39 : decode cX8_mean 39 = .ok (.getfield 134, 3) := by decide +kernel
theorem dX8_mean_42 : decode cX8_mean 42 = .ok (.iconst 1, 1) := by decide +kernel
theorem dX8_mean_43 : decode cX8_mean 43 = .ok (.iadd, 1) := by decide +kernel
theorem dX8_mean_44 : decode cX8_mean 44 = .ok (.iload_n 1, 1) := by decide +kernel
theorem dX8_mean_45 : decode cX8_mean 45 = .ok (.invokestatic 209, 3) := by decide +kernel
theorem dX8_mean_48 : decode cX8_mean 48 = .ok (.lreturn, 1) := by decide +kernel
set_option maxRecDepth 20000 in
theorem ggX8_event_X8_isLead : GoodIn wsX8_event wsX8_isLead := goodIn_r _ [7] (by decide +kernel) (by decide +kernel)
set_option maxRecDepth 20000 in
theorem gX8_event_X8_isLead : GoodIn wsX8_event (va_wsS RX8 95 yX8_isLead wsX8_isLead) := goodIn_app (goodIn_of _ (by decide +kernel)) ggX8_event_X8_isLead
set_option maxRecDepth 20000 in
theorem ggX8_event_X1_append : GoodIn wsX8_event wsX1_append := goodIn_r _ [12, 13, 14, 15, 16, 38, 39, 40, 41] (by decide +kernel) (by decide +kernel)
set_option maxRecDepth 20000 in
theorem gX8_event_X1_append : GoodIn wsX8_event (wsV RX8 195 RX1 yX1_append wsX1_append) := goodIn_app (goodIn_of _ (by decide +kernel)) ggX8_event_X1_append
theorem dX8_event_0 : decode cX8_event 0 = .ok (.iload_n 1, 1) := by decide +kernel
theorem dX8_event_1 : decode cX8_event 1 = .ok (.iconst (-1), 1) := by decide +kernel
theorem dX8_event_2 : decode cX8_event 2 = .ok (.if_icmp .ne 16, 3) := by decide +kernel
theorem dX8_event_5 : decode cX8_event 5 = .ok (.aload_n 0, 1) := by decide +kernel
theorem dX8_event_6 : decode cX8_event 6 = .ok (.getfield 14, 3) := by decide +kernel
theorem dX8_event_9 : decode cX8_event 9 = .ok (.getfield 213, 3) := by decide +kernel
theorem dX8_event_12 : decode cX8_event 12 = .ok (.iconst 0, 1) := by decide +kernel
theorem dX8_event_13 : decode cX8_event 13 = .ok (.putfield 190, 3) := by decide +kernel
theorem dX8_event_16 : decode cX8_event 16 = .ok (.iconst 0, 1) := by decide +kernel
theorem dX8_event_17 : decode cX8_event 17 = .ok (.ireturn, 1) := by decide +kernel
theorem dX8_event_18 : decode cX8_event 18 = .ok (.iload_n 1, 1) := by decide +kernel
theorem dX8_event_19 : decode cX8_event 19 = .ok (.ifCond .lt 8, 3) := by decide +kernel
theorem dX8_event_22 : decode cX8_event 22 = .ok (.iload_n 1, 1) := by decide +kernel
theorem dX8_event_23 : decode cX8_event 23 = .ok (.iconst 3, 1) := by decide +kernel
theorem dX8_event_24 : decode cX8_event 24 = .ok (.if_icmp .le 5, 3) := by decide +kernel
theorem dX8_event_27 : decode cX8_event 27 = .ok (.iconst (-1), 1) := by decide +kernel
theorem dX8_event_28 : decode cX8_event 28 = .ok (.ireturn, 1) := by decide +kernel
theorem dX8_event_29 : decode cX8_event 29 = .ok (.iload_n 1, 1) := by decide +kernel
theorem dX8_event_30 : decode cX8_event 30 = .ok (.iconst 1, 1) := by decide +kernel
theorem dX8_event_31 : decode cX8_event 31 = .ok (.if_icmp .gt 12, 3) := by decide +kernel
theorem dX8_event_34 : decode cX8_event 34 = .ok (.iload_n 2, 1) := by decide +kernel
theorem dX8_event_35 : decode cX8_event 35 = .ok (.invokestatic 95, 3) := by decide +kernel
theorem dX8_event_38 : decode cX8_event 38 = .ok (.ifCond .ne 5, 3) := by decide +kernel
theorem dX8_event_41 : decode cX8_event 41 = .ok (.iconst (-1), 1) := by decide +kernel
theorem dX8_event_42 : decode cX8_event 42 = .ok (.ireturn, 1) := by decide +kernel
theorem dX8_event_43 : decode cX8_event 43 = .ok (.iload_n 1, 1) := by decide +kernel
theorem dX8_event_44 : decode cX8_event 44 = .ok (.iconst 2, 1) := by decide +kernel
theorem dX8_event_45 : decode cX8_event 45 = .ok (.if_icmp .ne 16, 3) := by decide +kernel
theorem dX8_event_48 : decode cX8_event 48 = .ok (.iload_n 2, 1) := by decide +kernel
theorem dX8_event_49 : decode cX8_event 49 = .ok (.ifCond .lt 9, 3) := by decide +kernel
theorem dX8_event_52 : decode cX8_event 52 = .ok (.iload_n 2, 1) := by decide +kernel
theorem dX8_event_53 : decode cX8_event 53 = .ok (.bipush 16, 2) := by decide +kernel
theorem dX8_event_55 : decode cX8_event 55 = .ok (.if_icmp .le 6, 3) := by decide +kernel
theorem dX8_event_58 : decode cX8_event 58 = .ok (.bipush (-2), 2) := by decide +kernel
theorem dX8_event_60 : decode cX8_event 60 = .ok (.ireturn, 1) := by decide +kernel
theorem dX8_event_61 : decode cX8_event 61 = .ok (.iload_n 1, 1) := by decide +kernel
theorem dX8_event_62 : decode cX8_event 62 = .ok (.iconst 3, 1) := by decide +kernel
theorem dX8_event_63 : decode cX8_event 63 = .ok (.if_icmp .ne 17, 3) := by decide +kernel
theorem dX8_event_66 : decode cX8_event 66 = .ok (.iload_n 2, 1) := by decide +kernel
theorem dX8_event_67 : decode cX8_event 67 = .ok (.iconst 1, 1) := by decide +kernel
theorem dX8_event_68 : decode cX8_event 68 = .ok (.if_icmp .lt 9, 3) := by decide +kernel
theorem dX8_event_71 : decode cX8_event 71 = .ok (.iload_n 2, 1) := by decide +kernel
theorem dX8_event_72 : decode cX8_event 72 = .ok (.bipush 12, 2) := by decide +kernel
theorem dX8_event_74 : decode cX8_event 74 = .ok (.if_icmp .le 6, 3) := by decide +kernel
theorem dX8_event_77 : decode cX8_event 77 = .ok (.bipush (-2), 2) := by decide +kernel
theorem dX8_event_79 : decode cX8_event 79 = .ok (.ireturn, 1) := by decide +kernel
theorem dX8_event_80 : decode cX8_event 80 = .ok (.aload_n 0, 1) := by decide +kernel
theorem dX8_event_81 : decode cX8_event 81 = .ok (.getfield 14, 3) := by decide +kernel
theorem dX8_event_84 : decode cX8_event 84 = .ok (.getfield 213, 3) := by decide +kernel
theorem dX8_event_87 : decode cX8_event 87 = .ok (.iload_n 1, 1) := by decide +kernel
theorem dX8_event_88 : decode cX8_event 88 = .ok (.iload_n 2, 1) := by decide +kernel
theorem dX8_event_89 : decode cX8_event 89 = .ok (.iconst 0, 1) := by decide +kernel
theorem dX8_event_90 : decode cX8_event 90 = .ok (.invokevirtual 195, 3) := by decide +kernel
theorem dX8_event_93 : decode cX8_event 93 = .ok (.ifCond .eq 16, 3) := by decide +kernel
theorem dX8_event_96 : decode cX8_event 96 = .ok (.aload_n 0, 1) := by decide +kernel
theorem dX8_event_97 : decode cX8_event 97 = .ok (.getfield 14, 3) := by decide +kernel
theorem dX8_event_100 : decode cX8_event 100 = .ok (.getfield 213, 3) := by decide +kernel
theorem dX8_event_103 : decode cX8_event 103 = .ok (.getfield 190, 3) := by decide +kernel
theorem dX8_event_106 : decode cX8_event 106 = .ok (.goto 5, 3) := by decide +kernel
theorem dX8_event_109 : decode cX8_event 109 = .ok (.bipush (-4), 2) := by decide +kernel
theorem dX8_event_111 : decode cX8_event 111 = .ok (.ireturn, 1) := by decide +kernel
set_option maxRecDepth 20000 in
theorem ggX8_after_X4_copyFrom : GoodIn wsX8_after wsX4_copyFrom := goodIn_r _ [8, 9, 10, 11, 12, 13, 14, 15, 16, 17, 18, 19, 20, 21, 22, 23, 24, 25, 26, 27, 28, 29, 30, 31, 32, 33, 34, 35, 36, 132, 133, 134, 135, 136, 137, 138, 139, 140, 141, 142, 143, 144, 145, 146] (by decide +kernel) (by decide +kernel)
set_option maxRecDepth 20000 in
theorem gX8_after_X4_copyFrom : GoodIn wsX8_after (wsV RX8 197 RX4 yX4_copyFrom wsX4_copyFrom) := goodIn_app (goodIn_of _ (by decide +kernel)) ggX8_after_X4_copyFrom
set_option maxRecDepth 20000 in
theorem ggX8_after_X4_happen : GoodIn wsX8_after wsX4_happen := goodIn_r _ [40, 22, 41, 42, 43, 19, 10, 44, 45, 46, 47, 13, 132, 133, 134, 135, 136, 137, 138, 139, 140, 141, 142, 143, 144, 145, 146] (by decide +kernel) (by decide +kernel)
set_option maxRecDepth 20000 in
theorem gX8_after_X4_happen : GoodIn wsX8_after (wsV RX8 216 RX4 yX4_happen wsX4_happen) := goodIn_app (goodIn_of _ (by decide +kernel)) ggX8_after_X4_happen
set_option maxRecDepth 20000 in
theorem ggX8_after_X7_ring : GoodIn wsX8_after wsX7_ring := goodIn_r _ [52, 53, 54, 55, 56, 57, 58, 51, 59, 60, 61, 62, 63, 64, 65, 66, 67, 68, 69, 70, 71, 72, 73, 74, 75, 76, 77, 7, 78, 11, 12, 79, 80, 81, 82, 83, 84, 85, 86, 87, 88, 132, 133, 134, 135, 136, 137, 138, 139, 140, 141, 142, 147, 148, 149, 150, 151, 152, 153, 154] (by decide +kernel) (by decide +kernel)
set_option maxRecDepth 20000 in
theorem gX8_after_X7_ring : GoodIn wsX8_after (wsV RX8 219 RX7 yX7_ring wsX7_ring) := goodIn_app (goodIn_of _ (by decide +kernel)) ggX8_after_X7_ring
set_option maxRecDepth 20000 in
theorem ggX8_after_X7_roundRow : GoodIn wsX8_after wsX7_roundRow := goodIn_r _ [92, 66, 93, 94, 95, 96, 51, 97, 67, 98, 65, 99, 100, 101, 102, 103, 104, 105, 106, 107, 108, 109, 110, 111, 112, 147, 148, 149, 150, 151, 152, 153, 154, 155] (by decide +kernel) (by decide +kernel)
set_option maxRecDepth 20000 in
theorem gX8_after_X7_roundRow : GoodIn wsX8_after (wsV RX8 137 RX7 yX7_roundRow wsX7_roundRow) := goodIn_app (goodIn_of _ (by decide +kernel)) ggX8_after_X7_roundRow
set_option maxRecDepth 20000 in
theorem ggX8_after_X7_falseRow : GoodIn wsX8_after wsX7_falseRow := goodIn_r _ [116, 66, 93, 94, 95, 96, 51, 97, 67, 98, 65, 99, 100, 101, 102, 103, 104, 105, 106, 107, 108, 109, 110, 111, 112, 147, 148, 149, 150, 151, 152, 153, 154, 155] (by decide +kernel) (by decide +kernel)
set_option maxRecDepth 20000 in
theorem gX8_after_X7_falseRow : GoodIn wsX8_after (wsV RX8 140 RX7 yX7_falseRow wsX7_falseRow) := goodIn_app (goodIn_of _ (by decide +kernel)) ggX8_after_X7_falseRow
set_option maxRecDepth 20000 in
theorem ggX8_after_X7_isTrue : GoodIn wsX8_after wsX7_isTrue := goodIn_r _ [120, 66, 65, 121, 114, 115, 51, 116, 93, 94, 95, 96, 97, 67, 98, 99, 100, 101, 102, 103, 104, 105, 106, 107, 108, 109, 110, 111, 112, 147, 148, 149, 150, 151, 152, 153, 154, 155] (by decide +kernel) (by decide +kernel)
set_option maxRecDepth 20000 in
theorem gX8_after_X7_isTrue : GoodIn wsX8_after (wsV RX8 143 RX7 yX7_isTrue wsX7_isTrue) := goodIn_app (goodIn_of _ (by decide +kernel)) ggX8_after_X7_isTrue
theorem dX8_after_0 : decode cX8_after 0 = .ok (.iload_n 1, 1) := by decide +kernel
theorem dX8_after_1 : decode cX8_after 1 = .ok (.ifCond .lt 8, 3) := by decide +kernel
theorem dX8_after_4 : decode cX8_after 4 = .ok (.iload_n 1, 1) := by decide +kernel
theorem dX8_after_5 : decode cX8_after 5 = .ok (.iconst 2, 1) := by decide +kernel
theorem dX8_after_6 : decode cX8_after 6 = .ok (.if_icmp .le 5, 3) := by decide +kernel
theorem dX8_after_9 : decode cX8_after 9 = .ok (.iconst (-1), 1) := by decide +kernel
theorem dX8_after_10 : decode cX8_after 10 = .ok (.ireturn, 1) := by decide +kernel
theorem dX8_after_11 : decode cX8_after 11 = .ok (.aload_n 0, 1) := by decide +kernel
theorem dX8_after_12 : decode cX8_after 12 = .ok (.getfield 21, 3) := by decide +kernel
theorem dX8_after_15 : decode cX8_after 15 = .ok (.aload_n 0, 1) := by decide +kernel
theorem dX8_after_16 : decode cX8_after 16 = .ok (.getfield 14, 3) := by decide +kernel
theorem dX8_after_19 : decode cX8_after 19 = .ok (.invokevirtual 197, 3) := by decide +kernel
theorem dX8_after_22 : decode cX8_after 22 = .ok (.aload_n 0, 1) := by decide +kernel
theorem dX8_after_23 : decode cX8_after 23 = .ok (.getfield 21, 3) := by decide +kernel
theorem dX8_after_26 : decode cX8_after 26 = .ok (.invokevirtual 216, 3) := by decide +kernel
theorem dX8_after_29 : decode cX8_after 29 = .ok (.aload_n 0, 1) := by decide +kernel
theorem dX8_after_30 : decode cX8_after 30 = .ok (.getfield 31, 3) := by decide +kernel
theorem dX8_after_33 : decode cX8_after 33 = .ok (.aload_n 0, 1) := by decide +kernel
theorem dX8_after_34 : decode cX8_after 34 = .ok (.getfield 21, 3) := by decide +kernel
theorem dX8_after_37 : decode cX8_after 37 = .ok (.invokevirtual 219, 3) := by decide +kernel
theorem dX8_after_40 : decode cX8_after 40 = .ok (.iload_n 1, 1) := by decide +kernel
theorem dX8_after_41 : decode cX8_after 41 = .ok (.lookupswitch 43 #[(0, 27), (1, 35)], 27) := by decide +kernel
theorem dX8_after_68 : decode cX8_after 68 = .ok (.aload_n 0, 1) := by decide +kernel
theorem dX8_after_69 : decode cX8_after 69 = .ok (.getfield 31, 3) := by decide +kernel
theorem dX8_after_72 : decode cX8_after 72 = .ok (.invokevirtual 137, 3) := by decide +kernel
theorem dX8_after_75 : decode cX8_after 75 = .ok (.ireturn, 1) := by decide +kernel
theorem dX8_after_76 : decode cX8_after 76 = .ok (.aload_n 0, 1) := by decide +kernel
theorem dX8_after_77 : decode cX8_after 77 = .ok (.getfield 31, 3) := by decide +kernel
theorem dX8_after_80 : decode cX8_after 80 = .ok (.invokevirtual 140, 3) := by decide +kernel
theorem dX8_after_83 : decode cX8_after 83 = .ok (.ireturn, 1) := by decide +kernel
theorem dX8_after_84 : decode cX8_after 84 = .ok (.aload_n 0, 1) := by decide +kernel
theorem dX8_after_85 : decode cX8_after 85 = .ok (.getfield 31, 3) := by decide +kernel
theorem dX8_after_88 : decode cX8_after 88 = .ok (.invokevirtual 143, 3) := by decide +kernel
theorem dX8_after_91 : decode cX8_after 91 = .ok (.ifCond .eq 7, 3) := by decide +kernel
theorem dX8_after_94 : decode cX8_after 94 = .ok (.iconst 1, 1) := by decide +kernel
theorem dX8_after_95 : decode cX8_after 95 = .ok (.goto 4, 3) := by decide +kernel
theorem dX8_after_98 : decode cX8_after 98 = .ok (.iconst 0, 1) := by decide +kernel
theorem dX8_after_99 : decode cX8_after 99 = .ok (.ireturn, 1) := by decide +kernel
set_option maxRecDepth 20000 in
theorem ggX8_book_X8_isBell : GoodIn wsX8_book wsX8_isBell := goodIn_r _ [8, 1, 9, 19, 20, 21, 22, 23, 24, 25, 26, 27, 28, 29, 30, 31, 32, 33, 34, 35, 36, 37, 38, 39] (by decide +kernel) (by decide +kernel)
set_option maxRecDepth 20000 in
theorem gX8_book_X8_isBell : GoodIn wsX8_book (wsV RX8 153 RX8 yX8_isBell wsX8_isBell) := goodIn_app (goodIn_of _ (by decide +kernel)) ggX8_book_X8_isBell
set_option maxRecDepth 20000 in
theorem ggX8_book_X1_append : GoodIn wsX8_book wsX1_append := goodIn_r _ [14, 15, 16, 17, 18, 40, 41, 42, 43] (by decide +kernel) (by decide +kernel)
set_option maxRecDepth 20000 in
theorem gX8_book_X1_append : GoodIn wsX8_book (wsV RX8 195 RX1 yX1_append wsX1_append) := goodIn_app (goodIn_of _ (by decide +kernel)) ggX8_book_X1_append
theorem dX8_book_0 : decode cX8_book 0 = .ok (.iload_n 1, 1) := by decide +kernel
theorem dX8_book_1 : decode cX8_book 1 = .ok (.iconst (-1), 1) := by decide +kernel
theorem dX8_book_2 : decode cX8_book 2 = .ok (.if_icmp .ne 16, 3) := by decide +kernel
theorem dX8_book_5 : decode cX8_book 5 = .ok (.aload_n 0, 1) := by decide +kernel
theorem dX8_book_6 : decode cX8_book 6 = .ok (.getfield 14, 3) := by decide +kernel
theorem dX8_book_9 : decode cX8_book 9 = .ok (.getfield 222, 3) := by decide +kernel
theorem dX8_book_12 : decode cX8_book 12 = .ok (.iconst 0, 1) := by decide +kernel
theorem dX8_book_13 : decode cX8_book 13 = .ok (.putfield 190, 3) := by decide +kernel
theorem dX8_book_16 : decode cX8_book 16 = .ok (.iconst 0, 1) := by decide +kernel
theorem dX8_book_17 : decode cX8_book 17 = .ok (.ireturn, 1) := by decide +kernel
theorem dX8_book_18 : decode cX8_book 18 = .ok (.iload_n 1, 1) := by decide +kernel
theorem dX8_book_19 : decode cX8_book 19 = .ok (.ifCond .lt 18, 3) := by decide +kernel
theorem dX8_book_22 : decode cX8_book 22 = .ok (.iload_n 1, 1) := by decide +kernel
theorem dX8_book_23 : decode cX8_book 23 = .ok (.sipush 192, 3) := by decide +kernel
theorem dX8_book_26 : decode cX8_book 26 = .ok (.if_icmp .gt 11, 3) := by decide +kernel
theorem dX8_book_29 : decode cX8_book 29 = .ok (.aload_n 0, 1) := by decide +kernel
theorem dX8_book_30 : decode cX8_book 30 = .ok (.iload_n 2, 1) := by decide +kernel
theorem dX8_book_31 : decode cX8_book 31 = .ok (.invokevirtual 153, 3) := by decide +kernel
theorem dX8_book_34 : decode cX8_book 34 = .ok (.ifCond .ne 5, 3) := by decide +kernel
theorem dX8_book_37 : decode cX8_book 37 = .ok (.iconst (-1), 1) := by decide +kernel
theorem dX8_book_38 : decode cX8_book 38 = .ok (.ireturn, 1) := by decide +kernel
theorem dX8_book_39 : decode cX8_book 39 = .ok (.aload_n 0, 1) := by decide +kernel
theorem dX8_book_40 : decode cX8_book 40 = .ok (.getfield 14, 3) := by decide +kernel
theorem dX8_book_43 : decode cX8_book 43 = .ok (.getfield 222, 3) := by decide +kernel
theorem dX8_book_46 : decode cX8_book 46 = .ok (.iload_n 1, 1) := by decide +kernel
theorem dX8_book_47 : decode cX8_book 47 = .ok (.iload_n 2, 1) := by decide +kernel
theorem dX8_book_48 : decode cX8_book 48 = .ok (.iconst 0, 1) := by decide +kernel
theorem dX8_book_49 : decode cX8_book 49 = .ok (.invokevirtual 195, 3) := by decide +kernel
theorem dX8_book_52 : decode cX8_book 52 = .ok (.ifCond .eq 16, 3) := by decide +kernel
theorem dX8_book_55 : decode cX8_book 55 = .ok (.aload_n 0, 1) := by decide +kernel
theorem dX8_book_56 : decode cX8_book 56 = .ok (.getfield 14, 3) := by decide +kernel
theorem dX8_book_59 : decode cX8_book 59 = .ok (.getfield 222, 3) := by decide +kernel
theorem dX8_book_62 : decode cX8_book 62 = .ok (.getfield 190, 3) := by decide +kernel
theorem dX8_book_65 : decode cX8_book 65 = .ok (.goto 5, 3) := by decide +kernel
theorem dX8_book_68 : decode cX8_book 68 = .ok (.bipush (-4), 2) := by decide +kernel
theorem dX8_book_70 : decode cX8_book 70 = .ok (.ireturn, 1) := by decide +kernel
set_option maxRecDepth 20000 in
theorem ggX8_looked_X8_isRow : GoodIn wsX8_looked wsX8_isRow := goodIn_r _ [11, 12, 13, 14, 15, 10, 16, 17, 18, 1, 19, 20, 21, 22, 23, 24, 25, 26, 27, 28, 29, 30, 31, 32, 33, 34, 35, 36, 37, 38, 39, 40, 41, 42, 43, 44, 45, 46, 47, 48, 49, 50, 51, 52, 53, 54, 55, 56, 57, 58, 59, 60, 61, 62, 91, 92, 93, 94, 95, 96, 97, 98, 66, 67, 68, 69, 70, 71, 72, 73, 74, 75, 76, 77, 78, 79, 80, 81, 82, 83, 84, 85, 86] (by decide +kernel) (by decide +kernel)
set_option maxRecDepth 20000 in
theorem gX8_looked_X8_isRow : GoodIn wsX8_looked (wsV RX8 150 RX8 yX8_isRow wsX8_isRow) := goodIn_app (goodIn_of _ (by decide +kernel)) ggX8_looked_X8_isRow
set_option maxRecDepth 20000 in
theorem ggX8_looked_X8_rung : GoodIn wsX8_looked wsX8_rung := goodIn_r _ [16, 17, 18, 1, 19, 20, 21, 22, 23, 24, 25, 26, 27, 28, 29, 30, 31, 32, 33, 34, 35, 36, 37, 38, 39, 40, 41, 42, 43, 44, 45, 46, 47, 48, 49, 50, 51, 52, 53, 54, 55, 56, 57, 58, 59, 60, 61, 62, 66, 67, 68, 69, 70, 71, 72, 73, 74, 75, 76, 77, 78, 79, 80, 81, 82, 83, 84, 85, 86, 91, 92, 93, 94, 95, 96, 97, 98] (by decide +kernel) (by decide +kernel)
set_option maxRecDepth 20000 in
theorem gX8_looked_X8_rung : GoodIn wsX8_looked (wsV RX8 130 RX8 yX8_rung wsX8_rung) := goodIn_app (goodIn_of _ (by decide +kernel)) ggX8_looked_X8_rung
set_option maxRecDepth 20000 in
theorem ggX8_looked_X2_bellIn : GoodIn wsX8_looked wsX2_bellIn := goodIn_r _ [65] (by decide +kernel) (by decide +kernel)
set_option maxRecDepth 20000 in
theorem gX8_looked_X2_bellIn : GoodIn wsX8_looked (va_wsS RX8 159 yX2_bellIn wsX2_bellIn) := goodIn_app (goodIn_of _ (by decide +kernel)) ggX8_looked_X2_bellIn
theorem dX8_looked_0 : decode cX8_looked 0 = .ok (.aload_n 0, 1) := by decide +kernel
theorem dX8_looked_1 : decode cX8_looked 1 = .ok (.getfield 14, 3) := by decide +kernel
theorem dX8_looked_4 : decode cX8_looked 4 = .ok (.getfield 222, 3) := by decide +kernel
theorem dX8_looked_7 : decode cX8_looked 7 = .ok (.astore_n 1, 1) := by decide +kernel
theorem dX8_looked_8 : decode cX8_looked 8 = .ok (.iconst 0, 1) := by decide +kernel
theorem dX8_looked_9 : decode cX8_looked 9 = .ok (.istore_n 2, 1) := by decide +kernel
theorem dX8_looked_10 : decode cX8_looked 10 = .ok (.iload_n 2, 1) := by decide +kernel
theorem dX8_looked_11 : decode cX8_looked 11 = .ok (.aload_n 1, 1) := by decide +kernel
theorem dX8_looked_12 : decode cX8_looked 12 = .ok (.getfield 190, 3) := by decide +kernel
theorem dX8_looked_15 : decode cX8_looked 15 = .ok (.if_icmp .ge 48, 3) := by decide +kernel
theorem dX8_looked_18 : decode cX8_looked 18 = .ok (.aload_n 1, 1) := by decide +kernel
theorem dX8_looked_19 : decode cX8_looked 19 = .ok (.getfield 225, 3) := by decide +kernel
theorem dX8_looked_22 : decode cX8_looked 22 = .ok (.iload_n 2, 1) := by decide +kernel
theorem dX8_looked_23 : decode cX8_looked 23 = .ok (.iaload, 1) := by decide +kernel
theorem dX8_looked_24 : decode cX8_looked 24 = .ok (.istore_n 3, 1) := by decide +kernel
theorem dX8_looked_25 : decode cX8_looked 25 = .ok (.aload_n 0, 1) := by decide +kernel
theorem dX8_looked_26 : decode cX8_looked 26 = .ok (.iload_n 3, 1) := by decide +kernel
theorem dX8_looked_27 : decode cX8_looked 27 = .ok (.invokevirtual 150, 3) := by decide +kernel
theorem dX8_looked_30 : decode cX8_looked 30 = .ok (.ifCond .eq 25, 3) := by decide +kernel
theorem dX8_looked_33 : decode cX8_looked 33 = .ok (.aload_n 0, 1) := by decide +kernel
theorem dX8_looked_34 : decode cX8_looked 34 = .ok (.invokevirtual 130, 3) := by decide +kernel
theorem dX8_looked_37 : decode cX8_looked 37 = .ok (.getfield 156, 3) := by decide +kernel
theorem dX8_looked_40 : decode cX8_looked 40 = .ok (.iload_n 3, 1) := by decide +kernel
theorem dX8_looked_41 : decode cX8_looked 41 = .ok (.iaload, 1) := by decide +kernel
theorem dX8_looked_42 : decode cX8_looked 42 = .ok (.iconst 1, 1) := by decide +kernel
theorem dX8_looked_43 : decode cX8_looked 43 = .ok (.invokestatic 159, 3) := by decide +kernel
theorem dX8_looked_46 : decode cX8_looked 46 = .ok (.aload_n 1, 1) := by decide +kernel
theorem dX8_looked_47 : decode cX8_looked 47 = .ok (.getfield 228, 3) := by decide +kernel
theorem dX8_looked_50 : decode cX8_looked 50 = .ok (.iload_n 2, 1) := by decide +kernel
theorem dX8_looked_51 : decode cX8_looked 51 = .ok (.iaload, 1) := by decide +kernel
theorem dX8_looked_52 : decode cX8_looked 52 = .ok (.if_icmp .eq 5, 3) := by decide +kernel
theorem dX8_looked_55 : decode cX8_looked 55 = .ok (.iload_n 2, 1) := by decide +kernel
theorem dX8_looked_56 : decode cX8_looked 56 = .ok (.ireturn, 1) := by decide +kernel
theorem dX8_looked_57 : decode cX8_looked 57 = .ok (.iinc 2 1, 3) := by decide +kernel
theorem dX8_looked_60 : decode cX8_looked 60 = .ok (.goto (-50), 3) := by decide +kernel
theorem dX8_looked_63 : decode cX8_looked 63 = .ok (.bipush (-5), 2) := by decide +kernel
