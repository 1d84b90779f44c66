theorem dX7_leastHungry_28 : decode cX7_leastHungry 28 = .ok (.bipush (-6), 2) := by decide +kernel
theorem dX7_leastHungry_30 : decode cX7_leastHungry 30 = .ok (.ireturn, 1) := by decide +kernel
set_option maxRecDepth 20000 in
theorem ggX7_tell_X3_isYears : GoodIn wsX7_tell wsX3_isYears := goodIn_r _ [10, 11, 12, 13, 9, 14, 15, 90, 91] rfl (by decide +kernel)
set_option maxRecDepth 20000 in
theorem gX7_tell_X3_isYears : GoodIn wsX7_tell (wsV RX7 94 RX3 yX3_isYears wsX3_isYears) := goodIn_app (goodIn_r _ [6, 7, 8, 9] rfl (by decide +kernel)) ggX7_tell_X3_isYears
set_option maxRecDepth 20000 in
theorem ggX7_tell_X3_signAt : GoodIn wsX7_tell wsX3_signAt := goodIn_r _ [14, 15, 90, 91] rfl (by decide +kernel)
set_option maxRecDepth 20000 in
theorem gX7_tell_X3_signAt : GoodIn wsX7_tell (wsV RX7 98 RX3 yX3_signAt wsX3_signAt) := goodIn_app (goodIn_r _ [16, 12, 13, 9] rfl (by decide +kernel)) ggX7_tell_X3_signAt
set_option maxRecDepth 20000 in
theorem ggX7_tell_X7_passYears : GoodIn wsX7_tell wsX7_passYears := goodIn_r _ [21, 22, 23, 24, 20, 25, 26, 27, 28, 3, 29, 30, 31, 32, 33, 34, 35, 36, 37, 38, 39, 40, 41, 42, 43, 44, 45, 46, 47, 48, 49, 50, 51, 52, 53, 54, 55, 56, 57, 58, 59, 60, 61, 62, 63, 64, 65, 66, 67, 68, 69, 70, 71, 72, 73, 74, 75, 76, 77, 92, 93, 94, 95, 96, 97, 98, 99, 100, 101, 102, 103, 104, 105, 106, 107, 108, 109] rfl (by decide +kernel)
set_option maxRecDepth 20000 in
theorem gX7_tell_X7_passYears : GoodIn wsX7_tell (wsV RX7 102 RX7 yX7_passYears wsX7_passYears) := goodIn_app (goodIn_r _ [17, 18, 19, 20] rfl (by decide +kernel)) ggX7_tell_X7_passYears
set_option maxRecDepth 20000 in
theorem ggX7_tell_X3_landAt : GoodIn wsX7_tell wsX3_landAt := goodIn_r _ [81, 11, 12, 13, 9, 14, 15, 90, 91] rfl (by decide +kernel)
set_option maxRecDepth 20000 in
theorem gX7_tell_X3_landAt : GoodIn wsX7_tell (wsV RX7 106 RX3 yX3_landAt wsX3_landAt) := goodIn_app (goodIn_r _ [78, 79, 80, 9] rfl (by decide +kernel)) ggX7_tell_X3_landAt
set_option maxRecDepth 20000 in
theorem ggX7_tell_X3_digitAt : GoodIn wsX7_tell wsX3_digitAt := goodIn_r _ [85, 11, 12, 13, 9, 14, 15, 90, 91] rfl (by decide +kernel)
set_option maxRecDepth 20000 in
theorem gX7_tell_X3_digitAt : GoodIn wsX7_tell (wsV RX7 109 RX3 yX3_digitAt wsX3_digitAt) := goodIn_app (goodIn_r _ [82, 83, 84, 9] rfl (by decide +kernel)) ggX7_tell_X3_digitAt
set_option maxRecDepth 20000 in
theorem ggX7_tell_X6_lend : GoodIn wsX7_tell wsX6_lend := goodIn_r _ [89, 64, 65, 66, 55, 67, 68, 69, 70, 71, 72, 109] rfl (by decide +kernel)
set_option maxRecDepth 20000 in
theorem gX7_tell_X6_lend : GoodIn wsX7_tell (wsV RX7 112 RX6 yX6_lend wsX6_lend) := goodIn_app (goodIn_r _ [86, 87, 88, 55] rfl (by decide +kernel)) ggX7_tell_X6_lend
theorem dX7_tell_0 : decode cX7_tell 0 = .ok (.iconst 0, 1) := by decide +kernel
theorem dX7_tell_1 : decode cX7_tell 1 = .ok (.istore_n 2, 1) := by decide +kernel
theorem dX7_tell_2 : decode cX7_tell 2 = .ok (.iload_n 2, 1) := by decide +kernel
theorem dX7_tell_3 : decode cX7_tell 3 = .ok (.aload_n 1, 1) := by decide +kernel
theorem dX7_tell_4 : decode cX7_tell 4 = .ok (.getfield 89, 3) := by decide +kernel
theorem dX7_tell_7 : decode cX7_tell 7 = .ok (.if_icmp .ge 106, 3) := by decide +kernel
theorem dX7_tell_10 : decode cX7_tell 10 = .ok (.aload_n 0, 1) := by decide +kernel
theorem dX7_tell_11 : decode cX7_tell 11 = .ok (.getfield 58, 3) := by decide +kernel
theorem dX7_tell_14 : decode cX7_tell 14 = .ok (.bipush (-6), 2) := by decide +kernel
theorem dX7_tell_16 : decode cX7_tell 16 = .ok (.if_icmp .ne 97, 3) := by decide +kernel
theorem dX7_tell_19 : decode cX7_tell 19 = .ok (.aload_n 1, 1) := by decide +kernel
theorem dX7_tell_20 : decode cX7_tell 20 = .ok (.iload_n 2, 1) := by decide +kernel
theorem dX7_tell_21 : decode cX7_tell 21 = .ok (.invokevirtual 94, 3) := by decide +kernel
theorem dX7_tell_24 : decode cX7_tell 24 = .ok (.ifCond .eq 29, 3) := by decide +kernel
theorem dX7_tell_27 : decode cX7_tell 27 = .ok (.aload_n 0, 1) := by decide +kernel
theorem dX7_tell_28 : decode cX7_tell 28 = .ok (.aload_n 1, 1) := by decide +kernel
theorem dX7_tell_29 : decode cX7_tell 29 = .ok (.iload_n 2, 1) := by decide +kernel
theorem dX7_tell_30 : decode cX7_tell 30 = .ok (.invokevirtual 98, 3) := by decide +kernel
theorem dX7_tell_33 : decode cX7_tell 33 = .ok (.bipush 46, 2) := by decide +kernel
theorem dX7_tell_35 : decode cX7_tell 35 = .ok (.if_icmp .ne 7, 3) := by decide +kernel
theorem dX7_tell_38 : decode cX7_tell 38 = .ok (.iconst 1, 1) := by decide +kernel
theorem dX7_tell_39 : decode cX7_tell 39 = .ok (.goto 5, 3) := by decide +kernel
theorem dX7_tell_42 : decode cX7_tell 42 = .ok (.bipush 10, 2) := by decide +kernel
theorem dX7_tell_44 : decode cX7_tell 44 = .ok (.invokevirtual 102, 3) := by decide +kernel
theorem dX7_tell_47 : decode cX7_tell 47 = .ok (.iinc 2 1, 3) := by decide +kernel
theorem dX7_tell_50 : decode cX7_tell 50 = .ok (.goto 50, 3) := by decide +kernel
theorem dX7_tell_53 : decode cX7_tell 53 = .ok (.aload_n 0, 1) := by decide +kernel
theorem dX7_tell_54 : decode cX7_tell 54 = .ok (.getfield 21, 3) := by decide +kernel
theorem dX7_tell_57 : decode cX7_tell 57 = .ok (.aload_n 1, 1) := by decide +kernel
theorem dX7_tell_58 : decode cX7_tell 58 = .ok (.iload_n 2, 1) := by decide +kernel
theorem dX7_tell_59 : decode cX7_tell 59 = .ok (.invokevirtual 106, 3) := by decide +kernel
theorem dX7_tell_62 : decode cX7_tell 62 = .ok (.aload_n 1, 1) := by decide +kernel
theorem dX7_tell_63 : decode cX7_tell 63 = .ok (.iload_n 2, 1) := by decide +kernel
theorem dX7_tell_64 : decode cX7_tell 64 = .ok (.iconst 1, 1) := by decide +kernel
theorem dX7_tell_65 : decode cX7_tell 65 = .ok (.iadd, 1) := by decide +kernel
theorem dX7_tell_66 : decode cX7_tell 66 = .ok (.invokevirtual 106, 3) := by decide +kernel
theorem dX7_tell_69 : decode cX7_tell 69 = .ok (.aload_n 1, 1) := by decide +kernel
theorem dX7_tell_70 : decode cX7_tell 70 = .ok (.iload_n 2, 1) := by decide +kernel
theorem dX7_tell_71 : decode cX7_tell 71 = .ok (.iconst 2, 1) := by decide +kernel
theorem dX7_tell_72 : decode cX7_tell 72 = .ok (.iadd, 1) := by decide +kernel
theorem dX7_tell_73 : decode cX7_tell 73 = .ok (.invokevirtual 109, 3) := by decide +kernel
theorem dX7_tell_76 : decode cX7_tell 76 = .ok (.invokevirtual 112, 3) := by decide +kernel
theorem dX7_tell_79 : decode cX7_tell 79 = .ok (.istore_n 3, 1) := by decide +kernel
theorem dX7_tell_80 : decode cX7_tell 80 = .ok (.iload_n 3, 1) := by decide +kernel
theorem dX7_tell_81 : decode cX7_tell 81 = .ok (.ifCond .eq 16, 3) := by decide +kernel
theorem dX7_tell_84 : decode cX7_tell 84 = .ok (.aload_n 0, 1) := by decide +kernel
theorem dX7_tell_85 : decode cX7_tell 85 = .ok (.aload_n 0, 1) := by decide +kernel
theorem dX7_tell_86 : decode cX7_tell 86 = .ok (.getfield 55, 3) := by decide +kernel
theorem dX7_tell_89 : decode cX7_tell 89 = .ok (.putfield 58, 3) := by decide +kernel
theorem dX7_tell_92 : decode cX7_tell 92 = .ok (.aload_n 0, 1) := by decide +kernel
theorem dX7_tell_93 : decode cX7_tell 93 = .ok (.iload_n 3, 1) := by decide +kernel
theorem dX7_tell_94 : decode cX7_tell 94 = .ok (.putfield 61, 3) := by decide +kernel
theorem dX7_tell_97 : decode cX7_tell 97 = .ok (.iinc 2 3, 3) := by decide +kernel
theorem dX7_tell_100 : decode cX7_tell 100 = .ok (.aload_n 0, 1) := by decide +kernel
theorem dX7_tell_101 : decode cX7_tell 101 = .ok (.dup, 1) := by decide +kernel
theorem dX7_tell_102 : decode cX7_tell 102 = .ok (.getfield 55, 3) := by decide +kernel
theorem dX7_tell_105 : decode cX7_tell 105 = .ok (.iconst 1, 1) := by decide +kernel
theorem dX7_tell_106 : decode cX7_tell 106 = .ok (.iadd, 1) := by decide +kernel
theorem dX7_tell_107 : decode cX7_tell 107 = .ok (.putfield 55, 3) := by decide +kernel
theorem dX7_tell_110 : decode cX7_tell 110 = .ok (.goto (-108), 3) := by decide +kernel
theorem dX7_tell_113 : decode cX7_tell 113 = .ok (.return_, 1) := by decide +kernel
set_option maxRecDepth 20000 in
theorem ggX7_drawYears_X10_leftOver : GoodIn wsX7_drawYears wsX10_leftOver := goodIn_r _ [8] rfl (by decide +kernel)
set_option maxRecDepth 20000 in
theorem gX7_drawYears_X10_leftOver_n117 : GoodIn wsX7_drawYears (wsX10_leftOver) := ggX7_drawYears_X10_leftOver
set_option maxRecDepth 20000 in
theorem ggX7_drawYears_X6_lend : GoodIn wsX7_drawYears wsX6_lend := goodIn_r _ [13, 14, 15, 16, 12, 17, 18, 19, 20, 21, 22, 84] rfl (by decide +kernel)
set_option maxRecDepth 20000 in
theorem gX7_drawYears_X6_lend : GoodIn wsX7_drawYears (wsV RX7 112 RX6 yX6_lend wsX6_lend) := goodIn_app (goodIn_r _ [9, 10, 11, 12] rfl (by decide +kernel)) ggX7_drawYears_X6_lend
set_option maxRecDepth 20000 in
theorem ggX7_drawYears_X7_passYear : GoodIn wsX7_drawYears wsX7_passYear := goodIn_r _ [27, 1, 28, 2, 4, 29, 30, 31, 32, 33, 34, 35, 36, 37, 38, 39, 40, 41, 42, 43, 44, 45, 46, 47, 48, 49, 50, 51, 52, 53, 54, 12, 55, 56, 57, 58, 59, 60, 61, 62, 14, 15, 16, 17, 18, 19, 20, 21, 22, 63, 7, 64, 65, 66, 67, 68, 69, 70, 71, 72, 73, 74, 75, 76, 77, 78, 79, 80, 81, 82, 83, 84] rfl (by decide +kernel)
set_option maxRecDepth 20000 in
theorem gX7_drawYears_X7_passYear : GoodIn wsX7_drawYears (wsV RX7 86 RX7 yX7_passYear wsX7_passYear) := goodIn_app (goodIn_r _ [23, 24, 25, 26] rfl (by decide +kernel)) ggX7_drawYears_X7_passYear
theorem dX7_drawYears_0 : decode cX7_drawYears 0 = .ok (.iload_n 1, 1) := by decide +kernel
theorem dX7_drawYears_1 : decode cX7_drawYears 1 = .ok (.istore_n 3, 1) := by decide +kernel
theorem dX7_drawYears_2 : decode cX7_drawYears 2 = .ok (.aload_n 0, 1) := by decide +kernel
theorem dX7_drawYears_3 : decode cX7_drawYears 3 = .ok (.getfield 12, 3) := by decide +kernel
theorem dX7_drawYears_6 : decode cX7_drawYears 6 = .ok (.getfield 71, 3) := by decide +kernel
theorem dX7_drawYears_9 : decode cX7_drawYears 9 = .ok (.istore 4, 2) := by decide +kernel
theorem dX7_drawYears_11 : decode cX7_drawYears 11 = .ok (.iconst 0, 1) := by decide +kernel
theorem dX7_drawYears_12 : decode cX7_drawYears 12 = .ok (.istore 5, 2) := by decide +kernel
theorem dX7_drawYears_14 : decode cX7_drawYears 14 = .ok (.iload 5, 2) := by decide +kernel
theorem dX7_drawYears_16 : decode cX7_drawYears 16 = .ok (.iload_n 2, 1) := by decide +kernel
theorem dX7_drawYears_17 : decode cX7_drawYears 17 = .ok (.if_icmp .ge 67, 3) := by decide +kernel
theorem dX7_drawYears_20 : decode cX7_drawYears 20 = .ok (.bipush 75, 2) := by decide +kernel
theorem dX7_drawYears_22 : decode cX7_drawYears 22 = .ok (.iload_n 3, 1) := by decide +kernel
theorem dX7_drawYears_23 : decode cX7_drawYears 23 = .ok (.imul, 1) := by decide +kernel
theorem dX7_drawYears_24 : decode cX7_drawYears 24 = .ok (.bipush 74, 2) := by decide +kernel
theorem dX7_drawYears_26 : decode cX7_drawYears 26 = .ok (.iadd, 1) := by decide +kernel
theorem dX7_drawYears_27 : decode cX7_drawYears 27 = .ok (.ldc 116, 2) := by decide +kernel
theorem dX7_drawYears_29 : decode cX7_drawYears 29 = .ok (.irem, 1) := by decide +kernel
theorem dX7_drawYears_30 : decode cX7_drawYears 30 = .ok (.istore_n 3, 1) := by decide +kernel
theorem dX7_drawYears_31 : decode cX7_drawYears 31 = .ok (.aload_n 0, 1) := by decide +kernel
theorem dX7_drawYears_32 : decode cX7_drawYears 32 = .ok (.getfield 21, 3) := by decide +kernel
theorem dX7_drawYears_35 : decode cX7_drawYears 35 = .ok (.iload_n 3, 1) := by decide +kernel
theorem dX7_drawYears_36 : decode cX7_drawYears 36 = .ok (.iload 4, 2) := by decide +kernel
theorem dX7_drawYears_38 : decode cX7_drawYears 38 = .ok (.invokestatic 117, 3) := by decide +kernel
theorem dX7_drawYears_41 : decode cX7_drawYears 41 = .ok (.iload_n 3, 1) := by decide +kernel
theorem dX7_drawYears_42 : decode cX7_drawYears 42 = .ok (.bipush 9, 2) := by decide +kernel
theorem dX7_drawYears_44 : decode cX7_drawYears 44 = .ok (.idiv, 1) := by decide +kernel
theorem dX7_drawYears_45 : decode cX7_drawYears 45 = .ok (.iload 4, 2) := by decide +kernel
theorem dX7_drawYears_47 : decode cX7_drawYears 47 = .ok (.invokestatic 117, 3) := by decide +kernel
theorem dX7_drawYears_50 : decode cX7_drawYears 50 = .ok (.iconst 1, 1) := by decide +kernel
theorem dX7_drawYears_51 : decode cX7_drawYears 51 = .ok (.iload_n 3, 1) := by decide +kernel
theorem dX7_drawYears_52 : decode cX7_drawYears 52 = .ok (.bipush 81, 2) := by decide +kernel
theorem dX7_drawYears_54 : decode cX7_drawYears 54 = .ok (.idiv, 1) := by decide +kernel
theorem dX7_drawYears_55 : decode cX7_drawYears 55 = .ok (.iconst 5, 1) := by decide +kernel
theorem dX7_drawYears_56 : decode cX7_drawYears 56 = .ok (.irem, 1) := by decide +kernel
theorem dX7_drawYears_57 : decode cX7_drawYears 57 = .ok (.iadd, 1) := by decide +kernel
theorem dX7_drawYears_58 : decode cX7_drawYears 58 = .ok (.invokevirtual 112, 3) := by decide +kernel
theorem dX7_drawYears_61 : decode cX7_drawYears 61 = .ok (.ifCond .ne 13, 3) := by decide +kernel
theorem dX7_drawYears_64 : decode cX7_drawYears 64 = .ok (.aload_n 0, 1) := by decide +kernel
theorem dX7_drawYears_65 : decode cX7_drawYears 65 = .ok (.dup, 1) := by decide +kernel
theorem dX7_drawYears_66 : decode cX7_drawYears 66 = .ok (.getfield 64, 3) := by decide +kernel
theorem dX7_drawYears_69 : decode cX7_drawYears 69 = .ok (.iconst 1, 1) := by decide +kernel
theorem dX7_drawYears_70 : decode cX7_drawYears 70 = .ok (.iadd, 1) := by decide +kernel
theorem dX7_drawYears_71 : decode cX7_drawYears 71 = .ok (.putfield 64, 3) := by decide +kernel
theorem dX7_drawYears_74 : decode cX7_drawYears 74 = .ok (.aload_n 0, 1) := by decide +kernel
theorem dX7_drawYears_75 : decode cX7_drawYears 75 = .ok (.invokevirtual 86, 3) := by decide +kernel
theorem dX7_drawYears_78 : decode cX7_drawYears 78 = .ok (.iinc 5 1, 3) := by decide +kernel
theorem dX7_drawYears_81 : decode cX7_drawYears 81 = .ok (.goto (-67), 3) := by decide +kernel
theorem dX7_drawYears_84 : decode cX7_drawYears 84 = .ok (.return_, 1) := by decide +kernel
theorem dX8_init_0 : decode cX8_init 0 = .ok (.aload_n 0, 1) := by decide +kernel
theorem dX8_init_1 : decode cX8_init 1 = .ok (.invokespecial 3, 3) := by decide +kernel
theorem dX8_init_4 : decode cX8_init 4 = .ok (.aload_n 0, 1) := by decide +kernel
theorem dX8_init_5 : decode cX8_init 5 = .ok (.bipush 9, 2) := by decide +kernel
theorem dX8_init_7 : decode cX8_init 7 = .ok (.newarray .long, 2) := by decide +kernel
theorem dX8_init_9 : decode cX8_init 9 = .ok (.putfield 9, 3) := by decide +kernel
theorem dX8_init_12 : decode cX8_init 12 = .ok (.aload_n 0, 1) := by decide +kernel
theorem dX8_init_13 : decode cX8_init 13 = .ok (.bipush 9, 2) := by decide +kernel
theorem dX8_init_15 : decode cX8_init 15 = .ok (.newarray .long, 2) := by decide +kernel
theorem dX8_init_17 : decode cX8_init 17 = .ok (.putfield 15, 3) := by decide +kernel
theorem dX8_init_20 : decode cX8_init 20 = .ok (.return_, 1) := by decide +kernel
set_option maxRecDepth 20000 in
theorem ggX8_countWays_X10_clear_ : GoodIn wsX8_countWays wsX10_clear_ := goodIn_r _ [5] rfl (by decide +kernel)
set_option maxRecDepth 20000 in
theorem gX8_countWays_X10_clear__n18 : GoodIn wsX8_countWays (wsX10_clear_) := ggX8_countWays_X10_clear_
set_option maxRecDepth 20000 in
theorem ggX8_countWays_X4_isDark : GoodIn wsX8_countWays wsX4_isDark := goodIn_r _ [10, 11, 12, 13, 9, 14, 15, 16, 17, 18, 19, 20, 21, 22, 23, 24, 25, 26, 27, 28, 29, 44, 45, 46, 47, 48, 49, 50] rfl (by decide +kernel)
set_option maxRecDepth 20000 in
theorem gX8_countWays_X4_isDark : GoodIn wsX8_countWays (wsV RX8 22 RX4 yX4_isDark wsX4_isDark) := goodIn_app (goodIn_r _ [6, 7, 8, 9] rfl (by decide +kernel)) ggX8_countWays_X4_isDark
set_option maxRecDepth 20000 in
theorem ggX8_countWays_X10_add : GoodIn wsX8_countWays wsX10_add := goodIn_r _ [31] rfl (by decide +kernel)
set_option maxRecDepth 20000 in
theorem gX8_countWays_X10_add_n28 : GoodIn wsX8_countWays (wsX10_add) := ggX8_countWays_X10_add
set_option maxRecDepth 20000 in
theorem ggX8_countWays_X4_darkAt : GoodIn wsX8_countWays wsX4_darkAt := goodIn_r _ [35, 15, 16, 17, 18, 9, 19, 20, 21, 22, 23, 24, 25, 26, 27, 28, 29, 44, 45, 46, 47, 48, 49, 50] rfl (by decide +kernel)
set_option maxRecDepth 20000 in
theorem gX8_countWays_X4_darkAt : GoodIn wsX8_countWays (wsV RX8 32 RX4 yX4_darkAt wsX4_darkAt) := goodIn_app (goodIn_r _ [32, 33, 34, 9] rfl (by decide +kernel)) ggX8_countWays_X4_darkAt
set_option maxRecDepth 20000 in
theorem ggX8_countWays_X8_step : GoodIn wsX8_countWays wsX8_step := goodIn_r _ [39, 3, 4, 5, 40, 41, 30, 31] rfl (by decide +kernel)
set_option maxRecDepth 20000 in
theorem gX8_countWays_X8_step : GoodIn wsX8_countWays (va_wsS RX8 36 yX8_step wsX8_step) := goodIn_app (goodIn_r _ [36, 37, 38] rfl (by decide +kernel)) ggX8_countWays_X8_step
set_option maxRecDepth 20000 in
theorem ggX8_countWays_X10_at_ : GoodIn wsX8_countWays wsX10_at_ := goodIn_r _ [41] rfl (by decide +kernel)
set_option maxRecDepth 20000 in
theorem gX8_countWays_X10_at__n40 : GoodIn wsX8_countWays (wsX10_at_) := ggX8_countWays_X10_at_
theorem dX8_countWays_0 : decode cX8_countWays 0 = .ok (.aload_n 0, 1) := by decide +kernel
theorem dX8_countWays_1 : decode cX8_countWays 1 = .ok (.getfield 9, 3) := by decide +kernel
theorem dX8_countWays_4 : decode cX8_countWays 4 = .ok (.astore 6, 2) := by decide +kernel
theorem dX8_countWays_6 : decode cX8_countWays 6 = .ok (.aload_n 0, 1) := by decide +kernel
theorem dX8_countWays_7 : decode cX8_countWays 7 = .ok (.getfield 15, 3) := by decide +kernel
theorem dX8_countWays_10 : decode cX8_countWays 10 = .ok (.astore 7, 2) := by decide +kernel
theorem dX8_countWays_12 : decode cX8_countWays 12 = .ok (.aload 6, 2) := by decide +kernel
theorem dX8_countWays_14 : decode cX8_countWays 14 = .ok (.invokestatic 18, 3) := by decide +kernel
theorem dX8_countWays_17 : decode cX8_countWays 17 = .ok (.aload 6, 2) := by decide +kernel
theorem dX8_countWays_19 : decode cX8_countWays 19 = .ok (.iload_n 2, 1) := by decide +kernel
theorem dX8_countWays_20 : decode cX8_countWays 20 = .ok (.aload_n 1, 1) := by decide +kernel
theorem dX8_countWays_21 : decode cX8_countWays 21 = .ok (.iload_n 2, 1) := by decide +kernel
theorem dX8_countWays_22 : decode cX8_countWays 22 = .ok (.iload 4, 2) := by decide +kernel
theorem dX8_countWays_24 : decode cX8_countWays 24 = .ok (.invokevirtual 22, 3) := by decide +kernel
theorem dX8_countWays_27 : decode cX8_countWays 27 = .ok (.ifCond .eq 7, 3) := by decide +kernel
theorem dX8_countWays_30 : decode cX8_countWays 30 = .ok (.lconst 1, 1) := by decide +kernel
theorem dX8_countWays_31 : decode cX8_countWays 31 = .ok (.goto 4, 3) := by decide +kernel
theorem dX8_countWays_34 : decode cX8_countWays 34 = .ok (.lconst 0, 1) := by decide +kernel
theorem dX8_countWays_35 : decode cX8_countWays 35 = .ok (.invokestatic 28, 3) := by decide +kernel
theorem dX8_countWays_38 : decode cX8_countWays 38 = .ok (.iconst 1, 1) := by decide +kernel
theorem dX8_countWays_39 : decode cX8_countWays 39 = .ok (.istore 8, 2) := by decide +kernel
theorem dX8_countWays_41 : decode cX8_countWays 41 = .ok (.iload 8, 2) := by decide +kernel
theorem dX8_countWays_43 : decode cX8_countWays 43 = .ok (.iload 5, 2) := by decide +kernel
theorem dX8_countWays_45 : decode cX8_countWays 45 = .ok (.if_icmp .gt 37, 3) := by decide +kernel
theorem dX8_countWays_48 : decode cX8_countWays 48 = .ok (.aload 6, 2) := by decide +kernel
theorem dX8_countWays_50 : decode cX8_countWays 50 = .ok (.aload 7, 2) := by decide +kernel
theorem dX8_countWays_52 : decode cX8_countWays 52 = .ok (.aload_n 1, 1) := by decide +kernel
theorem dX8_countWays_53 : decode cX8_countWays 53 = .ok (.iload 4, 2) := by decide +kernel
theorem dX8_countWays_55 : decode cX8_countWays 55 = .ok (.iload 8, 2) := by decide +kernel
theorem dX8_countWays_57 : decode cX8_countWays 57 = .ok (.iadd, 1) := by decide +kernel
theorem dX8_countWays_58 : decode cX8_countWays 58 = .ok (.invokevirtual 32, 3) := by decide +kernel
theorem dX8_countWays_61 : decode cX8_countWays 61 = .ok (.invokestatic 36, 3) := by decide +kernel
theorem dX8_countWays_64 : decode cX8_countWays 64 = .ok (.aload 6, 2) := by decide +kernel
theorem dX8_countWays_66 : decode cX8_countWays 66 = .ok (.astore 9, 2) := by decide +kernel
theorem dX8_countWays_68 : decode cX8_countWays 68 = .ok (.aload 7, 2) := by decide +kernel
theorem dX8_countWays_70 : decode cX8_countWays 70 = .ok (.astore 6, 2) := by decide +kernel
theorem dX8_countWays_72 : decode cX8_countWays 72 = .ok (.aload 9, 2) := by decide +kernel
theorem dX8_countWays_74 : decode cX8_countWays 74 = .ok (.astore 7, 2) := by decide +kernel
theorem dX8_countWays_76 : decode cX8_countWays 76 = .ok (.iinc 8 1, 3) := by decide +kernel
theorem dX8_countWays_79 : decode cX8_countWays 79 = .ok (.goto (-38), 3) := by decide +kernel
theorem dX8_countWays_82 : decode cX8_countWays 82 = .ok (.aload 6, 2) := by decide +kernel
theorem dX8_countWays_84 : decode cX8_countWays 84 = .ok (.iload_n 3, 1) := by decide +kernel
theorem dX8_countWays_85 : decode cX8_countWays 85 = .ok (.invokestatic 40, 3) := by decide +kernel
theorem dX8_countWays_88 : decode cX8_countWays 88 = .ok (.lreturn, 1) := by decide +kernel
set_option maxRecDepth 20000 in
theorem ggX8_step_X10_clear_ : GoodIn wsX8_step wsX10_clear_ := goodIn_r _ [3] rfl (by decide +kernel)
set_option maxRecDepth 20000 in
theorem gX8_step_X10_clear__n18 : GoodIn wsX8_step (wsX10_clear_) := ggX8_step_X10_clear_
set_option maxRecDepth 20000 in
theorem ggX8_step_X10_at_ : GoodIn wsX8_step wsX10_at_ := goodIn_r _ [5] rfl (by decide +kernel)
set_option maxRecDepth 20000 in
theorem gX8_step_X10_at__n40 : GoodIn wsX8_step (wsX10_at_) := ggX8_step_X10_at_
set_option maxRecDepth 20000 in
theorem ggX8_step_X10_add : GoodIn wsX8_step wsX10_add := goodIn_r _ [7] rfl (by decide +kernel)
set_option maxRecDepth 20000 in
theorem gX8_step_X10_add_n28 : GoodIn wsX8_step (wsX10_add) := ggX8_step_X10_add
theorem dX8_step_0 : decode cX8_step 0 = .ok (.aload_n 1, 1) := by decide +kernel
theorem dX8_step_1 : decode cX8_step 1 = .ok (.invokestatic 18, 3) := by decide +kernel
theorem dX8_step_4 : decode cX8_step 4 = .ok (.iconst 0, 1) := by decide +kernel
theorem dX8_step_5 : decode cX8_step 5 = .ok (.istore_n 3, 1) := by decide +kernel
theorem dX8_step_6 : decode cX8_step 6 = .ok (.iload_n 3, 1) := by decide +kernel
theorem dX8_step_7 : decode cX8_step 7 = .ok (.bipush 9, 2) := by decide +kernel
theorem dX8_step_9 : decode cX8_step 9 = .ok (.if_icmp .ge 44, 3) := by decide +kernel
theorem dX8_step_12 : decode cX8_step 12 = .ok (.iload_n 2, 1) := by decide +kernel
theorem dX8_step_13 : decode cX8_step 13 = .ok (.iload_n 3, 1) := by decide +kernel
theorem dX8_step_14 : decode cX8_step 14 = .ok (.ishr, 1) := by decide +kernel
theorem dX8_step_15 : decode cX8_step 15 = .ok (.iconst 1, 1) := by decide +kernel
theorem dX8_step_16 : decode cX8_step 16 = .ok (.iand, 1) := by decide +kernel
theorem dX8_step_17 : decode cX8_step 17 = .ok (.iconst 1, 1) := by decide +kernel
theorem dX8_step_18 : decode cX8_step 18 = .ok (.if_icmp .ne 29, 3) := by decide +kernel
theorem dX8_step_21 : decode cX8_step 21 = .ok (.aload_n 1, 1) := by decide +kernel
theorem dX8_step_22 : decode cX8_step 22 = .ok (.iload_n 3, 1) := by decide +kernel
theorem dX8_step_23 : decode cX8_step 23 = .ok (.aload_n 0, 1) := by decide +kernel
theorem dX8_step_24 : decode cX8_step 24 = .ok (.iload_n 3, 1) := by decide +kernel
theorem dX8_step_25 : decode cX8_step 25 = .ok (.iconst 1, 1) := by decide +kernel
theorem dX8_step_26 : decode cX8_step 26 = .ok (.isub, 1) := by decide +kernel
theorem dX8_step_27 : decode cX8_step 27 = .ok (.invokestatic 40, 3) := by decide +kernel
theorem dX8_step_30 : decode cX8_step 30 = .ok (.aload_n 0, 1) := by decide +kernel
theorem dX8_step_31 : decode cX8_step 31 = .ok (.iload_n 3, 1) := by decide +kernel
theorem dX8_step_32 : decode cX8_step 32 = .ok (.invokestatic 40, 3) := by decide +kernel
theorem dX8_step_35 : decode cX8_step 35 = .ok (.ladd, 1) := by decide +kernel
theorem dX8_step_36 : decode cX8_step 36 = .ok (.aload_n 0, 1) := by decide +kernel
theorem dX8_step_37 : decode cX8_step 37 = .ok (.iload_n 3, 1) := by decide +kernel
theorem dX8_step_38 : decode cX8_step 38 = .ok (.iconst 1, 1) := by decide +kernel
theorem dX8_step_39 : decode cX8_step 39 = .ok (.iadd, 1) := by decide +kernel
theorem dX8_step_40 : decode cX8_step 40 = .ok (.invokestatic 40, 3) := by decide +kernel
theorem dX8_step_43 : decode cX8_step 43 = .ok (.ladd, 1) := by decide +kernel
theorem dX8_step_44 : decode cX8_step 44 = .ok (.invokestatic 28, 3) := by decide +kernel
theorem dX8_step_47 : decode cX8_step 47 = .ok (.iinc 3 1, 3) := by decide +kernel
theorem dX8_step_50 : decode cX8_step 50 = .ok (.goto (-44), 3) := by decide +kernel
theorem dX8_step_53 : decode cX8_step 53 = .ok (.return_, 1) := by decide +kernel
set_option maxRecDepth 20000 in
theorem ggX9_init_X4_init : GoodIn wsX9_init wsX4_init := goodIn_r _ [17, 18, 2, 3, 19, 20, 21, 22, 23, 24, 25, 47, 48, 49, 50, 51, 52, 53] rfl (by decide +kernel)
set_option maxRecDepth 20000 in
theorem gX9_init_X4_init_n11 : GoodIn wsX9_init (wsX4_init) := ggX9_init_X4_init
set_option maxRecDepth 20000 in
theorem ggX9_init_X6_init : GoodIn wsX9_init wsX6_init := goodIn_r _ [28, 29, 2, 3, 30, 31, 32, 33, 34, 10, 35, 36, 37, 38, 39, 58] rfl (by decide +kernel)
set_option maxRecDepth 20000 in
theorem gX9_init_X6_init : GoodIn wsX9_init (wsX6_init) := ggX9_init_X6_init
set_option maxRecDepth 20000 in
theorem ggX9_init_X5_init : GoodIn wsX9_init wsX5_init := goodIn_r _ [42, 43, 2, 3, 30, 44, 45, 46, 59, 60, 61, 62] rfl (by decide +kernel)
set_option maxRecDepth 20000 in
theorem gX9_init_X5_init : GoodIn wsX9_init (wsX5_init) := ggX9_init_X5_init
theorem dX9_init_0 : decode cX9_init 0 = .ok (.aload_n 0, 1) := by decide +kernel
theorem dX9_init_1 : decode cX9_init 1 = .ok (.invokespecial 3, 3) := by decide +kernel
theorem dX9_init_4 : decode cX9_init 4 = .ok (.aload_n 0, 1) := by decide +kernel
theorem dX9_init_5 : decode cX9_init 5 = .ok (.new 9, 3) := by decide +kernel
theorem dX9_init_8 : decode cX9_init 8 = .ok (.dup, 1) := by decide +kernel
theorem dX9_init_9 : decode cX9_init 9 = .ok (.invokespecial 11, 3) := by decide +kernel
theorem dX9_init_12 : decode cX9_init 12 = .ok (.putfield 12, 3) := by decide +kernel
theorem dX9_init_15 : decode cX9_init 15 = .ok (.aload_n 0, 1) := by decide +kernel
theorem dX9_init_16 : decode cX9_init 16 = .ok (.new 18, 3) := by decide +kernel
theorem dX9_init_19 : decode cX9_init 19 = .ok (.dup, 1) := by decide +kernel
theorem dX9_init_20 : decode cX9_init 20 = .ok (.invokespecial 20, 3) := by decide +kernel
theorem dX9_init_23 : decode cX9_init 23 = .ok (.putfield 21, 3) := by decide +kernel
theorem dX9_init_26 : decode cX9_init 26 = .ok (.aload_n 0, 1) := by decide +kernel
theorem dX9_init_27 : decode cX9_init 27 = .ok (.new 25, 3) := by decide +kernel
theorem dX9_init_30 : decode cX9_init 30 = .ok (.dup, 1) := by decide +kernel
theorem dX9_init_31 : decode cX9_init 31 = .ok (.invokespecial 27, 3) := by decide +kernel
theorem dX9_init_34 : decode cX9_init 34 = .ok (.putfield 28, 3) := by decide +kernel
theorem dX9_init_37 : decode cX9_init 37 = .ok (.return_, 1) := by decide +kernel
set_option maxRecDepth 20000 in
theorem ggX9_takeFrom_X4_takeFrom : GoodIn wsX9_takeFrom wsX4_takeFrom := goodIn_r _ [9, 10, 11, 12, 13, 14, 15, 16, 39, 40, 41, 42, 43, 44, 45] rfl (by decide +kernel)
set_option maxRecDepth 20000 in
theorem gX9_takeFrom_X4_takeFrom : GoodIn wsX9_takeFrom (wsV RX9 32 RX4 yX4_takeFrom wsX4_takeFrom) := goodIn_app (goodIn_r _ [5, 6, 7, 8] rfl (by decide +kernel)) ggX9_takeFrom_X4_takeFrom
set_option maxRecDepth 20000 in
theorem ggX9_takeFrom_X6_takeFrom : GoodIn wsX9_takeFrom wsX6_takeFrom := goodIn_r _ [21, 22, 23, 24, 25, 46] rfl (by decide +kernel)
set_option maxRecDepth 20000 in
theorem gX9_takeFrom_X6_takeFrom : GoodIn wsX9_takeFrom (wsV RX9 36 RX6 yX6_takeFrom wsX6_takeFrom) := goodIn_app (goodIn_r _ [17, 18, 19, 20] rfl (by decide +kernel)) ggX9_takeFrom_X6_takeFrom
set_option maxRecDepth 20000 in
theorem ggX9_takeFrom_X5_takeFrom : GoodIn wsX9_takeFrom wsX5_takeFrom := goodIn_r _ [30, 31, 32, 33, 34, 23, 24, 25, 47, 48, 49, 50] rfl (by decide +kernel)
set_option maxRecDepth 20000 in
theorem gX9_takeFrom_X5_takeFrom : GoodIn wsX9_takeFrom (wsV RX9 39 RX5 yX5_takeFrom wsX5_takeFrom) := goodIn_app (goodIn_r _ [26, 27, 28, 29] rfl (by decide +kernel)) ggX9_takeFrom_X5_takeFrom
theorem dX9_takeFrom_0 : decode cX9_takeFrom 0 = .ok (.aload_n 0, 1) := by decide +kernel
theorem dX9_takeFrom_1 : decode cX9_takeFrom 1 = .ok (.getfield 12, 3) := by decide +kernel
theorem dX9_takeFrom_4 : decode cX9_takeFrom 4 = .ok (.aload_n 1, 1) := by decide +kernel
theorem dX9_takeFrom_5 : decode cX9_takeFrom 5 = .ok (.getfield 12, 3) := by decide +kernel
theorem dX9_takeFrom_8 : decode cX9_takeFrom 8 = .ok (.invokevirtual 32, 3) := by decide +kernel
theorem dX9_takeFrom_11 : decode cX9_takeFrom 11 = .ok (.aload_n 0, 1) := by decide +kernel
theorem dX9_takeFrom_12 : decode cX9_takeFrom 12 = .ok (.getfield 21, 3) := by decide +kernel
theorem dX9_takeFrom_15 : decode cX9_takeFrom 15 = .ok (.aload_n 1, 1) := by decide +kernel
theorem dX9_takeFrom_16 : decode cX9_takeFrom 16 = .ok (.getfield 21, 3) := by decide +kernel
theorem dX9_takeFrom_19 : decode cX9_takeFrom 19 = .ok (.invokevirtual 36, 3) := by decide +kernel
theorem dX9_takeFrom_22 : decode cX9_takeFrom 22 = .ok (.aload_n 0, 1) := by decide +kernel
theorem dX9_takeFrom_23 : decode cX9_takeFrom 23 = .ok (.getfield 28, 3) := by decide +kernel
theorem dX9_takeFrom_26 : decode cX9_takeFrom 26 = .ok (.aload_n 1, 1) := by decide +kernel
theorem dX9_takeFrom_27 : decode cX9_takeFrom 27 = .ok (.getfield 28, 3) := by decide +kernel
theorem dX9_takeFrom_30 : decode cX9_takeFrom 30 = .ok (.invokevirtual 39, 3) := by decide +kernel
theorem dX9_takeFrom_33 : decode cX9_takeFrom 33 = .ok (.aload_n 0, 1) := by decide +kernel
theorem dX9_takeFrom_34 : decode cX9_takeFrom 34 = .ok (.aload_n 1, 1) := by decide +kernel
theorem dX9_takeFrom_35 : decode cX9_takeFrom 35 = .ok (.getfield 42, 3) := by decide +kernel
theorem dX9_takeFrom_38 : decode cX9_takeFrom 38 = .ok (.putfield 42, 3) := by decide +kernel
theorem dX9_takeFrom_41 : decode cX9_takeFrom 41 = .ok (.return_, 1) := by decide +kernel
set_option maxRecDepth 20000 in
theorem ggX9_needOf_X6_of : GoodIn wsX9_needOf wsX6_of := goodIn_r _ [12, 13, 42] rfl (by decide +kernel)
set_option maxRecDepth 20000 in
theorem gX9_needOf_X6_of : GoodIn wsX9_needOf (wsV RX9 46 RX6 yX6_of wsX6_of) := goodIn_app (goodIn_r _ [8, 9, 10, 11] rfl (by decide +kernel)) ggX9_needOf_X6_of
set_option maxRecDepth 20000 in
theorem ggX9_needOf_X4_isDark : GoodIn wsX9_needOf wsX4_isDark := goodIn_r _ [18, 19, 20, 21, 17, 22, 23, 24, 25, 26, 27, 28, 29, 30, 31, 32, 33, 34, 35, 36, 37, 43, 44, 45, 46, 47, 48, 49] rfl (by decide +kernel)
set_option maxRecDepth 20000 in
theorem gX9_needOf_X4_isDark : GoodIn wsX9_needOf (wsV RX9 50 RX4 yX4_isDark wsX4_isDark) := goodIn_app (goodIn_r _ [14, 15, 16, 17] rfl (by decide +kernel)) ggX9_needOf_X4_isDark
theorem dX9_needOf_0 : decode cX9_needOf 0 = .ok (.aload_n 0, 1) := by decide +kernel
theorem dX9_needOf_1 : decode cX9_needOf 1 = .ok (.getfield 21, 3) := by decide +kernel
theorem dX9_needOf_4 : decode cX9_needOf 4 = .ok (.iload_n 1, 1) := by decide +kernel
theorem dX9_needOf_5 : decode cX9_needOf 5 = .ok (.iconst 3, 1) := by decide +kernel
theorem dX9_needOf_6 : decode cX9_needOf 6 = .ok (.invokevirtual 46, 3) := by decide +kernel
theorem dX9_needOf_9 : decode cX9_needOf 9 = .ok (.istore_n 3, 1) := by decide +kernel
theorem dX9_needOf_10 : decode cX9_needOf 10 = .ok (.iconst 0, 1) := by decide +kernel
theorem dX9_needOf_11 : decode cX9_needOf 11 = .ok (.istore 4, 2) := by decide +kernel
theorem dX9_needOf_13 : decode cX9_needOf 13 = .ok (.iload_n 2, 1) := by decide +kernel
theorem dX9_needOf_14 : decode cX9_needOf 14 = .ok (.iconst 1, 1) := by decide +kernel
theorem dX9_needOf_15 : decode cX9_needOf 15 = .ok (.isub, 1) := by decide +kernel
theorem dX9_needOf_16 : decode cX9_needOf 16 = .ok (.istore 5, 2) := by decide +kernel
theorem dX9_needOf_18 : decode cX9_needOf 18 = .ok (.iload 5, 2) := by decide +kernel
theorem dX9_needOf_20 : decode cX9_needOf 20 = .ok (.ifCond .lt 72, 3) := by decide +kernel
theorem dX9_needOf_23 : decode cX9_needOf 23 = .ok (.aload_n 0, 1) := by decide +kernel
theorem dX9_needOf_24 : decode cX9_needOf 24 = .ok (.getfield 12, 3) := by decide +kernel
theorem dX9_needOf_27 : decode cX9_needOf 27 = .ok (.iload_n 1, 1) := by decide +kernel
theorem dX9_needOf_28 : decode cX9_needOf 28 = .ok (.aload_n 0, 1) := by decide +kernel
theorem dX9_needOf_29 : decode cX9_needOf 29 = .ok (.getfield 42, 3) := by decide +kernel
theorem dX9_needOf_32 : decode cX9_needOf 32 = .ok (.iload 5, 2) := by decide +kernel
theorem dX9_needOf_34 : decode cX9_needOf 34 = .ok (.iadd, 1) := by decide +kernel
theorem dX9_needOf_35 : decode cX9_needOf 35 = .ok (.invokevirtual 50, 3) := by decide +kernel
theorem dX9_needOf_38 : decode cX9_needOf 38 = .ok (.ifCond .eq 7, 3) := by decide +kernel
theorem dX9_needOf_41 : decode cX9_needOf 41 = .ok (.iconst 0, 1) := by decide +kernel
theorem dX9_needOf_42 : decode cX9_needOf 42 = .ok (.goto 12, 3) := by decide +kernel
theorem dX9_needOf_45 : decode cX9_needOf 45 = .ok (.aload_n 0, 1) := by decide +kernel
theorem dX9_needOf_46 : decode cX9_needOf 46 = .ok (.getfield 21, 3) := by decide +kernel
theorem dX9_needOf_49 : decode cX9_needOf 49 = .ok (.iload_n 1, 1) := by decide +kernel
theorem dX9_needOf_50 : decode cX9_needOf 50 = .ok (.iconst 0, 1) := by decide +kernel
theorem dX9_needOf_51 : decode cX9_needOf 51 = .ok (.invokevirtual 46, 3) := by decide +kernel
theorem dX9_needOf_54 : decode cX9_needOf 54 = .ok (.istore 6, 2) := by decide +kernel
theorem dX9_needOf_56 : decode cX9_needOf 56 = .ok (.iconst 0, 1) := by decide +kernel
theorem dX9_needOf_57 : decode cX9_needOf 57 = .ok (.iload 4, 2) := by decide +kernel
theorem dX9_needOf_59 : decode cX9_needOf 59 = .ok (.aload_n 0, 1) := by decide +kernel
theorem dX9_needOf_60 : decode cX9_needOf 60 = .ok (.getfield 21, 3) := by decide +kernel
theorem dX9_needOf_63 : decode cX9_needOf 63 = .ok (.iload_n 1, 1) := by decide +kernel
theorem dX9_needOf_64 : decode cX9_needOf 64 = .ok (.iconst 1, 1) := by decide +kernel
theorem dX9_needOf_65 : decode cX9_needOf 65 = .ok (.invokevirtual 46, 3) := by decide +kernel
theorem dX9_needOf_68 : decode cX9_needOf 68 = .ok (.iadd, 1) := by decide +kernel
theorem dX9_needOf_69 : decode cX9_needOf 69 = .ok (.iload 6, 2) := by decide +kernel
theorem dX9_needOf_71 : decode cX9_needOf 71 = .ok (.isub, 1) := by decide +kernel
theorem dX9_needOf_72 : decode cX9_needOf 72 = .ok (.invokestatic 54, 3) := by decide +kernel
theorem dX9_needOf_75 : decode cX9_needOf 75 = .ok (.istore 4, 2) := by decide +kernel
theorem dX9_needOf_77 : decode cX9_needOf 77 = .ok (.iload 4, 2) := by decide +kernel
theorem dX9_needOf_79 : decode cX9_needOf 79 = .ok (.iload_n 3, 1) := by decide +kernel
theorem dX9_needOf_80 : decode cX9_needOf 80 = .ok (.if_icmp .le 6, 3) := by decide +kernel
theorem dX9_needOf_83 : decode cX9_needOf 83 = .ok (.bipush (-6), 2) := by decide +kernel
theorem dX9_needOf_85 : decode cX9_needOf 85 = .ok (.ireturn, 1) := by decide +kernel
theorem dX9_needOf_86 : decode cX9_needOf 86 = .ok (.iinc 5 (-1), 3) := by decide +kernel
theorem dX9_needOf_89 : decode cX9_needOf 89 = .ok (.goto (-71), 3) := by decide +kernel
theorem dX9_needOf_92 : decode cX9_needOf 92 = .ok (.iload 4, 2) := by decide +kernel
theorem dX9_needOf_94 : decode cX9_needOf 94 = .ok (.ireturn, 1) := by decide +kernel
set_option maxRecDepth 20000 in
theorem ggX10_init_X9_init : GoodIn wsX10_init wsX9_init := goodIn_r _ [35, 36, 2, 3, 37, 38, 39, 40, 41, 42, 43, 44, 45, 46, 47, 48, 49, 50, 51, 52, 53, 54, 55, 56, 57, 58, 59, 60, 61, 62, 63, 64, 65, 66, 67, 68, 69, 70, 71, 72, 73, 74, 75, 76, 77, 78, 79, 158, 159, 160, 161, 162, 163, 164, 122, 123, 124, 125, 165, 166, 167, 168, 169] rfl (by decide +kernel)
set_option maxRecDepth 20000 in
theorem gX10_init_X9_init : GoodIn wsX10_init (wsX9_init) := ggX10_init_X9_init
set_option maxRecDepth 20000 in
theorem ggX10_init_X3_init : GoodIn wsX10_init wsX3_init := goodIn_r _ [82, 83, 2, 3, 84, 85, 134, 135] rfl (by decide +kernel)
set_option maxRecDepth 20000 in
theorem gX10_init_X3_init : GoodIn wsX10_init (wsX3_init) := ggX10_init_X3_init
set_option maxRecDepth 20000 in
theorem ggX10_init_X7_init : GoodIn wsX10_init wsX7_init := goodIn_r _ [88, 89, 2, 3, 90, 38, 39, 91, 92, 42, 43, 93, 63, 94, 49, 50, 51, 52, 53, 54, 55, 56, 57, 58, 95, 60, 61, 62, 64, 65, 66, 67, 68, 69, 70, 71, 72, 158, 159, 160, 161, 162, 163, 164, 136, 137, 138, 139, 140, 141, 142, 143, 144, 145, 165] rfl (by decide +kernel)
set_option maxRecDepth 20000 in
theorem gX10_init_X7_init : GoodIn wsX10_init (wsX7_init) := ggX10_init_X7_init
set_option maxRecDepth 20000 in
theorem ggX10_init_X8_init : GoodIn wsX10_init wsX8_init := goodIn_r _ [98, 99, 2, 3, 100, 101, 102, 146, 147] rfl (by decide +kernel)
set_option maxRecDepth 20000 in
theorem gX10_init_X8_init : GoodIn wsX10_init (wsX8_init) := ggX10_init_X8_init
set_option maxRecDepth 20000 in
theorem ggX10_init_X1_init : GoodIn wsX10_init wsX1_init := goodIn_r _ [105, 106, 2, 3, 107, 38, 39, 108, 63, 109, 49, 50, 51, 52, 53, 54, 55, 56, 57, 58, 158, 159, 160, 161, 162, 163, 164, 148, 149, 150, 151] rfl (by decide +kernel)
set_option maxRecDepth 20000 in
theorem gX10_init_X1_init : GoodIn wsX10_init (wsX1_init) := ggX10_init_X1_init
set_option maxRecDepth 20000 in
theorem ggX10_init_X0_init : GoodIn wsX10_init wsX0_init := goodIn_r _ [112, 113, 2, 3, 63, 114, 115, 152, 153] rfl (by decide +kernel)
set_option maxRecDepth 20000 in
theorem gX10_init_X0_init : GoodIn wsX10_init (wsX0_init) := ggX10_init_X0_init
set_option maxRecDepth 20000 in
theorem ggX10_init_X2_init : GoodIn wsX10_init wsX2_init := goodIn_r _ [118, 119, 2, 3, 100, 120, 121, 154, 155, 156, 157] rfl (by decide +kernel)
set_option maxRecDepth 20000 in
theorem gX10_init_X2_init : GoodIn wsX10_init (wsX2_init) := ggX10_init_X2_init
theorem dX10_init_0 : decode cX10_init 0 = .ok (.aload_n 0, 1) := by decide +kernel
theorem dX10_init_1 : decode cX10_init 1 = .ok (.invokespecial 1, 3) := by decide +kernel
theorem dX10_init_4 : decode cX10_init 4 = .ok (.aload_n 0, 1) := by decide +kernel
theorem dX10_init_5 : decode cX10_init 5 = .ok (.new 7, 3) := by decide +kernel
theorem dX10_init_8 : decode cX10_init 8 = .ok (.dup, 1) := by decide +kernel
theorem dX10_init_9 : decode cX10_init 9 = .ok (.invokespecial 9, 3) := by decide +kernel
theorem dX10_init_12 : decode cX10_init 12 = .ok (.putfield 10, 3) := by decide +kernel
theorem dX10_init_15 : decode cX10_init 15 = .ok (.aload_n 0, 1) := by decide +kernel
theorem dX10_init_16 : decode cX10_init 16 = .ok (.iconst 2, 1) := by decide +kernel
theorem dX10_init_17 : decode cX10_init 17 = .ok (.anewarray 7, 3) := by decide +kernel
theorem dX10_init_20 : decode cX10_init 20 = .ok (.putfield 16, 3) := by decide +kernel
theorem dX10_init_23 : decode cX10_init 23 = .ok (.aload_n 0, 1) := by decide +kernel
theorem dX10_init_24 : decode cX10_init 24 = .ok (.new 20, 3) := by decide +kernel
theorem dX10_init_27 : decode cX10_init 27 = .ok (.dup, 1) := by decide +kernel
theorem dX10_init_28 : decode cX10_init 28 = .ok (.invokespecial 22, 3) := by decide +kernel
theorem dX10_init_31 : decode cX10_init 31 = .ok (.putfield 23, 3) := by decide +kernel
theorem dX10_init_34 : decode cX10_init 34 = .ok (.aload_n 0, 1) := by decide +kernel
theorem dX10_init_35 : decode cX10_init 35 = .ok (.new 27, 3) := by decide +kernel
theorem dX10_init_38 : decode cX10_init 38 = .ok (.dup, 1) := by decide +kernel
theorem dX10_init_39 : decode cX10_init 39 = .ok (.invokespecial 29, 3) := by decide +kernel
theorem dX10_init_42 : decode cX10_init 42 = .ok (.putfield 30, 3) := by decide +kernel
theorem dX10_init_45 : decode cX10_init 45 = .ok (.aload_n 0, 1) := by decide +kernel
theorem dX10_init_46 : decode cX10_init 46 = .ok (.new 34, 3) := by decide +kernel
theorem dX10_init_49 : decode cX10_init 49 = .ok (.dup, 1) := by decide +kernel
theorem dX10_init_50 : decode cX10_init 50 = .ok (.invokespecial 36, 3) := by decide +kernel
theorem dX10_init_53 : decode cX10_init 53 = .ok (.putfield 37, 3) := by decide +kernel
theorem dX10_init_56 : decode cX10_init 56 = .ok (.aload_n 0, 1) := by decide +kernel
theorem dX10_init_57 : decode cX10_init 57 = .ok (.new 41, 3) := by decide +kernel
theorem dX10_init_60 : decode cX10_init 60 = .ok (.dup, 1) := by decide +kernel
theorem dX10_init_61 : decode cX10_init 61 = .ok (.invokespecial 43, 3) := by decide +kernel
theorem dX10_init_64 : decode cX10_init 64 = .ok (.putfield 44, 3) := by decide +kernel
theorem dX10_init_67 : decode cX10_init 67 = .ok (.aload_n 0, 1) := by decide +kernel
theorem dX10_init_68 : decode cX10_init 68 = .ok (.new 48, 3) := by decide +kernel
theorem dX10_init_71 : decode cX10_init 71 = .ok (.dup, 1) := by decide +kernel
theorem dX10_init_72 : decode cX10_init 72 = .ok (.invokespecial 50, 3) := by decide +kernel
theorem dX10_init_75 : decode cX10_init 75 = .ok (.putfield 51, 3) := by decide +kernel
theorem dX10_init_78 : decode cX10_init 78 = .ok (.aload_n 0, 1) := by decide +kernel
theorem dX10_init_79 : decode cX10_init 79 = .ok (.new 55, 3) := by decide +kernel
theorem dX10_init_82 : decode cX10_init 82 = .ok (.dup, 1) := by decide +kernel
theorem dX10_init_83 : decode cX10_init 83 = .ok (.invokespecial 57, 3) := by decide +kernel
theorem dX10_init_86 : decode cX10_init 86 = .ok (.putfield 58, 3) := by decide +kernel
theorem dX10_init_89 : decode cX10_init 89 = .ok (.return_, 1) := by decide +kernel
set_option maxRecDepth 20000 in
theorem ggX10_lands_X10_within : GoodIn wsX10_lands wsX10_within := goodIn_r _ [12] rfl (by decide +kernel)
set_option maxRecDepth 20000 in
theorem gX10_lands_X10_within : GoodIn wsX10_lands (va_wsS RX10 62 yX10_within wsX10_within) := goodIn_app (goodIn_r _ [9, 10, 11] rfl (by decide +kernel)) ggX10_lands_X10_within
set_option maxRecDepth 20000 in
theorem ggX10_lands_X6_begin : GoodIn wsX10_lands wsX6_begin := goodIn_r _ [17, 18, 19, 20, 16, 21, 22, 46] rfl (by decide +kernel)
set_option maxRecDepth 20000 in
theorem gX10_lands_X6_begin : GoodIn wsX10_lands (wsV RX10 83 RX6 yX6_begin wsX6_begin) := goodIn_app (goodIn_r _ [13, 14, 15, 16] rfl (by decide +kernel)) ggX10_lands_X6_begin
theorem dX10_lands_0 : decode cX10_lands 0 = .ok (.iload_n 1, 1) := by decide +kernel
theorem dX10_lands_1 : decode cX10_lands 1 = .ok (.iconst 2, 1) := by decide +kernel
theorem dX10_lands_2 : decode cX10_lands 2 = .ok (.bipush 9, 2) := by decide +kernel
theorem dX10_lands_4 : decode cX10_lands 4 = .ok (.invokestatic 62, 3) := by decide +kernel
theorem dX10_lands_7 : decode cX10_lands 7 = .ok (.ifCond .eq 18, 3) := by decide +kernel
theorem dX10_lands_10 : decode cX10_lands 10 = .ok (.iload_n 2, 1) := by decide +kernel
theorem dX10_lands_11 : decode cX10_lands 11 = .ok (.iconst 1, 1) := by decide +kernel
theorem dX10_lands_12 : decode cX10_lands 12 = .ok (.bipush 8, 2) := by decide +kernel
theorem dX10_lands_14 : decode cX10_lands 14 = .ok (.invokestatic 62, 3) := by decide +kernel
theorem dX10_lands_17 : decode cX10_lands 17 = .ok (.ifCond .eq 8, 3) := by decide +kernel
theorem dX10_lands_20 : decode cX10_lands 20 = .ok (.iload_n 2, 1) := by decide +kernel
theorem dX10_lands_21 : decode cX10_lands 21 = .ok (.iload_n 1, 1) := by decide +kernel
theorem dX10_lands_22 : decode cX10_lands 22 = .ok (.if_icmp .lt 6, 3) := by decide +kernel
theorem dX10_lands_25 : decode cX10_lands 25 = .ok (.bipush (-2), 2) := by decide +kernel
theorem dX10_lands_27 : decode cX10_lands 27 = .ok (.ireturn, 1) := by decide +kernel
theorem dX10_lands_28 : decode cX10_lands 28 = .ok (.aload_n 0, 1) := by decide +kernel
theorem dX10_lands_29 : decode cX10_lands 29 = .ok (.getfield 10, 3) := by decide +kernel
theorem dX10_lands_32 : decode cX10_lands 32 = .ok (.getfield 66, 3) := by decide +kernel
theorem dX10_lands_35 : decode cX10_lands 35 = .ok (.getfield 70, 3) := by decide +kernel
theorem dX10_lands_38 : decode cX10_lands 38 = .ok (.istore_n 3, 1) := by decide +kernel
theorem dX10_lands_39 : decode cX10_lands 39 = .ok (.aload_n 0, 1) := by decide +kernel
theorem dX10_lands_40 : decode cX10_lands 40 = .ok (.getfield 10, 3) := by decide +kernel
theorem dX10_lands_43 : decode cX10_lands 43 = .ok (.getfield 66, 3) := by decide +kernel
theorem dX10_lands_46 : decode cX10_lands 46 = .ok (.iload_n 1, 1) := by decide +kernel
theorem dX10_lands_47 : decode cX10_lands 47 = .ok (.putfield 70, 3) := by decide +kernel
theorem dX10_lands_50 : decode cX10_lands 50 = .ok (.aload_n 0, 1) := by decide +kernel
theorem dX10_lands_51 : decode cX10_lands 51 = .ok (.getfield 10, 3) := by decide +kernel
theorem dX10_lands_54 : decode cX10_lands 54 = .ok (.getfield 66, 3) := by decide +kernel
theorem dX10_lands_57 : decode cX10_lands 57 = .ok (.iload_n 2, 1) := by decide +kernel
theorem dX10_lands_58 : decode cX10_lands 58 = .ok (.putfield 76, 3) := by decide +kernel
theorem dX10_lands_61 : decode cX10_lands 61 = .ok (.aload_n 0, 1) := by decide +kernel
theorem dX10_lands_62 : decode cX10_lands 62 = .ok (.getfield 10, 3) := by decide +kernel
theorem dX10_lands_65 : decode cX10_lands 65 = .ok (.getfield 79, 3) := by decide +kernel
theorem dX10_lands_68 : decode cX10_lands 68 = .ok (.invokevirtual 83, 3) := by decide +kernel
theorem dX10_lands_71 : decode cX10_lands 71 = .ok (.aload_n 0, 1) := by decide +kernel
theorem dX10_lands_72 : decode cX10_lands 72 = .ok (.getfield 10, 3) := by decide +kernel
theorem dX10_lands_75 : decode cX10_lands 75 = .ok (.getfield 88, 3) := by decide +kernel
theorem dX10_lands_78 : decode cX10_lands 78 = .ok (.iconst 0, 1) := by decide +kernel
theorem dX10_lands_79 : decode cX10_lands 79 = .ok (.putfield 92, 3) := by decide +kernel
theorem dX10_lands_82 : decode cX10_lands 82 = .ok (.aload_n 0, 1) := by decide +kernel
theorem dX10_lands_83 : decode cX10_lands 83 = .ok (.getfield 10, 3) := by decide +kernel
theorem dX10_lands_86 : decode cX10_lands 86 = .ok (.iconst 0, 1) := by decide +kernel
theorem dX10_lands_87 : decode cX10_lands 87 = .ok (.putfield 97, 3) := by decide +kernel
theorem dX10_lands_90 : decode cX10_lands 90 = .ok (.iload_n 3, 1) := by decide +kernel
theorem dX10_lands_91 : decode cX10_lands 91 = .ok (.ireturn, 1) := by decide +kernel
set_option maxRecDepth 20000 in
theorem ggX10_set_X10_mayRule : GoodIn wsX10_set wsX10_mayRule := goodIn_r _ [6, 7, 8, 5, 9] rfl (by decide +kernel)
set_option maxRecDepth 20000 in
theorem gX10_set_X10_mayRule : GoodIn wsX10_set (va_wsS RX10 100 yX10_mayRule wsX10_mayRule) := goodIn_app (goodIn_r _ [3, 4, 5] rfl (by decide +kernel)) ggX10_set_X10_mayRule
set_option maxRecDepth 20000 in
theorem ggX10_set_X4_rule : GoodIn wsX10_set wsX4_rule := goodIn_r _ [14, 15, 16, 17, 18, 19, 36, 37, 38, 39, 40, 41, 42] rfl (by decide +kernel)
set_option maxRecDepth 20000 in
theorem gX10_set_X4_rule : GoodIn wsX10_set (wsV RX10 104 RX4 yX4_rule wsX4_rule) := goodIn_app (goodIn_r _ [10, 11, 12, 13] rfl (by decide +kernel)) ggX10_set_X4_rule
set_option maxRecDepth 20000 in
theorem ggX10_set_X4_putRule : GoodIn wsX10_set wsX4_putRule := goodIn_r _ [23, 15, 16, 17, 18, 19, 36, 37, 38, 39, 40, 41, 42] rfl (by decide +kernel)
set_option maxRecDepth 20000 in
theorem gX10_set_X4_putRule : GoodIn wsX10_set (wsV RX10 108 RX4 yX4_putRule wsX4_putRule) := goodIn_app (goodIn_r _ [20, 21, 22, 13] rfl (by decide +kernel)) ggX10_set_X4_putRule
theorem dX10_set_0 : decode cX10_set 0 = .ok (.iload_n 1, 1) := by decide +kernel
theorem dX10_set_1 : decode cX10_set 1 = .ok (.iload_n 2, 1) := by decide +kernel
theorem dX10_set_2 : decode cX10_set 2 = .ok (.invokestatic 100, 3) := by decide +kernel
theorem dX10_set_5 : decode cX10_set 5 = .ok (.ifCond .ne 6, 3) := by decide +kernel
theorem dX10_set_8 : decode cX10_set 8 = .ok (.bipush (-2), 2) := by decide +kernel
theorem dX10_set_10 : decode cX10_set 10 = .ok (.ireturn, 1) := by decide +kernel
theorem dX10_set_11 : decode cX10_set 11 = .ok (.aload_n 0, 1) := by decide +kernel
theorem dX10_set_12 : decode cX10_set 12 = .ok (.getfield 10, 3) := by decide +kernel
theorem dX10_set_15 : decode cX10_set 15 = .ok (.getfield 66, 3) := by decide +kernel
theorem dX10_set_18 : decode cX10_set 18 = .ok (.iload_n 1, 1) := by decide +kernel
theorem dX10_set_19 : decode cX10_set 19 = .ok (.invokevirtual 104, 3) := by decide +kernel
theorem dX10_set_22 : decode cX10_set 22 = .ok (.istore_n 3, 1) := by decide +kernel
theorem dX10_set_23 : decode cX10_set 23 = .ok (.aload_n 0, 1) := by decide +kernel
theorem dX10_set_24 : decode cX10_set 24 = .ok (.getfield 10, 3) := by decide +kernel
theorem dX10_set_27 : decode cX10_set 27 = .ok (.getfield 66, 3) := by decide +kernel
theorem dX10_set_30 : decode cX10_set 30 = .ok (.iload_n 1, 1) := by decide +kernel
theorem dX10_set_31 : decode cX10_set 31 = .ok (.iload_n 2, 1) := by decide +kernel
theorem dX10_set_32 : decode cX10_set 32 = .ok (.invokevirtual 108, 3) := by decide +kernel
theorem dX10_set_35 : decode cX10_set 35 = .ok (.iload_n 3, 1) := by decide +kernel
theorem dX10_set_36 : decode cX10_set 36 = .ok (.ireturn, 1) := by decide +kernel
set_option maxRecDepth 20000 in
theorem ggX10_land_X10_hasLand : GoodIn wsX10_land wsX10_hasLand := goodIn_r _ [11, 1, 12, 13, 14, 15, 10, 16, 27, 28, 29, 30, 31, 32, 33, 34, 35, 36, 37, 38, 39, 40, 41, 42, 43, 44, 45] rfl (by decide +kernel)
set_option maxRecDepth 20000 in
theorem gX10_land_X10_hasLand : GoodIn wsX10_land (wsV RX10 112 RX10 yX10_hasLand wsX10_hasLand) := goodIn_app (goodIn_r _ [7, 8, 9, 10] rfl (by decide +kernel)) ggX10_land_X10_hasLand
set_option maxRecDepth 20000 in
theorem ggX10_land_X10_within : GoodIn wsX10_land wsX10_within := goodIn_r _ [16] rfl (by decide +kernel)
set_option maxRecDepth 20000 in
theorem gX10_land_X10_within : GoodIn wsX10_land (va_wsS RX10 62 yX10_within wsX10_within) := goodIn_app (goodIn_r _ [14, 15, 10] rfl (by decide +kernel)) ggX10_land_X10_within
set_option maxRecDepth 20000 in
theorem ggX10_land_X6_of : GoodIn wsX10_land wsX6_of := goodIn_r _ [21, 22, 46] rfl (by decide +kernel)
set_option maxRecDepth 20000 in
theorem gX10_land_X6_of : GoodIn wsX10_land (wsV RX10 116 RX6 yX6_of wsX6_of) := goodIn_app (goodIn_r _ [17, 18, 19, 20] rfl (by decide +kernel)) ggX10_land_X6_of
set_option maxRecDepth 20000 in
theorem ggX10_land_X6_put : GoodIn wsX10_land wsX6_put := goodIn_r _ [26, 22, 46] rfl (by decide +kernel)
set_option maxRecDepth 20000 in
theorem gX10_land_X6_put : GoodIn wsX10_land (wsV RX10 120 RX6 yX6_put wsX6_put) := goodIn_app (goodIn_r _ [23, 24, 25, 20] rfl (by decide +kernel)) ggX10_land_X6_put
theorem dX10_land_0 : decode cX10_land 0 = .ok (.aload_n 0, 1) := by decide +kernel
theorem dX10_land_1 : decode cX10_land 1 = .ok (.iload_n 1, 1) := by decide +kernel
theorem dX10_land_2 : decode cX10_land 2 = .ok (.invokevirtual 112, 3) := by decide +kernel
theorem dX10_land_5 : decode cX10_land 5 = .ok (.ifCond .ne 5, 3) := by decide +kernel
theorem dX10_land_8 : decode cX10_land 8 = .ok (.iconst (-1), 1) := by decide +kernel
theorem dX10_land_9 : decode cX10_land 9 = .ok (.ireturn, 1) := by decide +kernel
theorem dX10_land_10 : decode cX10_land 10 = .ok (.iload_n 2, 1) := by decide +kernel
theorem dX10_land_11 : decode cX10_land 11 = .ok (.iconst 0, 1) := by decide +kernel
theorem dX10_land_12 : decode cX10_land 12 = .ok (.iconst 3, 1) := by decide +kernel
theorem dX10_land_13 : decode cX10_land 13 = .ok (.invokestatic 62, 3) := by decide +kernel
theorem dX10_land_16 : decode cX10_land 16 = .ok (.ifCond .eq 27, 3) := by decide +kernel
theorem dX10_land_19 : decode cX10_land 19 = .ok (.iload_n 3, 1) := by decide +kernel
theorem dX10_land_20 : decode cX10_land 20 = .ok (.iconst 0, 1) := by decide +kernel
theorem dX10_land_21 : decode cX10_land 21 = .ok (.iload_n 2, 1) := by decide +kernel
theorem dX10_land_22 : decode cX10_land 22 = .ok (.ifCond .eq 8, 3) := by decide +kernel
theorem dX10_land_25 : decode cX10_land 25 = .ok (.iload_n 2, 1) := by decide +kernel
theorem dX10_land_26 : decode cX10_land 26 = .ok (.iconst 1, 1) := by decide +kernel
theorem dX10_land_27 : decode cX10_land 27 = .ok (.if_icmp .ne 8, 3) := by decide +kernel
theorem dX10_land_30 : decode cX10_land 30 = .ok (.bipush 20, 2) := by decide +kernel
theorem dX10_land_32 : decode cX10_land 32 = .ok (.goto 5, 3) := by decide +kernel
theorem dX10_land_35 : decode cX10_land 35 = .ok (.bipush 99, 2) := by decide +kernel
theorem dX10_land_37 : decode cX10_land 37 = .ok (.invokestatic 62, 3) := by decide +kernel
theorem dX10_land_40 : decode cX10_land 40 = .ok (.ifCond .ne 6, 3) := by decide +kernel
theorem dX10_land_43 : decode cX10_land 43 = .ok (.bipush (-2), 2) := by decide +kernel
theorem dX10_land_45 : decode cX10_land 45 = .ok (.ireturn, 1) := by decide +kernel
theorem dX10_land_46 : decode cX10_land 46 = .ok (.aload_n 0, 1) := by decide +kernel
theorem dX10_land_47 : decode cX10_land 47 = .ok (.getfield 10, 3) := by decide +kernel
theorem dX10_land_50 : decode cX10_land 50 = .ok (.getfield 79, 3) := by decide +kernel
theorem dX10_land_53 : decode cX10_land 53 = .ok (.astore 4, 2) := by decide +kernel
theorem dX10_land_55 : decode cX10_land 55 = .ok (.iload_n 2, 1) := by decide +kernel
theorem dX10_land_56 : decode cX10_land 56 = .ok (.iconst 2, 1) := by decide +kernel
theorem dX10_land_57 : decode cX10_land 57 = .ok (.if_icmp .ne 17, 3) := by decide +kernel
theorem dX10_land_60 : decode cX10_land 60 = .ok (.iload_n 3, 1) := by decide +kernel
theorem dX10_land_61 : decode cX10_land 61 = .ok (.aload 4, 2) := by decide +kernel
theorem dX10_land_63 : decode cX10_land 63 = .ok (.iload_n 1, 1) := by decide +kernel
theorem dX10_land_64 : decode cX10_land 64 = .ok (.iconst 3, 1) := by decide +kernel
theorem dX10_land_65 : decode cX10_land 65 = .ok (.invokevirtual 116, 3) := by decide +kernel
theorem dX10_land_68 : decode cX10_land 68 = .ok (.if_icmp .le 6, 3) := by decide +kernel
theorem dX10_land_71 : decode cX10_land 71 = .ok (.bipush (-3), 2) := by decide +kernel
theorem dX10_land_73 : decode cX10_land 73 = .ok (.ireturn, 1) := by decide +kernel
theorem dX10_land_74 : decode cX10_land 74 = .ok (.aload 4, 2) := by decide +kernel
theorem dX10_land_76 : decode cX10_land 76 = .ok (.iload_n 1, 1) := by decide +kernel
theorem dX10_land_77 : decode cX10_land 77 = .ok (.iload_n 2, 1) := by decide +kernel
theorem dX10_land_78 : decode cX10_land 78 = .ok (.invokevirtual 116, 3) := by decide +kernel
theorem dX10_land_81 : decode cX10_land 81 = .ok (.istore 5, 2) := by decide +kernel
theorem dX10_land_83 : decode cX10_land 83 = .ok (.aload 4, 2) := by decide +kernel
theorem dX10_land_85 : decode cX10_land 85 = .ok (.iload_n 1, 1) := by decide +kernel
theorem dX10_land_86 : decode cX10_land 86 = .ok (.iload_n 2, 1) := by decide +kernel
theorem dX10_land_87 : decode cX10_land 87 = .ok (.iload_n 3, 1) := by decide +kernel
theorem dX10_land_88 : decode cX10_land 88 = .ok (.invokevirtual 120, 3) := by decide +kernel
theorem dX10_land_91 : decode cX10_land 91 = .ok (.iload_n 2, 1) := by decide +kernel
theorem dX10_land_92 : decode cX10_land 92 = .ok (.iconst 3, 1) := by decide +kernel
theorem dX10_land_93 : decode cX10_land 93 = .ok (.if_icmp .ne 21, 3) := by decide +kernel
theorem dX10_land_96 : decode cX10_land 96 = .ok (.aload 4, 2) := by decide +kernel
theorem dX10_land_98 : decode cX10_land 98 = .ok (.iload_n 1, 1) := by decide +kernel
theorem dX10_land_99 : decode cX10_land 99 = .ok (.iconst 2, 1) := by decide +kernel
theorem dX10_land_100 : decode cX10_land 100 = .ok (.aload 4, 2) := by decide +kernel
theorem dX10_land_102 : decode cX10_land 102 = .ok (.iload_n 1, 1) := by decide +kernel
theorem dX10_land_103 : decode cX10_land 103 = .ok (.iconst 2, 1) := by decide +kernel
theorem dX10_land_104 : decode cX10_land 104 = .ok (.invokevirtual 116, 3) := by decide +kernel
theorem dX10_land_107 : decode cX10_land 107 = .ok (.iload_n 3, 1) := by decide +kernel
theorem dX10_land_108 : decode cX10_land 108 = .ok (.invokestatic 124, 3) := by decide +kernel
theorem dX10_land_111 : decode cX10_land 111 = .ok (.invokevirtual 120, 3) := by decide +kernel
theorem dX10_land_114 : decode cX10_land 114 = .ok (.iload 5, 2) := by decide +kernel
theorem dX10_land_116 : decode cX10_land 116 = .ok (.ireturn, 1) := by decide +kernel
set_option maxRecDepth 20000 in
theorem ggX10_say_X10_within : GoodIn wsX10_say wsX10_within := goodIn_r _ [6] rfl (by decide +kernel)
set_option maxRecDepth 20000 in
theorem gX10_say_X10_within : GoodIn wsX10_say (va_wsS RX10 62 yX10_within wsX10_within) := goodIn_app (goodIn_r _ [3, 4, 5] rfl (by decide +kernel)) ggX10_say_X10_within
set_option maxRecDepth 20000 in
theorem ggX10_say_X3_add : GoodIn wsX10_say wsX3_add := goodIn_r _ [11, 12, 13, 22, 23] rfl (by decide +kernel)
set_option maxRecDepth 20000 in
theorem gX10_say_X3_add : GoodIn wsX10_say (wsV RX10 129 RX3 yX3_add wsX3_add) := goodIn_app (goodIn_r _ [7, 8, 9, 10] rfl (by decide +kernel)) ggX10_say_X3_add
theorem dX10_say_0 : decode cX10_say 0 = .ok (.iload_n 1, 1) := by decide +kernel
theorem dX10_say_1 : decode cX10_say 1 = .ok (.bipush 33, 2) := by decide +kernel
theorem dX10_say_3 : decode cX10_say 3 = .ok (.bipush 126, 2) := by decide +kernel
theorem dX10_say_5 : decode cX10_say 5 = .ok (.invokestatic 62, 3) := by decide +kernel
theorem dX10_say_8 : decode cX10_say 8 = .ok (.ifCond .ne 6, 3) := by decide +kernel
theorem dX10_say_11 : decode cX10_say 11 = .ok (.bipush (-2), 2) := by decide +kernel
theorem dX10_say_13 : decode cX10_say 13 = .ok (.ireturn, 1) := by decide +kernel
theorem dX10_say_14 : decode cX10_say 14 = .ok (.aload_n 0, 1) := by decide +kernel
theorem dX10_say_15 : decode cX10_say 15 = .ok (.getfield 23, 3) := by decide +kernel
theorem dX10_say_18 : decode cX10_say 18 = .ok (.iload_n 1, 1) := by decide +kernel
theorem dX10_say_19 : decode cX10_say 19 = .ok (.i2c, 1) := by decide +kernel
theorem dX10_say_20 : decode cX10_say 20 = .ok (.invokevirtual 129, 3) := by decide +kernel
theorem dX10_say_23 : decode cX10_say 23 = .ok (.ifCond .eq 13, 3) := by decide +kernel
theorem dX10_say_26 : decode cX10_say 26 = .ok (.aload_n 0, 1) := by decide +kernel
theorem dX10_say_27 : decode cX10_say 27 = .ok (.getfield 23, 3) := by decide +kernel
theorem dX10_say_30 : decode cX10_say 30 = .ok (.getfield 133, 3) := by decide +kernel
theorem dX10_say_33 : decode cX10_say 33 = .ok (.goto 5, 3) := by decide +kernel
theorem dX10_say_36 : decode cX10_say 36 = .ok (.bipush (-4), 2) := by decide +kernel
theorem dX10_say_38 : decode cX10_say 38 = .ok (.ireturn, 1) := by decide +kernel
theorem dX10_wipe_0 : decode cX10_wipe 0 = .ok (.aload_n 0, 1) := by decide +kernel
theorem dX10_wipe_1 : decode cX10_wipe 1 = .ok (.getfield 23, 3) := by decide +kernel
theorem dX10_wipe_4 : decode cX10_wipe 4 = .ok (.getfield 133, 3) := by decide +kernel
theorem dX10_wipe_7 : decode cX10_wipe 7 = .ok (.istore_n 1, 1) := by decide +kernel
theorem dX10_wipe_8 : decode cX10_wipe 8 = .ok (.aload_n 0, 1) := by decide +kernel
theorem dX10_wipe_9 : decode cX10_wipe 9 = .ok (.getfield 23, 3) := by decide +kernel
theorem dX10_wipe_12 : decode cX10_wipe 12 = .ok (.iconst 0, 1) := by decide +kernel
theorem dX10_wipe_13 : decode cX10_wipe 13 = .ok (.putfield 133, 3) := by decide +kernel
theorem dX10_wipe_16 : decode cX10_wipe 16 = .ok (.iload_n 1, 1) := by decide +kernel
theorem dX10_wipe_17 : decode cX10_wipe 17 = .ok (.ireturn, 1) := by decide +kernel
set_option maxRecDepth 20000 in
theorem ggX10_fault_X3_faultAmong : GoodIn wsX10_fault wsX3_faultAmong := goodIn_r _ [9, 10, 11, 12, 13, 8, 14, 15, 16, 17, 18, 19, 20, 21, 22, 23, 24, 25, 26, 27, 28, 29, 30, 50, 51] rfl (by decide +kernel)
set_option maxRecDepth 20000 in
theorem gX10_fault_X3_faultAmong : GoodIn wsX10_fault (wsV RX10 134 RX3 yX3_faultAmong wsX3_faultAmong) := goodIn_app (goodIn_r _ [5, 6, 7, 8] rfl (by decide +kernel)) ggX10_fault_X3_faultAmong
theorem dX10_fault_0 : decode cX10_fault 0 = .ok (.aload_n 0, 1) := by decide +kernel
theorem dX10_fault_1 : decode cX10_fault 1 = .ok (.getfield 23, 3) := by decide +kernel
theorem dX10_fault_4 : decode cX10_fault 4 = .ok (.aload_n 0, 1) := by decide +kernel
theorem dX10_fault_5 : decode cX10_fault 5 = .ok (.getfield 10, 3) := by decide +kernel
theorem dX10_fault_8 : decode cX10_fault 8 = .ok (.getfield 66, 3) := by decide +kernel
theorem dX10_fault_11 : decode cX10_fault 11 = .ok (.getfield 70, 3) := by decide +kernel
theorem dX10_fault_14 : decode cX10_fault 14 = .ok (.invokevirtual 134, 3) := by decide +kernel
theorem dX10_fault_17 : decode cX10_fault 17 = .ok (.ireturn, 1) := by decide +kernel
set_option maxRecDepth 20000 in
theorem ggX10_judge_X10_within : GoodIn wsX10_judge wsX10_within := goodIn_r _ [9] rfl (by decide +kernel)
set_option maxRecDepth 20000 in
theorem gX10_judge_X10_within : GoodIn wsX10_judge (va_wsS RX10 62 yX10_within wsX10_within) := goodIn_app (goodIn_r _ [6, 7, 8] rfl (by decide +kernel)) ggX10_judge_X10_within
set_option maxRecDepth 20000 in
theorem ggX10_judge_X10_tellPad : GoodIn wsX10_judge wsX10_tellPad := goodIn_r _ [13, 14, 15, 16, 17, 1, 2, 18, 19, 20, 21, 22, 23, 24, 25, 26, 27, 28, 29, 30, 31, 32, 7, 8, 9, 33, 34, 35, 36, 37, 38, 39, 40, 41, 42, 43, 44, 45, 46, 47, 48, 49, 50, 51, 52, 53, 54, 55, 56, 57, 58, 59, 60, 61, 62, 63, 64, 65, 66, 67, 68, 69, 70, 71, 72, 73, 74, 75, 76, 77, 78, 79, 80, 81, 82, 83, 84, 85, 86, 87, 88, 89, 90, 91, 92, 93, 94, 95, 96, 97, 98, 99, 100, 101, 102, 103, 104, 105, 106, 107, 108, 109, 110, 111, 112, 113, 114, 115, 116, 117, 118, 119, 120, 121, 122, 123, 124, 125, 126, 127, 128, 129, 130, 131, 132, 133, 134, 135, 136, 137, 138, 139, 140, 141, 142, 143, 144, 145, 156, 157, 158, 159, 160, 161, 162, 163, 164, 165, 166, 146, 147, 148, 149, 150, 151, 152, 153, 154, 155, 167, 168, 169] rfl (by decide +kernel)
set_option maxRecDepth 20000 in
theorem gX10_judge_X10_tellPad : GoodIn wsX10_judge (wsV RX10 137 RX10 yX10_tellPad wsX10_tellPad) := goodIn_app (goodIn_r _ [10, 11, 12, 8] rfl (by decide +kernel)) ggX10_judge_X10_tellPad
theorem dX10_judge_0 : decode cX10_judge 0 = .ok (.iload_n 1, 1) := by decide +kernel
theorem dX10_judge_1 : decode cX10_judge 1 = .ok (.iconst 0, 1) := by decide +kernel
theorem dX10_judge_2 : decode cX10_judge 2 = .ok (.iconst 3, 1) := by decide +kernel
theorem dX10_judge_3 : decode cX10_judge 3 = .ok (.invokestatic 62, 3) := by decide +kernel
theorem dX10_judge_6 : decode cX10_judge 6 = .ok (.ifCond .ne 6, 3) := by decide +kernel
theorem dX10_judge_9 : decode cX10_judge 9 = .ok (.bipush (-2), 2) := by decide +kernel
theorem dX10_judge_11 : decode cX10_judge 11 = .ok (.ireturn, 1) := by decide +kernel
theorem dX10_judge_12 : decode cX10_judge 12 = .ok (.aload_n 0, 1) := by decide +kernel
theorem dX10_judge_13 : decode cX10_judge 13 = .ok (.invokevirtual 137, 3) := by decide +kernel
theorem dX10_judge_16 : decode cX10_judge 16 = .ok (.istore_n 2, 1) := by decide +kernel
theorem dX10_judge_17 : decode cX10_judge 17 = .ok (.iload_n 2, 1) := by decide +kernel
theorem dX10_judge_18 : decode cX10_judge 18 = .ok (.bipush (-5), 2) := by decide +kernel
theorem dX10_judge_20 : decode cX10_judge 20 = .ok (.if_icmp .eq 14, 3) := by decide +kernel
theorem dX10_judge_23 : decode cX10_judge 23 = .ok (.iload_n 2, 1) := by decide +kernel
theorem dX10_judge_24 : decode cX10_judge 24 = .ok (.bipush (-3), 2) := by decide +kernel
theorem dX10_judge_26 : decode cX10_judge 26 = .ok (.if_icmp .ne 10, 3) := by decide +kernel
theorem dX10_judge_29 : decode cX10_judge 29 = .ok (.iload_n 1, 1) := by decide +kernel
theorem dX10_judge_30 : decode cX10_judge 30 = .ok (.iconst 2, 1) := by decide +kernel
theorem dX10_judge_31 : decode cX10_judge 31 = .ok (.if_icmp .lt 5, 3) := by decide +kernel
theorem dX10_judge_34 : decode cX10_judge 34 = .ok (.iload_n 2, 1) := by decide +kernel
theorem dX10_judge_35 : decode cX10_judge 35 = .ok (.ireturn, 1) := by decide +kernel
theorem dX10_judge_36 : decode cX10_judge 36 = .ok (.iload_n 1, 1) := by decide +kernel
theorem dX10_judge_37 : decode cX10_judge 37 = .ok (.tableswitch 51 0 2 #[27, 35, 43], 27) := by decide +kernel
theorem dX10_judge_64 : decode cX10_judge 64 = .ok (.aload_n 0, 1) := by decide +kernel
theorem dX10_judge_65 : decode cX10_judge 65 = .ok (.getfield 30, 3) := by decide +kernel
theorem dX10_judge_68 : decode cX10_judge 68 = .ok (.getfield 141, 3) := by decide +kernel
theorem dX10_judge_71 : decode cX10_judge 71 = .ok (.ireturn, 1) := by decide +kernel
theorem dX10_judge_72 : decode cX10_judge 72 = .ok (.aload_n 0, 1) := by decide +kernel
theorem dX10_judge_73 : decode cX10_judge 73 = .ok (.getfield 30, 3) := by decide +kernel
theorem dX10_judge_76 : decode cX10_judge 76 = .ok (.getfield 144, 3) := by decide +kernel
theorem dX10_judge_79 : decode cX10_judge 79 = .ok (.ireturn, 1) := by decide +kernel
theorem dX10_judge_80 : decode cX10_judge 80 = .ok (.aload_n 0, 1) := by decide +kernel
theorem dX10_judge_81 : decode cX10_judge 81 = .ok (.getfield 30, 3) := by decide +kernel
theorem dX10_judge_84 : decode cX10_judge 84 = .ok (.getfield 147, 3) := by decide +kernel
theorem dX10_judge_87 : decode cX10_judge 87 = .ok (.ireturn, 1) := by decide +kernel
theorem dX10_judge_88 : decode cX10_judge 88 = .ok (.aload_n 0, 1) := by decide +kernel
theorem dX10_judge_89 : decode cX10_judge 89 = .ok (.getfield 30, 3) := by decide +kernel
theorem dX10_judge_92 : decode cX10_judge 92 = .ok (.getfield 150, 3) := by decide +kernel
theorem dX10_judge_95 : decode cX10_judge 95 = .ok (.ireturn, 1) := by decide +kernel
set_option maxRecDepth 20000 in
theorem ggX10_behind_X10_hasLand : GoodIn wsX10_behind wsX10_hasLand := goodIn_r _ [10, 11, 12, 13, 14, 15, 9, 16, 153, 154, 155, 156, 157, 158, 159, 160, 171, 172, 173, 174, 175, 176, 177, 178, 179, 180, 181] rfl (by decide +kernel)
set_option maxRecDepth 20000 in
theorem gX10_behind_X10_hasLand : GoodIn wsX10_behind (wsV RX10 112 RX10 yX10_hasLand wsX10_hasLand) := goodIn_app (goodIn_r _ [6, 7, 8, 9] rfl (by decide +kernel)) ggX10_behind_X10_hasLand
set_option maxRecDepth 20000 in
theorem ggX10_behind_X10_within : GoodIn wsX10_behind wsX10_within := goodIn_r _ [16] rfl (by decide +kernel)
set_option maxRecDepth 20000 in
theorem gX10_behind_X10_within : GoodIn wsX10_behind (va_wsS RX10 62 yX10_within wsX10_within) := goodIn_app (goodIn_r _ [14, 15, 9] rfl (by decide +kernel)) ggX10_behind_X10_within
set_option maxRecDepth 20000 in
theorem ggX10_behind_X10_tellPad : GoodIn wsX10_behind wsX10_tellPad := goodIn_r _ [20, 21, 11, 12, 13, 1, 22, 23, 24, 25, 26, 27, 28, 29, 30, 31, 32, 33, 34, 35, 36, 37, 15, 9, 16, 38, 39, 40, 41, 42, 43, 44, 45, 46, 47, 48, 49, 50, 51, 52, 53, 54, 55, 56, 57, 58, 59, 60, 61, 62, 63, 64, 65, 66, 67, 68, 69, 70, 71, 72, 73, 74, 75, 76, 77, 78, 79, 80, 81, 82, 83, 84, 85, 86, 87, 88, 89, 90, 91, 92, 93, 94, 95, 96, 97, 98, 99, 100, 101, 102, 103, 104, 105, 106, 107, 108, 109, 110, 111, 112, 113, 114, 115, 116, 117, 118, 119, 120, 121, 122, 123, 124, 125, 126, 127, 128, 129, 130, 131, 132, 133, 134, 135, 136, 137, 138, 139, 140, 141, 142, 153, 154, 155, 156, 157, 158, 159, 160, 171, 172, 173, 174, 175, 176, 177, 178, 179, 180, 181, 161, 162, 163, 164, 165, 166, 167, 168, 169, 170, 182, 183, 184] rfl (by decide +kernel)
set_option maxRecDepth 20000 in
theorem gX10_behind_X10_tellPad : GoodIn wsX10_behind (wsV RX10 137 RX10 yX10_tellPad wsX10_tellPad) := goodIn_app (goodIn_r _ [17, 18, 19, 9] rfl (by decide +kernel)) ggX10_behind_X10_tellPad
set_option maxRecDepth 20000 in
theorem ggX10_behind_X6_of : GoodIn wsX10_behind wsX6_of := goodIn_r _ [128, 81, 184] rfl (by decide +kernel)
set_option maxRecDepth 20000 in
theorem gX10_behind_X6_of : GoodIn wsX10_behind (wsV RX10 116 RX6 yX6_of wsX6_of) := goodIn_app (goodIn_r _ [143, 126, 127, 79] rfl (by decide +kernel)) ggX10_behind_X6_of
set_option maxRecDepth 20000 in
theorem ggX10_behind_X10_at : GoodIn wsX10_behind wsX10_at := goodIn_r _ [134] rfl (by decide +kernel)
set_option maxRecDepth 20000 in
theorem gX10_behind_X10_at : GoodIn wsX10_behind (va_wsS RX10 158 yX10_at wsX10_at) := goodIn_app (goodIn_r _ [144, 133, 9] rfl (by decide +kernel)) ggX10_behind_X10_at
set_option maxRecDepth 20000 in
theorem ggX10_behind_X4_isDark : GoodIn wsX10_behind wsX4_isDark := goodIn_r _ [148, 149, 150, 151, 67, 152, 70, 106, 107, 108, 109, 69, 71, 72, 110, 111, 112, 113, 73, 74, 75, 175, 176, 177, 178, 179, 180, 181] rfl (by decide +kernel)
set_option maxRecDepth 20000 in
theorem gX10_behind_X4_isDark : GoodIn wsX10_behind (wsV RX10 164 RX4 yX4_isDark wsX4_isDark) := goodIn_app (goodIn_r _ [145, 146, 147, 67] rfl (by decide +kernel)) ggX10_behind_X4_isDark
theorem dX10_behind_0 : decode cX10_behind 0 = .ok (.aload_n 0, 1) := by decide +kernel
theorem dX10_behind_1 : decode cX10_behind 1 = .ok (.iload_n 1, 1) := by decide +kernel
theorem dX10_behind_2 : decode cX10_behind 2 = .ok (.invokevirtual 112, 3) := by decide +kernel
theorem dX10_behind_5 : decode cX10_behind 5 = .ok (.ifCond .ne 5, 3) := by decide +kernel
theorem dX10_behind_8 : decode cX10_behind 8 = .ok (.iconst (-1), 1) := by decide +kernel
theorem dX10_behind_9 : decode cX10_behind 9 = .ok (.ireturn, 1) := by decide +kernel
theorem dX10_behind_10 : decode cX10_behind 10 = .ok (.iload_n 2, 1) := by decide +kernel
theorem dX10_behind_11 : decode cX10_behind 11 = .ok (.iconst 0, 1) := by decide +kernel
theorem dX10_behind_12 : decode cX10_behind 12 = .ok (.iconst 2, 1) := by decide +kernel
theorem dX10_behind_13 : decode cX10_behind 13 = .ok (.invokestatic 62, 3) := by decide +kernel
theorem dX10_behind_16 : decode cX10_behind 16 = .ok (.ifCond .ne 6, 3) := by decide +kernel
theorem dX10_behind_19 : decode cX10_behind 19 = .ok (.bipush (-2), 2) := by decide +kernel
theorem dX10_behind_21 : decode cX10_behind 21 = .ok (.ireturn, 1) := by decide +kernel
theorem dX10_behind_22 : decode cX10_behind 22 = .ok (.aload_n 0, 1) := by decide +kernel
theorem dX10_behind_23 : decode cX10_behind 23 = .ok (.invokevirtual 137, 3) := by decide +kernel
theorem dX10_behind_26 : decode cX10_behind 26 = .ok (.istore_n 3, 1) := by decide +kernel
theorem dX10_behind_27 : decode cX10_behind 27 = .ok (.iload_n 3, 1) := by decide +kernel
theorem dX10_behind_28 : decode cX10_behind 28 = .ok (.ifCond .eq 5, 3) := by decide +kernel
theorem dX10_behind_31 : decode cX10_behind 31 = .ok (.iload_n 3, 1) := by decide +kernel
theorem dX10_behind_32 : decode cX10_behind 32 = .ok (.ireturn, 1) := by decide +kernel
theorem dX10_behind_33 : decode cX10_behind 33 = .ok (.iload_n 2, 1) := by decide +kernel
theorem dX10_behind_34 : decode cX10_behind 34 = .ok (.ifCond .ne 16, 3) := by decide +kernel
theorem dX10_behind_37 : decode cX10_behind 37 = .ok (.aload_n 0, 1) := by decide +kernel
theorem dX10_behind_38 : decode cX10_behind 38 = .ok (.getfield 30, 3) := by decide +kernel
theorem dX10_behind_41 : decode cX10_behind 41 = .ok (.getfield 153, 3) := by decide +kernel
theorem dX10_behind_44 : decode cX10_behind 44 = .ok (.iload_n 1, 1) := by decide +kernel
theorem dX10_behind_45 : decode cX10_behind 45 = .ok (.iconst 2, 1) := by decide +kernel
theorem dX10_behind_46 : decode cX10_behind 46 = .ok (.invokevirtual 116, 3) := by decide +kernel
theorem dX10_behind_49 : decode cX10_behind 49 = .ok (.ireturn, 1) := by decide +kernel
theorem dX10_behind_50 : decode cX10_behind 50 = .ok (.iload_n 2, 1) := by decide +kernel
theorem dX10_behind_51 : decode cX10_behind 51 = .ok (.iconst 1, 1) := by decide +kernel
theorem dX10_behind_52 : decode cX10_behind 52 = .ok (.if_icmp .ne 15, 3) := by decide +kernel
theorem dX10_behind_55 : decode cX10_behind 55 = .ok (.aload_n 0, 1) := by decide +kernel
theorem dX10_behind_56 : decode cX10_behind 56 = .ok (.getfield 30, 3) := by decide +kernel
theorem dX10_behind_59 : decode cX10_behind 59 = .ok (.getfield 154, 3) := by decide +kernel
theorem dX10_behind_62 : decode cX10_behind 62 = .ok (.iload_n 1, 1) := by decide +kernel
theorem dX10_behind_63 : decode cX10_behind 63 = .ok (.invokestatic 158, 3) := by decide +kernel
theorem dX10_behind_66 : decode cX10_behind 66 = .ok (.ireturn, 1) := by decide +kernel
theorem dX10_behind_67 : decode cX10_behind 67 = .ok (.aload_n 0, 1) := by decide +kernel
theorem dX10_behind_68 : decode cX10_behind 68 = .ok (.getfield 30, 3) := by decide +kernel
theorem dX10_behind_71 : decode cX10_behind 71 = .ok (.getfield 162, 3) := by decide +kernel
theorem dX10_behind_74 : decode cX10_behind 74 = .ok (.iload_n 1, 1) := by decide +kernel
theorem dX10_behind_75 : decode cX10_behind 75 = .ok (.aload_n 0, 1) := by decide +kernel
theorem dX10_behind_76 : decode cX10_behind 76 = .ok (.getfield 30, 3) := by decide +kernel
theorem dX10_behind_79 : decode cX10_behind 79 = .ok (.getfield 163, 3) := by decide +kernel
theorem dX10_behind_82 : decode cX10_behind 82 = .ok (.invokevirtual 164, 3) := by decide +kernel
theorem dX10_behind_85 : decode cX10_behind 85 = .ok (.ifCond .eq 7, 3) := by decide +kernel
theorem dX10_behind_88 : decode cX10_behind 88 = .ok (.iconst 0, 1) := by decide +kernel
theorem dX10_behind_89 : decode cX10_behind 89 = .ok (.goto 4, 3) := by decide +kernel
theorem dX10_behind_92 : decode cX10_behind 92 = .ok (.iconst 1, 1) := by decide +kernel
theorem dX10_behind_93 : decode cX10_behind 93 = .ok (.ireturn, 1) := by decide +kernel
set_option maxRecDepth 20000 in
theorem ggX10_done_X10_tellPad : GoodIn wsX10_done wsX10_tellPad := goodIn_r _ [14, 7, 1, 15, 16, 3, 17, 18, 19, 20, 21, 22, 23, 24, 25, 26, 27, 28, 29, 30, 31, 32, 33, 13, 34, 35, 36, 37, 38, 39, 40, 41, 42, 43, 44, 45, 46, 47, 48, 49, 50, 51, 52, 53, 54, 55, 56, 57, 58, 59, 60, 61, 62, 63, 64, 65, 66, 67, 68, 69, 70, 71, 72, 73, 74, 75, 76, 77, 78, 79, 80, 81, 82, 83, 84, 85, 86, 87, 88, 89, 90, 91, 92, 93, 94, 95, 96, 97, 98, 99, 100, 101, 102, 103, 104, 105, 106, 107, 108, 109, 110, 111, 112, 113, 114, 115, 116, 117, 118, 119, 120, 121, 122, 123, 124, 125, 126, 127, 128, 129, 130, 131, 132, 133, 134, 135, 136, 137, 138, 139, 141, 142, 143, 144, 145, 146, 147, 148, 149, 150, 151, 152, 165, 166, 167, 168, 169, 170, 171, 153, 154, 155, 156, 157, 158, 159, 160, 161, 162, 163, 164, 172] rfl (by decide +kernel)
set_option maxRecDepth 20000 in
theorem gX10_done_X10_tellPad : GoodIn wsX10_done (wsV RX10 137 RX10 yX10_tellPad wsX10_tellPad) := goodIn_app (goodIn_r _ [10, 11, 12, 13] rfl (by decide +kernel)) ggX10_done_X10_tellPad
set_option maxRecDepth 20000 in
theorem ggX10_done_X6_takeFrom : GoodIn wsX10_done wsX6_takeFrom := goodIn_r _ [77, 78, 79, 13, 80, 172] rfl (by decide +kernel)
set_option maxRecDepth 20000 in
theorem gX10_done_X6_takeFrom : GoodIn wsX10_done (wsV RX10 167 RX6 yX6_takeFrom wsX6_takeFrom) := goodIn_app (goodIn_r _ [140, 74, 75, 76] rfl (by decide +kernel)) ggX10_done_X6_takeFrom
theorem dX10_done_0 : decode cX10_done 0 = .ok (.aload_n 0, 1) := by decide +kernel
theorem dX10_done_1 : decode cX10_done 1 = .ok (.invokevirtual 137, 3) := by decide +kernel
theorem dX10_done_4 : decode cX10_done 4 = .ok (.istore_n 1, 1) := by decide +kernel
theorem dX10_done_5 : decode cX10_done 5 = .ok (.iload_n 1, 1) := by decide +kernel
theorem dX10_done_6 : decode cX10_done 6 = .ok (.ifCond .eq 5, 3) := by decide +kernel
theorem dX10_done_9 : decode cX10_done 9 = .ok (.iload_n 1, 1) := by decide +kernel
theorem dX10_done_10 : decode cX10_done 10 = .ok (.ireturn, 1) := by decide +kernel
theorem dX10_done_11 : decode cX10_done 11 = .ok (.aload_n 0, 1) := by decide +kernel
theorem dX10_done_12 : decode cX10_done 12 = .ok (.getfield 10, 3) := by decide +kernel
theorem dX10_done_15 : decode cX10_done 15 = .ok (.getfield 79, 3) := by decide +kernel
theorem dX10_done_18 : decode cX10_done 18 = .ok (.aload_n 0, 1) := by decide +kernel
theorem dX10_done_19 : decode cX10_done 19 = .ok (.getfield 30, 3) := by decide +kernel
theorem dX10_done_22 : decode cX10_done 22 = .ok (.getfield 153, 3) := by decide +kernel
theorem dX10_done_25 : decode cX10_done 25 = .ok (.invokevirtual 167, 3) := by decide +kernel
theorem dX10_done_28 : decode cX10_done 28 = .ok (.aload_n 0, 1) := by decide +kernel
theorem dX10_done_29 : decode cX10_done 29 = .ok (.getfield 10, 3) := by decide +kernel
theorem dX10_done_32 : decode cX10_done 32 = .ok (.aload_n 0, 1) := by decide +kernel
theorem dX10_done_33 : decode cX10_done 33 = .ok (.getfield 30, 3) := by decide +kernel
theorem dX10_done_36 : decode cX10_done 36 = .ok (.getfield 163, 3) := by decide +kernel
theorem dX10_done_39 : decode cX10_done 39 = .ok (.putfield 97, 3) := by decide +kernel
theorem dX10_done_42 : decode cX10_done 42 = .ok (.aload_n 0, 1) := by decide +kernel
theorem dX10_done_43 : decode cX10_done 43 = .ok (.getfield 23, 3) := by decide +kernel
theorem dX10_done_46 : decode cX10_done 46 = .ok (.iconst 0, 1) := by decide +kernel
theorem dX10_done_47 : decode cX10_done 47 = .ok (.putfield 133, 3) := by decide +kernel
theorem dX10_done_50 : decode cX10_done 50 = .ok (.aload_n 0, 1) := by decide +kernel
theorem dX10_done_51 : decode cX10_done 51 = .ok (.getfield 30, 3) := by decide +kernel
theorem dX10_done_54 : decode cX10_done 54 = .ok (.getfield 171, 3) := by decide +kernel
theorem dX10_done_57 : decode cX10_done 57 = .ok (.ireturn, 1) := by decide +kernel
set_option maxRecDepth 20000 in
theorem ggX10_lit_X10_hasLand : GoodIn wsX10_lit wsX10_hasLand := goodIn_r _ [7, 1, 2, 8, 9, 10, 6, 11, 40, 41, 42, 43, 44, 45, 46, 47, 48, 49, 50, 51, 52, 53, 54, 55, 56, 57, 58] rfl (by decide +kernel)
set_option maxRecDepth 20000 in
theorem gX10_lit_X10_hasLand : GoodIn wsX10_lit (wsV RX10 112 RX10 yX10_hasLand wsX10_hasLand) := goodIn_app (goodIn_r _ [3, 4, 5, 6] rfl (by decide +kernel)) ggX10_lit_X10_hasLand
set_option maxRecDepth 20000 in
theorem ggX10_lit_X10_isYear : GoodIn wsX10_lit wsX10_isYear := goodIn_r _ [14, 15, 9, 10, 6, 11] rfl (by decide +kernel)
set_option maxRecDepth 20000 in
theorem gX10_lit_X10_isYear : GoodIn wsX10_lit (va_wsS RX10 174 yX10_isYear wsX10_isYear) := goodIn_app (goodIn_r _ [12, 13, 6] rfl (by decide +kernel)) ggX10_lit_X10_isYear
set_option maxRecDepth 20000 in
theorem ggX10_lit_X4_isDark : GoodIn wsX10_lit wsX4_isDark := goodIn_r _ [20, 21, 22, 23, 19, 24, 25, 26, 27, 28, 29, 30, 31, 32, 33, 34, 35, 36, 37, 38, 39, 52, 53, 54, 55, 56, 57, 58] rfl (by decide +kernel)
set_option maxRecDepth 20000 in
theorem gX10_lit_X4_isDark : GoodIn wsX10_lit (wsV RX10 164 RX4 yX4_isDark wsX4_isDark) := goodIn_app (goodIn_r _ [16, 17, 18, 19] rfl (by decide +kernel)) ggX10_lit_X4_isDark
theorem dX10_lit_0 : decode cX10_lit 0 = .ok (.aload_n 0, 1) := by decide +kernel
theorem dX10_lit_1 : decode cX10_lit 1 = .ok (.iload_n 1, 1) := by decide +kernel
theorem dX10_lit_2 : decode cX10_lit 2 = .ok (.invokevirtual 112, 3) := by decide +kernel
theorem dX10_lit_5 : decode cX10_lit 5 = .ok (.ifCond .ne 5, 3) := by decide +kernel
theorem dX10_lit_8 : decode cX10_lit 8 = .ok (.iconst (-1), 1) := by decide +kernel
theorem dX10_lit_9 : decode cX10_lit 9 = .ok (.ireturn, 1) := by decide +kernel
theorem dX10_lit_10 : decode cX10_lit 10 = .ok (.iload_n 2, 1) := by decide +kernel
theorem dX10_lit_11 : decode cX10_lit 11 = .ok (.invokestatic 174, 3) := by decide +kernel
theorem dX10_lit_14 : decode cX10_lit 14 = .ok (.ifCond .ne 6, 3) := by decide +kernel
theorem dX10_lit_17 : decode cX10_lit 17 = .ok (.bipush (-2), 2) := by decide +kernel
theorem dX10_lit_19 : decode cX10_lit 19 = .ok (.ireturn, 1) := by decide +kernel
theorem dX10_lit_20 : decode cX10_lit 20 = .ok (.aload_n 0, 1) := by decide +kernel
theorem dX10_lit_21 : decode cX10_lit 21 = .ok (.getfield 10, 3) := by decide +kernel
theorem dX10_lit_24 : decode cX10_lit 24 = .ok (.getfield 66, 3) := by decide +kernel
theorem dX10_lit_27 : decode cX10_lit 27 = .ok (.iload_n 1, 1) := by decide +kernel
theorem dX10_lit_28 : decode cX10_lit 28 = .ok (.iload_n 2, 1) := by decide +kernel
theorem dX10_lit_29 : decode cX10_lit 29 = .ok (.invokevirtual 164, 3) := by decide +kernel
theorem dX10_lit_32 : decode cX10_lit 32 = .ok (.ifCond .eq 7, 3) := by decide +kernel
theorem dX10_lit_35 : decode cX10_lit 35 = .ok (.iconst 0, 1) := by decide +kernel
theorem dX10_lit_36 : decode cX10_lit 36 = .ok (.goto 4, 3) := by decide +kernel
theorem dX10_lit_39 : decode cX10_lit 39 = .ok (.iconst 1, 1) := by decide +kernel
theorem dX10_lit_40 : decode cX10_lit 40 = .ok (.ireturn, 1) := by decide +kernel
set_option maxRecDepth 20000 in
theorem ggX10_covered_X10_isYear : GoodIn wsX10_covered wsX10_isYear := goodIn_r _ [6, 7, 8, 9, 5, 10] rfl (by decide +kernel)
set_option maxRecDepth 20000 in
theorem gX10_covered_X10_isYear : GoodIn wsX10_covered (va_wsS RX10 174 yX10_isYear wsX10_isYear) := goodIn_app (goodIn_r _ [3, 4, 5] rfl (by decide +kernel)) ggX10_covered_X10_isYear
set_option maxRecDepth 20000 in
theorem ggX10_covered_X4_firstAt : GoodIn wsX10_covered wsX4_firstAt := goodIn_r _ [15, 16, 17, 18, 19, 32, 33, 34, 35, 36, 37, 38] rfl (by decide +kernel)
set_option maxRecDepth 20000 in
theorem gX10_covered_X4_firstAt : GoodIn wsX10_covered (wsV RX10 177 RX4 yX4_firstAt wsX4_firstAt) := goodIn_app (goodIn_r _ [11, 12, 13, 14] rfl (by decide +kernel)) ggX10_covered_X4_firstAt
theorem dX10_covered_0 : decode cX10_covered 0 = .ok (.iload_n 1, 1) := by decide +kernel
theorem dX10_covered_1 : decode cX10_covered 1 = .ok (.invokestatic 174, 3) := by decide +kernel
theorem dX10_covered_4 : decode cX10_covered 4 = .ok (.ifCond .eq 17, 3) := by decide +kernel
theorem dX10_covered_7 : decode cX10_covered 7 = .ok (.aload_n 0, 1) := by decide +kernel
theorem dX10_covered_8 : decode cX10_covered 8 = .ok (.getfield 10, 3) := by decide +kernel
theorem dX10_covered_11 : decode cX10_covered 11 = .ok (.getfield 66, 3) := by decide +kernel
theorem dX10_covered_14 : decode cX10_covered 14 = .ok (.iload_n 1, 1) := by decide +kernel
theorem dX10_covered_15 : decode cX10_covered 15 = .ok (.invokevirtual 177, 3) := by decide +kernel
theorem dX10_covered_18 : decode cX10_covered 18 = .ok (.goto 5, 3) := by decide +kernel
theorem dX10_covered_21 : decode cX10_covered 21 = .ok (.bipush (-2), 2) := by decide +kernel
theorem dX10_covered_23 : decode cX10_covered 23 = .ok (.ireturn, 1) := by decide +kernel
set_option maxRecDepth 20000 in
theorem ggX10_lits_X10_hasLand : GoodIn wsX10_lits wsX10_hasLand := goodIn_r _ [8, 2, 3, 9, 10, 11, 7, 12, 61, 62, 63, 64, 65, 66, 67, 68, 69, 70, 71, 72, 73, 74, 75, 76, 77, 78, 79] rfl (by decide +kernel)
set_option maxRecDepth 20000 in
theorem gX10_lits_X10_hasLand : GoodIn wsX10_lits (wsV RX10 112 RX10 yX10_hasLand wsX10_hasLand) := goodIn_app (goodIn_r _ [4, 5, 6, 7] rfl (by decide +kernel)) ggX10_lits_X10_hasLand
set_option maxRecDepth 20000 in
theorem ggX10_lits_X10_isYear : GoodIn wsX10_lits wsX10_isYear := goodIn_r _ [15, 16, 10, 11, 7, 12] rfl (by decide +kernel)
set_option maxRecDepth 20000 in
theorem gX10_lits_X10_isYear : GoodIn wsX10_lits (va_wsS RX10 174 yX10_isYear wsX10_isYear) := goodIn_app (goodIn_r _ [13, 14, 7] rfl (by decide +kernel)) ggX10_lits_X10_isYear
set_option maxRecDepth 20000 in
theorem ggX10_lits_X10_within : GoodIn wsX10_lits wsX10_within := goodIn_r _ [12] rfl (by decide +kernel)
set_option maxRecDepth 20000 in
theorem gX10_lits_X10_within : GoodIn wsX10_lits (va_wsS RX10 62 yX10_within wsX10_within) := goodIn_app (goodIn_r _ [10, 11, 7] rfl (by decide +kernel)) ggX10_lits_X10_within
set_option maxRecDepth 20000 in
theorem ggX10_lits_X4_period : GoodIn wsX10_lits wsX4_period := goodIn_r _ [21, 22, 23, 24, 25, 26, 20, 27, 28, 29, 30, 7, 31, 32, 33, 73, 74, 75, 76, 77, 78, 79] rfl (by decide +kernel)
set_option maxRecDepth 20000 in
theorem gX10_lits_X4_period : GoodIn wsX10_lits (wsV RX10 181 RX4 yX4_period wsX4_period) := goodIn_app (goodIn_r _ [17, 18, 19, 20] rfl (by decide +kernel)) ggX10_lits_X4_period
set_option maxRecDepth 20000 in
theorem ggX10_lits_X10_leftOver : GoodIn wsX10_lits wsX10_leftOver := goodIn_r _ [36] rfl (by decide +kernel)
set_option maxRecDepth 20000 in
theorem gX10_lits_X10_leftOver : GoodIn wsX10_lits (va_wsS RX10 184 yX10_leftOver wsX10_leftOver) := goodIn_app (goodIn_r _ [34, 35, 7] rfl (by decide +kernel)) ggX10_lits_X10_leftOver
set_option maxRecDepth 20000 in
theorem ggX10_lits_X4_countLit : GoodIn wsX10_lits wsX4_countLit := goodIn_r _ [40, 41, 42, 43, 20, 44, 45, 46, 47, 48, 29, 49, 50, 51, 52, 28, 22, 53, 54, 55, 56, 57, 23, 58, 59, 73, 74, 75, 76, 77, 78, 79] rfl (by decide +kernel)
set_option maxRecDepth 20000 in
theorem gX10_lits_X4_countLit : GoodIn wsX10_lits (wsV RX10 187 RX4 yX4_countLit wsX4_countLit) := goodIn_app (goodIn_r _ [37, 38, 39, 20] rfl (by decide +kernel)) ggX10_lits_X4_countLit
set_option maxRecDepth 20000 in
theorem ggX10_lits_X10_cut : GoodIn wsX10_lits wsX10_cut := goodIn_r _ [33] rfl (by decide +kernel)
set_option maxRecDepth 20000 in
theorem gX10_lits_X10_cut : GoodIn wsX10_lits (va_wsS RX10 191 yX10_cut wsX10_cut) := goodIn_app (goodIn_r _ [60, 32, 7] rfl (by decide +kernel)) ggX10_lits_X10_cut
theorem dX10_lits_0 : decode cX10_lits 0 = .ok (.aload_n 0, 1) := by decide +kernel
theorem dX10_lits_1 : decode cX10_lits 1 = .ok (.iload_n 1, 1) := by decide +kernel
theorem dX10_lits_2 : decode cX10_lits 2 = .ok (.invokevirtual 112, 3) := by decide +kernel
theorem dX10_lits_5 : decode cX10_lits 5 = .ok (.ifCond .ne 5, 3) := by decide +kernel
theorem dX10_lits_8 : decode cX10_lits 8 = .ok (.iconst (-1), 1) := by decide +kernel
theorem dX10_lits_9 : decode cX10_lits 9 = .ok (.ireturn, 1) := by decide +kernel
theorem dX10_lits_10 : decode cX10_lits 10 = .ok (.iload_n 2, 1) := by decide +kernel
theorem dX10_lits_11 : decode cX10_lits 11 = .ok (.invokestatic 174, 3) := by decide +kernel
theorem dX10_lits_14 : decode cX10_lits 14 = .ok (.ifCond .eq 13, 3) := by decide +kernel
theorem dX10_lits_17 : decode cX10_lits 17 = .ok (.iload_n 3, 1) := by decide +kernel
theorem dX10_lits_18 : decode cX10_lits 18 = .ok (.iconst 0, 1) := by decide +kernel
theorem dX10_lits_19 : decode cX10_lits 19 = .ok (.ldc 180, 2) := by decide +kernel
theorem dX10_lits_21 : decode cX10_lits 21 = .ok (.invokestatic 62, 3) := by decide +kernel
theorem dX10_lits_24 : decode cX10_lits 24 = .ok (.ifCond .ne 6, 3) := by decide +kernel
theorem dX10_lits_27 : decode cX10_lits 27 = .ok (.bipush (-2), 2) := by decide +kernel
theorem dX10_lits_29 : decode cX10_lits 29 = .ok (.ireturn, 1) := by decide +kernel
theorem dX10_lits_30 : decode cX10_lits 30 = .ok (.aload_n 0, 1) := by decide +kernel
theorem dX10_lits_31 : decode cX10_lits 31 = .ok (.getfield 10, 3) := by decide +kernel
theorem dX10_lits_34 : decode cX10_lits 34 = .ok (.getfield 66, 3) := by decide +kernel
theorem dX10_lits_37 : decode cX10_lits 37 = .ok (.astore 4, 2) := by decide +kernel
theorem dX10_lits_39 : decode cX10_lits 39 = .ok (.aload 4, 2) := by decide +kernel
theorem dX10_lits_41 : decode cX10_lits 41 = .ok (.invokevirtual 181, 3) := by decide +kernel
theorem dX10_lits_44 : decode cX10_lits 44 = .ok (.istore 5, 2) := by decide +kernel
theorem dX10_lits_46 : decode cX10_lits 46 = .ok (.aload 4, 2) := by decide +kernel
theorem dX10_lits_48 : decode cX10_lits 48 = .ok (.iload_n 1, 1) := by decide +kernel
theorem dX10_lits_49 : decode cX10_lits 49 = .ok (.iload_n 2, 1) := by decide +kernel
theorem dX10_lits_50 : decode cX10_lits 50 = .ok (.iload_n 3, 1) := by decide +kernel
theorem dX10_lits_51 : decode cX10_lits 51 = .ok (.iload 5, 2) := by decide +kernel
theorem dX10_lits_53 : decode cX10_lits 53 = .ok (.invokestatic 184, 3) := by decide +kernel
theorem dX10_lits_56 : decode cX10_lits 56 = .ok (.invokevirtual 187, 3) := by decide +kernel
theorem dX10_lits_59 : decode cX10_lits 59 = .ok (.istore 6, 2) := by decide +kernel
theorem dX10_lits_61 : decode cX10_lits 61 = .ok (.iload_n 3, 1) := by decide +kernel
theorem dX10_lits_62 : decode cX10_lits 62 = .ok (.iload 5, 2) := by decide +kernel
theorem dX10_lits_64 : decode cX10_lits 64 = .ok (.if_icmp .ge 8, 3) := by decide +kernel
theorem dX10_lits_67 : decode cX10_lits 67 = .ok (.iload 6, 2) := by decide +kernel
theorem dX10_lits_69 : decode cX10_lits 69 = .ok (.goto 22, 3) := by decide +kernel
theorem dX10_lits_72 : decode cX10_lits 72 = .ok (.iload 6, 2) := by decide +kernel
theorem dX10_lits_74 : decode cX10_lits 74 = .ok (.iload_n 3, 1) := by decide +kernel
theorem dX10_lits_75 : decode cX10_lits 75 = .ok (.iload 5, 2) := by decide +kernel
theorem dX10_lits_77 : decode cX10_lits 77 = .ok (.invokestatic 191, 3) := by decide +kernel
theorem dX10_lits_80 : decode cX10_lits 80 = .ok (.aload 4, 2) := by decide +kernel
theorem dX10_lits_82 : decode cX10_lits 82 = .ok (.iload_n 1, 1) := by decide +kernel
theorem dX10_lits_83 : decode cX10_lits 83 = .ok (.iload_n 2, 1) := by decide +kernel
theorem dX10_lits_84 : decode cX10_lits 84 = .ok (.iload 5, 2) := by decide +kernel
theorem dX10_lits_86 : decode cX10_lits 86 = .ok (.invokevirtual 187, 3) := by decide +kernel
theorem dX10_lits_89 : decode cX10_lits 89 = .ok (.imul, 1) := by decide +kernel
theorem dX10_lits_90 : decode cX10_lits 90 = .ok (.iadd, 1) := by decide +kernel
theorem dX10_lits_91 : decode cX10_lits 91 = .ok (.ireturn, 1) := by decide +kernel
set_option maxRecDepth 20000 in
theorem ggX10_next_X10_hasLand : GoodIn wsX10_next wsX10_hasLand := goodIn_r _ [7, 1, 2, 8, 9, 10, 6, 11, 56, 57, 58, 59, 60, 61, 62, 63, 64, 65, 66, 67, 68, 69, 70, 71, 72, 73, 74] rfl (by decide +kernel)
set_option maxRecDepth 20000 in
theorem gX10_next_X10_hasLand : GoodIn wsX10_next (wsV RX10 112 RX10 yX10_hasLand wsX10_hasLand) := goodIn_app (goodIn_r _ [3, 4, 5, 6] rfl (by decide +kernel)) ggX10_next_X10_hasLand
set_option maxRecDepth 20000 in
theorem ggX10_next_X10_isYear : GoodIn wsX10_next wsX10_isYear := goodIn_r _ [14, 15, 9, 10, 6, 11] rfl (by decide +kernel)
set_option maxRecDepth 20000 in
theorem gX10_next_X10_isYear : GoodIn wsX10_next (va_wsS RX10 174 yX10_isYear wsX10_isYear) := goodIn_app (goodIn_r _ [12, 13, 6] rfl (by decide +kernel)) ggX10_next_X10_isYear
set_option maxRecDepth 20000 in
theorem ggX10_next_X4_firstYear : GoodIn wsX10_next wsX4_firstYear := goodIn_r _ [20, 21, 22, 23, 19, 24, 25, 26, 27, 28, 29, 30, 31, 32, 33, 6, 34, 35, 36, 37, 38, 39, 40, 41, 42, 43, 44, 45, 46, 47, 48, 49, 50, 51, 52, 53, 54, 55, 68, 69, 70, 71, 72, 73, 74] rfl (by decide +kernel)
set_option maxRecDepth 20000 in
theorem gX10_next_X4_firstYear : GoodIn wsX10_next (wsV RX10 194 RX4 yX4_firstYear wsX4_firstYear) := goodIn_app (goodIn_r _ [16, 17, 18, 19] rfl (by decide +kernel)) ggX10_next_X4_firstYear
theorem dX10_next_0 : decode cX10_next 0 = .ok (.aload_n 0, 1) := by decide +kernel
theorem dX10_next_1 : decode cX10_next 1 = .ok (.iload_n 1, 1) := by decide +kernel
theorem dX10_next_2 : decode cX10_next 2 = .ok (.invokevirtual 112, 3) := by decide +kernel
theorem dX10_next_5 : decode cX10_next 5 = .ok (.ifCond .ne 5, 3) := by decide +kernel
theorem dX10_next_8 : decode cX10_next 8 = .ok (.iconst (-1), 1) := by decide +kernel
theorem dX10_next_9 : decode cX10_next 9 = .ok (.ireturn, 1) := by decide +kernel
theorem dX10_next_10 : decode cX10_next 10 = .ok (.iload_n 2, 1) := by decide +kernel
theorem dX10_next_11 : decode cX10_next 11 = .ok (.invokestatic 174, 3) := by decide +kernel
theorem dX10_next_14 : decode cX10_next 14 = .ok (.ifCond .ne 6, 3) := by decide +kernel
theorem dX10_next_17 : decode cX10_next 17 = .ok (.bipush (-2), 2) := by decide +kernel
theorem dX10_next_19 : decode cX10_next 19 = .ok (.ireturn, 1) := by decide +kernel
theorem dX10_next_20 : decode cX10_next 20 = .ok (.aload_n 0, 1) := by decide +kernel
theorem dX10_next_21 : decode cX10_next 21 = .ok (.getfield 10, 3) := by decide +kernel
theorem dX10_next_24 : decode cX10_next 24 = .ok (.getfield 66, 3) := by decide +kernel
theorem dX10_next_27 : decode cX10_next 27 = .ok (.iload_n 1, 1) := by decide +kernel
theorem dX10_next_28 : decode cX10_next 28 = .ok (.iload_n 2, 1) := by decide +kernel
theorem dX10_next_29 : decode cX10_next 29 = .ok (.iload_n 3, 1) := by decide +kernel
theorem dX10_next_30 : decode cX10_next 30 = .ok (.invokevirtual 194, 3) := by decide +kernel
theorem dX10_next_33 : decode cX10_next 33 = .ok (.ireturn, 1) := by decide +kernel
set_option maxRecDepth 20000 in
theorem ggX10_longest_X10_hasLand : GoodIn wsX10_longest wsX10_hasLand := goodIn_r _ [7, 1, 2, 8, 9, 10, 6, 11, 63, 64, 65, 66, 67, 68, 69, 70, 71, 72, 73, 74, 75, 76, 77, 78, 79, 80, 81] rfl (by decide +kernel)
set_option maxRecDepth 20000 in
theorem gX10_longest_X10_hasLand : GoodIn wsX10_longest (wsV RX10 112 RX10 yX10_hasLand wsX10_hasLand) := goodIn_app (goodIn_r _ [3, 4, 5, 6] rfl (by decide +kernel)) ggX10_longest_X10_hasLand
set_option maxRecDepth 20000 in
theorem ggX10_longest_X10_isYear : GoodIn wsX10_longest wsX10_isYear := goodIn_r _ [14, 15, 9, 10, 6, 11] rfl (by decide +kernel)
set_option maxRecDepth 20000 in
theorem gX10_longest_X10_isYear : GoodIn wsX10_longest (va_wsS RX10 174 yX10_isYear wsX10_isYear) := goodIn_app (goodIn_r _ [12, 13, 6] rfl (by decide +kernel)) ggX10_longest_X10_isYear
set_option maxRecDepth 20000 in
theorem ggX10_longest_X10_within : GoodIn wsX10_longest wsX10_within := goodIn_r _ [11] rfl (by decide +kernel)
set_option maxRecDepth 20000 in
theorem gX10_longest_X10_within : GoodIn wsX10_longest (va_wsS RX10 62 yX10_within wsX10_within) := goodIn_app (goodIn_r _ [9, 10, 6] rfl (by decide +kernel)) ggX10_longest_X10_within
set_option maxRecDepth 20000 in
theorem ggX10_longest_X4_longestDark : GoodIn wsX10_longest wsX4_longestDark := goodIn_r _ [20, 21, 22, 23, 24, 25, 26, 27, 28, 29, 30, 19, 31, 32, 33, 34, 35, 36, 37, 38, 39, 40, 6, 41, 42, 43, 44, 45, 46, 47, 48, 49, 50, 51, 52, 53, 54, 55, 56, 57, 58, 59, 60, 61, 62, 75, 76, 77, 78, 79, 80, 81] rfl (by decide +kernel)
set_option maxRecDepth 20000 in
theorem gX10_longest_X4_longestDark : GoodIn wsX10_longest (wsV RX10 198 RX4 yX4_longestDark wsX4_longestDark) := goodIn_app (goodIn_r _ [16, 17, 18, 19] rfl (by decide +kernel)) ggX10_longest_X4_longestDark
