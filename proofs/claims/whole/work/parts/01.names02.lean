theorem dX4_firstAt_32 : decode cX4_firstAt 32 = .ok (.getfield 18, 3) := by decide +kernel
theorem dX4_firstAt_35 : decode cX4_firstAt 35 = .ok (.idiv, 1) := by decide +kernel
theorem dX4_firstAt_36 : decode cX4_firstAt 36 = .ok (.iconst 2, 1) := by decide +kernel
theorem dX4_firstAt_37 : decode cX4_firstAt 37 = .ok (.iload_n 2, 1) := by decide +kernel
theorem dX4_firstAt_38 : decode cX4_firstAt 38 = .ok (.imul, 1) := by decide +kernel
theorem dX4_firstAt_39 : decode cX4_firstAt 39 = .ok (.irem, 1) := by decide +kernel
theorem dX4_firstAt_40 : decode cX4_firstAt 40 = .ok (.istore_n 3, 1) := by decide +kernel
theorem dX4_firstAt_41 : decode cX4_firstAt 41 = .ok (.iload_n 3, 1) := by decide +kernel
theorem dX4_firstAt_42 : decode cX4_firstAt 42 = .ok (.iload_n 2, 1) := by decide +kernel
theorem dX4_firstAt_43 : decode cX4_firstAt 43 = .ok (.if_icmp .le 11, 3) := by decide +kernel
theorem dX4_firstAt_46 : decode cX4_firstAt 46 = .ok (.iconst 2, 1) := by decide +kernel
theorem dX4_firstAt_47 : decode cX4_firstAt 47 = .ok (.iload_n 2, 1) := by decide +kernel
theorem dX4_firstAt_48 : decode cX4_firstAt 48 = .ok (.imul, 1) := by decide +kernel
theorem dX4_firstAt_49 : decode cX4_firstAt 49 = .ok (.iload_n 3, 1) := by decide +kernel
theorem dX4_firstAt_50 : decode cX4_firstAt 50 = .ok (.isub, 1) := by decide +kernel
theorem dX4_firstAt_51 : decode cX4_firstAt 51 = .ok (.goto 4, 3) := by decide +kernel
theorem dX4_firstAt_54 : decode cX4_firstAt 54 = .ok (.iload_n 3, 1) := by decide +kernel
theorem dX4_firstAt_55 : decode cX4_firstAt 55 = .ok (.ireturn, 1) := by decide +kernel
set_option maxRecDepth 20000 in
theorem ggX4_covers_X4_firstAt : GoodIn wsX4_covers wsX4_firstAt := goodIn_r _ [6, 7, 1, 8, 9, 10, 11, 12, 13, 14, 15, 16] rfl (by decide +kernel)
set_option maxRecDepth 20000 in
theorem gX4_covers_X4_firstAt : GoodIn wsX4_covers (wsV RX4 33 RX4 yX4_firstAt wsX4_firstAt) := goodIn_app (goodIn_r _ [2, 3, 4, 5] rfl (by decide +kernel)) ggX4_covers_X4_firstAt
theorem dX4_covers_0 : decode cX4_covers 0 = .ok (.aload_n 0, 1) := by decide +kernel
theorem dX4_covers_1 : decode cX4_covers 1 = .ok (.iload_n 2, 1) := by decide +kernel
theorem dX4_covers_2 : decode cX4_covers 2 = .ok (.invokevirtual 33, 3) := by decide +kernel
theorem dX4_covers_5 : decode cX4_covers 5 = .ok (.istore_n 3, 1) := by decide +kernel
theorem dX4_covers_6 : decode cX4_covers 6 = .ok (.iload_n 1, 1) := by decide +kernel
theorem dX4_covers_7 : decode cX4_covers 7 = .ok (.iload_n 3, 1) := by decide +kernel
theorem dX4_covers_8 : decode cX4_covers 8 = .ok (.if_icmp .lt 17, 3) := by decide +kernel
theorem dX4_covers_11 : decode cX4_covers 11 = .ok (.iload_n 1, 1) := by decide +kernel
theorem dX4_covers_12 : decode cX4_covers 12 = .ok (.iload_n 3, 1) := by decide +kernel
theorem dX4_covers_13 : decode cX4_covers 13 = .ok (.aload_n 0, 1) := by decide +kernel
theorem dX4_covers_14 : decode cX4_covers 14 = .ok (.getfield 15, 3) := by decide +kernel
theorem dX4_covers_17 : decode cX4_covers 17 = .ok (.iadd, 1) := by decide +kernel
theorem dX4_covers_18 : decode cX4_covers 18 = .ok (.if_icmp .ge 7, 3) := by decide +kernel
theorem dX4_covers_21 : decode cX4_covers 21 = .ok (.iconst 1, 1) := by decide +kernel
theorem dX4_covers_22 : decode cX4_covers 22 = .ok (.goto 4, 3) := by decide +kernel
theorem dX4_covers_25 : decode cX4_covers 25 = .ok (.iconst 0, 1) := by decide +kernel
theorem dX4_covers_26 : decode cX4_covers 26 = .ok (.ireturn, 1) := by decide +kernel
theorem dX4_hasSlit_0 : decode cX4_hasSlit 0 = .ok (.aload_n 0, 1) := by decide +kernel
theorem dX4_hasSlit_1 : decode cX4_hasSlit 1 = .ok (.getfield 24, 3) := by decide +kernel
theorem dX4_hasSlit_4 : decode cX4_hasSlit 4 = .ok (.ifCond .eq 28, 3) := by decide +kernel
theorem dX4_hasSlit_7 : decode cX4_hasSlit 7 = .ok (.iload_n 2, 1) := by decide +kernel
theorem dX4_hasSlit_8 : decode cX4_hasSlit 8 = .ok (.aload_n 0, 1) := by decide +kernel
theorem dX4_hasSlit_9 : decode cX4_hasSlit 9 = .ok (.getfield 27, 3) := by decide +kernel
theorem dX4_hasSlit_12 : decode cX4_hasSlit 12 = .ok (.imul, 1) := by decide +kernel
theorem dX4_hasSlit_13 : decode cX4_hasSlit 13 = .ok (.iload_n 1, 1) := by decide +kernel
theorem dX4_hasSlit_14 : decode cX4_hasSlit 14 = .ok (.aload_n 0, 1) := by decide +kernel
theorem dX4_hasSlit_15 : decode cX4_hasSlit 15 = .ok (.getfield 30, 3) := by decide +kernel
theorem dX4_hasSlit_18 : decode cX4_hasSlit 18 = .ok (.imul, 1) := by decide +kernel
theorem dX4_hasSlit_19 : decode cX4_hasSlit 19 = .ok (.iadd, 1) := by decide +kernel
theorem dX4_hasSlit_20 : decode cX4_hasSlit 20 = .ok (.aload_n 0, 1) := by decide +kernel
theorem dX4_hasSlit_21 : decode cX4_hasSlit 21 = .ok (.getfield 24, 3) := by decide +kernel
theorem dX4_hasSlit_24 : decode cX4_hasSlit 24 = .ok (.irem, 1) := by decide +kernel
theorem dX4_hasSlit_25 : decode cX4_hasSlit 25 = .ok (.ifCond .ne 7, 3) := by decide +kernel
theorem dX4_hasSlit_28 : decode cX4_hasSlit 28 = .ok (.iconst 1, 1) := by decide +kernel
theorem dX4_hasSlit_29 : decode cX4_hasSlit 29 = .ok (.goto 4, 3) := by decide +kernel
theorem dX4_hasSlit_32 : decode cX4_hasSlit 32 = .ok (.iconst 0, 1) := by decide +kernel
theorem dX4_hasSlit_33 : decode cX4_hasSlit 33 = .ok (.ireturn, 1) := by decide +kernel
set_option maxRecDepth 20000 in
theorem ggX4_isDark_X4_covers : GoodIn wsX4_isDark wsX4_covers := goodIn_r _ [5, 6, 7, 8, 9, 4, 10, 11, 12, 13, 21, 22, 23, 24, 25, 26, 27] rfl (by decide +kernel)
set_option maxRecDepth 20000 in
theorem gX4_isDark_X4_covers : GoodIn wsX4_isDark (wsV RX4 37 RX4 yX4_covers wsX4_covers) := goodIn_app (goodIn_r _ [1, 2, 3, 4] rfl (by decide +kernel)) ggX4_isDark_X4_covers
set_option maxRecDepth 20000 in
theorem ggX4_isDark_X4_hasSlit : GoodIn wsX4_isDark wsX4_hasSlit := goodIn_r _ [17, 18, 19, 20, 21, 22, 23, 24, 25, 26, 27] rfl (by decide +kernel)
set_option maxRecDepth 20000 in
theorem gX4_isDark_X4_hasSlit : GoodIn wsX4_isDark (wsV RX4 41 RX4 yX4_hasSlit wsX4_hasSlit) := goodIn_app (goodIn_r _ [14, 15, 16, 4] rfl (by decide +kernel)) ggX4_isDark_X4_hasSlit
theorem dX4_isDark_0 : decode cX4_isDark 0 = .ok (.aload_n 0, 1) := by decide +kernel
theorem dX4_isDark_1 : decode cX4_isDark 1 = .ok (.iload_n 1, 1) := by decide +kernel
theorem dX4_isDark_2 : decode cX4_isDark 2 = .ok (.iload_n 2, 1) := by decide +kernel
theorem dX4_isDark_3 : decode cX4_isDark 3 = .ok (.invokevirtual 37, 3) := by decide +kernel
theorem dX4_isDark_6 : decode cX4_isDark 6 = .ok (.ifCond .eq 16, 3) := by decide +kernel
theorem dX4_isDark_9 : decode cX4_isDark 9 = .ok (.aload_n 0, 1) := by decide +kernel
theorem dX4_isDark_10 : decode cX4_isDark 10 = .ok (.iload_n 1, 1) := by decide +kernel
theorem dX4_isDark_11 : decode cX4_isDark 11 = .ok (.iload_n 2, 1) := by decide +kernel
theorem dX4_isDark_12 : decode cX4_isDark 12 = .ok (.invokevirtual 41, 3) := by decide +kernel
theorem dX4_isDark_15 : decode cX4_isDark 15 = .ok (.ifCond .ne 7, 3) := by decide +kernel
theorem dX4_isDark_18 : decode cX4_isDark 18 = .ok (.iconst 1, 1) := by decide +kernel
theorem dX4_isDark_19 : decode cX4_isDark 19 = .ok (.goto 4, 3) := by decide +kernel
theorem dX4_isDark_22 : decode cX4_isDark 22 = .ok (.iconst 0, 1) := by decide +kernel
theorem dX4_isDark_23 : decode cX4_isDark 23 = .ok (.ireturn, 1) := by decide +kernel
set_option maxRecDepth 20000 in
theorem ggX4_isStrike_X4_isDark : GoodIn wsX4_isStrike wsX4_isDark := goodIn_r _ [5, 6, 7, 8, 4, 9, 10, 11, 12, 13, 14, 15, 16, 17, 18, 19, 20, 21, 22, 23, 24, 25, 26, 27, 28, 29, 30, 31] rfl (by decide +kernel)
set_option maxRecDepth 20000 in
theorem gX4_isStrike_X4_isDark : GoodIn wsX4_isStrike (wsV RX4 44 RX4 yX4_isDark wsX4_isDark) := goodIn_app (goodIn_r _ [1, 2, 3, 4] rfl (by decide +kernel)) ggX4_isStrike_X4_isDark
theorem dX4_isStrike_0 : decode cX4_isStrike 0 = .ok (.aload_n 0, 1) := by decide +kernel
theorem dX4_isStrike_1 : decode cX4_isStrike 1 = .ok (.iload_n 1, 1) := by decide +kernel
theorem dX4_isStrike_2 : decode cX4_isStrike 2 = .ok (.iload_n 3, 1) := by decide +kernel
theorem dX4_isStrike_3 : decode cX4_isStrike 3 = .ok (.invokevirtual 44, 3) := by decide +kernel
theorem dX4_isStrike_6 : decode cX4_isStrike 6 = .ok (.ifCond .ne 16, 3) := by decide +kernel
theorem dX4_isStrike_9 : decode cX4_isStrike 9 = .ok (.aload_n 0, 1) := by decide +kernel
theorem dX4_isStrike_10 : decode cX4_isStrike 10 = .ok (.iload_n 2, 1) := by decide +kernel
theorem dX4_isStrike_11 : decode cX4_isStrike 11 = .ok (.iload_n 3, 1) := by decide +kernel
theorem dX4_isStrike_12 : decode cX4_isStrike 12 = .ok (.invokevirtual 44, 3) := by decide +kernel
theorem dX4_isStrike_15 : decode cX4_isStrike 15 = .ok (.ifCond .eq 7, 3) := by decide +kernel
theorem dX4_isStrike_18 : decode cX4_isStrike 18 = .ok (.iconst 1, 1) := by decide +kernel
theorem dX4_isStrike_19 : decode cX4_isStrike 19 = .ok (.goto 4, 3) := by decide +kernel
theorem dX4_isStrike_22 : decode cX4_isStrike 22 = .ok (.iconst 0, 1) := by decide +kernel
theorem dX4_isStrike_23 : decode cX4_isStrike 23 = .ok (.ireturn, 1) := by decide +kernel
set_option maxRecDepth 20000 in
theorem ggX4_darkAt_X4_firstAt : GoodIn wsX4_darkAt wsX4_firstAt := goodIn_r _ [6, 7, 1, 8, 9, 17, 18, 19, 20, 21, 22, 23] rfl (by decide +kernel)
set_option maxRecDepth 20000 in
theorem gX4_darkAt_X4_firstAt : GoodIn wsX4_darkAt (wsV RX4 33 RX4 yX4_firstAt wsX4_firstAt) := goodIn_app (goodIn_r _ [2, 3, 4, 5] rfl (by decide +kernel)) ggX4_darkAt_X4_firstAt
set_option maxRecDepth 20000 in
theorem ggX4_darkAt_X4_hasSlit : GoodIn wsX4_darkAt wsX4_hasSlit := goodIn_r _ [13, 14, 15, 16, 17, 18, 19, 20, 21, 22, 23] rfl (by decide +kernel)
set_option maxRecDepth 20000 in
theorem gX4_darkAt_X4_hasSlit : GoodIn wsX4_darkAt (wsV RX4 41 RX4 yX4_hasSlit wsX4_hasSlit) := goodIn_app (goodIn_r _ [10, 11, 12, 5] rfl (by decide +kernel)) ggX4_darkAt_X4_hasSlit
theorem dX4_darkAt_0 : decode cX4_darkAt 0 = .ok (.aload_n 0, 1) := by decide +kernel
theorem dX4_darkAt_1 : decode cX4_darkAt 1 = .ok (.iload_n 1, 1) := by decide +kernel
theorem dX4_darkAt_2 : decode cX4_darkAt 2 = .ok (.invokevirtual 33, 3) := by decide +kernel
theorem dX4_darkAt_5 : decode cX4_darkAt 5 = .ok (.istore_n 2, 1) := by decide +kernel
theorem dX4_darkAt_6 : decode cX4_darkAt 6 = .ok (.iconst 0, 1) := by decide +kernel
theorem dX4_darkAt_7 : decode cX4_darkAt 7 = .ok (.istore_n 3, 1) := by decide +kernel
theorem dX4_darkAt_8 : decode cX4_darkAt 8 = .ok (.iload_n 2, 1) := by decide +kernel
theorem dX4_darkAt_9 : decode cX4_darkAt 9 = .ok (.istore 4, 2) := by decide +kernel
theorem dX4_darkAt_11 : decode cX4_darkAt 11 = .ok (.iload 4, 2) := by decide +kernel
theorem dX4_darkAt_13 : decode cX4_darkAt 13 = .ok (.iload_n 2, 1) := by decide +kernel
theorem dX4_darkAt_14 : decode cX4_darkAt 14 = .ok (.aload_n 0, 1) := by decide +kernel
theorem dX4_darkAt_15 : decode cX4_darkAt 15 = .ok (.getfield 15, 3) := by decide +kernel
theorem dX4_darkAt_18 : decode cX4_darkAt 18 = .ok (.iadd, 1) := by decide +kernel
theorem dX4_darkAt_19 : decode cX4_darkAt 19 = .ok (.if_icmp .ge 26, 3) := by decide +kernel
theorem dX4_darkAt_22 : decode cX4_darkAt 22 = .ok (.aload_n 0, 1) := by decide +kernel
theorem dX4_darkAt_23 : decode cX4_darkAt 23 = .ok (.iload 4, 2) := by decide +kernel
theorem dX4_darkAt_25 : decode cX4_darkAt 25 = .ok (.iload_n 1, 1) := by decide +kernel
theorem dX4_darkAt_26 : decode cX4_darkAt 26 = .ok (.invokevirtual 41, 3) := by decide +kernel
theorem dX4_darkAt_29 : decode cX4_darkAt 29 = .ok (.ifCond .ne 10, 3) := by decide +kernel
theorem dX4_darkAt_32 : decode cX4_darkAt 32 = .ok (.iload_n 3, 1) := by decide +kernel
theorem dX4_darkAt_33 : decode cX4_darkAt 33 = .ok (.iconst 1, 1) := by decide +kernel
theorem dX4_darkAt_34 : decode cX4_darkAt 34 = .ok (.iload 4, 2) := by decide +kernel
theorem dX4_darkAt_36 : decode cX4_darkAt 36 = .ok (.ishl, 1) := by decide +kernel
theorem dX4_darkAt_37 : decode cX4_darkAt 37 = .ok (.ior, 1) := by decide +kernel
theorem dX4_darkAt_38 : decode cX4_darkAt 38 = .ok (.istore_n 3, 1) := by decide +kernel
theorem dX4_darkAt_39 : decode cX4_darkAt 39 = .ok (.iinc 4 1, 3) := by decide +kernel
theorem dX4_darkAt_42 : decode cX4_darkAt 42 = .ok (.goto (-31), 3) := by decide +kernel
theorem dX4_darkAt_45 : decode cX4_darkAt 45 = .ok (.iload_n 3, 1) := by decide +kernel
theorem dX4_darkAt_46 : decode cX4_darkAt 46 = .ok (.ireturn, 1) := by decide +kernel
set_option maxRecDepth 20000 in
theorem ggX4_period_X4_turn : GoodIn wsX4_period wsX4_turn := goodIn_r _ [7, 8, 9, 15, 16, 17, 18, 19, 20, 21] rfl (by decide +kernel)
set_option maxRecDepth 20000 in
theorem gX4_period_X4_turn : GoodIn wsX4_period (wsV RX4 47 RX4 yX4_turn wsX4_turn) := goodIn_app (goodIn_r _ [3, 4, 5, 6] rfl (by decide +kernel)) ggX4_period_X4_turn
set_option maxRecDepth 20000 in
theorem ggX4_period_X10_greatestDivisor : GoodIn wsX4_period wsX10_greatestDivisor := goodIn_r _ [12] rfl (by decide +kernel)
set_option maxRecDepth 20000 in
theorem gX4_period_X10_greatestDivisor_n51 : GoodIn wsX4_period (wsX10_greatestDivisor) := ggX4_period_X10_greatestDivisor
set_option maxRecDepth 20000 in
theorem ggX4_period_X10_cut : GoodIn wsX4_period wsX10_cut := goodIn_r _ [14] rfl (by decide +kernel)
set_option maxRecDepth 20000 in
theorem gX4_period_X10_cut_n55 : GoodIn wsX4_period (wsX10_cut) := ggX4_period_X10_cut
theorem dX4_period_0 : decode cX4_period 0 = .ok (.aload_n 0, 1) := by decide +kernel
theorem dX4_period_1 : decode cX4_period 1 = .ok (.invokevirtual 47, 3) := by decide +kernel
theorem dX4_period_4 : decode cX4_period 4 = .ok (.aload_n 0, 1) := by decide +kernel
theorem dX4_period_5 : decode cX4_period 5 = .ok (.getfield 18, 3) := by decide +kernel
theorem dX4_period_8 : decode cX4_period 8 = .ok (.imul, 1) := by decide +kernel
theorem dX4_period_9 : decode cX4_period 9 = .ok (.istore_n 1, 1) := by decide +kernel
theorem dX4_period_10 : decode cX4_period 10 = .ok (.aload_n 0, 1) := by decide +kernel
theorem dX4_period_11 : decode cX4_period 11 = .ok (.getfield 24, 3) := by decide +kernel
theorem dX4_period_14 : decode cX4_period 14 = .ok (.ifCond .ne 7, 3) := by decide +kernel
theorem dX4_period_17 : decode cX4_period 17 = .ok (.iload_n 1, 1) := by decide +kernel
theorem dX4_period_18 : decode cX4_period 18 = .ok (.goto 23, 3) := by decide +kernel
theorem dX4_period_21 : decode cX4_period 21 = .ok (.iload_n 1, 1) := by decide +kernel
theorem dX4_period_22 : decode cX4_period 22 = .ok (.aload_n 0, 1) := by decide +kernel
theorem dX4_period_23 : decode cX4_period 23 = .ok (.getfield 24, 3) := by decide +kernel
theorem dX4_period_26 : decode cX4_period 26 = .ok (.iload_n 1, 1) := by decide +kernel
theorem dX4_period_27 : decode cX4_period 27 = .ok (.i2l, 1) := by decide +kernel
theorem dX4_period_28 : decode cX4_period 28 = .ok (.aload_n 0, 1) := by decide +kernel
theorem dX4_period_29 : decode cX4_period 29 = .ok (.getfield 24, 3) := by decide +kernel
theorem dX4_period_32 : decode cX4_period 32 = .ok (.i2l, 1) := by decide +kernel
theorem dX4_period_33 : decode cX4_period 33 = .ok (.invokestatic 51, 3) := by decide +kernel
theorem dX4_period_36 : decode cX4_period 36 = .ok (.l2i, 1) := by decide +kernel
theorem dX4_period_37 : decode cX4_period 37 = .ok (.invokestatic 55, 3) := by decide +kernel
theorem dX4_period_40 : decode cX4_period 40 = .ok (.imul, 1) := by decide +kernel
theorem dX4_period_41 : decode cX4_period 41 = .ok (.ireturn, 1) := by decide +kernel
set_option maxRecDepth 20000 in
theorem ggX4_countLit_X4_isDark : GoodIn wsX4_countLit wsX4_isDark := goodIn_r _ [5, 6, 7, 8, 4, 9, 10, 11, 12, 13, 14, 15, 16, 17, 18, 19, 20, 21, 22, 23, 24, 25, 26, 27, 28, 29, 30, 31] rfl (by decide +kernel)
set_option maxRecDepth 20000 in
theorem gX4_countLit_X4_isDark : GoodIn wsX4_countLit (wsV RX4 44 RX4 yX4_isDark wsX4_isDark) := goodIn_app (goodIn_r _ [1, 2, 3, 4] rfl (by decide +kernel)) ggX4_countLit_X4_isDark
theorem dX4_countLit_0 : decode cX4_countLit 0 = .ok (.iconst 0, 1) := by decide +kernel
theorem dX4_countLit_1 : decode cX4_countLit 1 = .ok (.istore 4, 2) := by decide +kernel
theorem dX4_countLit_3 : decode cX4_countLit 3 = .ok (.iconst 0, 1) := by decide +kernel
theorem dX4_countLit_4 : decode cX4_countLit 4 = .ok (.istore 5, 2) := by decide +kernel
theorem dX4_countLit_6 : decode cX4_countLit 6 = .ok (.iload 5, 2) := by decide +kernel
theorem dX4_countLit_8 : decode cX4_countLit 8 = .ok (.iload_n 3, 1) := by decide +kernel
theorem dX4_countLit_9 : decode cX4_countLit 9 = .ok (.if_icmp .ge 24, 3) := by decide +kernel
theorem dX4_countLit_12 : decode cX4_countLit 12 = .ok (.aload_n 0, 1) := by decide +kernel
theorem dX4_countLit_13 : decode cX4_countLit 13 = .ok (.iload_n 1, 1) := by decide +kernel
theorem dX4_countLit_14 : decode cX4_countLit 14 = .ok (.iload_n 2, 1) := by decide +kernel
theorem dX4_countLit_15 : decode cX4_countLit 15 = .ok (.iload 5, 2) := by decide +kernel
theorem dX4_countLit_17 : decode cX4_countLit 17 = .ok (.iadd, 1) := by decide +kernel
theorem dX4_countLit_18 : decode cX4_countLit 18 = .ok (.invokevirtual 44, 3) := by decide +kernel
theorem dX4_countLit_21 : decode cX4_countLit 21 = .ok (.ifCond .ne 6, 3) := by decide +kernel
theorem dX4_countLit_24 : decode cX4_countLit 24 = .ok (.iinc 4 1, 3) := by decide +kernel
theorem dX4_countLit_27 : decode cX4_countLit 27 = .ok (.iinc 5 1, 3) := by decide +kernel
theorem dX4_countLit_30 : decode cX4_countLit 30 = .ok (.goto (-24), 3) := by decide +kernel
theorem dX4_countLit_33 : decode cX4_countLit 33 = .ok (.iload 4, 2) := by decide +kernel
theorem dX4_countLit_35 : decode cX4_countLit 35 = .ok (.ireturn, 1) := by decide +kernel
set_option maxRecDepth 20000 in
theorem ggX4_countStrikes_X4_isStrike : GoodIn wsX4_countStrikes wsX4_isStrike := goodIn_r _ [5, 6, 7, 8, 4, 9, 10, 11, 12, 13, 14, 15, 16, 17, 18, 19, 20, 21, 22, 23, 24, 25, 26, 27, 28, 29, 30, 31, 32, 33, 34, 35] rfl (by decide +kernel)
set_option maxRecDepth 20000 in
theorem gX4_countStrikes_X4_isStrike : GoodIn wsX4_countStrikes (wsV RX4 59 RX4 yX4_isStrike wsX4_isStrike) := goodIn_app (goodIn_r _ [1, 2, 3, 4] rfl (by decide +kernel)) ggX4_countStrikes_X4_isStrike
theorem dX4_countStrikes_0 : decode cX4_countStrikes 0 = .ok (.iconst 0, 1) := by decide +kernel
theorem dX4_countStrikes_1 : decode cX4_countStrikes 1 = .ok (.istore 5, 2) := by decide +kernel
theorem dX4_countStrikes_3 : decode cX4_countStrikes 3 = .ok (.iconst 0, 1) := by decide +kernel
theorem dX4_countStrikes_4 : decode cX4_countStrikes 4 = .ok (.istore 6, 2) := by decide +kernel
theorem dX4_countStrikes_6 : decode cX4_countStrikes 6 = .ok (.iload 6, 2) := by decide +kernel
theorem dX4_countStrikes_8 : decode cX4_countStrikes 8 = .ok (.iload 4, 2) := by decide +kernel
theorem dX4_countStrikes_10 : decode cX4_countStrikes 10 = .ok (.if_icmp .ge 25, 3) := by decide +kernel
theorem dX4_countStrikes_13 : decode cX4_countStrikes 13 = .ok (.aload_n 0, 1) := by decide +kernel
theorem dX4_countStrikes_14 : decode cX4_countStrikes 14 = .ok (.iload_n 1, 1) := by decide +kernel
theorem dX4_countStrikes_15 : decode cX4_countStrikes 15 = .ok (.iload_n 2, 1) := by decide +kernel
theorem dX4_countStrikes_16 : decode cX4_countStrikes 16 = .ok (.iload_n 3, 1) := by decide +kernel
theorem dX4_countStrikes_17 : decode cX4_countStrikes 17 = .ok (.iload 6, 2) := by decide +kernel
theorem dX4_countStrikes_19 : decode cX4_countStrikes 19 = .ok (.iadd, 1) := by decide +kernel
theorem dX4_countStrikes_20 : decode cX4_countStrikes 20 = .ok (.invokevirtual 59, 3) := by decide +kernel
theorem dX4_countStrikes_23 : decode cX4_countStrikes 23 = .ok (.ifCond .eq 6, 3) := by decide +kernel
theorem dX4_countStrikes_26 : decode cX4_countStrikes 26 = .ok (.iinc 5 1, 3) := by decide +kernel
theorem dX4_countStrikes_29 : decode cX4_countStrikes 29 = .ok (.iinc 6 1, 3) := by decide +kernel
theorem dX4_countStrikes_32 : decode cX4_countStrikes 32 = .ok (.goto (-26), 3) := by decide +kernel
theorem dX4_countStrikes_35 : decode cX4_countStrikes 35 = .ok (.iload 5, 2) := by decide +kernel
theorem dX4_countStrikes_37 : decode cX4_countStrikes 37 = .ok (.ireturn, 1) := by decide +kernel
set_option maxRecDepth 20000 in
theorem ggX4_firstYear_X4_period : GoodIn wsX4_firstYear wsX4_period := goodIn_r _ [5, 6, 7, 8, 9, 10, 4, 11, 12, 13, 14, 15, 16, 17, 18, 38, 39, 40, 41, 42, 43, 44] rfl (by decide +kernel)
set_option maxRecDepth 20000 in
theorem gX4_firstYear_X4_period : GoodIn wsX4_firstYear (wsV RX4 63 RX4 yX4_period wsX4_period) := goodIn_app (goodIn_r _ [1, 2, 3, 4] rfl (by decide +kernel)) ggX4_firstYear_X4_period
set_option maxRecDepth 20000 in
theorem ggX4_firstYear_X4_isDark : GoodIn wsX4_firstYear wsX4_isDark := goodIn_r _ [22, 23, 24, 25, 4, 26, 13, 27, 28, 29, 30, 12, 6, 31, 32, 33, 34, 35, 7, 36, 37, 38, 39, 40, 41, 42, 43, 44] rfl (by decide +kernel)
set_option maxRecDepth 20000 in
theorem gX4_firstYear_X4_isDark : GoodIn wsX4_firstYear (wsV RX4 44 RX4 yX4_isDark wsX4_isDark) := goodIn_app (goodIn_r _ [19, 20, 21, 4] rfl (by decide +kernel)) ggX4_firstYear_X4_isDark
theorem dX4_firstYear_0 : decode cX4_firstYear 0 = .ok (.aload_n 0, 1) := by decide +kernel
theorem dX4_firstYear_1 : decode cX4_firstYear 1 = .ok (.invokevirtual 63, 3) := by decide +kernel
theorem dX4_firstYear_4 : decode cX4_firstYear 4 = .ok (.istore 4, 2) := by decide +kernel
theorem dX4_firstYear_6 : decode cX4_firstYear 6 = .ok (.iconst 0, 1) := by decide +kernel
theorem dX4_firstYear_7 : decode cX4_firstYear 7 = .ok (.istore 5, 2) := by decide +kernel
theorem dX4_firstYear_9 : decode cX4_firstYear 9 = .ok (.iload 5, 2) := by decide +kernel
theorem dX4_firstYear_11 : decode cX4_firstYear 11 = .ok (.iload 4, 2) := by decide +kernel
theorem dX4_firstYear_13 : decode cX4_firstYear 13 = .ok (.if_icmp .ge 27, 3) := by decide +kernel
theorem dX4_firstYear_16 : decode cX4_firstYear 16 = .ok (.aload_n 0, 1) := by decide +kernel
theorem dX4_firstYear_17 : decode cX4_firstYear 17 = .ok (.iload_n 1, 1) := by decide +kernel
theorem dX4_firstYear_18 : decode cX4_firstYear 18 = .ok (.iload_n 2, 1) := by decide +kernel
theorem dX4_firstYear_19 : decode cX4_firstYear 19 = .ok (.iload 5, 2) := by decide +kernel
theorem dX4_firstYear_21 : decode cX4_firstYear 21 = .ok (.iadd, 1) := by decide +kernel
theorem dX4_firstYear_22 : decode cX4_firstYear 22 = .ok (.invokevirtual 44, 3) := by decide +kernel
theorem dX4_firstYear_25 : decode cX4_firstYear 25 = .ok (.iload_n 3, 1) := by decide +kernel
theorem dX4_firstYear_26 : decode cX4_firstYear 26 = .ok (.if_icmp .eq 8, 3) := by decide +kernel
theorem dX4_firstYear_29 : decode cX4_firstYear 29 = .ok (.iload_n 2, 1) := by decide +kernel
theorem dX4_firstYear_30 : decode cX4_firstYear 30 = .ok (.iload 5, 2) := by decide +kernel
theorem dX4_firstYear_32 : decode cX4_firstYear 32 = .ok (.iadd, 1) := by decide +kernel
theorem dX4_firstYear_33 : decode cX4_firstYear 33 = .ok (.ireturn, 1) := by decide +kernel
theorem dX4_firstYear_34 : decode cX4_firstYear 34 = .ok (.iinc 5 1, 3) := by decide +kernel
theorem dX4_firstYear_37 : decode cX4_firstYear 37 = .ok (.goto (-28), 3) := by decide +kernel
theorem dX4_firstYear_40 : decode cX4_firstYear 40 = .ok (.bipush (-6), 2) := by decide +kernel
theorem dX4_firstYear_42 : decode cX4_firstYear 42 = .ok (.ireturn, 1) := by decide +kernel
set_option maxRecDepth 20000 in
theorem ggX4_firstStrike_X4_period : GoodIn wsX4_firstStrike wsX4_period := goodIn_r _ [5, 6, 7, 8, 9, 10, 4, 11, 12, 13, 14, 15, 16, 17, 18, 42, 43, 44, 45, 46, 47, 48] rfl (by decide +kernel)
set_option maxRecDepth 20000 in
theorem gX4_firstStrike_X4_period : GoodIn wsX4_firstStrike (wsV RX4 63 RX4 yX4_period wsX4_period) := goodIn_app (goodIn_r _ [1, 2, 3, 4] rfl (by decide +kernel)) ggX4_firstStrike_X4_period
set_option maxRecDepth 20000 in
theorem ggX4_firstStrike_X4_isStrike : GoodIn wsX4_firstStrike wsX4_isStrike := goodIn_r _ [22, 23, 24, 25, 4, 26, 27, 28, 29, 30, 13, 31, 32, 33, 34, 12, 6, 35, 36, 37, 38, 39, 7, 40, 41, 42, 43, 44, 45, 46, 47, 48] rfl (by decide +kernel)
set_option maxRecDepth 20000 in
theorem gX4_firstStrike_X4_isStrike : GoodIn wsX4_firstStrike (wsV RX4 59 RX4 yX4_isStrike wsX4_isStrike) := goodIn_app (goodIn_r _ [19, 20, 21, 4] rfl (by decide +kernel)) ggX4_firstStrike_X4_isStrike
theorem dX4_firstStrike_0 : decode cX4_firstStrike 0 = .ok (.aload_n 0, 1) := by decide +kernel
theorem dX4_firstStrike_1 : decode cX4_firstStrike 1 = .ok (.invokevirtual 63, 3) := by decide +kernel
theorem dX4_firstStrike_4 : decode cX4_firstStrike 4 = .ok (.istore 4, 2) := by decide +kernel
theorem dX4_firstStrike_6 : decode cX4_firstStrike 6 = .ok (.iconst 0, 1) := by decide +kernel
theorem dX4_firstStrike_7 : decode cX4_firstStrike 7 = .ok (.istore 5, 2) := by decide +kernel
theorem dX4_firstStrike_9 : decode cX4_firstStrike 9 = .ok (.iload 5, 2) := by decide +kernel
theorem dX4_firstStrike_11 : decode cX4_firstStrike 11 = .ok (.iload 4, 2) := by decide +kernel
theorem dX4_firstStrike_13 : decode cX4_firstStrike 13 = .ok (.if_icmp .ge 27, 3) := by decide +kernel
theorem dX4_firstStrike_16 : decode cX4_firstStrike 16 = .ok (.aload_n 0, 1) := by decide +kernel
theorem dX4_firstStrike_17 : decode cX4_firstStrike 17 = .ok (.iload_n 1, 1) := by decide +kernel
theorem dX4_firstStrike_18 : decode cX4_firstStrike 18 = .ok (.iload_n 2, 1) := by decide +kernel
theorem dX4_firstStrike_19 : decode cX4_firstStrike 19 = .ok (.iload_n 3, 1) := by decide +kernel
theorem dX4_firstStrike_20 : decode cX4_firstStrike 20 = .ok (.iload 5, 2) := by decide +kernel
theorem dX4_firstStrike_22 : decode cX4_firstStrike 22 = .ok (.iadd, 1) := by decide +kernel
theorem dX4_firstStrike_23 : decode cX4_firstStrike 23 = .ok (.invokevirtual 59, 3) := by decide +kernel
theorem dX4_firstStrike_26 : decode cX4_firstStrike 26 = .ok (.ifCond .eq 8, 3) := by decide +kernel
theorem dX4_firstStrike_29 : decode cX4_firstStrike 29 = .ok (.iload_n 3, 1) := by decide +kernel
theorem dX4_firstStrike_30 : decode cX4_firstStrike 30 = .ok (.iload 5, 2) := by decide +kernel
theorem dX4_firstStrike_32 : decode cX4_firstStrike 32 = .ok (.iadd, 1) := by decide +kernel
theorem dX4_firstStrike_33 : decode cX4_firstStrike 33 = .ok (.ireturn, 1) := by decide +kernel
theorem dX4_firstStrike_34 : decode cX4_firstStrike 34 = .ok (.iinc 5 1, 3) := by decide +kernel
theorem dX4_firstStrike_37 : decode cX4_firstStrike 37 = .ok (.goto (-28), 3) := by decide +kernel
theorem dX4_firstStrike_40 : decode cX4_firstStrike 40 = .ok (.bipush (-6), 2) := by decide +kernel
theorem dX4_firstStrike_42 : decode cX4_firstStrike 42 = .ok (.ireturn, 1) := by decide +kernel
set_option maxRecDepth 20000 in
theorem ggX4_longestDark_X4_period : GoodIn wsX4_longestDark wsX4_period := goodIn_r _ [12, 13, 14, 15, 16, 17, 11, 18, 19, 20, 21, 22, 23, 24, 25, 45, 46, 47, 48, 49, 50, 51] rfl (by decide +kernel)
set_option maxRecDepth 20000 in
theorem gX4_longestDark_X4_period : GoodIn wsX4_longestDark (wsV RX4 63 RX4 yX4_period wsX4_period) := goodIn_app (goodIn_r _ [8, 9, 10, 11] rfl (by decide +kernel)) ggX4_longestDark_X4_period
set_option maxRecDepth 20000 in
theorem ggX4_longestDark_X4_isDark : GoodIn wsX4_longestDark wsX4_isDark := goodIn_r _ [29, 30, 31, 32, 11, 33, 20, 34, 35, 36, 37, 19, 13, 38, 39, 40, 41, 42, 14, 43, 44, 45, 46, 47, 48, 49, 50, 51] rfl (by decide +kernel)
set_option maxRecDepth 20000 in
theorem gX4_longestDark_X4_isDark : GoodIn wsX4_longestDark (wsV RX4 44 RX4 yX4_isDark wsX4_isDark) := goodIn_app (goodIn_r _ [26, 27, 28, 11] rfl (by decide +kernel)) ggX4_longestDark_X4_isDark
theorem dX4_longestDark_0 : decode cX4_longestDark 0 = .ok (.aload_n 0, 1) := by decide +kernel
theorem dX4_longestDark_1 : decode cX4_longestDark 1 = .ok (.invokevirtual 63, 3) := by decide +kernel
theorem dX4_longestDark_4 : decode cX4_longestDark 4 = .ok (.istore 4, 2) := by decide +kernel
theorem dX4_longestDark_6 : decode cX4_longestDark 6 = .ok (.iload_n 3, 1) := by decide +kernel
theorem dX4_longestDark_7 : decode cX4_longestDark 7 = .ok (.iconst 2, 1) := by decide +kernel
theorem dX4_longestDark_8 : decode cX4_longestDark 8 = .ok (.iload 4, 2) := by decide +kernel
theorem dX4_longestDark_10 : decode cX4_longestDark 10 = .ok (.imul, 1) := by decide +kernel
theorem dX4_longestDark_11 : decode cX4_longestDark 11 = .ok (.invokestatic 66, 3) := by decide +kernel
theorem dX4_longestDark_14 : decode cX4_longestDark 14 = .ok (.istore 5, 2) := by decide +kernel
theorem dX4_longestDark_16 : decode cX4_longestDark 16 = .ok (.iconst 0, 1) := by decide +kernel
theorem dX4_longestDark_17 : decode cX4_longestDark 17 = .ok (.istore 6, 2) := by decide +kernel
theorem dX4_longestDark_19 : decode cX4_longestDark 19 = .ok (.iconst 0, 1) := by decide +kernel
theorem dX4_longestDark_20 : decode cX4_longestDark 20 = .ok (.istore 7, 2) := by decide +kernel
theorem dX4_longestDark_22 : decode cX4_longestDark 22 = .ok (.iconst 0, 1) := by decide +kernel
theorem dX4_longestDark_23 : decode cX4_longestDark 23 = .ok (.istore 8, 2) := by decide +kernel
theorem dX4_longestDark_25 : decode cX4_longestDark 25 = .ok (.iload 8, 2) := by decide +kernel
theorem dX4_longestDark_27 : decode cX4_longestDark 27 = .ok (.iload 5, 2) := by decide +kernel
theorem dX4_longestDark_29 : decode cX4_longestDark 29 = .ok (.if_icmp .ge 40, 3) := by decide +kernel
theorem dX4_longestDark_32 : decode cX4_longestDark 32 = .ok (.aload_n 0, 1) := by decide +kernel
theorem dX4_longestDark_33 : decode cX4_longestDark 33 = .ok (.iload_n 1, 1) := by decide +kernel
theorem dX4_longestDark_34 : decode cX4_longestDark 34 = .ok (.iload_n 2, 1) := by decide +kernel
theorem dX4_longestDark_35 : decode cX4_longestDark 35 = .ok (.iload 8, 2) := by decide +kernel
theorem dX4_longestDark_37 : decode cX4_longestDark 37 = .ok (.iadd, 1) := by decide +kernel
theorem dX4_longestDark_38 : decode cX4_longestDark 38 = .ok (.invokevirtual 44, 3) := by decide +kernel
theorem dX4_longestDark_41 : decode cX4_longestDark 41 = .ok (.ifCond .eq 10, 3) := by decide +kernel
theorem dX4_longestDark_44 : decode cX4_longestDark 44 = .ok (.iload 7, 2) := by decide +kernel
theorem dX4_longestDark_46 : decode cX4_longestDark 46 = .ok (.iconst 1, 1) := by decide +kernel
theorem dX4_longestDark_47 : decode cX4_longestDark 47 = .ok (.iadd, 1) := by decide +kernel
theorem dX4_longestDark_48 : decode cX4_longestDark 48 = .ok (.goto 4, 3) := by decide +kernel
theorem dX4_longestDark_51 : decode cX4_longestDark 51 = .ok (.iconst 0, 1) := by decide +kernel
theorem dX4_longestDark_52 : decode cX4_longestDark 52 = .ok (.istore 7, 2) := by decide +kernel
theorem dX4_longestDark_54 : decode cX4_longestDark 54 = .ok (.iload 6, 2) := by decide +kernel
theorem dX4_longestDark_56 : decode cX4_longestDark 56 = .ok (.iload 7, 2) := by decide +kernel
theorem dX4_longestDark_58 : decode cX4_longestDark 58 = .ok (.invokestatic 71, 3) := by decide +kernel
theorem dX4_longestDark_61 : decode cX4_longestDark 61 = .ok (.istore 6, 2) := by decide +kernel
theorem dX4_longestDark_63 : decode cX4_longestDark 63 = .ok (.iinc 8 1, 3) := by decide +kernel
theorem dX4_longestDark_66 : decode cX4_longestDark 66 = .ok (.goto (-41), 3) := by decide +kernel
theorem dX4_longestDark_69 : decode cX4_longestDark 69 = .ok (.iload 6, 2) := by decide +kernel
theorem dX4_longestDark_71 : decode cX4_longestDark 71 = .ok (.iload 4, 2) := by decide +kernel
theorem dX4_longestDark_73 : decode cX4_longestDark 73 = .ok (.if_icmp .lt 7, 3) := by decide +kernel
theorem dX4_longestDark_76 : decode cX4_longestDark 76 = .ok (.iload_n 3, 1) := by decide +kernel
theorem dX4_longestDark_77 : decode cX4_longestDark 77 = .ok (.goto 5, 3) := by decide +kernel
theorem dX4_longestDark_80 : decode cX4_longestDark 80 = .ok (.iload 6, 2) := by decide +kernel
theorem dX4_longestDark_82 : decode cX4_longestDark 82 = .ok (.ireturn, 1) := by decide +kernel
set_option maxRecDepth 20000 in
theorem ggX4_rentYears_X4_period : GoodIn wsX4_rentYears wsX4_period := goodIn_r _ [13, 14, 1, 15, 16, 17, 12, 18, 19, 20, 21, 22, 23, 24, 25, 55, 56, 57, 58, 59, 60, 61] rfl (by decide +kernel)
set_option maxRecDepth 20000 in
theorem gX4_rentYears_X4_period : GoodIn wsX4_rentYears (wsV RX4 63 RX4 yX4_period wsX4_period) := goodIn_app (goodIn_r _ [9, 10, 11, 12] rfl (by decide +kernel)) ggX4_rentYears_X4_period
set_option maxRecDepth 20000 in
theorem ggX4_rentYears_X4_nightsPaid : GoodIn wsX4_rentYears wsX4_nightsPaid := goodIn_r _ [29, 30, 31, 32, 12, 33, 1, 34, 35, 36, 37, 38, 39, 20, 40, 41, 42, 43, 19, 14, 44, 45, 46, 47, 48, 49, 50, 51, 52, 55, 56, 57, 58, 59, 60, 61] rfl (by decide +kernel)
set_option maxRecDepth 20000 in
theorem gX4_rentYears_X4_nightsPaid : GoodIn wsX4_rentYears (wsV RX4 74 RX4 yX4_nightsPaid wsX4_nightsPaid) := goodIn_app (goodIn_r _ [26, 27, 28, 12] rfl (by decide +kernel)) ggX4_rentYears_X4_nightsPaid
set_option maxRecDepth 20000 in
theorem ggX4_rentYears_X10_leftOver : GoodIn wsX4_rentYears wsX10_leftOver := goodIn_r _ [54] rfl (by decide +kernel)
set_option maxRecDepth 20000 in
theorem gX4_rentYears_X10_leftOver_n78 : GoodIn wsX4_rentYears (wsX10_leftOver) := ggX4_rentYears_X10_leftOver
set_option maxRecDepth 20000 in
theorem ggX4_rentYears_X10_cut : GoodIn wsX4_rentYears wsX10_cut := goodIn_r _ [25] rfl (by decide +kernel)
set_option maxRecDepth 20000 in
theorem gX4_rentYears_X10_cut_n55 : GoodIn wsX4_rentYears (wsX10_cut) := ggX4_rentYears_X10_cut
theorem dX4_rentYears_0 : decode cX4_rentYears 0 = .ok (.aload_n 0, 1) := by decide +kernel
theorem dX4_rentYears_1 : decode cX4_rentYears 1 = .ok (.getfield 24, 3) := by decide +kernel
theorem dX4_rentYears_4 : decode cX4_rentYears 4 = .ok (.ifCond .ne 5, 3) := by decide +kernel
theorem dX4_rentYears_7 : decode cX4_rentYears 7 = .ok (.iconst 0, 1) := by decide +kernel
theorem dX4_rentYears_8 : decode cX4_rentYears 8 = .ok (.ireturn, 1) := by decide +kernel
theorem dX4_rentYears_9 : decode cX4_rentYears 9 = .ok (.iconst 0, 1) := by decide +kernel
theorem dX4_rentYears_10 : decode cX4_rentYears 10 = .ok (.iload_n 3, 1) := by decide +kernel
theorem dX4_rentYears_11 : decode cX4_rentYears 11 = .ok (.bipush 9, 2) := by decide +kernel
theorem dX4_rentYears_13 : decode cX4_rentYears 13 = .ok (.iload_n 2, 1) := by decide +kernel
theorem dX4_rentYears_14 : decode cX4_rentYears 14 = .ok (.isub, 1) := by decide +kernel
theorem dX4_rentYears_15 : decode cX4_rentYears 15 = .ok (.invokestatic 66, 3) := by decide +kernel
theorem dX4_rentYears_18 : decode cX4_rentYears 18 = .ok (.invokestatic 71, 3) := by decide +kernel
theorem dX4_rentYears_21 : decode cX4_rentYears 21 = .ok (.istore 4, 2) := by decide +kernel
theorem dX4_rentYears_23 : decode cX4_rentYears 23 = .ok (.iload_n 3, 1) := by decide +kernel
theorem dX4_rentYears_24 : decode cX4_rentYears 24 = .ok (.iload 4, 2) := by decide +kernel
theorem dX4_rentYears_26 : decode cX4_rentYears 26 = .ok (.isub, 1) := by decide +kernel
theorem dX4_rentYears_27 : decode cX4_rentYears 27 = .ok (.istore 5, 2) := by decide +kernel
theorem dX4_rentYears_29 : decode cX4_rentYears 29 = .ok (.iload_n 2, 1) := by decide +kernel
theorem dX4_rentYears_30 : decode cX4_rentYears 30 = .ok (.iload 4, 2) := by decide +kernel
theorem dX4_rentYears_32 : decode cX4_rentYears 32 = .ok (.iadd, 1) := by decide +kernel
theorem dX4_rentYears_33 : decode cX4_rentYears 33 = .ok (.istore 6, 2) := by decide +kernel
theorem dX4_rentYears_35 : decode cX4_rentYears 35 = .ok (.aload_n 0, 1) := by decide +kernel
theorem dX4_rentYears_36 : decode cX4_rentYears 36 = .ok (.invokevirtual 63, 3) := by decide +kernel
theorem dX4_rentYears_39 : decode cX4_rentYears 39 = .ok (.istore 7, 2) := by decide +kernel
theorem dX4_rentYears_41 : decode cX4_rentYears 41 = .ok (.aload_n 0, 1) := by decide +kernel
theorem dX4_rentYears_42 : decode cX4_rentYears 42 = .ok (.iload_n 1, 1) := by decide +kernel
theorem dX4_rentYears_43 : decode cX4_rentYears 43 = .ok (.iload_n 2, 1) := by decide +kernel
theorem dX4_rentYears_44 : decode cX4_rentYears 44 = .ok (.iload 4, 2) := by decide +kernel
theorem dX4_rentYears_46 : decode cX4_rentYears 46 = .ok (.invokevirtual 74, 3) := by decide +kernel
theorem dX4_rentYears_49 : decode cX4_rentYears 49 = .ok (.aload_n 0, 1) := by decide +kernel
theorem dX4_rentYears_50 : decode cX4_rentYears 50 = .ok (.iload_n 1, 1) := by decide +kernel
theorem dX4_rentYears_51 : decode cX4_rentYears 51 = .ok (.iload 6, 2) := by decide +kernel
theorem dX4_rentYears_53 : decode cX4_rentYears 53 = .ok (.iload 5, 2) := by decide +kernel
theorem dX4_rentYears_55 : decode cX4_rentYears 55 = .ok (.iload 7, 2) := by decide +kernel
theorem dX4_rentYears_57 : decode cX4_rentYears 57 = .ok (.invokestatic 78, 3) := by decide +kernel
theorem dX4_rentYears_60 : decode cX4_rentYears 60 = .ok (.invokevirtual 74, 3) := by decide +kernel
theorem dX4_rentYears_63 : decode cX4_rentYears 63 = .ok (.iadd, 1) := by decide +kernel
theorem dX4_rentYears_64 : decode cX4_rentYears 64 = .ok (.istore 8, 2) := by decide +kernel
theorem dX4_rentYears_66 : decode cX4_rentYears 66 = .ok (.iload 5, 2) := by decide +kernel
theorem dX4_rentYears_68 : decode cX4_rentYears 68 = .ok (.iload 7, 2) := by decide +kernel
theorem dX4_rentYears_70 : decode cX4_rentYears 70 = .ok (.if_icmp .ge 8, 3) := by decide +kernel
theorem dX4_rentYears_73 : decode cX4_rentYears 73 = .ok (.iload 8, 2) := by decide +kernel
theorem dX4_rentYears_75 : decode cX4_rentYears 75 = .ok (.goto 23, 3) := by decide +kernel
theorem dX4_rentYears_78 : decode cX4_rentYears 78 = .ok (.iload 8, 2) := by decide +kernel
theorem dX4_rentYears_80 : decode cX4_rentYears 80 = .ok (.iload 5, 2) := by decide +kernel
theorem dX4_rentYears_82 : decode cX4_rentYears 82 = .ok (.iload 7, 2) := by decide +kernel
theorem dX4_rentYears_84 : decode cX4_rentYears 84 = .ok (.invokestatic 55, 3) := by decide +kernel
theorem dX4_rentYears_87 : decode cX4_rentYears 87 = .ok (.aload_n 0, 1) := by decide +kernel
theorem dX4_rentYears_88 : decode cX4_rentYears 88 = .ok (.iload_n 1, 1) := by decide +kernel
theorem dX4_rentYears_89 : decode cX4_rentYears 89 = .ok (.iload 6, 2) := by decide +kernel
theorem dX4_rentYears_91 : decode cX4_rentYears 91 = .ok (.iload 7, 2) := by decide +kernel
theorem dX4_rentYears_93 : decode cX4_rentYears 93 = .ok (.invokevirtual 74, 3) := by decide +kernel
theorem dX4_rentYears_96 : decode cX4_rentYears 96 = .ok (.imul, 1) := by decide +kernel
theorem dX4_rentYears_97 : decode cX4_rentYears 97 = .ok (.iadd, 1) := by decide +kernel
theorem dX4_rentYears_98 : decode cX4_rentYears 98 = .ok (.ireturn, 1) := by decide +kernel
set_option maxRecDepth 20000 in
theorem ggX4_nightsPaid_X4_hasSlit : GoodIn wsX4_nightsPaid wsX4_hasSlit := goodIn_r _ [5, 6, 7, 8, 29, 30, 31, 32, 33, 34, 35] rfl (by decide +kernel)
set_option maxRecDepth 20000 in
theorem gX4_nightsPaid_X4_hasSlit : GoodIn wsX4_nightsPaid (wsV RX4 41 RX4 yX4_hasSlit wsX4_hasSlit) := goodIn_app (goodIn_r _ [1, 2, 3, 4] rfl (by decide +kernel)) ggX4_nightsPaid_X4_hasSlit
set_option maxRecDepth 20000 in
theorem ggX4_nightsPaid_X4_covers : GoodIn wsX4_nightsPaid wsX4_covers := goodIn_r _ [12, 13, 14, 15, 16, 4, 17, 18, 19, 20, 29, 30, 31, 32, 33, 34, 35] rfl (by decide +kernel)
set_option maxRecDepth 20000 in
theorem gX4_nightsPaid_X4_covers : GoodIn wsX4_nightsPaid (wsV RX4 37 RX4 yX4_covers wsX4_covers) := goodIn_app (goodIn_r _ [9, 10, 11, 4] rfl (by decide +kernel)) ggX4_nightsPaid_X4_covers
set_option maxRecDepth 20000 in
theorem ggX4_nightsPaid_X4_nightAhead : GoodIn wsX4_nightsPaid wsX4_nightAhead := goodIn_r _ [24, 25, 26, 27, 4, 28, 9, 10, 11, 12, 13, 14, 15, 16, 17, 18, 19, 20, 1, 2, 3, 5, 6, 7, 8, 29, 30, 31, 32, 33, 34, 35] rfl (by decide +kernel)
set_option maxRecDepth 20000 in
theorem gX4_nightsPaid_X4_nightAhead : GoodIn wsX4_nightsPaid (wsV RX4 81 RX4 yX4_nightAhead wsX4_nightAhead) := goodIn_app (goodIn_r _ [21, 22, 23, 4] rfl (by decide +kernel)) ggX4_nightsPaid_X4_nightAhead
theorem dX4_nightsPaid_0 : decode cX4_nightsPaid 0 = .ok (.iconst 0, 1) := by decide +kernel
theorem dX4_nightsPaid_1 : decode cX4_nightsPaid 1 = .ok (.istore 4, 2) := by decide +kernel
theorem dX4_nightsPaid_3 : decode cX4_nightsPaid 3 = .ok (.iload_n 2, 1) := by decide +kernel
theorem dX4_nightsPaid_4 : decode cX4_nightsPaid 4 = .ok (.istore 5, 2) := by decide +kernel
theorem dX4_nightsPaid_6 : decode cX4_nightsPaid 6 = .ok (.iload 5, 2) := by decide +kernel
theorem dX4_nightsPaid_8 : decode cX4_nightsPaid 8 = .ok (.iload_n 2, 1) := by decide +kernel
theorem dX4_nightsPaid_9 : decode cX4_nightsPaid 9 = .ok (.iload_n 3, 1) := by decide +kernel
theorem dX4_nightsPaid_10 : decode cX4_nightsPaid 10 = .ok (.iadd, 1) := by decide +kernel
theorem dX4_nightsPaid_11 : decode cX4_nightsPaid 11 = .ok (.if_icmp .ge 41, 3) := by decide +kernel
theorem dX4_nightsPaid_14 : decode cX4_nightsPaid 14 = .ok (.aload_n 0, 1) := by decide +kernel
theorem dX4_nightsPaid_15 : decode cX4_nightsPaid 15 = .ok (.iload_n 1, 1) := by decide +kernel
theorem dX4_nightsPaid_16 : decode cX4_nightsPaid 16 = .ok (.iload 5, 2) := by decide +kernel
theorem dX4_nightsPaid_18 : decode cX4_nightsPaid 18 = .ok (.invokevirtual 41, 3) := by decide +kernel
theorem dX4_nightsPaid_21 : decode cX4_nightsPaid 21 = .ok (.ifCond .eq 25, 3) := by decide +kernel
theorem dX4_nightsPaid_24 : decode cX4_nightsPaid 24 = .ok (.aload_n 0, 1) := by decide +kernel
theorem dX4_nightsPaid_25 : decode cX4_nightsPaid 25 = .ok (.iload_n 1, 1) := by decide +kernel
theorem dX4_nightsPaid_26 : decode cX4_nightsPaid 26 = .ok (.iload 5, 2) := by decide +kernel
theorem dX4_nightsPaid_28 : decode cX4_nightsPaid 28 = .ok (.invokevirtual 37, 3) := by decide +kernel
theorem dX4_nightsPaid_31 : decode cX4_nightsPaid 31 = .ok (.ifCond .eq 15, 3) := by decide +kernel
theorem dX4_nightsPaid_34 : decode cX4_nightsPaid 34 = .ok (.iload 4, 2) := by decide +kernel
theorem dX4_nightsPaid_36 : decode cX4_nightsPaid 36 = .ok (.aload_n 0, 1) := by decide +kernel
theorem dX4_nightsPaid_37 : decode cX4_nightsPaid 37 = .ok (.iload_n 1, 1) := by decide +kernel
theorem dX4_nightsPaid_38 : decode cX4_nightsPaid 38 = .ok (.iload 5, 2) := by decide +kernel
theorem dX4_nightsPaid_40 : decode cX4_nightsPaid 40 = .ok (.invokevirtual 81, 3) := by decide +kernel
theorem dX4_nightsPaid_43 : decode cX4_nightsPaid 43 = .ok (.iadd, 1) := by decide +kernel
theorem dX4_nightsPaid_44 : decode cX4_nightsPaid 44 = .ok (.istore 4, 2) := by decide +kernel
theorem dX4_nightsPaid_46 : decode cX4_nightsPaid 46 = .ok (.iinc 5 1, 3) := by decide +kernel
theorem dX4_nightsPaid_49 : decode cX4_nightsPaid 49 = .ok (.goto (-43), 3) := by decide +kernel
theorem dX4_nightsPaid_52 : decode cX4_nightsPaid 52 = .ok (.iload 4, 2) := by decide +kernel
theorem dX4_nightsPaid_54 : decode cX4_nightsPaid 54 = .ok (.ireturn, 1) := by decide +kernel
set_option maxRecDepth 20000 in
theorem ggX4_nightAhead_X4_isDark : GoodIn wsX4_nightAhead wsX4_isDark := goodIn_r _ [5, 6, 7, 8, 4, 9, 10, 11, 12, 13, 14, 15, 16, 17, 18, 19, 20, 21, 22, 23, 24, 25, 26, 27, 28, 29, 30, 31] rfl (by decide +kernel)
set_option maxRecDepth 20000 in
theorem gX4_nightAhead_X4_isDark : GoodIn wsX4_nightAhead (wsV RX4 44 RX4 yX4_isDark wsX4_isDark) := goodIn_app (goodIn_r _ [1, 2, 3, 4] rfl (by decide +kernel)) ggX4_nightAhead_X4_isDark
theorem dX4_nightAhead_0 : decode cX4_nightAhead 0 = .ok (.iconst 0, 1) := by decide +kernel
theorem dX4_nightAhead_1 : decode cX4_nightAhead 1 = .ok (.istore_n 3, 1) := by decide +kernel
theorem dX4_nightAhead_2 : decode cX4_nightAhead 2 = .ok (.iload_n 3, 1) := by decide +kernel
theorem dX4_nightAhead_3 : decode cX4_nightAhead 3 = .ok (.bipush 9, 2) := by decide +kernel
theorem dX4_nightAhead_5 : decode cX4_nightAhead 5 = .ok (.if_icmp .ge 29, 3) := by decide +kernel
theorem dX4_nightAhead_8 : decode cX4_nightAhead 8 = .ok (.iload_n 2, 1) := by decide +kernel
theorem dX4_nightAhead_9 : decode cX4_nightAhead 9 = .ok (.iload_n 3, 1) := by decide +kernel
theorem dX4_nightAhead_10 : decode cX4_nightAhead 10 = .ok (.isub, 1) := by decide +kernel
theorem dX4_nightAhead_11 : decode cX4_nightAhead 11 = .ok (.iconst 1, 1) := by decide +kernel
theorem dX4_nightAhead_12 : decode cX4_nightAhead 12 = .ok (.if_icmp .lt 22, 3) := by decide +kernel
theorem dX4_nightAhead_15 : decode cX4_nightAhead 15 = .ok (.aload_n 0, 1) := by decide +kernel
theorem dX4_nightAhead_16 : decode cX4_nightAhead 16 = .ok (.iload_n 1, 1) := by decide +kernel
theorem dX4_nightAhead_17 : decode cX4_nightAhead 17 = .ok (.iload_n 2, 1) := by decide +kernel
theorem dX4_nightAhead_18 : decode cX4_nightAhead 18 = .ok (.iload_n 3, 1) := by decide +kernel
theorem dX4_nightAhead_19 : decode cX4_nightAhead 19 = .ok (.isub, 1) := by decide +kernel
theorem dX4_nightAhead_20 : decode cX4_nightAhead 20 = .ok (.iconst 1, 1) := by decide +kernel
theorem dX4_nightAhead_21 : decode cX4_nightAhead 21 = .ok (.isub, 1) := by decide +kernel
theorem dX4_nightAhead_22 : decode cX4_nightAhead 22 = .ok (.invokevirtual 44, 3) := by decide +kernel
theorem dX4_nightAhead_25 : decode cX4_nightAhead 25 = .ok (.ifCond .eq 9, 3) := by decide +kernel
theorem dX4_nightAhead_28 : decode cX4_nightAhead 28 = .ok (.iinc 3 1, 3) := by decide +kernel
theorem dX4_nightAhead_31 : decode cX4_nightAhead 31 = .ok (.goto (-29), 3) := by decide +kernel
theorem dX4_nightAhead_34 : decode cX4_nightAhead 34 = .ok (.iload_n 3, 1) := by decide +kernel
theorem dX4_nightAhead_35 : decode cX4_nightAhead 35 = .ok (.ireturn, 1) := by decide +kernel
theorem dX5_init_0 : decode cX5_init 0 = .ok (.aload_n 0, 1) := by decide +kernel
theorem dX5_init_1 : decode cX5_init 1 = .ok (.invokespecial 3, 3) := by decide +kernel
theorem dX5_init_4 : decode cX5_init 4 = .ok (.aload_n 0, 1) := by decide +kernel
theorem dX5_init_5 : decode cX5_init 5 = .ok (.bipush 8, 2) := by decide +kernel
theorem dX5_init_7 : decode cX5_init 7 = .ok (.newarray .int, 2) := by decide +kernel
theorem dX5_init_9 : decode cX5_init 9 = .ok (.putfield 9, 3) := by decide +kernel
theorem dX5_init_12 : decode cX5_init 12 = .ok (.aload_n 0, 1) := by decide +kernel
theorem dX5_init_13 : decode cX5_init 13 = .ok (.bipush 8, 2) := by decide +kernel
theorem dX5_init_15 : decode cX5_init 15 = .ok (.newarray .int, 2) := by decide +kernel
theorem dX5_init_17 : decode cX5_init 17 = .ok (.putfield 15, 3) := by decide +kernel
theorem dX5_init_20 : decode cX5_init 20 = .ok (.aload_n 0, 1) := by decide +kernel
theorem dX5_init_21 : decode cX5_init 21 = .ok (.bipush 8, 2) := by decide +kernel
theorem dX5_init_23 : decode cX5_init 23 = .ok (.newarray .int, 2) := by decide +kernel
theorem dX5_init_25 : decode cX5_init 25 = .ok (.putfield 18, 3) := by decide +kernel
theorem dX5_init_28 : decode cX5_init 28 = .ok (.return_, 1) := by decide +kernel
set_option maxRecDepth 20000 in
theorem ggX5_takeFrom_X10_copy : GoodIn wsX5_takeFrom wsX10_copy := goodIn_r _ [7] rfl (by decide +kernel)
set_option maxRecDepth 20000 in
theorem gX5_takeFrom_X10_copy_n21 : GoodIn wsX5_takeFrom (wsX10_copy) := ggX5_takeFrom_X10_copy
theorem dX5_takeFrom_0 : decode cX5_takeFrom 0 = .ok (.aload_n 1, 1) := by decide +kernel
theorem dX5_takeFrom_1 : decode cX5_takeFrom 1 = .ok (.getfield 9, 3) := by decide +kernel
theorem dX5_takeFrom_4 : decode cX5_takeFrom 4 = .ok (.aload_n 0, 1) := by decide +kernel
theorem dX5_takeFrom_5 : decode cX5_takeFrom 5 = .ok (.getfield 9, 3) := by decide +kernel
theorem dX5_takeFrom_8 : decode cX5_takeFrom 8 = .ok (.invokestatic 21, 3) := by decide +kernel
theorem dX5_takeFrom_11 : decode cX5_takeFrom 11 = .ok (.aload_n 1, 1) := by decide +kernel
theorem dX5_takeFrom_12 : decode cX5_takeFrom 12 = .ok (.getfield 15, 3) := by decide +kernel
theorem dX5_takeFrom_15 : decode cX5_takeFrom 15 = .ok (.aload_n 0, 1) := by decide +kernel
theorem dX5_takeFrom_16 : decode cX5_takeFrom 16 = .ok (.getfield 15, 3) := by decide +kernel
theorem dX5_takeFrom_19 : decode cX5_takeFrom 19 = .ok (.invokestatic 21, 3) := by decide +kernel
theorem dX5_takeFrom_22 : decode cX5_takeFrom 22 = .ok (.aload_n 1, 1) := by decide +kernel
theorem dX5_takeFrom_23 : decode cX5_takeFrom 23 = .ok (.getfield 18, 3) := by decide +kernel
theorem dX5_takeFrom_26 : decode cX5_takeFrom 26 = .ok (.aload_n 0, 1) := by decide +kernel
theorem dX5_takeFrom_27 : decode cX5_takeFrom 27 = .ok (.getfield 18, 3) := by decide +kernel
theorem dX5_takeFrom_30 : decode cX5_takeFrom 30 = .ok (.invokestatic 21, 3) := by decide +kernel
theorem dX5_takeFrom_33 : decode cX5_takeFrom 33 = .ok (.aload_n 0, 1) := by decide +kernel
theorem dX5_takeFrom_34 : decode cX5_takeFrom 34 = .ok (.aload_n 1, 1) := by decide +kernel
theorem dX5_takeFrom_35 : decode cX5_takeFrom 35 = .ok (.getfield 25, 3) := by decide +kernel
theorem dX5_takeFrom_38 : decode cX5_takeFrom 38 = .ok (.putfield 25, 3) := by decide +kernel
theorem dX5_takeFrom_41 : decode cX5_takeFrom 41 = .ok (.return_, 1) := by decide +kernel
set_option maxRecDepth 20000 in
theorem ggX5_add_X10_put : GoodIn wsX5_add wsX10_put := goodIn_r _ [7] rfl (by decide +kernel)
set_option maxRecDepth 20000 in
theorem gX5_add_X10_put_n29 : GoodIn wsX5_add (wsX10_put) := ggX5_add_X10_put
theorem dX5_add_0 : decode cX5_add 0 = .ok (.aload_n 0, 1) := by decide +kernel
theorem dX5_add_1 : decode cX5_add 1 = .ok (.getfield 25, 3) := by decide +kernel
theorem dX5_add_4 : decode cX5_add 4 = .ok (.bipush 8, 2) := by decide +kernel
theorem dX5_add_6 : decode cX5_add 6 = .ok (.if_icmp .lt 5, 3) := by decide +kernel
theorem dX5_add_9 : decode cX5_add 9 = .ok (.iconst 0, 1) := by decide +kernel
theorem dX5_add_10 : decode cX5_add 10 = .ok (.ireturn, 1) := by decide +kernel
theorem dX5_add_11 : decode cX5_add 11 = .ok (.aload_n 0, 1) := by decide +kernel
theorem dX5_add_12 : decode cX5_add 12 = .ok (.getfield 9, 3) := by decide +kernel
theorem dX5_add_15 : decode cX5_add 15 = .ok (.aload_n 0, 1) := by decide +kernel
theorem dX5_add_16 : decode cX5_add 16 = .ok (.getfield 25, 3) := by decide +kernel
theorem dX5_add_19 : decode cX5_add 19 = .ok (.iload_n 1, 1) := by decide +kernel
theorem dX5_add_20 : decode cX5_add 20 = .ok (.invokestatic 29, 3) := by decide +kernel
theorem dX5_add_23 : decode cX5_add 23 = .ok (.aload_n 0, 1) := by decide +kernel
theorem dX5_add_24 : decode cX5_add 24 = .ok (.getfield 15, 3) := by decide +kernel
theorem dX5_add_27 : decode cX5_add 27 = .ok (.aload_n 0, 1) := by decide +kernel
theorem dX5_add_28 : decode cX5_add 28 = .ok (.getfield 25, 3) := by decide +kernel
theorem dX5_add_31 : decode cX5_add 31 = .ok (.iload_n 2, 1) := by decide +kernel
theorem dX5_add_32 : decode cX5_add 32 = .ok (.invokestatic 29, 3) := by decide +kernel
theorem dX5_add_35 : decode cX5_add 35 = .ok (.aload_n 0, 1) := by decide +kernel
theorem dX5_add_36 : decode cX5_add 36 = .ok (.getfield 18, 3) := by decide +kernel
theorem dX5_add_39 : decode cX5_add 39 = .ok (.aload_n 0, 1) := by decide +kernel
theorem dX5_add_40 : decode cX5_add 40 = .ok (.getfield 25, 3) := by decide +kernel
theorem dX5_add_43 : decode cX5_add 43 = .ok (.iload_n 3, 1) := by decide +kernel
theorem dX5_add_44 : decode cX5_add 44 = .ok (.ifCond .eq 7, 3) := by decide +kernel
theorem dX5_add_47 : decode cX5_add 47 = .ok (.iconst 1, 1) := by decide +kernel
theorem dX5_add_48 : decode cX5_add 48 = .ok (.goto 4, 3) := by decide +kernel
theorem dX5_add_51 : decode cX5_add 51 = .ok (.iconst 0, 1) := by decide +kernel
theorem dX5_add_52 : decode cX5_add 52 = .ok (.invokestatic 29, 3) := by decide +kernel
theorem dX5_add_55 : decode cX5_add 55 = .ok (.aload_n 0, 1) := by decide +kernel
theorem dX5_add_56 : decode cX5_add 56 = .ok (.dup, 1) := by decide +kernel
theorem dX5_add_57 : decode cX5_add 57 = .ok (.getfield 25, 3) := by decide +kernel
theorem dX5_add_60 : decode cX5_add 60 = .ok (.iconst 1, 1) := by decide +kernel
theorem dX5_add_61 : decode cX5_add 61 = .ok (.iadd, 1) := by decide +kernel
theorem dX5_add_62 : decode cX5_add 62 = .ok (.putfield 25, 3) := by decide +kernel
theorem dX5_add_65 : decode cX5_add 65 = .ok (.iconst 1, 1) := by decide +kernel
theorem dX5_add_66 : decode cX5_add 66 = .ok (.ireturn, 1) := by decide +kernel
set_option maxRecDepth 20000 in
theorem ggX5_fit_X10_at : GoodIn wsX5_fit wsX10_at := goodIn_r _ [7] rfl (by decide +kernel)
set_option maxRecDepth 20000 in
theorem gX5_fit_X10_at_n33 : GoodIn wsX5_fit (wsX10_at) := ggX5_fit_X10_at
set_option maxRecDepth 20000 in
theorem ggX5_fit_X4_covers : GoodIn wsX5_fit wsX4_covers := goodIn_r _ [12, 13, 14, 15, 16, 11, 17, 18, 19, 20, 25, 26, 27, 28, 29, 30, 31] rfl (by decide +kernel)
set_option maxRecDepth 20000 in
theorem gX5_fit_X4_covers : GoodIn wsX5_fit (wsV RX5 37 RX4 yX4_covers wsX4_covers) := goodIn_app (goodIn_r _ [8, 9, 10, 11] rfl (by decide +kernel)) ggX5_fit_X4_covers
theorem dX5_fit_0 : decode cX5_fit 0 = .ok (.iconst 0, 1) := by decide +kernel
theorem dX5_fit_1 : decode cX5_fit 1 = .ok (.istore_n 2, 1) := by decide +kernel
theorem dX5_fit_2 : decode cX5_fit 2 = .ok (.iload_n 2, 1) := by decide +kernel
theorem dX5_fit_3 : decode cX5_fit 3 = .ok (.aload_n 0, 1) := by decide +kernel
theorem dX5_fit_4 : decode cX5_fit 4 = .ok (.getfield 25, 3) := by decide +kernel
theorem dX5_fit_7 : decode cX5_fit 7 = .ok (.if_icmp .ge 51, 3) := by decide +kernel
theorem dX5_fit_10 : decode cX5_fit 10 = .ok (.aload_n 1, 1) := by decide +kernel
theorem dX5_fit_11 : decode cX5_fit 11 = .ok (.aload_n 0, 1) := by decide +kernel
theorem dX5_fit_12 : decode cX5_fit 12 = .ok (.getfield 9, 3) := by decide +kernel
theorem dX5_fit_15 : decode cX5_fit 15 = .ok (.iload_n 2, 1) := by decide +kernel
theorem dX5_fit_16 : decode cX5_fit 16 = .ok (.invokestatic 33, 3) := by decide +kernel
theorem dX5_fit_19 : decode cX5_fit 19 = .ok (.aload_n 0, 1) := by decide +kernel
theorem dX5_fit_20 : decode cX5_fit 20 = .ok (.getfield 15, 3) := by decide +kernel
theorem dX5_fit_23 : decode cX5_fit 23 = .ok (.iload_n 2, 1) := by decide +kernel
theorem dX5_fit_24 : decode cX5_fit 24 = .ok (.invokestatic 33, 3) := by decide +kernel
theorem dX5_fit_27 : decode cX5_fit 27 = .ok (.invokevirtual 37, 3) := by decide +kernel
theorem dX5_fit_30 : decode cX5_fit 30 = .ok (.aload_n 0, 1) := by decide +kernel
theorem dX5_fit_31 : decode cX5_fit 31 = .ok (.getfield 18, 3) := by decide +kernel
theorem dX5_fit_34 : decode cX5_fit 34 = .ok (.iload_n 2, 1) := by decide +kernel
theorem dX5_fit_35 : decode cX5_fit 35 = .ok (.invokestatic 33, 3) := by decide +kernel
theorem dX5_fit_38 : decode cX5_fit 38 = .ok (.iconst 1, 1) := by decide +kernel
theorem dX5_fit_39 : decode cX5_fit 39 = .ok (.if_icmp .ne 7, 3) := by decide +kernel
theorem dX5_fit_42 : decode cX5_fit 42 = .ok (.iconst 1, 1) := by decide +kernel
theorem dX5_fit_43 : decode cX5_fit 43 = .ok (.goto 4, 3) := by decide +kernel
theorem dX5_fit_46 : decode cX5_fit 46 = .ok (.iconst 0, 1) := by decide +kernel
theorem dX5_fit_47 : decode cX5_fit 47 = .ok (.if_icmp .eq 5, 3) := by decide +kernel
theorem dX5_fit_50 : decode cX5_fit 50 = .ok (.iconst 0, 1) := by decide +kernel
theorem dX5_fit_51 : decode cX5_fit 51 = .ok (.ireturn, 1) := by decide +kernel
theorem dX5_fit_52 : decode cX5_fit 52 = .ok (.iinc 2 1, 3) := by decide +kernel
theorem dX5_fit_55 : decode cX5_fit 55 = .ok (.goto (-53), 3) := by decide +kernel
theorem dX5_fit_58 : decode cX5_fit 58 = .ok (.iconst 1, 1) := by decide +kernel
theorem dX5_fit_59 : decode cX5_fit 59 = .ok (.ireturn, 1) := by decide +kernel
set_option maxRecDepth 20000 in
theorem ggX6_init_X6_begin : GoodIn wsX6_init wsX6_begin := goodIn_r _ [10, 11, 12, 13, 9, 14, 5, 15] rfl (by decide +kernel)
set_option maxRecDepth 20000 in
theorem gX6_init_X6_begin : GoodIn wsX6_init (wsV RX6 15 RX6 yX6_begin wsX6_begin) := goodIn_app (goodIn_r _ [6, 7, 8, 9] rfl (by decide +kernel)) ggX6_init_X6_begin
theorem dX6_init_0 : decode cX6_init 0 = .ok (.aload_n 0, 1) := by decide +kernel
theorem dX6_init_1 : decode cX6_init 1 = .ok (.invokespecial 3, 3) := by decide +kernel
theorem dX6_init_4 : decode cX6_init 4 = .ok (.aload_n 0, 1) := by decide +kernel
theorem dX6_init_5 : decode cX6_init 5 = .ok (.bipush 36, 2) := by decide +kernel
theorem dX6_init_7 : decode cX6_init 7 = .ok (.newarray .int, 2) := by decide +kernel
theorem dX6_init_9 : decode cX6_init 9 = .ok (.putfield 9, 3) := by decide +kernel
theorem dX6_init_12 : decode cX6_init 12 = .ok (.aload_n 0, 1) := by decide +kernel
theorem dX6_init_13 : decode cX6_init 13 = .ok (.invokevirtual 15, 3) := by decide +kernel
theorem dX6_init_16 : decode cX6_init 16 = .ok (.return_, 1) := by decide +kernel
set_option maxRecDepth 20000 in
theorem ggX6_begin_X6_put : GoodIn wsX6_begin wsX6_put := goodIn_r _ [5, 6, 7] rfl (by decide +kernel)
set_option maxRecDepth 20000 in
theorem gX6_begin_X6_put : GoodIn wsX6_begin (wsV RX6 18 RX6 yX6_put wsX6_put) := goodIn_app (goodIn_r _ [1, 2, 3, 4] rfl (by decide +kernel)) ggX6_begin_X6_put
theorem dX6_begin_0 : decode cX6_begin 0 = .ok (.iconst 0, 1) := by decide +kernel
theorem dX6_begin_1 : decode cX6_begin 1 = .ok (.istore_n 1, 1) := by decide +kernel
theorem dX6_begin_2 : decode cX6_begin 2 = .ok (.iload_n 1, 1) := by decide +kernel
theorem dX6_begin_3 : decode cX6_begin 3 = .ok (.bipush 9, 2) := by decide +kernel
theorem dX6_begin_5 : decode cX6_begin 5 = .ok (.if_icmp .ge 38, 3) := by decide +kernel
theorem dX6_begin_8 : decode cX6_begin 8 = .ok (.aload_n 0, 1) := by decide +kernel
theorem dX6_begin_9 : decode cX6_begin 9 = .ok (.iload_n 1, 1) := by decide +kernel
theorem dX6_begin_10 : decode cX6_begin 10 = .ok (.iconst 0, 1) := by decide +kernel
theorem dX6_begin_11 : decode cX6_begin 11 = .ok (.iconst 3, 1) := by decide +kernel
theorem dX6_begin_12 : decode cX6_begin 12 = .ok (.invokevirtual 18, 3) := by decide +kernel
theorem dX6_begin_15 : decode cX6_begin 15 = .ok (.aload_n 0, 1) := by decide +kernel
theorem dX6_begin_16 : decode cX6_begin 16 = .ok (.iload_n 1, 1) := by decide +kernel
theorem dX6_begin_17 : decode cX6_begin 17 = .ok (.iconst 1, 1) := by decide +kernel
theorem dX6_begin_18 : decode cX6_begin 18 = .ok (.iconst 2, 1) := by decide +kernel
theorem dX6_begin_19 : decode cX6_begin 19 = .ok (.invokevirtual 18, 3) := by decide +kernel
theorem dX6_begin_22 : decode cX6_begin 22 = .ok (.aload_n 0, 1) := by decide +kernel
theorem dX6_begin_23 : decode cX6_begin 23 = .ok (.iload_n 1, 1) := by decide +kernel
theorem dX6_begin_24 : decode cX6_begin 24 = .ok (.iconst 2, 1) := by decide +kernel
theorem dX6_begin_25 : decode cX6_begin 25 = .ok (.iconst 0, 1) := by decide +kernel
theorem dX6_begin_26 : decode cX6_begin 26 = .ok (.invokevirtual 18, 3) := by decide +kernel
theorem dX6_begin_29 : decode cX6_begin 29 = .ok (.aload_n 0, 1) := by decide +kernel
theorem dX6_begin_30 : decode cX6_begin 30 = .ok (.iload_n 1, 1) := by decide +kernel
theorem dX6_begin_31 : decode cX6_begin 31 = .ok (.iconst 3, 1) := by decide +kernel
theorem dX6_begin_32 : decode cX6_begin 32 = .ok (.bipush 50, 2) := by decide +kernel
theorem dX6_begin_34 : decode cX6_begin 34 = .ok (.invokevirtual 18, 3) := by decide +kernel
theorem dX6_begin_37 : decode cX6_begin 37 = .ok (.iinc 1 1, 3) := by decide +kernel
theorem dX6_begin_40 : decode cX6_begin 40 = .ok (.goto (-38), 3) := by decide +kernel
theorem dX6_begin_43 : decode cX6_begin 43 = .ok (.return_, 1) := by decide +kernel
set_option maxRecDepth 20000 in
theorem ggX6_takeFrom_X10_copy : GoodIn wsX6_takeFrom wsX10_copy := goodIn_r _ [4] rfl (by decide +kernel)
set_option maxRecDepth 20000 in
theorem gX6_takeFrom_X10_copy_n22 : GoodIn wsX6_takeFrom (wsX10_copy) := ggX6_takeFrom_X10_copy
theorem dX6_takeFrom_0 : decode cX6_takeFrom 0 = .ok (.aload_n 1, 1) := by decide +kernel
theorem dX6_takeFrom_1 : decode cX6_takeFrom 1 = .ok (.getfield 9, 3) := by decide +kernel
theorem dX6_takeFrom_4 : decode cX6_takeFrom 4 = .ok (.aload_n 0, 1) := by decide +kernel
theorem dX6_takeFrom_5 : decode cX6_takeFrom 5 = .ok (.getfield 9, 3) := by decide +kernel
theorem dX6_takeFrom_8 : decode cX6_takeFrom 8 = .ok (.invokestatic 22, 3) := by decide +kernel
theorem dX6_takeFrom_11 : decode cX6_takeFrom 11 = .ok (.return_, 1) := by decide +kernel
theorem dX6_of_0 : decode cX6_of 0 = .ok (.iconst 4, 1) := by decide +kernel
theorem dX6_of_1 : decode cX6_of 1 = .ok (.iload_n 1, 1) := by decide +kernel
theorem dX6_of_2 : decode cX6_of 2 = .ok (.imul, 1) := by decide +kernel
theorem dX6_of_3 : decode cX6_of 3 = .ok (.iload_n 2, 1) := by decide +kernel
theorem dX6_of_4 : decode cX6_of 4 = .ok (.iadd, 1) := by decide +kernel
theorem dX6_of_5 : decode cX6_of 5 = .ok (.istore_n 3, 1) := by decide +kernel
theorem dX6_of_6 : decode cX6_of 6 = .ok (.iload_n 3, 1) := by decide +kernel
theorem dX6_of_7 : decode cX6_of 7 = .ok (.ifCond .lt 21, 3) := by decide +kernel
theorem dX6_of_10 : decode cX6_of 10 = .ok (.iload_n 3, 1) := by decide +kernel
theorem dX6_of_11 : decode cX6_of 11 = .ok (.aload_n 0, 1) := by decide +kernel
theorem dX6_of_12 : decode cX6_of 12 = .ok (.getfield 9, 3) := by decide +kernel
theorem dX6_of_15 : decode cX6_of 15 = .ok (.arraylength, 1) := by decide +kernel
theorem dX6_of_16 : decode cX6_of 16 = .ok (.if_icmp .ge 12, 3) := by decide +kernel
theorem dX6_of_19 : decode cX6_of 19 = .ok (.aload_n 0, 1) := by decide +kernel
theorem dX6_of_20 : decode cX6_of 20 = .ok (.getfield 9, 3) := by decide +kernel
theorem dX6_of_23 : decode cX6_of 23 = .ok (.iload_n 3, 1) := by decide +kernel
theorem dX6_of_24 : decode cX6_of 24 = .ok (.iaload, 1) := by decide +kernel
theorem dX6_of_25 : decode cX6_of 25 = .ok (.goto 4, 3) := by decide +kernel
theorem dX6_of_28 : decode cX6_of 28 = .ok (.iconst 0, 1) := by decide +kernel
theorem dX6_of_29 : decode cX6_of 29 = .ok (.ireturn, 1) := by decide +kernel
theorem dX6_put_0 : decode cX6_put 0 = .ok (.iconst 4, 1) := by decide +kernel
theorem dX6_put_1 : decode cX6_put 1 = .ok (.iload_n 1, 1) := by decide +kernel
theorem dX6_put_2 : decode cX6_put 2 = .ok (.imul, 1) := by decide +kernel
theorem dX6_put_3 : decode cX6_put 3 = .ok (.iload_n 2, 1) := by decide +kernel
theorem dX6_put_4 : decode cX6_put 4 = .ok (.iadd, 1) := by decide +kernel
theorem dX6_put_5 : decode cX6_put 5 = .ok (.istore 4, 2) := by decide +kernel
theorem dX6_put_7 : decode cX6_put 7 = .ok (.iload 4, 2) := by decide +kernel
theorem dX6_put_9 : decode cX6_put 9 = .ok (.ifCond .lt 21, 3) := by decide +kernel
theorem dX6_put_12 : decode cX6_put 12 = .ok (.iload 4, 2) := by decide +kernel
theorem dX6_put_14 : decode cX6_put 14 = .ok (.aload_n 0, 1) := by decide +kernel
theorem dX6_put_15 : decode cX6_put 15 = .ok (.getfield 9, 3) := by decide +kernel
theorem dX6_put_18 : decode cX6_put 18 = .ok (.arraylength, 1) := by decide +kernel
theorem dX6_put_19 : decode cX6_put 19 = .ok (.if_icmp .ge 11, 3) := by decide +kernel
theorem dX6_put_22 : decode cX6_put 22 = .ok (.aload_n 0, 1) := by decide +kernel
theorem dX6_put_23 : decode cX6_put 23 = .ok (.getfield 9, 3) := by decide +kernel
theorem dX6_put_26 : decode cX6_put 26 = .ok (.iload 4, 2) := by decide +kernel
theorem dX6_put_28 : decode cX6_put 28 = .ok (.iload_n 3, 1) := by decide +kernel
theorem dX6_put_29 : decode cX6_put 29 = .ok (.iastore, 1) := by decide +kernel
theorem dX6_put_30 : decode cX6_put 30 = .ok (.return_, 1) := by decide +kernel
set_option maxRecDepth 20000 in
theorem ggX6_together_X6_of : GoodIn wsX6_together wsX6_of := goodIn_r _ [5, 6, 7] rfl (by decide +kernel)
set_option maxRecDepth 20000 in
theorem gX6_together_X6_of : GoodIn wsX6_together (wsV RX6 26 RX6 yX6_of wsX6_of) := goodIn_app (goodIn_r _ [1, 2, 3, 4] rfl (by decide +kernel)) ggX6_together_X6_of
theorem dX6_together_0 : decode cX6_together 0 = .ok (.iconst 0, 1) := by decide +kernel
theorem dX6_together_1 : decode cX6_together 1 = .ok (.istore_n 2, 1) := by decide +kernel
theorem dX6_together_2 : decode cX6_together 2 = .ok (.iconst 0, 1) := by decide +kernel
theorem dX6_together_3 : decode cX6_together 3 = .ok (.istore_n 3, 1) := by decide +kernel
theorem dX6_together_4 : decode cX6_together 4 = .ok (.iload_n 3, 1) := by decide +kernel
theorem dX6_together_5 : decode cX6_together 5 = .ok (.iload_n 1, 1) := by decide +kernel
theorem dX6_together_6 : decode cX6_together 6 = .ok (.if_icmp .ge 18, 3) := by decide +kernel
theorem dX6_together_9 : decode cX6_together 9 = .ok (.iload_n 2, 1) := by decide +kernel
theorem dX6_together_10 : decode cX6_together 10 = .ok (.aload_n 0, 1) := by decide +kernel
theorem dX6_together_11 : decode cX6_together 11 = .ok (.iload_n 3, 1) := by decide +kernel
theorem dX6_together_12 : decode cX6_together 12 = .ok (.iconst 2, 1) := by decide +kernel
theorem dX6_together_13 : decode cX6_together 13 = .ok (.invokevirtual 26, 3) := by decide +kernel
theorem dX6_together_16 : decode cX6_together 16 = .ok (.iadd, 1) := by decide +kernel
theorem dX6_together_17 : decode cX6_together 17 = .ok (.istore_n 2, 1) := by decide +kernel
theorem dX6_together_18 : decode cX6_together 18 = .ok (.iinc 3 1, 3) := by decide +kernel
theorem dX6_together_21 : decode cX6_together 21 = .ok (.goto (-17), 3) := by decide +kernel
theorem dX6_together_24 : decode cX6_together 24 = .ok (.iload_n 2, 1) := by decide +kernel
theorem dX6_together_25 : decode cX6_together 25 = .ok (.ireturn, 1) := by decide +kernel
set_option maxRecDepth 20000 in
theorem ggX6_feed_X6_of : GoodIn wsX6_feed wsX6_of := goodIn_r _ [12, 13, 18] rfl (by decide +kernel)
set_option maxRecDepth 20000 in
theorem gX6_feed_X6_of : GoodIn wsX6_feed (wsV RX6 26 RX6 yX6_of wsX6_of) := goodIn_app (goodIn_r _ [8, 9, 10, 11] rfl (by decide +kernel)) ggX6_feed_X6_of
set_option maxRecDepth 20000 in
theorem ggX6_feed_X6_put : GoodIn wsX6_feed wsX6_put := goodIn_r _ [17, 13, 18] rfl (by decide +kernel)
set_option maxRecDepth 20000 in
theorem gX6_feed_X6_put : GoodIn wsX6_feed (wsV RX6 18 RX6 yX6_put wsX6_put) := goodIn_app (goodIn_r _ [14, 15, 16, 11] rfl (by decide +kernel)) ggX6_feed_X6_put
theorem dX6_feed_0 : decode cX6_feed 0 = .ok (.aload_n 0, 1) := by decide +kernel
theorem dX6_feed_1 : decode cX6_feed 1 = .ok (.iload_n 1, 1) := by decide +kernel
theorem dX6_feed_2 : decode cX6_feed 2 = .ok (.iconst 2, 1) := by decide +kernel
theorem dX6_feed_3 : decode cX6_feed 3 = .ok (.invokevirtual 26, 3) := by decide +kernel
theorem dX6_feed_6 : decode cX6_feed 6 = .ok (.aload_n 0, 1) := by decide +kernel
theorem dX6_feed_7 : decode cX6_feed 7 = .ok (.iload_n 1, 1) := by decide +kernel
theorem dX6_feed_8 : decode cX6_feed 8 = .ok (.iconst 1, 1) := by decide +kernel
theorem dX6_feed_9 : decode cX6_feed 9 = .ok (.invokevirtual 26, 3) := by decide +kernel
theorem dX6_feed_12 : decode cX6_feed 12 = .ok (.isub, 1) := by decide +kernel
theorem dX6_feed_13 : decode cX6_feed 13 = .ok (.iload_n 2, 1) := by decide +kernel
theorem dX6_feed_14 : decode cX6_feed 14 = .ok (.ifCond .eq 12, 3) := by decide +kernel
theorem dX6_feed_17 : decode cX6_feed 17 = .ok (.aload_n 0, 1) := by decide +kernel
theorem dX6_feed_18 : decode cX6_feed 18 = .ok (.iload_n 1, 1) := by decide +kernel
theorem dX6_feed_19 : decode cX6_feed 19 = .ok (.iconst 0, 1) := by decide +kernel
theorem dX6_feed_20 : decode cX6_feed 20 = .ok (.invokevirtual 26, 3) := by decide +kernel
theorem dX6_feed_23 : decode cX6_feed 23 = .ok (.goto 4, 3) := by decide +kernel
theorem dX6_feed_26 : decode cX6_feed 26 = .ok (.iconst 0, 1) := by decide +kernel
theorem dX6_feed_27 : decode cX6_feed 27 = .ok (.iadd, 1) := by decide +kernel
theorem dX6_feed_28 : decode cX6_feed 28 = .ok (.istore_n 3, 1) := by decide +kernel
theorem dX6_feed_29 : decode cX6_feed 29 = .ok (.aload_n 0, 1) := by decide +kernel
theorem dX6_feed_30 : decode cX6_feed 30 = .ok (.iload_n 1, 1) := by decide +kernel
theorem dX6_feed_31 : decode cX6_feed 31 = .ok (.iconst 2, 1) := by decide +kernel
theorem dX6_feed_32 : decode cX6_feed 32 = .ok (.iconst 0, 1) := by decide +kernel
theorem dX6_feed_33 : decode cX6_feed 33 = .ok (.iload_n 3, 1) := by decide +kernel
theorem dX6_feed_34 : decode cX6_feed 34 = .ok (.aload_n 0, 1) := by decide +kernel
theorem dX6_feed_35 : decode cX6_feed 35 = .ok (.iload_n 1, 1) := by decide +kernel
theorem dX6_feed_36 : decode cX6_feed 36 = .ok (.iconst 3, 1) := by decide +kernel
theorem dX6_feed_37 : decode cX6_feed 37 = .ok (.invokevirtual 26, 3) := by decide +kernel
theorem dX6_feed_40 : decode cX6_feed 40 = .ok (.invokestatic 30, 3) := by decide +kernel
theorem dX6_feed_43 : decode cX6_feed 43 = .ok (.invokestatic 35, 3) := by decide +kernel
theorem dX6_feed_46 : decode cX6_feed 46 = .ok (.invokevirtual 18, 3) := by decide +kernel
theorem dX6_feed_49 : decode cX6_feed 49 = .ok (.iload_n 3, 1) := by decide +kernel
theorem dX6_feed_50 : decode cX6_feed 50 = .ok (.ifCond .ge 7, 3) := by decide +kernel
theorem dX6_feed_53 : decode cX6_feed 53 = .ok (.iconst 1, 1) := by decide +kernel
theorem dX6_feed_54 : decode cX6_feed 54 = .ok (.goto 4, 3) := by decide +kernel
theorem dX6_feed_57 : decode cX6_feed 57 = .ok (.iconst 0, 1) := by decide +kernel
theorem dX6_feed_58 : decode cX6_feed 58 = .ok (.ireturn, 1) := by decide +kernel
set_option maxRecDepth 20000 in
theorem ggX6_lend_X6_of : GoodIn wsX6_lend wsX6_of := goodIn_r _ [5, 6, 11] rfl (by decide +kernel)
set_option maxRecDepth 20000 in
theorem gX6_lend_X6_of : GoodIn wsX6_lend (wsV RX6 26 RX6 yX6_of wsX6_of) := goodIn_app (goodIn_r _ [1, 2, 3, 4] rfl (by decide +kernel)) ggX6_lend_X6_of
set_option maxRecDepth 20000 in
theorem ggX6_lend_X6_put : GoodIn wsX6_lend wsX6_put := goodIn_r _ [10, 6, 11] rfl (by decide +kernel)
set_option maxRecDepth 20000 in
theorem gX6_lend_X6_put : GoodIn wsX6_lend (wsV RX6 18 RX6 yX6_put wsX6_put) := goodIn_app (goodIn_r _ [7, 8, 9, 4] rfl (by decide +kernel)) ggX6_lend_X6_put
theorem dX6_lend_0 : decode cX6_lend 0 = .ok (.iload_n 1, 1) := by decide +kernel
theorem dX6_lend_1 : decode cX6_lend 1 = .ok (.iload_n 2, 1) := by decide +kernel
theorem dX6_lend_2 : decode cX6_lend 2 = .ok (.if_icmp .ne 5, 3) := by decide +kernel
theorem dX6_lend_5 : decode cX6_lend 5 = .ok (.iconst 1, 1) := by decide +kernel
theorem dX6_lend_6 : decode cX6_lend 6 = .ok (.ireturn, 1) := by decide +kernel
theorem dX6_lend_7 : decode cX6_lend 7 = .ok (.aload_n 0, 1) := by decide +kernel
theorem dX6_lend_8 : decode cX6_lend 8 = .ok (.iload_n 1, 1) := by decide +kernel
theorem dX6_lend_9 : decode cX6_lend 9 = .ok (.iconst 2, 1) := by decide +kernel
theorem dX6_lend_10 : decode cX6_lend 10 = .ok (.invokevirtual 26, 3) := by decide +kernel
theorem dX6_lend_13 : decode cX6_lend 13 = .ok (.iload_n 3, 1) := by decide +kernel
theorem dX6_lend_14 : decode cX6_lend 14 = .ok (.isub, 1) := by decide +kernel
theorem dX6_lend_15 : decode cX6_lend 15 = .ok (.istore 4, 2) := by decide +kernel
theorem dX6_lend_17 : decode cX6_lend 17 = .ok (.aload_n 0, 1) := by decide +kernel
theorem dX6_lend_18 : decode cX6_lend 18 = .ok (.iload_n 2, 1) := by decide +kernel
theorem dX6_lend_19 : decode cX6_lend 19 = .ok (.iconst 2, 1) := by decide +kernel
theorem dX6_lend_20 : decode cX6_lend 20 = .ok (.invokevirtual 26, 3) := by decide +kernel
theorem dX6_lend_23 : decode cX6_lend 23 = .ok (.iload_n 3, 1) := by decide +kernel
theorem dX6_lend_24 : decode cX6_lend 24 = .ok (.iadd, 1) := by decide +kernel
theorem dX6_lend_25 : decode cX6_lend 25 = .ok (.istore 5, 2) := by decide +kernel
theorem dX6_lend_27 : decode cX6_lend 27 = .ok (.iload 4, 2) := by decide +kernel
theorem dX6_lend_29 : decode cX6_lend 29 = .ok (.ifCond .ge 5, 3) := by decide +kernel
theorem dX6_lend_32 : decode cX6_lend 32 = .ok (.iconst 2, 1) := by decide +kernel
theorem dX6_lend_33 : decode cX6_lend 33 = .ok (.ireturn, 1) := by decide +kernel
theorem dX6_lend_34 : decode cX6_lend 34 = .ok (.iload 5, 2) := by decide +kernel
theorem dX6_lend_36 : decode cX6_lend 36 = .ok (.aload_n 0, 1) := by decide +kernel
theorem dX6_lend_37 : decode cX6_lend 37 = .ok (.iload_n 2, 1) := by decide +kernel
theorem dX6_lend_38 : decode cX6_lend 38 = .ok (.iconst 3, 1) := by decide +kernel
theorem dX6_lend_39 : decode cX6_lend 39 = .ok (.invokevirtual 26, 3) := by decide +kernel
theorem dX6_lend_42 : decode cX6_lend 42 = .ok (.if_icmp .le 5, 3) := by decide +kernel
theorem dX6_lend_45 : decode cX6_lend 45 = .ok (.iconst 3, 1) := by decide +kernel
theorem dX6_lend_46 : decode cX6_lend 46 = .ok (.ireturn, 1) := by decide +kernel
theorem dX6_lend_47 : decode cX6_lend 47 = .ok (.aload_n 0, 1) := by decide +kernel
theorem dX6_lend_48 : decode cX6_lend 48 = .ok (.iload_n 1, 1) := by decide +kernel
theorem dX6_lend_49 : decode cX6_lend 49 = .ok (.iconst 2, 1) := by decide +kernel
theorem dX6_lend_50 : decode cX6_lend 50 = .ok (.iload 4, 2) := by decide +kernel
theorem dX6_lend_52 : decode cX6_lend 52 = .ok (.invokevirtual 18, 3) := by decide +kernel
theorem dX6_lend_55 : decode cX6_lend 55 = .ok (.aload_n 0, 1) := by decide +kernel
theorem dX6_lend_56 : decode cX6_lend 56 = .ok (.iload_n 2, 1) := by decide +kernel
theorem dX6_lend_57 : decode cX6_lend 57 = .ok (.iconst 2, 1) := by decide +kernel
theorem dX6_lend_58 : decode cX6_lend 58 = .ok (.iload 5, 2) := by decide +kernel
theorem dX6_lend_60 : decode cX6_lend 60 = .ok (.invokevirtual 18, 3) := by decide +kernel
theorem dX6_lend_63 : decode cX6_lend 63 = .ok (.iconst 0, 1) := by decide +kernel
theorem dX6_lend_64 : decode cX6_lend 64 = .ok (.ireturn, 1) := by decide +kernel
set_option maxRecDepth 20000 in
theorem ggX7_init_X4_init : GoodIn wsX7_init wsX4_init := goodIn_r _ [15, 16, 2, 3, 17, 18, 19, 20, 21, 22, 23, 37, 38, 39, 40, 41, 42, 43] rfl (by decide +kernel)
set_option maxRecDepth 20000 in
theorem gX7_init_X4_init_n11 : GoodIn wsX7_init (wsX4_init) := ggX7_init_X4_init
set_option maxRecDepth 20000 in
theorem ggX7_init_X6_init : GoodIn wsX7_init wsX6_init := goodIn_r _ [26, 27, 2, 3, 12, 28, 29, 30, 31, 10, 32, 33, 34, 35, 36, 54] rfl (by decide +kernel)
set_option maxRecDepth 20000 in
theorem gX7_init_X6_init : GoodIn wsX7_init (wsX6_init) := ggX7_init_X6_init
theorem dX7_init_0 : decode cX7_init 0 = .ok (.aload_n 0, 1) := by decide +kernel
theorem dX7_init_1 : decode cX7_init 1 = .ok (.invokespecial 3, 3) := by decide +kernel
theorem dX7_init_4 : decode cX7_init 4 = .ok (.aload_n 0, 1) := by decide +kernel
theorem dX7_init_5 : decode cX7_init 5 = .ok (.new 9, 3) := by decide +kernel
theorem dX7_init_8 : decode cX7_init 8 = .ok (.dup, 1) := by decide +kernel
theorem dX7_init_9 : decode cX7_init 9 = .ok (.invokespecial 11, 3) := by decide +kernel
theorem dX7_init_12 : decode cX7_init 12 = .ok (.putfield 12, 3) := by decide +kernel
theorem dX7_init_15 : decode cX7_init 15 = .ok (.aload_n 0, 1) := by decide +kernel
theorem dX7_init_16 : decode cX7_init 16 = .ok (.new 18, 3) := by decide +kernel
theorem dX7_init_19 : decode cX7_init 19 = .ok (.dup, 1) := by decide +kernel
theorem dX7_init_20 : decode cX7_init 20 = .ok (.invokespecial 20, 3) := by decide +kernel
theorem dX7_init_23 : decode cX7_init 23 = .ok (.putfield 21, 3) := by decide +kernel
theorem dX7_init_26 : decode cX7_init 26 = .ok (.aload_n 0, 1) := by decide +kernel
theorem dX7_init_27 : decode cX7_init 27 = .ok (.bipush 9, 2) := by decide +kernel
theorem dX7_init_29 : decode cX7_init 29 = .ok (.newarray .int, 2) := by decide +kernel
theorem dX7_init_31 : decode cX7_init 31 = .ok (.putfield 25, 3) := by decide +kernel
theorem dX7_init_34 : decode cX7_init 34 = .ok (.return_, 1) := by decide +kernel
set_option maxRecDepth 20000 in
theorem ggX7_begin_X4_takeFrom : GoodIn wsX7_begin wsX4_takeFrom := goodIn_r _ [18, 19, 20, 21, 22, 23, 24, 25, 51, 52, 53, 54, 55, 56, 57] rfl (by decide +kernel)
set_option maxRecDepth 20000 in
theorem gX7_begin_X4_takeFrom : GoodIn wsX7_begin (wsV RX7 32 RX4 yX4_takeFrom wsX4_takeFrom) := goodIn_app (goodIn_r _ [14, 15, 16, 17] rfl (by decide +kernel)) ggX7_begin_X4_takeFrom
set_option maxRecDepth 20000 in
theorem ggX7_begin_X6_takeFrom : GoodIn wsX7_begin wsX6_takeFrom := goodIn_r _ [30, 31, 32, 33, 34, 58] rfl (by decide +kernel)
set_option maxRecDepth 20000 in
theorem gX7_begin_X6_takeFrom : GoodIn wsX7_begin (wsV RX7 37 RX6 yX6_takeFrom wsX6_takeFrom) := goodIn_app (goodIn_r _ [26, 27, 28, 29] rfl (by decide +kernel)) ggX7_begin_X6_takeFrom
set_option maxRecDepth 20000 in
theorem ggX7_begin_X10_clear : GoodIn wsX7_begin wsX10_clear := goodIn_r _ [36] rfl (by decide +kernel)
set_option maxRecDepth 20000 in
theorem gX7_begin_X10_clear_n40 : GoodIn wsX7_begin (wsX10_clear) := ggX7_begin_X10_clear
theorem dX7_begin_0 : decode cX7_begin 0 = .ok (.aload_n 0, 1) := by decide +kernel
theorem dX7_begin_1 : decode cX7_begin 1 = .ok (.getfield 12, 3) := by decide +kernel
theorem dX7_begin_4 : decode cX7_begin 4 = .ok (.aload_n 1, 1) := by decide +kernel
theorem dX7_begin_5 : decode cX7_begin 5 = .ok (.getfield 29, 3) := by decide +kernel
theorem dX7_begin_8 : decode cX7_begin 8 = .ok (.invokevirtual 32, 3) := by decide +kernel
theorem dX7_begin_11 : decode cX7_begin 11 = .ok (.aload_n 0, 1) := by decide +kernel
theorem dX7_begin_12 : decode cX7_begin 12 = .ok (.getfield 21, 3) := by decide +kernel
theorem dX7_begin_15 : decode cX7_begin 15 = .ok (.aload_n 1, 1) := by decide +kernel
theorem dX7_begin_16 : decode cX7_begin 16 = .ok (.getfield 36, 3) := by decide +kernel
theorem dX7_begin_19 : decode cX7_begin 19 = .ok (.invokevirtual 37, 3) := by decide +kernel
theorem dX7_begin_22 : decode cX7_begin 22 = .ok (.aload_n 0, 1) := by decide +kernel
theorem dX7_begin_23 : decode cX7_begin 23 = .ok (.getfield 25, 3) := by decide +kernel
theorem dX7_begin_26 : decode cX7_begin 26 = .ok (.invokestatic 40, 3) := by decide +kernel
theorem dX7_begin_29 : decode cX7_begin 29 = .ok (.aload_n 0, 1) := by decide +kernel
theorem dX7_begin_30 : decode cX7_begin 30 = .ok (.aload_n 1, 1) := by decide +kernel
theorem dX7_begin_31 : decode cX7_begin 31 = .ok (.getfield 44, 3) := by decide +kernel
theorem dX7_begin_34 : decode cX7_begin 34 = .ok (.putfield 48, 3) := by decide +kernel
theorem dX7_begin_37 : decode cX7_begin 37 = .ok (.aload_n 0, 1) := by decide +kernel
theorem dX7_begin_38 : decode cX7_begin 38 = .ok (.iconst 0, 1) := by decide +kernel
theorem dX7_begin_39 : decode cX7_begin 39 = .ok (.putfield 49, 3) := by decide +kernel
theorem dX7_begin_42 : decode cX7_begin 42 = .ok (.aload_n 0, 1) := by decide +kernel
theorem dX7_begin_43 : decode cX7_begin 43 = .ok (.iconst 0, 1) := by decide +kernel
theorem dX7_begin_44 : decode cX7_begin 44 = .ok (.putfield 52, 3) := by decide +kernel
theorem dX7_begin_47 : decode cX7_begin 47 = .ok (.aload_n 0, 1) := by decide +kernel
theorem dX7_begin_48 : decode cX7_begin 48 = .ok (.iconst 0, 1) := by decide +kernel
theorem dX7_begin_49 : decode cX7_begin 49 = .ok (.putfield 55, 3) := by decide +kernel
theorem dX7_begin_52 : decode cX7_begin 52 = .ok (.aload_n 0, 1) := by decide +kernel
theorem dX7_begin_53 : decode cX7_begin 53 = .ok (.bipush (-6), 2) := by decide +kernel
theorem dX7_begin_55 : decode cX7_begin 55 = .ok (.putfield 58, 3) := by decide +kernel
theorem dX7_begin_58 : decode cX7_begin 58 = .ok (.aload_n 0, 1) := by decide +kernel
theorem dX7_begin_59 : decode cX7_begin 59 = .ok (.bipush (-6), 2) := by decide +kernel
theorem dX7_begin_61 : decode cX7_begin 61 = .ok (.putfield 61, 3) := by decide +kernel
theorem dX7_begin_64 : decode cX7_begin 64 = .ok (.aload_n 0, 1) := by decide +kernel
theorem dX7_begin_65 : decode cX7_begin 65 = .ok (.iconst 0, 1) := by decide +kernel
theorem dX7_begin_66 : decode cX7_begin 66 = .ok (.putfield 64, 3) := by decide +kernel
theorem dX7_begin_69 : decode cX7_begin 69 = .ok (.return_, 1) := by decide +kernel
set_option maxRecDepth 20000 in
theorem ggX7_passYear_X4_darkAt : GoodIn wsX7_passYear wsX4_darkAt := goodIn_r _ [12, 13, 14, 15, 16, 11, 17, 18, 19, 20, 21, 22, 23, 24, 25, 26, 27, 64, 65, 66, 67, 68, 69, 70] rfl (by decide +kernel)
set_option maxRecDepth 20000 in
theorem gX7_passYear_X4_darkAt : GoodIn wsX7_passYear (wsV RX7 67 RX4 yX4_darkAt wsX4_darkAt) := goodIn_app (goodIn_r _ [8, 9, 10, 11] rfl (by decide +kernel)) ggX7_passYear_X4_darkAt
set_option maxRecDepth 20000 in
theorem ggX7_passYear_X6_feed : GoodIn wsX7_passYear wsX6_feed := goodIn_r _ [32, 33, 34, 35, 36, 37, 38, 39, 40, 41, 42, 31, 43, 44, 45, 46, 47, 48, 71] rfl (by decide +kernel)
set_option maxRecDepth 20000 in
theorem gX7_passYear_X6_feed : GoodIn wsX7_passYear (wsV RX7 74 RX6 yX6_feed wsX6_feed) := goodIn_app (goodIn_r _ [28, 29, 30, 31] rfl (by decide +kernel)) ggX7_passYear_X6_feed
set_option maxRecDepth 20000 in
theorem ggX7_passYear_X10_at : GoodIn wsX7_passYear wsX10_at := goodIn_r _ [51] rfl (by decide +kernel)
set_option maxRecDepth 20000 in
theorem gX7_passYear_X10_at_n78 : GoodIn wsX7_passYear (wsX10_at) := ggX7_passYear_X10_at
set_option maxRecDepth 20000 in
theorem ggX7_passYear_X10_put : GoodIn wsX7_passYear wsX10_put := goodIn_r _ [53] rfl (by decide +kernel)
set_option maxRecDepth 20000 in
theorem gX7_passYear_X10_put_n82 : GoodIn wsX7_passYear (wsX10_put) := ggX7_passYear_X10_put
theorem dX7_passYear_0 : decode cX7_passYear 0 = .ok (.aload_n 0, 1) := by decide +kernel
theorem dX7_passYear_1 : decode cX7_passYear 1 = .ok (.getfield 12, 3) := by decide +kernel
theorem dX7_passYear_4 : decode cX7_passYear 4 = .ok (.aload_n 0, 1) := by decide +kernel
theorem dX7_passYear_5 : decode cX7_passYear 5 = .ok (.getfield 48, 3) := by decide +kernel
theorem dX7_passYear_8 : decode cX7_passYear 8 = .ok (.invokevirtual 67, 3) := by decide +kernel
theorem dX7_passYear_11 : decode cX7_passYear 11 = .ok (.istore_n 1, 1) := by decide +kernel
theorem dX7_passYear_12 : decode cX7_passYear 12 = .ok (.iconst 0, 1) := by decide +kernel
theorem dX7_passYear_13 : decode cX7_passYear 13 = .ok (.istore_n 2, 1) := by decide +kernel
theorem dX7_passYear_14 : decode cX7_passYear 14 = .ok (.iload_n 2, 1) := by decide +kernel
theorem dX7_passYear_15 : decode cX7_passYear 15 = .ok (.aload_n 0, 1) := by decide +kernel
theorem dX7_passYear_16 : decode cX7_passYear 16 = .ok (.getfield 12, 3) := by decide +kernel
theorem dX7_passYear_19 : decode cX7_passYear 19 = .ok (.getfield 71, 3) := by decide +kernel
theorem dX7_passYear_22 : decode cX7_passYear 22 = .ok (.if_icmp .ge 61, 3) := by decide +kernel
theorem dX7_passYear_25 : decode cX7_passYear 25 = .ok (.aload_n 0, 1) := by decide +kernel
theorem dX7_passYear_26 : decode cX7_passYear 26 = .ok (.getfield 21, 3) := by decide +kernel
theorem dX7_passYear_29 : decode cX7_passYear 29 = .ok (.iload_n 2, 1) := by decide +kernel
theorem dX7_passYear_30 : decode cX7_passYear 30 = .ok (.iload_n 1, 1) := by decide +kernel
theorem dX7_passYear_31 : decode cX7_passYear 31 = .ok (.iload_n 2, 1) := by decide +kernel
theorem dX7_passYear_32 : decode cX7_passYear 32 = .ok (.ishr, 1) := by decide +kernel
theorem dX7_passYear_33 : decode cX7_passYear 33 = .ok (.iconst 1, 1) := by decide +kernel
theorem dX7_passYear_34 : decode cX7_passYear 34 = .ok (.iand, 1) := by decide +kernel
theorem dX7_passYear_35 : decode cX7_passYear 35 = .ok (.ifCond .ne 7, 3) := by decide +kernel
theorem dX7_passYear_38 : decode cX7_passYear 38 = .ok (.iconst 1, 1) := by decide +kernel
theorem dX7_passYear_39 : decode cX7_passYear 39 = .ok (.goto 4, 3) := by decide +kernel
theorem dX7_passYear_42 : decode cX7_passYear 42 = .ok (.iconst 0, 1) := by decide +kernel
theorem dX7_passYear_43 : decode cX7_passYear 43 = .ok (.invokevirtual 74, 3) := by decide +kernel
theorem dX7_passYear_46 : decode cX7_passYear 46 = .ok (.ifCond .eq 31, 3) := by decide +kernel
theorem dX7_passYear_49 : decode cX7_passYear 49 = .ok (.aload_n 0, 1) := by decide +kernel
theorem dX7_passYear_50 : decode cX7_passYear 50 = .ok (.getfield 25, 3) := by decide +kernel
theorem dX7_passYear_53 : decode cX7_passYear 53 = .ok (.iload_n 2, 1) := by decide +kernel
theorem dX7_passYear_54 : decode cX7_passYear 54 = .ok (.aload_n 0, 1) := by decide +kernel
theorem dX7_passYear_55 : decode cX7_passYear 55 = .ok (.getfield 25, 3) := by decide +kernel
theorem dX7_passYear_58 : decode cX7_passYear 58 = .ok (.iload_n 2, 1) := by decide +kernel
theorem dX7_passYear_59 : decode cX7_passYear 59 = .ok (.invokestatic 78, 3) := by decide +kernel
theorem dX7_passYear_62 : decode cX7_passYear 62 = .ok (.iconst 1, 1) := by decide +kernel
theorem dX7_passYear_63 : decode cX7_passYear 63 = .ok (.iadd, 1) := by decide +kernel
theorem dX7_passYear_64 : decode cX7_passYear 64 = .ok (.invokestatic 82, 3) := by decide +kernel
theorem dX7_passYear_67 : decode cX7_passYear 67 = .ok (.aload_n 0, 1) := by decide +kernel
theorem dX7_passYear_68 : decode cX7_passYear 68 = .ok (.dup, 1) := by decide +kernel
theorem dX7_passYear_69 : decode cX7_passYear 69 = .ok (.getfield 52, 3) := by decide +kernel
theorem dX7_passYear_72 : decode cX7_passYear 72 = .ok (.iconst 1, 1) := by decide +kernel
theorem dX7_passYear_73 : decode cX7_passYear 73 = .ok (.iadd, 1) := by decide +kernel
theorem dX7_passYear_74 : decode cX7_passYear 74 = .ok (.putfield 52, 3) := by decide +kernel
theorem dX7_passYear_77 : decode cX7_passYear 77 = .ok (.iinc 2 1, 3) := by decide +kernel
theorem dX7_passYear_80 : decode cX7_passYear 80 = .ok (.goto (-66), 3) := by decide +kernel
theorem dX7_passYear_83 : decode cX7_passYear 83 = .ok (.aload_n 0, 1) := by decide +kernel
theorem dX7_passYear_84 : decode cX7_passYear 84 = .ok (.dup, 1) := by decide +kernel
theorem dX7_passYear_85 : decode cX7_passYear 85 = .ok (.getfield 48, 3) := by decide +kernel
theorem dX7_passYear_88 : decode cX7_passYear 88 = .ok (.iconst 1, 1) := by decide +kernel
theorem dX7_passYear_89 : decode cX7_passYear 89 = .ok (.iadd, 1) := by decide +kernel
theorem dX7_passYear_90 : decode cX7_passYear 90 = .ok (.putfield 48, 3) := by decide +kernel
theorem dX7_passYear_93 : decode cX7_passYear 93 = .ok (.aload_n 0, 1) := by decide +kernel
theorem dX7_passYear_94 : decode cX7_passYear 94 = .ok (.dup, 1) := by decide +kernel
theorem dX7_passYear_95 : decode cX7_passYear 95 = .ok (.getfield 49, 3) := by decide +kernel
theorem dX7_passYear_98 : decode cX7_passYear 98 = .ok (.iconst 1, 1) := by decide +kernel
theorem dX7_passYear_99 : decode cX7_passYear 99 = .ok (.iadd, 1) := by decide +kernel
theorem dX7_passYear_100 : decode cX7_passYear 100 = .ok (.putfield 49, 3) := by decide +kernel
theorem dX7_passYear_103 : decode cX7_passYear 103 = .ok (.return_, 1) := by decide +kernel
set_option maxRecDepth 20000 in
theorem ggX7_passYears_X7_passYear : GoodIn wsX7_passYears wsX7_passYear := goodIn_r _ [5, 6, 7, 8, 9, 10, 11, 12, 13, 14, 15, 16, 17, 18, 19, 20, 21, 22, 23, 24, 25, 26, 27, 28, 29, 30, 31, 32, 33, 34, 35, 36, 37, 38, 39, 40, 41, 42, 43, 44, 45, 46, 47, 48, 49, 50, 51, 52, 53, 54, 55, 56, 57, 58, 59, 60, 61, 62, 63, 64, 65, 66, 67, 68, 69, 70, 71, 72, 73, 74, 75, 76] rfl (by decide +kernel)
set_option maxRecDepth 20000 in
theorem gX7_passYears_X7_passYear : GoodIn wsX7_passYears (wsV RX7 86 RX7 yX7_passYear wsX7_passYear) := goodIn_app (goodIn_r _ [1, 2, 3, 4] rfl (by decide +kernel)) ggX7_passYears_X7_passYear
theorem dX7_passYears_0 : decode cX7_passYears 0 = .ok (.iconst 0, 1) := by decide +kernel
theorem dX7_passYears_1 : decode cX7_passYears 1 = .ok (.istore_n 2, 1) := by decide +kernel
theorem dX7_passYears_2 : decode cX7_passYears 2 = .ok (.iload_n 2, 1) := by decide +kernel
theorem dX7_passYears_3 : decode cX7_passYears 3 = .ok (.iload_n 1, 1) := by decide +kernel
theorem dX7_passYears_4 : decode cX7_passYears 4 = .ok (.if_icmp .ge 13, 3) := by decide +kernel
theorem dX7_passYears_7 : decode cX7_passYears 7 = .ok (.aload_n 0, 1) := by decide +kernel
theorem dX7_passYears_8 : decode cX7_passYears 8 = .ok (.invokevirtual 86, 3) := by decide +kernel
theorem dX7_passYears_11 : decode cX7_passYears 11 = .ok (.iinc 2 1, 3) := by decide +kernel
theorem dX7_passYears_14 : decode cX7_passYears 14 = .ok (.goto (-12), 3) := by decide +kernel
theorem dX7_passYears_17 : decode cX7_passYears 17 = .ok (.return_, 1) := by decide +kernel
set_option maxRecDepth 20000 in
theorem ggX7_passUntilHungry_X7_passYear : GoodIn wsX7_passUntilHungry wsX7_passYear := goodIn_r _ [6, 7, 8, 9, 10, 11, 1, 12, 13, 14, 15, 16, 17, 18, 19, 20, 21, 22, 23, 24, 25, 26, 27, 28, 29, 30, 31, 32, 33, 34, 35, 36, 37, 38, 39, 40, 41, 42, 43, 44, 45, 46, 47, 48, 49, 50, 51, 52, 53, 54, 55, 56, 57, 58, 59, 60, 61, 62, 63, 64, 65, 66, 67, 68, 69, 70, 71, 72, 73, 74, 75, 76] rfl (by decide +kernel)
set_option maxRecDepth 20000 in
theorem gX7_passUntilHungry_X7_passYear : GoodIn wsX7_passUntilHungry (wsV RX7 86 RX7 yX7_passYear wsX7_passYear) := goodIn_app (goodIn_r _ [2, 3, 4, 5] rfl (by decide +kernel)) ggX7_passUntilHungry_X7_passYear
theorem dX7_passUntilHungry_0 : decode cX7_passUntilHungry 0 = .ok (.iconst 0, 1) := by decide +kernel
theorem dX7_passUntilHungry_1 : decode cX7_passUntilHungry 1 = .ok (.istore_n 2, 1) := by decide +kernel
theorem dX7_passUntilHungry_2 : decode cX7_passUntilHungry 2 = .ok (.iload_n 2, 1) := by decide +kernel
theorem dX7_passUntilHungry_3 : decode cX7_passUntilHungry 3 = .ok (.iload_n 1, 1) := by decide +kernel
theorem dX7_passUntilHungry_4 : decode cX7_passUntilHungry 4 = .ok (.if_icmp .ge 20, 3) := by decide +kernel
theorem dX7_passUntilHungry_7 : decode cX7_passUntilHungry 7 = .ok (.aload_n 0, 1) := by decide +kernel
theorem dX7_passUntilHungry_8 : decode cX7_passUntilHungry 8 = .ok (.getfield 52, 3) := by decide +kernel
theorem dX7_passUntilHungry_11 : decode cX7_passUntilHungry 11 = .ok (.ifCond .ne 13, 3) := by decide +kernel
theorem dX7_passUntilHungry_14 : decode cX7_passUntilHungry 14 = .ok (.aload_n 0, 1) := by decide +kernel
theorem dX7_passUntilHungry_15 : decode cX7_passUntilHungry 15 = .ok (.invokevirtual 86, 3) := by decide +kernel
theorem dX7_passUntilHungry_18 : decode cX7_passUntilHungry 18 = .ok (.iinc 2 1, 3) := by decide +kernel
theorem dX7_passUntilHungry_21 : decode cX7_passUntilHungry 21 = .ok (.goto (-19), 3) := by decide +kernel
theorem dX7_passUntilHungry_24 : decode cX7_passUntilHungry 24 = .ok (.return_, 1) := by decide +kernel
theorem dX7_leastHungry_0 : decode cX7_leastHungry 0 = .ok (.iconst 0, 1) := by decide +kernel
theorem dX7_leastHungry_1 : decode cX7_leastHungry 1 = .ok (.istore_n 1, 1) := by decide +kernel
theorem dX7_leastHungry_2 : decode cX7_leastHungry 2 = .ok (.iload_n 1, 1) := by decide +kernel
theorem dX7_leastHungry_3 : decode cX7_leastHungry 3 = .ok (.aload_n 0, 1) := by decide +kernel
theorem dX7_leastHungry_4 : decode cX7_leastHungry 4 = .ok (.getfield 25, 3) := by decide +kernel
theorem dX7_leastHungry_7 : decode cX7_leastHungry 7 = .ok (.arraylength, 1) := by decide +kernel
theorem dX7_leastHungry_8 : decode cX7_leastHungry 8 = .ok (.if_icmp .ge 20, 3) := by decide +kernel
theorem dX7_leastHungry_11 : decode cX7_leastHungry 11 = .ok (.aload_n 0, 1) := by decide +kernel
theorem dX7_leastHungry_12 : decode cX7_leastHungry 12 = .ok (.getfield 25, 3) := by decide +kernel
theorem dX7_leastHungry_15 : decode cX7_leastHungry 15 = .ok (.iload_n 1, 1) := by decide +kernel
theorem dX7_leastHungry_16 : decode cX7_leastHungry 16 = .ok (.iaload, 1) := by decide +kernel
theorem dX7_leastHungry_17 : decode cX7_leastHungry 17 = .ok (.ifCond .le 5, 3) := by decide +kernel
theorem dX7_leastHungry_20 : decode cX7_leastHungry 20 = .ok (.iload_n 1, 1) := by decide +kernel
theorem dX7_leastHungry_21 : decode cX7_leastHungry 21 = .ok (.ireturn, 1) := by decide +kernel
theorem dX7_leastHungry_22 : decode cX7_leastHungry 22 = .ok (.iinc 1 1, 3) := by decide +kernel
theorem dX7_leastHungry_25 : decode cX7_leastHungry 25 = .ok (.goto (-23), 3) := by decide +kernel
