theorem dX11_carryOn_101 : decode cX11_carryOn 101 = .ok (.ldc 226, 2) := by decide +kernel
theorem dX11_carryOn_103 : decode cX11_carryOn 103 = .ok (.goto 8, 3) := by decide +kernel
theorem dX11_carryOn_106 : decode cX11_carryOn 106 = .ok (.iload 5, 2) := by decide +kernel
theorem dX11_carryOn_108 : decode cX11_carryOn 108 = .ok (.iload 6, 2) := by decide +kernel
theorem dX11_carryOn_110 : decode cX11_carryOn 110 = .ok (.iadd, 1) := by decide +kernel
theorem dX11_carryOn_111 : decode cX11_carryOn 111 = .ok (.iastore, 1) := by decide +kernel
theorem dX11_carryOn_112 : decode cX11_carryOn 112 = .ok (.iinc 4 1, 3) := by decide +kernel
theorem dX11_carryOn_115 : decode cX11_carryOn 115 = .ok (.goto (-112), 3) := by decide +kernel
theorem dX11_carryOn_118 : decode cX11_carryOn 118 = .ok (.iconst 0, 1) := by decide +kernel
theorem dX11_carryOn_119 : decode cX11_carryOn 119 = .ok (.istore 4, 2) := by decide +kernel
theorem dX11_carryOn_121 : decode cX11_carryOn 121 = .ok (.iload 4, 2) := by decide +kernel
theorem dX11_carryOn_123 : decode cX11_carryOn 123 = .ok (.sipush 892, 3) := by decide +kernel
theorem dX11_carryOn_126 : decode cX11_carryOn 126 = .ok (.if_icmp .ge 23, 3) := by decide +kernel
theorem dX11_carryOn_129 : decode cX11_carryOn 129 = .ok (.aload_n 0, 1) := by decide +kernel
theorem dX11_carryOn_130 : decode cX11_carryOn 130 = .ok (.getfield 46, 3) := by decide +kernel
theorem dX11_carryOn_133 : decode cX11_carryOn 133 = .ok (.iload 4, 2) := by decide +kernel
theorem dX11_carryOn_135 : decode cX11_carryOn 135 = .ok (.aload_n 0, 1) := by decide +kernel
theorem dX11_carryOn_136 : decode cX11_carryOn 136 = .ok (.getfield 49, 3) := by decide +kernel
theorem dX11_carryOn_139 : decode cX11_carryOn 139 = .ok (.iload 4, 2) := by decide +kernel
theorem dX11_carryOn_141 : decode cX11_carryOn 141 = .ok (.iaload, 1) := by decide +kernel
theorem dX11_carryOn_142 : decode cX11_carryOn 142 = .ok (.iastore, 1) := by decide +kernel
theorem dX11_carryOn_143 : decode cX11_carryOn 143 = .ok (.iinc 4 1, 3) := by decide +kernel
theorem dX11_carryOn_146 : decode cX11_carryOn 146 = .ok (.goto (-25), 3) := by decide +kernel
theorem dX11_carryOn_149 : decode cX11_carryOn 149 = .ok (.return_, 1) := by decide +kernel
set_option maxRecDepth 20000 in
theorem ggX11_carry_X11_in : GoodIn wsX11_carry wsX11_in := goodIn_r _ [9] rfl (by decide +kernel)
set_option maxRecDepth 20000 in
theorem gX11_carry_X11_in : GoodIn wsX11_carry (va_wsS RX11 99 yX11_in wsX11_in) := goodIn_app (goodIn_r _ [6, 7, 8] rfl (by decide +kernel)) ggX11_carry_X11_in
set_option maxRecDepth 20000 in
theorem ggX11_carry_X11_keepNow : GoodIn wsX11_carry wsX11_keepNow := goodIn_r _ [13, 14, 5, 15, 16, 17, 18, 19, 20, 8, 21, 60, 61, 62, 63, 64, 65, 66, 67, 68, 69, 70, 71, 72, 73, 74, 75, 76, 77, 78, 79, 80, 81, 82, 83, 84, 85, 86, 87, 88, 89, 90, 91, 92, 93, 94, 95, 96, 97, 98] rfl (by decide +kernel)
set_option maxRecDepth 20000 in
theorem gX11_carry_X11_keepNow : GoodIn wsX11_carry (wsV RX11 197 RX11 yX11_keepNow wsX11_keepNow) := goodIn_app (goodIn_r _ [10, 11, 12, 8] rfl (by decide +kernel)) ggX11_carry_X11_keepNow
set_option maxRecDepth 20000 in
theorem ggX11_carry_X11_needOf : GoodIn wsX11_carry wsX11_needOf := goodIn_r _ [25, 5, 19, 20, 8, 21, 26, 27, 28, 29, 15, 14, 30, 31, 32, 33, 34, 35, 36, 37, 4, 38, 39, 40, 41, 42, 43, 44, 45, 46, 47, 48, 49, 50, 51, 52, 53, 54, 60, 61, 62, 63, 64, 65, 66, 67, 68, 69, 70, 71, 72, 73, 74, 75, 76, 77, 78, 79, 80, 81, 82, 83, 84, 85, 86, 87, 88, 89, 90, 91, 92, 93, 94, 95, 96, 97, 98] rfl (by decide +kernel)
set_option maxRecDepth 20000 in
theorem gX11_carry_X11_needOf : GoodIn wsX11_carry (wsV RX11 223 RX11 yX11_needOf wsX11_needOf) := goodIn_app (goodIn_r _ [22, 23, 24, 8] rfl (by decide +kernel)) ggX11_carry_X11_needOf
set_option maxRecDepth 20000 in
theorem ggX11_carry_X11_at : GoodIn wsX11_carry wsX11_at := goodIn_r _ [21] rfl (by decide +kernel)
set_option maxRecDepth 20000 in
theorem gX11_carry_X11_at : GoodIn wsX11_carry (va_wsS RX11 95 yX11_at wsX11_at) := goodIn_app (goodIn_r _ [19, 20, 8] rfl (by decide +kernel)) ggX11_carry_X11_at
set_option maxRecDepth 20000 in
theorem ggX11_carry_X11_carryOn : GoodIn wsX11_carry wsX11_carryOn := goodIn_r _ [58, 3, 2, 59, 60, 61, 62, 63, 64, 65, 66, 67, 68, 69, 70, 71, 72, 73, 74, 75, 76, 77, 78, 79, 80, 81, 82, 83, 84, 85, 86, 87, 88, 89, 90, 91, 92, 93, 94, 95, 96, 97, 98] rfl (by decide +kernel)
set_option maxRecDepth 20000 in
theorem gX11_carry_X11_carryOn : GoodIn wsX11_carry (wsV RX11 229 RX11 yX11_carryOn wsX11_carryOn) := goodIn_app (goodIn_r _ [55, 56, 57, 8] rfl (by decide +kernel)) ggX11_carry_X11_carryOn
theorem dX11_carry_0 : decode cX11_carry 0 = .ok (.iload_n 1, 1) := by decide +kernel
theorem dX11_carry_1 : decode cX11_carry 1 = .ok (.i2l, 1) := by decide +kernel
theorem dX11_carry_2 : decode cX11_carry 2 = .ok (.lconst 1, 1) := by decide +kernel
theorem dX11_carry_3 : decode cX11_carry 3 = .ok (.ldc2_w 227, 3) := by decide +kernel
theorem dX11_carry_6 : decode cX11_carry 6 = .ok (.invokestatic 99, 3) := by decide +kernel
theorem dX11_carry_9 : decode cX11_carry 9 = .ok (.ifCond .ne 6, 3) := by decide +kernel
theorem dX11_carry_12 : decode cX11_carry 12 = .ok (.bipush (-2), 2) := by decide +kernel
theorem dX11_carry_14 : decode cX11_carry 14 = .ok (.ireturn, 1) := by decide +kernel
theorem dX11_carry_15 : decode cX11_carry 15 = .ok (.aload_n 0, 1) := by decide +kernel
theorem dX11_carry_16 : decode cX11_carry 16 = .ok (.invokevirtual 197, 3) := by decide +kernel
theorem dX11_carry_19 : decode cX11_carry 19 = .ok (.iconst 0, 1) := by decide +kernel
theorem dX11_carry_20 : decode cX11_carry 20 = .ok (.istore_n 2, 1) := by decide +kernel
theorem dX11_carry_21 : decode cX11_carry 21 = .ok (.iload_n 2, 1) := by decide +kernel
theorem dX11_carry_22 : decode cX11_carry 22 = .ok (.sipush 892, 3) := by decide +kernel
theorem dX11_carry_25 : decode cX11_carry 25 = .ok (.if_icmp .ge 25, 3) := by decide +kernel
theorem dX11_carry_28 : decode cX11_carry 28 = .ok (.aload_n 0, 1) := by decide +kernel
theorem dX11_carry_29 : decode cX11_carry 29 = .ok (.getfield 46, 3) := by decide +kernel
theorem dX11_carry_32 : decode cX11_carry 32 = .ok (.iload_n 2, 1) := by decide +kernel
theorem dX11_carry_33 : decode cX11_carry 33 = .ok (.iload_n 2, 1) := by decide +kernel
theorem dX11_carry_34 : decode cX11_carry 34 = .ok (.ifCond .ne 7, 3) := by decide +kernel
theorem dX11_carry_37 : decode cX11_carry 37 = .ok (.iconst 0, 1) := by decide +kernel
theorem dX11_carry_38 : decode cX11_carry 38 = .ok (.goto 5, 3) := by decide +kernel
theorem dX11_carry_41 : decode cX11_carry 41 = .ok (.ldc 226, 2) := by decide +kernel
theorem dX11_carry_43 : decode cX11_carry 43 = .ok (.iastore, 1) := by decide +kernel
theorem dX11_carry_44 : decode cX11_carry 44 = .ok (.iinc 2 1, 3) := by decide +kernel
theorem dX11_carry_47 : decode cX11_carry 47 = .ok (.goto (-26), 3) := by decide +kernel
theorem dX11_carry_50 : decode cX11_carry 50 = .ok (.iconst 0, 1) := by decide +kernel
theorem dX11_carry_51 : decode cX11_carry 51 = .ok (.istore_n 2, 1) := by decide +kernel
theorem dX11_carry_52 : decode cX11_carry 52 = .ok (.iconst 0, 1) := by decide +kernel
theorem dX11_carry_53 : decode cX11_carry 53 = .ok (.istore_n 3, 1) := by decide +kernel
theorem dX11_carry_54 : decode cX11_carry 54 = .ok (.iload_n 3, 1) := by decide +kernel
theorem dX11_carry_55 : decode cX11_carry 55 = .ok (.aload_n 0, 1) := by decide +kernel
theorem dX11_carry_56 : decode cX11_carry 56 = .ok (.getfield 83, 3) := by decide +kernel
theorem dX11_carry_59 : decode cX11_carry 59 = .ok (.if_icmp .ge 55, 3) := by decide +kernel
theorem dX11_carry_62 : decode cX11_carry 62 = .ok (.aload_n 0, 1) := by decide +kernel
theorem dX11_carry_63 : decode cX11_carry 63 = .ok (.iload_n 3, 1) := by decide +kernel
theorem dX11_carry_64 : decode cX11_carry 64 = .ok (.iload_n 1, 1) := by decide +kernel
theorem dX11_carry_65 : decode cX11_carry 65 = .ok (.invokevirtual 223, 3) := by decide +kernel
theorem dX11_carry_68 : decode cX11_carry 68 = .ok (.istore 4, 2) := by decide +kernel
theorem dX11_carry_70 : decode cX11_carry 70 = .ok (.iload 4, 2) := by decide +kernel
theorem dX11_carry_72 : decode cX11_carry 72 = .ok (.ifCond .ge 6, 3) := by decide +kernel
theorem dX11_carry_75 : decode cX11_carry 75 = .ok (.bipush (-6), 2) := by decide +kernel
theorem dX11_carry_77 : decode cX11_carry 77 = .ok (.ireturn, 1) := by decide +kernel
theorem dX11_carry_78 : decode cX11_carry 78 = .ok (.iload_n 2, 1) := by decide +kernel
theorem dX11_carry_79 : decode cX11_carry 79 = .ok (.aload_n 0, 1) := by decide +kernel
theorem dX11_carry_80 : decode cX11_carry 80 = .ok (.getfield 7, 3) := by decide +kernel
theorem dX11_carry_83 : decode cX11_carry 83 = .ok (.iconst 2, 1) := by decide +kernel
theorem dX11_carry_84 : decode cX11_carry 84 = .ok (.iload_n 3, 1) := by decide +kernel
theorem dX11_carry_85 : decode cX11_carry 85 = .ok (.invokestatic 95, 3) := by decide +kernel
theorem dX11_carry_88 : decode cX11_carry 88 = .ok (.iaload, 1) := by decide +kernel
theorem dX11_carry_89 : decode cX11_carry 89 = .ok (.iadd, 1) := by decide +kernel
theorem dX11_carry_90 : decode cX11_carry 90 = .ok (.istore_n 2, 1) := by decide +kernel
theorem dX11_carry_91 : decode cX11_carry 91 = .ok (.aload_n 0, 1) := by decide +kernel
theorem dX11_carry_92 : decode cX11_carry 92 = .ok (.iload 4, 2) := by decide +kernel
theorem dX11_carry_94 : decode cX11_carry 94 = .ok (.aload_n 0, 1) := by decide +kernel
theorem dX11_carry_95 : decode cX11_carry 95 = .ok (.getfield 7, 3) := by decide +kernel
theorem dX11_carry_98 : decode cX11_carry 98 = .ok (.iconst 3, 1) := by decide +kernel
theorem dX11_carry_99 : decode cX11_carry 99 = .ok (.iload_n 3, 1) := by decide +kernel
theorem dX11_carry_100 : decode cX11_carry 100 = .ok (.invokestatic 95, 3) := by decide +kernel
theorem dX11_carry_103 : decode cX11_carry 103 = .ok (.iaload, 1) := by decide +kernel
theorem dX11_carry_104 : decode cX11_carry 104 = .ok (.iload_n 2, 1) := by decide +kernel
theorem dX11_carry_105 : decode cX11_carry 105 = .ok (.invokevirtual 229, 3) := by decide +kernel
theorem dX11_carry_108 : decode cX11_carry 108 = .ok (.iinc 3 1, 3) := by decide +kernel
theorem dX11_carry_111 : decode cX11_carry 111 = .ok (.goto (-57), 3) := by decide +kernel
theorem dX11_carry_114 : decode cX11_carry 114 = .ok (.aload_n 0, 1) := by decide +kernel
theorem dX11_carry_115 : decode cX11_carry 115 = .ok (.getfield 46, 3) := by decide +kernel
theorem dX11_carry_118 : decode cX11_carry 118 = .ok (.iload_n 2, 1) := by decide +kernel
theorem dX11_carry_119 : decode cX11_carry 119 = .ok (.iaload, 1) := by decide +kernel
theorem dX11_carry_120 : decode cX11_carry 120 = .ok (.ldc 226, 2) := by decide +kernel
theorem dX11_carry_122 : decode cX11_carry 122 = .ok (.if_icmp .ne 8, 3) := by decide +kernel
theorem dX11_carry_125 : decode cX11_carry 125 = .ok (.bipush (-6), 2) := by decide +kernel
theorem dX11_carry_127 : decode cX11_carry 127 = .ok (.goto 9, 3) := by decide +kernel
theorem dX11_carry_130 : decode cX11_carry 130 = .ok (.aload_n 0, 1) := by decide +kernel
theorem dX11_carry_131 : decode cX11_carry 131 = .ok (.getfield 46, 3) := by decide +kernel
theorem dX11_carry_134 : decode cX11_carry 134 = .ok (.iload_n 2, 1) := by decide +kernel
theorem dX11_carry_135 : decode cX11_carry 135 = .ok (.iaload, 1) := by decide +kernel
theorem dX11_carry_136 : decode cX11_carry 136 = .ok (.ireturn, 1) := by decide +kernel
set_option maxRecDepth 20000 in
theorem ggX11_paced_X11_in : GoodIn wsX11_paced wsX11_in := goodIn_r _ [8] rfl (by decide +kernel)
set_option maxRecDepth 20000 in
theorem gX11_paced_X11_in : GoodIn wsX11_paced (va_wsS RX11 99 yX11_in wsX11_in) := goodIn_app (goodIn_r _ [5, 6, 7] rfl (by decide +kernel)) ggX11_paced_X11_in
set_option maxRecDepth 20000 in
theorem ggX11_paced_X11_keepNow : GoodIn wsX11_paced wsX11_keepNow := goodIn_r _ [12, 13, 14, 15, 16, 4, 17, 18, 19, 7, 20, 54, 55, 56, 57, 58, 59, 60, 61, 62, 63, 64, 65, 66, 67, 68, 69, 70, 71, 72, 73, 74, 75, 76, 77, 78, 79, 80, 81, 82, 83, 84, 85, 86, 87, 88, 89, 90, 91, 92] rfl (by decide +kernel)
set_option maxRecDepth 20000 in
theorem gX11_paced_X11_keepNow : GoodIn wsX11_paced (wsV RX11 197 RX11 yX11_keepNow wsX11_keepNow) := goodIn_app (goodIn_r _ [9, 10, 11, 7] rfl (by decide +kernel)) ggX11_paced_X11_keepNow
set_option maxRecDepth 20000 in
theorem ggX11_paced_X11_passYear : GoodIn wsX11_paced wsX11_passYear := goodIn_r _ [24, 25, 15, 4, 17, 26, 27, 28, 7, 29, 30, 31, 32, 33, 34, 3, 35, 36, 37, 38, 39, 40, 41, 42, 43, 44, 45, 46, 47, 48, 49, 14, 18, 19, 20, 54, 55, 56, 57, 58, 59, 60, 61, 62, 63, 64, 65, 66, 67, 68, 69, 70, 71, 72, 73, 74, 75, 76, 77, 78, 79, 80, 81, 82, 83, 84, 85, 86, 87, 88, 89, 90, 91, 92] rfl (by decide +kernel)
set_option maxRecDepth 20000 in
theorem gX11_paced_X11_passYear : GoodIn wsX11_paced (wsV RX11 189 RX11 yX11_passYear wsX11_passYear) := goodIn_app (goodIn_r _ [21, 22, 23, 7] rfl (by decide +kernel)) ggX11_paced_X11_passYear
set_option maxRecDepth 20000 in
theorem ggX11_paced_X11_putBack : GoodIn wsX11_paced wsX11_putBack := goodIn_r _ [53, 14, 13, 16, 15, 18, 19, 7, 20, 54, 55, 56, 57, 58, 59, 60, 61, 62, 63, 64, 65, 66, 67, 68, 69, 70, 71, 72, 73, 74, 75, 76, 77, 78, 79, 80, 81, 82, 83, 84, 85, 86, 87, 88, 89, 90, 91, 92] rfl (by decide +kernel)
set_option maxRecDepth 20000 in
theorem gX11_paced_X11_putBack : GoodIn wsX11_paced (wsV RX11 206 RX11 yX11_putBack wsX11_putBack) := goodIn_app (goodIn_r _ [50, 51, 52, 7] rfl (by decide +kernel)) ggX11_paced_X11_putBack
theorem dX11_paced_0 : decode cX11_paced 0 = .ok (.iload_n 1, 1) := by decide +kernel
theorem dX11_paced_1 : decode cX11_paced 1 = .ok (.i2l, 1) := by decide +kernel
theorem dX11_paced_2 : decode cX11_paced 2 = .ok (.lconst 1, 1) := by decide +kernel
theorem dX11_paced_3 : decode cX11_paced 3 = .ok (.ldc2_w 107, 3) := by decide +kernel
theorem dX11_paced_6 : decode cX11_paced 6 = .ok (.invokestatic 99, 3) := by decide +kernel
theorem dX11_paced_9 : decode cX11_paced 9 = .ok (.ifCond .eq 15, 3) := by decide +kernel
theorem dX11_paced_12 : decode cX11_paced 12 = .ok (.iload_n 2, 1) := by decide +kernel
theorem dX11_paced_13 : decode cX11_paced 13 = .ok (.i2l, 1) := by decide +kernel
theorem dX11_paced_14 : decode cX11_paced 14 = .ok (.lconst 1, 1) := by decide +kernel
theorem dX11_paced_15 : decode cX11_paced 15 = .ok (.ldc2_w 109, 3) := by decide +kernel
theorem dX11_paced_18 : decode cX11_paced 18 = .ok (.invokestatic 99, 3) := by decide +kernel
theorem dX11_paced_21 : decode cX11_paced 21 = .ok (.ifCond .ne 6, 3) := by decide +kernel
theorem dX11_paced_24 : decode cX11_paced 24 = .ok (.bipush (-2), 2) := by decide +kernel
theorem dX11_paced_26 : decode cX11_paced 26 = .ok (.ireturn, 1) := by decide +kernel
theorem dX11_paced_27 : decode cX11_paced 27 = .ok (.aload_n 0, 1) := by decide +kernel
theorem dX11_paced_28 : decode cX11_paced 28 = .ok (.getfield 69, 3) := by decide +kernel
theorem dX11_paced_31 : decode cX11_paced 31 = .ok (.istore_n 3, 1) := by decide +kernel
theorem dX11_paced_32 : decode cX11_paced 32 = .ok (.aload_n 0, 1) := by decide +kernel
theorem dX11_paced_33 : decode cX11_paced 33 = .ok (.iload_n 1, 1) := by decide +kernel
theorem dX11_paced_34 : decode cX11_paced 34 = .ok (.putfield 69, 3) := by decide +kernel
theorem dX11_paced_37 : decode cX11_paced 37 = .ok (.aload_n 0, 1) := by decide +kernel
theorem dX11_paced_38 : decode cX11_paced 38 = .ok (.invokevirtual 197, 3) := by decide +kernel
theorem dX11_paced_41 : decode cX11_paced 41 = .ok (.iconst 0, 1) := by decide +kernel
theorem dX11_paced_42 : decode cX11_paced 42 = .ok (.istore 4, 2) := by decide +kernel
theorem dX11_paced_44 : decode cX11_paced 44 = .ok (.iload 4, 2) := by decide +kernel
theorem dX11_paced_46 : decode cX11_paced 46 = .ok (.iload_n 2, 1) := by decide +kernel
theorem dX11_paced_47 : decode cX11_paced 47 = .ok (.if_icmp .ge 14, 3) := by decide +kernel
theorem dX11_paced_50 : decode cX11_paced 50 = .ok (.aload_n 0, 1) := by decide +kernel
theorem dX11_paced_51 : decode cX11_paced 51 = .ok (.invokevirtual 189, 3) := by decide +kernel
theorem dX11_paced_54 : decode cX11_paced 54 = .ok (.pop, 1) := by decide +kernel
theorem dX11_paced_55 : decode cX11_paced 55 = .ok (.iinc 4 1, 3) := by decide +kernel
theorem dX11_paced_58 : decode cX11_paced 58 = .ok (.goto (-14), 3) := by decide +kernel
theorem dX11_paced_61 : decode cX11_paced 61 = .ok (.aload_n 0, 1) := by decide +kernel
theorem dX11_paced_62 : decode cX11_paced 62 = .ok (.invokevirtual 206, 3) := by decide +kernel
theorem dX11_paced_65 : decode cX11_paced 65 = .ok (.aload_n 0, 1) := by decide +kernel
theorem dX11_paced_66 : decode cX11_paced 66 = .ok (.iload_n 3, 1) := by decide +kernel
theorem dX11_paced_67 : decode cX11_paced 67 = .ok (.putfield 69, 3) := by decide +kernel
theorem dX11_paced_70 : decode cX11_paced 70 = .ok (.aload_n 0, 1) := by decide +kernel
theorem dX11_paced_71 : decode cX11_paced 71 = .ok (.getfield 166, 3) := by decide +kernel
theorem dX11_paced_74 : decode cX11_paced 74 = .ok (.ireturn, 1) := by decide +kernel
set_option maxRecDepth 20000 in
theorem ggX11_canStrike_X11_isLit : GoodIn wsX11_canStrike wsX11_isLit := goodIn_r _ [5, 6, 7, 8, 4, 9, 10, 11, 12, 13, 14, 15, 16, 17, 18, 19, 20, 21, 22, 23, 24, 25, 26, 27, 28, 29, 30, 31, 32, 33, 34, 35, 36, 37, 38, 39, 40, 41, 42, 43, 44, 45, 46, 47, 48, 49, 50, 51, 52, 53, 54, 55, 56, 57, 58, 59, 60, 61, 62] rfl (by decide +kernel)
set_option maxRecDepth 20000 in
theorem gX11_canStrike_X11_isLit : GoodIn wsX11_canStrike (wsV RX11 159 RX11 yX11_isLit wsX11_isLit) := goodIn_app (goodIn_r _ [1, 2, 3, 4] rfl (by decide +kernel)) ggX11_canStrike_X11_isLit
theorem dX11_canStrike_0 : decode cX11_canStrike 0 = .ok (.aload_n 0, 1) := by decide +kernel
theorem dX11_canStrike_1 : decode cX11_canStrike 1 = .ok (.iload_n 1, 1) := by decide +kernel
theorem dX11_canStrike_2 : decode cX11_canStrike 2 = .ok (.iload_n 3, 1) := by decide +kernel
theorem dX11_canStrike_3 : decode cX11_canStrike 3 = .ok (.invokevirtual 159, 3) := by decide +kernel
theorem dX11_canStrike_6 : decode cX11_canStrike 6 = .ok (.ifCond .eq 16, 3) := by decide +kernel
theorem dX11_canStrike_9 : decode cX11_canStrike 9 = .ok (.aload_n 0, 1) := by decide +kernel
theorem dX11_canStrike_10 : decode cX11_canStrike 10 = .ok (.iload_n 2, 1) := by decide +kernel
theorem dX11_canStrike_11 : decode cX11_canStrike 11 = .ok (.iload_n 3, 1) := by decide +kernel
theorem dX11_canStrike_12 : decode cX11_canStrike 12 = .ok (.invokevirtual 159, 3) := by decide +kernel
theorem dX11_canStrike_15 : decode cX11_canStrike 15 = .ok (.ifCond .ne 7, 3) := by decide +kernel
theorem dX11_canStrike_18 : decode cX11_canStrike 18 = .ok (.iconst 1, 1) := by decide +kernel
theorem dX11_canStrike_19 : decode cX11_canStrike 19 = .ok (.goto 4, 3) := by decide +kernel
theorem dX11_canStrike_22 : decode cX11_canStrike 22 = .ok (.iconst 0, 1) := by decide +kernel
theorem dX11_canStrike_23 : decode cX11_canStrike 23 = .ok (.ireturn, 1) := by decide +kernel
set_option maxRecDepth 20000 in
theorem ggX11_areTwo_X11_isLand : GoodIn wsX11_areTwo wsX11_isLand := goodIn_r _ [5, 6, 7, 8, 4, 9, 10, 11, 12, 13, 14, 15, 16, 17, 18, 19, 20, 21, 22, 23, 24, 25, 26, 27, 28, 29, 30, 31, 32, 33, 34, 35, 36, 37, 38, 39, 40, 41, 42, 43, 44, 45, 46, 47, 48] rfl (by decide +kernel)
set_option maxRecDepth 20000 in
theorem gX11_areTwo_X11_isLand : GoodIn wsX11_areTwo (wsV RX11 129 RX11 yX11_isLand wsX11_isLand) := goodIn_app (goodIn_r _ [1, 2, 3, 4] rfl (by decide +kernel)) ggX11_areTwo_X11_isLand
theorem dX11_areTwo_0 : decode cX11_areTwo 0 = .ok (.aload_n 0, 1) := by decide +kernel
theorem dX11_areTwo_1 : decode cX11_areTwo 1 = .ok (.iload_n 1, 1) := by decide +kernel
theorem dX11_areTwo_2 : decode cX11_areTwo 2 = .ok (.invokevirtual 129, 3) := by decide +kernel
theorem dX11_areTwo_5 : decode cX11_areTwo 5 = .ok (.ifCond .eq 20, 3) := by decide +kernel
theorem dX11_areTwo_8 : decode cX11_areTwo 8 = .ok (.aload_n 0, 1) := by decide +kernel
theorem dX11_areTwo_9 : decode cX11_areTwo 9 = .ok (.iload_n 2, 1) := by decide +kernel
theorem dX11_areTwo_10 : decode cX11_areTwo 10 = .ok (.invokevirtual 129, 3) := by decide +kernel
theorem dX11_areTwo_13 : decode cX11_areTwo 13 = .ok (.ifCond .eq 12, 3) := by decide +kernel
theorem dX11_areTwo_16 : decode cX11_areTwo 16 = .ok (.iload_n 1, 1) := by decide +kernel
theorem dX11_areTwo_17 : decode cX11_areTwo 17 = .ok (.iload_n 2, 1) := by decide +kernel
theorem dX11_areTwo_18 : decode cX11_areTwo 18 = .ok (.if_icmp .eq 7, 3) := by decide +kernel
theorem dX11_areTwo_21 : decode cX11_areTwo 21 = .ok (.iconst 1, 1) := by decide +kernel
theorem dX11_areTwo_22 : decode cX11_areTwo 22 = .ok (.goto 4, 3) := by decide +kernel
theorem dX11_areTwo_25 : decode cX11_areTwo 25 = .ok (.iconst 0, 1) := by decide +kernel
theorem dX11_areTwo_26 : decode cX11_areTwo 26 = .ok (.ireturn, 1) := by decide +kernel
set_option maxRecDepth 20000 in
theorem ggX11_strike_X11_areTwo : GoodIn wsX11_strike wsX11_areTwo := goodIn_r _ [5, 6, 7, 8, 4, 9, 10, 11, 12, 13, 43, 44, 45, 46, 47, 48, 49, 50, 51, 52, 53, 54, 55, 56, 57, 58, 59, 60, 61, 62, 63, 64, 65, 66, 67, 68, 69, 70, 71, 72, 73, 74, 75, 76, 77, 78, 79, 80, 81] rfl (by decide +kernel)
set_option maxRecDepth 20000 in
theorem gX11_strike_X11_areTwo : GoodIn wsX11_strike (wsV RX11 232 RX11 yX11_areTwo wsX11_areTwo) := goodIn_app (goodIn_r _ [1, 2, 3, 4] rfl (by decide +kernel)) ggX11_strike_X11_areTwo
set_option maxRecDepth 20000 in
theorem ggX11_strike_X11_isYear : GoodIn wsX11_strike wsX11_isYear := goodIn_r _ [16, 17, 11, 12, 4, 13] rfl (by decide +kernel)
set_option maxRecDepth 20000 in
theorem gX11_strike_X11_isYear : GoodIn wsX11_strike (va_wsS RX11 212 yX11_isYear wsX11_isYear) := goodIn_app (goodIn_r _ [14, 15, 4] rfl (by decide +kernel)) ggX11_strike_X11_isYear
set_option maxRecDepth 20000 in
theorem ggX11_strike_X11_canStrike : GoodIn wsX11_strike wsX11_canStrike := goodIn_r _ [21, 22, 23, 24, 4, 25, 26, 27, 28, 29, 10, 30, 31, 32, 33, 34, 35, 36, 37, 38, 39, 40, 41, 42, 43, 44, 45, 46, 47, 48, 49, 50, 51, 52, 53, 54, 55, 56, 57, 58, 59, 60, 61, 62, 63, 64, 65, 66, 67, 68, 69, 70, 71, 72, 73, 74, 75, 76, 77, 78, 79, 80, 81] rfl (by decide +kernel)
set_option maxRecDepth 20000 in
theorem gX11_strike_X11_canStrike : GoodIn wsX11_strike (wsV RX11 235 RX11 yX11_canStrike wsX11_canStrike) := goodIn_app (goodIn_r _ [18, 19, 20, 4] rfl (by decide +kernel)) ggX11_strike_X11_canStrike
theorem dX11_strike_0 : decode cX11_strike 0 = .ok (.aload_n 0, 1) := by decide +kernel
theorem dX11_strike_1 : decode cX11_strike 1 = .ok (.iload_n 1, 1) := by decide +kernel
theorem dX11_strike_2 : decode cX11_strike 2 = .ok (.iload_n 2, 1) := by decide +kernel
theorem dX11_strike_3 : decode cX11_strike 3 = .ok (.invokevirtual 232, 3) := by decide +kernel
theorem dX11_strike_6 : decode cX11_strike 6 = .ok (.ifCond .ne 5, 3) := by decide +kernel
theorem dX11_strike_9 : decode cX11_strike 9 = .ok (.iconst (-1), 1) := by decide +kernel
theorem dX11_strike_10 : decode cX11_strike 10 = .ok (.ireturn, 1) := by decide +kernel
theorem dX11_strike_11 : decode cX11_strike 11 = .ok (.iload_n 3, 1) := by decide +kernel
theorem dX11_strike_12 : decode cX11_strike 12 = .ok (.invokestatic 212, 3) := by decide +kernel
theorem dX11_strike_15 : decode cX11_strike 15 = .ok (.ifCond .ne 6, 3) := by decide +kernel
theorem dX11_strike_18 : decode cX11_strike 18 = .ok (.bipush (-2), 2) := by decide +kernel
theorem dX11_strike_20 : decode cX11_strike 20 = .ok (.ireturn, 1) := by decide +kernel
theorem dX11_strike_21 : decode cX11_strike 21 = .ok (.iload_n 3, 1) := by decide +kernel
theorem dX11_strike_22 : decode cX11_strike 22 = .ok (.istore 4, 2) := by decide +kernel
theorem dX11_strike_24 : decode cX11_strike 24 = .ok (.iload 4, 2) := by decide +kernel
theorem dX11_strike_26 : decode cX11_strike 26 = .ok (.iload_n 3, 1) := by decide +kernel
theorem dX11_strike_27 : decode cX11_strike 27 = .ok (.sipush 2880, 3) := by decide +kernel
theorem dX11_strike_30 : decode cX11_strike 30 = .ok (.iadd, 1) := by decide +kernel
theorem dX11_strike_31 : decode cX11_strike 31 = .ok (.if_icmp .ge 23, 3) := by decide +kernel
theorem dX11_strike_34 : decode cX11_strike 34 = .ok (.aload_n 0, 1) := by decide +kernel
theorem dX11_strike_35 : decode cX11_strike 35 = .ok (.iload_n 1, 1) := by decide +kernel
theorem dX11_strike_36 : decode cX11_strike 36 = .ok (.iload_n 2, 1) := by decide +kernel
theorem dX11_strike_37 : decode cX11_strike 37 = .ok (.iload 4, 2) := by decide +kernel
theorem dX11_strike_39 : decode cX11_strike 39 = .ok (.invokevirtual 235, 3) := by decide +kernel
theorem dX11_strike_42 : decode cX11_strike 42 = .ok (.ifCond .eq 6, 3) := by decide +kernel
theorem dX11_strike_45 : decode cX11_strike 45 = .ok (.iload 4, 2) := by decide +kernel
theorem dX11_strike_47 : decode cX11_strike 47 = .ok (.ireturn, 1) := by decide +kernel
theorem dX11_strike_48 : decode cX11_strike 48 = .ok (.iinc 4 1, 3) := by decide +kernel
theorem dX11_strike_51 : decode cX11_strike 51 = .ok (.goto (-27), 3) := by decide +kernel
theorem dX11_strike_54 : decode cX11_strike 54 = .ok (.bipush (-6), 2) := by decide +kernel
theorem dX11_strike_56 : decode cX11_strike 56 = .ok (.ireturn, 1) := by decide +kernel
set_option maxRecDepth 20000 in
theorem ggX11_strikes_X11_areTwo : GoodIn wsX11_strikes wsX11_areTwo := goodIn_r _ [6, 7, 8, 9, 5, 10, 11, 12, 13, 14, 44, 45, 46, 47, 48, 49, 50, 51, 52, 53, 54, 55, 56, 57, 58, 59, 60, 61, 62, 63, 64, 65, 66, 67, 68, 69, 70, 71, 72, 73, 74, 75, 76, 77, 78, 79, 80, 81, 82] rfl (by decide +kernel)
set_option maxRecDepth 20000 in
theorem gX11_strikes_X11_areTwo : GoodIn wsX11_strikes (wsV RX11 232 RX11 yX11_areTwo wsX11_areTwo) := goodIn_app (goodIn_r _ [2, 3, 4, 5] rfl (by decide +kernel)) ggX11_strikes_X11_areTwo
set_option maxRecDepth 20000 in
theorem ggX11_strikes_X11_isYear : GoodIn wsX11_strikes wsX11_isYear := goodIn_r _ [17, 18, 12, 13, 5, 14] rfl (by decide +kernel)
set_option maxRecDepth 20000 in
theorem gX11_strikes_X11_isYear : GoodIn wsX11_strikes (va_wsS RX11 212 yX11_isYear wsX11_isYear) := goodIn_app (goodIn_r _ [15, 16, 5] rfl (by decide +kernel)) ggX11_strikes_X11_isYear
set_option maxRecDepth 20000 in
theorem ggX11_strikes_X11_in : GoodIn wsX11_strikes wsX11_in := goodIn_r _ [14] rfl (by decide +kernel)
set_option maxRecDepth 20000 in
theorem gX11_strikes_X11_in : GoodIn wsX11_strikes (va_wsS RX11 99 yX11_in wsX11_in) := goodIn_app (goodIn_r _ [12, 13, 5] rfl (by decide +kernel)) ggX11_strikes_X11_in
set_option maxRecDepth 20000 in
theorem ggX11_strikes_X11_canStrike : GoodIn wsX11_strikes wsX11_canStrike := goodIn_r _ [22, 23, 24, 25, 5, 26, 27, 28, 29, 30, 11, 31, 32, 33, 34, 35, 36, 37, 38, 39, 40, 41, 42, 43, 44, 45, 46, 47, 48, 49, 50, 51, 52, 53, 54, 55, 56, 57, 58, 59, 60, 61, 62, 63, 64, 65, 66, 67, 68, 69, 70, 71, 72, 73, 74, 75, 76, 77, 78, 79, 80, 81, 82] rfl (by decide +kernel)
set_option maxRecDepth 20000 in
theorem gX11_strikes_X11_canStrike : GoodIn wsX11_strikes (wsV RX11 235 RX11 yX11_canStrike wsX11_canStrike) := goodIn_app (goodIn_r _ [19, 20, 21, 5] rfl (by decide +kernel)) ggX11_strikes_X11_canStrike
theorem dX11_strikes_0 : decode cX11_strikes 0 = .ok (.aload_n 0, 1) := by decide +kernel
theorem dX11_strikes_1 : decode cX11_strikes 1 = .ok (.iload_n 1, 1) := by decide +kernel
theorem dX11_strikes_2 : decode cX11_strikes 2 = .ok (.iload_n 2, 1) := by decide +kernel
theorem dX11_strikes_3 : decode cX11_strikes 3 = .ok (.invokevirtual 232, 3) := by decide +kernel
theorem dX11_strikes_6 : decode cX11_strikes 6 = .ok (.ifCond .ne 5, 3) := by decide +kernel
theorem dX11_strikes_9 : decode cX11_strikes 9 = .ok (.iconst (-1), 1) := by decide +kernel
theorem dX11_strikes_10 : decode cX11_strikes 10 = .ok (.ireturn, 1) := by decide +kernel
theorem dX11_strikes_11 : decode cX11_strikes 11 = .ok (.iload_n 3, 1) := by decide +kernel
theorem dX11_strikes_12 : decode cX11_strikes 12 = .ok (.invokestatic 212, 3) := by decide +kernel
theorem dX11_strikes_15 : decode cX11_strikes 15 = .ok (.ifCond .eq 16, 3) := by decide +kernel
theorem dX11_strikes_18 : decode cX11_strikes 18 = .ok (.iload 4, 2) := by decide +kernel
theorem dX11_strikes_20 : decode cX11_strikes 20 = .ok (.i2l, 1) := by decide +kernel
theorem dX11_strikes_21 : decode cX11_strikes 21 = .ok (.lconst 0, 1) := by decide +kernel
theorem dX11_strikes_22 : decode cX11_strikes 22 = .ok (.ldc2_w 217, 3) := by decide +kernel
theorem dX11_strikes_25 : decode cX11_strikes 25 = .ok (.invokestatic 99, 3) := by decide +kernel
theorem dX11_strikes_28 : decode cX11_strikes 28 = .ok (.ifCond .ne 6, 3) := by decide +kernel
theorem dX11_strikes_31 : decode cX11_strikes 31 = .ok (.bipush (-2), 2) := by decide +kernel
theorem dX11_strikes_33 : decode cX11_strikes 33 = .ok (.ireturn, 1) := by decide +kernel
theorem dX11_strikes_34 : decode cX11_strikes 34 = .ok (.iconst 0, 1) := by decide +kernel
theorem dX11_strikes_35 : decode cX11_strikes 35 = .ok (.istore 5, 2) := by decide +kernel
theorem dX11_strikes_37 : decode cX11_strikes 37 = .ok (.iload_n 3, 1) := by decide +kernel
theorem dX11_strikes_38 : decode cX11_strikes 38 = .ok (.istore 6, 2) := by decide +kernel
theorem dX11_strikes_40 : decode cX11_strikes 40 = .ok (.iload 6, 2) := by decide +kernel
theorem dX11_strikes_42 : decode cX11_strikes 42 = .ok (.iload_n 3, 1) := by decide +kernel
theorem dX11_strikes_43 : decode cX11_strikes 43 = .ok (.iload 4, 2) := by decide +kernel
theorem dX11_strikes_45 : decode cX11_strikes 45 = .ok (.iadd, 1) := by decide +kernel
theorem dX11_strikes_46 : decode cX11_strikes 46 = .ok (.if_icmp .ge 30, 3) := by decide +kernel
theorem dX11_strikes_49 : decode cX11_strikes 49 = .ok (.iload 5, 2) := by decide +kernel
theorem dX11_strikes_51 : decode cX11_strikes 51 = .ok (.aload_n 0, 1) := by decide +kernel
theorem dX11_strikes_52 : decode cX11_strikes 52 = .ok (.iload_n 1, 1) := by decide +kernel
theorem dX11_strikes_53 : decode cX11_strikes 53 = .ok (.iload_n 2, 1) := by decide +kernel
theorem dX11_strikes_54 : decode cX11_strikes 54 = .ok (.iload 6, 2) := by decide +kernel
theorem dX11_strikes_56 : decode cX11_strikes 56 = .ok (.invokevirtual 235, 3) := by decide +kernel
theorem dX11_strikes_59 : decode cX11_strikes 59 = .ok (.ifCond .eq 7, 3) := by decide +kernel
theorem dX11_strikes_62 : decode cX11_strikes 62 = .ok (.iconst 1, 1) := by decide +kernel
theorem dX11_strikes_63 : decode cX11_strikes 63 = .ok (.goto 4, 3) := by decide +kernel
theorem dX11_strikes_66 : decode cX11_strikes 66 = .ok (.iconst 0, 1) := by decide +kernel
theorem dX11_strikes_67 : decode cX11_strikes 67 = .ok (.iadd, 1) := by decide +kernel
theorem dX11_strikes_68 : decode cX11_strikes 68 = .ok (.istore 5, 2) := by decide +kernel
theorem dX11_strikes_70 : decode cX11_strikes 70 = .ok (.iinc 6 1, 3) := by decide +kernel
theorem dX11_strikes_73 : decode cX11_strikes 73 = .ok (.goto (-33), 3) := by decide +kernel
theorem dX11_strikes_76 : decode cX11_strikes 76 = .ok (.iload 5, 2) := by decide +kernel
theorem dX11_strikes_78 : decode cX11_strikes 78 = .ok (.ireturn, 1) := by decide +kernel
set_option maxRecDepth 20000 in
theorem ggX11_stand_X11_isLit : GoodIn wsX11_stand wsX11_isLit := goodIn_r _ [6, 7, 8, 9, 5, 10, 11, 12, 13, 14, 15, 16, 17, 18, 19, 20, 21, 22, 23, 24, 25, 26, 27, 28, 29, 30, 31, 32, 33, 34, 35, 36, 37, 38, 39, 40, 41, 42, 43, 44, 45, 46, 47, 48, 49, 50, 51, 52, 53, 54, 55, 56, 57, 58, 59, 60, 61, 62, 63] rfl (by decide +kernel)
set_option maxRecDepth 20000 in
theorem gX11_stand_X11_isLit : GoodIn wsX11_stand (wsV RX11 159 RX11 yX11_isLit wsX11_isLit) := goodIn_app (goodIn_r _ [2, 3, 4, 5] rfl (by decide +kernel)) ggX11_stand_X11_isLit
theorem dX11_stand_0 : decode cX11_stand 0 = .ok (.iconst 0, 1) := by decide +kernel
theorem dX11_stand_1 : decode cX11_stand 1 = .ok (.istore_n 3, 1) := by decide +kernel
theorem dX11_stand_2 : decode cX11_stand 2 = .ok (.iload_n 3, 1) := by decide +kernel
theorem dX11_stand_3 : decode cX11_stand 3 = .ok (.bipush 9, 2) := by decide +kernel
theorem dX11_stand_5 : decode cX11_stand 5 = .ok (.if_icmp .ge 34, 3) := by decide +kernel
theorem dX11_stand_8 : decode cX11_stand 8 = .ok (.aload_n 0, 1) := by decide +kernel
theorem dX11_stand_9 : decode cX11_stand 9 = .ok (.getfield 52, 3) := by decide +kernel
theorem dX11_stand_12 : decode cX11_stand 12 = .ok (.iload_n 3, 1) := by decide +kernel
theorem dX11_stand_13 : decode cX11_stand 13 = .ok (.iload_n 3, 1) := by decide +kernel
theorem dX11_stand_14 : decode cX11_stand 14 = .ok (.iload_n 1, 1) := by decide +kernel
theorem dX11_stand_15 : decode cX11_stand 15 = .ok (.if_icmp .ne 16, 3) := by decide +kernel
theorem dX11_stand_18 : decode cX11_stand 18 = .ok (.aload_n 0, 1) := by decide +kernel
theorem dX11_stand_19 : decode cX11_stand 19 = .ok (.iload_n 3, 1) := by decide +kernel
theorem dX11_stand_20 : decode cX11_stand 20 = .ok (.iload_n 2, 1) := by decide +kernel
theorem dX11_stand_21 : decode cX11_stand 21 = .ok (.invokevirtual 159, 3) := by decide +kernel
theorem dX11_stand_24 : decode cX11_stand 24 = .ok (.ifCond .ne 7, 3) := by decide +kernel
theorem dX11_stand_27 : decode cX11_stand 27 = .ok (.lconst 1, 1) := by decide +kernel
theorem dX11_stand_28 : decode cX11_stand 28 = .ok (.goto 4, 3) := by decide +kernel
theorem dX11_stand_31 : decode cX11_stand 31 = .ok (.lconst 0, 1) := by decide +kernel
theorem dX11_stand_32 : decode cX11_stand 32 = .ok (.lastore, 1) := by decide +kernel
theorem dX11_stand_33 : decode cX11_stand 33 = .ok (.iinc 3 1, 3) := by decide +kernel
theorem dX11_stand_36 : decode cX11_stand 36 = .ok (.goto (-34), 3) := by decide +kernel
theorem dX11_stand_39 : decode cX11_stand 39 = .ok (.return_, 1) := by decide +kernel
set_option maxRecDepth 20000 in
theorem ggX11_step_X11_isLit : GoodIn wsX11_step wsX11_isLit := goodIn_r _ [8, 9, 10, 11, 7, 12, 1, 13, 14, 15, 16, 17, 18, 19, 20, 21, 22, 23, 24, 25, 26, 27, 28, 29, 30, 31, 32, 33, 34, 35, 36, 37, 38, 39, 40, 41, 42, 43, 44, 45, 46, 47, 48, 49, 50, 51, 52, 53, 54, 55, 56, 57, 58, 59, 60, 61, 62, 63, 64] rfl (by decide +kernel)
set_option maxRecDepth 20000 in
theorem gX11_step_X11_isLit : GoodIn wsX11_step (wsV RX11 159 RX11 yX11_isLit wsX11_isLit) := goodIn_app (goodIn_r _ [4, 5, 6, 7] rfl (by decide +kernel)) ggX11_step_X11_isLit
theorem dX11_step_0 : decode cX11_step 0 = .ok (.iconst 0, 1) := by decide +kernel
theorem dX11_step_1 : decode cX11_step 1 = .ok (.istore_n 2, 1) := by decide +kernel
theorem dX11_step_2 : decode cX11_step 2 = .ok (.iload_n 2, 1) := by decide +kernel
theorem dX11_step_3 : decode cX11_step 3 = .ok (.aload_n 0, 1) := by decide +kernel
theorem dX11_step_4 : decode cX11_step 4 = .ok (.getfield 83, 3) := by decide +kernel
theorem dX11_step_7 : decode cX11_step 7 = .ok (.if_icmp .ge 76, 3) := by decide +kernel
theorem dX11_step_10 : decode cX11_step 10 = .ok (.aload_n 0, 1) := by decide +kernel
theorem dX11_step_11 : decode cX11_step 11 = .ok (.getfield 52, 3) := by decide +kernel
theorem dX11_step_14 : decode cX11_step 14 = .ok (.iload_n 2, 1) := by decide +kernel
theorem dX11_step_15 : decode cX11_step 15 = .ok (.laload, 1) := by decide +kernel
theorem dX11_step_16 : decode cX11_step 16 = .ok (.iload_n 2, 1) := by decide +kernel
theorem dX11_step_17 : decode cX11_step 17 = .ok (.ifCond .le 14, 3) := by decide +kernel
theorem dX11_step_20 : decode cX11_step 20 = .ok (.aload_n 0, 1) := by decide +kernel
theorem dX11_step_21 : decode cX11_step 21 = .ok (.getfield 52, 3) := by decide +kernel
theorem dX11_step_24 : decode cX11_step 24 = .ok (.iload_n 2, 1) := by decide +kernel
theorem dX11_step_25 : decode cX11_step 25 = .ok (.iconst 1, 1) := by decide +kernel
theorem dX11_step_26 : decode cX11_step 26 = .ok (.isub, 1) := by decide +kernel
theorem dX11_step_27 : decode cX11_step 27 = .ok (.laload, 1) := by decide +kernel
theorem dX11_step_28 : decode cX11_step 28 = .ok (.goto 4, 3) := by decide +kernel
theorem dX11_step_31 : decode cX11_step 31 = .ok (.lconst 0, 1) := by decide +kernel
theorem dX11_step_32 : decode cX11_step 32 = .ok (.ladd, 1) := by decide +kernel
theorem dX11_step_33 : decode cX11_step 33 = .ok (.iload_n 2, 1) := by decide +kernel
theorem dX11_step_34 : decode cX11_step 34 = .ok (.iconst 1, 1) := by decide +kernel
theorem dX11_step_35 : decode cX11_step 35 = .ok (.iadd, 1) := by decide +kernel
theorem dX11_step_36 : decode cX11_step 36 = .ok (.aload_n 0, 1) := by decide +kernel
theorem dX11_step_37 : decode cX11_step 37 = .ok (.getfield 83, 3) := by decide +kernel
theorem dX11_step_40 : decode cX11_step 40 = .ok (.if_icmp .ge 14, 3) := by decide +kernel
theorem dX11_step_43 : decode cX11_step 43 = .ok (.aload_n 0, 1) := by decide +kernel
theorem dX11_step_44 : decode cX11_step 44 = .ok (.getfield 52, 3) := by decide +kernel
theorem dX11_step_47 : decode cX11_step 47 = .ok (.iload_n 2, 1) := by decide +kernel
theorem dX11_step_48 : decode cX11_step 48 = .ok (.iconst 1, 1) := by decide +kernel
theorem dX11_step_49 : decode cX11_step 49 = .ok (.iadd, 1) := by decide +kernel
theorem dX11_step_50 : decode cX11_step 50 = .ok (.laload, 1) := by decide +kernel
theorem dX11_step_51 : decode cX11_step 51 = .ok (.goto 4, 3) := by decide +kernel
theorem dX11_step_54 : decode cX11_step 54 = .ok (.lconst 0, 1) := by decide +kernel
theorem dX11_step_55 : decode cX11_step 55 = .ok (.ladd, 1) := by decide +kernel
theorem dX11_step_56 : decode cX11_step 56 = .ok (.lstore_n 3, 1) := by decide +kernel
theorem dX11_step_57 : decode cX11_step 57 = .ok (.aload_n 0, 1) := by decide +kernel
theorem dX11_step_58 : decode cX11_step 58 = .ok (.getfield 56, 3) := by decide +kernel
theorem dX11_step_61 : decode cX11_step 61 = .ok (.iload_n 2, 1) := by decide +kernel
theorem dX11_step_62 : decode cX11_step 62 = .ok (.aload_n 0, 1) := by decide +kernel
theorem dX11_step_63 : decode cX11_step 63 = .ok (.iload_n 2, 1) := by decide +kernel
theorem dX11_step_64 : decode cX11_step 64 = .ok (.iload_n 1, 1) := by decide +kernel
theorem dX11_step_65 : decode cX11_step 65 = .ok (.invokevirtual 159, 3) := by decide +kernel
theorem dX11_step_68 : decode cX11_step 68 = .ok (.ifCond .eq 7, 3) := by decide +kernel
theorem dX11_step_71 : decode cX11_step 71 = .ok (.lconst 0, 1) := by decide +kernel
theorem dX11_step_72 : decode cX11_step 72 = .ok (.goto 4, 3) := by decide +kernel
theorem dX11_step_75 : decode cX11_step 75 = .ok (.lload_n 3, 1) := by decide +kernel
theorem dX11_step_76 : decode cX11_step 76 = .ok (.lastore, 1) := by decide +kernel
theorem dX11_step_77 : decode cX11_step 77 = .ok (.iinc 2 1, 3) := by decide +kernel
theorem dX11_step_80 : decode cX11_step 80 = .ok (.goto (-78), 3) := by decide +kernel
theorem dX11_step_83 : decode cX11_step 83 = .ok (.iconst 0, 1) := by decide +kernel
theorem dX11_step_84 : decode cX11_step 84 = .ok (.istore_n 2, 1) := by decide +kernel
theorem dX11_step_85 : decode cX11_step 85 = .ok (.iload_n 2, 1) := by decide +kernel
theorem dX11_step_86 : decode cX11_step 86 = .ok (.aload_n 0, 1) := by decide +kernel
theorem dX11_step_87 : decode cX11_step 87 = .ok (.getfield 83, 3) := by decide +kernel
theorem dX11_step_90 : decode cX11_step 90 = .ok (.if_icmp .ge 21, 3) := by decide +kernel
theorem dX11_step_93 : decode cX11_step 93 = .ok (.aload_n 0, 1) := by decide +kernel
theorem dX11_step_94 : decode cX11_step 94 = .ok (.getfield 52, 3) := by decide +kernel
theorem dX11_step_97 : decode cX11_step 97 = .ok (.iload_n 2, 1) := by decide +kernel
theorem dX11_step_98 : decode cX11_step 98 = .ok (.aload_n 0, 1) := by decide +kernel
theorem dX11_step_99 : decode cX11_step 99 = .ok (.getfield 56, 3) := by decide +kernel
theorem dX11_step_102 : decode cX11_step 102 = .ok (.iload_n 2, 1) := by decide +kernel
theorem dX11_step_103 : decode cX11_step 103 = .ok (.laload, 1) := by decide +kernel
theorem dX11_step_104 : decode cX11_step 104 = .ok (.lastore, 1) := by decide +kernel
theorem dX11_step_105 : decode cX11_step 105 = .ok (.iinc 2 1, 3) := by decide +kernel
theorem dX11_step_108 : decode cX11_step 108 = .ok (.goto (-23), 3) := by decide +kernel
theorem dX11_step_111 : decode cX11_step 111 = .ok (.return_, 1) := by decide +kernel
set_option maxRecDepth 20000 in
theorem ggX11_goWalk_X11_stand : GoodIn wsX11_goWalk wsX11_stand := goodIn_r _ [5, 6, 7, 8, 9, 4, 10, 11, 12, 13, 14, 15, 16, 17, 18, 19, 20, 21, 22, 23, 24, 25, 26, 27, 28, 34, 35, 36, 37, 38, 39, 40, 41, 42, 43, 44, 45, 46, 47, 48, 49, 50, 51, 52, 53, 54, 55, 56, 57, 58, 59, 60, 61, 62, 63, 64, 65, 66, 67, 68, 69, 70, 71, 72] rfl (by decide +kernel)
set_option maxRecDepth 20000 in
theorem gX11_goWalk_X11_stand : GoodIn wsX11_goWalk (wsV RX11 238 RX11 yX11_stand wsX11_stand) := goodIn_app (goodIn_r _ [1, 2, 3, 4] rfl (by decide +kernel)) ggX11_goWalk_X11_stand
set_option maxRecDepth 20000 in
theorem ggX11_goWalk_X11_step : GoodIn wsX11_goWalk wsX11_step := goodIn_r _ [32, 15, 6, 33, 7, 8, 9, 4, 10, 11, 12, 13, 14, 16, 17, 18, 19, 20, 21, 22, 23, 24, 25, 26, 27, 28, 34, 35, 36, 37, 38, 39, 40, 41, 42, 43, 44, 45, 46, 47, 48, 49, 50, 51, 52, 53, 54, 55, 56, 57, 58, 59, 60, 61, 62, 63, 64, 65, 66, 67, 68, 69, 70, 71, 72] rfl (by decide +kernel)
set_option maxRecDepth 20000 in
theorem gX11_goWalk_X11_step : GoodIn wsX11_goWalk (wsV RX11 241 RX11 yX11_step wsX11_step) := goodIn_app (goodIn_r _ [29, 30, 31, 4] rfl (by decide +kernel)) ggX11_goWalk_X11_step
theorem dX11_goWalk_0 : decode cX11_goWalk 0 = .ok (.aload_n 0, 1) := by decide +kernel
theorem dX11_goWalk_1 : decode cX11_goWalk 1 = .ok (.iload_n 1, 1) := by decide +kernel
theorem dX11_goWalk_2 : decode cX11_goWalk 2 = .ok (.iload_n 2, 1) := by decide +kernel
theorem dX11_goWalk_3 : decode cX11_goWalk 3 = .ok (.invokevirtual 238, 3) := by decide +kernel
theorem dX11_goWalk_6 : decode cX11_goWalk 6 = .ok (.iconst 1, 1) := by decide +kernel
theorem dX11_goWalk_7 : decode cX11_goWalk 7 = .ok (.istore 4, 2) := by decide +kernel
theorem dX11_goWalk_9 : decode cX11_goWalk 9 = .ok (.iload 4, 2) := by decide +kernel
theorem dX11_goWalk_11 : decode cX11_goWalk 11 = .ok (.iload_n 3, 1) := by decide +kernel
theorem dX11_goWalk_12 : decode cX11_goWalk 12 = .ok (.if_icmp .gt 17, 3) := by decide +kernel
theorem dX11_goWalk_15 : decode cX11_goWalk 15 = .ok (.aload_n 0, 1) := by decide +kernel
theorem dX11_goWalk_16 : decode cX11_goWalk 16 = .ok (.iload_n 2, 1) := by decide +kernel
theorem dX11_goWalk_17 : decode cX11_goWalk 17 = .ok (.iload 4, 2) := by decide +kernel
theorem dX11_goWalk_19 : decode cX11_goWalk 19 = .ok (.iadd, 1) := by decide +kernel
theorem dX11_goWalk_20 : decode cX11_goWalk 20 = .ok (.invokevirtual 241, 3) := by decide +kernel
theorem dX11_goWalk_23 : decode cX11_goWalk 23 = .ok (.iinc 4 1, 3) := by decide +kernel
theorem dX11_goWalk_26 : decode cX11_goWalk 26 = .ok (.goto (-17), 3) := by decide +kernel
theorem dX11_goWalk_29 : decode cX11_goWalk 29 = .ok (.return_, 1) := by decide +kernel
set_option maxRecDepth 20000 in
theorem ggX11_ways_X11_isLand : GoodIn wsX11_ways wsX11_isLand := goodIn_r _ [9, 10, 11, 12, 8, 13, 52, 53, 54, 55, 56, 57, 58, 59, 60, 61, 62, 63, 64, 65, 66, 67, 68, 69, 70, 71, 72, 73, 74, 75, 76, 77, 78, 79, 80, 81, 82, 83, 84, 85, 86, 87, 88, 89, 90] rfl (by decide +kernel)
set_option maxRecDepth 20000 in
theorem gX11_ways_X11_isLand : GoodIn wsX11_ways (wsV RX11 129 RX11 yX11_isLand wsX11_isLand) := goodIn_app (goodIn_r _ [5, 6, 7, 8] rfl (by decide +kernel)) ggX11_ways_X11_isLand
set_option maxRecDepth 20000 in
theorem ggX11_ways_X11_isYear : GoodIn wsX11_ways wsX11_isYear := goodIn_r _ [16, 17, 11, 12, 8, 13] rfl (by decide +kernel)
set_option maxRecDepth 20000 in
theorem gX11_ways_X11_isYear : GoodIn wsX11_ways (va_wsS RX11 212 yX11_isYear wsX11_isYear) := goodIn_app (goodIn_r _ [14, 15, 8] rfl (by decide +kernel)) ggX11_ways_X11_isYear
set_option maxRecDepth 20000 in
theorem ggX11_ways_X11_in : GoodIn wsX11_ways wsX11_in := goodIn_r _ [13] rfl (by decide +kernel)
set_option maxRecDepth 20000 in
theorem gX11_ways_X11_in : GoodIn wsX11_ways (va_wsS RX11 99 yX11_in wsX11_in) := goodIn_app (goodIn_r _ [11, 12, 8] rfl (by decide +kernel)) ggX11_ways_X11_in
set_option maxRecDepth 20000 in
theorem ggX11_ways_X11_goWalk : GoodIn wsX11_ways wsX11_goWalk := goodIn_r _ [21, 22, 23, 24, 8, 25, 4, 26, 27, 28, 29, 30, 31, 32, 33, 10, 34, 35, 36, 37, 38, 39, 40, 41, 42, 43, 44, 45, 46, 47, 48, 49, 50, 51, 52, 53, 54, 55, 56, 57, 58, 59, 60, 61, 62, 63, 64, 65, 66, 67, 68, 69, 70, 71, 72, 73, 74, 75, 76, 77, 78, 79, 80, 81, 82, 83, 84, 85, 86, 87, 88, 89, 90] rfl (by decide +kernel)
set_option maxRecDepth 20000 in
theorem gX11_ways_X11_goWalk : GoodIn wsX11_ways (wsV RX11 251 RX11 yX11_goWalk wsX11_goWalk) := goodIn_app (goodIn_r _ [18, 19, 20, 8] rfl (by decide +kernel)) ggX11_ways_X11_goWalk
theorem dX11_ways_0 : decode cX11_ways 0 = .ok (.aload_n 0, 1) := by decide +kernel
theorem dX11_ways_1 : decode cX11_ways 1 = .ok (.iload_n 1, 1) := by decide +kernel
theorem dX11_ways_2 : decode cX11_ways 2 = .ok (.invokevirtual 129, 3) := by decide +kernel
theorem dX11_ways_5 : decode cX11_ways 5 = .ok (.ifCond .eq 11, 3) := by decide +kernel
theorem dX11_ways_8 : decode cX11_ways 8 = .ok (.aload_n 0, 1) := by decide +kernel
theorem dX11_ways_9 : decode cX11_ways 9 = .ok (.iload_n 2, 1) := by decide +kernel
theorem dX11_ways_10 : decode cX11_ways 10 = .ok (.invokevirtual 129, 3) := by decide +kernel
theorem dX11_ways_13 : decode cX11_ways 13 = .ok (.ifCond .ne 7, 3) := by decide +kernel
theorem dX11_ways_16 : decode cX11_ways 16 = .ok (.ldc2_w 245, 3) := by decide +kernel
theorem dX11_ways_19 : decode cX11_ways 19 = .ok (.lreturn, 1) := by decide +kernel
theorem dX11_ways_20 : decode cX11_ways 20 = .ok (.iload_n 3, 1) := by decide +kernel
theorem dX11_ways_21 : decode cX11_ways 21 = .ok (.invokestatic 212, 3) := by decide +kernel
theorem dX11_ways_24 : decode cX11_ways 24 = .ok (.ifCond .eq 16, 3) := by decide +kernel
theorem dX11_ways_27 : decode cX11_ways 27 = .ok (.iload 4, 2) := by decide +kernel
theorem dX11_ways_29 : decode cX11_ways 29 = .ok (.i2l, 1) := by decide +kernel
theorem dX11_ways_30 : decode cX11_ways 30 = .ok (.lconst 0, 1) := by decide +kernel
theorem dX11_ways_31 : decode cX11_ways 31 = .ok (.ldc2_w 247, 3) := by decide +kernel
theorem dX11_ways_34 : decode cX11_ways 34 = .ok (.invokestatic 99, 3) := by decide +kernel
theorem dX11_ways_37 : decode cX11_ways 37 = .ok (.ifCond .ne 7, 3) := by decide +kernel
theorem dX11_ways_40 : decode cX11_ways 40 = .ok (.ldc2_w 249, 3) := by decide +kernel
theorem dX11_ways_43 : decode cX11_ways 43 = .ok (.lreturn, 1) := by decide +kernel
theorem dX11_ways_44 : decode cX11_ways 44 = .ok (.aload_n 0, 1) := by decide +kernel
theorem dX11_ways_45 : decode cX11_ways 45 = .ok (.iload_n 1, 1) := by decide +kernel
theorem dX11_ways_46 : decode cX11_ways 46 = .ok (.iload_n 3, 1) := by decide +kernel
theorem dX11_ways_47 : decode cX11_ways 47 = .ok (.iload 4, 2) := by decide +kernel
theorem dX11_ways_49 : decode cX11_ways 49 = .ok (.invokevirtual 251, 3) := by decide +kernel
theorem dX11_ways_52 : decode cX11_ways 52 = .ok (.aload_n 0, 1) := by decide +kernel
theorem dX11_ways_53 : decode cX11_ways 53 = .ok (.getfield 52, 3) := by decide +kernel
theorem dX11_ways_56 : decode cX11_ways 56 = .ok (.iload_n 2, 1) := by decide +kernel
theorem dX11_ways_57 : decode cX11_ways 57 = .ok (.laload, 1) := by decide +kernel
theorem dX11_ways_58 : decode cX11_ways 58 = .ok (.lreturn, 1) := by decide +kernel
theorem dX11_placesNow_0 : decode cX11_placesNow 0 = .ok (.iconst 0, 1) := by decide +kernel
theorem dX11_placesNow_1 : decode cX11_placesNow 1 = .ok (.istore_n 1, 1) := by decide +kernel
theorem dX11_placesNow_2 : decode cX11_placesNow 2 = .ok (.iconst 0, 1) := by decide +kernel
theorem dX11_placesNow_3 : decode cX11_placesNow 3 = .ok (.istore_n 2, 1) := by decide +kernel
theorem dX11_placesNow_4 : decode cX11_placesNow 4 = .ok (.iload_n 2, 1) := by decide +kernel
theorem dX11_placesNow_5 : decode cX11_placesNow 5 = .ok (.aload_n 0, 1) := by decide +kernel
theorem dX11_placesNow_6 : decode cX11_placesNow 6 = .ok (.getfield 83, 3) := by decide +kernel
theorem dX11_placesNow_9 : decode cX11_placesNow 9 = .ok (.if_icmp .ge 30, 3) := by decide +kernel
theorem dX11_placesNow_12 : decode cX11_placesNow 12 = .ok (.iload_n 1, 1) := by decide +kernel
theorem dX11_placesNow_13 : decode cX11_placesNow 13 = .ok (.aload_n 0, 1) := by decide +kernel
theorem dX11_placesNow_14 : decode cX11_placesNow 14 = .ok (.getfield 52, 3) := by decide +kernel
theorem dX11_placesNow_17 : decode cX11_placesNow 17 = .ok (.iload_n 2, 1) := by decide +kernel
theorem dX11_placesNow_18 : decode cX11_placesNow 18 = .ok (.laload, 1) := by decide +kernel
theorem dX11_placesNow_19 : decode cX11_placesNow 19 = .ok (.lconst 0, 1) := by decide +kernel
theorem dX11_placesNow_20 : decode cX11_placesNow 20 = .ok (.lcmp, 1) := by decide +kernel
theorem dX11_placesNow_21 : decode cX11_placesNow 21 = .ok (.ifCond .le 9, 3) := by decide +kernel
theorem dX11_placesNow_24 : decode cX11_placesNow 24 = .ok (.iconst 1, 1) := by decide +kernel
theorem dX11_placesNow_25 : decode cX11_placesNow 25 = .ok (.iload_n 2, 1) := by decide +kernel
theorem dX11_placesNow_26 : decode cX11_placesNow 26 = .ok (.ishl, 1) := by decide +kernel
theorem dX11_placesNow_27 : decode cX11_placesNow 27 = .ok (.goto 4, 3) := by decide +kernel
theorem dX11_placesNow_30 : decode cX11_placesNow 30 = .ok (.iconst 0, 1) := by decide +kernel
theorem dX11_placesNow_31 : decode cX11_placesNow 31 = .ok (.ior, 1) := by decide +kernel
theorem dX11_placesNow_32 : decode cX11_placesNow 32 = .ok (.istore_n 1, 1) := by decide +kernel
theorem dX11_placesNow_33 : decode cX11_placesNow 33 = .ok (.iinc 2 1, 3) := by decide +kernel
theorem dX11_placesNow_36 : decode cX11_placesNow 36 = .ok (.goto (-32), 3) := by decide +kernel
theorem dX11_placesNow_39 : decode cX11_placesNow 39 = .ok (.iload_n 1, 1) := by decide +kernel
theorem dX11_placesNow_40 : decode cX11_placesNow 40 = .ok (.ireturn, 1) := by decide +kernel
set_option maxRecDepth 20000 in
theorem ggX11_where_X11_isLand : GoodIn wsX11_where wsX11_isLand := goodIn_r _ [6, 7, 8, 9, 5, 10, 54, 55, 56, 57, 58, 59, 60, 61, 62, 63, 64, 65, 66, 67, 68, 69, 70, 71, 72, 73, 74, 75, 76, 77, 78, 79, 80, 81, 82, 83, 84, 85, 86, 87, 88, 89, 90, 91, 92] rfl (by decide +kernel)
set_option maxRecDepth 20000 in
theorem gX11_where_X11_isLand : GoodIn wsX11_where (wsV RX11 129 RX11 yX11_isLand wsX11_isLand) := goodIn_app (goodIn_r _ [2, 3, 4, 5] rfl (by decide +kernel)) ggX11_where_X11_isLand
set_option maxRecDepth 20000 in
theorem ggX11_where_X11_isYear : GoodIn wsX11_where wsX11_isYear := goodIn_r _ [13, 14, 8, 9, 5, 10] rfl (by decide +kernel)
set_option maxRecDepth 20000 in
theorem gX11_where_X11_isYear : GoodIn wsX11_where (va_wsS RX11 212 yX11_isYear wsX11_isYear) := goodIn_app (goodIn_r _ [11, 12, 5] rfl (by decide +kernel)) ggX11_where_X11_isYear
set_option maxRecDepth 20000 in
theorem ggX11_where_X11_in : GoodIn wsX11_where wsX11_in := goodIn_r _ [10] rfl (by decide +kernel)
set_option maxRecDepth 20000 in
theorem gX11_where_X11_in : GoodIn wsX11_where (va_wsS RX11 99 yX11_in wsX11_in) := goodIn_app (goodIn_r _ [8, 9, 5] rfl (by decide +kernel)) ggX11_where_X11_in
set_option maxRecDepth 20000 in
theorem ggX11_where_X11_goWalk : GoodIn wsX11_where wsX11_goWalk := goodIn_r _ [18, 19, 20, 21, 5, 22, 23, 24, 25, 26, 27, 28, 29, 30, 31, 7, 32, 33, 34, 35, 36, 37, 38, 39, 40, 41, 42, 43, 44, 45, 46, 47, 48, 49, 54, 55, 56, 57, 58, 59, 60, 61, 62, 63, 64, 65, 66, 67, 68, 69, 70, 71, 72, 73, 74, 75, 76, 77, 78, 79, 80, 81, 82, 83, 84, 85, 86, 87, 88, 89, 90, 91, 92] rfl (by decide +kernel)
set_option maxRecDepth 20000 in
theorem gX11_where_X11_goWalk : GoodIn wsX11_where (wsV RX11 251 RX11 yX11_goWalk wsX11_goWalk) := goodIn_app (goodIn_r _ [15, 16, 17, 5] rfl (by decide +kernel)) ggX11_where_X11_goWalk
set_option maxRecDepth 20000 in
theorem ggX11_where_X11_placesNow : GoodIn wsX11_where wsX11_placesNow := goodIn_r _ [53, 7, 23, 54, 55, 56, 57, 58, 59, 60, 61, 62, 63, 64, 65, 66, 67, 68, 69, 70, 71, 72, 73, 74, 75, 76, 77, 78, 79, 80, 81, 82, 83, 84, 85, 86, 87, 88, 89, 90, 91, 92] rfl (by decide +kernel)
set_option maxRecDepth 20000 in
theorem gX11_where_X11_placesNow : GoodIn wsX11_where (wsV RX11 254 RX11 yX11_placesNow wsX11_placesNow) := goodIn_app (goodIn_r _ [50, 51, 52, 5] rfl (by decide +kernel)) ggX11_where_X11_placesNow
theorem dX11_where_0 : decode cX11_where 0 = .ok (.aload_n 0, 1) := by decide +kernel
theorem dX11_where_1 : decode cX11_where 1 = .ok (.iload_n 1, 1) := by decide +kernel
theorem dX11_where_2 : decode cX11_where 2 = .ok (.invokevirtual 129, 3) := by decide +kernel
theorem dX11_where_5 : decode cX11_where 5 = .ok (.ifCond .ne 5, 3) := by decide +kernel
theorem dX11_where_8 : decode cX11_where 8 = .ok (.iconst (-1), 1) := by decide +kernel
theorem dX11_where_9 : decode cX11_where 9 = .ok (.ireturn, 1) := by decide +kernel
theorem dX11_where_10 : decode cX11_where 10 = .ok (.iload_n 2, 1) := by decide +kernel
theorem dX11_where_11 : decode cX11_where 11 = .ok (.invokestatic 212, 3) := by decide +kernel
theorem dX11_where_14 : decode cX11_where 14 = .ok (.ifCond .eq 15, 3) := by decide +kernel
theorem dX11_where_17 : decode cX11_where 17 = .ok (.iload_n 3, 1) := by decide +kernel
theorem dX11_where_18 : decode cX11_where 18 = .ok (.i2l, 1) := by decide +kernel
theorem dX11_where_19 : decode cX11_where 19 = .ok (.lconst 0, 1) := by decide +kernel
theorem dX11_where_20 : decode cX11_where 20 = .ok (.ldc2_w 247, 3) := by decide +kernel
theorem dX11_where_23 : decode cX11_where 23 = .ok (.invokestatic 99, 3) := by decide +kernel
theorem dX11_where_26 : decode cX11_where 26 = .ok (.ifCond .ne 6, 3) := by decide +kernel
theorem dX11_where_29 : decode cX11_where 29 = .ok (.bipush (-2), 2) := by decide +kernel
theorem dX11_where_31 : decode cX11_where 31 = .ok (.ireturn, 1) := by decide +kernel
theorem dX11_where_32 : decode cX11_where 32 = .ok (.aload_n 0, 1) := by decide +kernel
theorem dX11_where_33 : decode cX11_where 33 = .ok (.iload_n 1, 1) := by decide +kernel
theorem dX11_where_34 : decode cX11_where 34 = .ok (.iload_n 2, 1) := by decide +kernel
theorem dX11_where_35 : decode cX11_where 35 = .ok (.iload_n 3, 1) := by decide +kernel
theorem dX11_where_36 : decode cX11_where 36 = .ok (.invokevirtual 251, 3) := by decide +kernel
theorem dX11_where_39 : decode cX11_where 39 = .ok (.aload_n 0, 1) := by decide +kernel
theorem dX11_where_40 : decode cX11_where 40 = .ok (.invokevirtual 254, 3) := by decide +kernel
theorem dX11_where_43 : decode cX11_where 43 = .ok (.ireturn, 1) := by decide +kernel
set_option maxRecDepth 20000 in
theorem ggX11_meet_X11_isLand : GoodIn wsX11_meet wsX11_isLand := goodIn_r _ [5, 6, 7, 8, 4, 9, 53, 54, 55, 56, 57, 58, 59, 60, 61, 62, 63, 64, 65, 66, 67, 68, 69, 70, 71, 72, 73, 74, 75, 76, 77, 78, 79, 80, 81, 82, 83, 84, 85, 86, 87, 88, 89, 90, 91] rfl (by decide +kernel)
set_option maxRecDepth 20000 in
theorem gX11_meet_X11_isLand : GoodIn wsX11_meet (wsV RX11 129 RX11 yX11_isLand wsX11_isLand) := goodIn_app (goodIn_r _ [1, 2, 3, 4] rfl (by decide +kernel)) ggX11_meet_X11_isLand
set_option maxRecDepth 20000 in
theorem ggX11_meet_X11_isYear : GoodIn wsX11_meet wsX11_isYear := goodIn_r _ [12, 13, 7, 8, 4, 9] rfl (by decide +kernel)
set_option maxRecDepth 20000 in
theorem gX11_meet_X11_isYear : GoodIn wsX11_meet (va_wsS RX11 212 yX11_isYear wsX11_isYear) := goodIn_app (goodIn_r _ [10, 11, 4] rfl (by decide +kernel)) ggX11_meet_X11_isYear
set_option maxRecDepth 20000 in
theorem ggX11_meet_X11_goWalk : GoodIn wsX11_meet wsX11_goWalk := goodIn_r _ [17, 18, 19, 20, 4, 21, 22, 23, 24, 25, 26, 27, 28, 29, 30, 6, 31, 32, 33, 34, 35, 36, 37, 38, 39, 40, 41, 42, 43, 44, 45, 46, 47, 48, 53, 54, 55, 56, 57, 58, 59, 60, 61, 62, 63, 64, 65, 66, 67, 68, 69, 70, 71, 72, 73, 74, 75, 76, 77, 78, 79, 80, 81, 82, 83, 84, 85, 86, 87, 88, 89, 90, 91] rfl (by decide +kernel)
set_option maxRecDepth 20000 in
theorem gX11_meet_X11_goWalk : GoodIn wsX11_meet (wsV RX11 251 RX11 yX11_goWalk wsX11_goWalk) := goodIn_app (goodIn_r _ [14, 15, 16, 4] rfl (by decide +kernel)) ggX11_meet_X11_goWalk
set_option maxRecDepth 20000 in
theorem ggX11_meet_X11_placesNow : GoodIn wsX11_meet wsX11_placesNow := goodIn_r _ [52, 6, 22, 53, 54, 55, 56, 57, 58, 59, 60, 61, 62, 63, 64, 65, 66, 67, 68, 69, 70, 71, 72, 73, 74, 75, 76, 77, 78, 79, 80, 81, 82, 83, 84, 85, 86, 87, 88, 89, 90, 91] rfl (by decide +kernel)
set_option maxRecDepth 20000 in
theorem gX11_meet_X11_placesNow : GoodIn wsX11_meet (wsV RX11 254 RX11 yX11_placesNow wsX11_placesNow) := goodIn_app (goodIn_r _ [49, 50, 51, 4] rfl (by decide +kernel)) ggX11_meet_X11_placesNow
theorem dX11_meet_0 : decode cX11_meet 0 = .ok (.aload_n 0, 1) := by decide +kernel
theorem dX11_meet_1 : decode cX11_meet 1 = .ok (.iload_n 1, 1) := by decide +kernel
theorem dX11_meet_2 : decode cX11_meet 2 = .ok (.invokevirtual 129, 3) := by decide +kernel
theorem dX11_meet_5 : decode cX11_meet 5 = .ok (.ifCond .eq 11, 3) := by decide +kernel
theorem dX11_meet_8 : decode cX11_meet 8 = .ok (.aload_n 0, 1) := by decide +kernel
theorem dX11_meet_9 : decode cX11_meet 9 = .ok (.iload_n 2, 1) := by decide +kernel
theorem dX11_meet_10 : decode cX11_meet 10 = .ok (.invokevirtual 129, 3) := by decide +kernel
theorem dX11_meet_13 : decode cX11_meet 13 = .ok (.ifCond .ne 5, 3) := by decide +kernel
theorem dX11_meet_16 : decode cX11_meet 16 = .ok (.iconst (-1), 1) := by decide +kernel
theorem dX11_meet_17 : decode cX11_meet 17 = .ok (.ireturn, 1) := by decide +kernel
theorem dX11_meet_18 : decode cX11_meet 18 = .ok (.iload_n 3, 1) := by decide +kernel
theorem dX11_meet_19 : decode cX11_meet 19 = .ok (.invokestatic 212, 3) := by decide +kernel
theorem dX11_meet_22 : decode cX11_meet 22 = .ok (.ifCond .ne 6, 3) := by decide +kernel
theorem dX11_meet_25 : decode cX11_meet 25 = .ok (.bipush (-2), 2) := by decide +kernel
theorem dX11_meet_27 : decode cX11_meet 27 = .ok (.ireturn, 1) := by decide +kernel
theorem dX11_meet_28 : decode cX11_meet 28 = .ok (.iconst 0, 1) := by decide +kernel
theorem dX11_meet_29 : decode cX11_meet 29 = .ok (.istore 4, 2) := by decide +kernel
theorem dX11_meet_31 : decode cX11_meet 31 = .ok (.iload 4, 2) := by decide +kernel
theorem dX11_meet_33 : decode cX11_meet 33 = .ok (.bipush 30, 2) := by decide +kernel
theorem dX11_meet_35 : decode cX11_meet 35 = .ok (.if_icmp .gt 46, 3) := by decide +kernel
theorem dX11_meet_38 : decode cX11_meet 38 = .ok (.aload_n 0, 1) := by decide +kernel
theorem dX11_meet_39 : decode cX11_meet 39 = .ok (.iload_n 1, 1) := by decide +kernel
theorem dX11_meet_40 : decode cX11_meet 40 = .ok (.iload_n 3, 1) := by decide +kernel
theorem dX11_meet_41 : decode cX11_meet 41 = .ok (.iload 4, 2) := by decide +kernel
theorem dX11_meet_43 : decode cX11_meet 43 = .ok (.invokevirtual 251, 3) := by decide +kernel
theorem dX11_meet_46 : decode cX11_meet 46 = .ok (.aload_n 0, 1) := by decide +kernel
theorem dX11_meet_47 : decode cX11_meet 47 = .ok (.invokevirtual 254, 3) := by decide +kernel
theorem dX11_meet_50 : decode cX11_meet 50 = .ok (.istore 5, 2) := by decide +kernel
theorem dX11_meet_52 : decode cX11_meet 52 = .ok (.aload_n 0, 1) := by decide +kernel
theorem dX11_meet_53 : decode cX11_meet 53 = .ok (.iload_n 2, 1) := by decide +kernel
theorem dX11_meet_54 : decode cX11_meet 54 = .ok (.iload_n 3, 1) := by decide +kernel
theorem dX11_meet_55 : decode cX11_meet 55 = .ok (.iload 4, 2) := by decide +kernel
theorem dX11_meet_57 : decode cX11_meet 57 = .ok (.invokevirtual 251, 3) := by decide +kernel
theorem dX11_meet_60 : decode cX11_meet 60 = .ok (.iload 5, 2) := by decide +kernel
theorem dX11_meet_62 : decode cX11_meet 62 = .ok (.aload_n 0, 1) := by decide +kernel
theorem dX11_meet_63 : decode cX11_meet 63 = .ok (.invokevirtual 254, 3) := by decide +kernel
theorem dX11_meet_66 : decode cX11_meet 66 = .ok (.iand, 1) := by decide +kernel
theorem dX11_meet_67 : decode cX11_meet 67 = .ok (.ifCond .eq 8, 3) := by decide +kernel
theorem dX11_meet_70 : decode cX11_meet 70 = .ok (.iload_n 3, 1) := by decide +kernel
theorem dX11_meet_71 : decode cX11_meet 71 = .ok (.iload 4, 2) := by decide +kernel
theorem dX11_meet_73 : decode cX11_meet 73 = .ok (.iadd, 1) := by decide +kernel
theorem dX11_meet_74 : decode cX11_meet 74 = .ok (.ireturn, 1) := by decide +kernel
theorem dX11_meet_75 : decode cX11_meet 75 = .ok (.iinc 4 1, 3) := by decide +kernel
theorem dX11_meet_78 : decode cX11_meet 78 = .ok (.goto (-47), 3) := by decide +kernel
theorem dX11_meet_81 : decode cX11_meet 81 = .ok (.bipush (-6), 2) := by decide +kernel
theorem dX11_meet_83 : decode cX11_meet 83 = .ok (.ireturn, 1) := by decide +kernel
set_option maxRecDepth 20000 in
theorem ggX11_seen_X11_isLand : GoodIn wsX11_seen wsX11_isLand := goodIn_r _ [10, 11, 12, 13, 9, 14, 15, 16, 17, 18, 19, 20, 21, 22, 23, 24, 25, 26, 27, 28, 29, 30, 31, 32, 33, 34, 35, 36, 37, 38, 39, 40, 41, 42, 43, 44, 45, 46, 47, 48, 49, 50, 51, 52, 53] rfl (by decide +kernel)
set_option maxRecDepth 20000 in
theorem gX11_seen_X11_isLand : GoodIn wsX11_seen (wsV RX11 129 RX11 yX11_isLand wsX11_isLand) := goodIn_app (goodIn_r _ [6, 7, 8, 9] rfl (by decide +kernel)) ggX11_seen_X11_isLand
set_option maxRecDepth 20000 in
theorem ggX11_seen_X11_in : GoodIn wsX11_seen wsX11_in := goodIn_r _ [14] rfl (by decide +kernel)
set_option maxRecDepth 20000 in
theorem gX11_seen_X11_in : GoodIn wsX11_seen (va_wsS RX11 99 yX11_in wsX11_in) := goodIn_app (goodIn_r _ [12, 13, 9] rfl (by decide +kernel)) ggX11_seen_X11_in
theorem dX11_seen_0 : decode cX11_seen 0 = .ok (.aload_n 0, 1) := by decide +kernel
theorem dX11_seen_1 : decode cX11_seen 1 = .ok (.iload_n 1, 1) := by decide +kernel
theorem dX11_seen_2 : decode cX11_seen 2 = .ok (.invokevirtual 129, 3) := by decide +kernel
theorem dX11_seen_5 : decode cX11_seen 5 = .ok (.ifCond .ne 5, 3) := by decide +kernel
theorem dX11_seen_8 : decode cX11_seen 8 = .ok (.iconst (-1), 1) := by decide +kernel
theorem dX11_seen_9 : decode cX11_seen 9 = .ok (.ireturn, 1) := by decide +kernel
theorem dX11_seen_10 : decode cX11_seen 10 = .ok (.iload_n 2, 1) := by decide +kernel
theorem dX11_seen_11 : decode cX11_seen 11 = .ok (.i2l, 1) := by decide +kernel
theorem dX11_seen_12 : decode cX11_seen 12 = .ok (.lconst 0, 1) := by decide +kernel
theorem dX11_seen_13 : decode cX11_seen 13 = .ok (.ldc2_w 217, 3) := by decide +kernel
theorem dX11_seen_16 : decode cX11_seen 16 = .ok (.invokestatic 99, 3) := by decide +kernel
theorem dX11_seen_19 : decode cX11_seen 19 = .ok (.ifCond .ne 6, 3) := by decide +kernel
theorem dX11_seen_22 : decode cX11_seen 22 = .ok (.bipush (-2), 2) := by decide +kernel
theorem dX11_seen_24 : decode cX11_seen 24 = .ok (.ireturn, 1) := by decide +kernel
theorem dX11_seen_25 : decode cX11_seen 25 = .ok (.aload_n 0, 1) := by decide +kernel
theorem dX11_seen_26 : decode cX11_seen 26 = .ok (.getfield 92, 3) := by decide +kernel
theorem dX11_seen_29 : decode cX11_seen 29 = .ok (.bipush 8, 2) := by decide +kernel
theorem dX11_seen_31 : decode cX11_seen 31 = .ok (.if_icmp .ne 6, 3) := by decide +kernel
theorem dX11_seen_34 : decode cX11_seen 34 = .ok (.bipush (-4), 2) := by decide +kernel
theorem dX11_seen_36 : decode cX11_seen 36 = .ok (.ireturn, 1) := by decide +kernel
theorem dX11_seen_37 : decode cX11_seen 37 = .ok (.aload_n 0, 1) := by decide +kernel
theorem dX11_seen_38 : decode cX11_seen 38 = .ok (.getfield 13, 3) := by decide +kernel
theorem dX11_seen_41 : decode cX11_seen 41 = .ok (.aload_n 0, 1) := by decide +kernel
theorem dX11_seen_42 : decode cX11_seen 42 = .ok (.getfield 92, 3) := by decide +kernel
theorem dX11_seen_45 : decode cX11_seen 45 = .ok (.iload_n 1, 1) := by decide +kernel
theorem dX11_seen_46 : decode cX11_seen 46 = .ok (.iastore, 1) := by decide +kernel
theorem dX11_seen_47 : decode cX11_seen 47 = .ok (.aload_n 0, 1) := by decide +kernel
theorem dX11_seen_48 : decode cX11_seen 48 = .ok (.getfield 16, 3) := by decide +kernel
theorem dX11_seen_51 : decode cX11_seen 51 = .ok (.aload_n 0, 1) := by decide +kernel
theorem dX11_seen_52 : decode cX11_seen 52 = .ok (.getfield 92, 3) := by decide +kernel
theorem dX11_seen_55 : decode cX11_seen 55 = .ok (.iload_n 2, 1) := by decide +kernel
theorem dX11_seen_56 : decode cX11_seen 56 = .ok (.iastore, 1) := by decide +kernel
theorem dX11_seen_57 : decode cX11_seen 57 = .ok (.aload_n 0, 1) := by decide +kernel
theorem dX11_seen_58 : decode cX11_seen 58 = .ok (.getfield 19, 3) := by decide +kernel
theorem dX11_seen_61 : decode cX11_seen 61 = .ok (.aload_n 0, 1) := by decide +kernel
theorem dX11_seen_62 : decode cX11_seen 62 = .ok (.getfield 92, 3) := by decide +kernel
theorem dX11_seen_65 : decode cX11_seen 65 = .ok (.iload_n 3, 1) := by decide +kernel
theorem dX11_seen_66 : decode cX11_seen 66 = .ok (.ifCond .eq 7, 3) := by decide +kernel
theorem dX11_seen_69 : decode cX11_seen 69 = .ok (.iconst 1, 1) := by decide +kernel
theorem dX11_seen_70 : decode cX11_seen 70 = .ok (.goto 4, 3) := by decide +kernel
theorem dX11_seen_73 : decode cX11_seen 73 = .ok (.iconst 0, 1) := by decide +kernel
theorem dX11_seen_74 : decode cX11_seen 74 = .ok (.iastore, 1) := by decide +kernel
theorem dX11_seen_75 : decode cX11_seen 75 = .ok (.aload_n 0, 1) := by decide +kernel
theorem dX11_seen_76 : decode cX11_seen 76 = .ok (.dup, 1) := by decide +kernel
theorem dX11_seen_77 : decode cX11_seen 77 = .ok (.getfield 92, 3) := by decide +kernel
theorem dX11_seen_80 : decode cX11_seen 80 = .ok (.iconst 1, 1) := by decide +kernel
theorem dX11_seen_81 : decode cX11_seen 81 = .ok (.iadd, 1) := by decide +kernel
theorem dX11_seen_82 : decode cX11_seen 82 = .ok (.putfield 92, 3) := by decide +kernel
theorem dX11_seen_85 : decode cX11_seen 85 = .ok (.aload_n 0, 1) := by decide +kernel
theorem dX11_seen_86 : decode cX11_seen 86 = .ok (.getfield 92, 3) := by decide +kernel
theorem dX11_seen_89 : decode cX11_seen 89 = .ok (.ireturn, 1) := by decide +kernel
theorem dX11_forget_0 : decode cX11_forget 0 = .ok (.aload_n 0, 1) := by decide +kernel
theorem dX11_forget_1 : decode cX11_forget 1 = .ok (.getfield 92, 3) := by decide +kernel
theorem dX11_forget_4 : decode cX11_forget 4 = .ok (.istore_n 1, 1) := by decide +kernel
theorem dX11_forget_5 : decode cX11_forget 5 = .ok (.aload_n 0, 1) := by decide +kernel
theorem dX11_forget_6 : decode cX11_forget 6 = .ok (.iconst 0, 1) := by decide +kernel
theorem dX11_forget_7 : decode cX11_forget 7 = .ok (.putfield 92, 3) := by decide +kernel
theorem dX11_forget_10 : decode cX11_forget 10 = .ok (.iload_n 1, 1) := by decide +kernel
theorem dX11_forget_11 : decode cX11_forget 11 = .ok (.ireturn, 1) := by decide +kernel
set_option maxRecDepth 20000 in
theorem ggX11_coversBy_X11_firstCovered : GoodIn wsX11_coversBy wsX11_firstCovered := goodIn_r _ [5] rfl (by decide +kernel)
set_option maxRecDepth 20000 in
theorem gX11_coversBy_X11_firstCovered : GoodIn wsX11_coversBy (va_wsS RX11 149 yX11_firstCovered wsX11_firstCovered) := goodIn_app (goodIn_r _ [2, 3, 4] rfl (by decide +kernel)) ggX11_coversBy_X11_firstCovered
theorem dX11_coversBy_0 : decode cX11_coversBy 0 = .ok (.aload_n 0, 1) := by decide +kernel
theorem dX11_coversBy_1 : decode cX11_coversBy 1 = .ok (.getfield 83, 3) := by decide +kernel
theorem dX11_coversBy_4 : decode cX11_coversBy 4 = .ok (.iload_n 1, 1) := by decide +kernel
theorem dX11_coversBy_5 : decode cX11_coversBy 5 = .ok (.iload_n 2, 1) := by decide +kernel
theorem dX11_coversBy_6 : decode cX11_coversBy 6 = .ok (.iload_n 3, 1) := by decide +kernel
theorem dX11_coversBy_7 : decode cX11_coversBy 7 = .ok (.iload 5, 2) := by decide +kernel
theorem dX11_coversBy_9 : decode cX11_coversBy 9 = .ok (.invokestatic 149, 3) := by decide +kernel
theorem dX11_coversBy_12 : decode cX11_coversBy 12 = .ok (.istore 6, 2) := by decide +kernel
theorem dX11_coversBy_14 : decode cX11_coversBy 14 = .ok (.iload 4, 2) := by decide +kernel
theorem dX11_coversBy_16 : decode cX11_coversBy 16 = .ok (.iload 6, 2) := by decide +kernel
theorem dX11_coversBy_18 : decode cX11_coversBy 18 = .ok (.if_icmp .lt 16, 3) := by decide +kernel
theorem dX11_coversBy_21 : decode cX11_coversBy 21 = .ok (.iload 4, 2) := by decide +kernel
theorem dX11_coversBy_23 : decode cX11_coversBy 23 = .ok (.iload 6, 2) := by decide +kernel
theorem dX11_coversBy_25 : decode cX11_coversBy 25 = .ok (.iload_n 1, 1) := by decide +kernel
theorem dX11_coversBy_26 : decode cX11_coversBy 26 = .ok (.iadd, 1) := by decide +kernel
theorem dX11_coversBy_27 : decode cX11_coversBy 27 = .ok (.if_icmp .ge 7, 3) := by decide +kernel
theorem dX11_coversBy_30 : decode cX11_coversBy 30 = .ok (.iconst 1, 1) := by decide +kernel
theorem dX11_coversBy_31 : decode cX11_coversBy 31 = .ok (.goto 4, 3) := by decide +kernel
theorem dX11_coversBy_34 : decode cX11_coversBy 34 = .ok (.iconst 0, 1) := by decide +kernel
theorem dX11_coversBy_35 : decode cX11_coversBy 35 = .ok (.ireturn, 1) := by decide +kernel
set_option maxRecDepth 20000 in
theorem ggX11_isLaw_X11_coversBy : GoodIn wsX11_isLaw wsX11_coversBy := goodIn_r _ [9, 10, 11, 12, 8, 13, 14, 15, 16, 17, 18, 19, 20, 21, 22, 23, 24, 25, 26, 27, 28, 29, 30, 31, 32, 33, 34, 35, 36, 37, 38, 39, 40, 41, 42, 43, 44, 45, 46, 47, 48, 49, 50, 51, 52] rfl (by decide +kernel)
set_option maxRecDepth 20000 in
theorem gX11_isLaw_X11_coversBy : GoodIn wsX11_isLaw (wsV RX11 257 RX11 yX11_coversBy wsX11_coversBy) := goodIn_app (goodIn_r _ [5, 6, 7, 8] rfl (by decide +kernel)) ggX11_isLaw_X11_coversBy
theorem dX11_isLaw_0 : decode cX11_isLaw 0 = .ok (.iconst 1, 1) := by decide +kernel
theorem dX11_isLaw_1 : decode cX11_isLaw 1 = .ok (.istore 4, 2) := by decide +kernel
theorem dX11_isLaw_3 : decode cX11_isLaw 3 = .ok (.iconst 0, 1) := by decide +kernel
theorem dX11_isLaw_4 : decode cX11_isLaw 4 = .ok (.istore 5, 2) := by decide +kernel
theorem dX11_isLaw_6 : decode cX11_isLaw 6 = .ok (.iload 5, 2) := by decide +kernel
theorem dX11_isLaw_8 : decode cX11_isLaw 8 = .ok (.aload_n 0, 1) := by decide +kernel
theorem dX11_isLaw_9 : decode cX11_isLaw 9 = .ok (.getfield 92, 3) := by decide +kernel
theorem dX11_isLaw_12 : decode cX11_isLaw 12 = .ok (.if_icmp .ge 61, 3) := by decide +kernel
theorem dX11_isLaw_15 : decode cX11_isLaw 15 = .ok (.iload 4, 2) := by decide +kernel
theorem dX11_isLaw_17 : decode cX11_isLaw 17 = .ok (.ifCond .eq 47, 3) := by decide +kernel
theorem dX11_isLaw_20 : decode cX11_isLaw 20 = .ok (.aload_n 0, 1) := by decide +kernel
theorem dX11_isLaw_21 : decode cX11_isLaw 21 = .ok (.iload_n 1, 1) := by decide +kernel
theorem dX11_isLaw_22 : decode cX11_isLaw 22 = .ok (.iload_n 2, 1) := by decide +kernel
theorem dX11_isLaw_23 : decode cX11_isLaw 23 = .ok (.iload_n 3, 1) := by decide +kernel
theorem dX11_isLaw_24 : decode cX11_isLaw 24 = .ok (.aload_n 0, 1) := by decide +kernel
theorem dX11_isLaw_25 : decode cX11_isLaw 25 = .ok (.getfield 13, 3) := by decide +kernel
theorem dX11_isLaw_28 : decode cX11_isLaw 28 = .ok (.iload 5, 2) := by decide +kernel
theorem dX11_isLaw_30 : decode cX11_isLaw 30 = .ok (.iaload, 1) := by decide +kernel
theorem dX11_isLaw_31 : decode cX11_isLaw 31 = .ok (.aload_n 0, 1) := by decide +kernel
theorem dX11_isLaw_32 : decode cX11_isLaw 32 = .ok (.getfield 16, 3) := by decide +kernel
theorem dX11_isLaw_35 : decode cX11_isLaw 35 = .ok (.iload 5, 2) := by decide +kernel
theorem dX11_isLaw_37 : decode cX11_isLaw 37 = .ok (.iaload, 1) := by decide +kernel
theorem dX11_isLaw_38 : decode cX11_isLaw 38 = .ok (.invokevirtual 257, 3) := by decide +kernel
theorem dX11_isLaw_41 : decode cX11_isLaw 41 = .ok (.aload_n 0, 1) := by decide +kernel
theorem dX11_isLaw_42 : decode cX11_isLaw 42 = .ok (.getfield 19, 3) := by decide +kernel
theorem dX11_isLaw_45 : decode cX11_isLaw 45 = .ok (.iload 5, 2) := by decide +kernel
theorem dX11_isLaw_47 : decode cX11_isLaw 47 = .ok (.iaload, 1) := by decide +kernel
theorem dX11_isLaw_48 : decode cX11_isLaw 48 = .ok (.iconst 1, 1) := by decide +kernel
theorem dX11_isLaw_49 : decode cX11_isLaw 49 = .ok (.if_icmp .ne 7, 3) := by decide +kernel
theorem dX11_isLaw_52 : decode cX11_isLaw 52 = .ok (.iconst 1, 1) := by decide +kernel
theorem dX11_isLaw_53 : decode cX11_isLaw 53 = .ok (.goto 4, 3) := by decide +kernel
theorem dX11_isLaw_56 : decode cX11_isLaw 56 = .ok (.iconst 0, 1) := by decide +kernel
theorem dX11_isLaw_57 : decode cX11_isLaw 57 = .ok (.if_icmp .ne 7, 3) := by decide +kernel
theorem dX11_isLaw_60 : decode cX11_isLaw 60 = .ok (.iconst 1, 1) := by decide +kernel
theorem dX11_isLaw_61 : decode cX11_isLaw 61 = .ok (.goto 4, 3) := by decide +kernel
theorem dX11_isLaw_64 : decode cX11_isLaw 64 = .ok (.iconst 0, 1) := by decide +kernel
theorem dX11_isLaw_65 : decode cX11_isLaw 65 = .ok (.istore 4, 2) := by decide +kernel
theorem dX11_isLaw_67 : decode cX11_isLaw 67 = .ok (.iinc 5 1, 3) := by decide +kernel
theorem dX11_isLaw_70 : decode cX11_isLaw 70 = .ok (.goto (-64), 3) := by decide +kernel
theorem dX11_isLaw_73 : decode cX11_isLaw 73 = .ok (.iload 4, 2) := by decide +kernel
theorem dX11_isLaw_75 : decode cX11_isLaw 75 = .ok (.ireturn, 1) := by decide +kernel
set_option maxRecDepth 20000 in
theorem ggX11_goLaws_X11_isLaw : GoodIn wsX11_goLaws wsX11_isLaw := goodIn_r _ [8, 9, 10, 11, 12, 13, 14, 15, 7, 16, 3, 17, 18, 19, 20, 21, 22, 23, 24, 25, 26, 27, 28, 29, 30, 31, 32, 33, 34, 35, 36, 37, 38, 39, 40, 41, 42, 43, 44, 45, 46, 47, 48, 49, 50, 51, 52, 53, 54, 55, 56, 57, 58] rfl (by decide +kernel)
set_option maxRecDepth 20000 in
theorem gX11_goLaws_X11_isLaw : GoodIn wsX11_goLaws (wsV RX11 264 RX11 yX11_isLaw wsX11_isLaw) := goodIn_app (goodIn_r _ [4, 5, 6, 7] rfl (by decide +kernel)) ggX11_goLaws_X11_isLaw
set_option maxRecDepth 20000 in
theorem ggX11_goLaws_X11_coversBy : GoodIn wsX11_goLaws wsX11_coversBy := goodIn_r _ [16, 3, 17, 18, 7, 19, 20, 21, 22, 23, 24, 25, 26, 27, 28, 29, 30, 31, 32, 33, 34, 35, 36, 37, 38, 39, 40, 41, 42, 43, 44, 45, 46, 47, 48, 49, 50, 51, 52, 53, 54, 55, 56, 57, 58] rfl (by decide +kernel)
set_option maxRecDepth 20000 in
theorem gX11_goLaws_X11_coversBy : GoodIn wsX11_goLaws (wsV RX11 257 RX11 yX11_coversBy wsX11_coversBy) := goodIn_app (goodIn_r _ [13, 14, 15, 7] rfl (by decide +kernel)) ggX11_goLaws_X11_coversBy
theorem dX11_goLaws_0 : decode cX11_goLaws 0 = .ok (.aload_n 0, 1) := by decide +kernel
theorem dX11_goLaws_1 : decode cX11_goLaws 1 = .ok (.iconst 0, 1) := by decide +kernel
theorem dX11_goLaws_2 : decode cX11_goLaws 2 = .ok (.putfield 261, 3) := by decide +kernel
theorem dX11_goLaws_5 : decode cX11_goLaws 5 = .ok (.bipush (-6), 2) := by decide +kernel
theorem dX11_goLaws_7 : decode cX11_goLaws 7 = .ok (.istore_n 3, 1) := by decide +kernel
theorem dX11_goLaws_8 : decode cX11_goLaws 8 = .ok (.iconst 0, 1) := by decide +kernel
theorem dX11_goLaws_9 : decode cX11_goLaws 9 = .ok (.istore 4, 2) := by decide +kernel
theorem dX11_goLaws_11 : decode cX11_goLaws 11 = .ok (.iload 4, 2) := by decide +kernel
theorem dX11_goLaws_13 : decode cX11_goLaws 13 = .ok (.bipush 9, 2) := by decide +kernel
theorem dX11_goLaws_15 : decode cX11_goLaws 15 = .ok (.if_icmp .ge 17, 3) := by decide +kernel
theorem dX11_goLaws_18 : decode cX11_goLaws 18 = .ok (.aload_n 0, 1) := by decide +kernel
theorem dX11_goLaws_19 : decode cX11_goLaws 19 = .ok (.getfield 59, 3) := by decide +kernel
theorem dX11_goLaws_22 : decode cX11_goLaws 22 = .ok (.iload 4, 2) := by decide +kernel
theorem dX11_goLaws_24 : decode cX11_goLaws 24 = .ok (.iconst 0, 1) := by decide +kernel
theorem dX11_goLaws_25 : decode cX11_goLaws 25 = .ok (.iastore, 1) := by decide +kernel
theorem dX11_goLaws_26 : decode cX11_goLaws 26 = .ok (.iinc 4 1, 3) := by decide +kernel
theorem dX11_goLaws_29 : decode cX11_goLaws 29 = .ok (.goto (-18), 3) := by decide +kernel
theorem dX11_goLaws_32 : decode cX11_goLaws 32 = .ok (.sipush 1000, 3) := by decide +kernel
theorem dX11_goLaws_35 : decode cX11_goLaws 35 = .ok (.istore 4, 2) := by decide +kernel
theorem dX11_goLaws_37 : decode cX11_goLaws 37 = .ok (.iload 4, 2) := by decide +kernel
theorem dX11_goLaws_39 : decode cX11_goLaws 39 = .ok (.sipush 9000, 3) := by decide +kernel
theorem dX11_goLaws_42 : decode cX11_goLaws 42 = .ok (.if_icmp .ge 152, 3) := by decide +kernel
theorem dX11_goLaws_45 : decode cX11_goLaws 45 = .ok (.iload 4, 2) := by decide +kernel
theorem dX11_goLaws_47 : decode cX11_goLaws 47 = .ok (.sipush 1000, 3) := by decide +kernel
theorem dX11_goLaws_50 : decode cX11_goLaws 50 = .ok (.idiv, 1) := by decide +kernel
theorem dX11_goLaws_51 : decode cX11_goLaws 51 = .ok (.istore 5, 2) := by decide +kernel
theorem dX11_goLaws_53 : decode cX11_goLaws 53 = .ok (.iload 4, 2) := by decide +kernel
theorem dX11_goLaws_55 : decode cX11_goLaws 55 = .ok (.bipush 100, 2) := by decide +kernel
theorem dX11_goLaws_57 : decode cX11_goLaws 57 = .ok (.idiv, 1) := by decide +kernel
theorem dX11_goLaws_58 : decode cX11_goLaws 58 = .ok (.bipush 10, 2) := by decide +kernel
theorem dX11_goLaws_60 : decode cX11_goLaws 60 = .ok (.irem, 1) := by decide +kernel
theorem dX11_goLaws_61 : decode cX11_goLaws 61 = .ok (.istore 6, 2) := by decide +kernel
theorem dX11_goLaws_63 : decode cX11_goLaws 63 = .ok (.iload 4, 2) := by decide +kernel
theorem dX11_goLaws_65 : decode cX11_goLaws 65 = .ok (.bipush 100, 2) := by decide +kernel
theorem dX11_goLaws_67 : decode cX11_goLaws 67 = .ok (.irem, 1) := by decide +kernel
theorem dX11_goLaws_68 : decode cX11_goLaws 68 = .ok (.istore 7, 2) := by decide +kernel
theorem dX11_goLaws_70 : decode cX11_goLaws 70 = .ok (.iload 5, 2) := by decide +kernel
theorem dX11_goLaws_72 : decode cX11_goLaws 72 = .ok (.aload_n 0, 1) := by decide +kernel
theorem dX11_goLaws_73 : decode cX11_goLaws 73 = .ok (.getfield 83, 3) := by decide +kernel
theorem dX11_goLaws_76 : decode cX11_goLaws 76 = .ok (.if_icmp .ge 112, 3) := by decide +kernel
theorem dX11_goLaws_79 : decode cX11_goLaws 79 = .ok (.iload 6, 2) := by decide +kernel
theorem dX11_goLaws_81 : decode cX11_goLaws 81 = .ok (.ifCond .le 107, 3) := by decide +kernel
theorem dX11_goLaws_84 : decode cX11_goLaws 84 = .ok (.iload 7, 2) := by decide +kernel
theorem dX11_goLaws_86 : decode cX11_goLaws 86 = .ok (.iconst 2, 1) := by decide +kernel
theorem dX11_goLaws_87 : decode cX11_goLaws 87 = .ok (.aload_n 0, 1) := by decide +kernel
theorem dX11_goLaws_88 : decode cX11_goLaws 88 = .ok (.getfield 83, 3) := by decide +kernel
theorem dX11_goLaws_91 : decode cX11_goLaws 91 = .ok (.iload 5, 2) := by decide +kernel
theorem dX11_goLaws_93 : decode cX11_goLaws 93 = .ok (.isub, 1) := by decide +kernel
theorem dX11_goLaws_94 : decode cX11_goLaws 94 = .ok (.imul, 1) := by decide +kernel
theorem dX11_goLaws_95 : decode cX11_goLaws 95 = .ok (.iload 6, 2) := by decide +kernel
theorem dX11_goLaws_97 : decode cX11_goLaws 97 = .ok (.imul, 1) := by decide +kernel
theorem dX11_goLaws_98 : decode cX11_goLaws 98 = .ok (.if_icmp .ge 90, 3) := by decide +kernel
theorem dX11_goLaws_101 : decode cX11_goLaws 101 = .ok (.aload_n 0, 1) := by decide +kernel
theorem dX11_goLaws_102 : decode cX11_goLaws 102 = .ok (.iload 5, 2) := by decide +kernel
theorem dX11_goLaws_104 : decode cX11_goLaws 104 = .ok (.iload 6, 2) := by decide +kernel
theorem dX11_goLaws_106 : decode cX11_goLaws 106 = .ok (.iload 7, 2) := by decide +kernel
theorem dX11_goLaws_108 : decode cX11_goLaws 108 = .ok (.invokevirtual 264, 3) := by decide +kernel
theorem dX11_goLaws_111 : decode cX11_goLaws 111 = .ok (.ifCond .eq 77, 3) := by decide +kernel
theorem dX11_goLaws_114 : decode cX11_goLaws 114 = .ok (.aload_n 0, 1) := by decide +kernel
theorem dX11_goLaws_115 : decode cX11_goLaws 115 = .ok (.getfield 261, 3) := by decide +kernel
theorem dX11_goLaws_118 : decode cX11_goLaws 118 = .ok (.iload_n 1, 1) := by decide +kernel
theorem dX11_goLaws_119 : decode cX11_goLaws 119 = .ok (.if_icmp .ne 8, 3) := by decide +kernel
theorem dX11_goLaws_122 : decode cX11_goLaws 122 = .ok (.iload 4, 2) := by decide +kernel
theorem dX11_goLaws_124 : decode cX11_goLaws 124 = .ok (.goto 4, 3) := by decide +kernel
theorem dX11_goLaws_127 : decode cX11_goLaws 127 = .ok (.iload_n 3, 1) := by decide +kernel
theorem dX11_goLaws_128 : decode cX11_goLaws 128 = .ok (.istore_n 3, 1) := by decide +kernel
theorem dX11_goLaws_129 : decode cX11_goLaws 129 = .ok (.aload_n 0, 1) := by decide +kernel
theorem dX11_goLaws_130 : decode cX11_goLaws 130 = .ok (.dup, 1) := by decide +kernel
theorem dX11_goLaws_131 : decode cX11_goLaws 131 = .ok (.getfield 261, 3) := by decide +kernel
theorem dX11_goLaws_134 : decode cX11_goLaws 134 = .ok (.iconst 1, 1) := by decide +kernel
theorem dX11_goLaws_135 : decode cX11_goLaws 135 = .ok (.iadd, 1) := by decide +kernel
theorem dX11_goLaws_136 : decode cX11_goLaws 136 = .ok (.putfield 261, 3) := by decide +kernel
theorem dX11_goLaws_139 : decode cX11_goLaws 139 = .ok (.iconst 0, 1) := by decide +kernel
theorem dX11_goLaws_140 : decode cX11_goLaws 140 = .ok (.istore 8, 2) := by decide +kernel
theorem dX11_goLaws_142 : decode cX11_goLaws 142 = .ok (.iload 8, 2) := by decide +kernel
theorem dX11_goLaws_144 : decode cX11_goLaws 144 = .ok (.aload_n 0, 1) := by decide +kernel
theorem dX11_goLaws_145 : decode cX11_goLaws 145 = .ok (.getfield 83, 3) := by decide +kernel
theorem dX11_goLaws_148 : decode cX11_goLaws 148 = .ok (.if_icmp .ge 40, 3) := by decide +kernel
theorem dX11_goLaws_151 : decode cX11_goLaws 151 = .ok (.aload_n 0, 1) := by decide +kernel
theorem dX11_goLaws_152 : decode cX11_goLaws 152 = .ok (.getfield 59, 3) := by decide +kernel
theorem dX11_goLaws_155 : decode cX11_goLaws 155 = .ok (.iload 8, 2) := by decide +kernel
theorem dX11_goLaws_157 : decode cX11_goLaws 157 = .ok (.dup2, 1) := by decide +kernel
theorem dX11_goLaws_158 : decode cX11_goLaws 158 = .ok (.iaload, 1) := by decide +kernel
theorem dX11_goLaws_159 : decode cX11_goLaws 159 = .ok (.aload_n 0, 1) := by decide +kernel
theorem dX11_goLaws_160 : decode cX11_goLaws 160 = .ok (.iload 5, 2) := by decide +kernel
theorem dX11_goLaws_162 : decode cX11_goLaws 162 = .ok (.iload 6, 2) := by decide +kernel
theorem dX11_goLaws_164 : decode cX11_goLaws 164 = .ok (.iload 7, 2) := by decide +kernel
theorem dX11_goLaws_166 : decode cX11_goLaws 166 = .ok (.iload 8, 2) := by decide +kernel
theorem dX11_goLaws_168 : decode cX11_goLaws 168 = .ok (.iload_n 2, 1) := by decide +kernel
theorem dX11_goLaws_169 : decode cX11_goLaws 169 = .ok (.invokevirtual 257, 3) := by decide +kernel
theorem dX11_goLaws_172 : decode cX11_goLaws 172 = .ok (.ifCond .eq 7, 3) := by decide +kernel
theorem dX11_goLaws_175 : decode cX11_goLaws 175 = .ok (.iconst 1, 1) := by decide +kernel
theorem dX11_goLaws_176 : decode cX11_goLaws 176 = .ok (.goto 4, 3) := by decide +kernel
theorem dX11_goLaws_179 : decode cX11_goLaws 179 = .ok (.iconst 0, 1) := by decide +kernel
theorem dX11_goLaws_180 : decode cX11_goLaws 180 = .ok (.iadd, 1) := by decide +kernel
theorem dX11_goLaws_181 : decode cX11_goLaws 181 = .ok (.iastore, 1) := by decide +kernel
theorem dX11_goLaws_182 : decode cX11_goLaws 182 = .ok (.iinc 8 1, 3) := by decide +kernel
theorem dX11_goLaws_185 : decode cX11_goLaws 185 = .ok (.goto (-43), 3) := by decide +kernel
theorem dX11_goLaws_188 : decode cX11_goLaws 188 = .ok (.iinc 4 1, 3) := by decide +kernel
theorem dX11_goLaws_191 : decode cX11_goLaws 191 = .ok (.goto (-154), 3) := by decide +kernel
theorem dX11_goLaws_194 : decode cX11_goLaws 194 = .ok (.iload_n 3, 1) := by decide +kernel
theorem dX11_goLaws_195 : decode cX11_goLaws 195 = .ok (.ireturn, 1) := by decide +kernel
set_option maxRecDepth 20000 in
theorem ggX11_laws_X11_goLaws : GoodIn wsX11_laws wsX11_goLaws := goodIn_r _ [6, 1, 7, 8, 9, 10, 11, 5, 12, 13, 14, 15, 16, 17, 18, 19, 20, 21, 22, 23, 24, 25, 26, 27, 28, 29, 30, 31, 32, 33, 34, 35, 36, 37, 38, 39, 40, 41, 42, 43, 44, 45, 46, 47, 48, 49, 50, 51, 52, 53, 54, 55, 56, 57, 58, 59, 60, 61, 62] rfl (by decide +kernel)
set_option maxRecDepth 20000 in
theorem gX11_laws_X11_goLaws : GoodIn wsX11_laws (wsV RX11 267 RX11 yX11_goLaws wsX11_goLaws) := goodIn_app (goodIn_r _ [2, 3, 4, 5] rfl (by decide +kernel)) ggX11_laws_X11_goLaws
theorem dX11_laws_0 : decode cX11_laws 0 = .ok (.aload_n 0, 1) := by decide +kernel
theorem dX11_laws_1 : decode cX11_laws 1 = .ok (.iload_n 1, 1) := by decide +kernel
theorem dX11_laws_2 : decode cX11_laws 2 = .ok (.iconst 0, 1) := by decide +kernel
theorem dX11_laws_3 : decode cX11_laws 3 = .ok (.invokevirtual 267, 3) := by decide +kernel
theorem dX11_laws_6 : decode cX11_laws 6 = .ok (.istore_n 2, 1) := by decide +kernel
theorem dX11_laws_7 : decode cX11_laws 7 = .ok (.iload_n 1, 1) := by decide +kernel
theorem dX11_laws_8 : decode cX11_laws 8 = .ok (.iconst (-1), 1) := by decide +kernel
theorem dX11_laws_9 : decode cX11_laws 9 = .ok (.if_icmp .ne 10, 3) := by decide +kernel
theorem dX11_laws_12 : decode cX11_laws 12 = .ok (.aload_n 0, 1) := by decide +kernel
theorem dX11_laws_13 : decode cX11_laws 13 = .ok (.getfield 261, 3) := by decide +kernel
theorem dX11_laws_16 : decode cX11_laws 16 = .ok (.goto 4, 3) := by decide +kernel
theorem dX11_laws_19 : decode cX11_laws 19 = .ok (.iload_n 2, 1) := by decide +kernel
theorem dX11_laws_20 : decode cX11_laws 20 = .ok (.ireturn, 1) := by decide +kernel
theorem dX11_mostLeft_0 : decode cX11_mostLeft 0 = .ok (.aload_n 0, 1) := by decide +kernel
theorem dX11_mostLeft_1 : decode cX11_mostLeft 1 = .ok (.getfield 59, 3) := by decide +kernel
theorem dX11_mostLeft_4 : decode cX11_mostLeft 4 = .ok (.iload_n 1, 1) := by decide +kernel
theorem dX11_mostLeft_5 : decode cX11_mostLeft 5 = .ok (.iaload, 1) := by decide +kernel
theorem dX11_mostLeft_6 : decode cX11_mostLeft 6 = .ok (.aload_n 0, 1) := by decide +kernel
theorem dX11_mostLeft_7 : decode cX11_mostLeft 7 = .ok (.getfield 261, 3) := by decide +kernel
theorem dX11_mostLeft_10 : decode cX11_mostLeft 10 = .ok (.aload_n 0, 1) := by decide +kernel
theorem dX11_mostLeft_11 : decode cX11_mostLeft 11 = .ok (.getfield 59, 3) := by decide +kernel
theorem dX11_mostLeft_14 : decode cX11_mostLeft 14 = .ok (.iload_n 1, 1) := by decide +kernel
theorem dX11_mostLeft_15 : decode cX11_mostLeft 15 = .ok (.iaload, 1) := by decide +kernel
theorem dX11_mostLeft_16 : decode cX11_mostLeft 16 = .ok (.isub, 1) := by decide +kernel
theorem dX11_mostLeft_17 : decode cX11_mostLeft 17 = .ok (.if_icmp .le 12, 3) := by decide +kernel
theorem dX11_mostLeft_20 : decode cX11_mostLeft 20 = .ok (.aload_n 0, 1) := by decide +kernel
theorem dX11_mostLeft_21 : decode cX11_mostLeft 21 = .ok (.getfield 59, 3) := by decide +kernel
theorem dX11_mostLeft_24 : decode cX11_mostLeft 24 = .ok (.iload_n 1, 1) := by decide +kernel
theorem dX11_mostLeft_25 : decode cX11_mostLeft 25 = .ok (.iaload, 1) := by decide +kernel
theorem dX11_mostLeft_26 : decode cX11_mostLeft 26 = .ok (.goto 14, 3) := by decide +kernel
theorem dX11_mostLeft_29 : decode cX11_mostLeft 29 = .ok (.aload_n 0, 1) := by decide +kernel
theorem dX11_mostLeft_30 : decode cX11_mostLeft 30 = .ok (.getfield 261, 3) := by decide +kernel
theorem dX11_mostLeft_33 : decode cX11_mostLeft 33 = .ok (.aload_n 0, 1) := by decide +kernel
theorem dX11_mostLeft_34 : decode cX11_mostLeft 34 = .ok (.getfield 59, 3) := by decide +kernel
theorem dX11_mostLeft_37 : decode cX11_mostLeft 37 = .ok (.iload_n 1, 1) := by decide +kernel
theorem dX11_mostLeft_38 : decode cX11_mostLeft 38 = .ok (.iaload, 1) := by decide +kernel
theorem dX11_mostLeft_39 : decode cX11_mostLeft 39 = .ok (.isub, 1) := by decide +kernel
theorem dX11_mostLeft_40 : decode cX11_mostLeft 40 = .ok (.ireturn, 1) := by decide +kernel
set_option maxRecDepth 20000 in
theorem ggX11_look_X11_isYear : GoodIn wsX11_look wsX11_isYear := goodIn_r _ [6, 7, 8, 9, 5, 10] rfl (by decide +kernel)
set_option maxRecDepth 20000 in
theorem gX11_look_X11_isYear : GoodIn wsX11_look (va_wsS RX11 212 yX11_isYear wsX11_isYear) := goodIn_app (goodIn_r _ [3, 4, 5] rfl (by decide +kernel)) ggX11_look_X11_isYear
set_option maxRecDepth 20000 in
theorem ggX11_look_X11_in : GoodIn wsX11_look wsX11_in := goodIn_r _ [10] rfl (by decide +kernel)
set_option maxRecDepth 20000 in
theorem gX11_look_X11_in : GoodIn wsX11_look (va_wsS RX11 99 yX11_in wsX11_in) := goodIn_app (goodIn_r _ [8, 9, 5] rfl (by decide +kernel)) ggX11_look_X11_in
set_option maxRecDepth 20000 in
theorem ggX11_look_X11_goLaws : GoodIn wsX11_look wsX11_goLaws := goodIn_r _ [14, 1, 15, 2, 16, 17, 18, 5, 19, 20, 21, 22, 23, 24, 25, 26, 27, 28, 29, 30, 35, 36, 37, 38, 39, 40, 41, 42, 43, 44, 45, 46, 47, 48, 49, 50, 51, 52, 53, 54, 55, 56, 57, 58, 59, 60, 61, 62, 63, 64, 65, 66, 67, 68, 69, 70, 71, 72, 73] rfl (by decide +kernel)
set_option maxRecDepth 20000 in
theorem gX11_look_X11_goLaws : GoodIn wsX11_look (wsV RX11 267 RX11 yX11_goLaws wsX11_goLaws) := goodIn_app (goodIn_r _ [11, 12, 13, 5] rfl (by decide +kernel)) ggX11_look_X11_goLaws
set_option maxRecDepth 20000 in
theorem ggX11_look_X11_mostLeft : GoodIn wsX11_look wsX11_mostLeft := goodIn_r _ [34, 15, 1, 35, 36, 37, 38, 39, 40, 41, 42, 43, 44, 45, 46, 47, 48, 49, 50, 51, 52, 53, 54, 55, 56, 57, 58, 59, 60, 61, 62, 63, 64, 65, 66, 67, 68, 69, 70, 71, 72, 73] rfl (by decide +kernel)
set_option maxRecDepth 20000 in
theorem gX11_look_X11_mostLeft : GoodIn wsX11_look (wsV RX11 270 RX11 yX11_mostLeft wsX11_mostLeft) := goodIn_app (goodIn_r _ [31, 32, 33, 5] rfl (by decide +kernel)) ggX11_look_X11_mostLeft
theorem dX11_look_0 : decode cX11_look 0 = .ok (.iload_n 1, 1) := by decide +kernel
theorem dX11_look_1 : decode cX11_look 1 = .ok (.invokestatic 212, 3) := by decide +kernel
theorem dX11_look_4 : decode cX11_look 4 = .ok (.ifCond .eq 13, 3) := by decide +kernel
theorem dX11_look_7 : decode cX11_look 7 = .ok (.iload_n 2, 1) := by decide +kernel
theorem dX11_look_8 : decode cX11_look 8 = .ok (.i2l, 1) := by decide +kernel
theorem dX11_look_9 : decode cX11_look 9 = .ok (.lconst 0, 1) := by decide +kernel
theorem dX11_look_10 : decode cX11_look 10 = .ok (.lconst 1, 1) := by decide +kernel
theorem dX11_look_11 : decode cX11_look 11 = .ok (.invokestatic 99, 3) := by decide +kernel
theorem dX11_look_14 : decode cX11_look 14 = .ok (.ifCond .ne 6, 3) := by decide +kernel
theorem dX11_look_17 : decode cX11_look 17 = .ok (.bipush (-2), 2) := by decide +kernel
theorem dX11_look_19 : decode cX11_look 19 = .ok (.ireturn, 1) := by decide +kernel
theorem dX11_look_20 : decode cX11_look 20 = .ok (.aload_n 0, 1) := by decide +kernel
theorem dX11_look_21 : decode cX11_look 21 = .ok (.bipush (-6), 2) := by decide +kernel
theorem dX11_look_23 : decode cX11_look 23 = .ok (.iload_n 1, 1) := by decide +kernel
theorem dX11_look_24 : decode cX11_look 24 = .ok (.invokevirtual 267, 3) := by decide +kernel
theorem dX11_look_27 : decode cX11_look 27 = .ok (.pop, 1) := by decide +kernel
theorem dX11_look_28 : decode cX11_look 28 = .ok (.aload_n 0, 1) := by decide +kernel
theorem dX11_look_29 : decode cX11_look 29 = .ok (.getfield 261, 3) := by decide +kernel
theorem dX11_look_32 : decode cX11_look 32 = .ok (.ifCond .ne 6, 3) := by decide +kernel
theorem dX11_look_35 : decode cX11_look 35 = .ok (.bipush (-6), 2) := by decide +kernel
theorem dX11_look_37 : decode cX11_look 37 = .ok (.ireturn, 1) := by decide +kernel
theorem dX11_look_38 : decode cX11_look 38 = .ok (.iconst 0, 1) := by decide +kernel
theorem dX11_look_39 : decode cX11_look 39 = .ok (.istore_n 3, 1) := by decide +kernel
theorem dX11_look_40 : decode cX11_look 40 = .ok (.iconst 1, 1) := by decide +kernel
theorem dX11_look_41 : decode cX11_look 41 = .ok (.istore 4, 2) := by decide +kernel
theorem dX11_look_43 : decode cX11_look 43 = .ok (.iload 4, 2) := by decide +kernel
theorem dX11_look_45 : decode cX11_look 45 = .ok (.aload_n 0, 1) := by decide +kernel
theorem dX11_look_46 : decode cX11_look 46 = .ok (.getfield 83, 3) := by decide +kernel
theorem dX11_look_49 : decode cX11_look 49 = .ok (.if_icmp .ge 30, 3) := by decide +kernel
theorem dX11_look_52 : decode cX11_look 52 = .ok (.aload_n 0, 1) := by decide +kernel
theorem dX11_look_53 : decode cX11_look 53 = .ok (.iload 4, 2) := by decide +kernel
theorem dX11_look_55 : decode cX11_look 55 = .ok (.invokevirtual 270, 3) := by decide +kernel
theorem dX11_look_58 : decode cX11_look 58 = .ok (.aload_n 0, 1) := by decide +kernel
theorem dX11_look_59 : decode cX11_look 59 = .ok (.iload_n 3, 1) := by decide +kernel
theorem dX11_look_60 : decode cX11_look 60 = .ok (.invokevirtual 270, 3) := by decide +kernel
theorem dX11_look_63 : decode cX11_look 63 = .ok (.if_icmp .ge 8, 3) := by decide +kernel
theorem dX11_look_66 : decode cX11_look 66 = .ok (.iload 4, 2) := by decide +kernel
theorem dX11_look_68 : decode cX11_look 68 = .ok (.goto 4, 3) := by decide +kernel
theorem dX11_look_71 : decode cX11_look 71 = .ok (.iload_n 3, 1) := by decide +kernel
theorem dX11_look_72 : decode cX11_look 72 = .ok (.istore_n 3, 1) := by decide +kernel
theorem dX11_look_73 : decode cX11_look 73 = .ok (.iinc 4 1, 3) := by decide +kernel
theorem dX11_look_76 : decode cX11_look 76 = .ok (.goto (-33), 3) := by decide +kernel
theorem dX11_look_79 : decode cX11_look 79 = .ok (.iload_n 2, 1) := by decide +kernel
theorem dX11_look_80 : decode cX11_look 80 = .ok (.ifCond .ne 7, 3) := by decide +kernel
theorem dX11_look_83 : decode cX11_look 83 = .ok (.iload_n 3, 1) := by decide +kernel
theorem dX11_look_84 : decode cX11_look 84 = .ok (.goto 8, 3) := by decide +kernel
theorem dX11_look_87 : decode cX11_look 87 = .ok (.aload_n 0, 1) := by decide +kernel
theorem dX11_look_88 : decode cX11_look 88 = .ok (.iload_n 3, 1) := by decide +kernel
theorem dX11_look_89 : decode cX11_look 89 = .ok (.invokevirtual 270, 3) := by decide +kernel
theorem dX11_look_92 : decode cX11_look 92 = .ok (.ireturn, 1) := by decide +kernel
theorem dX11_lowest_0 : decode cX11_lowest 0 = .ok (.lload_n 2, 1) := by decide +kernel
theorem dX11_lowest_1 : decode cX11_lowest 1 = .ok (.lstore 5, 2) := by decide +kernel
theorem dX11_lowest_3 : decode cX11_lowest 3 = .ok (.lload_n 0, 1) := by decide +kernel
theorem dX11_lowest_4 : decode cX11_lowest 4 = .ok (.lstore 7, 2) := by decide +kernel
theorem dX11_lowest_6 : decode cX11_lowest 6 = .ok (.lload 7, 2) := by decide +kernel
theorem dX11_lowest_8 : decode cX11_lowest 8 = .ok (.lconst 0, 1) := by decide +kernel
theorem dX11_lowest_9 : decode cX11_lowest 9 = .ok (.lcmp, 1) := by decide +kernel
theorem dX11_lowest_10 : decode cX11_lowest 10 = .ok (.ifCond .eq 21, 3) := by decide +kernel
theorem dX11_lowest_13 : decode cX11_lowest 13 = .ok (.lload 5, 2) := by decide +kernel
theorem dX11_lowest_15 : decode cX11_lowest 15 = .ok (.lload 7, 2) := by decide +kernel
theorem dX11_lowest_17 : decode cX11_lowest 17 = .ok (.lrem, 1) := by decide +kernel
theorem dX11_lowest_18 : decode cX11_lowest 18 = .ok (.lstore 9, 2) := by decide +kernel
theorem dX11_lowest_20 : decode cX11_lowest 20 = .ok (.lload 7, 2) := by decide +kernel
theorem dX11_lowest_22 : decode cX11_lowest 22 = .ok (.lstore 5, 2) := by decide +kernel
theorem dX11_lowest_24 : decode cX11_lowest 24 = .ok (.lload 9, 2) := by decide +kernel
theorem dX11_lowest_26 : decode cX11_lowest 26 = .ok (.lstore 7, 2) := by decide +kernel
theorem dX11_lowest_28 : decode cX11_lowest 28 = .ok (.goto (-22), 3) := by decide +kernel
theorem dX11_lowest_31 : decode cX11_lowest 31 = .ok (.iload 4, 2) := by decide +kernel
theorem dX11_lowest_33 : decode cX11_lowest 33 = .ok (.ifCond .ne 10, 3) := by decide +kernel
theorem dX11_lowest_36 : decode cX11_lowest 36 = .ok (.lload_n 0, 1) := by decide +kernel
theorem dX11_lowest_37 : decode cX11_lowest 37 = .ok (.lload 5, 2) := by decide +kernel
theorem dX11_lowest_39 : decode cX11_lowest 39 = .ok (.ldiv, 1) := by decide +kernel
theorem dX11_lowest_40 : decode cX11_lowest 40 = .ok (.goto 7, 3) := by decide +kernel
theorem dX11_lowest_43 : decode cX11_lowest 43 = .ok (.lload_n 2, 1) := by decide +kernel
theorem dX11_lowest_44 : decode cX11_lowest 44 = .ok (.lload 5, 2) := by decide +kernel
