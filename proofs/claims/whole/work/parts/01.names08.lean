theorem dX11_lowest_46 : decode cX11_lowest 46 = .ok (.ldiv, 1) := by decide +kernel
theorem dX11_lowest_47 : decode cX11_lowest 47 = .ok (.lreturn, 1) := by decide +kernel
set_option maxRecDepth 20000 in
theorem ggX11_dust_X11_isLand : GoodIn wsX11_dust wsX11_isLand := goodIn_r _ [11, 12, 13, 14, 10, 15, 47, 48, 49, 50, 51, 52, 53, 54, 55, 56, 57, 58, 59, 60, 61, 62, 63, 64, 65, 66, 67, 68, 69, 70, 71, 72, 73, 74, 75, 76, 77, 78, 79, 80, 81, 82, 83, 84, 85] (by decide +kernel) (by decide +kernel)
set_option maxRecDepth 20000 in
theorem gX11_dust_X11_isLand : GoodIn wsX11_dust (wsV RX11 129 RX11 yX11_isLand wsX11_isLand) := goodIn_app (goodIn_r _ [7, 8, 9, 10] (by decide +kernel) (by decide +kernel)) ggX11_dust_X11_isLand
set_option maxRecDepth 20000 in
theorem ggX11_dust_X11_in : GoodIn wsX11_dust wsX11_in := goodIn_r _ [15] (by decide +kernel) (by decide +kernel)
set_option maxRecDepth 20000 in
theorem gX11_dust_X11_in : GoodIn wsX11_dust (va_wsS RX11 99 yX11_in wsX11_in) := goodIn_app (goodIn_r _ [13, 14, 10] (by decide +kernel) (by decide +kernel)) ggX11_dust_X11_in
set_option maxRecDepth 20000 in
theorem ggX11_dust_X11_at : GoodIn wsX11_dust wsX11_at := goodIn_r _ [18] (by decide +kernel) (by decide +kernel)
set_option maxRecDepth 20000 in
theorem gX11_dust_X11_at : GoodIn wsX11_dust (va_wsS RX11 95 yX11_at wsX11_at) := goodIn_app (goodIn_r _ [16, 17, 10] (by decide +kernel) (by decide +kernel)) ggX11_dust_X11_at
set_option maxRecDepth 20000 in
theorem ggX11_dust_X11_isLit : GoodIn wsX11_dust wsX11_isLit := goodIn_r _ [22, 23, 24, 25, 10, 26, 12, 27, 28, 29, 30, 31, 32, 33, 34, 35, 36, 37, 38, 39, 47, 48, 49, 50, 51, 52, 53, 54, 55, 56, 57, 58, 59, 60, 61, 62, 63, 64, 65, 66, 67, 68, 69, 70, 71, 72, 73, 74, 75, 76, 77, 78, 79, 80, 81, 82, 83, 84, 85] (by decide +kernel) (by decide +kernel)
set_option maxRecDepth 20000 in
theorem gX11_dust_X11_isLit : GoodIn wsX11_dust (wsV RX11 159 RX11 yX11_isLit wsX11_isLit) := goodIn_app (goodIn_r _ [19, 20, 21, 10] (by decide +kernel) (by decide +kernel)) ggX11_dust_X11_isLit
set_option maxRecDepth 20000 in
theorem ggX11_dust_X11_eats : GoodIn wsX11_dust wsX11_eats := goodIn_r _ [43, 5, 16, 17, 10, 18, 47, 48, 49, 50, 51, 52, 53, 54, 55, 56, 57, 58, 59, 60, 61, 62, 63, 64, 65, 66, 67, 68, 69, 70, 71, 72, 73, 74, 75, 76, 77, 78, 79, 80, 81, 82, 83, 84, 85] (by decide +kernel) (by decide +kernel)
set_option maxRecDepth 20000 in
theorem gX11_dust_X11_eats : GoodIn wsX11_dust (wsV RX11 162 RX11 yX11_eats wsX11_eats) := goodIn_app (goodIn_r _ [40, 41, 42, 10] (by decide +kernel) (by decide +kernel)) ggX11_dust_X11_eats
set_option maxRecDepth 20000 in
theorem ggX11_dust_X11_lowest : GoodIn wsX11_dust wsX11_lowest := goodIn_r _ [46] (by decide +kernel) (by decide +kernel)
set_option maxRecDepth 20000 in
theorem gX11_dust_X11_lowest : GoodIn wsX11_dust (va_wsS RX11 277 yX11_lowest wsX11_lowest) := goodIn_app (goodIn_r _ [44, 45, 10] (by decide +kernel) (by decide +kernel)) ggX11_dust_X11_lowest
theorem dX11_dust_0 : decode cX11_dust 0 = .ok (.aload_n 0, 1) := by decide +kernel
theorem dX11_dust_1 : decode cX11_dust 1 = .ok (.iload_n 1, 1) := by decide +kernel
theorem dX11_dust_2 : decode cX11_dust 2 = .ok (.invokevirtual 129, 3) := by decide +kernel
theorem dX11_dust_5 : decode cX11_dust 5 = .ok (.ifCond .ne 7, 3) := by decide +kernel
theorem dX11_dust_8 : decode cX11_dust 8 = .ok (.ldc2_w 245, 3) := by decide +kernel
theorem dX11_dust_11 : decode cX11_dust 11 = .ok (.lreturn, 1) := by decide +kernel
theorem dX11_dust_12 : decode cX11_dust 12 = .ok (.iload_n 2, 1) := by decide +kernel
theorem dX11_dust_13 : decode cX11_dust 13 = .ok (.i2l, 1) := by decide +kernel
theorem dX11_dust_14 : decode cX11_dust 14 = .ok (.lconst 0, 1) := by decide +kernel
theorem dX11_dust_15 : decode cX11_dust 15 = .ok (.ldc2_w 273, 3) := by decide +kernel
theorem dX11_dust_18 : decode cX11_dust 18 = .ok (.invokestatic 99, 3) := by decide +kernel
theorem dX11_dust_21 : decode cX11_dust 21 = .ok (.ifCond .eq 26, 3) := by decide +kernel
theorem dX11_dust_24 : decode cX11_dust 24 = .ok (.iload_n 3, 1) := by decide +kernel
theorem dX11_dust_25 : decode cX11_dust 25 = .ok (.i2l, 1) := by decide +kernel
theorem dX11_dust_26 : decode cX11_dust 26 = .ok (.lconst 0, 1) := by decide +kernel
theorem dX11_dust_27 : decode cX11_dust 27 = .ok (.ldc2_w 275, 3) := by decide +kernel
theorem dX11_dust_30 : decode cX11_dust 30 = .ok (.invokestatic 99, 3) := by decide +kernel
theorem dX11_dust_33 : decode cX11_dust 33 = .ok (.ifCond .eq 14, 3) := by decide +kernel
theorem dX11_dust_36 : decode cX11_dust 36 = .ok (.iload 4, 2) := by decide +kernel
theorem dX11_dust_38 : decode cX11_dust 38 = .ok (.i2l, 1) := by decide +kernel
theorem dX11_dust_39 : decode cX11_dust 39 = .ok (.lconst 0, 1) := by decide +kernel
theorem dX11_dust_40 : decode cX11_dust 40 = .ok (.lconst 1, 1) := by decide +kernel
theorem dX11_dust_41 : decode cX11_dust 41 = .ok (.invokestatic 99, 3) := by decide +kernel
theorem dX11_dust_44 : decode cX11_dust 44 = .ok (.ifCond .ne 7, 3) := by decide +kernel
theorem dX11_dust_47 : decode cX11_dust 47 = .ok (.ldc2_w 249, 3) := by decide +kernel
theorem dX11_dust_50 : decode cX11_dust 50 = .ok (.lreturn, 1) := by decide +kernel
theorem dX11_dust_51 : decode cX11_dust 51 = .ok (.aload_n 0, 1) := by decide +kernel
theorem dX11_dust_52 : decode cX11_dust 52 = .ok (.getfield 7, 3) := by decide +kernel
theorem dX11_dust_55 : decode cX11_dust 55 = .ok (.iconst 2, 1) := by decide +kernel
theorem dX11_dust_56 : decode cX11_dust 56 = .ok (.iload_n 1, 1) := by decide +kernel
theorem dX11_dust_57 : decode cX11_dust 57 = .ok (.invokestatic 95, 3) := by decide +kernel
theorem dX11_dust_60 : decode cX11_dust 60 = .ok (.iaload, 1) := by decide +kernel
theorem dX11_dust_61 : decode cX11_dust 61 = .ok (.istore 5, 2) := by decide +kernel
theorem dX11_dust_63 : decode cX11_dust 63 = .ok (.lconst 0, 1) := by decide +kernel
theorem dX11_dust_64 : decode cX11_dust 64 = .ok (.lstore 6, 2) := by decide +kernel
theorem dX11_dust_66 : decode cX11_dust 66 = .ok (.lconst 0, 1) := by decide +kernel
theorem dX11_dust_67 : decode cX11_dust 67 = .ok (.lstore 8, 2) := by decide +kernel
theorem dX11_dust_69 : decode cX11_dust 69 = .ok (.iconst 0, 1) := by decide +kernel
theorem dX11_dust_70 : decode cX11_dust 70 = .ok (.istore 10, 2) := by decide +kernel
theorem dX11_dust_72 : decode cX11_dust 72 = .ok (.iload 10, 2) := by decide +kernel
theorem dX11_dust_74 : decode cX11_dust 74 = .ok (.iconst 1, 1) := by decide +kernel
theorem dX11_dust_75 : decode cX11_dust 75 = .ok (.iload_n 3, 1) := by decide +kernel
theorem dX11_dust_76 : decode cX11_dust 76 = .ok (.ishl, 1) := by decide +kernel
theorem dX11_dust_77 : decode cX11_dust 77 = .ok (.if_icmp .ge 148, 3) := by decide +kernel
theorem dX11_dust_80 : decode cX11_dust 80 = .ok (.lconst 1, 1) := by decide +kernel
theorem dX11_dust_81 : decode cX11_dust 81 = .ok (.lstore 11, 2) := by decide +kernel
theorem dX11_dust_83 : decode cX11_dust 83 = .ok (.iconst 1, 1) := by decide +kernel
theorem dX11_dust_84 : decode cX11_dust 84 = .ok (.istore 13, 2) := by decide +kernel
theorem dX11_dust_86 : decode cX11_dust 86 = .ok (.aload_n 0, 1) := by decide +kernel
theorem dX11_dust_87 : decode cX11_dust 87 = .ok (.getfield 7, 3) := by decide +kernel
theorem dX11_dust_90 : decode cX11_dust 90 = .ok (.iconst 2, 1) := by decide +kernel
theorem dX11_dust_91 : decode cX11_dust 91 = .ok (.iload_n 1, 1) := by decide +kernel
theorem dX11_dust_92 : decode cX11_dust 92 = .ok (.invokestatic 95, 3) := by decide +kernel
theorem dX11_dust_95 : decode cX11_dust 95 = .ok (.iload 5, 2) := by decide +kernel
theorem dX11_dust_97 : decode cX11_dust 97 = .ok (.iastore, 1) := by decide +kernel
theorem dX11_dust_98 : decode cX11_dust 98 = .ok (.iconst 0, 1) := by decide +kernel
theorem dX11_dust_99 : decode cX11_dust 99 = .ok (.istore 14, 2) := by decide +kernel
theorem dX11_dust_101 : decode cX11_dust 101 = .ok (.iload 14, 2) := by decide +kernel
theorem dX11_dust_103 : decode cX11_dust 103 = .ok (.iload_n 3, 1) := by decide +kernel
theorem dX11_dust_104 : decode cX11_dust 104 = .ok (.if_icmp .ge 92, 3) := by decide +kernel
theorem dX11_dust_107 : decode cX11_dust 107 = .ok (.iload 10, 2) := by decide +kernel
theorem dX11_dust_109 : decode cX11_dust 109 = .ok (.iload 14, 2) := by decide +kernel
theorem dX11_dust_111 : decode cX11_dust 111 = .ok (.ishr, 1) := by decide +kernel
theorem dX11_dust_112 : decode cX11_dust 112 = .ok (.iconst 1, 1) := by decide +kernel
theorem dX11_dust_113 : decode cX11_dust 113 = .ok (.iand, 1) := by decide +kernel
theorem dX11_dust_114 : decode cX11_dust 114 = .ok (.iconst 1, 1) := by decide +kernel
theorem dX11_dust_115 : decode cX11_dust 115 = .ok (.if_icmp .ne 7, 3) := by decide +kernel
theorem dX11_dust_118 : decode cX11_dust 118 = .ok (.iconst 1, 1) := by decide +kernel
theorem dX11_dust_119 : decode cX11_dust 119 = .ok (.goto 4, 3) := by decide +kernel
theorem dX11_dust_122 : decode cX11_dust 122 = .ok (.iconst 0, 1) := by decide +kernel
theorem dX11_dust_123 : decode cX11_dust 123 = .ok (.istore 15, 2) := by decide +kernel
theorem dX11_dust_125 : decode cX11_dust 125 = .ok (.lload 11, 2) := by decide +kernel
theorem dX11_dust_127 : decode cX11_dust 127 = .ok (.iload 15, 2) := by decide +kernel
theorem dX11_dust_129 : decode cX11_dust 129 = .ok (.ifCond .eq 8, 3) := by decide +kernel
theorem dX11_dust_132 : decode cX11_dust 132 = .ok (.iload_n 2, 1) := by decide +kernel
theorem dX11_dust_133 : decode cX11_dust 133 = .ok (.i2l, 1) := by decide +kernel
theorem dX11_dust_134 : decode cX11_dust 134 = .ok (.goto 8, 3) := by decide +kernel
theorem dX11_dust_137 : decode cX11_dust 137 = .ok (.bipush 10, 2) := by decide +kernel
theorem dX11_dust_139 : decode cX11_dust 139 = .ok (.iload_n 2, 1) := by decide +kernel
theorem dX11_dust_140 : decode cX11_dust 140 = .ok (.isub, 1) := by decide +kernel
theorem dX11_dust_141 : decode cX11_dust 141 = .ok (.i2l, 1) := by decide +kernel
theorem dX11_dust_142 : decode cX11_dust 142 = .ok (.lmul, 1) := by decide +kernel
theorem dX11_dust_143 : decode cX11_dust 143 = .ok (.lstore 11, 2) := by decide +kernel
theorem dX11_dust_145 : decode cX11_dust 145 = .ok (.aload_n 0, 1) := by decide +kernel
theorem dX11_dust_146 : decode cX11_dust 146 = .ok (.iload_n 1, 1) := by decide +kernel
theorem dX11_dust_147 : decode cX11_dust 147 = .ok (.iload 15, 2) := by decide +kernel
theorem dX11_dust_149 : decode cX11_dust 149 = .ok (.ifCond .ne 22, 3) := by decide +kernel
theorem dX11_dust_152 : decode cX11_dust 152 = .ok (.aload_n 0, 1) := by decide +kernel
theorem dX11_dust_153 : decode cX11_dust 153 = .ok (.iload_n 1, 1) := by decide +kernel
theorem dX11_dust_154 : decode cX11_dust 154 = .ok (.aload_n 0, 1) := by decide +kernel
theorem dX11_dust_155 : decode cX11_dust 155 = .ok (.getfield 89, 3) := by decide +kernel
theorem dX11_dust_158 : decode cX11_dust 158 = .ok (.iload 14, 2) := by decide +kernel
theorem dX11_dust_160 : decode cX11_dust 160 = .ok (.iadd, 1) := by decide +kernel
theorem dX11_dust_161 : decode cX11_dust 161 = .ok (.invokevirtual 159, 3) := by decide +kernel
theorem dX11_dust_164 : decode cX11_dust 164 = .ok (.ifCond .eq 7, 3) := by decide +kernel
theorem dX11_dust_167 : decode cX11_dust 167 = .ok (.iconst 1, 1) := by decide +kernel
theorem dX11_dust_168 : decode cX11_dust 168 = .ok (.goto 4, 3) := by decide +kernel
theorem dX11_dust_171 : decode cX11_dust 171 = .ok (.iconst 0, 1) := by decide +kernel
theorem dX11_dust_172 : decode cX11_dust 172 = .ok (.invokevirtual 162, 3) := by decide +kernel
theorem dX11_dust_175 : decode cX11_dust 175 = .ok (.ifCond .ne 12, 3) := by decide +kernel
theorem dX11_dust_178 : decode cX11_dust 178 = .ok (.iload 13, 2) := by decide +kernel
theorem dX11_dust_180 : decode cX11_dust 180 = .ok (.ifCond .eq 7, 3) := by decide +kernel
theorem dX11_dust_183 : decode cX11_dust 183 = .ok (.iconst 1, 1) := by decide +kernel
theorem dX11_dust_184 : decode cX11_dust 184 = .ok (.goto 4, 3) := by decide +kernel
theorem dX11_dust_187 : decode cX11_dust 187 = .ok (.iconst 0, 1) := by decide +kernel
theorem dX11_dust_188 : decode cX11_dust 188 = .ok (.istore 13, 2) := by decide +kernel
theorem dX11_dust_190 : decode cX11_dust 190 = .ok (.iinc 14 1, 3) := by decide +kernel
theorem dX11_dust_193 : decode cX11_dust 193 = .ok (.goto (-92), 3) := by decide +kernel
theorem dX11_dust_196 : decode cX11_dust 196 = .ok (.lload 8, 2) := by decide +kernel
theorem dX11_dust_198 : decode cX11_dust 198 = .ok (.lload 11, 2) := by decide +kernel
theorem dX11_dust_200 : decode cX11_dust 200 = .ok (.ladd, 1) := by decide +kernel
theorem dX11_dust_201 : decode cX11_dust 201 = .ok (.lstore 8, 2) := by decide +kernel
theorem dX11_dust_203 : decode cX11_dust 203 = .ok (.lload 6, 2) := by decide +kernel
theorem dX11_dust_205 : decode cX11_dust 205 = .ok (.iload 13, 2) := by decide +kernel
theorem dX11_dust_207 : decode cX11_dust 207 = .ok (.ifCond .eq 8, 3) := by decide +kernel
theorem dX11_dust_210 : decode cX11_dust 210 = .ok (.lload 11, 2) := by decide +kernel
theorem dX11_dust_212 : decode cX11_dust 212 = .ok (.goto 4, 3) := by decide +kernel
theorem dX11_dust_215 : decode cX11_dust 215 = .ok (.lconst 0, 1) := by decide +kernel
theorem dX11_dust_216 : decode cX11_dust 216 = .ok (.ladd, 1) := by decide +kernel
theorem dX11_dust_217 : decode cX11_dust 217 = .ok (.lstore 6, 2) := by decide +kernel
theorem dX11_dust_219 : decode cX11_dust 219 = .ok (.iinc 10 1, 3) := by decide +kernel
theorem dX11_dust_222 : decode cX11_dust 222 = .ok (.goto (-150), 3) := by decide +kernel
theorem dX11_dust_225 : decode cX11_dust 225 = .ok (.aload_n 0, 1) := by decide +kernel
theorem dX11_dust_226 : decode cX11_dust 226 = .ok (.getfield 7, 3) := by decide +kernel
theorem dX11_dust_229 : decode cX11_dust 229 = .ok (.iconst 2, 1) := by decide +kernel
theorem dX11_dust_230 : decode cX11_dust 230 = .ok (.iload_n 1, 1) := by decide +kernel
theorem dX11_dust_231 : decode cX11_dust 231 = .ok (.invokestatic 95, 3) := by decide +kernel
theorem dX11_dust_234 : decode cX11_dust 234 = .ok (.iload 5, 2) := by decide +kernel
theorem dX11_dust_236 : decode cX11_dust 236 = .ok (.iastore, 1) := by decide +kernel
theorem dX11_dust_237 : decode cX11_dust 237 = .ok (.lload 6, 2) := by decide +kernel
theorem dX11_dust_239 : decode cX11_dust 239 = .ok (.lload 8, 2) := by decide +kernel
theorem dX11_dust_241 : decode cX11_dust 241 = .ok (.iload 4, 2) := by decide +kernel
theorem dX11_dust_243 : decode cX11_dust 243 = .ok (.invokestatic 277, 3) := by decide +kernel
theorem dX11_dust_246 : decode cX11_dust 246 = .ok (.lreturn, 1) := by decide +kernel
set_option maxRecDepth 20000 in
theorem ggX11_darkAhead_X11_isLit : GoodIn wsX11_darkAhead wsX11_isLit := goodIn_r _ [5, 6, 7, 8, 4, 9, 10, 11, 12, 13, 14, 15, 16, 17, 18, 19, 20, 21, 22, 23, 24, 25, 26, 27, 28, 29, 30, 31, 32, 33, 34, 35, 36, 37, 38, 39, 40, 41, 42, 43, 44, 45, 46, 47, 48, 49, 50, 51, 52, 53, 54, 55, 56, 57, 58, 59, 60, 61, 62] (by decide +kernel) (by decide +kernel)
set_option maxRecDepth 20000 in
theorem gX11_darkAhead_X11_isLit : GoodIn wsX11_darkAhead (wsV RX11 159 RX11 yX11_isLit wsX11_isLit) := goodIn_app (goodIn_r _ [1, 2, 3, 4] (by decide +kernel) (by decide +kernel)) ggX11_darkAhead_X11_isLit
theorem dX11_darkAhead_0 : decode cX11_darkAhead 0 = .ok (.iconst 0, 1) := by decide +kernel
theorem dX11_darkAhead_1 : decode cX11_darkAhead 1 = .ok (.istore_n 3, 1) := by decide +kernel
theorem dX11_darkAhead_2 : decode cX11_darkAhead 2 = .ok (.iload_n 3, 1) := by decide +kernel
theorem dX11_darkAhead_3 : decode cX11_darkAhead 3 = .ok (.bipush 9, 2) := by decide +kernel
theorem dX11_darkAhead_5 : decode cX11_darkAhead 5 = .ok (.if_icmp .ge 30, 3) := by decide +kernel
theorem dX11_darkAhead_8 : decode cX11_darkAhead 8 = .ok (.iload_n 2, 1) := by decide +kernel
theorem dX11_darkAhead_9 : decode cX11_darkAhead 9 = .ok (.iconst 1, 1) := by decide +kernel
theorem dX11_darkAhead_10 : decode cX11_darkAhead 10 = .ok (.isub, 1) := by decide +kernel
theorem dX11_darkAhead_11 : decode cX11_darkAhead 11 = .ok (.iload_n 3, 1) := by decide +kernel
theorem dX11_darkAhead_12 : decode cX11_darkAhead 12 = .ok (.isub, 1) := by decide +kernel
theorem dX11_darkAhead_13 : decode cX11_darkAhead 13 = .ok (.ifCond .lt 22, 3) := by decide +kernel
theorem dX11_darkAhead_16 : decode cX11_darkAhead 16 = .ok (.aload_n 0, 1) := by decide +kernel
theorem dX11_darkAhead_17 : decode cX11_darkAhead 17 = .ok (.iload_n 1, 1) := by decide +kernel
theorem dX11_darkAhead_18 : decode cX11_darkAhead 18 = .ok (.iload_n 2, 1) := by decide +kernel
theorem dX11_darkAhead_19 : decode cX11_darkAhead 19 = .ok (.iconst 1, 1) := by decide +kernel
theorem dX11_darkAhead_20 : decode cX11_darkAhead 20 = .ok (.isub, 1) := by decide +kernel
theorem dX11_darkAhead_21 : decode cX11_darkAhead 21 = .ok (.iload_n 3, 1) := by decide +kernel
theorem dX11_darkAhead_22 : decode cX11_darkAhead 22 = .ok (.isub, 1) := by decide +kernel
theorem dX11_darkAhead_23 : decode cX11_darkAhead 23 = .ok (.invokevirtual 159, 3) := by decide +kernel
theorem dX11_darkAhead_26 : decode cX11_darkAhead 26 = .ok (.ifCond .ne 9, 3) := by decide +kernel
theorem dX11_darkAhead_29 : decode cX11_darkAhead 29 = .ok (.iinc 3 1, 3) := by decide +kernel
theorem dX11_darkAhead_32 : decode cX11_darkAhead 32 = .ok (.goto (-30), 3) := by decide +kernel
theorem dX11_darkAhead_35 : decode cX11_darkAhead 35 = .ok (.iload_n 3, 1) := by decide +kernel
theorem dX11_darkAhead_36 : decode cX11_darkAhead 36 = .ok (.ireturn, 1) := by decide +kernel
set_option maxRecDepth 20000 in
theorem ggX11_rent_X11_isLand : GoodIn wsX11_rent wsX11_isLand := goodIn_r _ [7, 8, 9, 10, 6, 11, 41, 42, 43, 44, 45, 46, 47, 48, 49, 50, 51, 52, 53, 54, 55, 56, 57, 58, 59, 60, 61, 62, 63, 64, 65, 66, 67, 68, 69, 70, 71, 72, 73, 74, 75, 76, 77, 78, 79] (by decide +kernel) (by decide +kernel)
set_option maxRecDepth 20000 in
theorem gX11_rent_X11_isLand : GoodIn wsX11_rent (wsV RX11 129 RX11 yX11_isLand wsX11_isLand) := goodIn_app (goodIn_r _ [3, 4, 5, 6] (by decide +kernel) (by decide +kernel)) ggX11_rent_X11_isLand
set_option maxRecDepth 20000 in
theorem ggX11_rent_X11_isYear : GoodIn wsX11_rent wsX11_isYear := goodIn_r _ [14, 15, 9, 10, 6, 11] (by decide +kernel) (by decide +kernel)
set_option maxRecDepth 20000 in
theorem gX11_rent_X11_isYear : GoodIn wsX11_rent (va_wsS RX11 212 yX11_isYear wsX11_isYear) := goodIn_app (goodIn_r _ [12, 13, 6] (by decide +kernel) (by decide +kernel)) ggX11_rent_X11_isYear
set_option maxRecDepth 20000 in
theorem ggX11_rent_X11_in : GoodIn wsX11_rent wsX11_in := goodIn_r _ [11] (by decide +kernel) (by decide +kernel)
set_option maxRecDepth 20000 in
theorem gX11_rent_X11_in : GoodIn wsX11_rent (va_wsS RX11 99 yX11_in wsX11_in) := goodIn_app (goodIn_r _ [9, 10, 6] (by decide +kernel) (by decide +kernel)) ggX11_rent_X11_in
set_option maxRecDepth 20000 in
theorem ggX11_rent_X11_isCovered : GoodIn wsX11_rent wsX11_isCovered := goodIn_r _ [19, 8, 20, 21, 22, 23, 24, 6, 25, 41, 42, 43, 44, 45, 46, 47, 48, 49, 50, 51, 52, 53, 54, 55, 56, 57, 58, 59, 60, 61, 62, 63, 64, 65, 66, 67, 68, 69, 70, 71, 72, 73, 74, 75, 76, 77, 78, 79] (by decide +kernel) (by decide +kernel)
set_option maxRecDepth 20000 in
theorem gX11_rent_X11_isCovered : GoodIn wsX11_rent (wsV RX11 153 RX11 yX11_isCovered wsX11_isCovered) := goodIn_app (goodIn_r _ [16, 17, 18, 6] (by decide +kernel) (by decide +kernel)) ggX11_rent_X11_isCovered
set_option maxRecDepth 20000 in
theorem ggX11_rent_X11_isSlit : GoodIn wsX11_rent wsX11_isSlit := goodIn_r _ [29, 30, 31, 32, 41, 42, 43, 44, 45, 46, 47, 48, 49, 50, 51, 52, 53, 54, 55, 56, 57, 58, 59, 60, 61, 62, 63, 64, 65, 66, 67, 68, 69, 70, 71, 72, 73, 74, 75, 76, 77, 78, 79] (by decide +kernel) (by decide +kernel)
set_option maxRecDepth 20000 in
theorem gX11_rent_X11_isSlit : GoodIn wsX11_rent (wsV RX11 156 RX11 yX11_isSlit wsX11_isSlit) := goodIn_app (goodIn_r _ [26, 27, 28, 6] (by decide +kernel) (by decide +kernel)) ggX11_rent_X11_isSlit
set_option maxRecDepth 20000 in
theorem ggX11_rent_X11_darkAhead : GoodIn wsX11_rent wsX11_darkAhead := goodIn_r _ [36, 37, 38, 39, 6, 40, 16, 17, 18, 19, 8, 20, 21, 22, 23, 24, 25, 26, 27, 28, 29, 30, 31, 32, 41, 42, 43, 44, 45, 46, 47, 48, 49, 50, 51, 52, 53, 54, 55, 56, 57, 58, 59, 60, 61, 62, 63, 64, 65, 66, 67, 68, 69, 70, 71, 72, 73, 74, 75, 76, 77, 78, 79] (by decide +kernel) (by decide +kernel)
set_option maxRecDepth 20000 in
theorem gX11_rent_X11_darkAhead : GoodIn wsX11_rent (wsV RX11 281 RX11 yX11_darkAhead wsX11_darkAhead) := goodIn_app (goodIn_r _ [33, 34, 35, 6] (by decide +kernel) (by decide +kernel)) ggX11_rent_X11_darkAhead
theorem dX11_rent_0 : decode cX11_rent 0 = .ok (.aload_n 0, 1) := by decide +kernel
theorem dX11_rent_1 : decode cX11_rent 1 = .ok (.iload_n 1, 1) := by decide +kernel
theorem dX11_rent_2 : decode cX11_rent 2 = .ok (.invokevirtual 129, 3) := by decide +kernel
theorem dX11_rent_5 : decode cX11_rent 5 = .ok (.ifCond .ne 5, 3) := by decide +kernel
theorem dX11_rent_8 : decode cX11_rent 8 = .ok (.iconst (-1), 1) := by decide +kernel
theorem dX11_rent_9 : decode cX11_rent 9 = .ok (.ireturn, 1) := by decide +kernel
theorem dX11_rent_10 : decode cX11_rent 10 = .ok (.iload_n 2, 1) := by decide +kernel
theorem dX11_rent_11 : decode cX11_rent 11 = .ok (.invokestatic 212, 3) := by decide +kernel
theorem dX11_rent_14 : decode cX11_rent 14 = .ok (.ifCond .eq 28, 3) := by decide +kernel
theorem dX11_rent_17 : decode cX11_rent 17 = .ok (.iload_n 3, 1) := by decide +kernel
theorem dX11_rent_18 : decode cX11_rent 18 = .ok (.i2l, 1) := by decide +kernel
theorem dX11_rent_19 : decode cX11_rent 19 = .ok (.lconst 0, 1) := by decide +kernel
theorem dX11_rent_20 : decode cX11_rent 20 = .ok (.ldc2_w 217, 3) := by decide +kernel
theorem dX11_rent_23 : decode cX11_rent 23 = .ok (.invokestatic 99, 3) := by decide +kernel
theorem dX11_rent_26 : decode cX11_rent 26 = .ok (.ifCond .eq 16, 3) := by decide +kernel
theorem dX11_rent_29 : decode cX11_rent 29 = .ok (.iload 4, 2) := by decide +kernel
theorem dX11_rent_31 : decode cX11_rent 31 = .ok (.i2l, 1) := by decide +kernel
theorem dX11_rent_32 : decode cX11_rent 32 = .ok (.lconst 0, 1) := by decide +kernel
theorem dX11_rent_33 : decode cX11_rent 33 = .ok (.ldc2_w 109, 3) := by decide +kernel
theorem dX11_rent_36 : decode cX11_rent 36 = .ok (.invokestatic 99, 3) := by decide +kernel
theorem dX11_rent_39 : decode cX11_rent 39 = .ok (.ifCond .ne 6, 3) := by decide +kernel
theorem dX11_rent_42 : decode cX11_rent 42 = .ok (.bipush (-2), 2) := by decide +kernel
theorem dX11_rent_44 : decode cX11_rent 44 = .ok (.ireturn, 1) := by decide +kernel
theorem dX11_rent_45 : decode cX11_rent 45 = .ok (.iconst 0, 1) := by decide +kernel
theorem dX11_rent_46 : decode cX11_rent 46 = .ok (.istore 5, 2) := by decide +kernel
theorem dX11_rent_48 : decode cX11_rent 48 = .ok (.iload_n 2, 1) := by decide +kernel
theorem dX11_rent_49 : decode cX11_rent 49 = .ok (.istore 6, 2) := by decide +kernel
theorem dX11_rent_51 : decode cX11_rent 51 = .ok (.iload 6, 2) := by decide +kernel
theorem dX11_rent_53 : decode cX11_rent 53 = .ok (.iload_n 2, 1) := by decide +kernel
theorem dX11_rent_54 : decode cX11_rent 54 = .ok (.iload_n 3, 1) := by decide +kernel
theorem dX11_rent_55 : decode cX11_rent 55 = .ok (.iadd, 1) := by decide +kernel
theorem dX11_rent_56 : decode cX11_rent 56 = .ok (.if_icmp .ge 48, 3) := by decide +kernel
theorem dX11_rent_59 : decode cX11_rent 59 = .ok (.iload 5, 2) := by decide +kernel
theorem dX11_rent_61 : decode cX11_rent 61 = .ok (.aload_n 0, 1) := by decide +kernel
theorem dX11_rent_62 : decode cX11_rent 62 = .ok (.iload_n 1, 1) := by decide +kernel
theorem dX11_rent_63 : decode cX11_rent 63 = .ok (.iload 6, 2) := by decide +kernel
theorem dX11_rent_65 : decode cX11_rent 65 = .ok (.invokevirtual 153, 3) := by decide +kernel
theorem dX11_rent_68 : decode cX11_rent 68 = .ok (.ifCond .eq 26, 3) := by decide +kernel
theorem dX11_rent_71 : decode cX11_rent 71 = .ok (.aload_n 0, 1) := by decide +kernel
theorem dX11_rent_72 : decode cX11_rent 72 = .ok (.iload_n 1, 1) := by decide +kernel
theorem dX11_rent_73 : decode cX11_rent 73 = .ok (.iload 6, 2) := by decide +kernel
theorem dX11_rent_75 : decode cX11_rent 75 = .ok (.invokevirtual 156, 3) := by decide +kernel
theorem dX11_rent_78 : decode cX11_rent 78 = .ok (.ifCond .eq 16, 3) := by decide +kernel
theorem dX11_rent_81 : decode cX11_rent 81 = .ok (.iload 4, 2) := by decide +kernel
theorem dX11_rent_83 : decode cX11_rent 83 = .ok (.aload_n 0, 1) := by decide +kernel
theorem dX11_rent_84 : decode cX11_rent 84 = .ok (.iload_n 1, 1) := by decide +kernel
theorem dX11_rent_85 : decode cX11_rent 85 = .ok (.iload 6, 2) := by decide +kernel
theorem dX11_rent_87 : decode cX11_rent 87 = .ok (.invokevirtual 281, 3) := by decide +kernel
theorem dX11_rent_90 : decode cX11_rent 90 = .ok (.imul, 1) := by decide +kernel
theorem dX11_rent_91 : decode cX11_rent 91 = .ok (.goto 4, 3) := by decide +kernel
theorem dX11_rent_94 : decode cX11_rent 94 = .ok (.iconst 0, 1) := by decide +kernel
theorem dX11_rent_95 : decode cX11_rent 95 = .ok (.iadd, 1) := by decide +kernel
theorem dX11_rent_96 : decode cX11_rent 96 = .ok (.istore 5, 2) := by decide +kernel
theorem dX11_rent_98 : decode cX11_rent 98 = .ok (.iinc 6 1, 3) := by decide +kernel
theorem dX11_rent_101 : decode cX11_rent 101 = .ok (.goto (-50), 3) := by decide +kernel
theorem dX11_rent_104 : decode cX11_rent 104 = .ok (.iload 5, 2) := by decide +kernel
theorem dX11_rent_106 : decode cX11_rent 106 = .ok (.ireturn, 1) := by decide +kernel
set_option maxRecDepth 20000 in
theorem ggX11_age_X11_in : GoodIn wsX11_age wsX11_in := goodIn_r _ [13] (by decide +kernel) (by decide +kernel)
set_option maxRecDepth 20000 in
theorem gX11_age_X11_in : GoodIn wsX11_age (va_wsS RX11 99 yX11_in wsX11_in) := goodIn_app (goodIn_r _ [10, 11, 12] (by decide +kernel) (by decide +kernel)) ggX11_age_X11_in
set_option maxRecDepth 20000 in
theorem ggX11_age_X11_keepNow : GoodIn wsX11_age wsX11_keepNow := goodIn_r _ [17, 18, 8, 19, 20, 9, 21, 22, 23, 12, 24, 66, 67, 68, 69, 70, 71, 72, 73, 74, 75, 76, 77, 78, 79, 80, 81, 82, 83, 84, 85, 86, 87, 88, 89, 90, 91, 92, 93, 94, 95, 96, 97, 98, 99, 100, 101, 102, 103, 104] (by decide +kernel) (by decide +kernel)
set_option maxRecDepth 20000 in
theorem gX11_age_X11_keepNow : GoodIn wsX11_age (wsV RX11 197 RX11 yX11_keepNow wsX11_keepNow) := goodIn_app (goodIn_r _ [14, 15, 16, 12] (by decide +kernel) (by decide +kernel)) ggX11_age_X11_keepNow
set_option maxRecDepth 20000 in
theorem ggX11_age_X11_whyNotLend : GoodIn wsX11_age wsX11_whyNotLend := goodIn_r _ [28, 8, 22, 23, 12, 24, 66, 67, 68, 69, 70, 71, 72, 73, 74, 75, 76, 77, 78, 79, 80, 81, 82, 83, 84, 85, 86, 87, 88, 89, 90, 91, 92, 93, 94, 95, 96, 97, 98, 99, 100, 101, 102, 103, 104] (by decide +kernel) (by decide +kernel)
set_option maxRecDepth 20000 in
theorem gX11_age_X11_whyNotLend : GoodIn wsX11_age (wsV RX11 181 RX11 yX11_whyNotLend wsX11_whyNotLend) := goodIn_app (goodIn_r _ [25, 26, 27, 12] (by decide +kernel) (by decide +kernel)) ggX11_age_X11_whyNotLend
set_option maxRecDepth 20000 in
theorem ggX11_age_X11_lend : GoodIn wsX11_age wsX11_lend := goodIn_r _ [32, 8, 22, 23, 12, 24, 66, 67, 68, 69, 70, 71, 72, 73, 74, 75, 76, 77, 78, 79, 80, 81, 82, 83, 84, 85, 86, 87, 88, 89, 90, 91, 92, 93, 94, 95, 96, 97, 98, 99, 100, 101, 102, 103, 104] (by decide +kernel) (by decide +kernel)
set_option maxRecDepth 20000 in
theorem gX11_age_X11_lend : GoodIn wsX11_age (wsV RX11 185 RX11 yX11_lend wsX11_lend) := goodIn_app (goodIn_r _ [29, 30, 31, 12] (by decide +kernel) (by decide +kernel)) ggX11_age_X11_lend
set_option maxRecDepth 20000 in
theorem ggX11_age_X11_passYear : GoodIn wsX11_age wsX11_passYear := goodIn_r _ [36, 7, 19, 9, 21, 37, 38, 39, 12, 40, 41, 42, 43, 44, 45, 46, 47, 48, 49, 50, 51, 52, 53, 54, 55, 56, 57, 58, 59, 60, 61, 8, 22, 23, 24, 66, 67, 68, 69, 70, 71, 72, 73, 74, 75, 76, 77, 78, 79, 80, 81, 82, 83, 84, 85, 86, 87, 88, 89, 90, 91, 92, 93, 94, 95, 96, 97, 98, 99, 100, 101, 102, 103, 104] (by decide +kernel) (by decide +kernel)
set_option maxRecDepth 20000 in
theorem gX11_age_X11_passYear : GoodIn wsX11_age (wsV RX11 189 RX11 yX11_passYear wsX11_passYear) := goodIn_app (goodIn_r _ [33, 34, 35, 12] (by decide +kernel) (by decide +kernel)) ggX11_age_X11_passYear
set_option maxRecDepth 20000 in
theorem ggX11_age_X11_at : GoodIn wsX11_age wsX11_at := goodIn_r _ [24] (by decide +kernel) (by decide +kernel)
set_option maxRecDepth 20000 in
theorem gX11_age_X11_at : GoodIn wsX11_age (va_wsS RX11 95 yX11_at wsX11_at) := goodIn_app (goodIn_r _ [22, 23, 12] (by decide +kernel) (by decide +kernel)) ggX11_age_X11_at
set_option maxRecDepth 20000 in
theorem ggX11_age_X11_putBack : GoodIn wsX11_age wsX11_putBack := goodIn_r _ [65, 8, 18, 20, 19, 22, 23, 12, 24, 66, 67, 68, 69, 70, 71, 72, 73, 74, 75, 76, 77, 78, 79, 80, 81, 82, 83, 84, 85, 86, 87, 88, 89, 90, 91, 92, 93, 94, 95, 96, 97, 98, 99, 100, 101, 102, 103, 104] (by decide +kernel) (by decide +kernel)
set_option maxRecDepth 20000 in
theorem gX11_age_X11_putBack : GoodIn wsX11_age (wsV RX11 206 RX11 yX11_putBack wsX11_putBack) := goodIn_app (goodIn_r _ [62, 63, 64, 12] (by decide +kernel) (by decide +kernel)) ggX11_age_X11_putBack
theorem dX11_age_0 : decode cX11_age 0 = .ok (.iload_n 1, 1) := by decide +kernel
theorem dX11_age_1 : decode cX11_age 1 = .ok (.i2l, 1) := by decide +kernel
theorem dX11_age_2 : decode cX11_age 2 = .ok (.lconst 0, 1) := by decide +kernel
theorem dX11_age_3 : decode cX11_age 3 = .ok (.ldc2_w 217, 3) := by decide +kernel
theorem dX11_age_6 : decode cX11_age 6 = .ok (.invokestatic 99, 3) := by decide +kernel
theorem dX11_age_9 : decode cX11_age 9 = .ok (.ifCond .eq 27, 3) := by decide +kernel
theorem dX11_age_12 : decode cX11_age 12 = .ok (.iload_n 2, 1) := by decide +kernel
theorem dX11_age_13 : decode cX11_age 13 = .ok (.i2l, 1) := by decide +kernel
theorem dX11_age_14 : decode cX11_age 14 = .ok (.lconst 1, 1) := by decide +kernel
theorem dX11_age_15 : decode cX11_age 15 = .ok (.ldc2_w 109, 3) := by decide +kernel
theorem dX11_age_18 : decode cX11_age 18 = .ok (.invokestatic 99, 3) := by decide +kernel
theorem dX11_age_21 : decode cX11_age 21 = .ok (.ifCond .eq 15, 3) := by decide +kernel
theorem dX11_age_24 : decode cX11_age 24 = .ok (.iload_n 3, 1) := by decide +kernel
theorem dX11_age_25 : decode cX11_age 25 = .ok (.i2l, 1) := by decide +kernel
theorem dX11_age_26 : decode cX11_age 26 = .ok (.lconst 0, 1) := by decide +kernel
theorem dX11_age_27 : decode cX11_age 27 = .ok (.ldc2_w 105, 3) := by decide +kernel
theorem dX11_age_30 : decode cX11_age 30 = .ok (.invokestatic 99, 3) := by decide +kernel
theorem dX11_age_33 : decode cX11_age 33 = .ok (.ifCond .ne 6, 3) := by decide +kernel
theorem dX11_age_36 : decode cX11_age 36 = .ok (.bipush (-2), 2) := by decide +kernel
theorem dX11_age_38 : decode cX11_age 38 = .ok (.ireturn, 1) := by decide +kernel
theorem dX11_age_39 : decode cX11_age 39 = .ok (.aload_n 0, 1) := by decide +kernel
theorem dX11_age_40 : decode cX11_age 40 = .ok (.invokevirtual 197, 3) := by decide +kernel
theorem dX11_age_43 : decode cX11_age 43 = .ok (.iload_n 1, 1) := by decide +kernel
theorem dX11_age_44 : decode cX11_age 44 = .ok (.istore 4, 2) := by decide +kernel
theorem dX11_age_46 : decode cX11_age 46 = .ok (.iconst 0, 1) := by decide +kernel
theorem dX11_age_47 : decode cX11_age 47 = .ok (.istore 5, 2) := by decide +kernel
theorem dX11_age_49 : decode cX11_age 49 = .ok (.iconst 0, 1) := by decide +kernel
theorem dX11_age_50 : decode cX11_age 50 = .ok (.istore 6, 2) := by decide +kernel
theorem dX11_age_52 : decode cX11_age 52 = .ok (.iload 6, 2) := by decide +kernel
theorem dX11_age_54 : decode cX11_age 54 = .ok (.iload_n 2, 1) := by decide +kernel
theorem dX11_age_55 : decode cX11_age 55 = .ok (.if_icmp .ge 90, 3) := by decide +kernel
theorem dX11_age_58 : decode cX11_age 58 = .ok (.ldc2_w 284, 3) := by decide +kernel
theorem dX11_age_61 : decode cX11_age 61 = .ok (.iload 4, 2) := by decide +kernel
theorem dX11_age_63 : decode cX11_age 63 = .ok (.i2l, 1) := by decide +kernel
theorem dX11_age_64 : decode cX11_age 64 = .ok (.lmul, 1) := by decide +kernel
theorem dX11_age_65 : decode cX11_age 65 = .ok (.ldc2_w 286, 3) := by decide +kernel
theorem dX11_age_68 : decode cX11_age 68 = .ok (.ladd, 1) := by decide +kernel
theorem dX11_age_69 : decode cX11_age 69 = .ok (.ldc2_w 288, 3) := by decide +kernel
theorem dX11_age_72 : decode cX11_age 72 = .ok (.lrem, 1) := by decide +kernel
theorem dX11_age_73 : decode cX11_age 73 = .ok (.l2i, 1) := by decide +kernel
theorem dX11_age_74 : decode cX11_age 74 = .ok (.istore 4, 2) := by decide +kernel
theorem dX11_age_76 : decode cX11_age 76 = .ok (.iload 4, 2) := by decide +kernel
theorem dX11_age_78 : decode cX11_age 78 = .ok (.aload_n 0, 1) := by decide +kernel
theorem dX11_age_79 : decode cX11_age 79 = .ok (.getfield 83, 3) := by decide +kernel
theorem dX11_age_82 : decode cX11_age 82 = .ok (.irem, 1) := by decide +kernel
theorem dX11_age_83 : decode cX11_age 83 = .ok (.istore 7, 2) := by decide +kernel
theorem dX11_age_85 : decode cX11_age 85 = .ok (.iload 4, 2) := by decide +kernel
theorem dX11_age_87 : decode cX11_age 87 = .ok (.bipush 9, 2) := by decide +kernel
theorem dX11_age_89 : decode cX11_age 89 = .ok (.idiv, 1) := by decide +kernel
theorem dX11_age_90 : decode cX11_age 90 = .ok (.aload_n 0, 1) := by decide +kernel
theorem dX11_age_91 : decode cX11_age 91 = .ok (.getfield 83, 3) := by decide +kernel
theorem dX11_age_94 : decode cX11_age 94 = .ok (.irem, 1) := by decide +kernel
theorem dX11_age_95 : decode cX11_age 95 = .ok (.istore 8, 2) := by decide +kernel
theorem dX11_age_97 : decode cX11_age 97 = .ok (.iconst 1, 1) := by decide +kernel
theorem dX11_age_98 : decode cX11_age 98 = .ok (.iload 4, 2) := by decide +kernel
theorem dX11_age_100 : decode cX11_age 100 = .ok (.bipush 81, 2) := by decide +kernel
theorem dX11_age_102 : decode cX11_age 102 = .ok (.idiv, 1) := by decide +kernel
theorem dX11_age_103 : decode cX11_age 103 = .ok (.iconst 5, 1) := by decide +kernel
theorem dX11_age_104 : decode cX11_age 104 = .ok (.irem, 1) := by decide +kernel
theorem dX11_age_105 : decode cX11_age 105 = .ok (.iadd, 1) := by decide +kernel
theorem dX11_age_106 : decode cX11_age 106 = .ok (.istore 9, 2) := by decide +kernel
theorem dX11_age_108 : decode cX11_age 108 = .ok (.aload_n 0, 1) := by decide +kernel
theorem dX11_age_109 : decode cX11_age 109 = .ok (.iload 7, 2) := by decide +kernel
theorem dX11_age_111 : decode cX11_age 111 = .ok (.iload 8, 2) := by decide +kernel
theorem dX11_age_113 : decode cX11_age 113 = .ok (.iload 9, 2) := by decide +kernel
theorem dX11_age_115 : decode cX11_age 115 = .ok (.invokevirtual 181, 3) := by decide +kernel
theorem dX11_age_118 : decode cX11_age 118 = .ok (.ifCond .ne 16, 3) := by decide +kernel
theorem dX11_age_121 : decode cX11_age 121 = .ok (.aload_n 0, 1) := by decide +kernel
theorem dX11_age_122 : decode cX11_age 122 = .ok (.iload 7, 2) := by decide +kernel
theorem dX11_age_124 : decode cX11_age 124 = .ok (.iload 8, 2) := by decide +kernel
theorem dX11_age_126 : decode cX11_age 126 = .ok (.iload 9, 2) := by decide +kernel
theorem dX11_age_128 : decode cX11_age 128 = .ok (.invokevirtual 185, 3) := by decide +kernel
theorem dX11_age_131 : decode cX11_age 131 = .ok (.iinc 5 1, 3) := by decide +kernel
theorem dX11_age_134 : decode cX11_age 134 = .ok (.aload_n 0, 1) := by decide +kernel
theorem dX11_age_135 : decode cX11_age 135 = .ok (.invokevirtual 189, 3) := by decide +kernel
theorem dX11_age_138 : decode cX11_age 138 = .ok (.pop, 1) := by decide +kernel
theorem dX11_age_139 : decode cX11_age 139 = .ok (.iinc 6 1, 3) := by decide +kernel
theorem dX11_age_142 : decode cX11_age 142 = .ok (.goto (-90), 3) := by decide +kernel
theorem dX11_age_145 : decode cX11_age 145 = .ok (.iconst 0, 1) := by decide +kernel
theorem dX11_age_146 : decode cX11_age 146 = .ok (.istore 6, 2) := by decide +kernel
theorem dX11_age_148 : decode cX11_age 148 = .ok (.iconst 0, 1) := by decide +kernel
theorem dX11_age_149 : decode cX11_age 149 = .ok (.istore 7, 2) := by decide +kernel
theorem dX11_age_151 : decode cX11_age 151 = .ok (.iload 7, 2) := by decide +kernel
theorem dX11_age_153 : decode cX11_age 153 = .ok (.aload_n 0, 1) := by decide +kernel
theorem dX11_age_154 : decode cX11_age 154 = .ok (.getfield 83, 3) := by decide +kernel
theorem dX11_age_157 : decode cX11_age 157 = .ok (.if_icmp .ge 25, 3) := by decide +kernel
theorem dX11_age_160 : decode cX11_age 160 = .ok (.iload 6, 2) := by decide +kernel
theorem dX11_age_162 : decode cX11_age 162 = .ok (.aload_n 0, 1) := by decide +kernel
theorem dX11_age_163 : decode cX11_age 163 = .ok (.getfield 7, 3) := by decide +kernel
theorem dX11_age_166 : decode cX11_age 166 = .ok (.iconst 2, 1) := by decide +kernel
theorem dX11_age_167 : decode cX11_age 167 = .ok (.iload 7, 2) := by decide +kernel
theorem dX11_age_169 : decode cX11_age 169 = .ok (.invokestatic 95, 3) := by decide +kernel
theorem dX11_age_172 : decode cX11_age 172 = .ok (.iaload, 1) := by decide +kernel
theorem dX11_age_173 : decode cX11_age 173 = .ok (.iadd, 1) := by decide +kernel
theorem dX11_age_174 : decode cX11_age 174 = .ok (.istore 6, 2) := by decide +kernel
theorem dX11_age_176 : decode cX11_age 176 = .ok (.iinc 7 1, 3) := by decide +kernel
theorem dX11_age_179 : decode cX11_age 179 = .ok (.goto (-28), 3) := by decide +kernel
theorem dX11_age_182 : decode cX11_age 182 = .ok (.aload_n 0, 1) := by decide +kernel
theorem dX11_age_183 : decode cX11_age 183 = .ok (.invokevirtual 206, 3) := by decide +kernel
theorem dX11_age_186 : decode cX11_age 186 = .ok (.iload_n 3, 1) := by decide +kernel
theorem dX11_age_187 : decode cX11_age 187 = .ok (.ifCond .ne 10, 3) := by decide +kernel
theorem dX11_age_190 : decode cX11_age 190 = .ok (.aload_n 0, 1) := by decide +kernel
theorem dX11_age_191 : decode cX11_age 191 = .ok (.getfield 166, 3) := by decide +kernel
theorem dX11_age_194 : decode cX11_age 194 = .ok (.goto 15, 3) := by decide +kernel
theorem dX11_age_197 : decode cX11_age 197 = .ok (.iload_n 3, 1) := by decide +kernel
theorem dX11_age_198 : decode cX11_age 198 = .ok (.iconst 1, 1) := by decide +kernel
theorem dX11_age_199 : decode cX11_age 199 = .ok (.if_icmp .ne 8, 3) := by decide +kernel
theorem dX11_age_202 : decode cX11_age 202 = .ok (.iload 6, 2) := by decide +kernel
theorem dX11_age_204 : decode cX11_age 204 = .ok (.goto 5, 3) := by decide +kernel
theorem dX11_age_207 : decode cX11_age 207 = .ok (.iload 5, 2) := by decide +kernel
theorem dX11_age_209 : decode cX11_age 209 = .ok (.ireturn, 1) := by decide +kernel
theorem dX11_pass_0 : decode cX11_pass 0 = .ok (.aload_n 0, 1) := by decide +kernel
theorem dX11_pass_1 : decode cX11_pass 1 = .ok (.getfield 290, 3) := by decide +kernel
theorem dX11_pass_4 : decode cX11_pass 4 = .ok (.ifCond .eq 7, 3) := by decide +kernel
theorem dX11_pass_7 : decode cX11_pass 7 = .ok (.iload_n 1, 1) := by decide +kernel
theorem dX11_pass_8 : decode cX11_pass 8 = .ok (.goto 12, 3) := by decide +kernel
theorem dX11_pass_11 : decode cX11_pass 11 = .ok (.aload_n 0, 1) := by decide +kernel
theorem dX11_pass_12 : decode cX11_pass 12 = .ok (.getfield 62, 3) := by decide +kernel
theorem dX11_pass_15 : decode cX11_pass 15 = .ok (.aload_n 0, 1) := by decide +kernel
theorem dX11_pass_16 : decode cX11_pass 16 = .ok (.getfield 294, 3) := by decide +kernel
theorem dX11_pass_19 : decode cX11_pass 19 = .ok (.iaload, 1) := by decide +kernel
theorem dX11_pass_20 : decode cX11_pass 20 = .ok (.istore_n 2, 1) := by decide +kernel
theorem dX11_pass_21 : decode cX11_pass 21 = .ok (.aload_n 0, 1) := by decide +kernel
theorem dX11_pass_22 : decode cX11_pass 22 = .ok (.getfield 62, 3) := by decide +kernel
theorem dX11_pass_25 : decode cX11_pass 25 = .ok (.aload_n 0, 1) := by decide +kernel
theorem dX11_pass_26 : decode cX11_pass 26 = .ok (.getfield 294, 3) := by decide +kernel
theorem dX11_pass_29 : decode cX11_pass 29 = .ok (.iload_n 2, 1) := by decide +kernel
theorem dX11_pass_30 : decode cX11_pass 30 = .ok (.iastore, 1) := by decide +kernel
theorem dX11_pass_31 : decode cX11_pass 31 = .ok (.aload_n 0, 1) := by decide +kernel
theorem dX11_pass_32 : decode cX11_pass 32 = .ok (.dup, 1) := by decide +kernel
theorem dX11_pass_33 : decode cX11_pass 33 = .ok (.getfield 294, 3) := by decide +kernel
theorem dX11_pass_36 : decode cX11_pass 36 = .ok (.iconst 1, 1) := by decide +kernel
theorem dX11_pass_37 : decode cX11_pass 37 = .ok (.iadd, 1) := by decide +kernel
theorem dX11_pass_38 : decode cX11_pass 38 = .ok (.putfield 294, 3) := by decide +kernel
theorem dX11_pass_41 : decode cX11_pass 41 = .ok (.iload_n 2, 1) := by decide +kernel
theorem dX11_pass_42 : decode cX11_pass 42 = .ok (.ireturn, 1) := by decide +kernel
set_option maxRecDepth 20000 in
theorem ggX11_passAll_X11_pass : GoodIn wsX11_passAll wsX11_pass := goodIn_r _ [18, 19, 20, 21, 22, 23, 24, 25, 26, 27, 28, 29, 30, 31, 32, 33, 34, 35, 36, 37, 38, 39, 40, 41, 42, 43, 44, 45, 46, 47, 48, 49, 50, 51, 52, 53, 54, 55, 56, 57, 58, 59, 60] (by decide +kernel) (by decide +kernel)
set_option maxRecDepth 20000 in
theorem gX11_passAll_X11_pass : GoodIn wsX11_passAll (wsV RX11 297 RX11 yX11_pass wsX11_pass) := goodIn_app (goodIn_r _ [14, 15, 16, 17] (by decide +kernel) (by decide +kernel)) ggX11_passAll_X11_pass
theorem dX11_passAll_0 : decode cX11_passAll 0 = .ok (.aload_n 0, 1) := by decide +kernel
theorem dX11_passAll_1 : decode cX11_passAll 1 = .ok (.aload_n 0, 1) := by decide +kernel
theorem dX11_passAll_2 : decode cX11_passAll 2 = .ok (.aload_n 0, 1) := by decide +kernel
theorem dX11_passAll_3 : decode cX11_passAll 3 = .ok (.getfield 83, 3) := by decide +kernel
theorem dX11_passAll_6 : decode cX11_passAll 6 = .ok (.invokevirtual 297, 3) := by decide +kernel
theorem dX11_passAll_9 : decode cX11_passAll 9 = .ok (.putfield 83, 3) := by decide +kernel
theorem dX11_passAll_12 : decode cX11_passAll 12 = .ok (.aload_n 0, 1) := by decide +kernel
theorem dX11_passAll_13 : decode cX11_passAll 13 = .ok (.aload_n 0, 1) := by decide +kernel
theorem dX11_passAll_14 : decode cX11_passAll 14 = .ok (.aload_n 0, 1) := by decide +kernel
theorem dX11_passAll_15 : decode cX11_passAll 15 = .ok (.getfield 86, 3) := by decide +kernel
theorem dX11_passAll_18 : decode cX11_passAll 18 = .ok (.invokevirtual 297, 3) := by decide +kernel
theorem dX11_passAll_21 : decode cX11_passAll 21 = .ok (.putfield 86, 3) := by decide +kernel
theorem dX11_passAll_24 : decode cX11_passAll 24 = .ok (.aload_n 0, 1) := by decide +kernel
theorem dX11_passAll_25 : decode cX11_passAll 25 = .ok (.aload_n 0, 1) := by decide +kernel
theorem dX11_passAll_26 : decode cX11_passAll 26 = .ok (.aload_n 0, 1) := by decide +kernel
theorem dX11_passAll_27 : decode cX11_passAll 27 = .ok (.getfield 69, 3) := by decide +kernel
theorem dX11_passAll_30 : decode cX11_passAll 30 = .ok (.invokevirtual 297, 3) := by decide +kernel
theorem dX11_passAll_33 : decode cX11_passAll 33 = .ok (.putfield 69, 3) := by decide +kernel
theorem dX11_passAll_36 : decode cX11_passAll 36 = .ok (.aload_n 0, 1) := by decide +kernel
theorem dX11_passAll_37 : decode cX11_passAll 37 = .ok (.aload_n 0, 1) := by decide +kernel
theorem dX11_passAll_38 : decode cX11_passAll 38 = .ok (.aload_n 0, 1) := by decide +kernel
theorem dX11_passAll_39 : decode cX11_passAll 39 = .ok (.getfield 115, 3) := by decide +kernel
theorem dX11_passAll_42 : decode cX11_passAll 42 = .ok (.invokevirtual 297, 3) := by decide +kernel
theorem dX11_passAll_45 : decode cX11_passAll 45 = .ok (.putfield 115, 3) := by decide +kernel
theorem dX11_passAll_48 : decode cX11_passAll 48 = .ok (.aload_n 0, 1) := by decide +kernel
theorem dX11_passAll_49 : decode cX11_passAll 49 = .ok (.aload_n 0, 1) := by decide +kernel
theorem dX11_passAll_50 : decode cX11_passAll 50 = .ok (.aload_n 0, 1) := by decide +kernel
theorem dX11_passAll_51 : decode cX11_passAll 51 = .ok (.getfield 118, 3) := by decide +kernel
theorem dX11_passAll_54 : decode cX11_passAll 54 = .ok (.invokevirtual 297, 3) := by decide +kernel
theorem dX11_passAll_57 : decode cX11_passAll 57 = .ok (.putfield 118, 3) := by decide +kernel
theorem dX11_passAll_60 : decode cX11_passAll 60 = .ok (.aload_n 0, 1) := by decide +kernel
theorem dX11_passAll_61 : decode cX11_passAll 61 = .ok (.aload_n 0, 1) := by decide +kernel
theorem dX11_passAll_62 : decode cX11_passAll 62 = .ok (.aload_n 0, 1) := by decide +kernel
theorem dX11_passAll_63 : decode cX11_passAll 63 = .ok (.getfield 73, 3) := by decide +kernel
theorem dX11_passAll_66 : decode cX11_passAll 66 = .ok (.invokevirtual 297, 3) := by decide +kernel
theorem dX11_passAll_69 : decode cX11_passAll 69 = .ok (.putfield 73, 3) := by decide +kernel
theorem dX11_passAll_72 : decode cX11_passAll 72 = .ok (.aload_n 0, 1) := by decide +kernel
theorem dX11_passAll_73 : decode cX11_passAll 73 = .ok (.aload_n 0, 1) := by decide +kernel
theorem dX11_passAll_74 : decode cX11_passAll 74 = .ok (.aload_n 0, 1) := by decide +kernel
theorem dX11_passAll_75 : decode cX11_passAll 75 = .ok (.getfield 76, 3) := by decide +kernel
theorem dX11_passAll_78 : decode cX11_passAll 78 = .ok (.invokevirtual 297, 3) := by decide +kernel
theorem dX11_passAll_81 : decode cX11_passAll 81 = .ok (.putfield 76, 3) := by decide +kernel
theorem dX11_passAll_84 : decode cX11_passAll 84 = .ok (.aload_n 0, 1) := by decide +kernel
theorem dX11_passAll_85 : decode cX11_passAll 85 = .ok (.aload_n 0, 1) := by decide +kernel
theorem dX11_passAll_86 : decode cX11_passAll 86 = .ok (.aload_n 0, 1) := by decide +kernel
theorem dX11_passAll_87 : decode cX11_passAll 87 = .ok (.getfield 89, 3) := by decide +kernel
theorem dX11_passAll_90 : decode cX11_passAll 90 = .ok (.invokevirtual 297, 3) := by decide +kernel
theorem dX11_passAll_93 : decode cX11_passAll 93 = .ok (.putfield 89, 3) := by decide +kernel
theorem dX11_passAll_96 : decode cX11_passAll 96 = .ok (.aload_n 0, 1) := by decide +kernel
theorem dX11_passAll_97 : decode cX11_passAll 97 = .ok (.aload_n 0, 1) := by decide +kernel
theorem dX11_passAll_98 : decode cX11_passAll 98 = .ok (.aload_n 0, 1) := by decide +kernel
theorem dX11_passAll_99 : decode cX11_passAll 99 = .ok (.getfield 92, 3) := by decide +kernel
theorem dX11_passAll_102 : decode cX11_passAll 102 = .ok (.invokevirtual 297, 3) := by decide +kernel
theorem dX11_passAll_105 : decode cX11_passAll 105 = .ok (.putfield 92, 3) := by decide +kernel
theorem dX11_passAll_108 : decode cX11_passAll 108 = .ok (.iconst 0, 1) := by decide +kernel
theorem dX11_passAll_109 : decode cX11_passAll 109 = .ok (.istore_n 1, 1) := by decide +kernel
theorem dX11_passAll_110 : decode cX11_passAll 110 = .ok (.iload_n 1, 1) := by decide +kernel
theorem dX11_passAll_111 : decode cX11_passAll 111 = .ok (.bipush 36, 2) := by decide +kernel
theorem dX11_passAll_113 : decode cX11_passAll 113 = .ok (.if_icmp .ge 25, 3) := by decide +kernel
theorem dX11_passAll_116 : decode cX11_passAll 116 = .ok (.aload_n 0, 1) := by decide +kernel
theorem dX11_passAll_117 : decode cX11_passAll 117 = .ok (.getfield 7, 3) := by decide +kernel
theorem dX11_passAll_120 : decode cX11_passAll 120 = .ok (.iload_n 1, 1) := by decide +kernel
theorem dX11_passAll_121 : decode cX11_passAll 121 = .ok (.aload_n 0, 1) := by decide +kernel
theorem dX11_passAll_122 : decode cX11_passAll 122 = .ok (.aload_n 0, 1) := by decide +kernel
theorem dX11_passAll_123 : decode cX11_passAll 123 = .ok (.getfield 7, 3) := by decide +kernel
theorem dX11_passAll_126 : decode cX11_passAll 126 = .ok (.iload_n 1, 1) := by decide +kernel
theorem dX11_passAll_127 : decode cX11_passAll 127 = .ok (.iaload, 1) := by decide +kernel
theorem dX11_passAll_128 : decode cX11_passAll 128 = .ok (.invokevirtual 297, 3) := by decide +kernel
theorem dX11_passAll_131 : decode cX11_passAll 131 = .ok (.iastore, 1) := by decide +kernel
theorem dX11_passAll_132 : decode cX11_passAll 132 = .ok (.iinc 1 1, 3) := by decide +kernel
theorem dX11_passAll_135 : decode cX11_passAll 135 = .ok (.goto (-25), 3) := by decide +kernel
theorem dX11_passAll_138 : decode cX11_passAll 138 = .ok (.iconst 0, 1) := by decide +kernel
theorem dX11_passAll_139 : decode cX11_passAll 139 = .ok (.istore_n 1, 1) := by decide +kernel
theorem dX11_passAll_140 : decode cX11_passAll 140 = .ok (.iload_n 1, 1) := by decide +kernel
theorem dX11_passAll_141 : decode cX11_passAll 141 = .ok (.bipush 8, 2) := by decide +kernel
theorem dX11_passAll_143 : decode cX11_passAll 143 = .ok (.if_icmp .ge 57, 3) := by decide +kernel
theorem dX11_passAll_146 : decode cX11_passAll 146 = .ok (.aload_n 0, 1) := by decide +kernel
theorem dX11_passAll_147 : decode cX11_passAll 147 = .ok (.getfield 13, 3) := by decide +kernel
theorem dX11_passAll_150 : decode cX11_passAll 150 = .ok (.iload_n 1, 1) := by decide +kernel
theorem dX11_passAll_151 : decode cX11_passAll 151 = .ok (.aload_n 0, 1) := by decide +kernel
theorem dX11_passAll_152 : decode cX11_passAll 152 = .ok (.aload_n 0, 1) := by decide +kernel
theorem dX11_passAll_153 : decode cX11_passAll 153 = .ok (.getfield 13, 3) := by decide +kernel
theorem dX11_passAll_156 : decode cX11_passAll 156 = .ok (.iload_n 1, 1) := by decide +kernel
theorem dX11_passAll_157 : decode cX11_passAll 157 = .ok (.iaload, 1) := by decide +kernel
theorem dX11_passAll_158 : decode cX11_passAll 158 = .ok (.invokevirtual 297, 3) := by decide +kernel
theorem dX11_passAll_161 : decode cX11_passAll 161 = .ok (.iastore, 1) := by decide +kernel
theorem dX11_passAll_162 : decode cX11_passAll 162 = .ok (.aload_n 0, 1) := by decide +kernel
theorem dX11_passAll_163 : decode cX11_passAll 163 = .ok (.getfield 16, 3) := by decide +kernel
theorem dX11_passAll_166 : decode cX11_passAll 166 = .ok (.iload_n 1, 1) := by decide +kernel
theorem dX11_passAll_167 : decode cX11_passAll 167 = .ok (.aload_n 0, 1) := by decide +kernel
theorem dX11_passAll_168 : decode cX11_passAll 168 = .ok (.aload_n 0, 1) := by decide +kernel
theorem dX11_passAll_169 : decode cX11_passAll 169 = .ok (.getfield 16, 3) := by decide +kernel
theorem dX11_passAll_172 : decode cX11_passAll 172 = .ok (.iload_n 1, 1) := by decide +kernel
theorem dX11_passAll_173 : decode cX11_passAll 173 = .ok (.iaload, 1) := by decide +kernel
theorem dX11_passAll_174 : decode cX11_passAll 174 = .ok (.invokevirtual 297, 3) := by decide +kernel
theorem dX11_passAll_177 : decode cX11_passAll 177 = .ok (.iastore, 1) := by decide +kernel
theorem dX11_passAll_178 : decode cX11_passAll 178 = .ok (.aload_n 0, 1) := by decide +kernel
theorem dX11_passAll_179 : decode cX11_passAll 179 = .ok (.getfield 19, 3) := by decide +kernel
theorem dX11_passAll_182 : decode cX11_passAll 182 = .ok (.iload_n 1, 1) := by decide +kernel
theorem dX11_passAll_183 : decode cX11_passAll 183 = .ok (.aload_n 0, 1) := by decide +kernel
theorem dX11_passAll_184 : decode cX11_passAll 184 = .ok (.aload_n 0, 1) := by decide +kernel
theorem dX11_passAll_185 : decode cX11_passAll 185 = .ok (.getfield 19, 3) := by decide +kernel
theorem dX11_passAll_188 : decode cX11_passAll 188 = .ok (.iload_n 1, 1) := by decide +kernel
theorem dX11_passAll_189 : decode cX11_passAll 189 = .ok (.iaload, 1) := by decide +kernel
theorem dX11_passAll_190 : decode cX11_passAll 190 = .ok (.invokevirtual 297, 3) := by decide +kernel
theorem dX11_passAll_193 : decode cX11_passAll 193 = .ok (.iastore, 1) := by decide +kernel
theorem dX11_passAll_194 : decode cX11_passAll 194 = .ok (.iinc 1 1, 3) := by decide +kernel
theorem dX11_passAll_197 : decode cX11_passAll 197 = .ok (.goto (-57), 3) := by decide +kernel
theorem dX11_passAll_200 : decode cX11_passAll 200 = .ok (.return_, 1) := by decide +kernel
set_option maxRecDepth 20000 in
theorem ggX11_image_X11_in : GoodIn wsX11_image wsX11_in := goodIn_r _ [7] (by decide +kernel) (by decide +kernel)
set_option maxRecDepth 20000 in
theorem gX11_image_X11_in : GoodIn wsX11_image (va_wsS RX11 99 yX11_in wsX11_in) := goodIn_app (goodIn_r _ [4, 5, 6] (by decide +kernel) (by decide +kernel)) ggX11_image_X11_in
set_option maxRecDepth 20000 in
theorem ggX11_image_X11_passAll : GoodIn wsX11_image wsX11_passAll := goodIn_r _ [11, 12, 13, 14, 15, 16, 17, 18, 19, 20, 21, 22, 23, 24, 25, 26, 27, 6, 28, 2, 29, 1, 30, 31, 32, 33, 34, 35, 36, 37, 38, 39, 40, 41, 42, 43, 44, 45, 46, 47, 48, 49, 50, 51, 52, 53, 54, 55, 56, 57, 58, 59, 60, 61, 62, 63, 64, 65, 66, 67, 68] (by decide +kernel) (by decide +kernel)
set_option maxRecDepth 20000 in
theorem gX11_image_X11_passAll : GoodIn wsX11_image (wsV RX11 300 RX11 yX11_passAll wsX11_passAll) := goodIn_app (goodIn_r _ [8, 9, 10, 6] (by decide +kernel) (by decide +kernel)) ggX11_image_X11_passAll
theorem dX11_image_0 : decode cX11_image 0 = .ok (.iload_n 1, 1) := by decide +kernel
theorem dX11_image_1 : decode cX11_image 1 = .ok (.i2l, 1) := by decide +kernel
theorem dX11_image_2 : decode cX11_image 2 = .ok (.lconst 0, 1) := by decide +kernel
theorem dX11_image_3 : decode cX11_image 3 = .ok (.lconst 1, 1) := by decide +kernel
theorem dX11_image_4 : decode cX11_image 4 = .ok (.invokestatic 99, 3) := by decide +kernel
theorem dX11_image_7 : decode cX11_image 7 = .ok (.ifCond .ne 6, 3) := by decide +kernel
theorem dX11_image_10 : decode cX11_image 10 = .ok (.bipush (-2), 2) := by decide +kernel
theorem dX11_image_12 : decode cX11_image 12 = .ok (.ireturn, 1) := by decide +kernel
theorem dX11_image_13 : decode cX11_image 13 = .ok (.aload_n 0, 1) := by decide +kernel
theorem dX11_image_14 : decode cX11_image 14 = .ok (.bipush 80, 2) := by decide +kernel
theorem dX11_image_16 : decode cX11_image 16 = .ok (.iload_n 1, 1) := by decide +kernel
theorem dX11_image_17 : decode cX11_image 17 = .ok (.imul, 1) := by decide +kernel
theorem dX11_image_18 : decode cX11_image 18 = .ok (.putfield 294, 3) := by decide +kernel
theorem dX11_image_21 : decode cX11_image 21 = .ok (.aload_n 0, 1) := by decide +kernel
theorem dX11_image_22 : decode cX11_image 22 = .ok (.iconst 1, 1) := by decide +kernel
theorem dX11_image_23 : decode cX11_image 23 = .ok (.putfield 290, 3) := by decide +kernel
theorem dX11_image_26 : decode cX11_image 26 = .ok (.aload_n 0, 1) := by decide +kernel
theorem dX11_image_27 : decode cX11_image 27 = .ok (.invokevirtual 300, 3) := by decide +kernel
theorem dX11_image_30 : decode cX11_image 30 = .ok (.aload_n 0, 1) := by decide +kernel
theorem dX11_image_31 : decode cX11_image 31 = .ok (.getfield 65, 3) := by decide +kernel
theorem dX11_image_34 : decode cX11_image 34 = .ok (.iload_n 1, 1) := by decide +kernel
theorem dX11_image_35 : decode cX11_image 35 = .ok (.iconst 1, 1) := by decide +kernel
theorem dX11_image_36 : decode cX11_image 36 = .ok (.bastore, 1) := by decide +kernel
theorem dX11_image_37 : decode cX11_image 37 = .ok (.iconst 1, 1) := by decide +kernel
theorem dX11_image_38 : decode cX11_image 38 = .ok (.ireturn, 1) := by decide +kernel
set_option maxRecDepth 20000 in
theorem ggX11_restore_X11_in : GoodIn wsX11_restore wsX11_in := goodIn_r _ [7] (by decide +kernel) (by decide +kernel)
set_option maxRecDepth 20000 in
theorem gX11_restore_X11_in : GoodIn wsX11_restore (va_wsS RX11 99 yX11_in wsX11_in) := goodIn_app (goodIn_r _ [4, 5, 6] (by decide +kernel) (by decide +kernel)) ggX11_restore_X11_in
set_option maxRecDepth 20000 in
theorem ggX11_restore_X11_passAll : GoodIn wsX11_restore wsX11_passAll := goodIn_r _ [11, 12, 13, 14, 15, 16, 17, 18, 19, 20, 21, 22, 23, 24, 25, 26, 27, 6, 28, 3, 29, 2, 30, 31, 32, 33, 34, 35, 36, 37, 38, 39, 40, 41, 42, 43, 44, 45, 46, 47, 48, 49, 50, 51, 52, 53, 54, 55, 56, 57, 58, 59, 60, 61, 62, 63, 64, 65, 66, 67, 68] (by decide +kernel) (by decide +kernel)
set_option maxRecDepth 20000 in
theorem gX11_restore_X11_passAll : GoodIn wsX11_restore (wsV RX11 300 RX11 yX11_passAll wsX11_passAll) := goodIn_app (goodIn_r _ [8, 9, 10, 6] (by decide +kernel) (by decide +kernel)) ggX11_restore_X11_passAll
theorem dX11_restore_0 : decode cX11_restore 0 = .ok (.iload_n 1, 1) := by decide +kernel
theorem dX11_restore_1 : decode cX11_restore 1 = .ok (.i2l, 1) := by decide +kernel
theorem dX11_restore_2 : decode cX11_restore 2 = .ok (.lconst 0, 1) := by decide +kernel
theorem dX11_restore_3 : decode cX11_restore 3 = .ok (.lconst 1, 1) := by decide +kernel
theorem dX11_restore_4 : decode cX11_restore 4 = .ok (.invokestatic 99, 3) := by decide +kernel
theorem dX11_restore_7 : decode cX11_restore 7 = .ok (.ifCond .ne 6, 3) := by decide +kernel
theorem dX11_restore_10 : decode cX11_restore 10 = .ok (.bipush (-2), 2) := by decide +kernel
theorem dX11_restore_12 : decode cX11_restore 12 = .ok (.ireturn, 1) := by decide +kernel
theorem dX11_restore_13 : decode cX11_restore 13 = .ok (.aload_n 0, 1) := by decide +kernel
theorem dX11_restore_14 : decode cX11_restore 14 = .ok (.getfield 65, 3) := by decide +kernel
theorem dX11_restore_17 : decode cX11_restore 17 = .ok (.iload_n 1, 1) := by decide +kernel
theorem dX11_restore_18 : decode cX11_restore 18 = .ok (.baload, 1) := by decide +kernel
theorem dX11_restore_19 : decode cX11_restore 19 = .ok (.ifCond .ne 6, 3) := by decide +kernel
theorem dX11_restore_22 : decode cX11_restore 22 = .ok (.bipush (-3), 2) := by decide +kernel
theorem dX11_restore_24 : decode cX11_restore 24 = .ok (.ireturn, 1) := by decide +kernel
theorem dX11_restore_25 : decode cX11_restore 25 = .ok (.aload_n 0, 1) := by decide +kernel
theorem dX11_restore_26 : decode cX11_restore 26 = .ok (.bipush 80, 2) := by decide +kernel
theorem dX11_restore_28 : decode cX11_restore 28 = .ok (.iload_n 1, 1) := by decide +kernel
theorem dX11_restore_29 : decode cX11_restore 29 = .ok (.imul, 1) := by decide +kernel
theorem dX11_restore_30 : decode cX11_restore 30 = .ok (.putfield 294, 3) := by decide +kernel
theorem dX11_restore_33 : decode cX11_restore 33 = .ok (.aload_n 0, 1) := by decide +kernel
theorem dX11_restore_34 : decode cX11_restore 34 = .ok (.iconst 0, 1) := by decide +kernel
theorem dX11_restore_35 : decode cX11_restore 35 = .ok (.putfield 290, 3) := by decide +kernel
theorem dX11_restore_38 : decode cX11_restore 38 = .ok (.aload_n 0, 1) := by decide +kernel
theorem dX11_restore_39 : decode cX11_restore 39 = .ok (.invokevirtual 300, 3) := by decide +kernel
theorem dX11_restore_42 : decode cX11_restore 42 = .ok (.iconst 1, 1) := by decide +kernel
theorem dX11_restore_43 : decode cX11_restore 43 = .ok (.ireturn, 1) := by decide +kernel
set_option maxRecDepth 20000 in
theorem ggX11_told_X11_in : GoodIn wsX11_told wsX11_in := goodIn_r _ [14] (by decide +kernel) (by decide +kernel)
set_option maxRecDepth 20000 in
theorem gX11_told_X11_in : GoodIn wsX11_told (va_wsS RX11 99 yX11_in wsX11_in) := goodIn_app (goodIn_r _ [11, 12, 13] (by decide +kernel) (by decide +kernel)) ggX11_told_X11_in
set_option maxRecDepth 20000 in
theorem ggX11_told_X11_isLand : GoodIn wsX11_told wsX11_isLand := goodIn_r _ [18, 5, 11, 12, 13, 14, 31, 32, 33, 34, 35, 36, 37, 38, 39, 40, 41, 42, 43, 44, 45, 46, 47, 48, 49, 50, 51, 52, 53, 54, 55, 56, 57, 58, 59, 60, 61, 62, 63, 64, 65, 66, 67, 68, 69] (by decide +kernel) (by decide +kernel)
set_option maxRecDepth 20000 in
theorem gX11_told_X11_isLand : GoodIn wsX11_told (wsV RX11 129 RX11 yX11_isLand wsX11_isLand) := goodIn_app (goodIn_r _ [15, 16, 17, 13] (by decide +kernel) (by decide +kernel)) ggX11_told_X11_isLand
set_option maxRecDepth 20000 in
theorem ggX11_told_X11_at : GoodIn wsX11_told wsX11_at := goodIn_r _ [21] (by decide +kernel) (by decide +kernel)
set_option maxRecDepth 20000 in
theorem gX11_told_X11_at : GoodIn wsX11_told (va_wsS RX11 95 yX11_at wsX11_at) := goodIn_app (goodIn_r _ [19, 20, 13] (by decide +kernel) (by decide +kernel)) ggX11_told_X11_at
set_option maxRecDepth 20000 in
theorem ggX11_told_X11_setting : GoodIn wsX11_told wsX11_setting := goodIn_r _ [25, 26, 27, 28, 29, 30, 31, 32, 33, 34, 35, 36, 37, 38, 39, 40, 41, 42, 43, 44, 45, 46, 47, 48, 49, 50, 51, 52, 53, 54, 55, 56, 57, 58, 59, 60, 61, 62, 63, 64, 65, 66, 67, 68, 69] (by decide +kernel) (by decide +kernel)
set_option maxRecDepth 20000 in
theorem gX11_told_X11_setting : GoodIn wsX11_told (wsV RX11 125 RX11 yX11_setting wsX11_setting) := goodIn_app (goodIn_r _ [22, 23, 24, 13] (by decide +kernel) (by decide +kernel)) ggX11_told_X11_setting
theorem dX11_told_0 : decode cX11_told 0 = .ok (.iload_n 1, 1) := by decide +kernel
theorem dX11_told_1 : decode cX11_told 1 = .ok (.i2l, 1) := by decide +kernel
theorem dX11_told_2 : decode cX11_told 2 = .ok (.ldc2_w 273, 3) := by decide +kernel
theorem dX11_told_5 : decode cX11_told 5 = .ok (.ldc2_w 109, 3) := by decide +kernel
theorem dX11_told_8 : decode cX11_told 8 = .ok (.invokestatic 99, 3) := by decide +kernel
theorem dX11_told_11 : decode cX11_told 11 = .ok (.ifCond .eq 45, 3) := by decide +kernel
theorem dX11_told_14 : decode cX11_told 14 = .ok (.iload_n 1, 1) := by decide +kernel
theorem dX11_told_15 : decode cX11_told 15 = .ok (.bipush 10, 2) := by decide +kernel
theorem dX11_told_17 : decode cX11_told 17 = .ok (.idiv, 1) := by decide +kernel
theorem dX11_told_18 : decode cX11_told 18 = .ok (.iconst 1, 1) := by decide +kernel
theorem dX11_told_19 : decode cX11_told 19 = .ok (.isub, 1) := by decide +kernel
theorem dX11_told_20 : decode cX11_told 20 = .ok (.istore_n 2, 1) := by decide +kernel
theorem dX11_told_21 : decode cX11_told 21 = .ok (.aload_n 0, 1) := by decide +kernel
theorem dX11_told_22 : decode cX11_told 22 = .ok (.iload_n 2, 1) := by decide +kernel
theorem dX11_told_23 : decode cX11_told 23 = .ok (.invokevirtual 129, 3) := by decide +kernel
theorem dX11_told_26 : decode cX11_told 26 = .ok (.ifCond .eq 27, 3) := by decide +kernel
theorem dX11_told_29 : decode cX11_told 29 = .ok (.iload_n 1, 1) := by decide +kernel
theorem dX11_told_30 : decode cX11_told 30 = .ok (.bipush 10, 2) := by decide +kernel
theorem dX11_told_32 : decode cX11_told 32 = .ok (.irem, 1) := by decide +kernel
theorem dX11_told_33 : decode cX11_told 33 = .ok (.iconst 4, 1) := by decide +kernel
theorem dX11_told_34 : decode cX11_told 34 = .ok (.if_icmp .ge 19, 3) := by decide +kernel
theorem dX11_told_37 : decode cX11_told 37 = .ok (.aload_n 0, 1) := by decide +kernel
theorem dX11_told_38 : decode cX11_told 38 = .ok (.getfield 7, 3) := by decide +kernel
theorem dX11_told_41 : decode cX11_told 41 = .ok (.iload_n 1, 1) := by decide +kernel
theorem dX11_told_42 : decode cX11_told 42 = .ok (.bipush 10, 2) := by decide +kernel
theorem dX11_told_44 : decode cX11_told 44 = .ok (.irem, 1) := by decide +kernel
theorem dX11_told_45 : decode cX11_told 45 = .ok (.iload_n 2, 1) := by decide +kernel
theorem dX11_told_46 : decode cX11_told 46 = .ok (.invokestatic 95, 3) := by decide +kernel
theorem dX11_told_49 : decode cX11_told 49 = .ok (.iaload, 1) := by decide +kernel
theorem dX11_told_50 : decode cX11_told 50 = .ok (.goto 5, 3) := by decide +kernel
theorem dX11_told_53 : decode cX11_told 53 = .ok (.bipush (-2), 2) := by decide +kernel
theorem dX11_told_55 : decode cX11_told 55 = .ok (.ireturn, 1) := by decide +kernel
theorem dX11_told_56 : decode cX11_told 56 = .ok (.iload_n 1, 1) := by decide +kernel
theorem dX11_told_57 : decode cX11_told 57 = .ok (.tableswitch 80 0 9 #[55, 60, 65, 80, 80, 80, 80, 80, 70, 75], 55) := by decide +kernel
theorem dX11_told_112 : decode cX11_told 112 = .ok (.aload_n 0, 1) := by decide +kernel
theorem dX11_told_113 : decode cX11_told 113 = .ok (.getfield 139, 3) := by decide +kernel
theorem dX11_told_116 : decode cX11_told 116 = .ok (.ireturn, 1) := by decide +kernel
theorem dX11_told_117 : decode cX11_told 117 = .ok (.aload_n 0, 1) := by decide +kernel
theorem dX11_told_118 : decode cX11_told 118 = .ok (.getfield 83, 3) := by decide +kernel
theorem dX11_told_121 : decode cX11_told 121 = .ok (.ireturn, 1) := by decide +kernel
theorem dX11_told_122 : decode cX11_told 122 = .ok (.aload_n 0, 1) := by decide +kernel
theorem dX11_told_123 : decode cX11_told 123 = .ok (.getfield 86, 3) := by decide +kernel
theorem dX11_told_126 : decode cX11_told 126 = .ok (.ireturn, 1) := by decide +kernel
theorem dX11_told_127 : decode cX11_told 127 = .ok (.aload_n 0, 1) := by decide +kernel
theorem dX11_told_128 : decode cX11_told 128 = .ok (.getfield 89, 3) := by decide +kernel
theorem dX11_told_131 : decode cX11_told 131 = .ok (.ireturn, 1) := by decide +kernel
theorem dX11_told_132 : decode cX11_told 132 = .ok (.aload_n 0, 1) := by decide +kernel
theorem dX11_told_133 : decode cX11_told 133 = .ok (.getfield 92, 3) := by decide +kernel
theorem dX11_told_136 : decode cX11_told 136 = .ok (.ireturn, 1) := by decide +kernel
theorem dX11_told_137 : decode cX11_told 137 = .ok (.iload_n 1, 1) := by decide +kernel
theorem dX11_told_138 : decode cX11_told 138 = .ok (.i2l, 1) := by decide +kernel
theorem dX11_told_139 : decode cX11_told 139 = .ok (.ldc2_w 133, 3) := by decide +kernel
theorem dX11_told_142 : decode cX11_told 142 = .ok (.ldc2_w 303, 3) := by decide +kernel
theorem dX11_told_145 : decode cX11_told 145 = .ok (.invokestatic 99, 3) := by decide +kernel
theorem dX11_told_148 : decode cX11_told 148 = .ok (.ifCond .eq 13, 3) := by decide +kernel
theorem dX11_told_151 : decode cX11_told 151 = .ok (.aload_n 0, 1) := by decide +kernel
theorem dX11_told_152 : decode cX11_told 152 = .ok (.iload_n 1, 1) := by decide +kernel
theorem dX11_told_153 : decode cX11_told 153 = .ok (.iconst 3, 1) := by decide +kernel
theorem dX11_told_154 : decode cX11_told 154 = .ok (.isub, 1) := by decide +kernel
theorem dX11_told_155 : decode cX11_told 155 = .ok (.invokevirtual 125, 3) := by decide +kernel
theorem dX11_told_158 : decode cX11_told 158 = .ok (.goto 5, 3) := by decide +kernel
theorem dX11_told_161 : decode cX11_told 161 = .ok (.bipush (-2), 2) := by decide +kernel
theorem dX11_told_163 : decode cX11_told 163 = .ok (.ireturn, 1) := by decide +kernel
theorem dJ9_abs_0f7a4_0 : decode cJ9_abs_0f7a4 0 = .ok (.iload_n 0, 1) := by decide +kernel
theorem dJ9_abs_0f7a4_1 : decode cJ9_abs_0f7a4 1 = .ok (.ifCond .ge 8, 3) := by decide +kernel
theorem dJ9_abs_0f7a4_4 : decode cJ9_abs_0f7a4 4 = .ok (.iload_n 0, 1) := by decide +kernel
theorem dJ9_abs_0f7a4_5 : decode cJ9_abs_0f7a4 5 = .ok (.ineg, 1) := by decide +kernel
theorem dJ9_abs_0f7a4_6 : decode cJ9_abs_0f7a4 6 = .ok (.goto 4, 3) := by decide +kernel
theorem dJ9_abs_0f7a4_9 : decode cJ9_abs_0f7a4 9 = .ok (.iload_n 0, 1) := by decide +kernel
theorem dJ9_abs_0f7a4_10 : decode cJ9_abs_0f7a4 10 = .ok (.ireturn, 1) := by decide +kernel
theorem dJ9_max_7cf53_0 : decode cJ9_max_7cf53 0 = .ok (.iload_n 0, 1) := by decide +kernel
theorem dJ9_max_7cf53_1 : decode cJ9_max_7cf53 1 = .ok (.iload_n 1, 1) := by decide +kernel
theorem dJ9_max_7cf53_2 : decode cJ9_max_7cf53 2 = .ok (.if_icmp .lt 7, 3) := by decide +kernel
theorem dJ9_max_7cf53_5 : decode cJ9_max_7cf53 5 = .ok (.iload_n 0, 1) := by decide +kernel
theorem dJ9_max_7cf53_6 : decode cJ9_max_7cf53 6 = .ok (.goto 4, 3) := by decide +kernel
theorem dJ9_max_7cf53_9 : decode cJ9_max_7cf53 9 = .ok (.iload_n 1, 1) := by decide +kernel
theorem dJ9_max_7cf53_10 : decode cJ9_max_7cf53 10 = .ok (.ireturn, 1) := by decide +kernel
theorem dJ9_min_7cf53_0 : decode cJ9_min_7cf53 0 = .ok (.iload_n 0, 1) := by decide +kernel
theorem dJ9_min_7cf53_1 : decode cJ9_min_7cf53 1 = .ok (.iload_n 1, 1) := by decide +kernel
theorem dJ9_min_7cf53_2 : decode cJ9_min_7cf53 2 = .ok (.if_icmp .gt 7, 3) := by decide +kernel
theorem dJ9_min_7cf53_5 : decode cJ9_min_7cf53 5 = .ok (.iload_n 0, 1) := by decide +kernel
theorem dJ9_min_7cf53_6 : decode cJ9_min_7cf53 6 = .ok (.goto 4, 3) := by decide +kernel
theorem dJ9_min_7cf53_9 : decode cJ9_min_7cf53 9 = .ok (.iload_n 1, 1) := by decide +kernel
theorem dJ9_min_7cf53_10 : decode cJ9_min_7cf53 10 = .ok (.ireturn, 1) := by decide +kernel
set_option maxRecDepth 20000 in
theorem ggL_law_X10_init : GoodIn wsL_law wsX10_init := goodIn_r _ [8, 9, 10, 11, 12, 13, 14, 15, 16, 17, 18, 19, 20, 21, 22, 23, 24, 25, 26, 27, 28, 29, 30, 31, 32, 33, 34, 35, 36, 37, 38, 39, 40, 41, 42, 43, 44, 45, 46, 47, 48, 49, 50, 51, 52, 53, 54, 55, 56, 57, 58, 59, 60, 61, 62, 63, 64, 65, 66, 67, 68, 69, 70, 71, 72, 73, 74, 75, 76, 77, 78, 79, 80, 81, 82, 83, 84, 85, 86, 87, 88, 89, 90, 91, 92, 93, 94, 95, 96, 97, 98, 99, 100, 101, 102, 103, 104, 105, 106, 107, 108, 109, 110, 111, 112, 113, 114, 115, 116, 117, 118, 119, 120, 121, 122, 123, 124, 125, 126, 127, 128, 129, 1019, 1020, 1021, 1022, 972, 973, 974, 975, 976, 977, 978, 979, 1023, 1024, 1025, 1026, 1027, 1028, 1029, 1030, 1031, 1032, 1033, 1034, 1035, 1036, 1037, 1038, 1039, 1040, 1041, 1042, 1043, 1044, 1045, 1046, 1047, 1048, 1049, 1050, 1051, 1052, 1053, 1054, 1055, 1056, 1057, 1058] (by decide +kernel) (by decide +kernel)
set_option maxRecDepth 20000 in
theorem gL_law_X10_init : GoodIn wsL_law (wsX10_init) := ggL_law_X10_init
set_option maxRecDepth 20000 in
theorem ggL_law_X11_init : GoodIn wsL_law wsX11_init := goodIn_r _ [132, 133, 10, 11, 71, 134, 135, 136, 137, 138, 139, 140, 141, 142, 143, 144, 145, 146, 147, 108, 148, 149, 150, 151, 152, 153, 154, 155, 156, 157, 158, 159, 5, 160, 161, 162, 163, 164, 165, 166, 167, 980, 981, 982, 983, 984, 985, 986, 987, 988, 989, 990, 991, 992, 993, 994, 995, 996, 997, 998, 999, 1000, 1001, 1002, 1003, 1004, 1005, 1006, 1007, 1008, 1009, 1010, 1011, 1012, 1013, 1014, 1015, 1016, 1017, 1018] (by decide +kernel) (by decide +kernel)
set_option maxRecDepth 20000 in
theorem gL_law_X11_init : GoodIn wsL_law (wsX11_init) := ggL_law_X11_init
set_option maxRecDepth 20000 in
theorem ggL_law_X10_lands : GoodIn wsL_law wsX10_lands := goodIn_r _ [171, 15, 172, 173, 174, 175, 176, 177, 178, 179, 180, 2, 181, 182, 74, 75, 51, 76, 77, 78, 79, 80, 72, 972, 973, 974, 975, 976, 977, 978, 979, 1019, 1020, 1021, 1022, 1047, 1048, 1049, 1050, 1051, 1052, 1053, 1055, 1056, 1057, 1058, 1054] (by decide +kernel) (by decide +kernel)
set_option maxRecDepth 20000 in
theorem gL_law_X10_lands : GoodIn wsL_law (wsV RL 13 RX10 yX10_lands wsX10_lands) := goodIn_app (goodIn_r _ [168, 169, 170, 2] (by decide +kernel) (by decide +kernel)) ggL_law_X10_lands
set_option maxRecDepth 20000 in
theorem ggL_law_X11_lands : GoodIn wsL_law wsX11_lands := goodIn_r _ [186, 187, 188, 161, 189, 190, 5, 191, 157, 158, 159, 160, 162, 163, 164, 134, 165, 166, 167, 980, 981, 982, 983, 984, 985, 986, 987, 988, 989, 990, 991, 992, 993, 994, 995, 996, 997, 998, 999, 1000, 1001, 1002, 1003, 1004, 1005, 1006, 1007, 1008, 1009, 1010, 1011, 1012, 1013, 1014, 1015, 1016, 1017, 1018] (by decide +kernel) (by decide +kernel)
set_option maxRecDepth 20000 in
theorem gL_law_X11_lands : GoodIn wsL_law (wsV RL 17 RX11 yX11_lands wsX11_lands) := goodIn_app (goodIn_r _ [183, 184, 185, 5] (by decide +kernel) (by decide +kernel)) ggL_law_X11_lands
set_option maxRecDepth 20000 in
theorem ggL_law_X10_set : GoodIn wsL_law wsX10_set := goodIn_r _ [195, 15, 172, 196, 197, 2, 198, 179, 180, 181, 199, 200, 201, 47, 202, 62, 63, 64, 65, 66, 203, 204, 205, 206, 972, 973, 974, 975, 976, 977, 978, 979, 1019, 1020, 1021, 1022, 1047, 1048, 1049, 1050, 1051, 1052, 1053] (by decide +kernel) (by decide +kernel)
set_option maxRecDepth 20000 in
theorem gL_law_X10_set : GoodIn wsL_law (wsV RL 18 RX10 yX10_set wsX10_set) := goodIn_app (goodIn_r _ [192, 193, 194, 2] (by decide +kernel) (by decide +kernel)) ggL_law_X10_set
set_option maxRecDepth 20000 in
theorem ggL_law_X11_set : GoodIn wsL_law wsX11_set := goodIn_r _ [210, 154, 211, 212, 155, 156, 213, 214, 215, 5, 216, 188, 217, 187, 218, 219, 189, 190, 191, 220, 221, 222, 223, 980, 981, 982, 983, 984, 985, 986, 987, 988, 989, 990, 991, 992, 993, 994, 995, 996, 997, 998, 999, 1000, 1001, 1002, 1003, 1004, 1005, 1006, 1007, 1008, 1009, 1010, 1011, 1012, 1013, 1014, 1015, 1016, 1017, 1018] (by decide +kernel) (by decide +kernel)
set_option maxRecDepth 20000 in
theorem gL_law_X11_set : GoodIn wsL_law (wsV RL 21 RX11 yX11_set wsX11_set) := goodIn_app (goodIn_r _ [207, 208, 209, 5] (by decide +kernel) (by decide +kernel)) ggL_law_X11_set
set_option maxRecDepth 20000 in
theorem ggL_law_X10_land : GoodIn wsL_law wsX10_land := goodIn_r _ [227, 15, 175, 228, 229, 230, 231, 232, 233, 234, 2, 235, 172, 173, 179, 180, 181, 236, 237, 238, 51, 239, 72, 240, 78, 79, 80, 972, 973, 974, 975, 976, 977, 978, 979, 1019, 1020, 1021, 1022, 1047, 1048, 1049, 1050, 1051, 1052, 1053, 1054] (by decide +kernel) (by decide +kernel)
set_option maxRecDepth 20000 in
theorem gL_law_X10_land : GoodIn wsL_law (wsV RL 22 RX10 yX10_land wsX10_land) := goodIn_app (goodIn_r _ [224, 225, 226, 2] (by decide +kernel) (by decide +kernel)) ggL_law_X10_land
set_option maxRecDepth 20000 in
theorem ggL_law_X11_land : GoodIn wsL_law wsX11_land := goodIn_r _ [244, 245, 218, 217, 134, 246, 247, 248, 5, 249, 161, 189, 190, 191, 165, 166, 167, 980, 981, 982, 983, 984, 985, 986, 987, 988, 989, 990, 991, 992, 993, 994, 995, 996, 997, 998, 999, 1000, 1001, 1002, 1003, 1004, 1005, 1006, 1007, 1008, 1009, 1010, 1011, 1012, 1013, 1014, 1015, 1016, 1017, 1018] (by decide +kernel) (by decide +kernel)
set_option maxRecDepth 20000 in
theorem gL_law_X11_land : GoodIn wsL_law (wsV RL 26 RX11 yX11_land wsX11_land) := goodIn_app (goodIn_r _ [241, 242, 243, 5] (by decide +kernel) (by decide +kernel)) ggL_law_X11_land
set_option maxRecDepth 20000 in
theorem ggL_law_X10_say : GoodIn wsL_law wsX10_say := goodIn_r _ [253, 20, 254, 179, 180, 2, 181, 255, 256, 257, 19, 258, 259, 93, 972, 973, 974, 975, 976, 977, 978, 979, 1023, 1024] (by decide +kernel) (by decide +kernel)
set_option maxRecDepth 20000 in
theorem gL_law_X10_say : GoodIn wsL_law (wsV RL 27 RX10 yX10_say wsX10_say) := goodIn_app (goodIn_r _ [250, 251, 252, 2] (by decide +kernel) (by decide +kernel)) ggL_law_X10_say
set_option maxRecDepth 20000 in
theorem ggL_law_X11_say : GoodIn wsL_law wsX11_say := goodIn_r _ [263, 264, 265, 266, 138, 189, 190, 5, 191, 980, 981, 982, 983, 984, 985, 986, 987, 988, 989, 990, 991, 992, 993, 994, 995, 996, 997, 998, 999, 1000, 1001, 1002, 1003, 1004, 1005, 1006, 1007, 1008, 1009, 1010, 1011, 1012, 1013, 1014, 1015, 1016, 1017, 1018] (by decide +kernel) (by decide +kernel)
set_option maxRecDepth 20000 in
theorem gL_law_X11_say : GoodIn wsL_law (wsV RL 31 RX11 yX11_say wsX11_say) := goodIn_app (goodIn_r _ [260, 261, 262, 5] (by decide +kernel) (by decide +kernel)) ggL_law_X11_say
set_option maxRecDepth 20000 in
theorem ggL_law_X10_wipe : GoodIn wsL_law wsX10_wipe := goodIn_r _ [270, 20, 254, 972, 973, 974, 975, 976, 977, 978, 979, 1023, 1024] (by decide +kernel) (by decide +kernel)
set_option maxRecDepth 20000 in
theorem gL_law_X10_wipe : GoodIn wsL_law (wsV RL 32 RX10 yX10_wipe wsX10_wipe) := goodIn_app (goodIn_r _ [267, 268, 269, 2] (by decide +kernel) (by decide +kernel)) ggL_law_X10_wipe
set_option maxRecDepth 20000 in
theorem ggL_law_X11_wipe : GoodIn wsL_law wsX11_wipe := goodIn_r _ [274, 266, 980, 981, 982, 983, 984, 985, 986, 987, 988, 989, 990, 991, 992, 993, 994, 995, 996, 997, 998, 999, 1000, 1001, 1002, 1003, 1004, 1005, 1006, 1007, 1008, 1009, 1010, 1011, 1012, 1013, 1014, 1015, 1016, 1017, 1018] (by decide +kernel) (by decide +kernel)
set_option maxRecDepth 20000 in
theorem gL_law_X11_wipe : GoodIn wsL_law (wsV RL 36 RX11 yX11_wipe wsX11_wipe) := goodIn_app (goodIn_r _ [271, 272, 273, 5] (by decide +kernel) (by decide +kernel)) ggL_law_X11_wipe
set_option maxRecDepth 20000 in
theorem ggL_law_X10_fault : GoodIn wsL_law wsX10_fault := goodIn_r _ [278, 20, 15, 172, 173, 279, 280, 281, 19, 282, 259, 283, 284, 285, 286, 287, 288, 289, 290, 93, 180, 2, 181, 291, 292, 293, 294, 295, 296, 297, 298, 972, 973, 974, 975, 976, 977, 978, 979, 1019, 1020, 1021, 1022, 1047, 1048, 1049, 1050, 1051, 1052, 1053, 1023, 1024] (by decide +kernel) (by decide +kernel)
set_option maxRecDepth 20000 in
theorem gL_law_X10_fault : GoodIn wsL_law (wsV RL 37 RX10 yX10_fault wsX10_fault) := goodIn_app (goodIn_r _ [275, 276, 277, 2] (by decide +kernel) (by decide +kernel)) ggL_law_X10_fault
set_option maxRecDepth 20000 in
theorem ggL_law_X11_fault : GoodIn wsL_law wsX11_fault := goodIn_r _ [302, 303, 266, 138, 304, 305, 139, 140, 141, 142, 246, 247, 248, 5, 249, 161, 189, 190, 191, 980, 981, 982, 983, 984, 985, 986, 987, 988, 989, 990, 991, 992, 993, 994, 995, 996, 997, 998, 999, 1000, 1001, 1002, 1003, 1004, 1005, 1006, 1007, 1008, 1009, 1010, 1011, 1012, 1013, 1014, 1015, 1016, 1017, 1018] (by decide +kernel) (by decide +kernel)
set_option maxRecDepth 20000 in
theorem gL_law_X11_fault : GoodIn wsL_law (wsV RL 40 RX11 yX11_fault wsX11_fault) := goodIn_app (goodIn_r _ [299, 300, 301, 5] (by decide +kernel) (by decide +kernel)) ggL_law_X11_fault
set_option maxRecDepth 20000 in
theorem ggL_law_X10_judge : GoodIn wsL_law wsX10_judge := goodIn_r _ [309, 24, 310, 311, 312, 313, 179, 180, 2, 181, 314, 315, 316, 317, 20, 15, 172, 173, 279, 280, 281, 19, 282, 259, 283, 284, 285, 286, 287, 288, 289, 290, 93, 291, 292, 293, 294, 295, 296, 297, 298, 318, 319, 320, 23, 321, 99, 322, 101, 323, 102, 324, 325, 326, 327, 328, 329, 330, 331, 332, 333, 334, 47, 335, 60, 61, 62, 63, 64, 65, 66, 336, 337, 338, 51, 339, 72, 340, 341, 342, 343, 344, 345, 346, 347, 348, 349, 350, 351, 352, 353, 354, 355, 356, 357, 358, 359, 360, 361, 362, 363, 364, 365, 366, 367, 368, 369, 370, 371, 372, 373, 374, 375, 376, 229, 230, 231, 377, 378, 379, 380, 237, 238, 239, 77, 78, 79, 80, 381, 382, 383, 384, 385, 386, 387, 388, 389, 390, 972, 973, 974, 975, 976, 977, 978, 979, 1025, 1026, 1027, 1028, 1029, 1030, 1031, 1032, 1033, 1034, 1019, 1020, 1021, 1022, 1047, 1048, 1049, 1050, 1051, 1052, 1053, 1023, 1024, 1054] (by decide +kernel) (by decide +kernel)
set_option maxRecDepth 20000 in
theorem gL_law_X10_judge : GoodIn wsL_law (wsV RL 41 RX10 yX10_judge wsX10_judge) := goodIn_app (goodIn_r _ [306, 307, 308, 2] (by decide +kernel) (by decide +kernel)) ggL_law_X10_judge
set_option maxRecDepth 20000 in
theorem ggL_law_X11_judge : GoodIn wsL_law wsX11_judge := goodIn_r _ [394, 245, 395, 396, 397, 398, 189, 190, 5, 191, 399, 400, 401, 402, 145, 134, 163, 403, 404, 300, 301, 302, 303, 266, 138, 304, 305, 139, 140, 141, 142, 246, 247, 248, 249, 161, 405, 406, 407, 408, 144, 409, 143, 165, 166, 167, 410, 411, 412, 413, 414, 415, 416, 417, 418, 419, 420, 421, 422, 423, 424, 425, 426, 427, 428, 429, 430, 431, 432, 433, 162, 154, 211, 434, 435, 436, 437, 438, 439, 440, 212, 155, 156, 441, 442, 443, 444, 445, 446, 447, 448, 980, 981, 982, 983, 984, 985, 986, 987, 988, 989, 990, 991, 992, 993, 994, 995, 996, 997, 998, 999, 1000, 1001, 1002, 1003, 1004, 1005, 1006, 1007, 1008, 1009, 1010, 1011, 1012, 1013, 1014, 1015, 1016, 1017, 1018] (by decide +kernel) (by decide +kernel)
set_option maxRecDepth 20000 in
theorem gL_law_X11_judge : GoodIn wsL_law (wsV RL 44 RX11 yX11_judge wsX11_judge) := goodIn_app (goodIn_r _ [391, 392, 393, 5] (by decide +kernel) (by decide +kernel)) ggL_law_X11_judge
set_option maxRecDepth 20000 in
theorem ggL_law_X10_behind : GoodIn wsL_law wsX10_behind := goodIn_r _ [452, 24, 453, 454, 455, 456, 232, 233, 234, 2, 235, 15, 172, 173, 179, 180, 181, 314, 315, 316, 317, 20, 310, 279, 280, 281, 19, 282, 259, 283, 284, 285, 286, 287, 288, 289, 290, 93, 291, 292, 293, 294, 295, 296, 297, 298, 318, 319, 320, 23, 321, 99, 322, 101, 323, 102, 324, 325, 326, 327, 328, 329, 330, 331, 332, 333, 334, 47, 335, 60, 61, 62, 63, 64, 65, 66, 336, 337, 338, 51, 339, 72, 340, 341, 342, 343, 344, 345, 346, 347, 348, 349, 350, 351, 352, 353, 354, 355, 356, 357, 358, 359, 360, 361, 362, 363, 364, 365, 366, 367, 368, 369, 370, 371, 372, 373, 374, 375, 376, 229, 230, 231, 377, 378, 379, 380, 237, 238, 239, 77, 78, 79, 80, 381, 382, 383, 384, 385, 386, 387, 388, 389, 390, 236, 457, 458, 459, 460, 461, 462, 463, 464, 465, 972, 973, 974, 975, 976, 977, 978, 979, 1025, 1026, 1027, 1028, 1029, 1030, 1031, 1032, 1033, 1034, 1019, 1020, 1021, 1022, 1047, 1048, 1049, 1050, 1051, 1052, 1053, 1023, 1024, 1054] (by decide +kernel) (by decide +kernel)
set_option maxRecDepth 20000 in
theorem gL_law_X10_behind : GoodIn wsL_law (wsV RL 45 RX10 yX10_behind wsX10_behind) := goodIn_app (goodIn_r _ [449, 450, 451, 2] (by decide +kernel) (by decide +kernel)) ggL_law_X10_behind
set_option maxRecDepth 20000 in
theorem ggL_law_X11_behind : GoodIn wsL_law wsX11_behind := goodIn_r _ [469, 187, 145, 143, 403, 246, 247, 248, 5, 249, 161, 189, 190, 191, 399, 400, 401, 402, 134, 163, 395, 404, 300, 301, 302, 303, 266, 138, 304, 305, 139, 140, 141, 142, 405, 406, 407, 408, 144, 409, 398, 165, 166, 167, 410, 411, 412, 413, 396, 397, 414, 415, 416, 417, 418, 419, 420, 421, 422, 423, 424, 425, 426, 427, 428, 429, 430, 431, 432, 433, 162, 154, 211, 434, 435, 436, 437, 438, 439, 440, 212, 155, 156, 441, 442, 443, 444, 445, 446, 447, 448, 980, 981, 982, 983, 984, 985, 986, 987, 988, 989, 990, 991, 992, 993, 994, 995, 996, 997, 998, 999, 1000, 1001, 1002, 1003, 1004, 1005, 1006, 1007, 1008, 1009, 1010, 1011, 1012, 1013, 1014, 1015, 1016, 1017, 1018] (by decide +kernel) (by decide +kernel)
set_option maxRecDepth 20000 in
theorem gL_law_X11_behind : GoodIn wsL_law (wsV RL 48 RX11 yX11_behind wsX11_behind) := goodIn_app (goodIn_r _ [466, 467, 468, 5] (by decide +kernel) (by decide +kernel)) ggL_law_X11_behind
set_option maxRecDepth 20000 in
theorem ggL_law_X10_done : GoodIn wsL_law wsX10_done := goodIn_r _ [473, 15, 175, 24, 453, 456, 178, 20, 254, 474, 314, 315, 316, 2, 317, 172, 173, 310, 279, 280, 281, 19, 282, 259, 283, 284, 285, 286, 287, 288, 289, 290, 93, 180, 181, 291, 292, 293, 294, 295, 296, 297, 298, 318, 319, 320, 23, 321, 99, 322, 101, 323, 102, 324, 325, 326, 327, 328, 329, 330, 331, 332, 333, 334, 47, 335, 60, 61, 62, 63, 64, 65, 66, 336, 337, 338, 51, 339, 72, 340, 341, 342, 343, 344, 345, 346, 347, 348, 349, 350, 351, 352, 353, 354, 355, 356, 357, 358, 359, 360, 361, 362, 363, 364, 365, 366, 367, 368, 369, 370, 371, 372, 373, 374, 375, 376, 229, 230, 231, 377, 378, 379, 380, 237, 238, 239, 77, 78, 79, 80, 381, 382, 383, 384, 385, 386, 387, 388, 389, 390, 475, 972, 973, 974, 975, 976, 977, 978, 979, 1019, 1020, 1021, 1022, 1025, 1026, 1027, 1028, 1029, 1030, 1031, 1032, 1033, 1034, 1023, 1024, 1047, 1048, 1049, 1050, 1051, 1052, 1053, 1054] (by decide +kernel) (by decide +kernel)
set_option maxRecDepth 20000 in
theorem gL_law_X10_done : GoodIn wsL_law (wsV RL 49 RX10 yX10_done wsX10_done) := goodIn_app (goodIn_r _ [470, 471, 472, 2] (by decide +kernel) (by decide +kernel)) ggL_law_X10_done
set_option maxRecDepth 20000 in
theorem ggL_law_X11_done : GoodIn wsL_law wsX11_done := goodIn_r _ [479, 266, 303, 399, 400, 401, 5, 402, 145, 134, 163, 403, 395, 404, 300, 301, 302, 138, 304, 305, 139, 140, 141, 142, 246, 247, 248, 249, 161, 189, 190, 191, 405, 406, 407, 408, 144, 409, 398, 143, 165, 166, 167, 410, 411, 412, 413, 396, 397, 414, 415, 416, 417, 418, 419, 420, 421, 422, 423, 424, 425, 426, 427, 428, 429, 430, 431, 432, 433, 162, 154, 211, 434, 435, 436, 437, 438, 439, 440, 212, 155, 156, 441, 442, 443, 444, 445, 446, 447, 448, 980, 981, 982, 983, 984, 985, 986, 987, 988, 989, 990, 991, 992, 993, 994, 995, 996, 997, 998, 999, 1000, 1001, 1002, 1003, 1004, 1005, 1006, 1007, 1008, 1009, 1010, 1011, 1012, 1013, 1014, 1015, 1016, 1017, 1018] (by decide +kernel) (by decide +kernel)
set_option maxRecDepth 20000 in
theorem gL_law_X11_done : GoodIn wsL_law (wsV RL 52 RX11 yX11_done wsX11_done) := goodIn_app (goodIn_r _ [476, 477, 478, 5] (by decide +kernel) (by decide +kernel)) ggL_law_X11_done
set_option maxRecDepth 20000 in
theorem ggL_law_X10_lit : GoodIn wsL_law wsX10_lit := goodIn_r _ [483, 15, 172, 232, 233, 234, 2, 235, 173, 179, 180, 181, 484, 485, 486, 487, 458, 459, 460, 47, 461, 462, 463, 464, 465, 61, 364, 365, 366, 367, 60, 62, 63, 368, 369, 370, 371, 64, 65, 66, 972, 973, 974, 975, 976, 977, 978, 979, 1019, 1020, 1021, 1022, 1047, 1048, 1049, 1050, 1051, 1052, 1053] (by decide +kernel) (by decide +kernel)
set_option maxRecDepth 20000 in
theorem gL_law_X10_lit : GoodIn wsL_law (wsV RL 53 RX10 yX10_lit wsX10_lit) := goodIn_app (goodIn_r _ [480, 481, 482, 2] (by decide +kernel) (by decide +kernel)) ggL_law_X10_lit
set_option maxRecDepth 20000 in
theorem ggL_law_X11_lit : GoodIn wsL_law wsX11_lit := goodIn_r _ [491, 246, 247, 248, 5, 249, 161, 189, 190, 191, 492, 493, 494, 495, 426, 427, 428, 429, 430, 431, 432, 433, 162, 154, 211, 434, 435, 436, 437, 438, 439, 440, 212, 155, 156, 980, 981, 982, 983, 984, 985, 986, 987, 988, 989, 990, 991, 992, 993, 994, 995, 996, 997, 998, 999, 1000, 1001, 1002, 1003, 1004, 1005, 1006, 1007, 1008, 1009, 1010, 1011, 1012, 1013, 1014, 1015, 1016, 1017, 1018] (by decide +kernel) (by decide +kernel)
set_option maxRecDepth 20000 in
theorem gL_law_X11_lit : GoodIn wsL_law (wsV RL 56 RX11 yX11_lit wsX11_lit) := goodIn_app (goodIn_r _ [488, 489, 490, 5] (by decide +kernel) (by decide +kernel)) ggL_law_X11_lit
set_option maxRecDepth 20000 in
theorem ggL_law_X10_covered : GoodIn wsL_law wsX10_covered := goodIn_r _ [499, 15, 172, 484, 485, 2, 486, 487, 179, 180, 181, 500, 365, 366, 47, 367, 60, 61, 62, 63, 972, 973, 974, 975, 976, 977, 978, 979, 1019, 1020, 1021, 1022, 1047, 1048, 1049, 1050, 1051, 1052, 1053] (by decide +kernel) (by decide +kernel)
set_option maxRecDepth 20000 in
theorem gL_law_X10_covered : GoodIn wsL_law (wsV RL 57 RX10 yX10_covered wsX10_covered) := goodIn_app (goodIn_r _ [496, 497, 498, 2] (by decide +kernel) (by decide +kernel)) ggL_law_X10_covered
set_option maxRecDepth 20000 in
theorem ggL_law_X11_covered : GoodIn wsL_law wsX11_covered := goodIn_r _ [504, 161, 162, 154, 211, 492, 493, 5, 494, 495, 189, 190, 191, 434, 435, 436, 980, 981, 982, 983, 984, 985, 986, 987, 988, 989, 990, 991, 992, 993, 994, 995, 996, 997, 998, 999, 1000, 1001, 1002, 1003, 1004, 1005, 1006, 1007, 1008, 1009, 1010, 1011, 1012, 1013, 1014, 1015, 1016, 1017, 1018] (by decide +kernel) (by decide +kernel)
set_option maxRecDepth 20000 in
theorem gL_law_X11_covered : GoodIn wsL_law (wsV RL 60 RX11 yX11_covered wsX11_covered) := goodIn_app (goodIn_r _ [501, 502, 503, 5] (by decide +kernel) (by decide +kernel)) ggL_law_X11_covered
set_option maxRecDepth 20000 in
theorem ggL_law_X10_lits : GoodIn wsL_law wsX10_lits := goodIn_r _ [508, 509, 15, 172, 232, 233, 234, 2, 235, 173, 179, 180, 181, 484, 485, 486, 487, 510, 511, 512, 47, 513, 62, 64, 514, 515, 516, 517, 60, 61, 518, 519, 520, 521, 522, 523, 524, 525, 526, 527, 528, 529, 459, 460, 461, 462, 463, 464, 465, 364, 365, 366, 367, 63, 368, 369, 370, 371, 65, 66, 530, 972, 973, 974, 975, 976, 977, 978, 979, 1019, 1020, 1021, 1022, 1047, 1048, 1049, 1050, 1051, 1052, 1053] (by decide +kernel) (by decide +kernel)
set_option maxRecDepth 20000 in
theorem gL_law_X10_lits : GoodIn wsL_law (wsV RL 61 RX10 yX10_lits wsX10_lits) := goodIn_app (goodIn_r _ [505, 506, 507, 2] (by decide +kernel) (by decide +kernel)) ggL_law_X10_lits
set_option maxRecDepth 20000 in
theorem ggL_law_X11_lits : GoodIn wsL_law wsX11_lits := goodIn_r _ [534, 535, 246, 247, 248, 5, 249, 161, 189, 190, 191, 492, 493, 494, 495, 426, 427, 428, 429, 430, 431, 432, 433, 162, 154, 211, 434, 435, 436, 437, 438, 439, 440, 212, 155, 156, 980, 981, 982, 983, 984, 985, 986, 987, 988, 989, 990, 991, 992, 993, 994, 995, 996, 997, 998, 999, 1000, 1001, 1002, 1003, 1004, 1005, 1006, 1007, 1008, 1009, 1010, 1011, 1012, 1013, 1014, 1015, 1016, 1017, 1018] (by decide +kernel) (by decide +kernel)
set_option maxRecDepth 20000 in
theorem gL_law_X11_lits : GoodIn wsL_law (wsV RL 64 RX11 yX11_lits wsX11_lits) := goodIn_app (goodIn_r _ [531, 532, 533, 5] (by decide +kernel) (by decide +kernel)) ggL_law_X11_lits
set_option maxRecDepth 20000 in
theorem ggL_law_X10_next : GoodIn wsL_law wsX10_next := goodIn_r _ [539, 15, 172, 232, 233, 234, 2, 235, 173, 179, 180, 181, 484, 485, 486, 487, 540, 541, 542, 47, 543, 544, 511, 512, 513, 62, 64, 514, 515, 516, 517, 60, 61, 518, 519, 520, 521, 529, 459, 460, 461, 462, 463, 464, 465, 364, 365, 366, 367, 63, 368, 369, 370, 371, 65, 66, 972, 973, 974, 975, 976, 977, 978, 979, 1019, 1020, 1021, 1022, 1047, 1048, 1049, 1050, 1051, 1052, 1053] (by decide +kernel) (by decide +kernel)
set_option maxRecDepth 20000 in
theorem gL_law_X10_next : GoodIn wsL_law (wsV RL 65 RX10 yX10_next wsX10_next) := goodIn_app (goodIn_r _ [536, 537, 538, 2] (by decide +kernel) (by decide +kernel)) ggL_law_X10_next
set_option maxRecDepth 20000 in
theorem ggL_law_X11_next : GoodIn wsL_law wsX11_next := goodIn_r _ [548, 246, 247, 248, 5, 249, 161, 189, 190, 191, 492, 493, 494, 495, 426, 427, 428, 429, 430, 431, 432, 433, 162, 154, 211, 434, 435, 436, 437, 438, 439, 440, 212, 155, 156, 980, 981, 982, 983, 984, 985, 986, 987, 988, 989, 990, 991, 992, 993, 994, 995, 996, 997, 998, 999, 1000, 1001, 1002, 1003, 1004, 1005, 1006, 1007, 1008, 1009, 1010, 1011, 1012, 1013, 1014, 1015, 1016, 1017, 1018] (by decide +kernel) (by decide +kernel)
set_option maxRecDepth 20000 in
theorem gL_law_X11_next : GoodIn wsL_law (wsV RL 69 RX11 yX11_next wsX11_next) := goodIn_app (goodIn_r _ [545, 546, 547, 5] (by decide +kernel) (by decide +kernel)) ggL_law_X11_next
set_option maxRecDepth 20000 in
theorem ggL_law_X10_longest : GoodIn wsL_law wsX10_longest := goodIn_r _ [552, 15, 172, 232, 233, 234, 2, 235, 173, 179, 180, 181, 484, 485, 486, 487, 553, 554, 555, 47, 556, 557, 229, 230, 231, 558, 378, 379, 544, 511, 512, 513, 62, 64, 514, 515, 516, 517, 60, 61, 518, 519, 520, 521, 529, 459, 460, 461, 462, 463, 464, 465, 364, 365, 366, 367, 63, 368, 369, 370, 371, 65, 66, 972, 973, 974, 975, 976, 977, 978, 979, 1019, 1020, 1021, 1022, 1047, 1048, 1049, 1050, 1051, 1052, 1053] (by decide +kernel) (by decide +kernel)
set_option maxRecDepth 20000 in
theorem gL_law_X10_longest : GoodIn wsL_law (wsV RL 70 RX10 yX10_longest wsX10_longest) := goodIn_app (goodIn_r _ [549, 550, 551, 2] (by decide +kernel) (by decide +kernel)) ggL_law_X10_longest
set_option maxRecDepth 20000 in
theorem ggL_law_X11_longest : GoodIn wsL_law wsX11_longest := goodIn_r _ [562, 563, 246, 247, 248, 5, 249, 161, 189, 190, 191, 492, 493, 494, 495, 426, 427, 428, 429, 430, 431, 432, 433, 162, 154, 211, 434, 435, 436, 437, 438, 439, 440, 212, 155, 156, 980, 981, 982, 983, 984, 985, 986, 987, 988, 989, 990, 991, 992, 993, 994, 995, 996, 997, 998, 999, 1000, 1001, 1002, 1003, 1004, 1005, 1006, 1007, 1008, 1009, 1010, 1011, 1012, 1013, 1014, 1015, 1016, 1017, 1018] (by decide +kernel) (by decide +kernel)
set_option maxRecDepth 20000 in
theorem gL_law_X11_longest : GoodIn wsL_law (wsV RL 73 RX11 yX11_longest wsX11_longest) := goodIn_app (goodIn_r _ [559, 560, 561, 5] (by decide +kernel) (by decide +kernel)) ggL_law_X11_longest
set_option maxRecDepth 20000 in
theorem ggL_law_X10_hungry : GoodIn wsL_law wsX10_hungry := goodIn_r _ [567, 24, 15, 313, 312, 179, 180, 2, 181, 318, 319, 320, 23, 321, 99, 322, 101, 323, 102, 324, 325, 326, 327, 328, 329, 330, 331, 332, 333, 334, 47, 335, 60, 61, 62, 63, 64, 65, 66, 336, 337, 338, 51, 339, 72, 340, 341, 342, 343, 568, 569, 570, 571, 355, 356, 357, 358, 359, 360, 361, 362, 363, 364, 365, 366, 367, 368, 369, 370, 371, 372, 373, 374, 375, 376, 229, 230, 231, 377, 378, 379, 380, 237, 238, 239, 77, 78, 79, 80, 381, 382, 383, 384, 572, 573, 574, 575, 972, 973, 974, 975, 976, 977, 978, 979, 1025, 1026, 1027, 1028, 1029, 1030, 1031, 1032, 1033, 1034, 1019, 1020, 1021, 1022, 1047, 1048, 1049, 1050, 1051, 1052, 1053, 1054] (by decide +kernel) (by decide +kernel)
set_option maxRecDepth 20000 in
theorem gL_law_X10_hungry : GoodIn wsL_law (wsV RL 74 RX10 yX10_hungry wsX10_hungry) := goodIn_app (goodIn_r _ [564, 565, 566, 2] (by decide +kernel) (by decide +kernel)) ggL_law_X10_hungry
set_option maxRecDepth 20000 in
theorem ggL_law_X11_hungry : GoodIn wsL_law wsX11_hungry := goodIn_r _ [579, 161, 143, 189, 190, 5, 191, 405, 406, 407, 408, 144, 134, 163, 409, 398, 165, 166, 167, 422, 423, 424, 425, 426, 427, 428, 429, 430, 431, 432, 433, 162, 154, 211, 434, 435, 436, 437, 438, 439, 440, 212, 155, 156, 441, 442, 443, 444, 445, 446, 447, 448, 980, 981, 982, 983, 984, 985, 986, 987, 988, 989, 990, 991, 992, 993, 994, 995, 996, 997, 998, 999, 1000, 1001, 1002, 1003, 1004, 1005, 1006, 1007, 1008, 1009, 1010, 1011, 1012, 1013, 1014, 1015, 1016, 1017, 1018] (by decide +kernel) (by decide +kernel)
set_option maxRecDepth 20000 in
theorem gL_law_X11_hungry : GoodIn wsL_law (wsV RL 77 RX11 yX11_hungry wsX11_hungry) := goodIn_app (goodIn_r _ [576, 577, 578, 5] (by decide +kernel) (by decide +kernel)) ggL_law_X11_hungry
set_option maxRecDepth 20000 in
theorem ggL_law_X10_needs : GoodIn wsL_law wsX10_needs := goodIn_r _ [583, 15, 232, 233, 234, 2, 235, 172, 173, 179, 180, 181, 584, 585, 586, 14, 587, 52, 48, 588, 589, 378, 230, 379, 590, 237, 238, 51, 239, 72, 591, 459, 460, 47, 461, 462, 463, 464, 465, 61, 364, 365, 366, 367, 60, 62, 63, 368, 369, 370, 371, 64, 65, 66, 972, 973, 974, 975, 976, 977, 978, 979, 1019, 1020, 1021, 1022, 1047, 1048, 1049, 1050, 1051, 1052, 1053, 1054] (by decide +kernel) (by decide +kernel)
set_option maxRecDepth 20000 in
theorem gL_law_X10_needs : GoodIn wsL_law (wsV RL 78 RX10 yX10_needs wsX10_needs) := goodIn_app (goodIn_r _ [580, 581, 582, 2] (by decide +kernel) (by decide +kernel)) ggL_law_X10_needs
set_option maxRecDepth 20000 in
theorem ggL_law_X11_needs : GoodIn wsL_law wsX11_needs := goodIn_r _ [595, 217, 246, 247, 248, 5, 249, 161, 189, 190, 191, 405, 406, 407, 408, 144, 134, 163, 409, 398, 143, 165, 166, 167, 596, 597, 598, 599, 600, 601, 602, 603, 426, 427, 428, 429, 430, 431, 432, 433, 162, 154, 211, 434, 435, 436, 437, 438, 439, 440, 212, 155, 156, 441, 442, 443, 444, 980, 981, 982, 983, 984, 985, 986, 987, 988, 989, 990, 991, 992, 993, 994, 995, 996, 997, 998, 999, 1000, 1001, 1002, 1003, 1004, 1005, 1006, 1007, 1008, 1009, 1010, 1011, 1012, 1013, 1014, 1015, 1016, 1017, 1018] (by decide +kernel) (by decide +kernel)
set_option maxRecDepth 20000 in
theorem gL_law_X11_needs : GoodIn wsL_law (wsV RL 81 RX11 yX11_needs wsX11_needs) := goodIn_app (goodIn_r _ [592, 593, 594, 5] (by decide +kernel) (by decide +kernel)) ggL_law_X11_needs
set_option maxRecDepth 20000 in
theorem ggL_law_X10_carry : GoodIn wsL_law wsX10_carry := goodIn_r _ [607, 36, 15, 179, 180, 2, 181, 608, 609, 610, 35, 611, 612, 613, 614, 122, 123, 615, 229, 230, 231, 616, 617, 618, 619, 620, 621, 51, 622, 380, 237, 238, 239, 72, 383, 384, 623, 585, 586, 14, 587, 52, 48, 588, 589, 378, 379, 590, 591, 459, 460, 47, 461, 462, 463, 464, 465, 61, 364, 365, 366, 367, 60, 62, 63, 368, 369, 370, 371, 64, 65, 66, 624, 625, 626, 627, 381, 382, 628, 629, 630, 631, 972, 973, 974, 975, 976, 977, 978, 979, 1019, 1020, 1021, 1022, 1047, 1048, 1049, 1050, 1051, 1052, 1053, 1041, 1042, 1054] (by decide +kernel) (by decide +kernel)
set_option maxRecDepth 20000 in
theorem gL_law_X10_carry : GoodIn wsL_law (wsV RL 82 RX10 yX10_carry wsX10_carry) := goodIn_app (goodIn_r _ [604, 605, 606, 2] (by decide +kernel) (by decide +kernel)) ggL_law_X10_carry
set_option maxRecDepth 20000 in
theorem ggL_law_X11_carry : GoodIn wsL_law wsX11_carry := goodIn_r _ [635, 636, 146, 637, 161, 134, 189, 190, 5, 191, 405, 406, 407, 408, 144, 163, 409, 398, 143, 165, 166, 167, 596, 597, 598, 599, 600, 601, 602, 603, 426, 427, 428, 429, 430, 431, 432, 433, 162, 154, 211, 434, 435, 436, 437, 438, 439, 440, 212, 155, 156, 441, 442, 443, 444, 638, 639, 640, 641, 147, 980, 981, 982, 983, 984, 985, 986, 987, 988, 989, 990, 991, 992, 993, 994, 995, 996, 997, 998, 999, 1000, 1001, 1002, 1003, 1004, 1005, 1006, 1007, 1008, 1009, 1010, 1011, 1012, 1013, 1014, 1015, 1016, 1017, 1018] (by decide +kernel) (by decide +kernel)
set_option maxRecDepth 20000 in
theorem gL_law_X11_carry : GoodIn wsL_law (wsV RL 85 RX11 yX11_carry wsX11_carry) := goodIn_app (goodIn_r _ [632, 633, 634, 5] (by decide +kernel) (by decide +kernel)) ggL_law_X11_carry
set_option maxRecDepth 20000 in
theorem ggL_law_X10_paced : GoodIn wsL_law wsX10_paced := goodIn_r _ [645, 24, 15, 455, 646, 313, 179, 180, 2, 181, 318, 319, 320, 23, 321, 99, 322, 101, 323, 102, 324, 325, 326, 327, 328, 329, 330, 331, 332, 333, 334, 47, 335, 60, 61, 62, 63, 64, 65, 66, 336, 337, 338, 51, 339, 72, 340, 341, 342, 343, 647, 352, 353, 354, 355, 356, 357, 358, 359, 360, 361, 362, 363, 364, 365, 366, 367, 368, 369, 370, 371, 372, 373, 374, 375, 376, 229, 230, 231, 377, 378, 379, 380, 237, 238, 239, 77, 78, 79, 80, 381, 382, 383, 384, 972, 973, 974, 975, 976, 977, 978, 979, 1025, 1026, 1027, 1028, 1029, 1030, 1031, 1032, 1033, 1034, 1047, 1048, 1049, 1050, 1051, 1052, 1053, 1019, 1020, 1021, 1022, 1054] (by decide +kernel) (by decide +kernel)
set_option maxRecDepth 20000 in
theorem gL_law_X10_paced : GoodIn wsL_law (wsV RL 86 RX10 yX10_paced wsX10_paced) := goodIn_app (goodIn_r _ [642, 643, 644, 2] (by decide +kernel) (by decide +kernel)) ggL_law_X10_paced
set_option maxRecDepth 20000 in
theorem ggL_law_X11_paced : GoodIn wsL_law wsX11_paced := goodIn_r _ [651, 188, 217, 154, 398, 189, 190, 5, 191, 405, 406, 407, 408, 144, 134, 163, 409, 143, 165, 166, 167, 422, 423, 424, 425, 161, 426, 427, 428, 429, 430, 431, 432, 433, 162, 211, 434, 435, 436, 437, 438, 439, 440, 212, 155, 156, 441, 442, 443, 444, 445, 446, 447, 448, 980, 981, 982, 983, 984, 985, 986, 987, 988, 989, 990, 991, 992, 993, 994, 995, 996, 997, 998, 999, 1000, 1001, 1002, 1003, 1004, 1005, 1006, 1007, 1008, 1009, 1010, 1011, 1012, 1013, 1014, 1015, 1016, 1017, 1018] (by decide +kernel) (by decide +kernel)
set_option maxRecDepth 20000 in
theorem gL_law_X11_paced : GoodIn wsL_law (wsV RL 89 RX11 yX11_paced wsX11_paced) := goodIn_app (goodIn_r _ [648, 649, 650, 5] (by decide +kernel) (by decide +kernel)) ggL_law_X11_paced
set_option maxRecDepth 20000 in
theorem ggL_law_X10_strike : GoodIn wsL_law wsX10_strike := goodIn_r _ [655, 15, 172, 656, 657, 658, 2, 659, 232, 233, 234, 235, 173, 179, 180, 181, 484, 485, 486, 487, 660, 661, 662, 47, 663, 544, 511, 512, 513, 62, 64, 514, 515, 516, 517, 60, 61, 518, 519, 520, 521, 664, 665, 666, 667, 529, 459, 460, 461, 462, 463, 464, 465, 364, 365, 366, 367, 63, 368, 369, 370, 371, 65, 66, 972, 973, 974, 975, 976, 977, 978, 979, 1019, 1020, 1021, 1022, 1047, 1048, 1049, 1050, 1051, 1052, 1053] (by decide +kernel) (by decide +kernel)
set_option maxRecDepth 20000 in
theorem gL_law_X10_strike : GoodIn wsL_law (wsV RL 90 RX10 yX10_strike wsX10_strike) := goodIn_app (goodIn_r _ [652, 653, 654, 2] (by decide +kernel) (by decide +kernel)) ggL_law_X10_strike
set_option maxRecDepth 20000 in
theorem ggL_law_X11_strike : GoodIn wsL_law wsX11_strike := goodIn_r _ [671, 672, 673, 674, 5, 675, 246, 247, 248, 249, 161, 189, 190, 191, 492, 493, 494, 495, 676, 677, 678, 679, 426, 427, 428, 429, 430, 431, 432, 433, 162, 154, 211, 434, 435, 436, 437, 438, 439, 440, 212, 155, 156, 980, 981, 982, 983, 984, 985, 986, 987, 988, 989, 990, 991, 992, 993, 994, 995, 996, 997, 998, 999, 1000, 1001, 1002, 1003, 1004, 1005, 1006, 1007, 1008, 1009, 1010, 1011, 1012, 1013, 1014, 1015, 1016, 1017, 1018] (by decide +kernel) (by decide +kernel)
set_option maxRecDepth 20000 in
theorem gL_law_X11_strike : GoodIn wsL_law (wsV RL 93 RX11 yX11_strike wsX11_strike) := goodIn_app (goodIn_r _ [668, 669, 670, 5] (by decide +kernel) (by decide +kernel)) ggL_law_X11_strike
set_option maxRecDepth 20000 in
theorem ggL_law_X10_strikes : GoodIn wsL_law wsX10_strikes := goodIn_r _ [683, 15, 172, 656, 657, 658, 2, 659, 232, 233, 234, 235, 173, 179, 180, 181, 484, 485, 486, 487, 510, 511, 512, 47, 513, 62, 64, 514, 515, 516, 517, 60, 61, 518, 519, 520, 521, 522, 523, 524, 684, 685, 686, 687, 664, 665, 666, 667, 529, 459, 460, 461, 462, 463, 464, 465, 364, 365, 366, 367, 63, 368, 369, 370, 371, 65, 66, 530, 972, 973, 974, 975, 976, 977, 978, 979, 1019, 1020, 1021, 1022, 1047, 1048, 1049, 1050, 1051, 1052, 1053] (by decide +kernel) (by decide +kernel)
set_option maxRecDepth 20000 in
theorem gL_law_X10_strikes : GoodIn wsL_law (wsV RL 94 RX10 yX10_strikes wsX10_strikes) := goodIn_app (goodIn_r _ [680, 681, 682, 2] (by decide +kernel) (by decide +kernel)) ggL_law_X10_strikes
set_option maxRecDepth 20000 in
theorem ggL_law_X11_strikes : GoodIn wsL_law wsX11_strikes := goodIn_r _ [691, 563, 672, 673, 674, 5, 675, 246, 247, 248, 249, 161, 189, 190, 191, 492, 493, 494, 495, 676, 677, 678, 679, 426, 427, 428, 429, 430, 431, 432, 433, 162, 154, 211, 434, 435, 436, 437, 438, 439, 440, 212, 155, 156, 980, 981, 982, 983, 984, 985, 986, 987, 988, 989, 990, 991, 992, 993, 994, 995, 996, 997, 998, 999, 1000, 1001, 1002, 1003, 1004, 1005, 1006, 1007, 1008, 1009, 1010, 1011, 1012, 1013, 1014, 1015, 1016, 1017, 1018] (by decide +kernel) (by decide +kernel)
set_option maxRecDepth 20000 in
theorem gL_law_X11_strikes : GoodIn wsL_law (wsV RL 98 RX11 yX11_strikes wsX11_strikes) := goodIn_app (goodIn_r _ [688, 689, 690, 5] (by decide +kernel) (by decide +kernel)) ggL_law_X11_strikes
set_option maxRecDepth 20000 in
theorem ggL_law_X10_ways : GoodIn wsL_law wsX10_ways := goodIn_r _ [695, 696, 697, 28, 15, 172, 232, 233, 234, 2, 235, 173, 179, 180, 181, 484, 485, 486, 487, 698, 699, 700, 27, 701, 109, 110, 702, 703, 704, 459, 460, 47, 461, 462, 463, 464, 465, 61, 364, 365, 366, 367, 60, 62, 63, 368, 369, 370, 371, 64, 65, 66, 705, 706, 707, 361, 362, 363, 708, 709, 710, 711, 712, 972, 973, 974, 975, 976, 977, 978, 979, 1019, 1020, 1021, 1022, 1047, 1048, 1049, 1050, 1051, 1052, 1053, 1035, 1036] (by decide +kernel) (by decide +kernel)
set_option maxRecDepth 20000 in
theorem gL_law_X10_ways : GoodIn wsL_law (wsV RL 99 RX10 yX10_ways wsX10_ways) := goodIn_app (goodIn_r _ [692, 693, 694, 2] (by decide +kernel) (by decide +kernel)) ggL_law_X10_ways
set_option maxRecDepth 20000 in
theorem ggL_law_X11_ways : GoodIn wsL_law wsX11_ways := goodIn_r _ [716, 717, 718, 719, 148, 246, 247, 248, 5, 249, 161, 189, 190, 191, 492, 493, 494, 495, 720, 721, 722, 723, 724, 725, 726, 727, 426, 427, 428, 429, 430, 431, 432, 433, 162, 154, 211, 434, 435, 436, 437, 438, 439, 440, 212, 155, 156, 728, 729, 730, 731, 149, 980, 981, 982, 983, 984, 985, 986, 987, 988, 989, 990, 991, 992, 993, 994, 995, 996, 997, 998, 999, 1000, 1001, 1002, 1003, 1004, 1005, 1006, 1007, 1008, 1009, 1010, 1011, 1012, 1013, 1014, 1015, 1016, 1017, 1018] (by decide +kernel) (by decide +kernel)
set_option maxRecDepth 20000 in
theorem gL_law_X11_ways : GoodIn wsL_law (wsV RL 103 RX11 yX11_ways wsX11_ways) := goodIn_app (goodIn_r _ [713, 714, 715, 5] (by decide +kernel) (by decide +kernel)) ggL_law_X11_ways
set_option maxRecDepth 20000 in
theorem ggL_law_X10_where : GoodIn wsL_law wsX10_where := goodIn_r _ [735, 15, 172, 232, 233, 234, 2, 235, 173, 179, 180, 181, 484, 485, 486, 487, 736, 361, 362, 47, 363, 61, 364, 365, 366, 367, 60, 62, 63, 368, 369, 370, 371, 64, 65, 66, 737, 738, 739, 972, 973, 974, 975, 976, 977, 978, 979, 1019, 1020, 1021, 1022, 1047, 1048, 1049, 1050, 1051, 1052, 1053] (by decide +kernel) (by decide +kernel)
set_option maxRecDepth 20000 in
theorem gL_law_X10_where : GoodIn wsL_law (wsV RL 104 RX10 yX10_where wsX10_where) := goodIn_app (goodIn_r _ [732, 733, 734, 2] (by decide +kernel) (by decide +kernel)) ggL_law_X10_where
set_option maxRecDepth 20000 in
theorem ggL_law_X11_where : GoodIn wsL_law wsX11_where := goodIn_r _ [743, 718, 246, 247, 248, 5, 249, 161, 189, 190, 191, 492, 493, 494, 495, 720, 721, 722, 723, 724, 725, 726, 727, 148, 426, 427, 428, 429, 430, 431, 432, 433, 162, 154, 211, 434, 435, 436, 437, 438, 439, 440, 212, 155, 156, 728, 729, 730, 731, 149, 744, 745, 746, 747, 980, 981, 982, 983, 984, 985, 986, 987, 988, 989, 990, 991, 992, 993, 994, 995, 996, 997, 998, 999, 1000, 1001, 1002, 1003, 1004, 1005, 1006, 1007, 1008, 1009, 1010, 1011, 1012, 1013, 1014, 1015, 1016, 1017, 1018] (by decide +kernel) (by decide +kernel)
set_option maxRecDepth 20000 in
theorem gL_law_X11_where : GoodIn wsL_law (wsV RL 107 RX11 yX11_where wsX11_where) := goodIn_app (goodIn_r _ [740, 741, 742, 5] (by decide +kernel) (by decide +kernel)) ggL_law_X11_where
set_option maxRecDepth 20000 in
theorem ggL_law_X10_meet : GoodIn wsL_law wsX10_meet := goodIn_r _ [751, 15, 172, 232, 233, 234, 2, 235, 173, 179, 180, 181, 484, 485, 486, 487, 736, 361, 362, 47, 363, 61, 364, 365, 366, 367, 60, 62, 63, 368, 369, 370, 371, 64, 65, 66, 737, 738, 739, 972, 973, 974, 975, 976, 977, 978, 979, 1019, 1020, 1021, 1022, 1047, 1048, 1049, 1050, 1051, 1052, 1053] (by decide +kernel) (by decide +kernel)
set_option maxRecDepth 20000 in
theorem gL_law_X10_meet : GoodIn wsL_law (wsV RL 108 RX10 yX10_meet wsX10_meet) := goodIn_app (goodIn_r _ [748, 749, 750, 2] (by decide +kernel) (by decide +kernel)) ggL_law_X10_meet
set_option maxRecDepth 20000 in
theorem ggL_law_X11_meet : GoodIn wsL_law wsX11_meet := goodIn_r _ [755, 246, 247, 248, 5, 249, 161, 189, 190, 191, 492, 493, 494, 495, 720, 721, 722, 723, 724, 725, 726, 727, 148, 426, 427, 428, 429, 430, 431, 432, 433, 162, 154, 211, 434, 435, 436, 437, 438, 439, 440, 212, 155, 156, 728, 729, 730, 731, 149, 744, 745, 746, 747, 980, 981, 982, 983, 984, 985, 986, 987, 988, 989, 990, 991, 992, 993, 994, 995, 996, 997, 998, 999, 1000, 1001, 1002, 1003, 1004, 1005, 1006, 1007, 1008, 1009, 1010, 1011, 1012, 1013, 1014, 1015, 1016, 1017, 1018] (by decide +kernel) (by decide +kernel)
set_option maxRecDepth 20000 in
theorem gL_law_X11_meet : GoodIn wsL_law (wsV RL 111 RX11 yX11_meet wsX11_meet) := goodIn_app (goodIn_r _ [752, 753, 754, 5] (by decide +kernel) (by decide +kernel)) ggL_law_X11_meet
set_option maxRecDepth 20000 in
theorem ggL_law_X10_seen : GoodIn wsL_law wsX10_seen := goodIn_r _ [759, 15, 176, 177, 232, 233, 234, 2, 235, 172, 173, 179, 180, 181, 760, 761, 762, 55, 763, 764, 85, 86, 87, 383, 384, 972, 973, 974, 975, 976, 977, 978, 979, 1019, 1020, 1021, 1022, 1055, 1056, 1057, 1058, 1047, 1048, 1049, 1050, 1051, 1052, 1053] (by decide +kernel) (by decide +kernel)
set_option maxRecDepth 20000 in
theorem gL_law_X10_seen : GoodIn wsL_law (wsV RL 112 RX10 yX10_seen wsX10_seen) := goodIn_app (goodIn_r _ [756, 757, 758, 2] (by decide +kernel) (by decide +kernel)) ggL_law_X10_seen
set_option maxRecDepth 20000 in
theorem ggL_law_X11_seen : GoodIn wsL_law wsX11_seen := goodIn_r _ [768, 563, 164, 135, 136, 137, 246, 247, 248, 5, 249, 161, 189, 190, 191, 980, 981, 982, 983, 984, 985, 986, 987, 988, 989, 990, 991, 992, 993, 994, 995, 996, 997, 998, 999, 1000, 1001, 1002, 1003, 1004, 1005, 1006, 1007, 1008, 1009, 1010, 1011, 1012, 1013, 1014, 1015, 1016, 1017, 1018] (by decide +kernel) (by decide +kernel)
set_option maxRecDepth 20000 in
theorem gL_law_X11_seen : GoodIn wsL_law (wsV RL 115 RX11 yX11_seen wsX11_seen) := goodIn_app (goodIn_r _ [765, 766, 767, 5] (by decide +kernel) (by decide +kernel)) ggL_law_X11_seen
set_option maxRecDepth 20000 in
theorem ggL_law_X10_forget : GoodIn wsL_law wsX10_forget := goodIn_r _ [772, 15, 176, 177, 972, 973, 974, 975, 976, 977, 978, 979, 1019, 1020, 1021, 1022, 1055, 1056, 1057, 1058] (by decide +kernel) (by decide +kernel)
set_option maxRecDepth 20000 in
theorem gL_law_X10_forget : GoodIn wsL_law (wsV RL 116 RX10 yX10_forget wsX10_forget) := goodIn_app (goodIn_r _ [769, 770, 771, 2] (by decide +kernel) (by decide +kernel)) ggL_law_X10_forget
set_option maxRecDepth 20000 in
theorem ggL_law_X11_forget : GoodIn wsL_law wsX11_forget := goodIn_r _ [776, 164, 980, 981, 982, 983, 984, 985, 986, 987, 988, 989, 990, 991, 992, 993, 994, 995, 996, 997, 998, 999, 1000, 1001, 1002, 1003, 1004, 1005, 1006, 1007, 1008, 1009, 1010, 1011, 1012, 1013, 1014, 1015, 1016, 1017, 1018] (by decide +kernel) (by decide +kernel)
set_option maxRecDepth 20000 in
theorem gL_law_X11_forget : GoodIn wsL_law (wsV RL 119 RX11 yX11_forget wsX11_forget) := goodIn_app (goodIn_r _ [773, 774, 775, 5] (by decide +kernel) (by decide +kernel)) ggL_law_X11_forget
set_option maxRecDepth 20000 in
theorem ggL_law_X10_laws : GoodIn wsL_law wsX10_laws := goodIn_r _ [780, 32, 15, 781, 782, 783, 784, 785, 31, 786, 787, 788, 117, 116, 789, 790, 791, 792, 793, 342, 2, 343, 794, 795, 796, 797, 798, 229, 230, 231, 799, 800, 515, 516, 47, 517, 60, 61, 801, 802, 803, 55, 804, 764, 85, 86, 87, 381, 382, 805, 463, 464, 465, 364, 365, 366, 367, 62, 63, 806, 807, 808, 809, 810, 383, 384, 972, 973, 974, 975, 976, 977, 978, 979, 1037, 1038, 1039, 1040, 1019, 1020, 1021, 1022, 1047, 1048, 1049, 1050, 1051, 1052, 1053, 1055, 1056, 1057, 1058] (by decide +kernel) (by decide +kernel)
set_option maxRecDepth 20000 in
theorem gL_law_X10_laws : GoodIn wsL_law (wsV RL 120 RX10 yX10_laws wsX10_laws) := goodIn_app (goodIn_r _ [777, 778, 779, 2] (by decide +kernel) (by decide +kernel)) ggL_law_X10_laws
set_option maxRecDepth 20000 in
theorem ggL_law_X11_laws : GoodIn wsL_law wsX11_laws := goodIn_r _ [814, 815, 816, 817, 818, 5, 819, 150, 161, 820, 821, 822, 823, 164, 135, 136, 137, 824, 825, 826, 827, 434, 435, 436, 980, 981, 982, 983, 984, 985, 986, 987, 988, 989, 990, 991, 992, 993, 994, 995, 996, 997, 998, 999, 1000, 1001, 1002, 1003, 1004, 1005, 1006, 1007, 1008, 1009, 1010, 1011, 1012, 1013, 1014, 1015, 1016, 1017, 1018] (by decide +kernel) (by decide +kernel)
set_option maxRecDepth 20000 in
theorem gL_law_X11_laws : GoodIn wsL_law (wsV RL 123 RX11 yX11_laws wsX11_laws) := goodIn_app (goodIn_r _ [811, 812, 813, 5] (by decide +kernel) (by decide +kernel)) ggL_law_X11_laws
set_option maxRecDepth 20000 in
theorem ggL_law_X10_look : GoodIn wsL_law wsX10_look := goodIn_r _ [831, 32, 15, 781, 172, 173, 484, 485, 2, 486, 487, 179, 180, 181, 783, 784, 785, 31, 786, 787, 788, 117, 116, 789, 790, 791, 792, 793, 342, 343, 794, 795, 796, 797, 798, 229, 230, 231, 799, 800, 515, 516, 47, 517, 60, 61, 801, 802, 803, 55, 804, 764, 85, 86, 87, 381, 382, 805, 463, 464, 465, 364, 365, 366, 367, 62, 63, 806, 807, 808, 809, 810, 383, 384, 832, 833, 834, 835, 836, 837, 838, 839, 840, 378, 379, 841, 972, 973, 974, 975, 976, 977, 978, 979, 1037, 1038, 1039, 1040, 1019, 1020, 1021, 1022, 1047, 1048, 1049, 1050, 1051, 1052, 1053, 1055, 1056, 1057, 1058] (by decide +kernel) (by decide +kernel)
set_option maxRecDepth 20000 in
theorem gL_law_X10_look : GoodIn wsL_law (wsV RL 124 RX10 yX10_look wsX10_look) := goodIn_app (goodIn_r _ [828, 829, 830, 2] (by decide +kernel) (by decide +kernel)) ggL_law_X10_look
set_option maxRecDepth 20000 in
theorem ggL_law_X11_look : GoodIn wsL_law wsX11_look := goodIn_r _ [845, 815, 161, 492, 493, 5, 494, 495, 189, 190, 191, 816, 817, 818, 819, 150, 820, 821, 822, 823, 164, 135, 136, 137, 824, 825, 826, 827, 434, 435, 436, 846, 847, 848, 849, 980, 981, 982, 983, 984, 985, 986, 987, 988, 989, 990, 991, 992, 993, 994, 995, 996, 997, 998, 999, 1000, 1001, 1002, 1003, 1004, 1005, 1006, 1007, 1008, 1009, 1010, 1011, 1012, 1013, 1014, 1015, 1016, 1017, 1018] (by decide +kernel) (by decide +kernel)
set_option maxRecDepth 20000 in
theorem gL_law_X11_look : GoodIn wsL_law (wsV RL 127 RX11 yX11_look wsX11_look) := goodIn_app (goodIn_r _ [842, 843, 844, 5] (by decide +kernel) (by decide +kernel)) ggL_law_X11_look
set_option maxRecDepth 20000 in
theorem ggL_law_X10_dust : GoodIn wsL_law wsX10_dust := goodIn_r _ [853, 696, 697, 40, 15, 854, 855, 232, 233, 234, 2, 235, 172, 173, 179, 180, 181, 856, 857, 858, 39, 859, 128, 129, 860, 861, 862, 863, 864, 865, 702, 703, 866, 237, 238, 51, 239, 72, 705, 706, 867, 459, 460, 47, 461, 462, 463, 464, 465, 61, 364, 365, 366, 367, 60, 62, 63, 368, 369, 370, 371, 64, 65, 66, 868, 869, 870, 871, 229, 230, 231, 872, 518, 519, 873, 874, 875, 972, 973, 974, 975, 976, 977, 978, 979, 1043, 1044, 1045, 1046, 1019, 1020, 1021, 1022, 1047, 1048, 1049, 1050, 1051, 1052, 1053, 1054] (by decide +kernel) (by decide +kernel)
set_option maxRecDepth 20000 in
theorem gL_law_X10_dust : GoodIn wsL_law (wsV RL 128 RX10 yX10_dust wsX10_dust) := goodIn_app (goodIn_r _ [850, 851, 852, 2] (by decide +kernel) (by decide +kernel)) ggL_law_X10_dust
set_option maxRecDepth 20000 in
theorem ggL_law_X11_dust : GoodIn wsL_law wsX11_dust := goodIn_r _ [879, 717, 880, 881, 719, 134, 163, 246, 247, 248, 5, 249, 161, 189, 190, 191, 165, 166, 167, 426, 427, 428, 429, 430, 431, 432, 433, 162, 154, 211, 434, 435, 436, 437, 438, 439, 440, 212, 155, 156, 441, 442, 443, 444, 882, 883, 884, 980, 981, 982, 983, 984, 985, 986, 987, 988, 989, 990, 991, 992, 993, 994, 995, 996, 997, 998, 999, 1000, 1001, 1002, 1003, 1004, 1005, 1006, 1007, 1008, 1009, 1010, 1011, 1012, 1013, 1014, 1015, 1016, 1017, 1018] (by decide +kernel) (by decide +kernel)
set_option maxRecDepth 20000 in
theorem gL_law_X11_dust : GoodIn wsL_law (wsV RL 131 RX11 yX11_dust wsX11_dust) := goodIn_app (goodIn_r _ [876, 877, 878, 5] (by decide +kernel) (by decide +kernel)) ggL_law_X11_dust
set_option maxRecDepth 20000 in
theorem ggL_law_X10_rent : GoodIn wsL_law wsX10_rent := goodIn_r _ [888, 15, 172, 232, 233, 234, 2, 235, 173, 179, 180, 181, 484, 485, 486, 487, 889, 890, 891, 47, 892, 64, 557, 229, 230, 231, 558, 378, 379, 544, 511, 512, 513, 62, 514, 515, 516, 517, 60, 61, 518, 519, 520, 521, 893, 894, 895, 896, 368, 369, 370, 371, 65, 66, 462, 463, 464, 465, 364, 365, 366, 367, 63, 897, 898, 899, 900, 529, 459, 460, 461, 523, 524, 972, 973, 974, 975, 976, 977, 978, 979, 1019, 1020, 1021, 1022, 1047, 1048, 1049, 1050, 1051, 1052, 1053] (by decide +kernel) (by decide +kernel)
set_option maxRecDepth 20000 in
theorem gL_law_X10_rent : GoodIn wsL_law (wsV RL 132 RX10 yX10_rent wsX10_rent) := goodIn_app (goodIn_r _ [885, 886, 887, 2] (by decide +kernel) (by decide +kernel)) ggL_law_X10_rent
set_option maxRecDepth 20000 in
theorem ggL_law_X11_rent : GoodIn wsL_law wsX11_rent := goodIn_r _ [904, 563, 217, 246, 247, 248, 5, 249, 161, 189, 190, 191, 492, 493, 494, 495, 430, 431, 432, 433, 162, 154, 211, 434, 435, 436, 437, 438, 439, 440, 212, 155, 156, 905, 906, 907, 908, 426, 427, 428, 429, 980, 981, 982, 983, 984, 985, 986, 987, 988, 989, 990, 991, 992, 993, 994, 995, 996, 997, 998, 999, 1000, 1001, 1002, 1003, 1004, 1005, 1006, 1007, 1008, 1009, 1010, 1011, 1012, 1013, 1014, 1015, 1016, 1017, 1018] (by decide +kernel) (by decide +kernel)
set_option maxRecDepth 20000 in
theorem gL_law_X11_rent : GoodIn wsL_law (wsV RL 135 RX11 yX11_rent wsX11_rent) := goodIn_app (goodIn_r _ [901, 902, 903, 5] (by decide +kernel) (by decide +kernel)) ggL_law_X11_rent
set_option maxRecDepth 20000 in
theorem ggL_law_X10_age : GoodIn wsL_law wsX10_age := goodIn_r _ [912, 24, 15, 313, 453, 455, 173, 913, 179, 180, 2, 181, 318, 319, 320, 23, 321, 99, 322, 101, 323, 102, 324, 325, 326, 327, 328, 329, 330, 331, 332, 333, 334, 47, 335, 60, 61, 62, 63, 64, 65, 66, 336, 337, 338, 51, 339, 72, 340, 341, 342, 343, 914, 915, 916, 917, 359, 918, 523, 524, 387, 388, 389, 390, 380, 237, 238, 239, 77, 78, 79, 80, 355, 356, 357, 358, 360, 361, 362, 363, 364, 365, 366, 367, 368, 369, 370, 371, 372, 373, 374, 375, 376, 229, 230, 231, 377, 378, 379, 381, 382, 383, 384, 919, 620, 621, 622, 972, 973, 974, 975, 976, 977, 978, 979, 1025, 1026, 1027, 1028, 1029, 1030, 1031, 1032, 1033, 1034, 1047, 1048, 1049, 1050, 1051, 1052, 1053, 1019, 1020, 1021, 1022, 1054] (by decide +kernel) (by decide +kernel)
set_option maxRecDepth 20000 in
theorem gL_law_X10_age : GoodIn wsL_law (wsV RL 136 RX10 yX10_age wsX10_age) := goodIn_app (goodIn_r _ [909, 910, 911, 2] (by decide +kernel) (by decide +kernel)) ggL_law_X10_age
set_option maxRecDepth 20000 in
theorem ggL_law_X11_age : GoodIn wsL_law wsX11_age := goodIn_r _ [923, 563, 217, 187, 924, 925, 926, 161, 134, 398, 189, 190, 5, 191, 405, 406, 407, 408, 144, 163, 409, 143, 165, 166, 167, 414, 415, 416, 417, 418, 419, 420, 421, 422, 423, 424, 425, 426, 427, 428, 429, 430, 431, 432, 433, 162, 154, 211, 434, 435, 436, 437, 438, 439, 440, 212, 155, 156, 441, 442, 443, 444, 445, 446, 447, 448, 980, 981, 982, 983, 984, 985, 986, 987, 988, 989, 990, 991, 992, 993, 994, 995, 996, 997, 998, 999, 1000, 1001, 1002, 1003, 1004, 1005, 1006, 1007, 1008, 1009, 1010, 1011, 1012, 1013, 1014, 1015, 1016, 1017, 1018] (by decide +kernel) (by decide +kernel)
set_option maxRecDepth 20000 in
theorem gL_law_X11_age : GoodIn wsL_law (wsV RL 139 RX11 yX11_age wsX11_age) := goodIn_app (goodIn_r _ [920, 921, 922, 5] (by decide +kernel) (by decide +kernel)) ggL_law_X11_age
set_option maxRecDepth 20000 in
theorem ggL_law_X10_image : GoodIn wsL_law wsX10_image := goodIn_r _ [930, 16, 12, 13, 14, 15, 41, 42, 43, 44, 10, 11, 45, 46, 47, 48, 49, 50, 51, 52, 53, 54, 55, 56, 57, 58, 59, 60, 61, 62, 63, 64, 65, 66, 67, 68, 69, 70, 71, 72, 73, 74, 75, 76, 77, 78, 79, 80, 81, 82, 83, 84, 85, 86, 87, 931, 932, 933, 934, 588, 935, 333, 334, 335, 936, 337, 338, 339, 340, 2, 341, 937, 938, 939, 940, 764, 972, 973, 974, 975, 976, 977, 978, 979, 1019, 1020, 1021, 1022, 1047, 1048, 1049, 1050, 1051, 1052, 1053, 1054, 1055, 1056, 1057, 1058] (by decide +kernel) (by decide +kernel)
set_option maxRecDepth 20000 in
theorem gL_law_X10_image : GoodIn wsL_law (wsV RL 140 RX10 yX10_image wsX10_image) := goodIn_app (goodIn_r _ [927, 928, 929, 2] (by decide +kernel) (by decide +kernel)) ggL_law_X10_image
set_option maxRecDepth 20000 in
theorem ggL_law_X11_image : GoodIn wsL_law wsX11_image := goodIn_r _ [944, 945, 946, 153, 189, 190, 5, 191, 947, 948, 949, 950, 161, 162, 154, 211, 212, 155, 156, 163, 164, 134, 135, 136, 137, 951, 952, 953, 954, 151, 980, 981, 982, 983, 984, 985, 986, 987, 988, 989, 990, 991, 992, 993, 994, 995, 996, 997, 998, 999, 1000, 1001, 1002, 1003, 1004, 1005, 1006, 1007, 1008, 1009, 1010, 1011, 1012, 1013, 1014, 1015, 1016, 1017, 1018] (by decide +kernel) (by decide +kernel)
set_option maxRecDepth 20000 in
theorem gL_law_X11_image : GoodIn wsL_law (wsV RL 143 RX11 yX11_image wsX11_image) := goodIn_app (goodIn_r _ [941, 942, 943, 5] (by decide +kernel) (by decide +kernel)) ggL_law_X11_image
set_option maxRecDepth 20000 in
theorem ggL_law_X10_restore : GoodIn wsL_law wsX10_restore := goodIn_r _ [958, 16, 15, 931, 932, 933, 14, 934, 48, 52, 56, 588, 935, 333, 334, 47, 335, 60, 61, 62, 63, 64, 65, 66, 936, 337, 338, 51, 339, 72, 340, 2, 341, 937, 938, 939, 55, 940, 85, 86, 87, 764, 972, 973, 974, 975, 976, 977, 978, 979, 1019, 1020, 1021, 1022, 1047, 1048, 1049, 1050, 1051, 1052, 1053, 1054, 1055, 1056, 1057, 1058] (by decide +kernel) (by decide +kernel)
set_option maxRecDepth 20000 in
theorem gL_law_X10_restore : GoodIn wsL_law (wsV RL 144 RX10 yX10_restore wsX10_restore) := goodIn_app (goodIn_r _ [955, 956, 957, 2] (by decide +kernel) (by decide +kernel)) ggL_law_X10_restore
set_option maxRecDepth 20000 in
theorem ggL_law_X11_restore : GoodIn wsL_law wsX11_restore := goodIn_r _ [962, 153, 945, 946, 189, 190, 5, 191, 947, 948, 949, 950, 161, 162, 154, 211, 212, 155, 156, 163, 164, 134, 135, 136, 137, 951, 952, 953, 954, 151, 980, 981, 982, 983, 984, 985, 986, 987, 988, 989, 990, 991, 992, 993, 994, 995, 996, 997, 998, 999, 1000, 1001, 1002, 1003, 1004, 1005, 1006, 1007, 1008, 1009, 1010, 1011, 1012, 1013, 1014, 1015, 1016, 1017, 1018] (by decide +kernel) (by decide +kernel)
set_option maxRecDepth 20000 in
theorem gL_law_X11_restore : GoodIn wsL_law (wsV RL 147 RX11 yX11_restore wsX11_restore) := goodIn_app (goodIn_r _ [959, 960, 961, 5] (by decide +kernel) (by decide +kernel)) ggL_law_X11_restore
set_option maxRecDepth 20000 in
theorem ggL_law_X10_told : GoodIn wsL_law wsX10_told := goodIn_r _ [966, 15, 175, 20, 254, 172, 173, 174, 178, 176, 177, 232, 233, 234, 2, 235, 179, 180, 181, 236, 237, 238, 51, 239, 72, 199, 200, 201, 47, 202, 62, 63, 64, 65, 66, 972, 973, 974, 975, 976, 977, 978, 979, 1019, 1020, 1021, 1022, 1023, 1024, 1047, 1048, 1049, 1050, 1051, 1052, 1053, 1055, 1056, 1057, 1058, 1054] (by decide +kernel) (by decide +kernel)
set_option maxRecDepth 20000 in
theorem gL_law_X10_told : GoodIn wsL_law (wsV RL 148 RX10 yX10_told wsX10_told) := goodIn_app (goodIn_r _ [963, 964, 965, 2] (by decide +kernel) (by decide +kernel)) ggL_law_X10_told
set_option maxRecDepth 20000 in
theorem ggL_law_X11_told : GoodIn wsL_law wsX11_told := goodIn_r _ [970, 880, 217, 134, 266, 161, 162, 163, 164, 245, 971, 189, 190, 5, 191, 246, 247, 248, 249, 165, 166, 167, 220, 221, 222, 223, 154, 211, 212, 155, 156, 980, 981, 982, 983, 984, 985, 986, 987, 988, 989, 990, 991, 992, 993, 994, 995, 996, 997, 998, 999, 1000, 1001, 1002, 1003, 1004, 1005, 1006, 1007, 1008, 1009, 1010, 1011, 1012, 1013, 1014, 1015, 1016, 1017, 1018] (by decide +kernel) (by decide +kernel)
set_option maxRecDepth 20000 in
theorem gL_law_X11_told : GoodIn wsL_law (wsV RL 151 RX11 yX11_told wsX11_told) := goodIn_app (goodIn_r _ [967, 968, 969, 5] (by decide +kernel) (by decide +kernel)) ggL_law_X11_told
theorem dL_law_0 : decode cL_law 0 = .ok (.new 7, 3) := by decide +kernel
theorem dL_law_3 : decode cL_law 3 = .ok (.dup, 1) := by decide +kernel
theorem dL_law_4 : decode cL_law 4 = .ok (.invokespecial 9, 3) := by decide +kernel
theorem dL_law_7 : decode cL_law 7 = .ok (.astore_n 1, 1) := by decide +kernel
theorem dL_law_8 : decode cL_law 8 = .ok (.new 10, 3) := by decide +kernel
theorem dL_law_11 : decode cL_law 11 = .ok (.dup, 1) := by decide +kernel
theorem dL_law_12 : decode cL_law 12 = .ok (.invokespecial 12, 3) := by decide +kernel
theorem dL_law_15 : decode cL_law 15 = .ok (.astore_n 2, 1) := by decide +kernel
theorem dL_law_16 : decode cL_law 16 = .ok (.iconst 0, 1) := by decide +kernel
theorem dL_law_17 : decode cL_law 17 = .ok (.istore_n 3, 1) := by decide +kernel
theorem dL_law_18 : decode cL_law 18 = .ok (.iload_n 3, 1) := by decide +kernel
theorem dL_law_19 : decode cL_law 19 = .ok (.aload_n 0, 1) := by decide +kernel
theorem dL_law_20 : decode cL_law 20 = .ok (.arraylength, 1) := by decide +kernel
theorem dL_law_21 : decode cL_law 21 = .ok (.iconst 5, 1) := by decide +kernel
