theorem dX11_lowest_46 : decode cX11_lowest 46 = .ok (.ldiv, 1) := by decide +kernel
theorem dX11_lowest_47 : decode cX11_lowest 47 = .ok (.lreturn, 1) := by decide +kernel
set_option maxRecDepth 20000 in
theorem ggX11_dust_X11_isLand : GoodIn wsX11_dust wsX11_isLand := goodIn_r _ [11, 12, 13, 14, 10, 15, 47, 48, 49, 50, 51, 52, 53, 54, 55, 56, 57, 58, 59, 60, 61, 62, 63, 64, 65, 66, 67, 68, 69, 70, 71, 72, 73, 74, 75, 76, 77, 78, 79, 80, 81, 82, 83, 84, 85] rfl (by decide +kernel)
set_option maxRecDepth 20000 in
theorem gX11_dust_X11_isLand : GoodIn wsX11_dust (wsV RX11 129 RX11 yX11_isLand wsX11_isLand) := goodIn_app (goodIn_r _ [7, 8, 9, 10] rfl (by decide +kernel)) ggX11_dust_X11_isLand
set_option maxRecDepth 20000 in
theorem ggX11_dust_X11_in : GoodIn wsX11_dust wsX11_in := goodIn_r _ [15] rfl (by decide +kernel)
set_option maxRecDepth 20000 in
theorem gX11_dust_X11_in : GoodIn wsX11_dust (va_wsS RX11 99 yX11_in wsX11_in) := goodIn_app (goodIn_r _ [13, 14, 10] rfl (by decide +kernel)) ggX11_dust_X11_in
set_option maxRecDepth 20000 in
theorem ggX11_dust_X11_at : GoodIn wsX11_dust wsX11_at := goodIn_r _ [18] rfl (by decide +kernel)
set_option maxRecDepth 20000 in
theorem gX11_dust_X11_at : GoodIn wsX11_dust (va_wsS RX11 95 yX11_at wsX11_at) := goodIn_app (goodIn_r _ [16, 17, 10] rfl (by decide +kernel)) ggX11_dust_X11_at
set_option maxRecDepth 20000 in
theorem ggX11_dust_X11_isLit : GoodIn wsX11_dust wsX11_isLit := goodIn_r _ [22, 23, 24, 25, 10, 26, 12, 27, 28, 29, 30, 31, 32, 33, 34, 35, 36, 37, 38, 39, 47, 48, 49, 50, 51, 52, 53, 54, 55, 56, 57, 58, 59, 60, 61, 62, 63, 64, 65, 66, 67, 68, 69, 70, 71, 72, 73, 74, 75, 76, 77, 78, 79, 80, 81, 82, 83, 84, 85] rfl (by decide +kernel)
set_option maxRecDepth 20000 in
theorem gX11_dust_X11_isLit : GoodIn wsX11_dust (wsV RX11 159 RX11 yX11_isLit wsX11_isLit) := goodIn_app (goodIn_r _ [19, 20, 21, 10] rfl (by decide +kernel)) ggX11_dust_X11_isLit
set_option maxRecDepth 20000 in
theorem ggX11_dust_X11_eats : GoodIn wsX11_dust wsX11_eats := goodIn_r _ [43, 5, 16, 17, 10, 18, 47, 48, 49, 50, 51, 52, 53, 54, 55, 56, 57, 58, 59, 60, 61, 62, 63, 64, 65, 66, 67, 68, 69, 70, 71, 72, 73, 74, 75, 76, 77, 78, 79, 80, 81, 82, 83, 84, 85] rfl (by decide +kernel)
set_option maxRecDepth 20000 in
theorem gX11_dust_X11_eats : GoodIn wsX11_dust (wsV RX11 162 RX11 yX11_eats wsX11_eats) := goodIn_app (goodIn_r _ [40, 41, 42, 10] rfl (by decide +kernel)) ggX11_dust_X11_eats
set_option maxRecDepth 20000 in
theorem ggX11_dust_X11_lowest : GoodIn wsX11_dust wsX11_lowest := goodIn_r _ [46] rfl (by decide +kernel)
set_option maxRecDepth 20000 in
theorem gX11_dust_X11_lowest : GoodIn wsX11_dust (va_wsS RX11 277 yX11_lowest wsX11_lowest) := goodIn_app (goodIn_r _ [44, 45, 10] rfl (by decide +kernel)) ggX11_dust_X11_lowest
theorem dX11_dust_0 : decode cX11_dust 0 = .ok (.aload_n 0, 1) := by decide +kernel
theorem dX11_dust_1 : decode cX11_dust 1 = .ok (.iload_n 1, 1) := by decide +kernel
theorem dX11_dust_2 : decode cX11_dust 2 = .ok (.invokevirtual 129, 3) := by decide +kernel
theorem dX11_dust_5 : decode cX11_dust 5 = .ok (.ifCond .ne 7, 3) := by decide +kernel
theorem dX11_dust_8 : decode cX11_dust 8 = .ok (.ldc2_w 245, 3) := by decide +kernel
theorem dX11_dust_11 : decode cX11_dust 11 = .ok (.lreturn, 1) := by decide +kernel
theorem dX11_dust_12 : decode cX11_dust 12 = .ok (.iload_n 2, 1) := by decide +kernel
theorem dX11_dust_13 : decode cX11_dust 13 = .ok (.i2l, 1) := by decide +kernel
theorem dX11_dust_14 : decode cX11_dust 14 = .ok (.lconst 0, 1) := by decide +kernel
theorem dX11_dust_15 : decode cX11_dust 15 = .ok (.ldc2_w 273, 3) := by decide +kernel
theorem dX11_dust_18 : decode cX11_dust 18 = .ok (.invokestatic 99, 3) := by decide +kernel
theorem dX11_dust_21 : decode cX11_dust 21 = .ok (.ifCond .eq 26, 3) := by decide +kernel
theorem dX11_dust_24 : decode cX11_dust 24 = .ok (.iload_n 3, 1) := by decide +kernel
theorem dX11_dust_25 : decode cX11_dust 25 = .ok (.i2l, 1) := by decide +kernel
theorem dX11_dust_26 : decode cX11_dust 26 = .ok (.lconst 0, 1) := by decide +kernel
theorem dX11_dust_27 : decode cX11_dust 27 = .ok (.ldc2_w 275, 3) := by decide +kernel
theorem dX11_dust_30 : decode cX11_dust 30 = .ok (.invokestatic 99, 3) := by decide +kernel
theorem dX11_dust_33 : decode cX11_dust 33 = .ok (.ifCond .eq 14, 3) := by decide +kernel
theorem dX11_dust_36 : decode cX11_dust 36 = .ok (.iload 4, 2) := by decide +kernel
theorem dX11_dust_38 : decode cX11_dust 38 = .ok (.i2l, 1) := by decide +kernel
theorem dX11_dust_39 : decode cX11_dust 39 = .ok (.lconst 0, 1) := by decide +kernel
theorem dX11_dust_40 : decode cX11_dust 40 = .ok (.lconst 1, 1) := by decide +kernel
theorem dX11_dust_41 : decode cX11_dust 41 = .ok (.invokestatic 99, 3) := by decide +kernel
theorem dX11_dust_44 : decode cX11_dust 44 = .ok (.ifCond .ne 7, 3) := by decide +kernel
theorem dX11_dust_47 : decode cX11_dust 47 = .ok (.ldc2_w 249, 3) := by decide +kernel
theorem dX11_dust_50 : decode cX11_dust 50 = .ok (.lreturn, 1) := by decide +kernel
theorem dX11_dust_51 : decode cX11_dust 51 = .ok (.aload_n 0, 1) := by decide +kernel
theorem dX11_dust_52 : decode cX11_dust 52 = .ok (.getfield 7, 3) := by decide +kernel
theorem dX11_dust_55 : decode cX11_dust 55 = .ok (.iconst 2, 1) := by decide +kernel
theorem dX11_dust_56 : decode cX11_dust 56 = .ok (.iload_n 1, 1) := by decide +kernel
theorem dX11_dust_57 : decode cX11_dust 57 = .ok (.invokestatic 95, 3) := by decide +kernel
theorem dX11_dust_60 : decode cX11_dust 60 = .ok (.iaload, 1) := by decide +kernel
theorem dX11_dust_61 : decode cX11_dust 61 = .ok (.istore 5, 2) := by decide +kernel
theorem dX11_dust_63 : decode cX11_dust 63 = .ok (.lconst 0, 1) := by decide +kernel
theorem dX11_dust_64 : decode cX11_dust 64 = .ok (.lstore 6, 2) := by decide +kernel
theorem dX11_dust_66 : decode cX11_dust 66 = .ok (.lconst 0, 1) := by decide +kernel
theorem dX11_dust_67 : decode cX11_dust 67 = .ok (.lstore 8, 2) := by decide +kernel
theorem dX11_dust_69 : decode cX11_dust 69 = .ok (.iconst 0, 1) := by decide +kernel
theorem dX11_dust_70 : decode cX11_dust 70 = .ok (.istore 10, 2) := by decide +kernel
theorem dX11_dust_72 : decode cX11_dust 72 = .ok (.iload 10, 2) := by decide +kernel
theorem dX11_dust_74 : decode cX11_dust 74 = .ok (.iconst 1, 1) := by decide +kernel
theorem dX11_dust_75 : decode cX11_dust 75 = .ok (.iload_n 3, 1) := by decide +kernel
theorem dX11_dust_76 : decode cX11_dust 76 = .ok (.ishl, 1) := by decide +kernel
theorem dX11_dust_77 : decode cX11_dust 77 = .ok (.if_icmp .ge 148, 3) := by decide +kernel
theorem dX11_dust_80 : decode cX11_dust 80 = .ok (.lconst 1, 1) := by decide +kernel
theorem dX11_dust_81 : decode cX11_dust 81 = .ok (.lstore 11, 2) := by decide +kernel
theorem dX11_dust_83 : decode cX11_dust 83 = .ok (.iconst 1, 1) := by decide +kernel
theorem dX11_dust_84 : decode cX11_dust 84 = .ok (.istore 13, 2) := by decide +kernel
theorem dX11_dust_86 : decode cX11_dust 86 = .ok (.aload_n 0, 1) := by decide +kernel
theorem dX11_dust_87 : decode cX11_dust 87 = .ok (.getfield 7, 3) := by decide +kernel
theorem dX11_dust_90 : decode cX11_dust 90 = .ok (.iconst 2, 1) := by decide +kernel
theorem dX11_dust_91 : decode cX11_dust 91 = .ok (.iload_n 1, 1) := by decide +kernel
theorem dX11_dust_92 : decode cX11_dust 92 = .ok (.invokestatic 95, 3) := by decide +kernel
theorem dX11_dust_95 : decode cX11_dust 95 = .ok (.iload 5, 2) := by decide +kernel
theorem dX11_dust_97 : decode cX11_dust 97 = .ok (.iastore, 1) := by decide +kernel
theorem dX11_dust_98 : decode cX11_dust 98 = .ok (.iconst 0, 1) := by decide +kernel
theorem dX11_dust_99 : decode cX11_dust 99 = .ok (.istore 14, 2) := by decide +kernel
theorem dX11_dust_101 : decode cX11_dust 101 = .ok (.iload 14, 2) := by decide +kernel
theorem dX11_dust_103 : decode cX11_dust 103 = .ok (.iload_n 3, 1) := by decide +kernel
theorem dX11_dust_104 : decode cX11_dust 104 = .ok (.if_icmp .ge 92, 3) := by decide +kernel
theorem dX11_dust_107 : decode cX11_dust 107 = .ok (.iload 10, 2) := by decide +kernel
theorem dX11_dust_109 : decode cX11_dust 109 = .ok (.iload 14, 2) := by decide +kernel
theorem dX11_dust_111 : decode cX11_dust 111 = .ok (.ishr, 1) := by decide +kernel
theorem dX11_dust_112 : decode cX11_dust 112 = .ok (.iconst 1, 1) := by decide +kernel
theorem dX11_dust_113 : decode cX11_dust 113 = .ok (.iand, 1) := by decide +kernel
theorem dX11_dust_114 : decode cX11_dust 114 = .ok (.iconst 1, 1) := by decide +kernel
theorem dX11_dust_115 : decode cX11_dust 115 = .ok (.if_icmp .ne 7, 3) := by decide +kernel
theorem dX11_dust_118 : decode cX11_dust 118 = .ok (.iconst 1, 1) := by decide +kernel
theorem dX11_dust_119 : decode cX11_dust 119 = .ok (.goto 4, 3) := by decide +kernel
theorem dX11_dust_122 : decode cX11_dust 122 = .ok (.iconst 0, 1) := by decide +kernel
theorem dX11_dust_123 : decode cX11_dust 123 = .ok (.istore 15, 2) := by decide +kernel
theorem dX11_dust_125 : decode cX11_dust 125 = .ok (.lload 11, 2) := by decide +kernel
theorem dX11_dust_127 : decode cX11_dust 127 = .ok (.iload 15, 2) := by decide +kernel
theorem dX11_dust_129 : decode cX11_dust 129 = .ok (.ifCond .eq 8, 3) := by decide +kernel
theorem dX11_dust_132 : decode cX11_dust 132 = .ok (.iload_n 2, 1) := by decide +kernel
theorem dX11_dust_133 : decode cX11_dust 133 = .ok (.i2l, 1) := by decide +kernel
theorem dX11_dust_134 : decode cX11_dust 134 = .ok (.goto 8, 3) := by decide +kernel
theorem dX11_dust_137 : decode cX11_dust 137 = .ok (.bipush 10, 2) := by decide +kernel
theorem dX11_dust_139 : decode cX11_dust 139 = .ok (.iload_n 2, 1) := by decide +kernel
theorem dX11_dust_140 : decode cX11_dust 140 = .ok (.isub, 1) := by decide +kernel
theorem dX11_dust_141 : decode cX11_dust 141 = .ok (.i2l, 1) := by decide +kernel
theorem dX11_dust_142 : decode cX11_dust 142 = .ok (.lmul, 1) := by decide +kernel
theorem dX11_dust_143 : decode cX11_dust 143 = .ok (.lstore 11, 2) := by decide +kernel
theorem dX11_dust_145 : decode cX11_dust 145 = .ok (.aload_n 0, 1) := by decide +kernel
theorem dX11_dust_146 : decode cX11_dust 146 = .ok (.iload_n 1, 1) := by decide +kernel
theorem dX11_dust_147 : decode cX11_dust 147 = .ok (.iload 15, 2) := by decide +kernel
theorem dX11_dust_149 : decode cX11_dust 149 = .ok (.ifCond .ne 22, 3) := by decide +kernel
theorem dX11_dust_152 : decode cX11_dust 152 = .ok (.aload_n 0, 1) := by decide +kernel
theorem dX11_dust_153 : decode cX11_dust 153 = .ok (.iload_n 1, 1) := by decide +kernel
theorem dX11_dust_154 : decode cX11_dust 154 = .ok (.aload_n 0, 1) := by decide +kernel
theorem dX11_dust_155 : decode cX11_dust 155 = .ok (.getfield 89, 3) := by decide +kernel
theorem dX11_dust_158 : decode cX11_dust 158 = .ok (.iload 14, 2) := by decide +kernel
theorem dX11_dust_160 : decode cX11_dust 160 = .ok (.iadd, 1) := by decide +kernel
theorem dX11_dust_161 : decode cX11_dust 161 = .ok (.invokevirtual 159, 3) := by decide +kernel
theorem dX11_dust_164 : decode cX11_dust 164 = .ok (.ifCond .eq 7, 3) := by decide +kernel
theorem dX11_dust_167 : decode cX11_dust 167 = .ok (.iconst 1, 1) := by decide +kernel
theorem dX11_dust_168 : decode cX11_dust 168 = .ok (.goto 4, 3) := by decide +kernel
theorem dX11_dust_171 : decode cX11_dust 171 = .ok (.iconst 0, 1) := by decide +kernel
theorem dX11_dust_172 : decode cX11_dust 172 = .ok (.invokevirtual 162, 3) := by decide +kernel
theorem dX11_dust_175 : decode cX11_dust 175 = .ok (.ifCond .ne 12, 3) := by decide +kernel
theorem dX11_dust_178 : decode cX11_dust 178 = .ok (.iload 13, 2) := by decide +kernel
theorem dX11_dust_180 : decode cX11_dust 180 = .ok (.ifCond .eq 7, 3) := by decide +kernel
theorem dX11_dust_183 : decode cX11_dust 183 = .ok (.iconst 1, 1) := by decide +kernel
theorem dX11_dust_184 : decode cX11_dust 184 = .ok (.goto 4, 3) := by decide +kernel
theorem dX11_dust_187 : decode cX11_dust 187 = .ok (.iconst 0, 1) := by decide +kernel
theorem dX11_dust_188 : decode cX11_dust 188 = .ok (.istore 13, 2) := by decide +kernel
theorem dX11_dust_190 : decode cX11_dust 190 = .ok (.iinc 14 1, 3) := by decide +kernel
theorem dX11_dust_193 : decode cX11_dust 193 = .ok (.goto (-92), 3) := by decide +kernel
theorem dX11_dust_196 : decode cX11_dust 196 = .ok (.lload 8, 2) := by decide +kernel
theorem dX11_dust_198 : decode cX11_dust 198 = .ok (.lload 11, 2) := by decide +kernel
theorem dX11_dust_200 : decode cX11_dust 200 = .ok (.ladd, 1) := by decide +kernel
theorem dX11_dust_201 : decode cX11_dust 201 = .ok (.lstore 8, 2) := by decide +kernel
theorem dX11_dust_203 : decode cX11_dust 203 = .ok (.lload 6, 2) := by decide +kernel
theorem dX11_dust_205 : decode cX11_dust 205 = .ok (.iload 13, 2) := by decide +kernel
theorem dX11_dust_207 : decode cX11_dust 207 = .ok (.ifCond .eq 8, 3) := by decide +kernel
theorem dX11_dust_210 : decode cX11_dust 210 = .ok (.lload 11, 2) := by decide +kernel
theorem dX11_dust_212 : decode cX11_dust 212 = .ok (.goto 4, 3) := by decide +kernel
theorem dX11_dust_215 : decode cX11_dust 215 = .ok (.lconst 0, 1) := by decide +kernel
theorem dX11_dust_216 : decode cX11_dust 216 = .ok (.ladd, 1) := by decide +kernel
theorem dX11_dust_217 : decode cX11_dust 217 = .ok (.lstore 6, 2) := by decide +kernel
theorem dX11_dust_219 : decode cX11_dust 219 = .ok (.iinc 10 1, 3) := by decide +kernel
theorem dX11_dust_222 : decode cX11_dust 222 = .ok (.goto (-150), 3) := by decide +kernel
theorem dX11_dust_225 : decode cX11_dust 225 = .ok (.aload_n 0, 1) := by decide +kernel
theorem dX11_dust_226 : decode cX11_dust 226 = .ok (.getfield 7, 3) := by decide +kernel
theorem dX11_dust_229 : decode cX11_dust 229 = .ok (.iconst 2, 1) := by decide +kernel
theorem dX11_dust_230 : decode cX11_dust 230 = .ok (.iload_n 1, 1) := by decide +kernel
theorem dX11_dust_231 : decode cX11_dust 231 = .ok (.invokestatic 95, 3) := by decide +kernel
theorem dX11_dust_234 : decode cX11_dust 234 = .ok (.iload 5, 2) := by decide +kernel
theorem dX11_dust_236 : decode cX11_dust 236 = .ok (.iastore, 1) := by decide +kernel
theorem dX11_dust_237 : decode cX11_dust 237 = .ok (.lload 6, 2) := by decide +kernel
theorem dX11_dust_239 : decode cX11_dust 239 = .ok (.lload 8, 2) := by decide +kernel
theorem dX11_dust_241 : decode cX11_dust 241 = .ok (.iload 4, 2) := by decide +kernel
theorem dX11_dust_243 : decode cX11_dust 243 = .ok (.invokestatic 277, 3) := by decide +kernel
theorem dX11_dust_246 : decode cX11_dust 246 = .ok (.lreturn, 1) := by decide +kernel
set_option maxRecDepth 20000 in
theorem ggX11_darkAhead_X11_isLit : GoodIn wsX11_darkAhead wsX11_isLit := goodIn_r _ [5, 6, 7, 8, 4, 9, 10, 11, 12, 13, 14, 15, 16, 17, 18, 19, 20, 21, 22, 23, 24, 25, 26, 27, 28, 29, 30, 31, 32, 33, 34, 35, 36, 37, 38, 39, 40, 41, 42, 43, 44, 45, 46, 47, 48, 49, 50, 51, 52, 53, 54, 55, 56, 57, 58, 59, 60, 61, 62] rfl (by decide +kernel)
set_option maxRecDepth 20000 in
theorem gX11_darkAhead_X11_isLit : GoodIn wsX11_darkAhead (wsV RX11 159 RX11 yX11_isLit wsX11_isLit) := goodIn_app (goodIn_r _ [1, 2, 3, 4] rfl (by decide +kernel)) ggX11_darkAhead_X11_isLit
theorem dX11_darkAhead_0 : decode cX11_darkAhead 0 = .ok (.iconst 0, 1) := by decide +kernel
theorem dX11_darkAhead_1 : decode cX11_darkAhead 1 = .ok (.istore_n 3, 1) := by decide +kernel
theorem dX11_darkAhead_2 : decode cX11_darkAhead 2 = .ok (.iload_n 3, 1) := by decide +kernel
theorem dX11_darkAhead_3 : decode cX11_darkAhead 3 = .ok (.bipush 9, 2) := by decide +kernel
theorem dX11_darkAhead_5 : decode cX11_darkAhead 5 = .ok (.if_icmp .ge 30, 3) := by decide +kernel
theorem dX11_darkAhead_8 : decode cX11_darkAhead 8 = .ok (.iload_n 2, 1) := by decide +kernel
theorem dX11_darkAhead_9 : decode cX11_darkAhead 9 = .ok (.iconst 1, 1) := by decide +kernel
theorem dX11_darkAhead_10 : decode cX11_darkAhead 10 = .ok (.isub, 1) := by decide +kernel
theorem dX11_darkAhead_11 : decode cX11_darkAhead 11 = .ok (.iload_n 3, 1) := by decide +kernel
theorem dX11_darkAhead_12 : decode cX11_darkAhead 12 = .ok (.isub, 1) := by decide +kernel
theorem dX11_darkAhead_13 : decode cX11_darkAhead 13 = .ok (.ifCond .lt 22, 3) := by decide +kernel
theorem dX11_darkAhead_16 : decode cX11_darkAhead 16 = .ok (.aload_n 0, 1) := by decide +kernel
theorem dX11_darkAhead_17 : decode cX11_darkAhead 17 = .ok (.iload_n 1, 1) := by decide +kernel
theorem dX11_darkAhead_18 : decode cX11_darkAhead 18 = .ok (.iload_n 2, 1) := by decide +kernel
theorem dX11_darkAhead_19 : decode cX11_darkAhead 19 = .ok (.iconst 1, 1) := by decide +kernel
theorem dX11_darkAhead_20 : decode cX11_darkAhead 20 = .ok (.isub, 1) := by decide +kernel
theorem dX11_darkAhead_21 : decode cX11_darkAhead 21 = .ok (.iload_n 3, 1) := by decide +kernel
theorem dX11_darkAhead_22 : decode cX11_darkAhead 22 = .ok (.isub, 1) := by decide +kernel
theorem dX11_darkAhead_23 : decode cX11_darkAhead 23 = .ok (.invokevirtual 159, 3) := by decide +kernel
theorem dX11_darkAhead_26 : decode cX11_darkAhead 26 = .ok (.ifCond .ne 9, 3) := by decide +kernel
theorem dX11_darkAhead_29 : decode cX11_darkAhead 29 = .ok (.iinc 3 1, 3) := by decide +kernel
theorem dX11_darkAhead_32 : decode cX11_darkAhead 32 = .ok (.goto (-30), 3) := by decide +kernel
theorem dX11_darkAhead_35 : decode cX11_darkAhead 35 = .ok (.iload_n 3, 1) := by decide +kernel
theorem dX11_darkAhead_36 : decode cX11_darkAhead 36 = .ok (.ireturn, 1) := by decide +kernel
set_option maxRecDepth 20000 in
theorem ggX11_rent_X11_isLand : GoodIn wsX11_rent wsX11_isLand := goodIn_r _ [7, 8, 9, 10, 6, 11, 41, 42, 43, 44, 45, 46, 47, 48, 49, 50, 51, 52, 53, 54, 55, 56, 57, 58, 59, 60, 61, 62, 63, 64, 65, 66, 67, 68, 69, 70, 71, 72, 73, 74, 75, 76, 77, 78, 79] rfl (by decide +kernel)
set_option maxRecDepth 20000 in
theorem gX11_rent_X11_isLand : GoodIn wsX11_rent (wsV RX11 129 RX11 yX11_isLand wsX11_isLand) := goodIn_app (goodIn_r _ [3, 4, 5, 6] rfl (by decide +kernel)) ggX11_rent_X11_isLand
set_option maxRecDepth 20000 in
theorem ggX11_rent_X11_isYear : GoodIn wsX11_rent wsX11_isYear := goodIn_r _ [14, 15, 9, 10, 6, 11] rfl (by decide +kernel)
set_option maxRecDepth 20000 in
theorem gX11_rent_X11_isYear : GoodIn wsX11_rent (va_wsS RX11 212 yX11_isYear wsX11_isYear) := goodIn_app (goodIn_r _ [12, 13, 6] rfl (by decide +kernel)) ggX11_rent_X11_isYear
set_option maxRecDepth 20000 in
theorem ggX11_rent_X11_in : GoodIn wsX11_rent wsX11_in := goodIn_r _ [11] rfl (by decide +kernel)
set_option maxRecDepth 20000 in
theorem gX11_rent_X11_in : GoodIn wsX11_rent (va_wsS RX11 99 yX11_in wsX11_in) := goodIn_app (goodIn_r _ [9, 10, 6] rfl (by decide +kernel)) ggX11_rent_X11_in
set_option maxRecDepth 20000 in
theorem ggX11_rent_X11_isCovered : GoodIn wsX11_rent wsX11_isCovered := goodIn_r _ [19, 8, 20, 21, 22, 23, 24, 6, 25, 41, 42, 43, 44, 45, 46, 47, 48, 49, 50, 51, 52, 53, 54, 55, 56, 57, 58, 59, 60, 61, 62, 63, 64, 65, 66, 67, 68, 69, 70, 71, 72, 73, 74, 75, 76, 77, 78, 79] rfl (by decide +kernel)
set_option maxRecDepth 20000 in
theorem gX11_rent_X11_isCovered : GoodIn wsX11_rent (wsV RX11 153 RX11 yX11_isCovered wsX11_isCovered) := goodIn_app (goodIn_r _ [16, 17, 18, 6] rfl (by decide +kernel)) ggX11_rent_X11_isCovered
set_option maxRecDepth 20000 in
theorem ggX11_rent_X11_isSlit : GoodIn wsX11_rent wsX11_isSlit := goodIn_r _ [29, 30, 31, 32, 41, 42, 43, 44, 45, 46, 47, 48, 49, 50, 51, 52, 53, 54, 55, 56, 57, 58, 59, 60, 61, 62, 63, 64, 65, 66, 67, 68, 69, 70, 71, 72, 73, 74, 75, 76, 77, 78, 79] rfl (by decide +kernel)
set_option maxRecDepth 20000 in
theorem gX11_rent_X11_isSlit : GoodIn wsX11_rent (wsV RX11 156 RX11 yX11_isSlit wsX11_isSlit) := goodIn_app (goodIn_r _ [26, 27, 28, 6] rfl (by decide +kernel)) ggX11_rent_X11_isSlit
set_option maxRecDepth 20000 in
theorem ggX11_rent_X11_darkAhead : GoodIn wsX11_rent wsX11_darkAhead := goodIn_r _ [36, 37, 38, 39, 6, 40, 16, 17, 18, 19, 8, 20, 21, 22, 23, 24, 25, 26, 27, 28, 29, 30, 31, 32, 41, 42, 43, 44, 45, 46, 47, 48, 49, 50, 51, 52, 53, 54, 55, 56, 57, 58, 59, 60, 61, 62, 63, 64, 65, 66, 67, 68, 69, 70, 71, 72, 73, 74, 75, 76, 77, 78, 79] rfl (by decide +kernel)
set_option maxRecDepth 20000 in
theorem gX11_rent_X11_darkAhead : GoodIn wsX11_rent (wsV RX11 281 RX11 yX11_darkAhead wsX11_darkAhead) := goodIn_app (goodIn_r _ [33, 34, 35, 6] rfl (by decide +kernel)) ggX11_rent_X11_darkAhead
theorem dX11_rent_0 : decode cX11_rent 0 = .ok (.aload_n 0, 1) := by decide +kernel
theorem dX11_rent_1 : decode cX11_rent 1 = .ok (.iload_n 1, 1) := by decide +kernel
theorem dX11_rent_2 : decode cX11_rent 2 = .ok (.invokevirtual 129, 3) := by decide +kernel
theorem dX11_rent_5 : decode cX11_rent 5 = .ok (.ifCond .ne 5, 3) := by decide +kernel
theorem dX11_rent_8 : decode cX11_rent 8 = .ok (.iconst (-1), 1) := by decide +kernel
theorem dX11_rent_9 : decode cX11_rent 9 = .ok (.ireturn, 1) := by decide +kernel
theorem dX11_rent_10 : decode cX11_rent 10 = .ok (.iload_n 2, 1) := by decide +kernel
theorem dX11_rent_11 : decode cX11_rent 11 = .ok (.invokestatic 212, 3) := by decide +kernel
theorem dX11_rent_14 : decode cX11_rent 14 = .ok (.ifCond .eq 28, 3) := by decide +kernel
theorem dX11_rent_17 : decode cX11_rent 17 = .ok (.iload_n 3, 1) := by decide +kernel
theorem dX11_rent_18 : decode cX11_rent 18 = .ok (.i2l, 1) := by decide +kernel
theorem dX11_rent_19 : decode cX11_rent 19 = .ok (.lconst 0, 1) := by decide +kernel
theorem dX11_rent_20 : decode cX11_rent 20 = .ok (.ldc2_w 217, 3) := by decide +kernel
theorem dX11_rent_23 : decode cX11_rent 23 = .ok (.invokestatic 99, 3) := by decide +kernel
theorem dX11_rent_26 : decode cX11_rent 26 = .ok (.ifCond .eq 16, 3) := by decide +kernel
theorem dX11_rent_29 : decode cX11_rent 29 = .ok (.iload 4, 2) := by decide +kernel
theorem dX11_rent_31 : decode cX11_rent 31 = .ok (.i2l, 1) := by decide +kernel
theorem dX11_rent_32 : decode cX11_rent 32 = .ok (.lconst 0, 1) := by decide +kernel
theorem dX11_rent_33 : decode cX11_rent 33 = .ok (.ldc2_w 109, 3) := by decide +kernel
theorem dX11_rent_36 : decode cX11_rent 36 = .ok (.invokestatic 99, 3) := by decide +kernel
theorem dX11_rent_39 : decode cX11_rent 39 = .ok (.ifCond .ne 6, 3) := by decide +kernel
theorem dX11_rent_42 : decode cX11_rent 42 = .ok (.bipush (-2), 2) := by decide +kernel
theorem dX11_rent_44 : decode cX11_rent 44 = .ok (.ireturn, 1) := by decide +kernel
theorem dX11_rent_45 : decode cX11_rent 45 = .ok (.iconst 0, 1) := by decide +kernel
theorem dX11_rent_46 : decode cX11_rent 46 = .ok (.istore 5, 2) := by decide +kernel
theorem dX11_rent_48 : decode cX11_rent 48 = .ok (.iload_n 2, 1) := by decide +kernel
theorem dX11_rent_49 : decode cX11_rent 49 = .ok (.istore 6, 2) := by decide +kernel
theorem dX11_rent_51 : decode cX11_rent 51 = .ok (.iload 6, 2) := by decide +kernel
theorem dX11_rent_53 : decode cX11_rent 53 = .ok (.iload_n 2, 1) := by decide +kernel
theorem dX11_rent_54 : decode cX11_rent 54 = .ok (.iload_n 3, 1) := by decide +kernel
theorem dX11_rent_55 : decode cX11_rent 55 = .ok (.iadd, 1) := by decide +kernel
theorem dX11_rent_56 : decode cX11_rent 56 = .ok (.if_icmp .ge 48, 3) := by decide +kernel
theorem dX11_rent_59 : decode cX11_rent 59 = .ok (.iload 5, 2) := by decide +kernel
theorem dX11_rent_61 : decode cX11_rent 61 = .ok (.aload_n 0, 1) := by decide +kernel
theorem dX11_rent_62 : decode cX11_rent 62 = .ok (.iload_n 1, 1) := by decide +kernel
theorem dX11_rent_63 : decode cX11_rent 63 = .ok (.iload 6, 2) := by decide +kernel
theorem dX11_rent_65 : decode cX11_rent 65 = .ok (.invokevirtual 153, 3) := by decide +kernel
theorem dX11_rent_68 : decode cX11_rent 68 = .ok (.ifCond .eq 26, 3) := by decide +kernel
theorem dX11_rent_71 : decode cX11_rent 71 = .ok (.aload_n 0, 1) := by decide +kernel
theorem dX11_rent_72 : decode cX11_rent 72 = .ok (.iload_n 1, 1) := by decide +kernel
theorem dX11_rent_73 : decode cX11_rent 73 = .ok (.iload 6, 2) := by decide +kernel
theorem dX11_rent_75 : decode cX11_rent 75 = .ok (.invokevirtual 156, 3) := by decide +kernel
theorem dX11_rent_78 : decode cX11_rent 78 = .ok (.ifCond .eq 16, 3) := by decide +kernel
theorem dX11_rent_81 : decode cX11_rent 81 = .ok (.iload 4, 2) := by decide +kernel
theorem dX11_rent_83 : decode cX11_rent 83 = .ok (.aload_n 0, 1) := by decide +kernel
theorem dX11_rent_84 : decode cX11_rent 84 = .ok (.iload_n 1, 1) := by decide +kernel
theorem dX11_rent_85 : decode cX11_rent 85 = .ok (.iload 6, 2) := by decide +kernel
theorem dX11_rent_87 : decode cX11_rent 87 = .ok (.invokevirtual 281, 3) := by decide +kernel
theorem dX11_rent_90 : decode cX11_rent 90 = .ok (.imul, 1) := by decide +kernel
theorem dX11_rent_91 : decode cX11_rent 91 = .ok (.goto 4, 3) := by decide +kernel
theorem dX11_rent_94 : decode cX11_rent 94 = .ok (.iconst 0, 1) := by decide +kernel
theorem dX11_rent_95 : decode cX11_rent 95 = .ok (.iadd, 1) := by decide +kernel
theorem dX11_rent_96 : decode cX11_rent 96 = .ok (.istore 5, 2) := by decide +kernel
theorem dX11_rent_98 : decode cX11_rent 98 = .ok (.iinc 6 1, 3) := by decide +kernel
theorem dX11_rent_101 : decode cX11_rent 101 = .ok (.goto (-50), 3) := by decide +kernel
theorem dX11_rent_104 : decode cX11_rent 104 = .ok (.iload 5, 2) := by decide +kernel
theorem dX11_rent_106 : decode cX11_rent 106 = .ok (.ireturn, 1) := by decide +kernel
set_option maxRecDepth 20000 in
theorem ggX11_age_X11_in : GoodIn wsX11_age wsX11_in := goodIn_r _ [13] rfl (by decide +kernel)
set_option maxRecDepth 20000 in
theorem gX11_age_X11_in : GoodIn wsX11_age (va_wsS RX11 99 yX11_in wsX11_in) := goodIn_app (goodIn_r _ [10, 11, 12] rfl (by decide +kernel)) ggX11_age_X11_in
set_option maxRecDepth 20000 in
theorem ggX11_age_X11_keepNow : GoodIn wsX11_age wsX11_keepNow := goodIn_r _ [17, 18, 8, 19, 20, 9, 21, 22, 23, 12, 24, 66, 67, 68, 69, 70, 71, 72, 73, 74, 75, 76, 77, 78, 79, 80, 81, 82, 83, 84, 85, 86, 87, 88, 89, 90, 91, 92, 93, 94, 95, 96, 97, 98, 99, 100, 101, 102, 103, 104] rfl (by decide +kernel)
set_option maxRecDepth 20000 in
theorem gX11_age_X11_keepNow : GoodIn wsX11_age (wsV RX11 197 RX11 yX11_keepNow wsX11_keepNow) := goodIn_app (goodIn_r _ [14, 15, 16, 12] rfl (by decide +kernel)) ggX11_age_X11_keepNow
set_option maxRecDepth 20000 in
theorem ggX11_age_X11_whyNotLend : GoodIn wsX11_age wsX11_whyNotLend := goodIn_r _ [28, 8, 22, 23, 12, 24, 66, 67, 68, 69, 70, 71, 72, 73, 74, 75, 76, 77, 78, 79, 80, 81, 82, 83, 84, 85, 86, 87, 88, 89, 90, 91, 92, 93, 94, 95, 96, 97, 98, 99, 100, 101, 102, 103, 104] rfl (by decide +kernel)
set_option maxRecDepth 20000 in
theorem gX11_age_X11_whyNotLend : GoodIn wsX11_age (wsV RX11 181 RX11 yX11_whyNotLend wsX11_whyNotLend) := goodIn_app (goodIn_r _ [25, 26, 27, 12] rfl (by decide +kernel)) ggX11_age_X11_whyNotLend
set_option maxRecDepth 20000 in
theorem ggX11_age_X11_lend : GoodIn wsX11_age wsX11_lend := goodIn_r _ [32, 8, 22, 23, 12, 24, 66, 67, 68, 69, 70, 71, 72, 73, 74, 75, 76, 77, 78, 79, 80, 81, 82, 83, 84, 85, 86, 87, 88, 89, 90, 91, 92, 93, 94, 95, 96, 97, 98, 99, 100, 101, 102, 103, 104] rfl (by decide +kernel)
set_option maxRecDepth 20000 in
theorem gX11_age_X11_lend : GoodIn wsX11_age (wsV RX11 185 RX11 yX11_lend wsX11_lend) := goodIn_app (goodIn_r _ [29, 30, 31, 12] rfl (by decide +kernel)) ggX11_age_X11_lend
set_option maxRecDepth 20000 in
theorem ggX11_age_X11_passYear : GoodIn wsX11_age wsX11_passYear := goodIn_r _ [36, 7, 19, 9, 21, 37, 38, 39, 12, 40, 41, 42, 43, 44, 45, 46, 47, 48, 49, 50, 51, 52, 53, 54, 55, 56, 57, 58, 59, 60, 61, 8, 22, 23, 24, 66, 67, 68, 69, 70, 71, 72, 73, 74, 75, 76, 77, 78, 79, 80, 81, 82, 83, 84, 85, 86, 87, 88, 89, 90, 91, 92, 93, 94, 95, 96, 97, 98, 99, 100, 101, 102, 103, 104] rfl (by decide +kernel)
set_option maxRecDepth 20000 in
theorem gX11_age_X11_passYear : GoodIn wsX11_age (wsV RX11 189 RX11 yX11_passYear wsX11_passYear) := goodIn_app (goodIn_r _ [33, 34, 35, 12] rfl (by decide +kernel)) ggX11_age_X11_passYear
set_option maxRecDepth 20000 in
theorem ggX11_age_X11_at : GoodIn wsX11_age wsX11_at := goodIn_r _ [24] rfl (by decide +kernel)
set_option maxRecDepth 20000 in
theorem gX11_age_X11_at : GoodIn wsX11_age (va_wsS RX11 95 yX11_at wsX11_at) := goodIn_app (goodIn_r _ [22, 23, 12] rfl (by decide +kernel)) ggX11_age_X11_at
set_option maxRecDepth 20000 in
theorem ggX11_age_X11_putBack : GoodIn wsX11_age wsX11_putBack := goodIn_r _ [65, 8, 18, 20, 19, 22, 23, 12, 24, 66, 67, 68, 69, 70, 71, 72, 73, 74, 75, 76, 77, 78, 79, 80, 81, 82, 83, 84, 85, 86, 87, 88, 89, 90, 91, 92, 93, 94, 95, 96, 97, 98, 99, 100, 101, 102, 103, 104] rfl (by decide +kernel)
set_option maxRecDepth 20000 in
theorem gX11_age_X11_putBack : GoodIn wsX11_age (wsV RX11 206 RX11 yX11_putBack wsX11_putBack) := goodIn_app (goodIn_r _ [62, 63, 64, 12] rfl (by decide +kernel)) ggX11_age_X11_putBack
theorem dX11_age_0 : decode cX11_age 0 = .ok (.iload_n 1, 1) := by decide +kernel
theorem dX11_age_1 : decode cX11_age 1 = .ok (.i2l, 1) := by decide +kernel
theorem dX11_age_2 : decode cX11_age 2 = .ok (.lconst 0, 1) := by decide +kernel
theorem dX11_age_3 : decode cX11_age 3 = .ok (.ldc2_w 217, 3) := by decide +kernel
theorem dX11_age_6 : decode cX11_age 6 = .ok (.invokestatic 99, 3) := by decide +kernel
theorem dX11_age_9 : decode cX11_age 9 = .ok (.ifCond .eq 27, 3) := by decide +kernel
theorem dX11_age_12 : decode cX11_age 12 = .ok (.iload_n 2, 1) := by decide +kernel
theorem dX11_age_13 : decode cX11_age 13 = .ok (.i2l, 1) := by decide +kernel
theorem dX11_age_14 : decode cX11_age 14 = .ok (.lconst 1, 1) := by decide +kernel
theorem dX11_age_15 : decode cX11_age 15 = .ok (.ldc2_w 109, 3) := by decide +kernel
theorem dX11_age_18 : decode cX11_age 18 = .ok (.invokestatic 99, 3) := by decide +kernel
theorem dX11_age_21 : decode cX11_age 21 = .ok (.ifCond .eq 15, 3) := by decide +kernel
theorem dX11_age_24 : decode cX11_age 24 = .ok (.iload_n 3, 1) := by decide +kernel
theorem dX11_age_25 : decode cX11_age 25 = .ok (.i2l, 1) := by decide +kernel
theorem dX11_age_26 : decode cX11_age 26 = .ok (.lconst 0, 1) := by decide +kernel
theorem dX11_age_27 : decode cX11_age 27 = .ok (.ldc2_w 105, 3) := by decide +kernel
theorem dX11_age_30 : decode cX11_age 30 = .ok (.invokestatic 99, 3) := by decide +kernel
theorem dX11_age_33 : decode cX11_age 33 = .ok (.ifCond .ne 6, 3) := by decide +kernel
theorem dX11_age_36 : decode cX11_age 36 = .ok (.bipush (-2), 2) := by decide +kernel
theorem dX11_age_38 : decode cX11_age 38 = .ok (.ireturn, 1) := by decide +kernel
theorem dX11_age_39 : decode cX11_age 39 = .ok (.aload_n 0, 1) := by decide +kernel
theorem dX11_age_40 : decode cX11_age 40 = .ok (.invokevirtual 197, 3) := by decide +kernel
theorem dX11_age_43 : decode cX11_age 43 = .ok (.iload_n 1, 1) := by decide +kernel
theorem dX11_age_44 : decode cX11_age 44 = .ok (.istore 4, 2) := by decide +kernel
theorem dX11_age_46 : decode cX11_age 46 = .ok (.iconst 0, 1) := by decide +kernel
theorem dX11_age_47 : decode cX11_age 47 = .ok (.istore 5, 2) := by decide +kernel
theorem dX11_age_49 : decode cX11_age 49 = .ok (.iconst 0, 1) := by decide +kernel
theorem dX11_age_50 : decode cX11_age 50 = .ok (.istore 6, 2) := by decide +kernel
theorem dX11_age_52 : decode cX11_age 52 = .ok (.iload 6, 2) := by decide +kernel
theorem dX11_age_54 : decode cX11_age 54 = .ok (.iload_n 2, 1) := by decide +kernel
theorem dX11_age_55 : decode cX11_age 55 = .ok (.if_icmp .ge 90, 3) := by decide +kernel
theorem dX11_age_58 : decode cX11_age 58 = .ok (.ldc2_w 284, 3) := by decide +kernel
theorem dX11_age_61 : decode cX11_age 61 = .ok (.iload 4, 2) := by decide +kernel
theorem dX11_age_63 : decode cX11_age 63 = .ok (.i2l, 1) := by decide +kernel
theorem dX11_age_64 : decode cX11_age 64 = .ok (.lmul, 1) := by decide +kernel
theorem dX11_age_65 : decode cX11_age 65 = .ok (.ldc2_w 286, 3) := by decide +kernel
theorem dX11_age_68 : decode cX11_age 68 = .ok (.ladd, 1) := by decide +kernel
theorem dX11_age_69 : decode cX11_age 69 = .ok (.ldc2_w 288, 3) := by decide +kernel
theorem dX11_age_72 : decode cX11_age 72 = .ok (.lrem, 1) := by decide +kernel
theorem dX11_age_73 : decode cX11_age 73 = .ok (.l2i, 1) := by decide +kernel
theorem dX11_age_74 : decode cX11_age 74 = .ok (.istore 4, 2) := by decide +kernel
theorem dX11_age_76 : decode cX11_age 76 = .ok (.iload 4, 2) := by decide +kernel
theorem dX11_age_78 : decode cX11_age 78 = .ok (.aload_n 0, 1) := by decide +kernel
theorem dX11_age_79 : decode cX11_age 79 = .ok (.getfield 83, 3) := by decide +kernel
theorem dX11_age_82 : decode cX11_age 82 = .ok (.irem, 1) := by decide +kernel
theorem dX11_age_83 : decode cX11_age 83 = .ok (.istore 7, 2) := by decide +kernel
theorem dX11_age_85 : decode cX11_age 85 = .ok (.iload 4, 2) := by decide +kernel
theorem dX11_age_87 : decode cX11_age 87 = .ok (.bipush 9, 2) := by decide +kernel
theorem dX11_age_89 : decode cX11_age 89 = .ok (.idiv, 1) := by decide +kernel
theorem dX11_age_90 : decode cX11_age 90 = .ok (.aload_n 0, 1) := by decide +kernel
theorem dX11_age_91 : decode cX11_age 91 = .ok (.getfield 83, 3) := by decide +kernel
theorem dX11_age_94 : decode cX11_age 94 = .ok (.irem, 1) := by decide +kernel
theorem dX11_age_95 : decode cX11_age 95 = .ok (.istore 8, 2) := by decide +kernel
theorem dX11_age_97 : decode cX11_age 97 = .ok (.iconst 1, 1) := by decide +kernel
theorem dX11_age_98 : decode cX11_age 98 = .ok (.iload 4, 2) := by decide +kernel
theorem dX11_age_100 : decode cX11_age 100 = .ok (.bipush 81, 2) := by decide +kernel
theorem dX11_age_102 : decode cX11_age 102 = .ok (.idiv, 1) := by decide +kernel
theorem dX11_age_103 : decode cX11_age 103 = .ok (.iconst 5, 1) := by decide +kernel
theorem dX11_age_104 : decode cX11_age 104 = .ok (.irem, 1) := by decide +kernel
theorem dX11_age_105 : decode cX11_age 105 = .ok (.iadd, 1) := by decide +kernel
theorem dX11_age_106 : decode cX11_age 106 = .ok (.istore 9, 2) := by decide +kernel
theorem dX11_age_108 : decode cX11_age 108 = .ok (.aload_n 0, 1) := by decide +kernel
theorem dX11_age_109 : decode cX11_age 109 = .ok (.iload 7, 2) := by decide +kernel
theorem dX11_age_111 : decode cX11_age 111 = .ok (.iload 8, 2) := by decide +kernel
theorem dX11_age_113 : decode cX11_age 113 = .ok (.iload 9, 2) := by decide +kernel
theorem dX11_age_115 : decode cX11_age 115 = .ok (.invokevirtual 181, 3) := by decide +kernel
theorem dX11_age_118 : decode cX11_age 118 = .ok (.ifCond .ne 16, 3) := by decide +kernel
theorem dX11_age_121 : decode cX11_age 121 = .ok (.aload_n 0, 1) := by decide +kernel
theorem dX11_age_122 : decode cX11_age 122 = .ok (.iload 7, 2) := by decide +kernel
theorem dX11_age_124 : decode cX11_age 124 = .ok (.iload 8, 2) := by decide +kernel
theorem dX11_age_126 : decode cX11_age 126 = .ok (.iload 9, 2) := by decide +kernel
theorem dX11_age_128 : decode cX11_age 128 = .ok (.invokevirtual 185, 3) := by decide +kernel
theorem dX11_age_131 : decode cX11_age 131 = .ok (.iinc 5 1, 3) := by decide +kernel
theorem dX11_age_134 : decode cX11_age 134 = .ok (.aload_n 0, 1) := by decide +kernel
theorem dX11_age_135 : decode cX11_age 135 = .ok (.invokevirtual 189, 3) := by decide +kernel
theorem dX11_age_138 : decode cX11_age 138 = .ok (.pop, 1) := by decide +kernel
theorem dX11_age_139 : decode cX11_age 139 = .ok (.iinc 6 1, 3) := by decide +kernel
theorem dX11_age_142 : decode cX11_age 142 = .ok (.goto (-90), 3) := by decide +kernel
theorem dX11_age_145 : decode cX11_age 145 = .ok (.iconst 0, 1) := by decide +kernel
theorem dX11_age_146 : decode cX11_age 146 = .ok (.istore 6, 2) := by decide +kernel
theorem dX11_age_148 : decode cX11_age 148 = .ok (.iconst 0, 1) := by decide +kernel
theorem dX11_age_149 : decode cX11_age 149 = .ok (.istore 7, 2) := by decide +kernel
theorem dX11_age_151 : decode cX11_age 151 = .ok (.iload 7, 2) := by decide +kernel
theorem dX11_age_153 : decode cX11_age 153 = .ok (.aload_n 0, 1) := by decide +kernel
theorem dX11_age_154 : decode cX11_age 154 = .ok (.getfield 83, 3) := by decide +kernel
theorem dX11_age_157 : decode cX11_age 157 = .ok (.if_icmp .ge 25, 3) := by decide +kernel
theorem dX11_age_160 : decode cX11_age 160 = .ok (.iload 6, 2) := by decide +kernel
theorem dX11_age_162 : decode cX11_age 162 = .ok (.aload_n 0, 1) := by decide +kernel
theorem dX11_age_163 : decode cX11_age 163 = .ok (.getfield 7, 3) := by decide +kernel
theorem dX11_age_166 : decode cX11_age 166 = .ok (.iconst 2, 1) := by decide +kernel
theorem dX11_age_167 : decode cX11_age 167 = .ok (.iload 7, 2) := by decide +kernel
theorem dX11_age_169 : decode cX11_age 169 = .ok (.invokestatic 95, 3) := by decide +kernel
theorem dX11_age_172 : decode cX11_age 172 = .ok (.iaload, 1) := by decide +kernel
theorem dX11_age_173 : decode cX11_age 173 = .ok (.iadd, 1) := by decide +kernel
theorem dX11_age_174 : decode cX11_age 174 = .ok (.istore 6, 2) := by decide +kernel
theorem dX11_age_176 : decode cX11_age 176 = .ok (.iinc 7 1, 3) := by decide +kernel
theorem dX11_age_179 : decode cX11_age 179 = .ok (.goto (-28), 3) := by decide +kernel
theorem dX11_age_182 : decode cX11_age 182 = .ok (.aload_n 0, 1) := by decide +kernel
theorem dX11_age_183 : decode cX11_age 183 = .ok (.invokevirtual 206, 3) := by decide +kernel
theorem dX11_age_186 : decode cX11_age 186 = .ok (.iload_n 3, 1) := by decide +kernel
theorem dX11_age_187 : decode cX11_age 187 = .ok (.ifCond .ne 10, 3) := by decide +kernel
theorem dX11_age_190 : decode cX11_age 190 = .ok (.aload_n 0, 1) := by decide +kernel
theorem dX11_age_191 : decode cX11_age 191 = .ok (.getfield 166, 3) := by decide +kernel
theorem dX11_age_194 : decode cX11_age 194 = .ok (.goto 15, 3) := by decide +kernel
theorem dX11_age_197 : decode cX11_age 197 = .ok (.iload_n 3, 1) := by decide +kernel
theorem dX11_age_198 : decode cX11_age 198 = .ok (.iconst 1, 1) := by decide +kernel
theorem dX11_age_199 : decode cX11_age 199 = .ok (.if_icmp .ne 8, 3) := by decide +kernel
theorem dX11_age_202 : decode cX11_age 202 = .ok (.iload 6, 2) := by decide +kernel
theorem dX11_age_204 : decode cX11_age 204 = .ok (.goto 5, 3) := by decide +kernel
theorem dX11_age_207 : decode cX11_age 207 = .ok (.iload 5, 2) := by decide +kernel
theorem dX11_age_209 : decode cX11_age 209 = .ok (.ireturn, 1) := by decide +kernel
theorem dX11_pass_0 : decode cX11_pass 0 = .ok (.aload_n 0, 1) := by decide +kernel
theorem dX11_pass_1 : decode cX11_pass 1 = .ok (.getfield 290, 3) := by decide +kernel
theorem dX11_pass_4 : decode cX11_pass 4 = .ok (.ifCond .eq 7, 3) := by decide +kernel
theorem dX11_pass_7 : decode cX11_pass 7 = .ok (.iload_n 1, 1) := by decide +kernel
theorem dX11_pass_8 : decode cX11_pass 8 = .ok (.goto 12, 3) := by decide +kernel
theorem dX11_pass_11 : decode cX11_pass 11 = .ok (.aload_n 0, 1) := by decide +kernel
theorem dX11_pass_12 : decode cX11_pass 12 = .ok (.getfield 62, 3) := by decide +kernel
theorem dX11_pass_15 : decode cX11_pass 15 = .ok (.aload_n 0, 1) := by decide +kernel
theorem dX11_pass_16 : decode cX11_pass 16 = .ok (.getfield 294, 3) := by decide +kernel
theorem dX11_pass_19 : decode cX11_pass 19 = .ok (.iaload, 1) := by decide +kernel
theorem dX11_pass_20 : decode cX11_pass 20 = .ok (.istore_n 2, 1) := by decide +kernel
theorem dX11_pass_21 : decode cX11_pass 21 = .ok (.aload_n 0, 1) := by decide +kernel
theorem dX11_pass_22 : decode cX11_pass 22 = .ok (.getfield 62, 3) := by decide +kernel
theorem dX11_pass_25 : decode cX11_pass 25 = .ok (.aload_n 0, 1) := by decide +kernel
theorem dX11_pass_26 : decode cX11_pass 26 = .ok (.getfield 294, 3) := by decide +kernel
theorem dX11_pass_29 : decode cX11_pass 29 = .ok (.iload_n 2, 1) := by decide +kernel
theorem dX11_pass_30 : decode cX11_pass 30 = .ok (.iastore, 1) := by decide +kernel
theorem dX11_pass_31 : decode cX11_pass 31 = .ok (.aload_n 0, 1) := by decide +kernel
theorem dX11_pass_32 : decode cX11_pass 32 = .ok (.dup, 1) := by decide +kernel
theorem dX11_pass_33 : decode cX11_pass 33 = .ok (.getfield 294, 3) := by decide +kernel
theorem dX11_pass_36 : decode cX11_pass 36 = .ok (.iconst 1, 1) := by decide +kernel
theorem dX11_pass_37 : decode cX11_pass 37 = .ok (.iadd, 1) := by decide +kernel
theorem dX11_pass_38 : decode cX11_pass 38 = .ok (.putfield 294, 3) := by decide +kernel
theorem dX11_pass_41 : decode cX11_pass 41 = .ok (.iload_n 2, 1) := by decide +kernel
theorem dX11_pass_42 : decode cX11_pass 42 = .ok (.ireturn, 1) := by decide +kernel
set_option maxRecDepth 20000 in
theorem ggX11_passAll_X11_pass : GoodIn wsX11_passAll wsX11_pass := goodIn_r _ [18, 19, 20, 21, 22, 23, 24, 25, 26, 27, 28, 29, 30, 31, 32, 33, 34, 35, 36, 37, 38, 39, 40, 41, 42, 43, 44, 45, 46, 47, 48, 49, 50, 51, 52, 53, 54, 55, 56, 57, 58, 59, 60] rfl (by decide +kernel)
set_option maxRecDepth 20000 in
theorem gX11_passAll_X11_pass : GoodIn wsX11_passAll (wsV RX11 297 RX11 yX11_pass wsX11_pass) := goodIn_app (goodIn_r _ [14, 15, 16, 17] rfl (by decide +kernel)) ggX11_passAll_X11_pass
theorem dX11_passAll_0 : decode cX11_passAll 0 = .ok (.aload_n 0, 1) := by decide +kernel
theorem dX11_passAll_1 : decode cX11_passAll 1 = .ok (.aload_n 0, 1) := by decide +kernel
theorem dX11_passAll_2 : decode cX11_passAll 2 = .ok (.aload_n 0, 1) := by decide +kernel
theorem dX11_passAll_3 : decode cX11_passAll 3 = .ok (.getfield 83, 3) := by decide +kernel
theorem dX11_passAll_6 : decode cX11_passAll 6 = .ok (.invokevirtual 297, 3) := by decide +kernel
theorem dX11_passAll_9 : decode cX11_passAll 9 = .ok (.putfield 83, 3) := by decide +kernel
theorem dX11_passAll_12 : decode cX11_passAll 12 = .ok (.aload_n 0, 1) := by decide +kernel
theorem dX11_passAll_13 : decode cX11_passAll 13 = .ok (.aload_n 0, 1) := by decide +kernel
theorem dX11_passAll_14 : decode cX11_passAll 14 = .ok (.aload_n 0, 1) := by decide +kernel
theorem dX11_passAll_15 : decode cX11_passAll 15 = .ok (.getfield 86, 3) := by decide +kernel
theorem dX11_passAll_18 : decode cX11_passAll 18 = .ok (.invokevirtual 297, 3) := by decide +kernel
theorem dX11_passAll_21 : decode cX11_passAll 21 = .ok (.putfield 86, 3) := by decide +kernel
theorem dX11_passAll_24 : decode cX11_passAll 24 = .ok (.aload_n 0, 1) := by decide +kernel
theorem dX11_passAll_25 : decode cX11_passAll 25 = .ok (.aload_n 0, 1) := by decide +kernel
theorem dX11_passAll_26 : decode cX11_passAll 26 = .ok (.aload_n 0, 1) := by decide +kernel
theorem dX11_passAll_27 : decode cX11_passAll 27 = .ok (.getfield 69, 3) := by decide +kernel
theorem dX11_passAll_30 : decode cX11_passAll 30 = .ok (.invokevirtual 297, 3) := by decide +kernel
theorem dX11_passAll_33 : decode cX11_passAll 33 = .ok (.putfield 69, 3) := by decide +kernel
theorem dX11_passAll_36 : decode cX11_passAll 36 = .ok (.aload_n 0, 1) := by decide +kernel
theorem dX11_passAll_37 : decode cX11_passAll 37 = .ok (.aload_n 0, 1) := by decide +kernel
theorem dX11_passAll_38 : decode cX11_passAll 38 = .ok (.aload_n 0, 1) := by decide +kernel
theorem dX11_passAll_39 : decode cX11_passAll 39 = .ok (.getfield 115, 3) := by decide +kernel
theorem dX11_passAll_42 : decode cX11_passAll 42 = .ok (.invokevirtual 297, 3) := by decide +kernel
theorem dX11_passAll_45 : decode cX11_passAll 45 = .ok (.putfield 115, 3) := by decide +kernel
theorem dX11_passAll_48 : decode cX11_passAll 48 = .ok (.aload_n 0, 1) := by decide +kernel
theorem dX11_passAll_49 : decode cX11_passAll 49 = .ok (.aload_n 0, 1) := by decide +kernel
theorem dX11_passAll_50 : decode cX11_passAll 50 = .ok (.aload_n 0, 1) := by decide +kernel
theorem dX11_passAll_51 : decode cX11_passAll 51 = .ok (.getfield 118, 3) := by decide +kernel
theorem dX11_passAll_54 : decode cX11_passAll 54 = .ok (.invokevirtual 297, 3) := by decide +kernel
theorem dX11_passAll_57 : decode cX11_passAll 57 = .ok (.putfield 118, 3) := by decide +kernel
theorem dX11_passAll_60 : decode cX11_passAll 60 = .ok (.aload_n 0, 1) := by decide +kernel
theorem dX11_passAll_61 : decode cX11_passAll 61 = .ok (.aload_n 0, 1) := by decide +kernel
theorem dX11_passAll_62 : decode cX11_passAll 62 = .ok (.aload_n 0, 1) := by decide +kernel
theorem dX11_passAll_63 : decode cX11_passAll 63 = .ok (.getfield 73, 3) := by decide +kernel
theorem dX11_passAll_66 : decode cX11_passAll 66 = .ok (.invokevirtual 297, 3) := by decide +kernel
theorem dX11_passAll_69 : decode cX11_passAll 69 = .ok (.putfield 73, 3) := by decide +kernel
theorem dX11_passAll_72 : decode cX11_passAll 72 = .ok (.aload_n 0, 1) := by decide +kernel
theorem dX11_passAll_73 : decode cX11_passAll 73 = .ok (.aload_n 0, 1) := by decide +kernel
theorem dX11_passAll_74 : decode cX11_passAll 74 = .ok (.aload_n 0, 1) := by decide +kernel
theorem dX11_passAll_75 : decode cX11_passAll 75 = .ok (.getfield 76, 3) := by decide +kernel
theorem dX11_passAll_78 : decode cX11_passAll 78 = .ok (.invokevirtual 297, 3) := by decide +kernel
theorem dX11_passAll_81 : decode cX11_passAll 81 = .ok (.putfield 76, 3) := by decide +kernel
theorem dX11_passAll_84 : decode cX11_passAll 84 = .ok (.aload_n 0, 1) := by decide +kernel
theorem dX11_passAll_85 : decode cX11_passAll 85 = .ok (.aload_n 0, 1) := by decide +kernel
theorem dX11_passAll_86 : decode cX11_passAll 86 = .ok (.aload_n 0, 1) := by decide +kernel
theorem dX11_passAll_87 : decode cX11_passAll 87 = .ok (.getfield 89, 3) := by decide +kernel
theorem dX11_passAll_90 : decode cX11_passAll 90 = .ok (.invokevirtual 297, 3) := by decide +kernel
theorem dX11_passAll_93 : decode cX11_passAll 93 = .ok (.putfield 89, 3) := by decide +kernel
theorem dX11_passAll_96 : decode cX11_passAll 96 = .ok (.aload_n 0, 1) := by decide +kernel
theorem dX11_passAll_97 : decode cX11_passAll 97 = .ok (.aload_n 0, 1) := by decide +kernel
theorem dX11_passAll_98 : decode cX11_passAll 98 = .ok (.aload_n 0, 1) := by decide +kernel
theorem dX11_passAll_99 : decode cX11_passAll 99 = .ok (.getfield 92, 3) := by decide +kernel
theorem dX11_passAll_102 : decode cX11_passAll 102 = .ok (.invokevirtual 297, 3) := by decide +kernel
theorem dX11_passAll_105 : decode cX11_passAll 105 = .ok (.putfield 92, 3) := by decide +kernel
theorem dX11_passAll_108 : decode cX11_passAll 108 = .ok (.iconst 0, 1) := by decide +kernel
theorem dX11_passAll_109 : decode cX11_passAll 109 = .ok (.istore_n 1, 1) := by decide +kernel
theorem dX11_passAll_110 : decode cX11_passAll 110 = .ok (.iload_n 1, 1) := by decide +kernel
theorem dX11_passAll_111 : decode cX11_passAll 111 = .ok (.bipush 36, 2) := by decide +kernel
theorem dX11_passAll_113 : decode cX11_passAll 113 = .ok (.if_icmp .ge 25, 3) := by decide +kernel
theorem dX11_passAll_116 : decode cX11_passAll 116 = .ok (.aload_n 0, 1) := by decide +kernel
theorem dX11_passAll_117 : decode cX11_passAll 117 = .ok (.getfield 7, 3) := by decide +kernel
theorem dX11_passAll_120 : decode cX11_passAll 120 = .ok (.iload_n 1, 1) := by decide +kernel
theorem dX11_passAll_121 : decode cX11_passAll 121 = .ok (.aload_n 0, 1) := by decide +kernel
theorem dX11_passAll_122 : decode cX11_passAll 122 = .ok (.aload_n 0, 1) := by decide +kernel
theorem dX11_passAll_123 : decode cX11_passAll 123 = .ok (.getfield 7, 3) := by decide +kernel
theorem dX11_passAll_126 : decode cX11_passAll 126 = .ok (.iload_n 1, 1) := by decide +kernel
theorem dX11_passAll_127 : decode cX11_passAll 127 = .ok (.iaload, 1) := by decide +kernel
theorem dX11_passAll_128 : decode cX11_passAll 128 = .ok (.invokevirtual 297, 3) := by decide +kernel
theorem dX11_passAll_131 : decode cX11_passAll 131 = .ok (.iastore, 1) := by decide +kernel
theorem dX11_passAll_132 : decode cX11_passAll 132 = .ok (.iinc 1 1, 3) := by decide +kernel
theorem dX11_passAll_135 : decode cX11_passAll 135 = .ok (.goto (-25), 3) := by decide +kernel
theorem dX11_passAll_138 : decode cX11_passAll 138 = .ok (.iconst 0, 1) := by decide +kernel
theorem dX11_passAll_139 : decode cX11_passAll 139 = .ok (.istore_n 1, 1) := by decide +kernel
theorem dX11_passAll_140 : decode cX11_passAll 140 = .ok (.iload_n 1, 1) := by decide +kernel
theorem dX11_passAll_141 : decode cX11_passAll 141 = .ok (.bipush 8, 2) := by decide +kernel
theorem dX11_passAll_143 : decode cX11_passAll 143 = .ok (.if_icmp .ge 57, 3) := by decide +kernel
theorem dX11_passAll_146 : decode cX11_passAll 146 = .ok (.aload_n 0, 1) := by decide +kernel
theorem dX11_passAll_147 : decode cX11_passAll 147 = .ok (.getfield 13, 3) := by decide +kernel
theorem dX11_passAll_150 : decode cX11_passAll 150 = .ok (.iload_n 1, 1) := by decide +kernel
theorem dX11_passAll_151 : decode cX11_passAll 151 = .ok (.aload_n 0, 1) := by decide +kernel
theorem dX11_passAll_152 : decode cX11_passAll 152 = .ok (.aload_n 0, 1) := by decide +kernel
theorem dX11_passAll_153 : decode cX11_passAll 153 = .ok (.getfield 13, 3) := by decide +kernel
theorem dX11_passAll_156 : decode cX11_passAll 156 = .ok (.iload_n 1, 1) := by decide +kernel
theorem dX11_passAll_157 : decode cX11_passAll 157 = .ok (.iaload, 1) := by decide +kernel
theorem dX11_passAll_158 : decode cX11_passAll 158 = .ok (.invokevirtual 297, 3) := by decide +kernel
theorem dX11_passAll_161 : decode cX11_passAll 161 = .ok (.iastore, 1) := by decide +kernel
theorem dX11_passAll_162 : decode cX11_passAll 162 = .ok (.aload_n 0, 1) := by decide +kernel
theorem dX11_passAll_163 : decode cX11_passAll 163 = .ok (.getfield 16, 3) := by decide +kernel
theorem dX11_passAll_166 : decode cX11_passAll 166 = .ok (.iload_n 1, 1) := by decide +kernel
theorem dX11_passAll_167 : decode cX11_passAll 167 = .ok (.aload_n 0, 1) := by decide +kernel
theorem dX11_passAll_168 : decode cX11_passAll 168 = .ok (.aload_n 0, 1) := by decide +kernel
theorem dX11_passAll_169 : decode cX11_passAll 169 = .ok (.getfield 16, 3) := by decide +kernel
theorem dX11_passAll_172 : decode cX11_passAll 172 = .ok (.iload_n 1, 1) := by decide +kernel
theorem dX11_passAll_173 : decode cX11_passAll 173 = .ok (.iaload, 1) := by decide +kernel
theorem dX11_passAll_174 : decode cX11_passAll 174 = .ok (.invokevirtual 297, 3) := by decide +kernel
theorem dX11_passAll_177 : decode cX11_passAll 177 = .ok (.iastore, 1) := by decide +kernel
theorem dX11_passAll_178 : decode cX11_passAll 178 = .ok (.aload_n 0, 1) := by decide +kernel
theorem dX11_passAll_179 : decode cX11_passAll 179 = .ok (.getfield 19, 3) := by decide +kernel
theorem dX11_passAll_182 : decode cX11_passAll 182 = .ok (.iload_n 1, 1) := by decide +kernel
theorem dX11_passAll_183 : decode cX11_passAll 183 = .ok (.aload_n 0, 1) := by decide +kernel
theorem dX11_passAll_184 : decode cX11_passAll 184 = .ok (.aload_n 0, 1) := by decide +kernel
theorem dX11_passAll_185 : decode cX11_passAll 185 = .ok (.getfield 19, 3) := by decide +kernel
theorem dX11_passAll_188 : decode cX11_passAll 188 = .ok (.iload_n 1, 1) := by decide +kernel
theorem dX11_passAll_189 : decode cX11_passAll 189 = .ok (.iaload, 1) := by decide +kernel
theorem dX11_passAll_190 : decode cX11_passAll 190 = .ok (.invokevirtual 297, 3) := by decide +kernel
theorem dX11_passAll_193 : decode cX11_passAll 193 = .ok (.iastore, 1) := by decide +kernel
theorem dX11_passAll_194 : decode cX11_passAll 194 = .ok (.iinc 1 1, 3) := by decide +kernel
theorem dX11_passAll_197 : decode cX11_passAll 197 = .ok (.goto (-57), 3) := by decide +kernel
theorem dX11_passAll_200 : decode cX11_passAll 200 = .ok (.return_, 1) := by decide +kernel
set_option maxRecDepth 20000 in
theorem ggX11_image_X11_in : GoodIn wsX11_image wsX11_in := goodIn_r _ [7] rfl (by decide +kernel)
set_option maxRecDepth 20000 in
theorem gX11_image_X11_in : GoodIn wsX11_image (va_wsS RX11 99 yX11_in wsX11_in) := goodIn_app (goodIn_r _ [4, 5, 6] rfl (by decide +kernel)) ggX11_image_X11_in
set_option maxRecDepth 20000 in
theorem ggX11_image_X11_passAll : GoodIn wsX11_image wsX11_passAll := goodIn_r _ [11, 12, 13, 14, 15, 16, 17, 18, 19, 20, 21, 22, 23, 24, 25, 26, 27, 6, 28, 2, 29, 1, 30, 31, 32, 33, 34, 35, 36, 37, 38, 39, 40, 41, 42, 43, 44, 45, 46, 47, 48, 49, 50, 51, 52, 53, 54, 55, 56, 57, 58, 59, 60, 61, 62, 63, 64, 65, 66, 67, 68] rfl (by decide +kernel)
set_option maxRecDepth 20000 in
theorem gX11_image_X11_passAll : GoodIn wsX11_image (wsV RX11 300 RX11 yX11_passAll wsX11_passAll) := goodIn_app (goodIn_r _ [8, 9, 10, 6] rfl (by decide +kernel)) ggX11_image_X11_passAll
theorem dX11_image_0 : decode cX11_image 0 = .ok (.iload_n 1, 1) := by decide +kernel
theorem dX11_image_1 : decode cX11_image 1 = .ok (.i2l, 1) := by decide +kernel
theorem dX11_image_2 : decode cX11_image 2 = .ok (.lconst 0, 1) := by decide +kernel
theorem dX11_image_3 : decode cX11_image 3 = .ok (.lconst 1, 1) := by decide +kernel
theorem dX11_image_4 : decode cX11_image 4 = .ok (.invokestatic 99, 3) := by decide +kernel
theorem dX11_image_7 : decode cX11_image 7 = .ok (.ifCond .ne 6, 3) := by decide +kernel
theorem dX11_image_10 : decode cX11_image 10 = .ok (.bipush (-2), 2) := by decide +kernel
theorem dX11_image_12 : decode cX11_image 12 = .ok (.ireturn, 1) := by decide +kernel
theorem dX11_image_13 : decode cX11_image 13 = .ok (.aload_n 0, 1) := by decide +kernel
theorem dX11_image_14 : decode cX11_image 14 = .ok (.bipush 80, 2) := by decide +kernel
theorem dX11_image_16 : decode cX11_image 16 = .ok (.iload_n 1, 1) := by decide +kernel
theorem dX11_image_17 : decode cX11_image 17 = .ok (.imul, 1) := by decide +kernel
theorem dX11_image_18 : decode cX11_image 18 = .ok (.putfield 294, 3) := by decide +kernel
theorem dX11_image_21 : decode cX11_image 21 = .ok (.aload_n 0, 1) := by decide +kernel
theorem dX11_image_22 : decode cX11_image 22 = .ok (.iconst 1, 1) := by decide +kernel
theorem dX11_image_23 : decode cX11_image 23 = .ok (.putfield 290, 3) := by decide +kernel
theorem dX11_image_26 : decode cX11_image 26 = .ok (.aload_n 0, 1) := by decide +kernel
theorem dX11_image_27 : decode cX11_image 27 = .ok (.invokevirtual 300, 3) := by decide +kernel
theorem dX11_image_30 : decode cX11_image 30 = .ok (.aload_n 0, 1) := by decide +kernel
theorem dX11_image_31 : decode cX11_image 31 = .ok (.getfield 65, 3) := by decide +kernel
theorem dX11_image_34 : decode cX11_image 34 = .ok (.iload_n 1, 1) := by decide +kernel
theorem dX11_image_35 : decode cX11_image 35 = .ok (.iconst 1, 1) := by decide +kernel
theorem dX11_image_36 : decode cX11_image 36 = .ok (.bastore, 1) := by decide +kernel
theorem dX11_image_37 : decode cX11_image 37 = .ok (.iconst 1, 1) := by decide +kernel
theorem dX11_image_38 : decode cX11_image 38 = .ok (.ireturn, 1) := by decide +kernel
set_option maxRecDepth 20000 in
theorem ggX11_restore_X11_in : GoodIn wsX11_restore wsX11_in := goodIn_r _ [7] rfl (by decide +kernel)
set_option maxRecDepth 20000 in
theorem gX11_restore_X11_in : GoodIn wsX11_restore (va_wsS RX11 99 yX11_in wsX11_in) := goodIn_app (goodIn_r _ [4, 5, 6] rfl (by decide +kernel)) ggX11_restore_X11_in
set_option maxRecDepth 20000 in
theorem ggX11_restore_X11_passAll : GoodIn wsX11_restore wsX11_passAll := goodIn_r _ [11, 12, 13, 14, 15, 16, 17, 18, 19, 20, 21, 22, 23, 24, 25, 26, 27, 6, 28, 3, 29, 2, 30, 31, 32, 33, 34, 35, 36, 37, 38, 39, 40, 41, 42, 43, 44, 45, 46, 47, 48, 49, 50, 51, 52, 53, 54, 55, 56, 57, 58, 59, 60, 61, 62, 63, 64, 65, 66, 67, 68] rfl (by decide +kernel)
set_option maxRecDepth 20000 in
theorem gX11_restore_X11_passAll : GoodIn wsX11_restore (wsV RX11 300 RX11 yX11_passAll wsX11_passAll) := goodIn_app (goodIn_r _ [8, 9, 10, 6] rfl (by decide +kernel)) ggX11_restore_X11_passAll
theorem dX11_restore_0 : decode cX11_restore 0 = .ok (.iload_n 1, 1) := by decide +kernel
theorem dX11_restore_1 : decode cX11_restore 1 = .ok (.i2l, 1) := by decide +kernel
theorem dX11_restore_2 : decode cX11_restore 2 = .ok (.lconst 0, 1) := by decide +kernel
theorem dX11_restore_3 : decode cX11_restore 3 = .ok (.lconst 1, 1) := by decide +kernel
theorem dX11_restore_4 : decode cX11_restore 4 = .ok (.invokestatic 99, 3) := by decide +kernel
theorem dX11_restore_7 : decode cX11_restore 7 = .ok (.ifCond .ne 6, 3) := by decide +kernel
theorem dX11_restore_10 : decode cX11_restore 10 = .ok (.bipush (-2), 2) := by decide +kernel
theorem dX11_restore_12 : decode cX11_restore 12 = .ok (.ireturn, 1) := by decide +kernel
theorem dX11_restore_13 : decode cX11_restore 13 = .ok (.aload_n 0, 1) := by decide +kernel
theorem dX11_restore_14 : decode cX11_restore 14 = .ok (.getfield 65, 3) := by decide +kernel
theorem dX11_restore_17 : decode cX11_restore 17 = .ok (.iload_n 1, 1) := by decide +kernel
theorem dX11_restore_18 : decode cX11_restore 18 = .ok (.baload, 1) := by decide +kernel
theorem dX11_restore_19 : decode cX11_restore 19 = .ok (.ifCond .ne 6, 3) := by decide +kernel
theorem dX11_restore_22 : decode cX11_restore 22 = .ok (.bipush (-3), 2) := by decide +kernel
theorem dX11_restore_24 : decode cX11_restore 24 = .ok (.ireturn, 1) := by decide +kernel
theorem dX11_restore_25 : decode cX11_restore 25 = .ok (.aload_n 0, 1) := by decide +kernel
theorem dX11_restore_26 : decode cX11_restore 26 = .ok (.bipush 80, 2) := by decide +kernel
theorem dX11_restore_28 : decode cX11_restore 28 = .ok (.iload_n 1, 1) := by decide +kernel
theorem dX11_restore_29 : decode cX11_restore 29 = .ok (.imul, 1) := by decide +kernel
theorem dX11_restore_30 : decode cX11_restore 30 = .ok (.putfield 294, 3) := by decide +kernel
theorem dX11_restore_33 : decode cX11_restore 33 = .ok (.aload_n 0, 1) := by decide +kernel
theorem dX11_restore_34 : decode cX11_restore 34 = .ok (.iconst 0, 1) := by decide +kernel
theorem dX11_restore_35 : decode cX11_restore 35 = .ok (.putfield 290, 3) := by decide +kernel
theorem dX11_restore_38 : decode cX11_restore 38 = .ok (.aload_n 0, 1) := by decide +kernel
theorem dX11_restore_39 : decode cX11_restore 39 = .ok (.invokevirtual 300, 3) := by decide +kernel
theorem dX11_restore_42 : decode cX11_restore 42 = .ok (.iconst 1, 1) := by decide +kernel
theorem dX11_restore_43 : decode cX11_restore 43 = .ok (.ireturn, 1) := by decide +kernel
set_option maxRecDepth 20000 in
theorem ggX11_told_X11_in : GoodIn wsX11_told wsX11_in := goodIn_r _ [14] rfl (by decide +kernel)
set_option maxRecDepth 20000 in
theorem gX11_told_X11_in : GoodIn wsX11_told (va_wsS RX11 99 yX11_in wsX11_in) := goodIn_app (goodIn_r _ [11, 12, 13] rfl (by decide +kernel)) ggX11_told_X11_in
set_option maxRecDepth 20000 in
theorem ggX11_told_X11_isLand : GoodIn wsX11_told wsX11_isLand := goodIn_r _ [18, 5, 11, 12, 13, 14, 31, 32, 33, 34, 35, 36, 37, 38, 39, 40, 41, 42, 43, 44, 45, 46, 47, 48, 49, 50, 51, 52, 53, 54, 55, 56, 57, 58, 59, 60, 61, 62, 63, 64, 65, 66, 67, 68, 69] rfl (by decide +kernel)
set_option maxRecDepth 20000 in
theorem gX11_told_X11_isLand : GoodIn wsX11_told (wsV RX11 129 RX11 yX11_isLand wsX11_isLand) := goodIn_app (goodIn_r _ [15, 16, 17, 13] rfl (by decide +kernel)) ggX11_told_X11_isLand
set_option maxRecDepth 20000 in
theorem ggX11_told_X11_at : GoodIn wsX11_told wsX11_at := goodIn_r _ [21] rfl (by decide +kernel)
set_option maxRecDepth 20000 in
theorem gX11_told_X11_at : GoodIn wsX11_told (va_wsS RX11 95 yX11_at wsX11_at) := goodIn_app (goodIn_r _ [19, 20, 13] rfl (by decide +kernel)) ggX11_told_X11_at
set_option maxRecDepth 20000 in
theorem ggX11_told_X11_setting : GoodIn wsX11_told wsX11_setting := goodIn_r _ [25, 26, 27, 28, 29, 30, 31, 32, 33, 34, 35, 36, 37, 38, 39, 40, 41, 42, 43, 44, 45, 46, 47, 48, 49, 50, 51, 52, 53, 54, 55, 56, 57, 58, 59, 60, 61, 62, 63, 64, 65, 66, 67, 68, 69] rfl (by decide +kernel)
set_option maxRecDepth 20000 in
theorem gX11_told_X11_setting : GoodIn wsX11_told (wsV RX11 125 RX11 yX11_setting wsX11_setting) := goodIn_app (goodIn_r _ [22, 23, 24, 13] rfl (by decide +kernel)) ggX11_told_X11_setting
theorem dX11_told_0 : decode cX11_told 0 = .ok (.iload_n 1, 1) := by decide +kernel
theorem dX11_told_1 : decode cX11_told 1 = .ok (.i2l, 1) := by decide +kernel
theorem dX11_told_2 : decode cX11_told 2 = .ok (.ldc2_w 273, 3) := by decide +kernel
theorem dX11_told_5 : decode cX11_told 5 = .ok (.ldc2_w 109, 3) := by decide +kernel
theorem dX11_told_8 : decode cX11_told 8 = .ok (.invokestatic 99, 3) := by decide +kernel
theorem dX11_told_11 : decode cX11_told 11 = .ok (.ifCond .eq 45, 3) := by decide +kernel
theorem dX11_told_14 : decode cX11_told 14 = .ok (.iload_n 1, 1) := by decide +kernel
theorem dX11_told_15 : decode cX11_told 15 = .ok (.bipush 10, 2) := by decide +kernel
theorem dX11_told_17 : decode cX11_told 17 = .ok (.idiv, 1) := by decide +kernel
theorem dX11_told_18 : decode cX11_told 18 = .ok (.iconst 1, 1) := by decide +kernel
theorem dX11_told_19 : decode cX11_told 19 = .ok (.isub, 1) := by decide +kernel
theorem dX11_told_20 : decode cX11_told 20 = .ok (.istore_n 2, 1) := by decide +kernel
theorem dX11_told_21 : decode cX11_told 21 = .ok (.aload_n 0, 1) := by decide +kernel
theorem dX11_told_22 : decode cX11_told 22 = .ok (.iload_n 2, 1) := by decide +kernel
theorem dX11_told_23 : decode cX11_told 23 = .ok (.invokevirtual 129, 3) := by decide +kernel
theorem dX11_told_26 : decode cX11_told 26 = .ok (.ifCond .eq 27, 3) := by decide +kernel
theorem dX11_told_29 : decode cX11_told 29 = .ok (.iload_n 1, 1) := by decide +kernel
theorem dX11_told_30 : decode cX11_told 30 = .ok (.bipush 10, 2) := by decide +kernel
theorem dX11_told_32 : decode cX11_told 32 = .ok (.irem, 1) := by decide +kernel
theorem dX11_told_33 : decode cX11_told 33 = .ok (.iconst 4, 1) := by decide +kernel
theorem dX11_told_34 : decode cX11_told 34 = .ok (.if_icmp .ge 19, 3) := by decide +kernel
theorem dX11_told_37 : decode cX11_told 37 = .ok (.aload_n 0, 1) := by decide +kernel
theorem dX11_told_38 : decode cX11_told 38 = .ok (.getfield 7, 3) := by decide +kernel
theorem dX11_told_41 : decode cX11_told 41 = .ok (.iload_n 1, 1) := by decide +kernel
theorem dX11_told_42 : decode cX11_told 42 = .ok (.bipush 10, 2) := by decide +kernel
theorem dX11_told_44 : decode cX11_told 44 = .ok (.irem, 1) := by decide +kernel
theorem dX11_told_45 : decode cX11_told 45 = .ok (.iload_n 2, 1) := by decide +kernel
theorem dX11_told_46 : decode cX11_told 46 = .ok (.invokestatic 95, 3) := by decide +kernel
theorem dX11_told_49 : decode cX11_told 49 = .ok (.iaload, 1) := by decide +kernel
theorem dX11_told_50 : decode cX11_told 50 = .ok (.goto 5, 3) := by decide +kernel
theorem dX11_told_53 : decode cX11_told 53 = .ok (.bipush (-2), 2) := by decide +kernel
theorem dX11_told_55 : decode cX11_told 55 = .ok (.ireturn, 1) := by decide +kernel
theorem dX11_told_56 : decode cX11_told 56 = .ok (.iload_n 1, 1) := by decide +kernel
theorem dX11_told_57 : decode cX11_told 57 = .ok (.tableswitch 80 0 9 #[55, 60, 65, 80, 80, 80, 80, 80, 70, 75], 55) := by decide +kernel
theorem dX11_told_112 : decode cX11_told 112 = .ok (.aload_n 0, 1) := by decide +kernel
theorem dX11_told_113 : decode cX11_told 113 = .ok (.getfield 139, 3) := by decide +kernel
theorem dX11_told_116 : decode cX11_told 116 = .ok (.ireturn, 1) := by decide +kernel
theorem dX11_told_117 : decode cX11_told 117 = .ok (.aload_n 0, 1) := by decide +kernel
theorem dX11_told_118 : decode cX11_told 118 = .ok (.getfield 83, 3) := by decide +kernel
theorem dX11_told_121 : decode cX11_told 121 = .ok (.ireturn, 1) := by decide +kernel
theorem dX11_told_122 : decode cX11_told 122 = .ok (.aload_n 0, 1) := by decide +kernel
theorem dX11_told_123 : decode cX11_told 123 = .ok (.getfield 86, 3) := by decide +kernel
theorem dX11_told_126 : decode cX11_told 126 = .ok (.ireturn, 1) := by decide +kernel
theorem dX11_told_127 : decode cX11_told 127 = .ok (.aload_n 0, 1) := by decide +kernel
theorem dX11_told_128 : decode cX11_told 128 = .ok (.getfield 89, 3) := by decide +kernel
theorem dX11_told_131 : decode cX11_told 131 = .ok (.ireturn, 1) := by decide +kernel
theorem dX11_told_132 : decode cX11_told 132 = .ok (.aload_n 0, 1) := by decide +kernel
theorem dX11_told_133 : decode cX11_told 133 = .ok (.getfield 92, 3) := by decide +kernel
theorem dX11_told_136 : decode cX11_told 136 = .ok (.ireturn, 1) := by decide +kernel
theorem dX11_told_137 : decode cX11_told 137 = .ok (.iload_n 1, 1) := by decide +kernel
theorem dX11_told_138 : decode cX11_told 138 = .ok (.i2l, 1) := by decide +kernel
theorem dX11_told_139 : decode cX11_told 139 = .ok (.ldc2_w 133, 3) := by decide +kernel
theorem dX11_told_142 : decode cX11_told 142 = .ok (.ldc2_w 303, 3) := by decide +kernel
theorem dX11_told_145 : decode cX11_told 145 = .ok (.invokestatic 99, 3) := by decide +kernel
theorem dX11_told_148 : decode cX11_told 148 = .ok (.ifCond .eq 13, 3) := by decide +kernel
theorem dX11_told_151 : decode cX11_told 151 = .ok (.aload_n 0, 1) := by decide +kernel
theorem dX11_told_152 : decode cX11_told 152 = .ok (.iload_n 1, 1) := by decide +kernel
theorem dX11_told_153 : decode cX11_told 153 = .ok (.iconst 3, 1) := by decide +kernel
theorem dX11_told_154 : decode cX11_told 154 = .ok (.isub, 1) := by decide +kernel
theorem dX11_told_155 : decode cX11_told 155 = .ok (.invokevirtual 125, 3) := by decide +kernel
theorem dX11_told_158 : decode cX11_told 158 = .ok (.goto 5, 3) := by decide +kernel
theorem dX11_told_161 : decode cX11_told 161 = .ok (.bipush (-2), 2) := by decide +kernel
theorem dX11_told_163 : decode cX11_told 163 = .ok (.ireturn, 1) := by decide +kernel
theorem dJ9_abs_0f7a4_0 : decode cJ9_abs_0f7a4 0 = .ok (.iload_n 0, 1) := by decide +kernel
theorem dJ9_abs_0f7a4_1 : decode cJ9_abs_0f7a4 1 = .ok (.ifCond .ge 8, 3) := by decide +kernel
theorem dJ9_abs_0f7a4_4 : decode cJ9_abs_0f7a4 4 = .ok (.iload_n 0, 1) := by decide +kernel
theorem dJ9_abs_0f7a4_5 : decode cJ9_abs_0f7a4 5 = .ok (.ineg, 1) := by decide +kernel
theorem dJ9_abs_0f7a4_6 : decode cJ9_abs_0f7a4 6 = .ok (.goto 4, 3) := by decide +kernel
theorem dJ9_abs_0f7a4_9 : decode cJ9_abs_0f7a4 9 = .ok (.iload_n 0, 1) := by decide +kernel
theorem dJ9_abs_0f7a4_10 : decode cJ9_abs_0f7a4 10 = .ok (.ireturn, 1) := by decide +kernel
theorem dJ9_max_7cf53_0 : decode cJ9_max_7cf53 0 = .ok (.iload_n 0, 1) := by decide +kernel
theorem dJ9_max_7cf53_1 : decode cJ9_max_7cf53 1 = .ok (.iload_n 1, 1) := by decide +kernel
theorem dJ9_max_7cf53_2 : decode cJ9_max_7cf53 2 = .ok (.if_icmp .lt 7, 3) := by decide +kernel
theorem dJ9_max_7cf53_5 : decode cJ9_max_7cf53 5 = .ok (.iload_n 0, 1) := by decide +kernel
theorem dJ9_max_7cf53_6 : decode cJ9_max_7cf53 6 = .ok (.goto 4, 3) := by decide +kernel
theorem dJ9_max_7cf53_9 : decode cJ9_max_7cf53 9 = .ok (.iload_n 1, 1) := by decide +kernel
theorem dJ9_max_7cf53_10 : decode cJ9_max_7cf53 10 = .ok (.ireturn, 1) := by decide +kernel
theorem dJ9_min_7cf53_0 : decode cJ9_min_7cf53 0 = .ok (.iload_n 0, 1) := by decide +kernel
theorem dJ9_min_7cf53_1 : decode cJ9_min_7cf53 1 = .ok (.iload_n 1, 1) := by decide +kernel
theorem dJ9_min_7cf53_2 : decode cJ9_min_7cf53 2 = .ok (.if_icmp .gt 7, 3) := by decide +kernel
theorem dJ9_min_7cf53_5 : decode cJ9_min_7cf53 5 = .ok (.iload_n 0, 1) := by decide +kernel
theorem dJ9_min_7cf53_6 : decode cJ9_min_7cf53 6 = .ok (.goto 4, 3) := by decide +kernel
theorem dJ9_min_7cf53_9 : decode cJ9_min_7cf53 9 = .ok (.iload_n 1, 1) := by decide +kernel
theorem dJ9_min_7cf53_10 : decode cJ9_min_7cf53 10 = .ok (.ireturn, 1) := by decide +kernel
set_option maxRecDepth 20000 in
theorem ggL_law_X10_init : GoodIn wsL_law wsX10_init := rs_goodC _ [(0, 8), (0, 9), (0, 10), (0, 11), (0, 12), (0, 13), (0, 14), (0, 15), (0, 16), (0, 17), (0, 18), (0, 19), (0, 20), (0, 21), (0, 22), (0, 23), (1, 0), (1, 1), (1, 2), (1, 3), (1, 4), (1, 5), (1, 6), (1, 7), (1, 8), (1, 9), (1, 10), (1, 11), (1, 12), (1, 13), (1, 14), (1, 15), (1, 16), (1, 17), (1, 18), (1, 19), (1, 20), (1, 21), (1, 22), (1, 23), (2, 0), (2, 1), (2, 2), (2, 3), (2, 4), (2, 5), (2, 6), (2, 7), (2, 8), (2, 9), (2, 10), (2, 11), (2, 12), (2, 13), (2, 14), (2, 15), (2, 16), (2, 17), (2, 18), (2, 19), (2, 20), (2, 21), (2, 22), (2, 23), (3, 0), (3, 1), (3, 2), (3, 3), (3, 4), (3, 5), (3, 6), (3, 7), (3, 8), (3, 9), (3, 10), (3, 11), (3, 12), (3, 13), (3, 14), (3, 15), (3, 16), (3, 17), (3, 18), (3, 19), (3, 20), (3, 21), (3, 22), (3, 23), (4, 0), (4, 1), (4, 2), (4, 3), (4, 4), (4, 5), (4, 6), (4, 7), (4, 8), (4, 9), (4, 10), (4, 11), (4, 12), (4, 13), (4, 14), (4, 15), (4, 16), (4, 17), (4, 18), (4, 19), (4, 20), (4, 21), (4, 22), (4, 23), (5, 0), (5, 1), (5, 2), (5, 3), (5, 4), (5, 5), (5, 6), (5, 7), (5, 8), (5, 9), (43, 0), (43, 1), (43, 2), (43, 3), (41, 0), (41, 1), (41, 2), (41, 3), (41, 4), (41, 5), (41, 6), (41, 7), (44, 0), (44, 1), (45, 0), (45, 1), (45, 2), (45, 3), (45, 4), (45, 5), (45, 6), (45, 7), (45, 8), (45, 9), (46, 0), (46, 1), (47, 0), (47, 1), (47, 2), (47, 3), (48, 0), (48, 1), (49, 0), (49, 1), (49, 2), (49, 3), (50, 0), (50, 1), (50, 2), (50, 3), (50, 4), (50, 5), (50, 6), (51, 0), (52, 0), (52, 1), (52, 2), (52, 3)] rfl (by decide +kernel)
set_option maxRecDepth 20000 in
theorem gL_law_X10_init : GoodIn wsL_law (wsX10_init) := ggL_law_X10_init
set_option maxRecDepth 20000 in
theorem ggL_law_X11_init : GoodIn wsL_law wsX11_init := rs_goodC _ [(5, 12), (5, 13), (0, 10), (0, 11), (2, 23), (5, 14), (5, 15), (5, 16), (5, 17), (5, 18), (5, 19), (5, 20), (5, 21), (5, 22), (5, 23), (6, 0), (6, 1), (6, 2), (6, 3), (4, 12), (6, 4), (6, 5), (6, 6), (6, 7), (6, 8), (6, 9), (6, 10), (6, 11), (6, 12), (6, 13), (6, 14), (6, 15), (0, 5), (6, 16), (6, 17), (6, 18), (6, 19), (6, 20), (6, 21), (6, 22), (6, 23), (42, 0), (42, 1), (42, 2), (42, 3), (42, 4), (42, 5), (42, 6), (42, 7), (42, 8), (42, 9), (42, 10), (42, 11), (42, 12), (42, 13), (42, 14), (42, 15), (42, 16), (42, 17), (42, 18), (42, 19), (42, 20), (42, 21), (42, 22), (42, 23), (42, 24), (42, 25), (42, 26), (42, 27), (42, 28), (42, 29), (42, 30), (42, 31), (42, 32), (42, 33), (42, 34), (42, 35), (42, 36), (42, 37), (42, 38)] rfl (by decide +kernel)
set_option maxRecDepth 20000 in
theorem gL_law_X11_init : GoodIn wsL_law (wsX11_init) := ggL_law_X11_init
set_option maxRecDepth 20000 in
theorem ggL_law_X10_lands : GoodIn wsL_law wsX10_lands := rs_goodC _ [(7, 3), (0, 15), (7, 4), (7, 5), (7, 6), (7, 7), (7, 8), (7, 9), (7, 10), (7, 11), (7, 12), (0, 2), (7, 13), (7, 14), (3, 2), (3, 3), (2, 3), (3, 4), (3, 5), (3, 6), (3, 7), (3, 8), (3, 0), (41, 0), (41, 1), (41, 2), (41, 3), (41, 4), (41, 5), (41, 6), (41, 7), (43, 0), (43, 1), (43, 2), (43, 3), (50, 0), (50, 1), (50, 2), (50, 3), (50, 4), (50, 5), (50, 6), (52, 0), (52, 1), (52, 2), (52, 3), (51, 0)] rfl (by decide +kernel)
set_option maxRecDepth 20000 in
theorem gL_law_X10_lands : GoodIn wsL_law (wsV RL 13 RX10 yX10_lands wsX10_lands) := goodIn_app (rs_goodC _ [(7, 0), (7, 1), (7, 2), (0, 2)] rfl (by decide +kernel)) ggL_law_X10_lands
set_option maxRecDepth 20000 in
theorem ggL_law_X11_lands : GoodIn wsL_law wsX11_lands := rs_goodC _ [(7, 18), (7, 19), (7, 20), (6, 17), (7, 21), (7, 22), (0, 5), (7, 23), (6, 13), (6, 14), (6, 15), (6, 16), (6, 18), (6, 19), (6, 20), (5, 14), (6, 21), (6, 22), (6, 23), (42, 0), (42, 1), (42, 2), (42, 3), (42, 4), (42, 5), (42, 6), (42, 7), (42, 8), (42, 9), (42, 10), (42, 11), (42, 12), (42, 13), (42, 14), (42, 15), (42, 16), (42, 17), (42, 18), (42, 19), (42, 20), (42, 21), (42, 22), (42, 23), (42, 24), (42, 25), (42, 26), (42, 27), (42, 28), (42, 29), (42, 30), (42, 31), (42, 32), (42, 33), (42, 34), (42, 35), (42, 36), (42, 37), (42, 38)] rfl (by decide +kernel)
set_option maxRecDepth 20000 in
theorem gL_law_X11_lands : GoodIn wsL_law (wsV RL 17 RX11 yX11_lands wsX11_lands) := goodIn_app (rs_goodC _ [(7, 15), (7, 16), (7, 17), (0, 5)] rfl (by decide +kernel)) ggL_law_X11_lands
set_option maxRecDepth 20000 in
theorem ggL_law_X10_set : GoodIn wsL_law wsX10_set := rs_goodC _ [(8, 3), (0, 15), (7, 4), (8, 4), (8, 5), (0, 2), (8, 6), (7, 11), (7, 12), (7, 13), (8, 7), (8, 8), (8, 9), (1, 23), (8, 10), (2, 14), (2, 15), (2, 16), (2, 17), (2, 18), (8, 11), (8, 12), (8, 13), (8, 14), (41, 0), (41, 1), (41, 2), (41, 3), (41, 4), (41, 5), (41, 6), (41, 7), (43, 0), (43, 1), (43, 2), (43, 3), (50, 0), (50, 1), (50, 2), (50, 3), (50, 4), (50, 5), (50, 6)] rfl (by decide +kernel)
set_option maxRecDepth 20000 in
theorem gL_law_X10_set : GoodIn wsL_law (wsV RL 18 RX10 yX10_set wsX10_set) := goodIn_app (rs_goodC _ [(8, 0), (8, 1), (8, 2), (0, 2)] rfl (by decide +kernel)) ggL_law_X10_set
set_option maxRecDepth 20000 in
theorem ggL_law_X11_set : GoodIn wsL_law wsX11_set := rs_goodC _ [(8, 18), (6, 10), (8, 19), (8, 20), (6, 11), (6, 12), (8, 21), (8, 22), (8, 23), (0, 5), (9, 0), (7, 20), (9, 1), (7, 19), (9, 2), (9, 3), (7, 21), (7, 22), (7, 23), (9, 4), (9, 5), (9, 6), (9, 7), (42, 0), (42, 1), (42, 2), (42, 3), (42, 4), (42, 5), (42, 6), (42, 7), (42, 8), (42, 9), (42, 10), (42, 11), (42, 12), (42, 13), (42, 14), (42, 15), (42, 16), (42, 17), (42, 18), (42, 19), (42, 20), (42, 21), (42, 22), (42, 23), (42, 24), (42, 25), (42, 26), (42, 27), (42, 28), (42, 29), (42, 30), (42, 31), (42, 32), (42, 33), (42, 34), (42, 35), (42, 36), (42, 37), (42, 38)] rfl (by decide +kernel)
set_option maxRecDepth 20000 in
theorem gL_law_X11_set : GoodIn wsL_law (wsV RL 21 RX11 yX11_set wsX11_set) := goodIn_app (rs_goodC _ [(8, 15), (8, 16), (8, 17), (0, 5)] rfl (by decide +kernel)) ggL_law_X11_set
set_option maxRecDepth 20000 in
theorem ggL_law_X10_land : GoodIn wsL_law wsX10_land := rs_goodC _ [(9, 11), (0, 15), (7, 7), (9, 12), (9, 13), (9, 14), (9, 15), (9, 16), (9, 17), (9, 18), (0, 2), (9, 19), (7, 4), (7, 5), (7, 11), (7, 12), (7, 13), (9, 20), (9, 21), (9, 22), (2, 3), (9, 23), (3, 0), (10, 0), (3, 6), (3, 7), (3, 8), (41, 0), (41, 1), (41, 2), (41, 3), (41, 4), (41, 5), (41, 6), (41, 7), (43, 0), (43, 1), (43, 2), (43, 3), (50, 0), (50, 1), (50, 2), (50, 3), (50, 4), (50, 5), (50, 6), (51, 0)] rfl (by decide +kernel)
set_option maxRecDepth 20000 in
theorem gL_law_X10_land : GoodIn wsL_law (wsV RL 22 RX10 yX10_land wsX10_land) := goodIn_app (rs_goodC _ [(9, 8), (9, 9), (9, 10), (0, 2)] rfl (by decide +kernel)) ggL_law_X10_land
set_option maxRecDepth 20000 in
theorem ggL_law_X11_land : GoodIn wsL_law wsX11_land := rs_goodC _ [(10, 4), (10, 5), (9, 2), (9, 1), (5, 14), (10, 6), (10, 7), (10, 8), (0, 5), (10, 9), (6, 17), (7, 21), (7, 22), (7, 23), (6, 21), (6, 22), (6, 23), (42, 0), (42, 1), (42, 2), (42, 3), (42, 4), (42, 5), (42, 6), (42, 7), (42, 8), (42, 9), (42, 10), (42, 11), (42, 12), (42, 13), (42, 14), (42, 15), (42, 16), (42, 17), (42, 18), (42, 19), (42, 20), (42, 21), (42, 22), (42, 23), (42, 24), (42, 25), (42, 26), (42, 27), (42, 28), (42, 29), (42, 30), (42, 31), (42, 32), (42, 33), (42, 34), (42, 35), (42, 36), (42, 37), (42, 38)] rfl (by decide +kernel)
set_option maxRecDepth 20000 in
theorem gL_law_X11_land : GoodIn wsL_law (wsV RL 26 RX11 yX11_land wsX11_land) := goodIn_app (rs_goodC _ [(10, 1), (10, 2), (10, 3), (0, 5)] rfl (by decide +kernel)) ggL_law_X11_land
set_option maxRecDepth 20000 in
theorem ggL_law_X10_say : GoodIn wsL_law wsX10_say := rs_goodC _ [(10, 13), (0, 20), (10, 14), (7, 11), (7, 12), (0, 2), (7, 13), (10, 15), (10, 16), (10, 17), (0, 19), (10, 18), (10, 19), (3, 21), (41, 0), (41, 1), (41, 2), (41, 3), (41, 4), (41, 5), (41, 6), (41, 7), (44, 0), (44, 1)] rfl (by decide +kernel)
set_option maxRecDepth 20000 in
theorem gL_law_X10_say : GoodIn wsL_law (wsV RL 27 RX10 yX10_say wsX10_say) := goodIn_app (rs_goodC _ [(10, 10), (10, 11), (10, 12), (0, 2)] rfl (by decide +kernel)) ggL_law_X10_say
set_option maxRecDepth 20000 in
theorem ggL_law_X11_say : GoodIn wsL_law wsX11_say := rs_goodC _ [(10, 23), (11, 0), (11, 1), (11, 2), (5, 18), (7, 21), (7, 22), (0, 5), (7, 23), (42, 0), (42, 1), (42, 2), (42, 3), (42, 4), (42, 5), (42, 6), (42, 7), (42, 8), (42, 9), (42, 10), (42, 11), (42, 12), (42, 13), (42, 14), (42, 15), (42, 16), (42, 17), (42, 18), (42, 19), (42, 20), (42, 21), (42, 22), (42, 23), (42, 24), (42, 25), (42, 26), (42, 27), (42, 28), (42, 29), (42, 30), (42, 31), (42, 32), (42, 33), (42, 34), (42, 35), (42, 36), (42, 37), (42, 38)] rfl (by decide +kernel)
set_option maxRecDepth 20000 in
theorem gL_law_X11_say : GoodIn wsL_law (wsV RL 31 RX11 yX11_say wsX11_say) := goodIn_app (rs_goodC _ [(10, 20), (10, 21), (10, 22), (0, 5)] rfl (by decide +kernel)) ggL_law_X11_say
set_option maxRecDepth 20000 in
theorem ggL_law_X10_wipe : GoodIn wsL_law wsX10_wipe := rs_goodC _ [(11, 6), (0, 20), (10, 14), (41, 0), (41, 1), (41, 2), (41, 3), (41, 4), (41, 5), (41, 6), (41, 7), (44, 0), (44, 1)] rfl (by decide +kernel)
set_option maxRecDepth 20000 in
theorem gL_law_X10_wipe : GoodIn wsL_law (wsV RL 32 RX10 yX10_wipe wsX10_wipe) := goodIn_app (rs_goodC _ [(11, 3), (11, 4), (11, 5), (0, 2)] rfl (by decide +kernel)) ggL_law_X10_wipe
set_option maxRecDepth 20000 in
theorem ggL_law_X11_wipe : GoodIn wsL_law wsX11_wipe := rs_goodC _ [(11, 10), (11, 2), (42, 0), (42, 1), (42, 2), (42, 3), (42, 4), (42, 5), (42, 6), (42, 7), (42, 8), (42, 9), (42, 10), (42, 11), (42, 12), (42, 13), (42, 14), (42, 15), (42, 16), (42, 17), (42, 18), (42, 19), (42, 20), (42, 21), (42, 22), (42, 23), (42, 24), (42, 25), (42, 26), (42, 27), (42, 28), (42, 29), (42, 30), (42, 31), (42, 32), (42, 33), (42, 34), (42, 35), (42, 36), (42, 37), (42, 38)] rfl (by decide +kernel)
set_option maxRecDepth 20000 in
theorem gL_law_X11_wipe : GoodIn wsL_law (wsV RL 36 RX11 yX11_wipe wsX11_wipe) := goodIn_app (rs_goodC _ [(11, 7), (11, 8), (11, 9), (0, 5)] rfl (by decide +kernel)) ggL_law_X11_wipe
set_option maxRecDepth 20000 in
theorem ggL_law_X10_fault : GoodIn wsL_law wsX10_fault := rs_goodC _ [(11, 14), (0, 20), (0, 15), (7, 4), (7, 5), (11, 15), (11, 16), (11, 17), (0, 19), (11, 18), (10, 19), (11, 19), (11, 20), (11, 21), (11, 22), (11, 23), (12, 0), (12, 1), (12, 2), (3, 21), (7, 12), (0, 2), (7, 13), (12, 3), (12, 4), (12, 5), (12, 6), (12, 7), (12, 8), (12, 9), (12, 10), (41, 0), (41, 1), (41, 2), (41, 3), (41, 4), (41, 5), (41, 6), (41, 7), (43, 0), (43, 1), (43, 2), (43, 3), (50, 0), (50, 1), (50, 2), (50, 3), (50, 4), (50, 5), (50, 6), (44, 0), (44, 1)] rfl (by decide +kernel)
set_option maxRecDepth 20000 in
theorem gL_law_X10_fault : GoodIn wsL_law (wsV RL 37 RX10 yX10_fault wsX10_fault) := goodIn_app (rs_goodC _ [(11, 11), (11, 12), (11, 13), (0, 2)] rfl (by decide +kernel)) ggL_law_X10_fault
set_option maxRecDepth 20000 in
theorem ggL_law_X11_fault : GoodIn wsL_law wsX11_fault := rs_goodC _ [(12, 14), (12, 15), (11, 2), (5, 18), (12, 16), (12, 17), (5, 19), (5, 20), (5, 21), (5, 22), (10, 6), (10, 7), (10, 8), (0, 5), (10, 9), (6, 17), (7, 21), (7, 22), (7, 23), (42, 0), (42, 1), (42, 2), (42, 3), (42, 4), (42, 5), (42, 6), (42, 7), (42, 8), (42, 9), (42, 10), (42, 11), (42, 12), (42, 13), (42, 14), (42, 15), (42, 16), (42, 17), (42, 18), (42, 19), (42, 20), (42, 21), (42, 22), (42, 23), (42, 24), (42, 25), (42, 26), (42, 27), (42, 28), (42, 29), (42, 30), (42, 31), (42, 32), (42, 33), (42, 34), (42, 35), (42, 36), (42, 37), (42, 38)] rfl (by decide +kernel)
set_option maxRecDepth 20000 in
theorem gL_law_X11_fault : GoodIn wsL_law (wsV RL 40 RX11 yX11_fault wsX11_fault) := goodIn_app (rs_goodC _ [(12, 11), (12, 12), (12, 13), (0, 5)] rfl (by decide +kernel)) ggL_law_X11_fault
set_option maxRecDepth 20000 in
theorem ggL_law_X10_judge : GoodIn wsL_law wsX10_judge := rs_goodC _ [(12, 21), (1, 0), (12, 22), (12, 23), (13, 0), (13, 1), (7, 11), (7, 12), (0, 2), (7, 13), (13, 2), (13, 3), (13, 4), (13, 5), (0, 20), (0, 15), (7, 4), (7, 5), (11, 15), (11, 16), (11, 17), (0, 19), (11, 18), (10, 19), (11, 19), (11, 20), (11, 21), (11, 22), (11, 23), (12, 0), (12, 1), (12, 2), (3, 21), (12, 3), (12, 4), (12, 5), (12, 6), (12, 7), (12, 8), (12, 9), (12, 10), (13, 6), (13, 7), (13, 8), (0, 23), (13, 9), (4, 3), (13, 10), (4, 5), (13, 11), (4, 6), (13, 12), (13, 13), (13, 14), (13, 15), (13, 16), (13, 17), (13, 18), (13, 19), (13, 20), (13, 21), (13, 22), (1, 23), (13, 23), (2, 12), (2, 13), (2, 14), (2, 15), (2, 16), (2, 17), (2, 18), (14, 0), (14, 1), (14, 2), (2, 3), (14, 3), (3, 0), (14, 4), (14, 5), (14, 6), (14, 7), (14, 8), (14, 9), (14, 10), (14, 11), (14, 12), (14, 13), (14, 14), (14, 15), (14, 16), (14, 17), (14, 18), (14, 19), (14, 20), (14, 21), (14, 22), (14, 23), (15, 0), (15, 1), (15, 2), (15, 3), (15, 4), (15, 5), (15, 6), (15, 7), (15, 8), (15, 9), (15, 10), (15, 11), (15, 12), (15, 13), (15, 14), (15, 15), (15, 16), (9, 13), (9, 14), (9, 15), (15, 17), (15, 18), (15, 19), (15, 20), (9, 21), (9, 22), (9, 23), (3, 5), (3, 6), (3, 7), (3, 8), (15, 21), (15, 22), (15, 23), (16, 0), (16, 1), (16, 2), (16, 3), (16, 4), (16, 5), (16, 6), (41, 0), (41, 1), (41, 2), (41, 3), (41, 4), (41, 5), (41, 6), (41, 7), (45, 0), (45, 1), (45, 2), (45, 3), (45, 4), (45, 5), (45, 6), (45, 7), (45, 8), (45, 9), (43, 0), (43, 1), (43, 2), (43, 3), (50, 0), (50, 1), (50, 2), (50, 3), (50, 4), (50, 5), (50, 6), (44, 0), (44, 1), (51, 0)] rfl (by decide +kernel)
set_option maxRecDepth 20000 in
theorem gL_law_X10_judge : GoodIn wsL_law (wsV RL 41 RX10 yX10_judge wsX10_judge) := goodIn_app (rs_goodC _ [(12, 18), (12, 19), (12, 20), (0, 2)] rfl (by decide +kernel)) ggL_law_X10_judge
set_option maxRecDepth 20000 in
theorem ggL_law_X11_judge : GoodIn wsL_law wsX11_judge := rs_goodC _ [(16, 10), (10, 5), (16, 11), (16, 12), (16, 13), (16, 14), (7, 21), (7, 22), (0, 5), (7, 23), (16, 15), (16, 16), (16, 17), (16, 18), (6, 1), (5, 14), (6, 19), (16, 19), (16, 20), (12, 12), (12, 13), (12, 14), (12, 15), (11, 2), (5, 18), (12, 16), (12, 17), (5, 19), (5, 20), (5, 21), (5, 22), (10, 6), (10, 7), (10, 8), (10, 9), (6, 17), (16, 21), (16, 22), (16, 23), (17, 0), (6, 0), (17, 1), (5, 23), (6, 21), (6, 22), (6, 23), (17, 2), (17, 3), (17, 4), (17, 5), (17, 6), (17, 7), (17, 8), (17, 9), (17, 10), (17, 11), (17, 12), (17, 13), (17, 14), (17, 15), (17, 16), (17, 17), (17, 18), (17, 19), (17, 20), (17, 21), (17, 22), (17, 23), (18, 0), (18, 1), (6, 18), (6, 10), (8, 19), (18, 2), (18, 3), (18, 4), (18, 5), (18, 6), (18, 7), (18, 8), (8, 20), (6, 11), (6, 12), (18, 9), (18, 10), (18, 11), (18, 12), (18, 13), (18, 14), (18, 15), (18, 16), (42, 0), (42, 1), (42, 2), (42, 3), (42, 4), (42, 5), (42, 6), (42, 7), (42, 8), (42, 9), (42, 10), (42, 11), (42, 12), (42, 13), (42, 14), (42, 15), (42, 16), (42, 17), (42, 18), (42, 19), (42, 20), (42, 21), (42, 22), (42, 23), (42, 24), (42, 25), (42, 26), (42, 27), (42, 28), (42, 29), (42, 30), (42, 31), (42, 32), (42, 33), (42, 34), (42, 35), (42, 36), (42, 37), (42, 38)] rfl (by decide +kernel)
set_option maxRecDepth 20000 in
theorem gL_law_X11_judge : GoodIn wsL_law (wsV RL 44 RX11 yX11_judge wsX11_judge) := goodIn_app (rs_goodC _ [(16, 7), (16, 8), (16, 9), (0, 5)] rfl (by decide +kernel)) ggL_law_X11_judge
set_option maxRecDepth 20000 in
theorem ggL_law_X10_behind : GoodIn wsL_law wsX10_behind := rs_goodC _ [(18, 20), (1, 0), (18, 21), (18, 22), (18, 23), (19, 0), (9, 16), (9, 17), (9, 18), (0, 2), (9, 19), (0, 15), (7, 4), (7, 5), (7, 11), (7, 12), (7, 13), (13, 2), (13, 3), (13, 4), (13, 5), (0, 20), (12, 22), (11, 15), (11, 16), (11, 17), (0, 19), (11, 18), (10, 19), (11, 19), (11, 20), (11, 21), (11, 22), (11, 23), (12, 0), (12, 1), (12, 2), (3, 21), (12, 3), (12, 4), (12, 5), (12, 6), (12, 7), (12, 8), (12, 9), (12, 10), (13, 6), (13, 7), (13, 8), (0, 23), (13, 9), (4, 3), (13, 10), (4, 5), (13, 11), (4, 6), (13, 12), (13, 13), (13, 14), (13, 15), (13, 16), (13, 17), (13, 18), (13, 19), (13, 20), (13, 21), (13, 22), (1, 23), (13, 23), (2, 12), (2, 13), (2, 14), (2, 15), (2, 16), (2, 17), (2, 18), (14, 0), (14, 1), (14, 2), (2, 3), (14, 3), (3, 0), (14, 4), (14, 5), (14, 6), (14, 7), (14, 8), (14, 9), (14, 10), (14, 11), (14, 12), (14, 13), (14, 14), (14, 15), (14, 16), (14, 17), (14, 18), (14, 19), (14, 20), (14, 21), (14, 22), (14, 23), (15, 0), (15, 1), (15, 2), (15, 3), (15, 4), (15, 5), (15, 6), (15, 7), (15, 8), (15, 9), (15, 10), (15, 11), (15, 12), (15, 13), (15, 14), (15, 15), (15, 16), (9, 13), (9, 14), (9, 15), (15, 17), (15, 18), (15, 19), (15, 20), (9, 21), (9, 22), (9, 23), (3, 5), (3, 6), (3, 7), (3, 8), (15, 21), (15, 22), (15, 23), (16, 0), (16, 1), (16, 2), (16, 3), (16, 4), (16, 5), (16, 6), (9, 20), (19, 1), (19, 2), (19, 3), (19, 4), (19, 5), (19, 6), (19, 7), (19, 8), (19, 9), (41, 0), (41, 1), (41, 2), (41, 3), (41, 4), (41, 5), (41, 6), (41, 7), (45, 0), (45, 1), (45, 2), (45, 3), (45, 4), (45, 5), (45, 6), (45, 7), (45, 8), (45, 9), (43, 0), (43, 1), (43, 2), (43, 3), (50, 0), (50, 1), (50, 2), (50, 3), (50, 4), (50, 5), (50, 6), (44, 0), (44, 1), (51, 0)] rfl (by decide +kernel)
set_option maxRecDepth 20000 in
theorem gL_law_X10_behind : GoodIn wsL_law (wsV RL 45 RX10 yX10_behind wsX10_behind) := goodIn_app (rs_goodC _ [(18, 17), (18, 18), (18, 19), (0, 2)] rfl (by decide +kernel)) ggL_law_X10_behind
set_option maxRecDepth 20000 in
theorem ggL_law_X11_behind : GoodIn wsL_law wsX11_behind := rs_goodC _ [(19, 13), (7, 19), (6, 1), (5, 23), (16, 19), (10, 6), (10, 7), (10, 8), (0, 5), (10, 9), (6, 17), (7, 21), (7, 22), (7, 23), (16, 15), (16, 16), (16, 17), (16, 18), (5, 14), (6, 19), (16, 11), (16, 20), (12, 12), (12, 13), (12, 14), (12, 15), (11, 2), (5, 18), (12, 16), (12, 17), (5, 19), (5, 20), (5, 21), (5, 22), (16, 21), (16, 22), (16, 23), (17, 0), (6, 0), (17, 1), (16, 14), (6, 21), (6, 22), (6, 23), (17, 2), (17, 3), (17, 4), (17, 5), (16, 12), (16, 13), (17, 6), (17, 7), (17, 8), (17, 9), (17, 10), (17, 11), (17, 12), (17, 13), (17, 14), (17, 15), (17, 16), (17, 17), (17, 18), (17, 19), (17, 20), (17, 21), (17, 22), (17, 23), (18, 0), (18, 1), (6, 18), (6, 10), (8, 19), (18, 2), (18, 3), (18, 4), (18, 5), (18, 6), (18, 7), (18, 8), (8, 20), (6, 11), (6, 12), (18, 9), (18, 10), (18, 11), (18, 12), (18, 13), (18, 14), (18, 15), (18, 16), (42, 0), (42, 1), (42, 2), (42, 3), (42, 4), (42, 5), (42, 6), (42, 7), (42, 8), (42, 9), (42, 10), (42, 11), (42, 12), (42, 13), (42, 14), (42, 15), (42, 16), (42, 17), (42, 18), (42, 19), (42, 20), (42, 21), (42, 22), (42, 23), (42, 24), (42, 25), (42, 26), (42, 27), (42, 28), (42, 29), (42, 30), (42, 31), (42, 32), (42, 33), (42, 34), (42, 35), (42, 36), (42, 37), (42, 38)] rfl (by decide +kernel)
set_option maxRecDepth 20000 in
theorem gL_law_X11_behind : GoodIn wsL_law (wsV RL 48 RX11 yX11_behind wsX11_behind) := goodIn_app (rs_goodC _ [(19, 10), (19, 11), (19, 12), (0, 5)] rfl (by decide +kernel)) ggL_law_X11_behind
set_option maxRecDepth 20000 in
theorem ggL_law_X10_done : GoodIn wsL_law wsX10_done := rs_goodC _ [(19, 17), (0, 15), (7, 7), (1, 0), (18, 21), (19, 0), (7, 10), (0, 20), (10, 14), (19, 18), (13, 2), (13, 3), (13, 4), (0, 2), (13, 5), (7, 4), (7, 5), (12, 22), (11, 15), (11, 16), (11, 17), (0, 19), (11, 18), (10, 19), (11, 19), (11, 20), (11, 21), (11, 22), (11, 23), (12, 0), (12, 1), (12, 2), (3, 21), (7, 12), (7, 13), (12, 3), (12, 4), (12, 5), (12, 6), (12, 7), (12, 8), (12, 9), (12, 10), (13, 6), (13, 7), (13, 8), (0, 23), (13, 9), (4, 3), (13, 10), (4, 5), (13, 11), (4, 6), (13, 12), (13, 13), (13, 14), (13, 15), (13, 16), (13, 17), (13, 18), (13, 19), (13, 20), (13, 21), (13, 22), (1, 23), (13, 23), (2, 12), (2, 13), (2, 14), (2, 15), (2, 16), (2, 17), (2, 18), (14, 0), (14, 1), (14, 2), (2, 3), (14, 3), (3, 0), (14, 4), (14, 5), (14, 6), (14, 7), (14, 8), (14, 9), (14, 10), (14, 11), (14, 12), (14, 13), (14, 14), (14, 15), (14, 16), (14, 17), (14, 18), (14, 19), (14, 20), (14, 21), (14, 22), (14, 23), (15, 0), (15, 1), (15, 2), (15, 3), (15, 4), (15, 5), (15, 6), (15, 7), (15, 8), (15, 9), (15, 10), (15, 11), (15, 12), (15, 13), (15, 14), (15, 15), (15, 16), (9, 13), (9, 14), (9, 15), (15, 17), (15, 18), (15, 19), (15, 20), (9, 21), (9, 22), (9, 23), (3, 5), (3, 6), (3, 7), (3, 8), (15, 21), (15, 22), (15, 23), (16, 0), (16, 1), (16, 2), (16, 3), (16, 4), (16, 5), (16, 6), (19, 19), (41, 0), (41, 1), (41, 2), (41, 3), (41, 4), (41, 5), (41, 6), (41, 7), (43, 0), (43, 1), (43, 2), (43, 3), (45, 0), (45, 1), (45, 2), (45, 3), (45, 4), (45, 5), (45, 6), (45, 7), (45, 8), (45, 9), (44, 0), (44, 1), (50, 0), (50, 1), (50, 2), (50, 3), (50, 4), (50, 5), (50, 6), (51, 0)] rfl (by decide +kernel)
set_option maxRecDepth 20000 in
theorem gL_law_X10_done : GoodIn wsL_law (wsV RL 49 RX10 yX10_done wsX10_done) := goodIn_app (rs_goodC _ [(19, 14), (19, 15), (19, 16), (0, 2)] rfl (by decide +kernel)) ggL_law_X10_done
set_option maxRecDepth 20000 in
theorem ggL_law_X11_done : GoodIn wsL_law wsX11_done := rs_goodC _ [(19, 23), (11, 2), (12, 15), (16, 15), (16, 16), (16, 17), (0, 5), (16, 18), (6, 1), (5, 14), (6, 19), (16, 19), (16, 11), (16, 20), (12, 12), (12, 13), (12, 14), (5, 18), (12, 16), (12, 17), (5, 19), (5, 20), (5, 21), (5, 22), (10, 6), (10, 7), (10, 8), (10, 9), (6, 17), (7, 21), (7, 22), (7, 23), (16, 21), (16, 22), (16, 23), (17, 0), (6, 0), (17, 1), (16, 14), (5, 23), (6, 21), (6, 22), (6, 23), (17, 2), (17, 3), (17, 4), (17, 5), (16, 12), (16, 13), (17, 6), (17, 7), (17, 8), (17, 9), (17, 10), (17, 11), (17, 12), (17, 13), (17, 14), (17, 15), (17, 16), (17, 17), (17, 18), (17, 19), (17, 20), (17, 21), (17, 22), (17, 23), (18, 0), (18, 1), (6, 18), (6, 10), (8, 19), (18, 2), (18, 3), (18, 4), (18, 5), (18, 6), (18, 7), (18, 8), (8, 20), (6, 11), (6, 12), (18, 9), (18, 10), (18, 11), (18, 12), (18, 13), (18, 14), (18, 15), (18, 16), (42, 0), (42, 1), (42, 2), (42, 3), (42, 4), (42, 5), (42, 6), (42, 7), (42, 8), (42, 9), (42, 10), (42, 11), (42, 12), (42, 13), (42, 14), (42, 15), (42, 16), (42, 17), (42, 18), (42, 19), (42, 20), (42, 21), (42, 22), (42, 23), (42, 24), (42, 25), (42, 26), (42, 27), (42, 28), (42, 29), (42, 30), (42, 31), (42, 32), (42, 33), (42, 34), (42, 35), (42, 36), (42, 37), (42, 38)] rfl (by decide +kernel)
set_option maxRecDepth 20000 in
theorem gL_law_X11_done : GoodIn wsL_law (wsV RL 52 RX11 yX11_done wsX11_done) := goodIn_app (rs_goodC _ [(19, 20), (19, 21), (19, 22), (0, 5)] rfl (by decide +kernel)) ggL_law_X11_done
set_option maxRecDepth 20000 in
theorem ggL_law_X10_lit : GoodIn wsL_law wsX10_lit := rs_goodC _ [(20, 3), (0, 15), (7, 4), (9, 16), (9, 17), (9, 18), (0, 2), (9, 19), (7, 5), (7, 11), (7, 12), (7, 13), (20, 4), (20, 5), (20, 6), (20, 7), (19, 2), (19, 3), (19, 4), (1, 23), (19, 5), (19, 6), (19, 7), (19, 8), (19, 9), (2, 13), (15, 4), (15, 5), (15, 6), (15, 7), (2, 12), (2, 14), (2, 15), (15, 8), (15, 9), (15, 10), (15, 11), (2, 16), (2, 17), (2, 18), (41, 0), (41, 1), (41, 2), (41, 3), (41, 4), (41, 5), (41, 6), (41, 7), (43, 0), (43, 1), (43, 2), (43, 3), (50, 0), (50, 1), (50, 2), (50, 3), (50, 4), (50, 5), (50, 6)] rfl (by decide +kernel)
set_option maxRecDepth 20000 in
theorem gL_law_X10_lit : GoodIn wsL_law (wsV RL 53 RX10 yX10_lit wsX10_lit) := goodIn_app (rs_goodC _ [(20, 0), (20, 1), (20, 2), (0, 2)] rfl (by decide +kernel)) ggL_law_X10_lit
set_option maxRecDepth 20000 in
theorem ggL_law_X11_lit : GoodIn wsL_law wsX11_lit := rs_goodC _ [(20, 11), (10, 6), (10, 7), (10, 8), (0, 5), (10, 9), (6, 17), (7, 21), (7, 22), (7, 23), (20, 12), (20, 13), (20, 14), (20, 15), (17, 18), (17, 19), (17, 20), (17, 21), (17, 22), (17, 23), (18, 0), (18, 1), (6, 18), (6, 10), (8, 19), (18, 2), (18, 3), (18, 4), (18, 5), (18, 6), (18, 7), (18, 8), (8, 20), (6, 11), (6, 12), (42, 0), (42, 1), (42, 2), (42, 3), (42, 4), (42, 5), (42, 6), (42, 7), (42, 8), (42, 9), (42, 10), (42, 11), (42, 12), (42, 13), (42, 14), (42, 15), (42, 16), (42, 17), (42, 18), (42, 19), (42, 20), (42, 21), (42, 22), (42, 23), (42, 24), (42, 25), (42, 26), (42, 27), (42, 28), (42, 29), (42, 30), (42, 31), (42, 32), (42, 33), (42, 34), (42, 35), (42, 36), (42, 37), (42, 38)] rfl (by decide +kernel)
set_option maxRecDepth 20000 in
theorem gL_law_X11_lit : GoodIn wsL_law (wsV RL 56 RX11 yX11_lit wsX11_lit) := goodIn_app (rs_goodC _ [(20, 8), (20, 9), (20, 10), (0, 5)] rfl (by decide +kernel)) ggL_law_X11_lit
set_option maxRecDepth 20000 in
theorem ggL_law_X10_covered : GoodIn wsL_law wsX10_covered := rs_goodC _ [(20, 19), (0, 15), (7, 4), (20, 4), (20, 5), (0, 2), (20, 6), (20, 7), (7, 11), (7, 12), (7, 13), (20, 20), (15, 5), (15, 6), (1, 23), (15, 7), (2, 12), (2, 13), (2, 14), (2, 15), (41, 0), (41, 1), (41, 2), (41, 3), (41, 4), (41, 5), (41, 6), (41, 7), (43, 0), (43, 1), (43, 2), (43, 3), (50, 0), (50, 1), (50, 2), (50, 3), (50, 4), (50, 5), (50, 6)] rfl (by decide +kernel)
set_option maxRecDepth 20000 in
theorem gL_law_X10_covered : GoodIn wsL_law (wsV RL 57 RX10 yX10_covered wsX10_covered) := goodIn_app (rs_goodC _ [(20, 16), (20, 17), (20, 18), (0, 2)] rfl (by decide +kernel)) ggL_law_X10_covered
set_option maxRecDepth 20000 in
theorem ggL_law_X11_covered : GoodIn wsL_law wsX11_covered := rs_goodC _ [(21, 0), (6, 17), (6, 18), (6, 10), (8, 19), (20, 12), (20, 13), (0, 5), (20, 14), (20, 15), (7, 21), (7, 22), (7, 23), (18, 2), (18, 3), (18, 4), (42, 0), (42, 1), (42, 2), (42, 3), (42, 4), (42, 5), (42, 6), (42, 7), (42, 8), (42, 9), (42, 10), (42, 11), (42, 12), (42, 13), (42, 14), (42, 15), (42, 16), (42, 17), (42, 18), (42, 19), (42, 20), (42, 21), (42, 22), (42, 23), (42, 24), (42, 25), (42, 26), (42, 27), (42, 28), (42, 29), (42, 30), (42, 31), (42, 32), (42, 33), (42, 34), (42, 35), (42, 36), (42, 37), (42, 38)] rfl (by decide +kernel)
set_option maxRecDepth 20000 in
theorem gL_law_X11_covered : GoodIn wsL_law (wsV RL 60 RX11 yX11_covered wsX11_covered) := goodIn_app (rs_goodC _ [(20, 21), (20, 22), (20, 23), (0, 5)] rfl (by decide +kernel)) ggL_law_X11_covered
set_option maxRecDepth 20000 in
theorem ggL_law_X10_lits : GoodIn wsL_law wsX10_lits := rs_goodC _ [(21, 4), (21, 5), (0, 15), (7, 4), (9, 16), (9, 17), (9, 18), (0, 2), (9, 19), (7, 5), (7, 11), (7, 12), (7, 13), (20, 4), (20, 5), (20, 6), (20, 7), (21, 6), (21, 7), (21, 8), (1, 23), (21, 9), (2, 14), (2, 16), (21, 10), (21, 11), (21, 12), (21, 13), (2, 12), (2, 13), (21, 14), (21, 15), (21, 16), (21, 17), (21, 18), (21, 19), (21, 20), (21, 21), (21, 22), (21, 23), (22, 0), (22, 1), (19, 3), (19, 4), (19, 5), (19, 6), (19, 7), (19, 8), (19, 9), (15, 4), (15, 5), (15, 6), (15, 7), (2, 15), (15, 8), (15, 9), (15, 10), (15, 11), (2, 17), (2, 18), (22, 2), (41, 0), (41, 1), (41, 2), (41, 3), (41, 4), (41, 5), (41, 6), (41, 7), (43, 0), (43, 1), (43, 2), (43, 3), (50, 0), (50, 1), (50, 2), (50, 3), (50, 4), (50, 5), (50, 6)] rfl (by decide +kernel)
set_option maxRecDepth 20000 in
theorem gL_law_X10_lits : GoodIn wsL_law (wsV RL 61 RX10 yX10_lits wsX10_lits) := goodIn_app (rs_goodC _ [(21, 1), (21, 2), (21, 3), (0, 2)] rfl (by decide +kernel)) ggL_law_X10_lits
set_option maxRecDepth 20000 in
theorem ggL_law_X11_lits : GoodIn wsL_law wsX11_lits := rs_goodC _ [(22, 6), (22, 7), (10, 6), (10, 7), (10, 8), (0, 5), (10, 9), (6, 17), (7, 21), (7, 22), (7, 23), (20, 12), (20, 13), (20, 14), (20, 15), (17, 18), (17, 19), (17, 20), (17, 21), (17, 22), (17, 23), (18, 0), (18, 1), (6, 18), (6, 10), (8, 19), (18, 2), (18, 3), (18, 4), (18, 5), (18, 6), (18, 7), (18, 8), (8, 20), (6, 11), (6, 12), (42, 0), (42, 1), (42, 2), (42, 3), (42, 4), (42, 5), (42, 6), (42, 7), (42, 8), (42, 9), (42, 10), (42, 11), (42, 12), (42, 13), (42, 14), (42, 15), (42, 16), (42, 17), (42, 18), (42, 19), (42, 20), (42, 21), (42, 22), (42, 23), (42, 24), (42, 25), (42, 26), (42, 27), (42, 28), (42, 29), (42, 30), (42, 31), (42, 32), (42, 33), (42, 34), (42, 35), (42, 36), (42, 37), (42, 38)] rfl (by decide +kernel)
set_option maxRecDepth 20000 in
theorem gL_law_X11_lits : GoodIn wsL_law (wsV RL 64 RX11 yX11_lits wsX11_lits) := goodIn_app (rs_goodC _ [(22, 3), (22, 4), (22, 5), (0, 5)] rfl (by decide +kernel)) ggL_law_X11_lits
set_option maxRecDepth 20000 in
theorem ggL_law_X10_next : GoodIn wsL_law wsX10_next := rs_goodC _ [(22, 11), (0, 15), (7, 4), (9, 16), (9, 17), (9, 18), (0, 2), (9, 19), (7, 5), (7, 11), (7, 12), (7, 13), (20, 4), (20, 5), (20, 6), (20, 7), (22, 12), (22, 13), (22, 14), (1, 23), (22, 15), (22, 16), (21, 7), (21, 8), (21, 9), (2, 14), (2, 16), (21, 10), (21, 11), (21, 12), (21, 13), (2, 12), (2, 13), (21, 14), (21, 15), (21, 16), (21, 17), (22, 1), (19, 3), (19, 4), (19, 5), (19, 6), (19, 7), (19, 8), (19, 9), (15, 4), (15, 5), (15, 6), (15, 7), (2, 15), (15, 8), (15, 9), (15, 10), (15, 11), (2, 17), (2, 18), (41, 0), (41, 1), (41, 2), (41, 3), (41, 4), (41, 5), (41, 6), (41, 7), (43, 0), (43, 1), (43, 2), (43, 3), (50, 0), (50, 1), (50, 2), (50, 3), (50, 4), (50, 5), (50, 6)] rfl (by decide +kernel)
set_option maxRecDepth 20000 in
theorem gL_law_X10_next : GoodIn wsL_law (wsV RL 65 RX10 yX10_next wsX10_next) := goodIn_app (rs_goodC _ [(22, 8), (22, 9), (22, 10), (0, 2)] rfl (by decide +kernel)) ggL_law_X10_next
set_option maxRecDepth 20000 in
theorem ggL_law_X11_next : GoodIn wsL_law wsX11_next := rs_goodC _ [(22, 20), (10, 6), (10, 7), (10, 8), (0, 5), (10, 9), (6, 17), (7, 21), (7, 22), (7, 23), (20, 12), (20, 13), (20, 14), (20, 15), (17, 18), (17, 19), (17, 20), (17, 21), (17, 22), (17, 23), (18, 0), (18, 1), (6, 18), (6, 10), (8, 19), (18, 2), (18, 3), (18, 4), (18, 5), (18, 6), (18, 7), (18, 8), (8, 20), (6, 11), (6, 12), (42, 0), (42, 1), (42, 2), (42, 3), (42, 4), (42, 5), (42, 6), (42, 7), (42, 8), (42, 9), (42, 10), (42, 11), (42, 12), (42, 13), (42, 14), (42, 15), (42, 16), (42, 17), (42, 18), (42, 19), (42, 20), (42, 21), (42, 22), (42, 23), (42, 24), (42, 25), (42, 26), (42, 27), (42, 28), (42, 29), (42, 30), (42, 31), (42, 32), (42, 33), (42, 34), (42, 35), (42, 36), (42, 37), (42, 38)] rfl (by decide +kernel)
set_option maxRecDepth 20000 in
theorem gL_law_X11_next : GoodIn wsL_law (wsV RL 69 RX11 yX11_next wsX11_next) := goodIn_app (rs_goodC _ [(22, 17), (22, 18), (22, 19), (0, 5)] rfl (by decide +kernel)) ggL_law_X11_next
set_option maxRecDepth 20000 in
theorem ggL_law_X10_longest : GoodIn wsL_law wsX10_longest := rs_goodC _ [(23, 0), (0, 15), (7, 4), (9, 16), (9, 17), (9, 18), (0, 2), (9, 19), (7, 5), (7, 11), (7, 12), (7, 13), (20, 4), (20, 5), (20, 6), (20, 7), (23, 1), (23, 2), (23, 3), (1, 23), (23, 4), (23, 5), (9, 13), (9, 14), (9, 15), (23, 6), (15, 18), (15, 19), (22, 16), (21, 7), (21, 8), (21, 9), (2, 14), (2, 16), (21, 10), (21, 11), (21, 12), (21, 13), (2, 12), (2, 13), (21, 14), (21, 15), (21, 16), (21, 17), (22, 1), (19, 3), (19, 4), (19, 5), (19, 6), (19, 7), (19, 8), (19, 9), (15, 4), (15, 5), (15, 6), (15, 7), (2, 15), (15, 8), (15, 9), (15, 10), (15, 11), (2, 17), (2, 18), (41, 0), (41, 1), (41, 2), (41, 3), (41, 4), (41, 5), (41, 6), (41, 7), (43, 0), (43, 1), (43, 2), (43, 3), (50, 0), (50, 1), (50, 2), (50, 3), (50, 4), (50, 5), (50, 6)] rfl (by decide +kernel)
set_option maxRecDepth 20000 in
theorem gL_law_X10_longest : GoodIn wsL_law (wsV RL 70 RX10 yX10_longest wsX10_longest) := goodIn_app (rs_goodC _ [(22, 21), (22, 22), (22, 23), (0, 2)] rfl (by decide +kernel)) ggL_law_X10_longest
set_option maxRecDepth 20000 in
theorem ggL_law_X11_longest : GoodIn wsL_law wsX11_longest := rs_goodC _ [(23, 10), (23, 11), (10, 6), (10, 7), (10, 8), (0, 5), (10, 9), (6, 17), (7, 21), (7, 22), (7, 23), (20, 12), (20, 13), (20, 14), (20, 15), (17, 18), (17, 19), (17, 20), (17, 21), (17, 22), (17, 23), (18, 0), (18, 1), (6, 18), (6, 10), (8, 19), (18, 2), (18, 3), (18, 4), (18, 5), (18, 6), (18, 7), (18, 8), (8, 20), (6, 11), (6, 12), (42, 0), (42, 1), (42, 2), (42, 3), (42, 4), (42, 5), (42, 6), (42, 7), (42, 8), (42, 9), (42, 10), (42, 11), (42, 12), (42, 13), (42, 14), (42, 15), (42, 16), (42, 17), (42, 18), (42, 19), (42, 20), (42, 21), (42, 22), (42, 23), (42, 24), (42, 25), (42, 26), (42, 27), (42, 28), (42, 29), (42, 30), (42, 31), (42, 32), (42, 33), (42, 34), (42, 35), (42, 36), (42, 37), (42, 38)] rfl (by decide +kernel)
set_option maxRecDepth 20000 in
theorem gL_law_X11_longest : GoodIn wsL_law (wsV RL 73 RX11 yX11_longest wsX11_longest) := goodIn_app (rs_goodC _ [(23, 7), (23, 8), (23, 9), (0, 5)] rfl (by decide +kernel)) ggL_law_X11_longest
set_option maxRecDepth 20000 in
theorem ggL_law_X10_hungry : GoodIn wsL_law wsX10_hungry := rs_goodC _ [(23, 15), (1, 0), (0, 15), (13, 1), (13, 0), (7, 11), (7, 12), (0, 2), (7, 13), (13, 6), (13, 7), (13, 8), (0, 23), (13, 9), (4, 3), (13, 10), (4, 5), (13, 11), (4, 6), (13, 12), (13, 13), (13, 14), (13, 15), (13, 16), (13, 17), (13, 18), (13, 19), (13, 20), (13, 21), (13, 22), (1, 23), (13, 23), (2, 12), (2, 13), (2, 14), (2, 15), (2, 16), (2, 17), (2, 18), (14, 0), (14, 1), (14, 2), (2, 3), (14, 3), (3, 0), (14, 4), (14, 5), (14, 6), (14, 7), (23, 16), (23, 17), (23, 18), (23, 19), (14, 19), (14, 20), (14, 21), (14, 22), (14, 23), (15, 0), (15, 1), (15, 2), (15, 3), (15, 4), (15, 5), (15, 6), (15, 7), (15, 8), (15, 9), (15, 10), (15, 11), (15, 12), (15, 13), (15, 14), (15, 15), (15, 16), (9, 13), (9, 14), (9, 15), (15, 17), (15, 18), (15, 19), (15, 20), (9, 21), (9, 22), (9, 23), (3, 5), (3, 6), (3, 7), (3, 8), (15, 21), (15, 22), (15, 23), (16, 0), (23, 20), (23, 21), (23, 22), (23, 23), (41, 0), (41, 1), (41, 2), (41, 3), (41, 4), (41, 5), (41, 6), (41, 7), (45, 0), (45, 1), (45, 2), (45, 3), (45, 4), (45, 5), (45, 6), (45, 7), (45, 8), (45, 9), (43, 0), (43, 1), (43, 2), (43, 3), (50, 0), (50, 1), (50, 2), (50, 3), (50, 4), (50, 5), (50, 6), (51, 0)] rfl (by decide +kernel)
set_option maxRecDepth 20000 in
theorem gL_law_X10_hungry : GoodIn wsL_law (wsV RL 74 RX10 yX10_hungry wsX10_hungry) := goodIn_app (rs_goodC _ [(23, 12), (23, 13), (23, 14), (0, 2)] rfl (by decide +kernel)) ggL_law_X10_hungry
set_option maxRecDepth 20000 in
theorem ggL_law_X11_hungry : GoodIn wsL_law wsX11_hungry := rs_goodC _ [(24, 3), (6, 17), (5, 23), (7, 21), (7, 22), (0, 5), (7, 23), (16, 21), (16, 22), (16, 23), (17, 0), (6, 0), (5, 14), (6, 19), (17, 1), (16, 14), (6, 21), (6, 22), (6, 23), (17, 14), (17, 15), (17, 16), (17, 17), (17, 18), (17, 19), (17, 20), (17, 21), (17, 22), (17, 23), (18, 0), (18, 1), (6, 18), (6, 10), (8, 19), (18, 2), (18, 3), (18, 4), (18, 5), (18, 6), (18, 7), (18, 8), (8, 20), (6, 11), (6, 12), (18, 9), (18, 10), (18, 11), (18, 12), (18, 13), (18, 14), (18, 15), (18, 16), (42, 0), (42, 1), (42, 2), (42, 3), (42, 4), (42, 5), (42, 6), (42, 7), (42, 8), (42, 9), (42, 10), (42, 11), (42, 12), (42, 13), (42, 14), (42, 15), (42, 16), (42, 17), (42, 18), (42, 19), (42, 20), (42, 21), (42, 22), (42, 23), (42, 24), (42, 25), (42, 26), (42, 27), (42, 28), (42, 29), (42, 30), (42, 31), (42, 32), (42, 33), (42, 34), (42, 35), (42, 36), (42, 37), (42, 38)] rfl (by decide +kernel)
set_option maxRecDepth 20000 in
theorem gL_law_X11_hungry : GoodIn wsL_law (wsV RL 77 RX11 yX11_hungry wsX11_hungry) := goodIn_app (rs_goodC _ [(24, 0), (24, 1), (24, 2), (0, 5)] rfl (by decide +kernel)) ggL_law_X11_hungry
set_option maxRecDepth 20000 in
theorem ggL_law_X10_needs : GoodIn wsL_law wsX10_needs := rs_goodC _ [(24, 7), (0, 15), (9, 16), (9, 17), (9, 18), (0, 2), (9, 19), (7, 4), (7, 5), (7, 11), (7, 12), (7, 13), (24, 8), (24, 9), (24, 10), (0, 14), (24, 11), (2, 4), (2, 0), (24, 12), (24, 13), (15, 18), (9, 14), (15, 19), (24, 14), (9, 21), (9, 22), (2, 3), (9, 23), (3, 0), (24, 15), (19, 3), (19, 4), (1, 23), (19, 5), (19, 6), (19, 7), (19, 8), (19, 9), (2, 13), (15, 4), (15, 5), (15, 6), (15, 7), (2, 12), (2, 14), (2, 15), (15, 8), (15, 9), (15, 10), (15, 11), (2, 16), (2, 17), (2, 18), (41, 0), (41, 1), (41, 2), (41, 3), (41, 4), (41, 5), (41, 6), (41, 7), (43, 0), (43, 1), (43, 2), (43, 3), (50, 0), (50, 1), (50, 2), (50, 3), (50, 4), (50, 5), (50, 6), (51, 0)] rfl (by decide +kernel)
set_option maxRecDepth 20000 in
theorem gL_law_X10_needs : GoodIn wsL_law (wsV RL 78 RX10 yX10_needs wsX10_needs) := goodIn_app (rs_goodC _ [(24, 4), (24, 5), (24, 6), (0, 2)] rfl (by decide +kernel)) ggL_law_X10_needs
set_option maxRecDepth 20000 in
theorem ggL_law_X11_needs : GoodIn wsL_law wsX11_needs := rs_goodC _ [(24, 19), (9, 1), (10, 6), (10, 7), (10, 8), (0, 5), (10, 9), (6, 17), (7, 21), (7, 22), (7, 23), (16, 21), (16, 22), (16, 23), (17, 0), (6, 0), (5, 14), (6, 19), (17, 1), (16, 14), (5, 23), (6, 21), (6, 22), (6, 23), (24, 20), (24, 21), (24, 22), (24, 23), (25, 0), (25, 1), (25, 2), (25, 3), (17, 18), (17, 19), (17, 20), (17, 21), (17, 22), (17, 23), (18, 0), (18, 1), (6, 18), (6, 10), (8, 19), (18, 2), (18, 3), (18, 4), (18, 5), (18, 6), (18, 7), (18, 8), (8, 20), (6, 11), (6, 12), (18, 9), (18, 10), (18, 11), (18, 12), (42, 0), (42, 1), (42, 2), (42, 3), (42, 4), (42, 5), (42, 6), (42, 7), (42, 8), (42, 9), (42, 10), (42, 11), (42, 12), (42, 13), (42, 14), (42, 15), (42, 16), (42, 17), (42, 18), (42, 19), (42, 20), (42, 21), (42, 22), (42, 23), (42, 24), (42, 25), (42, 26), (42, 27), (42, 28), (42, 29), (42, 30), (42, 31), (42, 32), (42, 33), (42, 34), (42, 35), (42, 36), (42, 37), (42, 38)] rfl (by decide +kernel)
set_option maxRecDepth 20000 in
theorem gL_law_X11_needs : GoodIn wsL_law (wsV RL 81 RX11 yX11_needs wsX11_needs) := goodIn_app (rs_goodC _ [(24, 16), (24, 17), (24, 18), (0, 5)] rfl (by decide +kernel)) ggL_law_X11_needs
set_option maxRecDepth 20000 in
theorem ggL_law_X10_carry : GoodIn wsL_law wsX10_carry := rs_goodC _ [(25, 7), (1, 12), (0, 15), (7, 11), (7, 12), (0, 2), (7, 13), (25, 8), (25, 9), (25, 10), (1, 11), (25, 11), (25, 12), (25, 13), (25, 14), (5, 2), (5, 3), (25, 15), (9, 13), (9, 14), (9, 15), (25, 16), (25, 17), (25, 18), (25, 19), (25, 20), (25, 21), (2, 3), (25, 22), (15, 20), (9, 21), (9, 22), (9, 23), (3, 0), (15, 23), (16, 0), (25, 23), (24, 9), (24, 10), (0, 14), (24, 11), (2, 4), (2, 0), (24, 12), (24, 13), (15, 18), (15, 19), (24, 14), (24, 15), (19, 3), (19, 4), (1, 23), (19, 5), (19, 6), (19, 7), (19, 8), (19, 9), (2, 13), (15, 4), (15, 5), (15, 6), (15, 7), (2, 12), (2, 14), (2, 15), (15, 8), (15, 9), (15, 10), (15, 11), (2, 16), (2, 17), (2, 18), (26, 0), (26, 1), (26, 2), (26, 3), (15, 21), (15, 22), (26, 4), (26, 5), (26, 6), (26, 7), (41, 0), (41, 1), (41, 2), (41, 3), (41, 4), (41, 5), (41, 6), (41, 7), (43, 0), (43, 1), (43, 2), (43, 3), (50, 0), (50, 1), (50, 2), (50, 3), (50, 4), (50, 5), (50, 6), (48, 0), (48, 1), (51, 0)] rfl (by decide +kernel)
set_option maxRecDepth 20000 in
theorem gL_law_X10_carry : GoodIn wsL_law (wsV RL 82 RX10 yX10_carry wsX10_carry) := goodIn_app (rs_goodC _ [(25, 4), (25, 5), (25, 6), (0, 2)] rfl (by decide +kernel)) ggL_law_X10_carry
set_option maxRecDepth 20000 in
theorem ggL_law_X11_carry : GoodIn wsL_law wsX11_carry := rs_goodC _ [(26, 11), (26, 12), (6, 2), (26, 13), (6, 17), (5, 14), (7, 21), (7, 22), (0, 5), (7, 23), (16, 21), (16, 22), (16, 23), (17, 0), (6, 0), (6, 19), (17, 1), (16, 14), (5, 23), (6, 21), (6, 22), (6, 23), (24, 20), (24, 21), (24, 22), (24, 23), (25, 0), (25, 1), (25, 2), (25, 3), (17, 18), (17, 19), (17, 20), (17, 21), (17, 22), (17, 23), (18, 0), (18, 1), (6, 18), (6, 10), (8, 19), (18, 2), (18, 3), (18, 4), (18, 5), (18, 6), (18, 7), (18, 8), (8, 20), (6, 11), (6, 12), (18, 9), (18, 10), (18, 11), (18, 12), (26, 14), (26, 15), (26, 16), (26, 17), (6, 3), (42, 0), (42, 1), (42, 2), (42, 3), (42, 4), (42, 5), (42, 6), (42, 7), (42, 8), (42, 9), (42, 10), (42, 11), (42, 12), (42, 13), (42, 14), (42, 15), (42, 16), (42, 17), (42, 18), (42, 19), (42, 20), (42, 21), (42, 22), (42, 23), (42, 24), (42, 25), (42, 26), (42, 27), (42, 28), (42, 29), (42, 30), (42, 31), (42, 32), (42, 33), (42, 34), (42, 35), (42, 36), (42, 37), (42, 38)] rfl (by decide +kernel)
set_option maxRecDepth 20000 in
theorem gL_law_X11_carry : GoodIn wsL_law (wsV RL 85 RX11 yX11_carry wsX11_carry) := goodIn_app (rs_goodC _ [(26, 8), (26, 9), (26, 10), (0, 5)] rfl (by decide +kernel)) ggL_law_X11_carry
set_option maxRecDepth 20000 in
theorem ggL_law_X10_paced : GoodIn wsL_law wsX10_paced := rs_goodC _ [(26, 21), (1, 0), (0, 15), (18, 23), (26, 22), (13, 1), (7, 11), (7, 12), (0, 2), (7, 13), (13, 6), (13, 7), (13, 8), (0, 23), (13, 9), (4, 3), (13, 10), (4, 5), (13, 11), (4, 6), (13, 12), (13, 13), (13, 14), (13, 15), (13, 16), (13, 17), (13, 18), (13, 19), (13, 20), (13, 21), (13, 22), (1, 23), (13, 23), (2, 12), (2, 13), (2, 14), (2, 15), (2, 16), (2, 17), (2, 18), (14, 0), (14, 1), (14, 2), (2, 3), (14, 3), (3, 0), (14, 4), (14, 5), (14, 6), (14, 7), (26, 23), (14, 16), (14, 17), (14, 18), (14, 19), (14, 20), (14, 21), (14, 22), (14, 23), (15, 0), (15, 1), (15, 2), (15, 3), (15, 4), (15, 5), (15, 6), (15, 7), (15, 8), (15, 9), (15, 10), (15, 11), (15, 12), (15, 13), (15, 14), (15, 15), (15, 16), (9, 13), (9, 14), (9, 15), (15, 17), (15, 18), (15, 19), (15, 20), (9, 21), (9, 22), (9, 23), (3, 5), (3, 6), (3, 7), (3, 8), (15, 21), (15, 22), (15, 23), (16, 0), (41, 0), (41, 1), (41, 2), (41, 3), (41, 4), (41, 5), (41, 6), (41, 7), (45, 0), (45, 1), (45, 2), (45, 3), (45, 4), (45, 5), (45, 6), (45, 7), (45, 8), (45, 9), (50, 0), (50, 1), (50, 2), (50, 3), (50, 4), (50, 5), (50, 6), (43, 0), (43, 1), (43, 2), (43, 3), (51, 0)] rfl (by decide +kernel)
set_option maxRecDepth 20000 in
theorem gL_law_X10_paced : GoodIn wsL_law (wsV RL 86 RX10 yX10_paced wsX10_paced) := goodIn_app (rs_goodC _ [(26, 18), (26, 19), (26, 20), (0, 2)] rfl (by decide +kernel)) ggL_law_X10_paced
set_option maxRecDepth 20000 in
theorem ggL_law_X11_paced : GoodIn wsL_law wsX11_paced := rs_goodC _ [(27, 3), (7, 20), (9, 1), (6, 10), (16, 14), (7, 21), (7, 22), (0, 5), (7, 23), (16, 21), (16, 22), (16, 23), (17, 0), (6, 0), (5, 14), (6, 19), (17, 1), (5, 23), (6, 21), (6, 22), (6, 23), (17, 14), (17, 15), (17, 16), (17, 17), (6, 17), (17, 18), (17, 19), (17, 20), (17, 21), (17, 22), (17, 23), (18, 0), (18, 1), (6, 18), (8, 19), (18, 2), (18, 3), (18, 4), (18, 5), (18, 6), (18, 7), (18, 8), (8, 20), (6, 11), (6, 12), (18, 9), (18, 10), (18, 11), (18, 12), (18, 13), (18, 14), (18, 15), (18, 16), (42, 0), (42, 1), (42, 2), (42, 3), (42, 4), (42, 5), (42, 6), (42, 7), (42, 8), (42, 9), (42, 10), (42, 11), (42, 12), (42, 13), (42, 14), (42, 15), (42, 16), (42, 17), (42, 18), (42, 19), (42, 20), (42, 21), (42, 22), (42, 23), (42, 24), (42, 25), (42, 26), (42, 27), (42, 28), (42, 29), (42, 30), (42, 31), (42, 32), (42, 33), (42, 34), (42, 35), (42, 36), (42, 37), (42, 38)] rfl (by decide +kernel)
set_option maxRecDepth 20000 in
theorem gL_law_X11_paced : GoodIn wsL_law (wsV RL 89 RX11 yX11_paced wsX11_paced) := goodIn_app (rs_goodC _ [(27, 0), (27, 1), (27, 2), (0, 5)] rfl (by decide +kernel)) ggL_law_X11_paced
set_option maxRecDepth 20000 in
theorem ggL_law_X10_strike : GoodIn wsL_law wsX10_strike := rs_goodC _ [(27, 7), (0, 15), (7, 4), (27, 8), (27, 9), (27, 10), (0, 2), (27, 11), (9, 16), (9, 17), (9, 18), (9, 19), (7, 5), (7, 11), (7, 12), (7, 13), (20, 4), (20, 5), (20, 6), (20, 7), (27, 12), (27, 13), (27, 14), (1, 23), (27, 15), (22, 16), (21, 7), (21, 8), (21, 9), (2, 14), (2, 16), (21, 10), (21, 11), (21, 12), (21, 13), (2, 12), (2, 13), (21, 14), (21, 15), (21, 16), (21, 17), (27, 16), (27, 17), (27, 18), (27, 19), (22, 1), (19, 3), (19, 4), (19, 5), (19, 6), (19, 7), (19, 8), (19, 9), (15, 4), (15, 5), (15, 6), (15, 7), (2, 15), (15, 8), (15, 9), (15, 10), (15, 11), (2, 17), (2, 18), (41, 0), (41, 1), (41, 2), (41, 3), (41, 4), (41, 5), (41, 6), (41, 7), (43, 0), (43, 1), (43, 2), (43, 3), (50, 0), (50, 1), (50, 2), (50, 3), (50, 4), (50, 5), (50, 6)] rfl (by decide +kernel)
set_option maxRecDepth 20000 in
theorem gL_law_X10_strike : GoodIn wsL_law (wsV RL 90 RX10 yX10_strike wsX10_strike) := goodIn_app (rs_goodC _ [(27, 4), (27, 5), (27, 6), (0, 2)] rfl (by decide +kernel)) ggL_law_X10_strike
set_option maxRecDepth 20000 in
theorem ggL_law_X11_strike : GoodIn wsL_law wsX11_strike := rs_goodC _ [(27, 23), (28, 0), (28, 1), (28, 2), (0, 5), (28, 3), (10, 6), (10, 7), (10, 8), (10, 9), (6, 17), (7, 21), (7, 22), (7, 23), (20, 12), (20, 13), (20, 14), (20, 15), (28, 4), (28, 5), (28, 6), (28, 7), (17, 18), (17, 19), (17, 20), (17, 21), (17, 22), (17, 23), (18, 0), (18, 1), (6, 18), (6, 10), (8, 19), (18, 2), (18, 3), (18, 4), (18, 5), (18, 6), (18, 7), (18, 8), (8, 20), (6, 11), (6, 12), (42, 0), (42, 1), (42, 2), (42, 3), (42, 4), (42, 5), (42, 6), (42, 7), (42, 8), (42, 9), (42, 10), (42, 11), (42, 12), (42, 13), (42, 14), (42, 15), (42, 16), (42, 17), (42, 18), (42, 19), (42, 20), (42, 21), (42, 22), (42, 23), (42, 24), (42, 25), (42, 26), (42, 27), (42, 28), (42, 29), (42, 30), (42, 31), (42, 32), (42, 33), (42, 34), (42, 35), (42, 36), (42, 37), (42, 38)] rfl (by decide +kernel)
set_option maxRecDepth 20000 in
theorem gL_law_X11_strike : GoodIn wsL_law (wsV RL 93 RX11 yX11_strike wsX11_strike) := goodIn_app (rs_goodC _ [(27, 20), (27, 21), (27, 22), (0, 5)] rfl (by decide +kernel)) ggL_law_X11_strike
set_option maxRecDepth 20000 in
theorem ggL_law_X10_strikes : GoodIn wsL_law wsX10_strikes := rs_goodC _ [(28, 11), (0, 15), (7, 4), (27, 8), (27, 9), (27, 10), (0, 2), (27, 11), (9, 16), (9, 17), (9, 18), (9, 19), (7, 5), (7, 11), (7, 12), (7, 13), (20, 4), (20, 5), (20, 6), (20, 7), (21, 6), (21, 7), (21, 8), (1, 23), (21, 9), (2, 14), (2, 16), (21, 10), (21, 11), (21, 12), (21, 13), (2, 12), (2, 13), (21, 14), (21, 15), (21, 16), (21, 17), (21, 18), (21, 19), (21, 20), (28, 12), (28, 13), (28, 14), (28, 15), (27, 16), (27, 17), (27, 18), (27, 19), (22, 1), (19, 3), (19, 4), (19, 5), (19, 6), (19, 7), (19, 8), (19, 9), (15, 4), (15, 5), (15, 6), (15, 7), (2, 15), (15, 8), (15, 9), (15, 10), (15, 11), (2, 17), (2, 18), (22, 2), (41, 0), (41, 1), (41, 2), (41, 3), (41, 4), (41, 5), (41, 6), (41, 7), (43, 0), (43, 1), (43, 2), (43, 3), (50, 0), (50, 1), (50, 2), (50, 3), (50, 4), (50, 5), (50, 6)] rfl (by decide +kernel)
set_option maxRecDepth 20000 in
theorem gL_law_X10_strikes : GoodIn wsL_law (wsV RL 94 RX10 yX10_strikes wsX10_strikes) := goodIn_app (rs_goodC _ [(28, 8), (28, 9), (28, 10), (0, 2)] rfl (by decide +kernel)) ggL_law_X10_strikes
set_option maxRecDepth 20000 in
theorem ggL_law_X11_strikes : GoodIn wsL_law wsX11_strikes := rs_goodC _ [(28, 19), (23, 11), (28, 0), (28, 1), (28, 2), (0, 5), (28, 3), (10, 6), (10, 7), (10, 8), (10, 9), (6, 17), (7, 21), (7, 22), (7, 23), (20, 12), (20, 13), (20, 14), (20, 15), (28, 4), (28, 5), (28, 6), (28, 7), (17, 18), (17, 19), (17, 20), (17, 21), (17, 22), (17, 23), (18, 0), (18, 1), (6, 18), (6, 10), (8, 19), (18, 2), (18, 3), (18, 4), (18, 5), (18, 6), (18, 7), (18, 8), (8, 20), (6, 11), (6, 12), (42, 0), (42, 1), (42, 2), (42, 3), (42, 4), (42, 5), (42, 6), (42, 7), (42, 8), (42, 9), (42, 10), (42, 11), (42, 12), (42, 13), (42, 14), (42, 15), (42, 16), (42, 17), (42, 18), (42, 19), (42, 20), (42, 21), (42, 22), (42, 23), (42, 24), (42, 25), (42, 26), (42, 27), (42, 28), (42, 29), (42, 30), (42, 31), (42, 32), (42, 33), (42, 34), (42, 35), (42, 36), (42, 37), (42, 38)] rfl (by decide +kernel)
set_option maxRecDepth 20000 in
theorem gL_law_X11_strikes : GoodIn wsL_law (wsV RL 98 RX11 yX11_strikes wsX11_strikes) := goodIn_app (rs_goodC _ [(28, 16), (28, 17), (28, 18), (0, 5)] rfl (by decide +kernel)) ggL_law_X11_strikes
set_option maxRecDepth 20000 in
theorem ggL_law_X10_ways : GoodIn wsL_law wsX10_ways := rs_goodC _ [(28, 23), (29, 0), (29, 1), (1, 4), (0, 15), (7, 4), (9, 16), (9, 17), (9, 18), (0, 2), (9, 19), (7, 5), (7, 11), (7, 12), (7, 13), (20, 4), (20, 5), (20, 6), (20, 7), (29, 2), (29, 3), (29, 4), (1, 3), (29, 5), (4, 13), (4, 14), (29, 6), (29, 7), (29, 8), (19, 3), (19, 4), (1, 23), (19, 5), (19, 6), (19, 7), (19, 8), (19, 9), (2, 13), (15, 4), (15, 5), (15, 6), (15, 7), (2, 12), (2, 14), (2, 15), (15, 8), (15, 9), (15, 10), (15, 11), (2, 16), (2, 17), (2, 18), (29, 9), (29, 10), (29, 11), (15, 1), (15, 2), (15, 3), (29, 12), (29, 13), (29, 14), (29, 15), (29, 16), (41, 0), (41, 1), (41, 2), (41, 3), (41, 4), (41, 5), (41, 6), (41, 7), (43, 0), (43, 1), (43, 2), (43, 3), (50, 0), (50, 1), (50, 2), (50, 3), (50, 4), (50, 5), (50, 6), (46, 0), (46, 1)] rfl (by decide +kernel)
set_option maxRecDepth 20000 in
theorem gL_law_X10_ways : GoodIn wsL_law (wsV RL 99 RX10 yX10_ways wsX10_ways) := goodIn_app (rs_goodC _ [(28, 20), (28, 21), (28, 22), (0, 2)] rfl (by decide +kernel)) ggL_law_X10_ways
set_option maxRecDepth 20000 in
theorem ggL_law_X11_ways : GoodIn wsL_law wsX11_ways := rs_goodC _ [(29, 20), (29, 21), (29, 22), (29, 23), (6, 4), (10, 6), (10, 7), (10, 8), (0, 5), (10, 9), (6, 17), (7, 21), (7, 22), (7, 23), (20, 12), (20, 13), (20, 14), (20, 15), (30, 0), (30, 1), (30, 2), (30, 3), (30, 4), (30, 5), (30, 6), (30, 7), (17, 18), (17, 19), (17, 20), (17, 21), (17, 22), (17, 23), (18, 0), (18, 1), (6, 18), (6, 10), (8, 19), (18, 2), (18, 3), (18, 4), (18, 5), (18, 6), (18, 7), (18, 8), (8, 20), (6, 11), (6, 12), (30, 8), (30, 9), (30, 10), (30, 11), (6, 5), (42, 0), (42, 1), (42, 2), (42, 3), (42, 4), (42, 5), (42, 6), (42, 7), (42, 8), (42, 9), (42, 10), (42, 11), (42, 12), (42, 13), (42, 14), (42, 15), (42, 16), (42, 17), (42, 18), (42, 19), (42, 20), (42, 21), (42, 22), (42, 23), (42, 24), (42, 25), (42, 26), (42, 27), (42, 28), (42, 29), (42, 30), (42, 31), (42, 32), (42, 33), (42, 34), (42, 35), (42, 36), (42, 37), (42, 38)] rfl (by decide +kernel)
set_option maxRecDepth 20000 in
theorem gL_law_X11_ways : GoodIn wsL_law (wsV RL 103 RX11 yX11_ways wsX11_ways) := goodIn_app (rs_goodC _ [(29, 17), (29, 18), (29, 19), (0, 5)] rfl (by decide +kernel)) ggL_law_X11_ways
set_option maxRecDepth 20000 in
theorem ggL_law_X10_where : GoodIn wsL_law wsX10_where := rs_goodC _ [(30, 15), (0, 15), (7, 4), (9, 16), (9, 17), (9, 18), (0, 2), (9, 19), (7, 5), (7, 11), (7, 12), (7, 13), (20, 4), (20, 5), (20, 6), (20, 7), (30, 16), (15, 1), (15, 2), (1, 23), (15, 3), (2, 13), (15, 4), (15, 5), (15, 6), (15, 7), (2, 12), (2, 14), (2, 15), (15, 8), (15, 9), (15, 10), (15, 11), (2, 16), (2, 17), (2, 18), (30, 17), (30, 18), (30, 19), (41, 0), (41, 1), (41, 2), (41, 3), (41, 4), (41, 5), (41, 6), (41, 7), (43, 0), (43, 1), (43, 2), (43, 3), (50, 0), (50, 1), (50, 2), (50, 3), (50, 4), (50, 5), (50, 6)] rfl (by decide +kernel)
set_option maxRecDepth 20000 in
theorem gL_law_X10_where : GoodIn wsL_law (wsV RL 104 RX10 yX10_where wsX10_where) := goodIn_app (rs_goodC _ [(30, 12), (30, 13), (30, 14), (0, 2)] rfl (by decide +kernel)) ggL_law_X10_where
set_option maxRecDepth 20000 in
theorem ggL_law_X11_where : GoodIn wsL_law wsX11_where := rs_goodC _ [(30, 23), (29, 22), (10, 6), (10, 7), (10, 8), (0, 5), (10, 9), (6, 17), (7, 21), (7, 22), (7, 23), (20, 12), (20, 13), (20, 14), (20, 15), (30, 0), (30, 1), (30, 2), (30, 3), (30, 4), (30, 5), (30, 6), (30, 7), (6, 4), (17, 18), (17, 19), (17, 20), (17, 21), (17, 22), (17, 23), (18, 0), (18, 1), (6, 18), (6, 10), (8, 19), (18, 2), (18, 3), (18, 4), (18, 5), (18, 6), (18, 7), (18, 8), (8, 20), (6, 11), (6, 12), (30, 8), (30, 9), (30, 10), (30, 11), (6, 5), (31, 0), (31, 1), (31, 2), (31, 3), (42, 0), (42, 1), (42, 2), (42, 3), (42, 4), (42, 5), (42, 6), (42, 7), (42, 8), (42, 9), (42, 10), (42, 11), (42, 12), (42, 13), (42, 14), (42, 15), (42, 16), (42, 17), (42, 18), (42, 19), (42, 20), (42, 21), (42, 22), (42, 23), (42, 24), (42, 25), (42, 26), (42, 27), (42, 28), (42, 29), (42, 30), (42, 31), (42, 32), (42, 33), (42, 34), (42, 35), (42, 36), (42, 37), (42, 38)] rfl (by decide +kernel)
set_option maxRecDepth 20000 in
theorem gL_law_X11_where : GoodIn wsL_law (wsV RL 107 RX11 yX11_where wsX11_where) := goodIn_app (rs_goodC _ [(30, 20), (30, 21), (30, 22), (0, 5)] rfl (by decide +kernel)) ggL_law_X11_where
set_option maxRecDepth 20000 in
theorem ggL_law_X10_meet : GoodIn wsL_law wsX10_meet := rs_goodC _ [(31, 7), (0, 15), (7, 4), (9, 16), (9, 17), (9, 18), (0, 2), (9, 19), (7, 5), (7, 11), (7, 12), (7, 13), (20, 4), (20, 5), (20, 6), (20, 7), (30, 16), (15, 1), (15, 2), (1, 23), (15, 3), (2, 13), (15, 4), (15, 5), (15, 6), (15, 7), (2, 12), (2, 14), (2, 15), (15, 8), (15, 9), (15, 10), (15, 11), (2, 16), (2, 17), (2, 18), (30, 17), (30, 18), (30, 19), (41, 0), (41, 1), (41, 2), (41, 3), (41, 4), (41, 5), (41, 6), (41, 7), (43, 0), (43, 1), (43, 2), (43, 3), (50, 0), (50, 1), (50, 2), (50, 3), (50, 4), (50, 5), (50, 6)] rfl (by decide +kernel)
set_option maxRecDepth 20000 in
theorem gL_law_X10_meet : GoodIn wsL_law (wsV RL 108 RX10 yX10_meet wsX10_meet) := goodIn_app (rs_goodC _ [(31, 4), (31, 5), (31, 6), (0, 2)] rfl (by decide +kernel)) ggL_law_X10_meet
set_option maxRecDepth 20000 in
theorem ggL_law_X11_meet : GoodIn wsL_law wsX11_meet := rs_goodC _ [(31, 11), (10, 6), (10, 7), (10, 8), (0, 5), (10, 9), (6, 17), (7, 21), (7, 22), (7, 23), (20, 12), (20, 13), (20, 14), (20, 15), (30, 0), (30, 1), (30, 2), (30, 3), (30, 4), (30, 5), (30, 6), (30, 7), (6, 4), (17, 18), (17, 19), (17, 20), (17, 21), (17, 22), (17, 23), (18, 0), (18, 1), (6, 18), (6, 10), (8, 19), (18, 2), (18, 3), (18, 4), (18, 5), (18, 6), (18, 7), (18, 8), (8, 20), (6, 11), (6, 12), (30, 8), (30, 9), (30, 10), (30, 11), (6, 5), (31, 0), (31, 1), (31, 2), (31, 3), (42, 0), (42, 1), (42, 2), (42, 3), (42, 4), (42, 5), (42, 6), (42, 7), (42, 8), (42, 9), (42, 10), (42, 11), (42, 12), (42, 13), (42, 14), (42, 15), (42, 16), (42, 17), (42, 18), (42, 19), (42, 20), (42, 21), (42, 22), (42, 23), (42, 24), (42, 25), (42, 26), (42, 27), (42, 28), (42, 29), (42, 30), (42, 31), (42, 32), (42, 33), (42, 34), (42, 35), (42, 36), (42, 37), (42, 38)] rfl (by decide +kernel)
set_option maxRecDepth 20000 in
theorem gL_law_X11_meet : GoodIn wsL_law (wsV RL 111 RX11 yX11_meet wsX11_meet) := goodIn_app (rs_goodC _ [(31, 8), (31, 9), (31, 10), (0, 5)] rfl (by decide +kernel)) ggL_law_X11_meet
set_option maxRecDepth 20000 in
theorem ggL_law_X10_seen : GoodIn wsL_law wsX10_seen := rs_goodC _ [(31, 15), (0, 15), (7, 8), (7, 9), (9, 16), (9, 17), (9, 18), (0, 2), (9, 19), (7, 4), (7, 5), (7, 11), (7, 12), (7, 13), (31, 16), (31, 17), (31, 18), (2, 7), (31, 19), (31, 20), (3, 13), (3, 14), (3, 15), (15, 23), (16, 0), (41, 0), (41, 1), (41, 2), (41, 3), (41, 4), (41, 5), (41, 6), (41, 7), (43, 0), (43, 1), (43, 2), (43, 3), (52, 0), (52, 1), (52, 2), (52, 3), (50, 0), (50, 1), (50, 2), (50, 3), (50, 4), (50, 5), (50, 6)] rfl (by decide +kernel)
set_option maxRecDepth 20000 in
theorem gL_law_X10_seen : GoodIn wsL_law (wsV RL 112 RX10 yX10_seen wsX10_seen) := goodIn_app (rs_goodC _ [(31, 12), (31, 13), (31, 14), (0, 2)] rfl (by decide +kernel)) ggL_law_X10_seen
set_option maxRecDepth 20000 in
theorem ggL_law_X11_seen : GoodIn wsL_law wsX11_seen := rs_goodC _ [(32, 0), (23, 11), (6, 20), (5, 15), (5, 16), (5, 17), (10, 6), (10, 7), (10, 8), (0, 5), (10, 9), (6, 17), (7, 21), (7, 22), (7, 23), (42, 0), (42, 1), (42, 2), (42, 3), (42, 4), (42, 5), (42, 6), (42, 7), (42, 8), (42, 9), (42, 10), (42, 11), (42, 12), (42, 13), (42, 14), (42, 15), (42, 16), (42, 17), (42, 18), (42, 19), (42, 20), (42, 21), (42, 22), (42, 23), (42, 24), (42, 25), (42, 26), (42, 27), (42, 28), (42, 29), (42, 30), (42, 31), (42, 32), (42, 33), (42, 34), (42, 35), (42, 36), (42, 37), (42, 38)] rfl (by decide +kernel)
set_option maxRecDepth 20000 in
theorem gL_law_X11_seen : GoodIn wsL_law (wsV RL 115 RX11 yX11_seen wsX11_seen) := goodIn_app (rs_goodC _ [(31, 21), (31, 22), (31, 23), (0, 5)] rfl (by decide +kernel)) ggL_law_X11_seen
set_option maxRecDepth 20000 in
theorem ggL_law_X10_forget : GoodIn wsL_law wsX10_forget := rs_goodC _ [(32, 4), (0, 15), (7, 8), (7, 9), (41, 0), (41, 1), (41, 2), (41, 3), (41, 4), (41, 5), (41, 6), (41, 7), (43, 0), (43, 1), (43, 2), (43, 3), (52, 0), (52, 1), (52, 2), (52, 3)] rfl (by decide +kernel)
set_option maxRecDepth 20000 in
theorem gL_law_X10_forget : GoodIn wsL_law (wsV RL 116 RX10 yX10_forget wsX10_forget) := goodIn_app (rs_goodC _ [(32, 1), (32, 2), (32, 3), (0, 2)] rfl (by decide +kernel)) ggL_law_X10_forget
set_option maxRecDepth 20000 in
theorem ggL_law_X11_forget : GoodIn wsL_law wsX11_forget := rs_goodC _ [(32, 8), (6, 20), (42, 0), (42, 1), (42, 2), (42, 3), (42, 4), (42, 5), (42, 6), (42, 7), (42, 8), (42, 9), (42, 10), (42, 11), (42, 12), (42, 13), (42, 14), (42, 15), (42, 16), (42, 17), (42, 18), (42, 19), (42, 20), (42, 21), (42, 22), (42, 23), (42, 24), (42, 25), (42, 26), (42, 27), (42, 28), (42, 29), (42, 30), (42, 31), (42, 32), (42, 33), (42, 34), (42, 35), (42, 36), (42, 37), (42, 38)] rfl (by decide +kernel)
set_option maxRecDepth 20000 in
theorem gL_law_X11_forget : GoodIn wsL_law (wsV RL 119 RX11 yX11_forget wsX11_forget) := goodIn_app (rs_goodC _ [(32, 5), (32, 6), (32, 7), (0, 5)] rfl (by decide +kernel)) ggL_law_X11_forget
set_option maxRecDepth 20000 in
theorem ggL_law_X10_laws : GoodIn wsL_law wsX10_laws := rs_goodC _ [(32, 12), (1, 8), (0, 15), (32, 13), (32, 14), (32, 15), (32, 16), (32, 17), (1, 7), (32, 18), (32, 19), (32, 20), (4, 21), (4, 20), (32, 21), (32, 22), (32, 23), (33, 0), (33, 1), (14, 6), (0, 2), (14, 7), (33, 2), (33, 3), (33, 4), (33, 5), (33, 6), (9, 13), (9, 14), (9, 15), (33, 7), (33, 8), (21, 11), (21, 12), (1, 23), (21, 13), (2, 12), (2, 13), (33, 9), (33, 10), (33, 11), (2, 7), (33, 12), (31, 20), (3, 13), (3, 14), (3, 15), (15, 21), (15, 22), (33, 13), (19, 7), (19, 8), (19, 9), (15, 4), (15, 5), (15, 6), (15, 7), (2, 14), (2, 15), (33, 14), (33, 15), (33, 16), (33, 17), (33, 18), (15, 23), (16, 0), (41, 0), (41, 1), (41, 2), (41, 3), (41, 4), (41, 5), (41, 6), (41, 7), (47, 0), (47, 1), (47, 2), (47, 3), (43, 0), (43, 1), (43, 2), (43, 3), (50, 0), (50, 1), (50, 2), (50, 3), (50, 4), (50, 5), (50, 6), (52, 0), (52, 1), (52, 2), (52, 3)] rfl (by decide +kernel)
set_option maxRecDepth 20000 in
theorem gL_law_X10_laws : GoodIn wsL_law (wsV RL 120 RX10 yX10_laws wsX10_laws) := goodIn_app (rs_goodC _ [(32, 9), (32, 10), (32, 11), (0, 2)] rfl (by decide +kernel)) ggL_law_X10_laws
set_option maxRecDepth 20000 in
theorem ggL_law_X11_laws : GoodIn wsL_law wsX11_laws := rs_goodC _ [(33, 22), (33, 23), (34, 0), (34, 1), (34, 2), (0, 5), (34, 3), (6, 6), (6, 17), (34, 4), (34, 5), (34, 6), (34, 7), (6, 20), (5, 15), (5, 16), (5, 17), (34, 8), (34, 9), (34, 10), (34, 11), (18, 2), (18, 3), (18, 4), (42, 0), (42, 1), (42, 2), (42, 3), (42, 4), (42, 5), (42, 6), (42, 7), (42, 8), (42, 9), (42, 10), (42, 11), (42, 12), (42, 13), (42, 14), (42, 15), (42, 16), (42, 17), (42, 18), (42, 19), (42, 20), (42, 21), (42, 22), (42, 23), (42, 24), (42, 25), (42, 26), (42, 27), (42, 28), (42, 29), (42, 30), (42, 31), (42, 32), (42, 33), (42, 34), (42, 35), (42, 36), (42, 37), (42, 38)] rfl (by decide +kernel)
set_option maxRecDepth 20000 in
theorem gL_law_X11_laws : GoodIn wsL_law (wsV RL 123 RX11 yX11_laws wsX11_laws) := goodIn_app (rs_goodC _ [(33, 19), (33, 20), (33, 21), (0, 5)] rfl (by decide +kernel)) ggL_law_X11_laws
set_option maxRecDepth 20000 in
theorem ggL_law_X10_look : GoodIn wsL_law wsX10_look := rs_goodC _ [(34, 15), (1, 8), (0, 15), (32, 13), (7, 4), (7, 5), (20, 4), (20, 5), (0, 2), (20, 6), (20, 7), (7, 11), (7, 12), (7, 13), (32, 15), (32, 16), (32, 17), (1, 7), (32, 18), (32, 19), (32, 20), (4, 21), (4, 20), (32, 21), (32, 22), (32, 23), (33, 0), (33, 1), (14, 6), (14, 7), (33, 2), (33, 3), (33, 4), (33, 5), (33, 6), (9, 13), (9, 14), (9, 15), (33, 7), (33, 8), (21, 11), (21, 12), (1, 23), (21, 13), (2, 12), (2, 13), (33, 9), (33, 10), (33, 11), (2, 7), (33, 12), (31, 20), (3, 13), (3, 14), (3, 15), (15, 21), (15, 22), (33, 13), (19, 7), (19, 8), (19, 9), (15, 4), (15, 5), (15, 6), (15, 7), (2, 14), (2, 15), (33, 14), (33, 15), (33, 16), (33, 17), (33, 18), (15, 23), (16, 0), (34, 16), (34, 17), (34, 18), (34, 19), (34, 20), (34, 21), (34, 22), (34, 23), (35, 0), (15, 18), (15, 19), (35, 1), (41, 0), (41, 1), (41, 2), (41, 3), (41, 4), (41, 5), (41, 6), (41, 7), (47, 0), (47, 1), (47, 2), (47, 3), (43, 0), (43, 1), (43, 2), (43, 3), (50, 0), (50, 1), (50, 2), (50, 3), (50, 4), (50, 5), (50, 6), (52, 0), (52, 1), (52, 2), (52, 3)] rfl (by decide +kernel)
set_option maxRecDepth 20000 in
theorem gL_law_X10_look : GoodIn wsL_law (wsV RL 124 RX10 yX10_look wsX10_look) := goodIn_app (rs_goodC _ [(34, 12), (34, 13), (34, 14), (0, 2)] rfl (by decide +kernel)) ggL_law_X10_look
set_option maxRecDepth 20000 in
theorem ggL_law_X11_look : GoodIn wsL_law wsX11_look := rs_goodC _ [(35, 5), (33, 23), (6, 17), (20, 12), (20, 13), (0, 5), (20, 14), (20, 15), (7, 21), (7, 22), (7, 23), (34, 0), (34, 1), (34, 2), (34, 3), (6, 6), (34, 4), (34, 5), (34, 6), (34, 7), (6, 20), (5, 15), (5, 16), (5, 17), (34, 8), (34, 9), (34, 10), (34, 11), (18, 2), (18, 3), (18, 4), (35, 6), (35, 7), (35, 8), (35, 9), (42, 0), (42, 1), (42, 2), (42, 3), (42, 4), (42, 5), (42, 6), (42, 7), (42, 8), (42, 9), (42, 10), (42, 11), (42, 12), (42, 13), (42, 14), (42, 15), (42, 16), (42, 17), (42, 18), (42, 19), (42, 20), (42, 21), (42, 22), (42, 23), (42, 24), (42, 25), (42, 26), (42, 27), (42, 28), (42, 29), (42, 30), (42, 31), (42, 32), (42, 33), (42, 34), (42, 35), (42, 36), (42, 37), (42, 38)] rfl (by decide +kernel)
set_option maxRecDepth 20000 in
theorem gL_law_X11_look : GoodIn wsL_law (wsV RL 127 RX11 yX11_look wsX11_look) := goodIn_app (rs_goodC _ [(35, 2), (35, 3), (35, 4), (0, 5)] rfl (by decide +kernel)) ggL_law_X11_look
set_option maxRecDepth 20000 in
theorem ggL_law_X10_dust : GoodIn wsL_law wsX10_dust := rs_goodC _ [(35, 13), (29, 0), (29, 1), (1, 16), (0, 15), (35, 14), (35, 15), (9, 16), (9, 17), (9, 18), (0, 2), (9, 19), (7, 4), (7, 5), (7, 11), (7, 12), (7, 13), (35, 16), (35, 17), (35, 18), (1, 15), (35, 19), (5, 8), (5, 9), (35, 20), (35, 21), (35, 22), (35, 23), (36, 0), (36, 1), (29, 6), (29, 7), (36, 2), (9, 21), (9, 22), (2, 3), (9, 23), (3, 0), (29, 9), (29, 10), (36, 3), (19, 3), (19, 4), (1, 23), (19, 5), (19, 6), (19, 7), (19, 8), (19, 9), (2, 13), (15, 4), (15, 5), (15, 6), (15, 7), (2, 12), (2, 14), (2, 15), (15, 8), (15, 9), (15, 10), (15, 11), (2, 16), (2, 17), (2, 18), (36, 4), (36, 5), (36, 6), (36, 7), (9, 13), (9, 14), (9, 15), (36, 8), (21, 14), (21, 15), (36, 9), (36, 10), (36, 11), (41, 0), (41, 1), (41, 2), (41, 3), (41, 4), (41, 5), (41, 6), (41, 7), (49, 0), (49, 1), (49, 2), (49, 3), (43, 0), (43, 1), (43, 2), (43, 3), (50, 0), (50, 1), (50, 2), (50, 3), (50, 4), (50, 5), (50, 6), (51, 0)] rfl (by decide +kernel)
set_option maxRecDepth 20000 in
theorem gL_law_X10_dust : GoodIn wsL_law (wsV RL 128 RX10 yX10_dust wsX10_dust) := goodIn_app (rs_goodC _ [(35, 10), (35, 11), (35, 12), (0, 2)] rfl (by decide +kernel)) ggL_law_X10_dust
set_option maxRecDepth 20000 in
theorem ggL_law_X11_dust : GoodIn wsL_law wsX11_dust := rs_goodC _ [(36, 15), (29, 21), (36, 16), (36, 17), (29, 23), (5, 14), (6, 19), (10, 6), (10, 7), (10, 8), (0, 5), (10, 9), (6, 17), (7, 21), (7, 22), (7, 23), (6, 21), (6, 22), (6, 23), (17, 18), (17, 19), (17, 20), (17, 21), (17, 22), (17, 23), (18, 0), (18, 1), (6, 18), (6, 10), (8, 19), (18, 2), (18, 3), (18, 4), (18, 5), (18, 6), (18, 7), (18, 8), (8, 20), (6, 11), (6, 12), (18, 9), (18, 10), (18, 11), (18, 12), (36, 18), (36, 19), (36, 20), (42, 0), (42, 1), (42, 2), (42, 3), (42, 4), (42, 5), (42, 6), (42, 7), (42, 8), (42, 9), (42, 10), (42, 11), (42, 12), (42, 13), (42, 14), (42, 15), (42, 16), (42, 17), (42, 18), (42, 19), (42, 20), (42, 21), (42, 22), (42, 23), (42, 24), (42, 25), (42, 26), (42, 27), (42, 28), (42, 29), (42, 30), (42, 31), (42, 32), (42, 33), (42, 34), (42, 35), (42, 36), (42, 37), (42, 38)] rfl (by decide +kernel)
set_option maxRecDepth 20000 in
theorem gL_law_X11_dust : GoodIn wsL_law (wsV RL 131 RX11 yX11_dust wsX11_dust) := goodIn_app (rs_goodC _ [(36, 12), (36, 13), (36, 14), (0, 5)] rfl (by decide +kernel)) ggL_law_X11_dust
set_option maxRecDepth 20000 in
theorem ggL_law_X10_rent : GoodIn wsL_law wsX10_rent := rs_goodC _ [(37, 0), (0, 15), (7, 4), (9, 16), (9, 17), (9, 18), (0, 2), (9, 19), (7, 5), (7, 11), (7, 12), (7, 13), (20, 4), (20, 5), (20, 6), (20, 7), (37, 1), (37, 2), (37, 3), (1, 23), (37, 4), (2, 16), (23, 5), (9, 13), (9, 14), (9, 15), (23, 6), (15, 18), (15, 19), (22, 16), (21, 7), (21, 8), (21, 9), (2, 14), (21, 10), (21, 11), (21, 12), (21, 13), (2, 12), (2, 13), (21, 14), (21, 15), (21, 16), (21, 17), (37, 5), (37, 6), (37, 7), (37, 8), (15, 8), (15, 9), (15, 10), (15, 11), (2, 17), (2, 18), (19, 6), (19, 7), (19, 8), (19, 9), (15, 4), (15, 5), (15, 6), (15, 7), (2, 15), (37, 9), (37, 10), (37, 11), (37, 12), (22, 1), (19, 3), (19, 4), (19, 5), (21, 19), (21, 20), (41, 0), (41, 1), (41, 2), (41, 3), (41, 4), (41, 5), (41, 6), (41, 7), (43, 0), (43, 1), (43, 2), (43, 3), (50, 0), (50, 1), (50, 2), (50, 3), (50, 4), (50, 5), (50, 6)] rfl (by decide +kernel)
set_option maxRecDepth 20000 in
theorem gL_law_X10_rent : GoodIn wsL_law (wsV RL 132 RX10 yX10_rent wsX10_rent) := goodIn_app (rs_goodC _ [(36, 21), (36, 22), (36, 23), (0, 2)] rfl (by decide +kernel)) ggL_law_X10_rent
set_option maxRecDepth 20000 in
theorem ggL_law_X11_rent : GoodIn wsL_law wsX11_rent := rs_goodC _ [(37, 16), (23, 11), (9, 1), (10, 6), (10, 7), (10, 8), (0, 5), (10, 9), (6, 17), (7, 21), (7, 22), (7, 23), (20, 12), (20, 13), (20, 14), (20, 15), (17, 22), (17, 23), (18, 0), (18, 1), (6, 18), (6, 10), (8, 19), (18, 2), (18, 3), (18, 4), (18, 5), (18, 6), (18, 7), (18, 8), (8, 20), (6, 11), (6, 12), (37, 17), (37, 18), (37, 19), (37, 20), (17, 18), (17, 19), (17, 20), (17, 21), (42, 0), (42, 1), (42, 2), (42, 3), (42, 4), (42, 5), (42, 6), (42, 7), (42, 8), (42, 9), (42, 10), (42, 11), (42, 12), (42, 13), (42, 14), (42, 15), (42, 16), (42, 17), (42, 18), (42, 19), (42, 20), (42, 21), (42, 22), (42, 23), (42, 24), (42, 25), (42, 26), (42, 27), (42, 28), (42, 29), (42, 30), (42, 31), (42, 32), (42, 33), (42, 34), (42, 35), (42, 36), (42, 37), (42, 38)] rfl (by decide +kernel)
set_option maxRecDepth 20000 in
theorem gL_law_X11_rent : GoodIn wsL_law (wsV RL 135 RX11 yX11_rent wsX11_rent) := goodIn_app (rs_goodC _ [(37, 13), (37, 14), (37, 15), (0, 5)] rfl (by decide +kernel)) ggL_law_X11_rent
set_option maxRecDepth 20000 in
theorem ggL_law_X10_age : GoodIn wsL_law wsX10_age := rs_goodC _ [(38, 0), (1, 0), (0, 15), (13, 1), (18, 21), (18, 23), (7, 5), (38, 1), (7, 11), (7, 12), (0, 2), (7, 13), (13, 6), (13, 7), (13, 8), (0, 23), (13, 9), (4, 3), (13, 10), (4, 5), (13, 11), (4, 6), (13, 12), (13, 13), (13, 14), (13, 15), (13, 16), (13, 17), (13, 18), (13, 19), (13, 20), (13, 21), (13, 22), (1, 23), (13, 23), (2, 12), (2, 13), (2, 14), (2, 15), (2, 16), (2, 17), (2, 18), (14, 0), (14, 1), (14, 2), (2, 3), (14, 3), (3, 0), (14, 4), (14, 5), (14, 6), (14, 7), (38, 2), (38, 3), (38, 4), (38, 5), (14, 23), (38, 6), (21, 19), (21, 20), (16, 3), (16, 4), (16, 5), (16, 6), (15, 20), (9, 21), (9, 22), (9, 23), (3, 5), (3, 6), (3, 7), (3, 8), (14, 19), (14, 20), (14, 21), (14, 22), (15, 0), (15, 1), (15, 2), (15, 3), (15, 4), (15, 5), (15, 6), (15, 7), (15, 8), (15, 9), (15, 10), (15, 11), (15, 12), (15, 13), (15, 14), (15, 15), (15, 16), (9, 13), (9, 14), (9, 15), (15, 17), (15, 18), (15, 19), (15, 21), (15, 22), (15, 23), (16, 0), (38, 7), (25, 20), (25, 21), (25, 22), (41, 0), (41, 1), (41, 2), (41, 3), (41, 4), (41, 5), (41, 6), (41, 7), (45, 0), (45, 1), (45, 2), (45, 3), (45, 4), (45, 5), (45, 6), (45, 7), (45, 8), (45, 9), (50, 0), (50, 1), (50, 2), (50, 3), (50, 4), (50, 5), (50, 6), (43, 0), (43, 1), (43, 2), (43, 3), (51, 0)] rfl (by decide +kernel)
set_option maxRecDepth 20000 in
theorem gL_law_X10_age : GoodIn wsL_law (wsV RL 136 RX10 yX10_age wsX10_age) := goodIn_app (rs_goodC _ [(37, 21), (37, 22), (37, 23), (0, 2)] rfl (by decide +kernel)) ggL_law_X10_age
set_option maxRecDepth 20000 in
theorem ggL_law_X11_age : GoodIn wsL_law wsX11_age := rs_goodC _ [(38, 11), (23, 11), (9, 1), (7, 19), (38, 12), (38, 13), (38, 14), (6, 17), (5, 14), (16, 14), (7, 21), (7, 22), (0, 5), (7, 23), (16, 21), (16, 22), (16, 23), (17, 0), (6, 0), (6, 19), (17, 1), (5, 23), (6, 21), (6, 22), (6, 23), (17, 6), (17, 7), (17, 8), (17, 9), (17, 10), (17, 11), (17, 12), (17, 13), (17, 14), (17, 15), (17, 16), (17, 17), (17, 18), (17, 19), (17, 20), (17, 21), (17, 22), (17, 23), (18, 0), (18, 1), (6, 18), (6, 10), (8, 19), (18, 2), (18, 3), (18, 4), (18, 5), (18, 6), (18, 7), (18, 8), (8, 20), (6, 11), (6, 12), (18, 9), (18, 10), (18, 11), (18, 12), (18, 13), (18, 14), (18, 15), (18, 16), (42, 0), (42, 1), (42, 2), (42, 3), (42, 4), (42, 5), (42, 6), (42, 7), (42, 8), (42, 9), (42, 10), (42, 11), (42, 12), (42, 13), (42, 14), (42, 15), (42, 16), (42, 17), (42, 18), (42, 19), (42, 20), (42, 21), (42, 22), (42, 23), (42, 24), (42, 25), (42, 26), (42, 27), (42, 28), (42, 29), (42, 30), (42, 31), (42, 32), (42, 33), (42, 34), (42, 35), (42, 36), (42, 37), (42, 38)] rfl (by decide +kernel)
set_option maxRecDepth 20000 in
theorem gL_law_X11_age : GoodIn wsL_law (wsV RL 139 RX11 yX11_age wsX11_age) := goodIn_app (rs_goodC _ [(38, 8), (38, 9), (38, 10), (0, 5)] rfl (by decide +kernel)) ggL_law_X11_age
set_option maxRecDepth 20000 in
theorem ggL_law_X10_image : GoodIn wsL_law wsX10_image := rs_goodC _ [(38, 18), (0, 16), (0, 12), (0, 13), (0, 14), (0, 15), (1, 17), (1, 18), (1, 19), (1, 20), (0, 10), (0, 11), (1, 21), (1, 22), (1, 23), (2, 0), (2, 1), (2, 2), (2, 3), (2, 4), (2, 5), (2, 6), (2, 7), (2, 8), (2, 9), (2, 10), (2, 11), (2, 12), (2, 13), (2, 14), (2, 15), (2, 16), (2, 17), (2, 18), (2, 19), (2, 20), (2, 21), (2, 22), (2, 23), (3, 0), (3, 1), (3, 2), (3, 3), (3, 4), (3, 5), (3, 6), (3, 7), (3, 8), (3, 9), (3, 10), (3, 11), (3, 12), (3, 13), (3, 14), (3, 15), (38, 19), (38, 20), (38, 21), (38, 22), (24, 12), (38, 23), (13, 21), (13, 22), (13, 23), (39, 0), (14, 1), (14, 2), (14, 3), (14, 4), (0, 2), (14, 5), (39, 1), (39, 2), (39, 3), (39, 4), (31, 20), (41, 0), (41, 1), (41, 2), (41, 3), (41, 4), (41, 5), (41, 6), (41, 7), (43, 0), (43, 1), (43, 2), (43, 3), (50, 0), (50, 1), (50, 2), (50, 3), (50, 4), (50, 5), (50, 6), (51, 0), (52, 0), (52, 1), (52, 2), (52, 3)] rfl (by decide +kernel)
set_option maxRecDepth 20000 in
theorem gL_law_X10_image : GoodIn wsL_law (wsV RL 140 RX10 yX10_image wsX10_image) := goodIn_app (rs_goodC _ [(38, 15), (38, 16), (38, 17), (0, 2)] rfl (by decide +kernel)) ggL_law_X10_image
set_option maxRecDepth 20000 in
theorem ggL_law_X11_image : GoodIn wsL_law wsX11_image := rs_goodC _ [(39, 8), (39, 9), (39, 10), (6, 9), (7, 21), (7, 22), (0, 5), (7, 23), (39, 11), (39, 12), (39, 13), (39, 14), (6, 17), (6, 18), (6, 10), (8, 19), (8, 20), (6, 11), (6, 12), (6, 19), (6, 20), (5, 14), (5, 15), (5, 16), (5, 17), (39, 15), (39, 16), (39, 17), (39, 18), (6, 7), (42, 0), (42, 1), (42, 2), (42, 3), (42, 4), (42, 5), (42, 6), (42, 7), (42, 8), (42, 9), (42, 10), (42, 11), (42, 12), (42, 13), (42, 14), (42, 15), (42, 16), (42, 17), (42, 18), (42, 19), (42, 20), (42, 21), (42, 22), (42, 23), (42, 24), (42, 25), (42, 26), (42, 27), (42, 28), (42, 29), (42, 30), (42, 31), (42, 32), (42, 33), (42, 34), (42, 35), (42, 36), (42, 37), (42, 38)] rfl (by decide +kernel)
set_option maxRecDepth 20000 in
theorem gL_law_X11_image : GoodIn wsL_law (wsV RL 143 RX11 yX11_image wsX11_image) := goodIn_app (rs_goodC _ [(39, 5), (39, 6), (39, 7), (0, 5)] rfl (by decide +kernel)) ggL_law_X11_image
set_option maxRecDepth 20000 in
theorem ggL_law_X10_restore : GoodIn wsL_law wsX10_restore := rs_goodC _ [(39, 22), (0, 16), (0, 15), (38, 19), (38, 20), (38, 21), (0, 14), (38, 22), (2, 0), (2, 4), (2, 8), (24, 12), (38, 23), (13, 21), (13, 22), (1, 23), (13, 23), (2, 12), (2, 13), (2, 14), (2, 15), (2, 16), (2, 17), (2, 18), (39, 0), (14, 1), (14, 2), (2, 3), (14, 3), (3, 0), (14, 4), (0, 2), (14, 5), (39, 1), (39, 2), (39, 3), (2, 7), (39, 4), (3, 13), (3, 14), (3, 15), (31, 20), (41, 0), (41, 1), (41, 2), (41, 3), (41, 4), (41, 5), (41, 6), (41, 7), (43, 0), (43, 1), (43, 2), (43, 3), (50, 0), (50, 1), (50, 2), (50, 3), (50, 4), (50, 5), (50, 6), (51, 0), (52, 0), (52, 1), (52, 2), (52, 3)] rfl (by decide +kernel)
set_option maxRecDepth 20000 in
theorem gL_law_X10_restore : GoodIn wsL_law (wsV RL 144 RX10 yX10_restore wsX10_restore) := goodIn_app (rs_goodC _ [(39, 19), (39, 20), (39, 21), (0, 2)] rfl (by decide +kernel)) ggL_law_X10_restore
set_option maxRecDepth 20000 in
theorem ggL_law_X11_restore : GoodIn wsL_law wsX11_restore := rs_goodC _ [(40, 2), (6, 9), (39, 9), (39, 10), (7, 21), (7, 22), (0, 5), (7, 23), (39, 11), (39, 12), (39, 13), (39, 14), (6, 17), (6, 18), (6, 10), (8, 19), (8, 20), (6, 11), (6, 12), (6, 19), (6, 20), (5, 14), (5, 15), (5, 16), (5, 17), (39, 15), (39, 16), (39, 17), (39, 18), (6, 7), (42, 0), (42, 1), (42, 2), (42, 3), (42, 4), (42, 5), (42, 6), (42, 7), (42, 8), (42, 9), (42, 10), (42, 11), (42, 12), (42, 13), (42, 14), (42, 15), (42, 16), (42, 17), (42, 18), (42, 19), (42, 20), (42, 21), (42, 22), (42, 23), (42, 24), (42, 25), (42, 26), (42, 27), (42, 28), (42, 29), (42, 30), (42, 31), (42, 32), (42, 33), (42, 34), (42, 35), (42, 36), (42, 37), (42, 38)] rfl (by decide +kernel)
set_option maxRecDepth 20000 in
theorem gL_law_X11_restore : GoodIn wsL_law (wsV RL 147 RX11 yX11_restore wsX11_restore) := goodIn_app (rs_goodC _ [(39, 23), (40, 0), (40, 1), (0, 5)] rfl (by decide +kernel)) ggL_law_X11_restore
set_option maxRecDepth 20000 in
theorem ggL_law_X10_told : GoodIn wsL_law wsX10_told := rs_goodC _ [(40, 6), (0, 15), (7, 7), (0, 20), (10, 14), (7, 4), (7, 5), (7, 6), (7, 10), (7, 8), (7, 9), (9, 16), (9, 17), (9, 18), (0, 2), (9, 19), (7, 11), (7, 12), (7, 13), (9, 20), (9, 21), (9, 22), (2, 3), (9, 23), (3, 0), (8, 7), (8, 8), (8, 9), (1, 23), (8, 10), (2, 14), (2, 15), (2, 16), (2, 17), (2, 18), (41, 0), (41, 1), (41, 2), (41, 3), (41, 4), (41, 5), (41, 6), (41, 7), (43, 0), (43, 1), (43, 2), (43, 3), (44, 0), (44, 1), (50, 0), (50, 1), (50, 2), (50, 3), (50, 4), (50, 5), (50, 6), (52, 0), (52, 1), (52, 2), (52, 3), (51, 0)] rfl (by decide +kernel)
set_option maxRecDepth 20000 in
theorem gL_law_X10_told : GoodIn wsL_law (wsV RL 148 RX10 yX10_told wsX10_told) := goodIn_app (rs_goodC _ [(40, 3), (40, 4), (40, 5), (0, 2)] rfl (by decide +kernel)) ggL_law_X10_told
set_option maxRecDepth 20000 in
theorem ggL_law_X11_told : GoodIn wsL_law wsX11_told := rs_goodC _ [(40, 10), (36, 16), (9, 1), (5, 14), (11, 2), (6, 17), (6, 18), (6, 19), (6, 20), (10, 5), (40, 11), (7, 21), (7, 22), (0, 5), (7, 23), (10, 6), (10, 7), (10, 8), (10, 9), (6, 21), (6, 22), (6, 23), (9, 4), (9, 5), (9, 6), (9, 7), (6, 10), (8, 19), (8, 20), (6, 11), (6, 12), (42, 0), (42, 1), (42, 2), (42, 3), (42, 4), (42, 5), (42, 6), (42, 7), (42, 8), (42, 9), (42, 10), (42, 11), (42, 12), (42, 13), (42, 14), (42, 15), (42, 16), (42, 17), (42, 18), (42, 19), (42, 20), (42, 21), (42, 22), (42, 23), (42, 24), (42, 25), (42, 26), (42, 27), (42, 28), (42, 29), (42, 30), (42, 31), (42, 32), (42, 33), (42, 34), (42, 35), (42, 36), (42, 37), (42, 38)] rfl (by decide +kernel)
set_option maxRecDepth 20000 in
theorem gL_law_X11_told : GoodIn wsL_law (wsV RL 151 RX11 yX11_told wsX11_told) := goodIn_app (rs_goodC _ [(40, 7), (40, 8), (40, 9), (0, 5)] rfl (by decide +kernel)) ggL_law_X11_told
theorem dL_law_0 : decode cL_law 0 = .ok (.new 7, 3) := by decide +kernel
theorem dL_law_3 : decode cL_law 3 = .ok (.dup, 1) := by decide +kernel
theorem dL_law_4 : decode cL_law 4 = .ok (.invokespecial 9, 3) := by decide +kernel
theorem dL_law_7 : decode cL_law 7 = .ok (.astore_n 1, 1) := by decide +kernel
theorem dL_law_8 : decode cL_law 8 = .ok (.new 10, 3) := by decide +kernel
theorem dL_law_11 : decode cL_law 11 = .ok (.dup, 1) := by decide +kernel
theorem dL_law_12 : decode cL_law 12 = .ok (.invokespecial 12, 3) := by decide +kernel
theorem dL_law_15 : decode cL_law 15 = .ok (.astore_n 2, 1) := by decide +kernel
theorem dL_law_16 : decode cL_law 16 = .ok (.iconst 0, 1) := by decide +kernel
theorem dL_law_17 : decode cL_law 17 = .ok (.istore_n 3, 1) := by decide +kernel
theorem dL_law_18 : decode cL_law 18 = .ok (.iload_n 3, 1) := by decide +kernel
theorem dL_law_19 : decode cL_law 19 = .ok (.aload_n 0, 1) := by decide +kernel
theorem dL_law_20 : decode cL_law 20 = .ok (.arraylength, 1) := by decide +kernel
theorem dL_law_21 : decode cL_law 21 = .ok (.iconst 5, 1) := by decide +kernel
