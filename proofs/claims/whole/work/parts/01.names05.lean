theorem dX10_tellPad_5 : decode cX10_tellPad 5 = .ok (.getfield 10, 3) := by decide +kernel
theorem dX10_tellPad_8 : decode cX10_tellPad 8 = .ok (.getfield 66, 3) := by decide +kernel
theorem dX10_tellPad_11 : decode cX10_tellPad 11 = .ok (.getfield 70, 3) := by decide +kernel
theorem dX10_tellPad_14 : decode cX10_tellPad 14 = .ok (.invokevirtual 134, 3) := by decide +kernel
theorem dX10_tellPad_17 : decode cX10_tellPad 17 = .ok (.bipush (-6), 2) := by decide +kernel
theorem dX10_tellPad_19 : decode cX10_tellPad 19 = .ok (.if_icmp .eq 6, 3) := by decide +kernel
theorem dX10_tellPad_22 : decode cX10_tellPad 22 = .ok (.bipush (-5), 2) := by decide +kernel
theorem dX10_tellPad_24 : decode cX10_tellPad 24 = .ok (.ireturn, 1) := by decide +kernel
theorem dX10_tellPad_25 : decode cX10_tellPad 25 = .ok (.aload_n 0, 1) := by decide +kernel
theorem dX10_tellPad_26 : decode cX10_tellPad 26 = .ok (.getfield 30, 3) := by decide +kernel
theorem dX10_tellPad_29 : decode cX10_tellPad 29 = .ok (.aload_n 0, 1) := by decide +kernel
theorem dX10_tellPad_30 : decode cX10_tellPad 30 = .ok (.getfield 10, 3) := by decide +kernel
theorem dX10_tellPad_33 : decode cX10_tellPad 33 = .ok (.invokevirtual 201, 3) := by decide +kernel
theorem dX10_tellPad_36 : decode cX10_tellPad 36 = .ok (.aload_n 0, 1) := by decide +kernel
theorem dX10_tellPad_37 : decode cX10_tellPad 37 = .ok (.getfield 30, 3) := by decide +kernel
theorem dX10_tellPad_40 : decode cX10_tellPad 40 = .ok (.aload_n 0, 1) := by decide +kernel
theorem dX10_tellPad_41 : decode cX10_tellPad 41 = .ok (.getfield 23, 3) := by decide +kernel
theorem dX10_tellPad_44 : decode cX10_tellPad 44 = .ok (.invokevirtual 296, 3) := by decide +kernel
theorem dX10_tellPad_47 : decode cX10_tellPad 47 = .ok (.aload_n 0, 1) := by decide +kernel
theorem dX10_tellPad_48 : decode cX10_tellPad 48 = .ok (.getfield 30, 3) := by decide +kernel
theorem dX10_tellPad_51 : decode cX10_tellPad 51 = .ok (.getfield 141, 3) := by decide +kernel
theorem dX10_tellPad_54 : decode cX10_tellPad 54 = .ok (.bipush (-6), 2) := by decide +kernel
theorem dX10_tellPad_56 : decode cX10_tellPad 56 = .ok (.if_icmp .ne 7, 3) := by decide +kernel
theorem dX10_tellPad_59 : decode cX10_tellPad 59 = .ok (.iconst 0, 1) := by decide +kernel
theorem dX10_tellPad_60 : decode cX10_tellPad 60 = .ok (.goto 5, 3) := by decide +kernel
theorem dX10_tellPad_63 : decode cX10_tellPad 63 = .ok (.bipush (-3), 2) := by decide +kernel
theorem dX10_tellPad_65 : decode cX10_tellPad 65 = .ok (.ireturn, 1) := by decide +kernel
set_option maxRecDepth 20000 in
theorem ggX10_mayRule_X10_within : GoodIn wsX10_mayRule wsX10_within := goodIn_r _ [4] rfl (by decide +kernel)
set_option maxRecDepth 20000 in
theorem gX10_mayRule_X10_within : GoodIn wsX10_mayRule (va_wsS RX10 62 yX10_within wsX10_within) := goodIn_app (goodIn_r _ [1, 2, 3] rfl (by decide +kernel)) ggX10_mayRule_X10_within
theorem dX10_mayRule_0 : decode cX10_mayRule 0 = .ok (.iload_n 0, 1) := by decide +kernel
theorem dX10_mayRule_1 : decode cX10_mayRule 1 = .ok (.tableswitch 79 0 4 #[35, 43, 51, 71, 71], 35) := by decide +kernel
theorem dX10_mayRule_36 : decode cX10_mayRule 36 = .ok (.iload_n 1, 1) := by decide +kernel
theorem dX10_mayRule_37 : decode cX10_mayRule 37 = .ok (.iconst 1, 1) := by decide +kernel
theorem dX10_mayRule_38 : decode cX10_mayRule 38 = .ok (.bipush 9, 2) := by decide +kernel
theorem dX10_mayRule_40 : decode cX10_mayRule 40 = .ok (.invokestatic 62, 3) := by decide +kernel
theorem dX10_mayRule_43 : decode cX10_mayRule 43 = .ok (.ireturn, 1) := by decide +kernel
theorem dX10_mayRule_44 : decode cX10_mayRule 44 = .ok (.iload_n 1, 1) := by decide +kernel
theorem dX10_mayRule_45 : decode cX10_mayRule 45 = .ok (.iconst 0, 1) := by decide +kernel
theorem dX10_mayRule_46 : decode cX10_mayRule 46 = .ok (.bipush 99, 2) := by decide +kernel
theorem dX10_mayRule_48 : decode cX10_mayRule 48 = .ok (.invokestatic 62, 3) := by decide +kernel
theorem dX10_mayRule_51 : decode cX10_mayRule 51 = .ok (.ireturn, 1) := by decide +kernel
theorem dX10_mayRule_52 : decode cX10_mayRule 52 = .ok (.iload_n 1, 1) := by decide +kernel
theorem dX10_mayRule_53 : decode cX10_mayRule 53 = .ok (.ifCond .eq 13, 3) := by decide +kernel
theorem dX10_mayRule_56 : decode cX10_mayRule 56 = .ok (.iload_n 1, 1) := by decide +kernel
theorem dX10_mayRule_57 : decode cX10_mayRule 57 = .ok (.iconst 2, 1) := by decide +kernel
theorem dX10_mayRule_58 : decode cX10_mayRule 58 = .ok (.bipush 20, 2) := by decide +kernel
theorem dX10_mayRule_60 : decode cX10_mayRule 60 = .ok (.invokestatic 62, 3) := by decide +kernel
theorem dX10_mayRule_63 : decode cX10_mayRule 63 = .ok (.ifCond .eq 7, 3) := by decide +kernel
theorem dX10_mayRule_66 : decode cX10_mayRule 66 = .ok (.iconst 1, 1) := by decide +kernel
theorem dX10_mayRule_67 : decode cX10_mayRule 67 = .ok (.goto 4, 3) := by decide +kernel
theorem dX10_mayRule_70 : decode cX10_mayRule 70 = .ok (.iconst 0, 1) := by decide +kernel
theorem dX10_mayRule_71 : decode cX10_mayRule 71 = .ok (.ireturn, 1) := by decide +kernel
theorem dX10_mayRule_72 : decode cX10_mayRule 72 = .ok (.iload_n 1, 1) := by decide +kernel
theorem dX10_mayRule_73 : decode cX10_mayRule 73 = .ok (.iconst 0, 1) := by decide +kernel
theorem dX10_mayRule_74 : decode cX10_mayRule 74 = .ok (.bipush 19, 2) := by decide +kernel
theorem dX10_mayRule_76 : decode cX10_mayRule 76 = .ok (.invokestatic 62, 3) := by decide +kernel
theorem dX10_mayRule_79 : decode cX10_mayRule 79 = .ok (.ireturn, 1) := by decide +kernel
theorem dX10_mayRule_80 : decode cX10_mayRule 80 = .ok (.iconst 0, 1) := by decide +kernel
theorem dX10_mayRule_81 : decode cX10_mayRule 81 = .ok (.ireturn, 1) := by decide +kernel
set_option maxRecDepth 20000 in
theorem ggX10_isYear_X10_within : GoodIn wsX10_isYear wsX10_within := goodIn_r _ [5] rfl (by decide +kernel)
set_option maxRecDepth 20000 in
theorem gX10_isYear_X10_within : GoodIn wsX10_isYear (va_wsS RX10 62 yX10_within wsX10_within) := goodIn_app (goodIn_r _ [2, 3, 4] rfl (by decide +kernel)) ggX10_isYear_X10_within
theorem dX10_isYear_0 : decode cX10_isYear 0 = .ok (.iload_n 0, 1) := by decide +kernel
theorem dX10_isYear_1 : decode cX10_isYear 1 = .ok (.iconst 0, 1) := by decide +kernel
theorem dX10_isYear_2 : decode cX10_isYear 2 = .ok (.ldc_w 300, 3) := by decide +kernel
theorem dX10_isYear_5 : decode cX10_isYear 5 = .ok (.invokestatic 62, 3) := by decide +kernel
theorem dX10_isYear_8 : decode cX10_isYear 8 = .ok (.ireturn, 1) := by decide +kernel
theorem dX10_within_0 : decode cX10_within 0 = .ok (.iload_n 0, 1) := by decide +kernel
theorem dX10_within_1 : decode cX10_within 1 = .ok (.iload_n 1, 1) := by decide +kernel
theorem dX10_within_2 : decode cX10_within 2 = .ok (.if_icmp .lt 12, 3) := by decide +kernel
theorem dX10_within_5 : decode cX10_within 5 = .ok (.iload_n 0, 1) := by decide +kernel
theorem dX10_within_6 : decode cX10_within 6 = .ok (.iload_n 2, 1) := by decide +kernel
theorem dX10_within_7 : decode cX10_within 7 = .ok (.if_icmp .gt 7, 3) := by decide +kernel
theorem dX10_within_10 : decode cX10_within 10 = .ok (.iconst 1, 1) := by decide +kernel
theorem dX10_within_11 : decode cX10_within 11 = .ok (.goto 4, 3) := by decide +kernel
theorem dX10_within_14 : decode cX10_within 14 = .ok (.iconst 0, 1) := by decide +kernel
theorem dX10_within_15 : decode cX10_within 15 = .ok (.ireturn, 1) := by decide +kernel
theorem dX10_beside_0 : decode cX10_beside 0 = .ok (.iload_n 0, 1) := by decide +kernel
theorem dX10_beside_1 : decode cX10_beside 1 = .ok (.iload_n 0, 1) := by decide +kernel
theorem dX10_beside_2 : decode cX10_beside 2 = .ok (.iconst 1, 1) := by decide +kernel
theorem dX10_beside_3 : decode cX10_beside 3 = .ok (.ishl, 1) := by decide +kernel
theorem dX10_beside_4 : decode cX10_beside 4 = .ok (.ior, 1) := by decide +kernel
theorem dX10_beside_5 : decode cX10_beside 5 = .ok (.iload_n 0, 1) := by decide +kernel
theorem dX10_beside_6 : decode cX10_beside 6 = .ok (.iconst 1, 1) := by decide +kernel
theorem dX10_beside_7 : decode cX10_beside 7 = .ok (.ishr, 1) := by decide +kernel
theorem dX10_beside_8 : decode cX10_beside 8 = .ok (.ior, 1) := by decide +kernel
theorem dX10_beside_9 : decode cX10_beside 9 = .ok (.ireturn, 1) := by decide +kernel
theorem dX10_at_0 : decode cX10_at 0 = .ok (.iload_n 1, 1) := by decide +kernel
theorem dX10_at_1 : decode cX10_at 1 = .ok (.ifCond .lt 15, 3) := by decide +kernel
theorem dX10_at_4 : decode cX10_at 4 = .ok (.iload_n 1, 1) := by decide +kernel
theorem dX10_at_5 : decode cX10_at 5 = .ok (.aload_n 0, 1) := by decide +kernel
theorem dX10_at_6 : decode cX10_at 6 = .ok (.arraylength, 1) := by decide +kernel
theorem dX10_at_7 : decode cX10_at 7 = .ok (.if_icmp .ge 9, 3) := by decide +kernel
theorem dX10_at_10 : decode cX10_at 10 = .ok (.aload_n 0, 1) := by decide +kernel
theorem dX10_at_11 : decode cX10_at 11 = .ok (.iload_n 1, 1) := by decide +kernel
theorem dX10_at_12 : decode cX10_at 12 = .ok (.iaload, 1) := by decide +kernel
theorem dX10_at_13 : decode cX10_at 13 = .ok (.goto 4, 3) := by decide +kernel
theorem dX10_at_16 : decode cX10_at 16 = .ok (.iconst 0, 1) := by decide +kernel
theorem dX10_at_17 : decode cX10_at 17 = .ok (.ireturn, 1) := by decide +kernel
theorem dX10_put_0 : decode cX10_put 0 = .ok (.iload_n 1, 1) := by decide +kernel
theorem dX10_put_1 : decode cX10_put 1 = .ok (.ifCond .lt 13, 3) := by decide +kernel
theorem dX10_put_4 : decode cX10_put 4 = .ok (.iload_n 1, 1) := by decide +kernel
theorem dX10_put_5 : decode cX10_put 5 = .ok (.aload_n 0, 1) := by decide +kernel
theorem dX10_put_6 : decode cX10_put 6 = .ok (.arraylength, 1) := by decide +kernel
theorem dX10_put_7 : decode cX10_put 7 = .ok (.if_icmp .ge 7, 3) := by decide +kernel
theorem dX10_put_10 : decode cX10_put 10 = .ok (.aload_n 0, 1) := by decide +kernel
theorem dX10_put_11 : decode cX10_put 11 = .ok (.iload_n 1, 1) := by decide +kernel
theorem dX10_put_12 : decode cX10_put 12 = .ok (.iload_n 2, 1) := by decide +kernel
theorem dX10_put_13 : decode cX10_put 13 = .ok (.iastore, 1) := by decide +kernel
theorem dX10_put_14 : decode cX10_put 14 = .ok (.return_, 1) := by decide +kernel
theorem dX10_at__0 : decode cX10_at_ 0 = .ok (.iload_n 1, 1) := by decide +kernel
theorem dX10_at__1 : decode cX10_at_ 1 = .ok (.ifCond .lt 15, 3) := by decide +kernel
theorem dX10_at__4 : decode cX10_at_ 4 = .ok (.iload_n 1, 1) := by decide +kernel
theorem dX10_at__5 : decode cX10_at_ 5 = .ok (.aload_n 0, 1) := by decide +kernel
theorem dX10_at__6 : decode cX10_at_ 6 = .ok (.arraylength, 1) := by decide +kernel
theorem dX10_at__7 : decode cX10_at_ 7 = .ok (.if_icmp .ge 9, 3) := by decide +kernel
theorem dX10_at__10 : decode cX10_at_ 10 = .ok (.aload_n 0, 1) := by decide +kernel
theorem dX10_at__11 : decode cX10_at_ 11 = .ok (.iload_n 1, 1) := by decide +kernel
theorem dX10_at__12 : decode cX10_at_ 12 = .ok (.laload, 1) := by decide +kernel
theorem dX10_at__13 : decode cX10_at_ 13 = .ok (.goto 4, 3) := by decide +kernel
theorem dX10_at__16 : decode cX10_at_ 16 = .ok (.lconst 0, 1) := by decide +kernel
theorem dX10_at__17 : decode cX10_at_ 17 = .ok (.lreturn, 1) := by decide +kernel
theorem dX10_add_0 : decode cX10_add 0 = .ok (.iload_n 1, 1) := by decide +kernel
theorem dX10_add_1 : decode cX10_add 1 = .ok (.ifCond .lt 16, 3) := by decide +kernel
theorem dX10_add_4 : decode cX10_add 4 = .ok (.iload_n 1, 1) := by decide +kernel
theorem dX10_add_5 : decode cX10_add 5 = .ok (.aload_n 0, 1) := by decide +kernel
theorem dX10_add_6 : decode cX10_add 6 = .ok (.arraylength, 1) := by decide +kernel
theorem dX10_add_7 : decode cX10_add 7 = .ok (.if_icmp .ge 10, 3) := by decide +kernel
theorem dX10_add_10 : decode cX10_add 10 = .ok (.aload_n 0, 1) := by decide +kernel
theorem dX10_add_11 : decode cX10_add 11 = .ok (.iload_n 1, 1) := by decide +kernel
theorem dX10_add_12 : decode cX10_add 12 = .ok (.dup2, 1) := by decide +kernel
theorem dX10_add_13 : decode cX10_add 13 = .ok (.laload, 1) := by decide +kernel
theorem dX10_add_14 : decode cX10_add 14 = .ok (.lload_n 2, 1) := by decide +kernel
theorem dX10_add_15 : decode cX10_add 15 = .ok (.ladd, 1) := by decide +kernel
theorem dX10_add_16 : decode cX10_add 16 = .ok (.lastore, 1) := by decide +kernel
theorem dX10_add_17 : decode cX10_add 17 = .ok (.return_, 1) := by decide +kernel
theorem dX10_copy_0 : decode cX10_copy 0 = .ok (.iconst 0, 1) := by decide +kernel
theorem dX10_copy_1 : decode cX10_copy 1 = .ok (.istore_n 2, 1) := by decide +kernel
theorem dX10_copy_2 : decode cX10_copy 2 = .ok (.iload_n 2, 1) := by decide +kernel
theorem dX10_copy_3 : decode cX10_copy 3 = .ok (.aload_n 0, 1) := by decide +kernel
theorem dX10_copy_4 : decode cX10_copy 4 = .ok (.arraylength, 1) := by decide +kernel
theorem dX10_copy_5 : decode cX10_copy 5 = .ok (.if_icmp .ge 21, 3) := by decide +kernel
theorem dX10_copy_8 : decode cX10_copy 8 = .ok (.iload_n 2, 1) := by decide +kernel
theorem dX10_copy_9 : decode cX10_copy 9 = .ok (.aload_n 1, 1) := by decide +kernel
theorem dX10_copy_10 : decode cX10_copy 10 = .ok (.arraylength, 1) := by decide +kernel
theorem dX10_copy_11 : decode cX10_copy 11 = .ok (.if_icmp .ge 15, 3) := by decide +kernel
theorem dX10_copy_14 : decode cX10_copy 14 = .ok (.aload_n 1, 1) := by decide +kernel
theorem dX10_copy_15 : decode cX10_copy 15 = .ok (.iload_n 2, 1) := by decide +kernel
theorem dX10_copy_16 : decode cX10_copy 16 = .ok (.aload_n 0, 1) := by decide +kernel
theorem dX10_copy_17 : decode cX10_copy 17 = .ok (.iload_n 2, 1) := by decide +kernel
theorem dX10_copy_18 : decode cX10_copy 18 = .ok (.iaload, 1) := by decide +kernel
theorem dX10_copy_19 : decode cX10_copy 19 = .ok (.iastore, 1) := by decide +kernel
theorem dX10_copy_20 : decode cX10_copy 20 = .ok (.iinc 2 1, 3) := by decide +kernel
theorem dX10_copy_23 : decode cX10_copy 23 = .ok (.goto (-21), 3) := by decide +kernel
theorem dX10_copy_26 : decode cX10_copy 26 = .ok (.return_, 1) := by decide +kernel
theorem dX10_clear_0 : decode cX10_clear 0 = .ok (.iconst 0, 1) := by decide +kernel
theorem dX10_clear_1 : decode cX10_clear 1 = .ok (.istore_n 1, 1) := by decide +kernel
theorem dX10_clear_2 : decode cX10_clear 2 = .ok (.iload_n 1, 1) := by decide +kernel
theorem dX10_clear_3 : decode cX10_clear 3 = .ok (.aload_n 0, 1) := by decide +kernel
theorem dX10_clear_4 : decode cX10_clear 4 = .ok (.arraylength, 1) := by decide +kernel
theorem dX10_clear_5 : decode cX10_clear 5 = .ok (.if_icmp .ge 13, 3) := by decide +kernel
theorem dX10_clear_8 : decode cX10_clear 8 = .ok (.aload_n 0, 1) := by decide +kernel
theorem dX10_clear_9 : decode cX10_clear 9 = .ok (.iload_n 1, 1) := by decide +kernel
theorem dX10_clear_10 : decode cX10_clear 10 = .ok (.iconst 0, 1) := by decide +kernel
theorem dX10_clear_11 : decode cX10_clear 11 = .ok (.iastore, 1) := by decide +kernel
theorem dX10_clear_12 : decode cX10_clear 12 = .ok (.iinc 1 1, 3) := by decide +kernel
theorem dX10_clear_15 : decode cX10_clear 15 = .ok (.goto (-13), 3) := by decide +kernel
theorem dX10_clear_18 : decode cX10_clear 18 = .ok (.return_, 1) := by decide +kernel
theorem dX10_clear__0 : decode cX10_clear_ 0 = .ok (.iconst 0, 1) := by decide +kernel
theorem dX10_clear__1 : decode cX10_clear_ 1 = .ok (.istore_n 1, 1) := by decide +kernel
theorem dX10_clear__2 : decode cX10_clear_ 2 = .ok (.iload_n 1, 1) := by decide +kernel
theorem dX10_clear__3 : decode cX10_clear_ 3 = .ok (.aload_n 0, 1) := by decide +kernel
theorem dX10_clear__4 : decode cX10_clear_ 4 = .ok (.arraylength, 1) := by decide +kernel
theorem dX10_clear__5 : decode cX10_clear_ 5 = .ok (.if_icmp .ge 13, 3) := by decide +kernel
theorem dX10_clear__8 : decode cX10_clear_ 8 = .ok (.aload_n 0, 1) := by decide +kernel
theorem dX10_clear__9 : decode cX10_clear_ 9 = .ok (.iload_n 1, 1) := by decide +kernel
theorem dX10_clear__10 : decode cX10_clear_ 10 = .ok (.lconst 0, 1) := by decide +kernel
theorem dX10_clear__11 : decode cX10_clear_ 11 = .ok (.lastore, 1) := by decide +kernel
theorem dX10_clear__12 : decode cX10_clear_ 12 = .ok (.iinc 1 1, 3) := by decide +kernel
theorem dX10_clear__15 : decode cX10_clear_ 15 = .ok (.goto (-13), 3) := by decide +kernel
theorem dX10_clear__18 : decode cX10_clear_ 18 = .ok (.return_, 1) := by decide +kernel
theorem dX10_cut_0 : decode cX10_cut 0 = .ok (.iload_n 1, 1) := by decide +kernel
theorem dX10_cut_1 : decode cX10_cut 1 = .ok (.ifCond .ne 7, 3) := by decide +kernel
theorem dX10_cut_4 : decode cX10_cut 4 = .ok (.iconst 0, 1) := by decide +kernel
theorem dX10_cut_5 : decode cX10_cut 5 = .ok (.goto 6, 3) := by decide +kernel
theorem dX10_cut_8 : decode cX10_cut 8 = .ok (.iload_n 0, 1) := by decide +kernel
theorem dX10_cut_9 : decode cX10_cut 9 = .ok (.iload_n 1, 1) := by decide +kernel
theorem dX10_cut_10 : decode cX10_cut 10 = .ok (.idiv, 1) := by decide +kernel
theorem dX10_cut_11 : decode cX10_cut 11 = .ok (.ireturn, 1) := by decide +kernel
theorem dX10_cut__0 : decode cX10_cut_ 0 = .ok (.lload_n 2, 1) := by decide +kernel
theorem dX10_cut__1 : decode cX10_cut_ 1 = .ok (.lconst 0, 1) := by decide +kernel
theorem dX10_cut__2 : decode cX10_cut_ 2 = .ok (.lcmp, 1) := by decide +kernel
theorem dX10_cut__3 : decode cX10_cut_ 3 = .ok (.ifCond .ne 7, 3) := by decide +kernel
theorem dX10_cut__6 : decode cX10_cut_ 6 = .ok (.lconst 0, 1) := by decide +kernel
theorem dX10_cut__7 : decode cX10_cut_ 7 = .ok (.goto 6, 3) := by decide +kernel
theorem dX10_cut__10 : decode cX10_cut_ 10 = .ok (.lload_n 0, 1) := by decide +kernel
theorem dX10_cut__11 : decode cX10_cut_ 11 = .ok (.lload_n 2, 1) := by decide +kernel
theorem dX10_cut__12 : decode cX10_cut_ 12 = .ok (.ldiv, 1) := by decide +kernel
theorem dX10_cut__13 : decode cX10_cut_ 13 = .ok (.lreturn, 1) := by decide +kernel
theorem dX10_leftOver_0 : decode cX10_leftOver 0 = .ok (.iload_n 1, 1) := by decide +kernel
theorem dX10_leftOver_1 : decode cX10_leftOver 1 = .ok (.ifCond .ne 7, 3) := by decide +kernel
theorem dX10_leftOver_4 : decode cX10_leftOver 4 = .ok (.iconst 0, 1) := by decide +kernel
theorem dX10_leftOver_5 : decode cX10_leftOver 5 = .ok (.goto 6, 3) := by decide +kernel
theorem dX10_leftOver_8 : decode cX10_leftOver 8 = .ok (.iload_n 0, 1) := by decide +kernel
theorem dX10_leftOver_9 : decode cX10_leftOver 9 = .ok (.iload_n 1, 1) := by decide +kernel
theorem dX10_leftOver_10 : decode cX10_leftOver 10 = .ok (.irem, 1) := by decide +kernel
theorem dX10_leftOver_11 : decode cX10_leftOver 11 = .ok (.ireturn, 1) := by decide +kernel
theorem dX10_greatestDivisor_0 : decode cX10_greatestDivisor 0 = .ok (.iconst 0, 1) := by decide +kernel
theorem dX10_greatestDivisor_1 : decode cX10_greatestDivisor 1 = .ok (.istore 4, 2) := by decide +kernel
theorem dX10_greatestDivisor_3 : decode cX10_greatestDivisor 3 = .ok (.iload 4, 2) := by decide +kernel
theorem dX10_greatestDivisor_5 : decode cX10_greatestDivisor 5 = .ok (.bipush 100, 2) := by decide +kernel
theorem dX10_greatestDivisor_7 : decode cX10_greatestDivisor 7 = .ok (.if_icmp .ge 25, 3) := by decide +kernel
theorem dX10_greatestDivisor_10 : decode cX10_greatestDivisor 10 = .ok (.lload_n 2, 1) := by decide +kernel
theorem dX10_greatestDivisor_11 : decode cX10_greatestDivisor 11 = .ok (.lconst 0, 1) := by decide +kernel
theorem dX10_greatestDivisor_12 : decode cX10_greatestDivisor 12 = .ok (.lcmp, 1) := by decide +kernel
theorem dX10_greatestDivisor_13 : decode cX10_greatestDivisor 13 = .ok (.ifCond .eq 19, 3) := by decide +kernel
theorem dX10_greatestDivisor_16 : decode cX10_greatestDivisor 16 = .ok (.lload_n 0, 1) := by decide +kernel
theorem dX10_greatestDivisor_17 : decode cX10_greatestDivisor 17 = .ok (.lload_n 2, 1) := by decide +kernel
theorem dX10_greatestDivisor_18 : decode cX10_greatestDivisor 18 = .ok (.lrem, 1) := by decide +kernel
theorem dX10_greatestDivisor_19 : decode cX10_greatestDivisor 19 = .ok (.lstore 5, 2) := by decide +kernel
theorem dX10_greatestDivisor_21 : decode cX10_greatestDivisor 21 = .ok (.lload_n 2, 1) := by decide +kernel
theorem dX10_greatestDivisor_22 : decode cX10_greatestDivisor 22 = .ok (.lstore_n 0, 1) := by decide +kernel
theorem dX10_greatestDivisor_23 : decode cX10_greatestDivisor 23 = .ok (.lload 5, 2) := by decide +kernel
theorem dX10_greatestDivisor_25 : decode cX10_greatestDivisor 25 = .ok (.lstore_n 2, 1) := by decide +kernel
theorem dX10_greatestDivisor_26 : decode cX10_greatestDivisor 26 = .ok (.iinc 4 1, 3) := by decide +kernel
theorem dX10_greatestDivisor_29 : decode cX10_greatestDivisor 29 = .ok (.goto (-26), 3) := by decide +kernel
theorem dX10_greatestDivisor_32 : decode cX10_greatestDivisor 32 = .ok (.lload_n 0, 1) := by decide +kernel
theorem dX10_greatestDivisor_33 : decode cX10_greatestDivisor 33 = .ok (.lreturn, 1) := by decide +kernel
set_option maxRecDepth 20000 in
theorem ggX11_init_X11_begin : GoodIn wsX11_init wsX11_begin := goodIn_r _ [33, 34, 35, 36, 37, 5, 38, 39, 32, 40, 41, 42, 43, 44, 45, 46, 47, 48, 49, 50, 51, 52, 53, 54, 55, 56, 57, 58, 59, 60, 61, 62, 63, 64, 65, 66, 67, 68, 69, 70, 71, 72, 73, 74, 75, 76, 77, 78, 79] rfl (by decide +kernel)
set_option maxRecDepth 20000 in
theorem gX11_init_X11_begin : GoodIn wsX11_init (wsV RX11 79 RX11 yX11_begin wsX11_begin) := goodIn_app (goodIn_r _ [29, 30, 31, 32] rfl (by decide +kernel)) ggX11_init_X11_begin
theorem dX11_init_0 : decode cX11_init 0 = .ok (.aload_n 0, 1) := by decide +kernel
theorem dX11_init_1 : decode cX11_init 1 = .ok (.invokespecial 1, 3) := by decide +kernel
theorem dX11_init_4 : decode cX11_init 4 = .ok (.aload_n 0, 1) := by decide +kernel
theorem dX11_init_5 : decode cX11_init 5 = .ok (.bipush 36, 2) := by decide +kernel
theorem dX11_init_7 : decode cX11_init 7 = .ok (.newarray .int, 2) := by decide +kernel
theorem dX11_init_9 : decode cX11_init 9 = .ok (.putfield 7, 3) := by decide +kernel
theorem dX11_init_12 : decode cX11_init 12 = .ok (.aload_n 0, 1) := by decide +kernel
theorem dX11_init_13 : decode cX11_init 13 = .ok (.bipush 8, 2) := by decide +kernel
theorem dX11_init_15 : decode cX11_init 15 = .ok (.newarray .int, 2) := by decide +kernel
theorem dX11_init_17 : decode cX11_init 17 = .ok (.putfield 13, 3) := by decide +kernel
theorem dX11_init_20 : decode cX11_init 20 = .ok (.aload_n 0, 1) := by decide +kernel
theorem dX11_init_21 : decode cX11_init 21 = .ok (.bipush 8, 2) := by decide +kernel
theorem dX11_init_23 : decode cX11_init 23 = .ok (.newarray .int, 2) := by decide +kernel
theorem dX11_init_25 : decode cX11_init 25 = .ok (.putfield 16, 3) := by decide +kernel
theorem dX11_init_28 : decode cX11_init 28 = .ok (.aload_n 0, 1) := by decide +kernel
theorem dX11_init_29 : decode cX11_init 29 = .ok (.bipush 8, 2) := by decide +kernel
theorem dX11_init_31 : decode cX11_init 31 = .ok (.newarray .int, 2) := by decide +kernel
theorem dX11_init_33 : decode cX11_init 33 = .ok (.putfield 19, 3) := by decide +kernel
theorem dX11_init_36 : decode cX11_init 36 = .ok (.aload_n 0, 1) := by decide +kernel
theorem dX11_init_37 : decode cX11_init 37 = .ok (.bipush 60, 2) := by decide +kernel
theorem dX11_init_39 : decode cX11_init 39 = .ok (.newarray .int, 2) := by decide +kernel
theorem dX11_init_41 : decode cX11_init 41 = .ok (.putfield 22, 3) := by decide +kernel
theorem dX11_init_44 : decode cX11_init 44 = .ok (.aload_n 0, 1) := by decide +kernel
theorem dX11_init_45 : decode cX11_init 45 = .ok (.bipush 60, 2) := by decide +kernel
theorem dX11_init_47 : decode cX11_init 47 = .ok (.newarray .int, 2) := by decide +kernel
theorem dX11_init_49 : decode cX11_init 49 = .ok (.putfield 25, 3) := by decide +kernel
theorem dX11_init_52 : decode cX11_init 52 = .ok (.aload_n 0, 1) := by decide +kernel
theorem dX11_init_53 : decode cX11_init 53 = .ok (.bipush 60, 2) := by decide +kernel
theorem dX11_init_55 : decode cX11_init 55 = .ok (.newarray .int, 2) := by decide +kernel
theorem dX11_init_57 : decode cX11_init 57 = .ok (.putfield 28, 3) := by decide +kernel
theorem dX11_init_60 : decode cX11_init 60 = .ok (.aload_n 0, 1) := by decide +kernel
theorem dX11_init_61 : decode cX11_init 61 = .ok (.bipush 60, 2) := by decide +kernel
theorem dX11_init_63 : decode cX11_init 63 = .ok (.newarray .int, 2) := by decide +kernel
theorem dX11_init_65 : decode cX11_init 65 = .ok (.putfield 31, 3) := by decide +kernel
theorem dX11_init_68 : decode cX11_init 68 = .ok (.aload_n 0, 1) := by decide +kernel
theorem dX11_init_69 : decode cX11_init 69 = .ok (.bipush 60, 2) := by decide +kernel
theorem dX11_init_71 : decode cX11_init 71 = .ok (.newarray .int, 2) := by decide +kernel
theorem dX11_init_73 : decode cX11_init 73 = .ok (.putfield 34, 3) := by decide +kernel
theorem dX11_init_76 : decode cX11_init 76 = .ok (.aload_n 0, 1) := by decide +kernel
theorem dX11_init_77 : decode cX11_init 77 = .ok (.bipush 9, 2) := by decide +kernel
theorem dX11_init_79 : decode cX11_init 79 = .ok (.newarray .int, 2) := by decide +kernel
theorem dX11_init_81 : decode cX11_init 81 = .ok (.putfield 37, 3) := by decide +kernel
theorem dX11_init_84 : decode cX11_init 84 = .ok (.aload_n 0, 1) := by decide +kernel
theorem dX11_init_85 : decode cX11_init 85 = .ok (.bipush 9, 2) := by decide +kernel
theorem dX11_init_87 : decode cX11_init 87 = .ok (.newarray .int, 2) := by decide +kernel
theorem dX11_init_89 : decode cX11_init 89 = .ok (.putfield 40, 3) := by decide +kernel
theorem dX11_init_92 : decode cX11_init 92 = .ok (.aload_n 0, 1) := by decide +kernel
theorem dX11_init_93 : decode cX11_init 93 = .ok (.bipush 9, 2) := by decide +kernel
theorem dX11_init_95 : decode cX11_init 95 = .ok (.newarray .int, 2) := by decide +kernel
theorem dX11_init_97 : decode cX11_init 97 = .ok (.putfield 43, 3) := by decide +kernel
theorem dX11_init_100 : decode cX11_init 100 = .ok (.aload_n 0, 1) := by decide +kernel
theorem dX11_init_101 : decode cX11_init 101 = .ok (.sipush 892, 3) := by decide +kernel
theorem dX11_init_104 : decode cX11_init 104 = .ok (.newarray .int, 2) := by decide +kernel
theorem dX11_init_106 : decode cX11_init 106 = .ok (.putfield 46, 3) := by decide +kernel
theorem dX11_init_109 : decode cX11_init 109 = .ok (.aload_n 0, 1) := by decide +kernel
theorem dX11_init_110 : decode cX11_init 110 = .ok (.sipush 892, 3) := by decide +kernel
theorem dX11_init_113 : decode cX11_init 113 = .ok (.newarray .int, 2) := by decide +kernel
theorem dX11_init_115 : decode cX11_init 115 = .ok (.putfield 49, 3) := by decide +kernel
theorem dX11_init_118 : decode cX11_init 118 = .ok (.aload_n 0, 1) := by decide +kernel
theorem dX11_init_119 : decode cX11_init 119 = .ok (.bipush 9, 2) := by decide +kernel
theorem dX11_init_121 : decode cX11_init 121 = .ok (.newarray .long, 2) := by decide +kernel
theorem dX11_init_123 : decode cX11_init 123 = .ok (.putfield 52, 3) := by decide +kernel
theorem dX11_init_126 : decode cX11_init 126 = .ok (.aload_n 0, 1) := by decide +kernel
theorem dX11_init_127 : decode cX11_init 127 = .ok (.bipush 9, 2) := by decide +kernel
theorem dX11_init_129 : decode cX11_init 129 = .ok (.newarray .long, 2) := by decide +kernel
theorem dX11_init_131 : decode cX11_init 131 = .ok (.putfield 56, 3) := by decide +kernel
theorem dX11_init_134 : decode cX11_init 134 = .ok (.aload_n 0, 1) := by decide +kernel
theorem dX11_init_135 : decode cX11_init 135 = .ok (.bipush 9, 2) := by decide +kernel
theorem dX11_init_137 : decode cX11_init 137 = .ok (.newarray .int, 2) := by decide +kernel
theorem dX11_init_139 : decode cX11_init 139 = .ok (.putfield 59, 3) := by decide +kernel
theorem dX11_init_142 : decode cX11_init 142 = .ok (.aload_n 0, 1) := by decide +kernel
theorem dX11_init_143 : decode cX11_init 143 = .ok (.sipush 160, 3) := by decide +kernel
theorem dX11_init_146 : decode cX11_init 146 = .ok (.newarray .int, 2) := by decide +kernel
theorem dX11_init_148 : decode cX11_init 148 = .ok (.putfield 62, 3) := by decide +kernel
theorem dX11_init_151 : decode cX11_init 151 = .ok (.aload_n 0, 1) := by decide +kernel
theorem dX11_init_152 : decode cX11_init 152 = .ok (.iconst 2, 1) := by decide +kernel
theorem dX11_init_153 : decode cX11_init 153 = .ok (.newarray .boolean, 2) := by decide +kernel
theorem dX11_init_155 : decode cX11_init 155 = .ok (.putfield 65, 3) := by decide +kernel
theorem dX11_init_158 : decode cX11_init 158 = .ok (.aload_n 0, 1) := by decide +kernel
theorem dX11_init_159 : decode cX11_init 159 = .ok (.iconst 1, 1) := by decide +kernel
theorem dX11_init_160 : decode cX11_init 160 = .ok (.putfield 69, 3) := by decide +kernel
theorem dX11_init_163 : decode cX11_init 163 = .ok (.aload_n 0, 1) := by decide +kernel
theorem dX11_init_164 : decode cX11_init 164 = .ok (.iconst 1, 1) := by decide +kernel
theorem dX11_init_165 : decode cX11_init 165 = .ok (.putfield 73, 3) := by decide +kernel
theorem dX11_init_168 : decode cX11_init 168 = .ok (.aload_n 0, 1) := by decide +kernel
theorem dX11_init_169 : decode cX11_init 169 = .ok (.iconst 1, 1) := by decide +kernel
theorem dX11_init_170 : decode cX11_init 170 = .ok (.putfield 76, 3) := by decide +kernel
theorem dX11_init_173 : decode cX11_init 173 = .ok (.aload_n 0, 1) := by decide +kernel
theorem dX11_init_174 : decode cX11_init 174 = .ok (.bipush 6, 2) := by decide +kernel
theorem dX11_init_176 : decode cX11_init 176 = .ok (.iconst 2, 1) := by decide +kernel
theorem dX11_init_177 : decode cX11_init 177 = .ok (.invokevirtual 79, 3) := by decide +kernel
theorem dX11_init_180 : decode cX11_init 180 = .ok (.return_, 1) := by decide +kernel
theorem dX11_in_0 : decode cX11_in 0 = .ok (.lload_n 0, 1) := by decide +kernel
theorem dX11_in_1 : decode cX11_in 1 = .ok (.lload_n 2, 1) := by decide +kernel
theorem dX11_in_2 : decode cX11_in 2 = .ok (.lcmp, 1) := by decide +kernel
theorem dX11_in_3 : decode cX11_in 3 = .ok (.ifCond .lt 14, 3) := by decide +kernel
theorem dX11_in_6 : decode cX11_in 6 = .ok (.lload_n 0, 1) := by decide +kernel
theorem dX11_in_7 : decode cX11_in 7 = .ok (.lload 4, 2) := by decide +kernel
theorem dX11_in_9 : decode cX11_in 9 = .ok (.lcmp, 1) := by decide +kernel
theorem dX11_in_10 : decode cX11_in 10 = .ok (.ifCond .gt 7, 3) := by decide +kernel
theorem dX11_in_13 : decode cX11_in 13 = .ok (.iconst 1, 1) := by decide +kernel
theorem dX11_in_14 : decode cX11_in 14 = .ok (.goto 4, 3) := by decide +kernel
theorem dX11_in_17 : decode cX11_in 17 = .ok (.iconst 0, 1) := by decide +kernel
theorem dX11_in_18 : decode cX11_in 18 = .ok (.ireturn, 1) := by decide +kernel
theorem dX11_at_0 : decode cX11_at 0 = .ok (.bipush 9, 2) := by decide +kernel
theorem dX11_at_2 : decode cX11_at 2 = .ok (.iload_n 0, 1) := by decide +kernel
theorem dX11_at_3 : decode cX11_at 3 = .ok (.imul, 1) := by decide +kernel
theorem dX11_at_4 : decode cX11_at 4 = .ok (.iload_n 1, 1) := by decide +kernel
theorem dX11_at_5 : decode cX11_at 5 = .ok (.iadd, 1) := by decide +kernel
theorem dX11_at_6 : decode cX11_at 6 = .ok (.ireturn, 1) := by decide +kernel
set_option maxRecDepth 20000 in
theorem ggX11_begin_X11_at : GoodIn wsX11_begin wsX11_at := goodIn_r _ [9] rfl (by decide +kernel)
set_option maxRecDepth 20000 in
theorem gX11_begin_X11_at : GoodIn wsX11_begin (va_wsS RX11 95 yX11_at wsX11_at) := goodIn_app (goodIn_r _ [6, 7, 8] rfl (by decide +kernel)) ggX11_begin_X11_at
theorem dX11_begin_0 : decode cX11_begin 0 = .ok (.aload_n 0, 1) := by decide +kernel
theorem dX11_begin_1 : decode cX11_begin 1 = .ok (.iload_n 1, 1) := by decide +kernel
theorem dX11_begin_2 : decode cX11_begin 2 = .ok (.putfield 83, 3) := by decide +kernel
theorem dX11_begin_5 : decode cX11_begin 5 = .ok (.aload_n 0, 1) := by decide +kernel
theorem dX11_begin_6 : decode cX11_begin 6 = .ok (.iload_n 2, 1) := by decide +kernel
theorem dX11_begin_7 : decode cX11_begin 7 = .ok (.putfield 86, 3) := by decide +kernel
theorem dX11_begin_10 : decode cX11_begin 10 = .ok (.aload_n 0, 1) := by decide +kernel
theorem dX11_begin_11 : decode cX11_begin 11 = .ok (.iconst 0, 1) := by decide +kernel
theorem dX11_begin_12 : decode cX11_begin 12 = .ok (.putfield 89, 3) := by decide +kernel
theorem dX11_begin_15 : decode cX11_begin 15 = .ok (.aload_n 0, 1) := by decide +kernel
theorem dX11_begin_16 : decode cX11_begin 16 = .ok (.iconst 0, 1) := by decide +kernel
theorem dX11_begin_17 : decode cX11_begin 17 = .ok (.putfield 92, 3) := by decide +kernel
theorem dX11_begin_20 : decode cX11_begin 20 = .ok (.iconst 0, 1) := by decide +kernel
theorem dX11_begin_21 : decode cX11_begin 21 = .ok (.istore_n 3, 1) := by decide +kernel
theorem dX11_begin_22 : decode cX11_begin 22 = .ok (.iload_n 3, 1) := by decide +kernel
theorem dX11_begin_23 : decode cX11_begin 23 = .ok (.bipush 9, 2) := by decide +kernel
theorem dX11_begin_25 : decode cX11_begin 25 = .ok (.if_icmp .ge 54, 3) := by decide +kernel
theorem dX11_begin_28 : decode cX11_begin 28 = .ok (.aload_n 0, 1) := by decide +kernel
theorem dX11_begin_29 : decode cX11_begin 29 = .ok (.getfield 7, 3) := by decide +kernel
theorem dX11_begin_32 : decode cX11_begin 32 = .ok (.iconst 0, 1) := by decide +kernel
theorem dX11_begin_33 : decode cX11_begin 33 = .ok (.iload_n 3, 1) := by decide +kernel
theorem dX11_begin_34 : decode cX11_begin 34 = .ok (.invokestatic 95, 3) := by decide +kernel
theorem dX11_begin_37 : decode cX11_begin 37 = .ok (.iconst 3, 1) := by decide +kernel
theorem dX11_begin_38 : decode cX11_begin 38 = .ok (.iastore, 1) := by decide +kernel
theorem dX11_begin_39 : decode cX11_begin 39 = .ok (.aload_n 0, 1) := by decide +kernel
theorem dX11_begin_40 : decode cX11_begin 40 = .ok (.getfield 7, 3) := by decide +kernel
theorem dX11_begin_43 : decode cX11_begin 43 = .ok (.iconst 1, 1) := by decide +kernel
theorem dX11_begin_44 : decode cX11_begin 44 = .ok (.iload_n 3, 1) := by decide +kernel
theorem dX11_begin_45 : decode cX11_begin 45 = .ok (.invokestatic 95, 3) := by decide +kernel
theorem dX11_begin_48 : decode cX11_begin 48 = .ok (.iconst 2, 1) := by decide +kernel
theorem dX11_begin_49 : decode cX11_begin 49 = .ok (.iastore, 1) := by decide +kernel
theorem dX11_begin_50 : decode cX11_begin 50 = .ok (.aload_n 0, 1) := by decide +kernel
theorem dX11_begin_51 : decode cX11_begin 51 = .ok (.getfield 7, 3) := by decide +kernel
theorem dX11_begin_54 : decode cX11_begin 54 = .ok (.iconst 2, 1) := by decide +kernel
theorem dX11_begin_55 : decode cX11_begin 55 = .ok (.iload_n 3, 1) := by decide +kernel
theorem dX11_begin_56 : decode cX11_begin 56 = .ok (.invokestatic 95, 3) := by decide +kernel
theorem dX11_begin_59 : decode cX11_begin 59 = .ok (.iconst 0, 1) := by decide +kernel
theorem dX11_begin_60 : decode cX11_begin 60 = .ok (.iastore, 1) := by decide +kernel
theorem dX11_begin_61 : decode cX11_begin 61 = .ok (.aload_n 0, 1) := by decide +kernel
theorem dX11_begin_62 : decode cX11_begin 62 = .ok (.getfield 7, 3) := by decide +kernel
theorem dX11_begin_65 : decode cX11_begin 65 = .ok (.iconst 3, 1) := by decide +kernel
theorem dX11_begin_66 : decode cX11_begin 66 = .ok (.iload_n 3, 1) := by decide +kernel
theorem dX11_begin_67 : decode cX11_begin 67 = .ok (.invokestatic 95, 3) := by decide +kernel
theorem dX11_begin_70 : decode cX11_begin 70 = .ok (.bipush 50, 2) := by decide +kernel
theorem dX11_begin_72 : decode cX11_begin 72 = .ok (.iastore, 1) := by decide +kernel
theorem dX11_begin_73 : decode cX11_begin 73 = .ok (.iinc 3 1, 3) := by decide +kernel
theorem dX11_begin_76 : decode cX11_begin 76 = .ok (.goto (-54), 3) := by decide +kernel
theorem dX11_begin_79 : decode cX11_begin 79 = .ok (.return_, 1) := by decide +kernel
set_option maxRecDepth 20000 in
theorem ggX11_isLand_X11_in : GoodIn wsX11_isLand wsX11_in := goodIn_r _ [5] rfl (by decide +kernel)
set_option maxRecDepth 20000 in
theorem gX11_isLand_X11_in : GoodIn wsX11_isLand (va_wsS RX11 99 yX11_in wsX11_in) := goodIn_app (goodIn_r _ [2, 3, 4] rfl (by decide +kernel)) ggX11_isLand_X11_in
theorem dX11_isLand_0 : decode cX11_isLand 0 = .ok (.iload_n 1, 1) := by decide +kernel
theorem dX11_isLand_1 : decode cX11_isLand 1 = .ok (.i2l, 1) := by decide +kernel
theorem dX11_isLand_2 : decode cX11_isLand 2 = .ok (.lconst 0, 1) := by decide +kernel
theorem dX11_isLand_3 : decode cX11_isLand 3 = .ok (.aload_n 0, 1) := by decide +kernel
theorem dX11_isLand_4 : decode cX11_isLand 4 = .ok (.getfield 83, 3) := by decide +kernel
theorem dX11_isLand_7 : decode cX11_isLand 7 = .ok (.iconst 1, 1) := by decide +kernel
theorem dX11_isLand_8 : decode cX11_isLand 8 = .ok (.isub, 1) := by decide +kernel
theorem dX11_isLand_9 : decode cX11_isLand 9 = .ok (.i2l, 1) := by decide +kernel
theorem dX11_isLand_10 : decode cX11_isLand 10 = .ok (.invokestatic 99, 3) := by decide +kernel
theorem dX11_isLand_13 : decode cX11_isLand 13 = .ok (.ireturn, 1) := by decide +kernel
set_option maxRecDepth 20000 in
theorem ggX11_isYear_X11_in : GoodIn wsX11_isYear wsX11_in := goodIn_r _ [5] rfl (by decide +kernel)
set_option maxRecDepth 20000 in
theorem gX11_isYear_X11_in : GoodIn wsX11_isYear (va_wsS RX11 99 yX11_in wsX11_in) := goodIn_app (goodIn_r _ [2, 3, 4] rfl (by decide +kernel)) ggX11_isYear_X11_in
theorem dX11_isYear_0 : decode cX11_isYear 0 = .ok (.iload_n 0, 1) := by decide +kernel
theorem dX11_isYear_1 : decode cX11_isYear 1 = .ok (.i2l, 1) := by decide +kernel
theorem dX11_isYear_2 : decode cX11_isYear 2 = .ok (.lconst 0, 1) := by decide +kernel
theorem dX11_isYear_3 : decode cX11_isYear 3 = .ok (.ldc2_w 103, 3) := by decide +kernel
theorem dX11_isYear_6 : decode cX11_isYear 6 = .ok (.invokestatic 99, 3) := by decide +kernel
theorem dX11_isYear_9 : decode cX11_isYear 9 = .ok (.ireturn, 1) := by decide +kernel
set_option maxRecDepth 20000 in
theorem ggX11_lands_X11_in : GoodIn wsX11_lands wsX11_in := goodIn_r _ [7] rfl (by decide +kernel)
set_option maxRecDepth 20000 in
theorem gX11_lands_X11_in : GoodIn wsX11_lands (va_wsS RX11 99 yX11_in wsX11_in) := goodIn_app (goodIn_r _ [4, 5, 6] rfl (by decide +kernel)) ggX11_lands_X11_in
set_option maxRecDepth 20000 in
theorem ggX11_lands_X11_begin : GoodIn wsX11_lands wsX11_begin := goodIn_r _ [11, 3, 12, 13, 14, 15, 16, 17, 6, 18, 19, 20, 21, 22, 23, 24, 25, 26, 27, 28, 29, 30, 31, 32, 33, 34, 35, 36, 37, 38, 39, 40, 41, 42, 43, 44, 45, 46, 47, 48, 49, 50, 51, 52, 53, 54, 55, 56, 57] rfl (by decide +kernel)
set_option maxRecDepth 20000 in
theorem gX11_lands_X11_begin : GoodIn wsX11_lands (wsV RX11 79 RX11 yX11_begin wsX11_begin) := goodIn_app (goodIn_r _ [8, 9, 10, 6] rfl (by decide +kernel)) ggX11_lands_X11_begin
theorem dX11_lands_0 : decode cX11_lands 0 = .ok (.iload_n 1, 1) := by decide +kernel
theorem dX11_lands_1 : decode cX11_lands 1 = .ok (.i2l, 1) := by decide +kernel
theorem dX11_lands_2 : decode cX11_lands 2 = .ok (.ldc2_w 105, 3) := by decide +kernel
theorem dX11_lands_5 : decode cX11_lands 5 = .ok (.ldc2_w 107, 3) := by decide +kernel
theorem dX11_lands_8 : decode cX11_lands 8 = .ok (.invokestatic 99, 3) := by decide +kernel
theorem dX11_lands_11 : decode cX11_lands 11 = .ok (.ifCond .eq 16, 3) := by decide +kernel
theorem dX11_lands_14 : decode cX11_lands 14 = .ok (.iload_n 2, 1) := by decide +kernel
theorem dX11_lands_15 : decode cX11_lands 15 = .ok (.i2l, 1) := by decide +kernel
theorem dX11_lands_16 : decode cX11_lands 16 = .ok (.lconst 1, 1) := by decide +kernel
theorem dX11_lands_17 : decode cX11_lands 17 = .ok (.iload_n 1, 1) := by decide +kernel
theorem dX11_lands_18 : decode cX11_lands 18 = .ok (.iconst 1, 1) := by decide +kernel
theorem dX11_lands_19 : decode cX11_lands 19 = .ok (.isub, 1) := by decide +kernel
theorem dX11_lands_20 : decode cX11_lands 20 = .ok (.i2l, 1) := by decide +kernel
theorem dX11_lands_21 : decode cX11_lands 21 = .ok (.invokestatic 99, 3) := by decide +kernel
theorem dX11_lands_24 : decode cX11_lands 24 = .ok (.ifCond .ne 6, 3) := by decide +kernel
theorem dX11_lands_27 : decode cX11_lands 27 = .ok (.bipush (-2), 2) := by decide +kernel
theorem dX11_lands_29 : decode cX11_lands 29 = .ok (.ireturn, 1) := by decide +kernel
theorem dX11_lands_30 : decode cX11_lands 30 = .ok (.aload_n 0, 1) := by decide +kernel
theorem dX11_lands_31 : decode cX11_lands 31 = .ok (.getfield 83, 3) := by decide +kernel
theorem dX11_lands_34 : decode cX11_lands 34 = .ok (.istore_n 3, 1) := by decide +kernel
theorem dX11_lands_35 : decode cX11_lands 35 = .ok (.aload_n 0, 1) := by decide +kernel
theorem dX11_lands_36 : decode cX11_lands 36 = .ok (.iload_n 1, 1) := by decide +kernel
theorem dX11_lands_37 : decode cX11_lands 37 = .ok (.iload_n 2, 1) := by decide +kernel
theorem dX11_lands_38 : decode cX11_lands 38 = .ok (.invokevirtual 79, 3) := by decide +kernel
theorem dX11_lands_41 : decode cX11_lands 41 = .ok (.iload_n 3, 1) := by decide +kernel
theorem dX11_lands_42 : decode cX11_lands 42 = .ok (.ireturn, 1) := by decide +kernel
set_option maxRecDepth 20000 in
theorem ggX11_canSet_X11_in : GoodIn wsX11_canSet wsX11_in := goodIn_r _ [9] rfl (by decide +kernel)
set_option maxRecDepth 20000 in
theorem gX11_canSet_X11_in : GoodIn wsX11_canSet (va_wsS RX11 99 yX11_in wsX11_in) := goodIn_app (goodIn_r _ [6, 7, 8] rfl (by decide +kernel)) ggX11_canSet_X11_in
theorem dX11_canSet_0 : decode cX11_canSet 0 = .ok (.iload_n 1, 1) := by decide +kernel
theorem dX11_canSet_1 : decode cX11_canSet 1 = .ok (.tableswitch 89 0 4 #[35, 45, 55, 79, 79], 35) := by decide +kernel
theorem dX11_canSet_36 : decode cX11_canSet 36 = .ok (.iload_n 2, 1) := by decide +kernel
theorem dX11_canSet_37 : decode cX11_canSet 37 = .ok (.i2l, 1) := by decide +kernel
theorem dX11_canSet_38 : decode cX11_canSet 38 = .ok (.lconst 1, 1) := by decide +kernel
theorem dX11_canSet_39 : decode cX11_canSet 39 = .ok (.ldc2_w 107, 3) := by decide +kernel
theorem dX11_canSet_42 : decode cX11_canSet 42 = .ok (.invokestatic 99, 3) := by decide +kernel
theorem dX11_canSet_45 : decode cX11_canSet 45 = .ok (.ireturn, 1) := by decide +kernel
theorem dX11_canSet_46 : decode cX11_canSet 46 = .ok (.iload_n 2, 1) := by decide +kernel
theorem dX11_canSet_47 : decode cX11_canSet 47 = .ok (.i2l, 1) := by decide +kernel
theorem dX11_canSet_48 : decode cX11_canSet 48 = .ok (.lconst 0, 1) := by decide +kernel
theorem dX11_canSet_49 : decode cX11_canSet 49 = .ok (.ldc2_w 109, 3) := by decide +kernel
theorem dX11_canSet_52 : decode cX11_canSet 52 = .ok (.invokestatic 99, 3) := by decide +kernel
theorem dX11_canSet_55 : decode cX11_canSet 55 = .ok (.ireturn, 1) := by decide +kernel
theorem dX11_canSet_56 : decode cX11_canSet 56 = .ok (.iload_n 2, 1) := by decide +kernel
theorem dX11_canSet_57 : decode cX11_canSet 57 = .ok (.ifCond .eq 17, 3) := by decide +kernel
theorem dX11_canSet_60 : decode cX11_canSet 60 = .ok (.iload_n 2, 1) := by decide +kernel
theorem dX11_canSet_61 : decode cX11_canSet 61 = .ok (.i2l, 1) := by decide +kernel
theorem dX11_canSet_62 : decode cX11_canSet 62 = .ok (.ldc2_w 105, 3) := by decide +kernel
theorem dX11_canSet_65 : decode cX11_canSet 65 = .ok (.ldc2_w 111, 3) := by decide +kernel
theorem dX11_canSet_68 : decode cX11_canSet 68 = .ok (.invokestatic 99, 3) := by decide +kernel
theorem dX11_canSet_71 : decode cX11_canSet 71 = .ok (.ifCond .eq 7, 3) := by decide +kernel
theorem dX11_canSet_74 : decode cX11_canSet 74 = .ok (.iconst 1, 1) := by decide +kernel
theorem dX11_canSet_75 : decode cX11_canSet 75 = .ok (.goto 4, 3) := by decide +kernel
theorem dX11_canSet_78 : decode cX11_canSet 78 = .ok (.iconst 0, 1) := by decide +kernel
theorem dX11_canSet_79 : decode cX11_canSet 79 = .ok (.ireturn, 1) := by decide +kernel
theorem dX11_canSet_80 : decode cX11_canSet 80 = .ok (.iload_n 2, 1) := by decide +kernel
theorem dX11_canSet_81 : decode cX11_canSet 81 = .ok (.i2l, 1) := by decide +kernel
theorem dX11_canSet_82 : decode cX11_canSet 82 = .ok (.lconst 0, 1) := by decide +kernel
theorem dX11_canSet_83 : decode cX11_canSet 83 = .ok (.ldc2_w 113, 3) := by decide +kernel
theorem dX11_canSet_86 : decode cX11_canSet 86 = .ok (.invokestatic 99, 3) := by decide +kernel
theorem dX11_canSet_89 : decode cX11_canSet 89 = .ok (.ireturn, 1) := by decide +kernel
theorem dX11_canSet_90 : decode cX11_canSet 90 = .ok (.iconst 0, 1) := by decide +kernel
theorem dX11_canSet_91 : decode cX11_canSet 91 = .ok (.ireturn, 1) := by decide +kernel
theorem dX11_setting_0 : decode cX11_setting 0 = .ok (.iload_n 1, 1) := by decide +kernel
theorem dX11_setting_1 : decode cX11_setting 1 = .ok (.ifCond .ne 10, 3) := by decide +kernel
theorem dX11_setting_4 : decode cX11_setting 4 = .ok (.aload_n 0, 1) := by decide +kernel
theorem dX11_setting_5 : decode cX11_setting 5 = .ok (.getfield 69, 3) := by decide +kernel
theorem dX11_setting_8 : decode cX11_setting 8 = .ok (.goto 43, 3) := by decide +kernel
theorem dX11_setting_11 : decode cX11_setting 11 = .ok (.iload_n 1, 1) := by decide +kernel
theorem dX11_setting_12 : decode cX11_setting 12 = .ok (.iconst 1, 1) := by decide +kernel
theorem dX11_setting_13 : decode cX11_setting 13 = .ok (.if_icmp .ne 10, 3) := by decide +kernel
theorem dX11_setting_16 : decode cX11_setting 16 = .ok (.aload_n 0, 1) := by decide +kernel
theorem dX11_setting_17 : decode cX11_setting 17 = .ok (.getfield 115, 3) := by decide +kernel
theorem dX11_setting_20 : decode cX11_setting 20 = .ok (.goto 31, 3) := by decide +kernel
theorem dX11_setting_23 : decode cX11_setting 23 = .ok (.iload_n 1, 1) := by decide +kernel
theorem dX11_setting_24 : decode cX11_setting 24 = .ok (.iconst 2, 1) := by decide +kernel
theorem dX11_setting_25 : decode cX11_setting 25 = .ok (.if_icmp .ne 10, 3) := by decide +kernel
theorem dX11_setting_28 : decode cX11_setting 28 = .ok (.aload_n 0, 1) := by decide +kernel
theorem dX11_setting_29 : decode cX11_setting 29 = .ok (.getfield 118, 3) := by decide +kernel
theorem dX11_setting_32 : decode cX11_setting 32 = .ok (.goto 19, 3) := by decide +kernel
theorem dX11_setting_35 : decode cX11_setting 35 = .ok (.iload_n 1, 1) := by decide +kernel
theorem dX11_setting_36 : decode cX11_setting 36 = .ok (.iconst 3, 1) := by decide +kernel
theorem dX11_setting_37 : decode cX11_setting 37 = .ok (.if_icmp .ne 10, 3) := by decide +kernel
theorem dX11_setting_40 : decode cX11_setting 40 = .ok (.aload_n 0, 1) := by decide +kernel
theorem dX11_setting_41 : decode cX11_setting 41 = .ok (.getfield 73, 3) := by decide +kernel
theorem dX11_setting_44 : decode cX11_setting 44 = .ok (.goto 7, 3) := by decide +kernel
theorem dX11_setting_47 : decode cX11_setting 47 = .ok (.aload_n 0, 1) := by decide +kernel
theorem dX11_setting_48 : decode cX11_setting 48 = .ok (.getfield 76, 3) := by decide +kernel
theorem dX11_setting_51 : decode cX11_setting 51 = .ok (.ireturn, 1) := by decide +kernel
set_option maxRecDepth 20000 in
theorem ggX11_set_X11_canSet : GoodIn wsX11_set wsX11_canSet := goodIn_r _ [10, 11, 12, 13, 14, 15, 16, 17, 9, 18] rfl (by decide +kernel)
set_option maxRecDepth 20000 in
theorem gX11_set_X11_canSet : GoodIn wsX11_set (wsV RX11 121 RX11 yX11_canSet wsX11_canSet) := goodIn_app (goodIn_r _ [6, 7, 8, 9] rfl (by decide +kernel)) ggX11_set_X11_canSet
set_option maxRecDepth 20000 in
theorem ggX11_set_X11_setting : GoodIn wsX11_set wsX11_setting := goodIn_r _ [22, 1, 2, 3, 4, 5, 23, 24, 25, 26, 27, 28, 29, 30, 31, 32, 33, 34, 35, 36, 37, 38, 39, 40, 41, 42, 43, 44, 45, 46, 47, 48, 49, 50, 51, 52, 53, 54, 55, 56, 57, 58, 59, 60, 61] rfl (by decide +kernel)
set_option maxRecDepth 20000 in
theorem gX11_set_X11_setting : GoodIn wsX11_set (wsV RX11 125 RX11 yX11_setting wsX11_setting) := goodIn_app (goodIn_r _ [19, 20, 21, 9] rfl (by decide +kernel)) ggX11_set_X11_setting
theorem dX11_set_0 : decode cX11_set 0 = .ok (.aload_n 0, 1) := by decide +kernel
theorem dX11_set_1 : decode cX11_set 1 = .ok (.iload_n 1, 1) := by decide +kernel
theorem dX11_set_2 : decode cX11_set 2 = .ok (.iload_n 2, 1) := by decide +kernel
theorem dX11_set_3 : decode cX11_set 3 = .ok (.invokevirtual 121, 3) := by decide +kernel
theorem dX11_set_6 : decode cX11_set 6 = .ok (.ifCond .ne 6, 3) := by decide +kernel
theorem dX11_set_9 : decode cX11_set 9 = .ok (.bipush (-2), 2) := by decide +kernel
theorem dX11_set_11 : decode cX11_set 11 = .ok (.ireturn, 1) := by decide +kernel
theorem dX11_set_12 : decode cX11_set 12 = .ok (.aload_n 0, 1) := by decide +kernel
theorem dX11_set_13 : decode cX11_set 13 = .ok (.iload_n 1, 1) := by decide +kernel
theorem dX11_set_14 : decode cX11_set 14 = .ok (.invokevirtual 125, 3) := by decide +kernel
theorem dX11_set_17 : decode cX11_set 17 = .ok (.istore_n 3, 1) := by decide +kernel
theorem dX11_set_18 : decode cX11_set 18 = .ok (.aload_n 0, 1) := by decide +kernel
theorem dX11_set_19 : decode cX11_set 19 = .ok (.iload_n 1, 1) := by decide +kernel
theorem dX11_set_20 : decode cX11_set 20 = .ok (.ifCond .ne 7, 3) := by decide +kernel
theorem dX11_set_23 : decode cX11_set 23 = .ok (.iload_n 2, 1) := by decide +kernel
theorem dX11_set_24 : decode cX11_set 24 = .ok (.goto 7, 3) := by decide +kernel
theorem dX11_set_27 : decode cX11_set 27 = .ok (.aload_n 0, 1) := by decide +kernel
theorem dX11_set_28 : decode cX11_set 28 = .ok (.getfield 69, 3) := by decide +kernel
theorem dX11_set_31 : decode cX11_set 31 = .ok (.putfield 69, 3) := by decide +kernel
theorem dX11_set_34 : decode cX11_set 34 = .ok (.aload_n 0, 1) := by decide +kernel
theorem dX11_set_35 : decode cX11_set 35 = .ok (.iload_n 1, 1) := by decide +kernel
theorem dX11_set_36 : decode cX11_set 36 = .ok (.iconst 1, 1) := by decide +kernel
theorem dX11_set_37 : decode cX11_set 37 = .ok (.if_icmp .ne 7, 3) := by decide +kernel
theorem dX11_set_40 : decode cX11_set 40 = .ok (.iload_n 2, 1) := by decide +kernel
theorem dX11_set_41 : decode cX11_set 41 = .ok (.goto 7, 3) := by decide +kernel
theorem dX11_set_44 : decode cX11_set 44 = .ok (.aload_n 0, 1) := by decide +kernel
theorem dX11_set_45 : decode cX11_set 45 = .ok (.getfield 115, 3) := by decide +kernel
theorem dX11_set_48 : decode cX11_set 48 = .ok (.putfield 115, 3) := by decide +kernel
theorem dX11_set_51 : decode cX11_set 51 = .ok (.aload_n 0, 1) := by decide +kernel
theorem dX11_set_52 : decode cX11_set 52 = .ok (.iload_n 1, 1) := by decide +kernel
theorem dX11_set_53 : decode cX11_set 53 = .ok (.iconst 2, 1) := by decide +kernel
theorem dX11_set_54 : decode cX11_set 54 = .ok (.if_icmp .ne 7, 3) := by decide +kernel
theorem dX11_set_57 : decode cX11_set 57 = .ok (.iload_n 2, 1) := by decide +kernel
theorem dX11_set_58 : decode cX11_set 58 = .ok (.goto 7, 3) := by decide +kernel
theorem dX11_set_61 : decode cX11_set 61 = .ok (.aload_n 0, 1) := by decide +kernel
theorem dX11_set_62 : decode cX11_set 62 = .ok (.getfield 118, 3) := by decide +kernel
theorem dX11_set_65 : decode cX11_set 65 = .ok (.putfield 118, 3) := by decide +kernel
theorem dX11_set_68 : decode cX11_set 68 = .ok (.aload_n 0, 1) := by decide +kernel
theorem dX11_set_69 : decode cX11_set 69 = .ok (.iload_n 1, 1) := by decide +kernel
theorem dX11_set_70 : decode cX11_set 70 = .ok (.iconst 3, 1) := by decide +kernel
theorem dX11_set_71 : decode cX11_set 71 = .ok (.if_icmp .ne 7, 3) := by decide +kernel
theorem dX11_set_74 : decode cX11_set 74 = .ok (.iload_n 2, 1) := by decide +kernel
theorem dX11_set_75 : decode cX11_set 75 = .ok (.goto 7, 3) := by decide +kernel
theorem dX11_set_78 : decode cX11_set 78 = .ok (.aload_n 0, 1) := by decide +kernel
theorem dX11_set_79 : decode cX11_set 79 = .ok (.getfield 73, 3) := by decide +kernel
theorem dX11_set_82 : decode cX11_set 82 = .ok (.putfield 73, 3) := by decide +kernel
theorem dX11_set_85 : decode cX11_set 85 = .ok (.aload_n 0, 1) := by decide +kernel
theorem dX11_set_86 : decode cX11_set 86 = .ok (.iload_n 1, 1) := by decide +kernel
theorem dX11_set_87 : decode cX11_set 87 = .ok (.iconst 4, 1) := by decide +kernel
theorem dX11_set_88 : decode cX11_set 88 = .ok (.if_icmp .ne 7, 3) := by decide +kernel
theorem dX11_set_91 : decode cX11_set 91 = .ok (.iload_n 2, 1) := by decide +kernel
theorem dX11_set_92 : decode cX11_set 92 = .ok (.goto 7, 3) := by decide +kernel
theorem dX11_set_95 : decode cX11_set 95 = .ok (.aload_n 0, 1) := by decide +kernel
theorem dX11_set_96 : decode cX11_set 96 = .ok (.getfield 76, 3) := by decide +kernel
theorem dX11_set_99 : decode cX11_set 99 = .ok (.putfield 76, 3) := by decide +kernel
theorem dX11_set_102 : decode cX11_set 102 = .ok (.iload_n 3, 1) := by decide +kernel
theorem dX11_set_103 : decode cX11_set 103 = .ok (.ireturn, 1) := by decide +kernel
set_option maxRecDepth 20000 in
theorem ggX11_land_X11_isLand : GoodIn wsX11_land wsX11_isLand := goodIn_r _ [9, 10, 11, 12, 8, 13, 17, 18, 19, 20, 21, 22, 23, 24, 25, 26, 27, 28, 29, 30, 31, 32, 33, 34, 35, 36, 37, 38, 39, 40, 41, 42, 43, 44, 45, 46, 47, 48, 49, 50, 51, 52, 53, 54, 55] rfl (by decide +kernel)
set_option maxRecDepth 20000 in
theorem gX11_land_X11_isLand : GoodIn wsX11_land (wsV RX11 129 RX11 yX11_isLand wsX11_isLand) := goodIn_app (goodIn_r _ [5, 6, 7, 8] rfl (by decide +kernel)) ggX11_land_X11_isLand
set_option maxRecDepth 20000 in
theorem ggX11_land_X11_in : GoodIn wsX11_land wsX11_in := goodIn_r _ [13] rfl (by decide +kernel)
set_option maxRecDepth 20000 in
theorem gX11_land_X11_in : GoodIn wsX11_land (va_wsS RX11 99 yX11_in wsX11_in) := goodIn_app (goodIn_r _ [11, 12, 8] rfl (by decide +kernel)) ggX11_land_X11_in
set_option maxRecDepth 20000 in
theorem ggX11_land_X11_at : GoodIn wsX11_land wsX11_at := goodIn_r _ [16] rfl (by decide +kernel)
set_option maxRecDepth 20000 in
theorem gX11_land_X11_at : GoodIn wsX11_land (va_wsS RX11 95 yX11_at wsX11_at) := goodIn_app (goodIn_r _ [14, 15, 8] rfl (by decide +kernel)) ggX11_land_X11_at
theorem dX11_land_0 : decode cX11_land 0 = .ok (.aload_n 0, 1) := by decide +kernel
theorem dX11_land_1 : decode cX11_land 1 = .ok (.iload_n 1, 1) := by decide +kernel
theorem dX11_land_2 : decode cX11_land 2 = .ok (.invokevirtual 129, 3) := by decide +kernel
theorem dX11_land_5 : decode cX11_land 5 = .ok (.ifCond .ne 5, 3) := by decide +kernel
theorem dX11_land_8 : decode cX11_land 8 = .ok (.iconst (-1), 1) := by decide +kernel
theorem dX11_land_9 : decode cX11_land 9 = .ok (.ireturn, 1) := by decide +kernel
theorem dX11_land_10 : decode cX11_land 10 = .ok (.iload_n 2, 1) := by decide +kernel
theorem dX11_land_11 : decode cX11_land 11 = .ok (.i2l, 1) := by decide +kernel
theorem dX11_land_12 : decode cX11_land 12 = .ok (.lconst 0, 1) := by decide +kernel
theorem dX11_land_13 : decode cX11_land 13 = .ok (.ldc2_w 133, 3) := by decide +kernel
theorem dX11_land_16 : decode cX11_land 16 = .ok (.invokestatic 99, 3) := by decide +kernel
theorem dX11_land_19 : decode cX11_land 19 = .ok (.ifCond .eq 26, 3) := by decide +kernel
theorem dX11_land_22 : decode cX11_land 22 = .ok (.iload_n 3, 1) := by decide +kernel
theorem dX11_land_23 : decode cX11_land 23 = .ok (.i2l, 1) := by decide +kernel
theorem dX11_land_24 : decode cX11_land 24 = .ok (.lconst 0, 1) := by decide +kernel
theorem dX11_land_25 : decode cX11_land 25 = .ok (.iload_n 2, 1) := by decide +kernel
theorem dX11_land_26 : decode cX11_land 26 = .ok (.iconst 2, 1) := by decide +kernel
theorem dX11_land_27 : decode cX11_land 27 = .ok (.if_icmp .ge 9, 3) := by decide +kernel
theorem dX11_land_30 : decode cX11_land 30 = .ok (.ldc2_w 111, 3) := by decide +kernel
theorem dX11_land_33 : decode cX11_land 33 = .ok (.goto 6, 3) := by decide +kernel
theorem dX11_land_36 : decode cX11_land 36 = .ok (.ldc2_w 109, 3) := by decide +kernel
theorem dX11_land_39 : decode cX11_land 39 = .ok (.invokestatic 99, 3) := by decide +kernel
theorem dX11_land_42 : decode cX11_land 42 = .ok (.ifCond .ne 6, 3) := by decide +kernel
theorem dX11_land_45 : decode cX11_land 45 = .ok (.bipush (-2), 2) := by decide +kernel
theorem dX11_land_47 : decode cX11_land 47 = .ok (.ireturn, 1) := by decide +kernel
theorem dX11_land_48 : decode cX11_land 48 = .ok (.iload_n 2, 1) := by decide +kernel
theorem dX11_land_49 : decode cX11_land 49 = .ok (.iconst 2, 1) := by decide +kernel
theorem dX11_land_50 : decode cX11_land 50 = .ok (.if_icmp .ne 20, 3) := by decide +kernel
theorem dX11_land_53 : decode cX11_land 53 = .ok (.iload_n 3, 1) := by decide +kernel
theorem dX11_land_54 : decode cX11_land 54 = .ok (.aload_n 0, 1) := by decide +kernel
theorem dX11_land_55 : decode cX11_land 55 = .ok (.getfield 7, 3) := by decide +kernel
theorem dX11_land_58 : decode cX11_land 58 = .ok (.iconst 3, 1) := by decide +kernel
theorem dX11_land_59 : decode cX11_land 59 = .ok (.iload_n 1, 1) := by decide +kernel
theorem dX11_land_60 : decode cX11_land 60 = .ok (.invokestatic 95, 3) := by decide +kernel
theorem dX11_land_63 : decode cX11_land 63 = .ok (.iaload, 1) := by decide +kernel
theorem dX11_land_64 : decode cX11_land 64 = .ok (.if_icmp .le 6, 3) := by decide +kernel
theorem dX11_land_67 : decode cX11_land 67 = .ok (.bipush (-3), 2) := by decide +kernel
theorem dX11_land_69 : decode cX11_land 69 = .ok (.ireturn, 1) := by decide +kernel
theorem dX11_land_70 : decode cX11_land 70 = .ok (.aload_n 0, 1) := by decide +kernel
theorem dX11_land_71 : decode cX11_land 71 = .ok (.getfield 7, 3) := by decide +kernel
theorem dX11_land_74 : decode cX11_land 74 = .ok (.iload_n 2, 1) := by decide +kernel
theorem dX11_land_75 : decode cX11_land 75 = .ok (.iload_n 1, 1) := by decide +kernel
theorem dX11_land_76 : decode cX11_land 76 = .ok (.invokestatic 95, 3) := by decide +kernel
theorem dX11_land_79 : decode cX11_land 79 = .ok (.iaload, 1) := by decide +kernel
theorem dX11_land_80 : decode cX11_land 80 = .ok (.istore 4, 2) := by decide +kernel
theorem dX11_land_82 : decode cX11_land 82 = .ok (.aload_n 0, 1) := by decide +kernel
theorem dX11_land_83 : decode cX11_land 83 = .ok (.getfield 7, 3) := by decide +kernel
theorem dX11_land_86 : decode cX11_land 86 = .ok (.iload_n 2, 1) := by decide +kernel
theorem dX11_land_87 : decode cX11_land 87 = .ok (.iload_n 1, 1) := by decide +kernel
theorem dX11_land_88 : decode cX11_land 88 = .ok (.invokestatic 95, 3) := by decide +kernel
theorem dX11_land_91 : decode cX11_land 91 = .ok (.iload_n 3, 1) := by decide +kernel
theorem dX11_land_92 : decode cX11_land 92 = .ok (.iastore, 1) := by decide +kernel
theorem dX11_land_93 : decode cX11_land 93 = .ok (.aload_n 0, 1) := by decide +kernel
theorem dX11_land_94 : decode cX11_land 94 = .ok (.getfield 7, 3) := by decide +kernel
theorem dX11_land_97 : decode cX11_land 97 = .ok (.iconst 2, 1) := by decide +kernel
theorem dX11_land_98 : decode cX11_land 98 = .ok (.iload_n 1, 1) := by decide +kernel
theorem dX11_land_99 : decode cX11_land 99 = .ok (.invokestatic 95, 3) := by decide +kernel
theorem dX11_land_102 : decode cX11_land 102 = .ok (.iaload, 1) := by decide +kernel
theorem dX11_land_103 : decode cX11_land 103 = .ok (.aload_n 0, 1) := by decide +kernel
theorem dX11_land_104 : decode cX11_land 104 = .ok (.getfield 7, 3) := by decide +kernel
theorem dX11_land_107 : decode cX11_land 107 = .ok (.iconst 3, 1) := by decide +kernel
theorem dX11_land_108 : decode cX11_land 108 = .ok (.iload_n 1, 1) := by decide +kernel
theorem dX11_land_109 : decode cX11_land 109 = .ok (.invokestatic 95, 3) := by decide +kernel
theorem dX11_land_112 : decode cX11_land 112 = .ok (.iaload, 1) := by decide +kernel
theorem dX11_land_113 : decode cX11_land 113 = .ok (.if_icmp .le 23, 3) := by decide +kernel
theorem dX11_land_116 : decode cX11_land 116 = .ok (.aload_n 0, 1) := by decide +kernel
theorem dX11_land_117 : decode cX11_land 117 = .ok (.getfield 7, 3) := by decide +kernel
theorem dX11_land_120 : decode cX11_land 120 = .ok (.iconst 2, 1) := by decide +kernel
theorem dX11_land_121 : decode cX11_land 121 = .ok (.iload_n 1, 1) := by decide +kernel
theorem dX11_land_122 : decode cX11_land 122 = .ok (.invokestatic 95, 3) := by decide +kernel
theorem dX11_land_125 : decode cX11_land 125 = .ok (.aload_n 0, 1) := by decide +kernel
theorem dX11_land_126 : decode cX11_land 126 = .ok (.getfield 7, 3) := by decide +kernel
theorem dX11_land_129 : decode cX11_land 129 = .ok (.iconst 3, 1) := by decide +kernel
theorem dX11_land_130 : decode cX11_land 130 = .ok (.iload_n 1, 1) := by decide +kernel
theorem dX11_land_131 : decode cX11_land 131 = .ok (.invokestatic 95, 3) := by decide +kernel
theorem dX11_land_134 : decode cX11_land 134 = .ok (.iaload, 1) := by decide +kernel
theorem dX11_land_135 : decode cX11_land 135 = .ok (.iastore, 1) := by decide +kernel
theorem dX11_land_136 : decode cX11_land 136 = .ok (.iload 4, 2) := by decide +kernel
theorem dX11_land_138 : decode cX11_land 138 = .ok (.ireturn, 1) := by decide +kernel
set_option maxRecDepth 20000 in
theorem ggX11_say_X11_in : GoodIn wsX11_say wsX11_in := goodIn_r _ [8] rfl (by decide +kernel)
set_option maxRecDepth 20000 in
theorem gX11_say_X11_in : GoodIn wsX11_say (va_wsS RX11 99 yX11_in wsX11_in) := goodIn_app (goodIn_r _ [5, 6, 7] rfl (by decide +kernel)) ggX11_say_X11_in
theorem dX11_say_0 : decode cX11_say 0 = .ok (.iload_n 1, 1) := by decide +kernel
theorem dX11_say_1 : decode cX11_say 1 = .ok (.i2l, 1) := by decide +kernel
theorem dX11_say_2 : decode cX11_say 2 = .ok (.ldc2_w 135, 3) := by decide +kernel
theorem dX11_say_5 : decode cX11_say 5 = .ok (.ldc2_w 137, 3) := by decide +kernel
theorem dX11_say_8 : decode cX11_say 8 = .ok (.invokestatic 99, 3) := by decide +kernel
theorem dX11_say_11 : decode cX11_say 11 = .ok (.ifCond .ne 6, 3) := by decide +kernel
theorem dX11_say_14 : decode cX11_say 14 = .ok (.bipush (-2), 2) := by decide +kernel
theorem dX11_say_16 : decode cX11_say 16 = .ok (.ireturn, 1) := by decide +kernel
theorem dX11_say_17 : decode cX11_say 17 = .ok (.aload_n 0, 1) := by decide +kernel
theorem dX11_say_18 : decode cX11_say 18 = .ok (.getfield 139, 3) := by decide +kernel
theorem dX11_say_21 : decode cX11_say 21 = .ok (.bipush 60, 2) := by decide +kernel
theorem dX11_say_23 : decode cX11_say 23 = .ok (.if_icmp .ne 6, 3) := by decide +kernel
theorem dX11_say_26 : decode cX11_say 26 = .ok (.bipush (-4), 2) := by decide +kernel
theorem dX11_say_28 : decode cX11_say 28 = .ok (.ireturn, 1) := by decide +kernel
theorem dX11_say_29 : decode cX11_say 29 = .ok (.aload_n 0, 1) := by decide +kernel
theorem dX11_say_30 : decode cX11_say 30 = .ok (.getfield 22, 3) := by decide +kernel
theorem dX11_say_33 : decode cX11_say 33 = .ok (.aload_n 0, 1) := by decide +kernel
theorem dX11_say_34 : decode cX11_say 34 = .ok (.getfield 139, 3) := by decide +kernel
theorem dX11_say_37 : decode cX11_say 37 = .ok (.iload_n 1, 1) := by decide +kernel
theorem dX11_say_38 : decode cX11_say 38 = .ok (.iastore, 1) := by decide +kernel
theorem dX11_say_39 : decode cX11_say 39 = .ok (.aload_n 0, 1) := by decide +kernel
theorem dX11_say_40 : decode cX11_say 40 = .ok (.dup, 1) := by decide +kernel
theorem dX11_say_41 : decode cX11_say 41 = .ok (.getfield 139, 3) := by decide +kernel
theorem dX11_say_44 : decode cX11_say 44 = .ok (.iconst 1, 1) := by decide +kernel
theorem dX11_say_45 : decode cX11_say 45 = .ok (.iadd, 1) := by decide +kernel
theorem dX11_say_46 : decode cX11_say 46 = .ok (.putfield 139, 3) := by decide +kernel
theorem dX11_say_49 : decode cX11_say 49 = .ok (.aload_n 0, 1) := by decide +kernel
theorem dX11_say_50 : decode cX11_say 50 = .ok (.getfield 139, 3) := by decide +kernel
theorem dX11_say_53 : decode cX11_say 53 = .ok (.ireturn, 1) := by decide +kernel
theorem dX11_wipe_0 : decode cX11_wipe 0 = .ok (.aload_n 0, 1) := by decide +kernel
theorem dX11_wipe_1 : decode cX11_wipe 1 = .ok (.getfield 139, 3) := by decide +kernel
theorem dX11_wipe_4 : decode cX11_wipe 4 = .ok (.istore_n 1, 1) := by decide +kernel
theorem dX11_wipe_5 : decode cX11_wipe 5 = .ok (.aload_n 0, 1) := by decide +kernel
theorem dX11_wipe_6 : decode cX11_wipe 6 = .ok (.iconst 0, 1) := by decide +kernel
theorem dX11_wipe_7 : decode cX11_wipe 7 = .ok (.putfield 139, 3) := by decide +kernel
theorem dX11_wipe_10 : decode cX11_wipe 10 = .ok (.iload_n 1, 1) := by decide +kernel
theorem dX11_wipe_11 : decode cX11_wipe 11 = .ok (.ireturn, 1) := by decide +kernel
set_option maxRecDepth 20000 in
theorem ggX11_fault_X11_isLand : GoodIn wsX11_fault wsX11_isLand := goodIn_r _ [14, 15, 16, 17, 13, 18, 19, 20, 21, 22, 23, 24, 25, 26, 27, 28, 29, 30, 31, 32, 33, 34, 35, 36, 37, 38, 39, 40, 41, 42, 43, 44, 45, 46, 47, 48, 49, 50, 51, 52, 53, 54, 55, 56, 57] rfl (by decide +kernel)
set_option maxRecDepth 20000 in
theorem gX11_fault_X11_isLand : GoodIn wsX11_fault (wsV RX11 129 RX11 yX11_isLand wsX11_isLand) := goodIn_app (goodIn_r _ [10, 11, 12, 13] rfl (by decide +kernel)) ggX11_fault_X11_isLand
set_option maxRecDepth 20000 in
theorem ggX11_fault_X11_in : GoodIn wsX11_fault wsX11_in := goodIn_r _ [18] rfl (by decide +kernel)
set_option maxRecDepth 20000 in
theorem gX11_fault_X11_in : GoodIn wsX11_fault (va_wsS RX11 99 yX11_in wsX11_in) := goodIn_app (goodIn_r _ [16, 17, 13] rfl (by decide +kernel)) ggX11_fault_X11_in
theorem dX11_fault_0 : decode cX11_fault 0 = .ok (.aload_n 0, 1) := by decide +kernel
theorem dX11_fault_1 : decode cX11_fault 1 = .ok (.iconst 0, 1) := by decide +kernel
theorem dX11_fault_2 : decode cX11_fault 2 = .ok (.putfield 142, 3) := by decide +kernel
theorem dX11_fault_5 : decode cX11_fault 5 = .ok (.iconst 0, 1) := by decide +kernel
theorem dX11_fault_6 : decode cX11_fault 6 = .ok (.istore_n 1, 1) := by decide +kernel
theorem dX11_fault_7 : decode cX11_fault 7 = .ok (.iconst 0, 1) := by decide +kernel
theorem dX11_fault_8 : decode cX11_fault 8 = .ok (.istore_n 2, 1) := by decide +kernel
theorem dX11_fault_9 : decode cX11_fault 9 = .ok (.iload_n 2, 1) := by decide +kernel
theorem dX11_fault_10 : decode cX11_fault 10 = .ok (.aload_n 0, 1) := by decide +kernel
theorem dX11_fault_11 : decode cX11_fault 11 = .ok (.getfield 139, 3) := by decide +kernel
theorem dX11_fault_14 : decode cX11_fault 14 = .ok (.if_icmp .ge 226, 3) := by decide +kernel
theorem dX11_fault_17 : decode cX11_fault 17 = .ok (.aload_n 0, 1) := by decide +kernel
theorem dX11_fault_18 : decode cX11_fault 18 = .ok (.getfield 22, 3) := by decide +kernel
theorem dX11_fault_21 : decode cX11_fault 21 = .ok (.iload_n 2, 1) := by decide +kernel
theorem dX11_fault_22 : decode cX11_fault 22 = .ok (.iaload, 1) := by decide +kernel
theorem dX11_fault_23 : decode cX11_fault 23 = .ok (.istore_n 3, 1) := by decide +kernel
theorem dX11_fault_24 : decode cX11_fault 24 = .ok (.iload_n 1, 1) := by decide +kernel
theorem dX11_fault_25 : decode cX11_fault 25 = .ok (.ifCond .ne 19, 3) := by decide +kernel
theorem dX11_fault_28 : decode cX11_fault 28 = .ok (.iload_n 3, 1) := by decide +kernel
theorem dX11_fault_29 : decode cX11_fault 29 = .ok (.bipush 46, 2) := by decide +kernel
theorem dX11_fault_31 : decode cX11_fault 31 = .ok (.if_icmp .eq 9, 3) := by decide +kernel
theorem dX11_fault_34 : decode cX11_fault 34 = .ok (.iload_n 3, 1) := by decide +kernel
theorem dX11_fault_35 : decode cX11_fault 35 = .ok (.bipush 58, 2) := by decide +kernel
theorem dX11_fault_37 : decode cX11_fault 37 = .ok (.if_icmp .ne 7, 3) := by decide +kernel
theorem dX11_fault_40 : decode cX11_fault 40 = .ok (.iconst 1, 1) := by decide +kernel
theorem dX11_fault_41 : decode cX11_fault 41 = .ok (.goto 4, 3) := by decide +kernel
theorem dX11_fault_44 : decode cX11_fault 44 = .ok (.iconst 0, 1) := by decide +kernel
theorem dX11_fault_45 : decode cX11_fault 45 = .ok (.istore 4, 2) := by decide +kernel
theorem dX11_fault_47 : decode cX11_fault 47 = .ok (.iload 4, 2) := by decide +kernel
theorem dX11_fault_49 : decode cX11_fault 49 = .ok (.ifCond .ne 36, 3) := by decide +kernel
theorem dX11_fault_52 : decode cX11_fault 52 = .ok (.iload_n 1, 1) := by decide +kernel
theorem dX11_fault_53 : decode cX11_fault 53 = .ok (.iconst 2, 1) := by decide +kernel
theorem dX11_fault_54 : decode cX11_fault 54 = .ok (.if_icmp .ge 17, 3) := by decide +kernel
theorem dX11_fault_57 : decode cX11_fault 57 = .ok (.aload_n 0, 1) := by decide +kernel
theorem dX11_fault_58 : decode cX11_fault 58 = .ok (.iload_n 3, 1) := by decide +kernel
theorem dX11_fault_59 : decode cX11_fault 59 = .ok (.bipush 97, 2) := by decide +kernel
theorem dX11_fault_61 : decode cX11_fault 61 = .ok (.isub, 1) := by decide +kernel
theorem dX11_fault_62 : decode cX11_fault 62 = .ok (.invokevirtual 129, 3) := by decide +kernel
theorem dX11_fault_65 : decode cX11_fault 65 = .ok (.ifCond .eq 24, 3) := by decide +kernel
theorem dX11_fault_68 : decode cX11_fault 68 = .ok (.goto 17, 3) := by decide +kernel
theorem dX11_fault_71 : decode cX11_fault 71 = .ok (.iload_n 3, 1) := by decide +kernel
theorem dX11_fault_72 : decode cX11_fault 72 = .ok (.i2l, 1) := by decide +kernel
theorem dX11_fault_73 : decode cX11_fault 73 = .ok (.ldc2_w 145, 3) := by decide +kernel
theorem dX11_fault_76 : decode cX11_fault 76 = .ok (.ldc2_w 147, 3) := by decide +kernel
theorem dX11_fault_79 : decode cX11_fault 79 = .ok (.invokestatic 99, 3) := by decide +kernel
theorem dX11_fault_82 : decode cX11_fault 82 = .ok (.ifCond .eq 7, 3) := by decide +kernel
theorem dX11_fault_85 : decode cX11_fault 85 = .ok (.iconst 1, 1) := by decide +kernel
theorem dX11_fault_86 : decode cX11_fault 86 = .ok (.goto 4, 3) := by decide +kernel
theorem dX11_fault_89 : decode cX11_fault 89 = .ok (.iconst 0, 1) := by decide +kernel
theorem dX11_fault_90 : decode cX11_fault 90 = .ok (.istore 5, 2) := by decide +kernel
theorem dX11_fault_92 : decode cX11_fault 92 = .ok (.iload 5, 2) := by decide +kernel
theorem dX11_fault_94 : decode cX11_fault 94 = .ok (.ifCond .ne 5, 3) := by decide +kernel
theorem dX11_fault_97 : decode cX11_fault 97 = .ok (.iload_n 2, 1) := by decide +kernel
theorem dX11_fault_98 : decode cX11_fault 98 = .ok (.ireturn, 1) := by decide +kernel
theorem dX11_fault_99 : decode cX11_fault 99 = .ok (.iload 4, 2) := by decide +kernel
theorem dX11_fault_101 : decode cX11_fault 101 = .ok (.ifCond .eq 27, 3) := by decide +kernel
theorem dX11_fault_104 : decode cX11_fault 104 = .ok (.aload_n 0, 1) := by decide +kernel
theorem dX11_fault_105 : decode cX11_fault 105 = .ok (.getfield 25, 3) := by decide +kernel
theorem dX11_fault_108 : decode cX11_fault 108 = .ok (.aload_n 0, 1) := by decide +kernel
theorem dX11_fault_109 : decode cX11_fault 109 = .ok (.getfield 142, 3) := by decide +kernel
theorem dX11_fault_112 : decode cX11_fault 112 = .ok (.iload_n 3, 1) := by decide +kernel
theorem dX11_fault_113 : decode cX11_fault 113 = .ok (.bipush 46, 2) := by decide +kernel
theorem dX11_fault_115 : decode cX11_fault 115 = .ok (.if_icmp .ne 7, 3) := by decide +kernel
theorem dX11_fault_118 : decode cX11_fault 118 = .ok (.iconst 1, 1) := by decide +kernel
theorem dX11_fault_119 : decode cX11_fault 119 = .ok (.goto 5, 3) := by decide +kernel
theorem dX11_fault_122 : decode cX11_fault 122 = .ok (.bipush 10, 2) := by decide +kernel
theorem dX11_fault_124 : decode cX11_fault 124 = .ok (.iastore, 1) := by decide +kernel
theorem dX11_fault_125 : decode cX11_fault 125 = .ok (.goto 67, 3) := by decide +kernel
theorem dX11_fault_128 : decode cX11_fault 128 = .ok (.iload_n 1, 1) := by decide +kernel
theorem dX11_fault_129 : decode cX11_fault 129 = .ok (.ifCond .ne 19, 3) := by decide +kernel
theorem dX11_fault_132 : decode cX11_fault 132 = .ok (.aload_n 0, 1) := by decide +kernel
theorem dX11_fault_133 : decode cX11_fault 133 = .ok (.getfield 28, 3) := by decide +kernel
theorem dX11_fault_136 : decode cX11_fault 136 = .ok (.aload_n 0, 1) := by decide +kernel
theorem dX11_fault_137 : decode cX11_fault 137 = .ok (.getfield 142, 3) := by decide +kernel
theorem dX11_fault_140 : decode cX11_fault 140 = .ok (.iload_n 3, 1) := by decide +kernel
theorem dX11_fault_141 : decode cX11_fault 141 = .ok (.bipush 97, 2) := by decide +kernel
theorem dX11_fault_143 : decode cX11_fault 143 = .ok (.isub, 1) := by decide +kernel
theorem dX11_fault_144 : decode cX11_fault 144 = .ok (.iastore, 1) := by decide +kernel
theorem dX11_fault_145 : decode cX11_fault 145 = .ok (.goto 47, 3) := by decide +kernel
theorem dX11_fault_148 : decode cX11_fault 148 = .ok (.iload_n 1, 1) := by decide +kernel
theorem dX11_fault_149 : decode cX11_fault 149 = .ok (.iconst 1, 1) := by decide +kernel
theorem dX11_fault_150 : decode cX11_fault 150 = .ok (.if_icmp .ne 19, 3) := by decide +kernel
theorem dX11_fault_153 : decode cX11_fault 153 = .ok (.aload_n 0, 1) := by decide +kernel
theorem dX11_fault_154 : decode cX11_fault 154 = .ok (.getfield 31, 3) := by decide +kernel
theorem dX11_fault_157 : decode cX11_fault 157 = .ok (.aload_n 0, 1) := by decide +kernel
theorem dX11_fault_158 : decode cX11_fault 158 = .ok (.getfield 142, 3) := by decide +kernel
theorem dX11_fault_161 : decode cX11_fault 161 = .ok (.iload_n 3, 1) := by decide +kernel
theorem dX11_fault_162 : decode cX11_fault 162 = .ok (.bipush 97, 2) := by decide +kernel
theorem dX11_fault_164 : decode cX11_fault 164 = .ok (.isub, 1) := by decide +kernel
theorem dX11_fault_165 : decode cX11_fault 165 = .ok (.iastore, 1) := by decide +kernel
theorem dX11_fault_166 : decode cX11_fault 166 = .ok (.goto 26, 3) := by decide +kernel
theorem dX11_fault_169 : decode cX11_fault 169 = .ok (.aload_n 0, 1) := by decide +kernel
theorem dX11_fault_170 : decode cX11_fault 170 = .ok (.getfield 25, 3) := by decide +kernel
theorem dX11_fault_173 : decode cX11_fault 173 = .ok (.aload_n 0, 1) := by decide +kernel
theorem dX11_fault_174 : decode cX11_fault 174 = .ok (.getfield 142, 3) := by decide +kernel
theorem dX11_fault_177 : decode cX11_fault 177 = .ok (.iconst 0, 1) := by decide +kernel
theorem dX11_fault_178 : decode cX11_fault 178 = .ok (.iastore, 1) := by decide +kernel
theorem dX11_fault_179 : decode cX11_fault 179 = .ok (.aload_n 0, 1) := by decide +kernel
theorem dX11_fault_180 : decode cX11_fault 180 = .ok (.getfield 34, 3) := by decide +kernel
theorem dX11_fault_183 : decode cX11_fault 183 = .ok (.aload_n 0, 1) := by decide +kernel
theorem dX11_fault_184 : decode cX11_fault 184 = .ok (.getfield 142, 3) := by decide +kernel
theorem dX11_fault_187 : decode cX11_fault 187 = .ok (.iload_n 3, 1) := by decide +kernel
theorem dX11_fault_188 : decode cX11_fault 188 = .ok (.bipush 48, 2) := by decide +kernel
theorem dX11_fault_190 : decode cX11_fault 190 = .ok (.isub, 1) := by decide +kernel
theorem dX11_fault_191 : decode cX11_fault 191 = .ok (.iastore, 1) := by decide +kernel
theorem dX11_fault_192 : decode cX11_fault 192 = .ok (.aload_n 0, 1) := by decide +kernel
theorem dX11_fault_193 : decode cX11_fault 193 = .ok (.dup, 1) := by decide +kernel
theorem dX11_fault_194 : decode cX11_fault 194 = .ok (.getfield 142, 3) := by decide +kernel
theorem dX11_fault_197 : decode cX11_fault 197 = .ok (.iload 4, 2) := by decide +kernel
theorem dX11_fault_199 : decode cX11_fault 199 = .ok (.ifCond .ne 8, 3) := by decide +kernel
theorem dX11_fault_202 : decode cX11_fault 202 = .ok (.iload_n 1, 1) := by decide +kernel
theorem dX11_fault_203 : decode cX11_fault 203 = .ok (.iconst 2, 1) := by decide +kernel
theorem dX11_fault_204 : decode cX11_fault 204 = .ok (.if_icmp .ne 7, 3) := by decide +kernel
theorem dX11_fault_207 : decode cX11_fault 207 = .ok (.iconst 1, 1) := by decide +kernel
theorem dX11_fault_208 : decode cX11_fault 208 = .ok (.goto 4, 3) := by decide +kernel
theorem dX11_fault_211 : decode cX11_fault 211 = .ok (.iconst 0, 1) := by decide +kernel
theorem dX11_fault_212 : decode cX11_fault 212 = .ok (.iadd, 1) := by decide +kernel
theorem dX11_fault_213 : decode cX11_fault 213 = .ok (.putfield 142, 3) := by decide +kernel
theorem dX11_fault_216 : decode cX11_fault 216 = .ok (.iload 4, 2) := by decide +kernel
theorem dX11_fault_218 : decode cX11_fault 218 = .ok (.ifCond .ne 8, 3) := by decide +kernel
theorem dX11_fault_221 : decode cX11_fault 221 = .ok (.iload_n 1, 1) := by decide +kernel
theorem dX11_fault_222 : decode cX11_fault 222 = .ok (.iconst 2, 1) := by decide +kernel
theorem dX11_fault_223 : decode cX11_fault 223 = .ok (.if_icmp .ne 7, 3) := by decide +kernel
theorem dX11_fault_226 : decode cX11_fault 226 = .ok (.iconst 0, 1) := by decide +kernel
theorem dX11_fault_227 : decode cX11_fault 227 = .ok (.goto 6, 3) := by decide +kernel
theorem dX11_fault_230 : decode cX11_fault 230 = .ok (.iload_n 1, 1) := by decide +kernel
theorem dX11_fault_231 : decode cX11_fault 231 = .ok (.iconst 1, 1) := by decide +kernel
theorem dX11_fault_232 : decode cX11_fault 232 = .ok (.iadd, 1) := by decide +kernel
theorem dX11_fault_233 : decode cX11_fault 233 = .ok (.istore_n 1, 1) := by decide +kernel
theorem dX11_fault_234 : decode cX11_fault 234 = .ok (.iinc 2 1, 3) := by decide +kernel
theorem dX11_fault_237 : decode cX11_fault 237 = .ok (.goto (-228), 3) := by decide +kernel
theorem dX11_fault_240 : decode cX11_fault 240 = .ok (.iload_n 1, 1) := by decide +kernel
theorem dX11_fault_241 : decode cX11_fault 241 = .ok (.ifCond .ne 8, 3) := by decide +kernel
theorem dX11_fault_244 : decode cX11_fault 244 = .ok (.bipush (-6), 2) := by decide +kernel
theorem dX11_fault_246 : decode cX11_fault 246 = .ok (.goto 7, 3) := by decide +kernel
theorem dX11_fault_249 : decode cX11_fault 249 = .ok (.aload_n 0, 1) := by decide +kernel
theorem dX11_fault_250 : decode cX11_fault 250 = .ok (.getfield 139, 3) := by decide +kernel
theorem dX11_fault_253 : decode cX11_fault 253 = .ok (.ireturn, 1) := by decide +kernel
theorem dX11_firstCovered_0 : decode cX11_firstCovered 0 = .ok (.iload_n 0, 1) := by decide +kernel
theorem dX11_firstCovered_1 : decode cX11_firstCovered 1 = .ok (.iload_n 1, 1) := by decide +kernel
theorem dX11_firstCovered_2 : decode cX11_firstCovered 2 = .ok (.isub, 1) := by decide +kernel
theorem dX11_firstCovered_3 : decode cX11_firstCovered 3 = .ok (.istore 5, 2) := by decide +kernel
theorem dX11_firstCovered_5 : decode cX11_firstCovered 5 = .ok (.iload 4, 2) := by decide +kernel
theorem dX11_firstCovered_7 : decode cX11_firstCovered 7 = .ok (.iload_n 3, 1) := by decide +kernel
theorem dX11_firstCovered_8 : decode cX11_firstCovered 8 = .ok (.iadd, 1) := by decide +kernel
theorem dX11_firstCovered_9 : decode cX11_firstCovered 9 = .ok (.iload_n 2, 1) := by decide +kernel
theorem dX11_firstCovered_10 : decode cX11_firstCovered 10 = .ok (.idiv, 1) := by decide +kernel
theorem dX11_firstCovered_11 : decode cX11_firstCovered 11 = .ok (.iconst 2, 1) := by decide +kernel
theorem dX11_firstCovered_12 : decode cX11_firstCovered 12 = .ok (.iload 5, 2) := by decide +kernel
theorem dX11_firstCovered_14 : decode cX11_firstCovered 14 = .ok (.imul, 1) := by decide +kernel
theorem dX11_firstCovered_15 : decode cX11_firstCovered 15 = .ok (.irem, 1) := by decide +kernel
theorem dX11_firstCovered_16 : decode cX11_firstCovered 16 = .ok (.istore 6, 2) := by decide +kernel
theorem dX11_firstCovered_18 : decode cX11_firstCovered 18 = .ok (.iload 6, 2) := by decide +kernel
theorem dX11_firstCovered_20 : decode cX11_firstCovered 20 = .ok (.iload 5, 2) := by decide +kernel
theorem dX11_firstCovered_22 : decode cX11_firstCovered 22 = .ok (.if_icmp .le 13, 3) := by decide +kernel
theorem dX11_firstCovered_25 : decode cX11_firstCovered 25 = .ok (.iconst 2, 1) := by decide +kernel
theorem dX11_firstCovered_26 : decode cX11_firstCovered 26 = .ok (.iload 5, 2) := by decide +kernel
theorem dX11_firstCovered_28 : decode cX11_firstCovered 28 = .ok (.imul, 1) := by decide +kernel
theorem dX11_firstCovered_29 : decode cX11_firstCovered 29 = .ok (.iload 6, 2) := by decide +kernel
theorem dX11_firstCovered_31 : decode cX11_firstCovered 31 = .ok (.isub, 1) := by decide +kernel
theorem dX11_firstCovered_32 : decode cX11_firstCovered 32 = .ok (.goto 5, 3) := by decide +kernel
theorem dX11_firstCovered_35 : decode cX11_firstCovered 35 = .ok (.iload 6, 2) := by decide +kernel
theorem dX11_firstCovered_37 : decode cX11_firstCovered 37 = .ok (.ireturn, 1) := by decide +kernel
set_option maxRecDepth 20000 in
theorem ggX11_isCovered_X11_firstCovered : GoodIn wsX11_isCovered wsX11_firstCovered := goodIn_r _ [8] rfl (by decide +kernel)
set_option maxRecDepth 20000 in
theorem gX11_isCovered_X11_firstCovered : GoodIn wsX11_isCovered (va_wsS RX11 149 yX11_firstCovered wsX11_firstCovered) := goodIn_app (goodIn_r _ [5, 6, 7] rfl (by decide +kernel)) ggX11_isCovered_X11_firstCovered
theorem dX11_isCovered_0 : decode cX11_isCovered 0 = .ok (.aload_n 0, 1) := by decide +kernel
theorem dX11_isCovered_1 : decode cX11_isCovered 1 = .ok (.getfield 83, 3) := by decide +kernel
theorem dX11_isCovered_4 : decode cX11_isCovered 4 = .ok (.aload_n 0, 1) := by decide +kernel
theorem dX11_isCovered_5 : decode cX11_isCovered 5 = .ok (.getfield 86, 3) := by decide +kernel
theorem dX11_isCovered_8 : decode cX11_isCovered 8 = .ok (.aload_n 0, 1) := by decide +kernel
theorem dX11_isCovered_9 : decode cX11_isCovered 9 = .ok (.getfield 69, 3) := by decide +kernel
theorem dX11_isCovered_12 : decode cX11_isCovered 12 = .ok (.aload_n 0, 1) := by decide +kernel
theorem dX11_isCovered_13 : decode cX11_isCovered 13 = .ok (.getfield 115, 3) := by decide +kernel
theorem dX11_isCovered_16 : decode cX11_isCovered 16 = .ok (.iload_n 2, 1) := by decide +kernel
theorem dX11_isCovered_17 : decode cX11_isCovered 17 = .ok (.invokestatic 149, 3) := by decide +kernel
theorem dX11_isCovered_20 : decode cX11_isCovered 20 = .ok (.istore_n 3, 1) := by decide +kernel
theorem dX11_isCovered_21 : decode cX11_isCovered 21 = .ok (.iload_n 1, 1) := by decide +kernel
theorem dX11_isCovered_22 : decode cX11_isCovered 22 = .ok (.iload_n 3, 1) := by decide +kernel
theorem dX11_isCovered_23 : decode cX11_isCovered 23 = .ok (.if_icmp .lt 17, 3) := by decide +kernel
theorem dX11_isCovered_26 : decode cX11_isCovered 26 = .ok (.iload_n 1, 1) := by decide +kernel
theorem dX11_isCovered_27 : decode cX11_isCovered 27 = .ok (.iload_n 3, 1) := by decide +kernel
theorem dX11_isCovered_28 : decode cX11_isCovered 28 = .ok (.aload_n 0, 1) := by decide +kernel
theorem dX11_isCovered_29 : decode cX11_isCovered 29 = .ok (.getfield 86, 3) := by decide +kernel
theorem dX11_isCovered_32 : decode cX11_isCovered 32 = .ok (.iadd, 1) := by decide +kernel
theorem dX11_isCovered_33 : decode cX11_isCovered 33 = .ok (.if_icmp .ge 7, 3) := by decide +kernel
theorem dX11_isCovered_36 : decode cX11_isCovered 36 = .ok (.iconst 1, 1) := by decide +kernel
theorem dX11_isCovered_37 : decode cX11_isCovered 37 = .ok (.goto 4, 3) := by decide +kernel
theorem dX11_isCovered_40 : decode cX11_isCovered 40 = .ok (.iconst 0, 1) := by decide +kernel
theorem dX11_isCovered_41 : decode cX11_isCovered 41 = .ok (.ireturn, 1) := by decide +kernel
theorem dX11_isSlit_0 : decode cX11_isSlit 0 = .ok (.aload_n 0, 1) := by decide +kernel
theorem dX11_isSlit_1 : decode cX11_isSlit 1 = .ok (.getfield 118, 3) := by decide +kernel
theorem dX11_isSlit_4 : decode cX11_isSlit 4 = .ok (.ifCond .le 35, 3) := by decide +kernel
theorem dX11_isSlit_7 : decode cX11_isSlit 7 = .ok (.iload_n 2, 1) := by decide +kernel
theorem dX11_isSlit_8 : decode cX11_isSlit 8 = .ok (.i2l, 1) := by decide +kernel
theorem dX11_isSlit_9 : decode cX11_isSlit 9 = .ok (.aload_n 0, 1) := by decide +kernel
theorem dX11_isSlit_10 : decode cX11_isSlit 10 = .ok (.getfield 73, 3) := by decide +kernel
theorem dX11_isSlit_13 : decode cX11_isSlit 13 = .ok (.i2l, 1) := by decide +kernel
theorem dX11_isSlit_14 : decode cX11_isSlit 14 = .ok (.lmul, 1) := by decide +kernel
theorem dX11_isSlit_15 : decode cX11_isSlit 15 = .ok (.iload_n 1, 1) := by decide +kernel
theorem dX11_isSlit_16 : decode cX11_isSlit 16 = .ok (.i2l, 1) := by decide +kernel
theorem dX11_isSlit_17 : decode cX11_isSlit 17 = .ok (.aload_n 0, 1) := by decide +kernel
theorem dX11_isSlit_18 : decode cX11_isSlit 18 = .ok (.getfield 76, 3) := by decide +kernel
theorem dX11_isSlit_21 : decode cX11_isSlit 21 = .ok (.i2l, 1) := by decide +kernel
theorem dX11_isSlit_22 : decode cX11_isSlit 22 = .ok (.lmul, 1) := by decide +kernel
theorem dX11_isSlit_23 : decode cX11_isSlit 23 = .ok (.ladd, 1) := by decide +kernel
theorem dX11_isSlit_24 : decode cX11_isSlit 24 = .ok (.aload_n 0, 1) := by decide +kernel
theorem dX11_isSlit_25 : decode cX11_isSlit 25 = .ok (.getfield 118, 3) := by decide +kernel
theorem dX11_isSlit_28 : decode cX11_isSlit 28 = .ok (.i2l, 1) := by decide +kernel
theorem dX11_isSlit_29 : decode cX11_isSlit 29 = .ok (.lrem, 1) := by decide +kernel
theorem dX11_isSlit_30 : decode cX11_isSlit 30 = .ok (.lconst 0, 1) := by decide +kernel
theorem dX11_isSlit_31 : decode cX11_isSlit 31 = .ok (.lcmp, 1) := by decide +kernel
theorem dX11_isSlit_32 : decode cX11_isSlit 32 = .ok (.ifCond .ne 7, 3) := by decide +kernel
theorem dX11_isSlit_35 : decode cX11_isSlit 35 = .ok (.iconst 1, 1) := by decide +kernel
theorem dX11_isSlit_36 : decode cX11_isSlit 36 = .ok (.goto 4, 3) := by decide +kernel
theorem dX11_isSlit_39 : decode cX11_isSlit 39 = .ok (.iconst 0, 1) := by decide +kernel
theorem dX11_isSlit_40 : decode cX11_isSlit 40 = .ok (.ireturn, 1) := by decide +kernel
set_option maxRecDepth 20000 in
theorem ggX11_isLit_X11_isCovered : GoodIn wsX11_isLit wsX11_isCovered := goodIn_r _ [5, 6, 7, 8, 9, 10, 11, 4, 12, 20, 21, 22, 23, 24, 25, 26, 27, 28, 29, 30, 31, 32, 33, 34, 35, 36, 37, 38, 39, 40, 41, 42, 43, 44, 45, 46, 47, 48, 49, 50, 51, 52, 53, 54, 55, 56, 57, 58] rfl (by decide +kernel)
set_option maxRecDepth 20000 in
theorem gX11_isLit_X11_isCovered : GoodIn wsX11_isLit (wsV RX11 153 RX11 yX11_isCovered wsX11_isCovered) := goodIn_app (goodIn_r _ [1, 2, 3, 4] rfl (by decide +kernel)) ggX11_isLit_X11_isCovered
set_option maxRecDepth 20000 in
theorem ggX11_isLit_X11_isSlit : GoodIn wsX11_isLit wsX11_isSlit := goodIn_r _ [16, 17, 18, 19, 20, 21, 22, 23, 24, 25, 26, 27, 28, 29, 30, 31, 32, 33, 34, 35, 36, 37, 38, 39, 40, 41, 42, 43, 44, 45, 46, 47, 48, 49, 50, 51, 52, 53, 54, 55, 56, 57, 58] rfl (by decide +kernel)
set_option maxRecDepth 20000 in
theorem gX11_isLit_X11_isSlit : GoodIn wsX11_isLit (wsV RX11 156 RX11 yX11_isSlit wsX11_isSlit) := goodIn_app (goodIn_r _ [13, 14, 15, 4] rfl (by decide +kernel)) ggX11_isLit_X11_isSlit
theorem dX11_isLit_0 : decode cX11_isLit 0 = .ok (.aload_n 0, 1) := by decide +kernel
theorem dX11_isLit_1 : decode cX11_isLit 1 = .ok (.iload_n 1, 1) := by decide +kernel
theorem dX11_isLit_2 : decode cX11_isLit 2 = .ok (.iload_n 2, 1) := by decide +kernel
theorem dX11_isLit_3 : decode cX11_isLit 3 = .ok (.invokevirtual 153, 3) := by decide +kernel
theorem dX11_isLit_6 : decode cX11_isLit 6 = .ok (.ifCond .eq 12, 3) := by decide +kernel
theorem dX11_isLit_9 : decode cX11_isLit 9 = .ok (.aload_n 0, 1) := by decide +kernel
theorem dX11_isLit_10 : decode cX11_isLit 10 = .ok (.iload_n 1, 1) := by decide +kernel
theorem dX11_isLit_11 : decode cX11_isLit 11 = .ok (.iload_n 2, 1) := by decide +kernel
theorem dX11_isLit_12 : decode cX11_isLit 12 = .ok (.invokevirtual 156, 3) := by decide +kernel
theorem dX11_isLit_15 : decode cX11_isLit 15 = .ok (.ifCond .eq 7, 3) := by decide +kernel
theorem dX11_isLit_18 : decode cX11_isLit 18 = .ok (.iconst 1, 1) := by decide +kernel
theorem dX11_isLit_19 : decode cX11_isLit 19 = .ok (.goto 4, 3) := by decide +kernel
theorem dX11_isLit_22 : decode cX11_isLit 22 = .ok (.iconst 0, 1) := by decide +kernel
theorem dX11_isLit_23 : decode cX11_isLit 23 = .ok (.ireturn, 1) := by decide +kernel
set_option maxRecDepth 20000 in
theorem ggX11_eats_X11_at : GoodIn wsX11_eats wsX11_at := goodIn_r _ [5] rfl (by decide +kernel)
set_option maxRecDepth 20000 in
theorem gX11_eats_X11_at : GoodIn wsX11_eats (va_wsS RX11 95 yX11_at wsX11_at) := goodIn_app (goodIn_r _ [2, 3, 4] rfl (by decide +kernel)) ggX11_eats_X11_at
theorem dX11_eats_0 : decode cX11_eats 0 = .ok (.aload_n 0, 1) := by decide +kernel
theorem dX11_eats_1 : decode cX11_eats 1 = .ok (.getfield 7, 3) := by decide +kernel
theorem dX11_eats_4 : decode cX11_eats 4 = .ok (.iconst 2, 1) := by decide +kernel
theorem dX11_eats_5 : decode cX11_eats 5 = .ok (.iload_n 1, 1) := by decide +kernel
theorem dX11_eats_6 : decode cX11_eats 6 = .ok (.invokestatic 95, 3) := by decide +kernel
theorem dX11_eats_9 : decode cX11_eats 9 = .ok (.iaload, 1) := by decide +kernel
theorem dX11_eats_10 : decode cX11_eats 10 = .ok (.iload_n 2, 1) := by decide +kernel
theorem dX11_eats_11 : decode cX11_eats 11 = .ok (.ifCond .eq 16, 3) := by decide +kernel
theorem dX11_eats_14 : decode cX11_eats 14 = .ok (.aload_n 0, 1) := by decide +kernel
theorem dX11_eats_15 : decode cX11_eats 15 = .ok (.getfield 7, 3) := by decide +kernel
theorem dX11_eats_18 : decode cX11_eats 18 = .ok (.iconst 0, 1) := by decide +kernel
theorem dX11_eats_19 : decode cX11_eats 19 = .ok (.iload_n 1, 1) := by decide +kernel
theorem dX11_eats_20 : decode cX11_eats 20 = .ok (.invokestatic 95, 3) := by decide +kernel
theorem dX11_eats_23 : decode cX11_eats 23 = .ok (.iaload, 1) := by decide +kernel
theorem dX11_eats_24 : decode cX11_eats 24 = .ok (.goto 4, 3) := by decide +kernel
theorem dX11_eats_27 : decode cX11_eats 27 = .ok (.iconst 0, 1) := by decide +kernel
theorem dX11_eats_28 : decode cX11_eats 28 = .ok (.iadd, 1) := by decide +kernel
theorem dX11_eats_29 : decode cX11_eats 29 = .ok (.istore_n 3, 1) := by decide +kernel
theorem dX11_eats_30 : decode cX11_eats 30 = .ok (.aload_n 0, 1) := by decide +kernel
theorem dX11_eats_31 : decode cX11_eats 31 = .ok (.getfield 7, 3) := by decide +kernel
theorem dX11_eats_34 : decode cX11_eats 34 = .ok (.iconst 1, 1) := by decide +kernel
theorem dX11_eats_35 : decode cX11_eats 35 = .ok (.iload_n 1, 1) := by decide +kernel
theorem dX11_eats_36 : decode cX11_eats 36 = .ok (.invokestatic 95, 3) := by decide +kernel
theorem dX11_eats_39 : decode cX11_eats 39 = .ok (.iaload, 1) := by decide +kernel
theorem dX11_eats_40 : decode cX11_eats 40 = .ok (.istore 4, 2) := by decide +kernel
theorem dX11_eats_42 : decode cX11_eats 42 = .ok (.iload_n 3, 1) := by decide +kernel
theorem dX11_eats_43 : decode cX11_eats 43 = .ok (.iload 4, 2) := by decide +kernel
theorem dX11_eats_45 : decode cX11_eats 45 = .ok (.if_icmp .ge 7, 3) := by decide +kernel
theorem dX11_eats_48 : decode cX11_eats 48 = .ok (.iconst 1, 1) := by decide +kernel
theorem dX11_eats_49 : decode cX11_eats 49 = .ok (.goto 4, 3) := by decide +kernel
theorem dX11_eats_52 : decode cX11_eats 52 = .ok (.iconst 0, 1) := by decide +kernel
theorem dX11_eats_53 : decode cX11_eats 53 = .ok (.istore 5, 2) := by decide +kernel
