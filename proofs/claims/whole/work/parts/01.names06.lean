theorem dX11_eats_55 : decode cX11_eats 55 = .ok (.iload 5, 2) := by decide +kernel
theorem dX11_eats_57 : decode cX11_eats 57 = .ok (.ifCond .eq 7, 3) := by decide +kernel
theorem dX11_eats_60 : decode cX11_eats 60 = .ok (.iconst 0, 1) := by decide +kernel
theorem dX11_eats_61 : decode cX11_eats 61 = .ok (.goto 7, 3) := by decide +kernel
theorem dX11_eats_64 : decode cX11_eats 64 = .ok (.iload_n 3, 1) := by decide +kernel
theorem dX11_eats_65 : decode cX11_eats 65 = .ok (.iload 4, 2) := by decide +kernel
theorem dX11_eats_67 : decode cX11_eats 67 = .ok (.isub, 1) := by decide +kernel
theorem dX11_eats_68 : decode cX11_eats 68 = .ok (.istore 6, 2) := by decide +kernel
theorem dX11_eats_70 : decode cX11_eats 70 = .ok (.aload_n 0, 1) := by decide +kernel
theorem dX11_eats_71 : decode cX11_eats 71 = .ok (.getfield 7, 3) := by decide +kernel
theorem dX11_eats_74 : decode cX11_eats 74 = .ok (.iconst 2, 1) := by decide +kernel
theorem dX11_eats_75 : decode cX11_eats 75 = .ok (.iload_n 1, 1) := by decide +kernel
theorem dX11_eats_76 : decode cX11_eats 76 = .ok (.invokestatic 95, 3) := by decide +kernel
theorem dX11_eats_79 : decode cX11_eats 79 = .ok (.iload 6, 2) := by decide +kernel
theorem dX11_eats_81 : decode cX11_eats 81 = .ok (.aload_n 0, 1) := by decide +kernel
theorem dX11_eats_82 : decode cX11_eats 82 = .ok (.getfield 7, 3) := by decide +kernel
theorem dX11_eats_85 : decode cX11_eats 85 = .ok (.iconst 3, 1) := by decide +kernel
theorem dX11_eats_86 : decode cX11_eats 86 = .ok (.iload_n 1, 1) := by decide +kernel
theorem dX11_eats_87 : decode cX11_eats 87 = .ok (.invokestatic 95, 3) := by decide +kernel
theorem dX11_eats_90 : decode cX11_eats 90 = .ok (.iaload, 1) := by decide +kernel
theorem dX11_eats_91 : decode cX11_eats 91 = .ok (.if_icmp .le 16, 3) := by decide +kernel
theorem dX11_eats_94 : decode cX11_eats 94 = .ok (.aload_n 0, 1) := by decide +kernel
theorem dX11_eats_95 : decode cX11_eats 95 = .ok (.getfield 7, 3) := by decide +kernel
theorem dX11_eats_98 : decode cX11_eats 98 = .ok (.iconst 3, 1) := by decide +kernel
theorem dX11_eats_99 : decode cX11_eats 99 = .ok (.iload_n 1, 1) := by decide +kernel
theorem dX11_eats_100 : decode cX11_eats 100 = .ok (.invokestatic 95, 3) := by decide +kernel
theorem dX11_eats_103 : decode cX11_eats 103 = .ok (.iaload, 1) := by decide +kernel
theorem dX11_eats_104 : decode cX11_eats 104 = .ok (.goto 5, 3) := by decide +kernel
theorem dX11_eats_107 : decode cX11_eats 107 = .ok (.iload 6, 2) := by decide +kernel
theorem dX11_eats_109 : decode cX11_eats 109 = .ok (.iastore, 1) := by decide +kernel
theorem dX11_eats_110 : decode cX11_eats 110 = .ok (.iload 5, 2) := by decide +kernel
theorem dX11_eats_112 : decode cX11_eats 112 = .ok (.ireturn, 1) := by decide +kernel
set_option maxRecDepth 20000 in
theorem ggX11_passYear_X11_isLit : GoodIn wsX11_passYear wsX11_isLit := goodIn_r _ [9, 10, 11, 12, 8, 13, 1, 14, 15, 16, 17, 18, 19, 20, 21, 22, 23, 24, 25, 26, 35, 36, 37, 38, 39, 40, 41, 42, 43, 44, 45, 46, 47, 48, 49, 50, 51, 52, 53, 54, 55, 56, 57, 58, 59, 60, 61, 62, 63, 64, 65, 66, 67, 68, 69, 70, 71, 72, 73] rfl (by decide +kernel)
set_option maxRecDepth 20000 in
theorem gX11_passYear_X11_isLit : GoodIn wsX11_passYear (wsV RX11 159 RX11 yX11_isLit wsX11_isLit) := goodIn_app (goodIn_r _ [5, 6, 7, 8] rfl (by decide +kernel)) ggX11_passYear_X11_isLit
set_option maxRecDepth 20000 in
theorem ggX11_passYear_X11_eats : GoodIn wsX11_passYear wsX11_eats := goodIn_r _ [30, 31, 32, 33, 8, 34, 35, 36, 37, 38, 39, 40, 41, 42, 43, 44, 45, 46, 47, 48, 49, 50, 51, 52, 53, 54, 55, 56, 57, 58, 59, 60, 61, 62, 63, 64, 65, 66, 67, 68, 69, 70, 71, 72, 73] rfl (by decide +kernel)
set_option maxRecDepth 20000 in
theorem gX11_passYear_X11_eats : GoodIn wsX11_passYear (wsV RX11 162 RX11 yX11_eats wsX11_eats) := goodIn_app (goodIn_r _ [27, 28, 29, 8] rfl (by decide +kernel)) ggX11_passYear_X11_eats
theorem dX11_passYear_0 : decode cX11_passYear 0 = .ok (.iconst 0, 1) := by decide +kernel
theorem dX11_passYear_1 : decode cX11_passYear 1 = .ok (.istore_n 1, 1) := by decide +kernel
theorem dX11_passYear_2 : decode cX11_passYear 2 = .ok (.iconst 0, 1) := by decide +kernel
theorem dX11_passYear_3 : decode cX11_passYear 3 = .ok (.istore_n 2, 1) := by decide +kernel
theorem dX11_passYear_4 : decode cX11_passYear 4 = .ok (.iload_n 2, 1) := by decide +kernel
theorem dX11_passYear_5 : decode cX11_passYear 5 = .ok (.aload_n 0, 1) := by decide +kernel
theorem dX11_passYear_6 : decode cX11_passYear 6 = .ok (.getfield 83, 3) := by decide +kernel
theorem dX11_passYear_9 : decode cX11_passYear 9 = .ok (.if_icmp .ge 74, 3) := by decide +kernel
theorem dX11_passYear_12 : decode cX11_passYear 12 = .ok (.aload_n 0, 1) := by decide +kernel
theorem dX11_passYear_13 : decode cX11_passYear 13 = .ok (.iload_n 2, 1) := by decide +kernel
theorem dX11_passYear_14 : decode cX11_passYear 14 = .ok (.aload_n 0, 1) := by decide +kernel
theorem dX11_passYear_15 : decode cX11_passYear 15 = .ok (.iload_n 2, 1) := by decide +kernel
theorem dX11_passYear_16 : decode cX11_passYear 16 = .ok (.aload_n 0, 1) := by decide +kernel
theorem dX11_passYear_17 : decode cX11_passYear 17 = .ok (.getfield 89, 3) := by decide +kernel
theorem dX11_passYear_20 : decode cX11_passYear 20 = .ok (.invokevirtual 159, 3) := by decide +kernel
theorem dX11_passYear_23 : decode cX11_passYear 23 = .ok (.invokevirtual 162, 3) := by decide +kernel
theorem dX11_passYear_26 : decode cX11_passYear 26 = .ok (.istore_n 3, 1) := by decide +kernel
theorem dX11_passYear_27 : decode cX11_passYear 27 = .ok (.aload_n 0, 1) := by decide +kernel
theorem dX11_passYear_28 : decode cX11_passYear 28 = .ok (.dup, 1) := by decide +kernel
theorem dX11_passYear_29 : decode cX11_passYear 29 = .ok (.getfield 166, 3) := by decide +kernel
theorem dX11_passYear_32 : decode cX11_passYear 32 = .ok (.iload_n 3, 1) := by decide +kernel
theorem dX11_passYear_33 : decode cX11_passYear 33 = .ok (.ifCond .eq 7, 3) := by decide +kernel
theorem dX11_passYear_36 : decode cX11_passYear 36 = .ok (.iconst 1, 1) := by decide +kernel
theorem dX11_passYear_37 : decode cX11_passYear 37 = .ok (.goto 4, 3) := by decide +kernel
theorem dX11_passYear_40 : decode cX11_passYear 40 = .ok (.iconst 0, 1) := by decide +kernel
theorem dX11_passYear_41 : decode cX11_passYear 41 = .ok (.iadd, 1) := by decide +kernel
theorem dX11_passYear_42 : decode cX11_passYear 42 = .ok (.putfield 166, 3) := by decide +kernel
theorem dX11_passYear_45 : decode cX11_passYear 45 = .ok (.aload_n 0, 1) := by decide +kernel
theorem dX11_passYear_46 : decode cX11_passYear 46 = .ok (.getfield 37, 3) := by decide +kernel
theorem dX11_passYear_49 : decode cX11_passYear 49 = .ok (.iload_n 2, 1) := by decide +kernel
theorem dX11_passYear_50 : decode cX11_passYear 50 = .ok (.dup2, 1) := by decide +kernel
theorem dX11_passYear_51 : decode cX11_passYear 51 = .ok (.iaload, 1) := by decide +kernel
theorem dX11_passYear_52 : decode cX11_passYear 52 = .ok (.iload_n 3, 1) := by decide +kernel
theorem dX11_passYear_53 : decode cX11_passYear 53 = .ok (.ifCond .eq 7, 3) := by decide +kernel
theorem dX11_passYear_56 : decode cX11_passYear 56 = .ok (.iconst 1, 1) := by decide +kernel
theorem dX11_passYear_57 : decode cX11_passYear 57 = .ok (.goto 4, 3) := by decide +kernel
theorem dX11_passYear_60 : decode cX11_passYear 60 = .ok (.iconst 0, 1) := by decide +kernel
theorem dX11_passYear_61 : decode cX11_passYear 61 = .ok (.iadd, 1) := by decide +kernel
theorem dX11_passYear_62 : decode cX11_passYear 62 = .ok (.iastore, 1) := by decide +kernel
theorem dX11_passYear_63 : decode cX11_passYear 63 = .ok (.iload_n 1, 1) := by decide +kernel
theorem dX11_passYear_64 : decode cX11_passYear 64 = .ok (.ifCond .ne 7, 3) := by decide +kernel
theorem dX11_passYear_67 : decode cX11_passYear 67 = .ok (.iload_n 3, 1) := by decide +kernel
theorem dX11_passYear_68 : decode cX11_passYear 68 = .ok (.ifCond .eq 7, 3) := by decide +kernel
theorem dX11_passYear_71 : decode cX11_passYear 71 = .ok (.iconst 1, 1) := by decide +kernel
theorem dX11_passYear_72 : decode cX11_passYear 72 = .ok (.goto 4, 3) := by decide +kernel
theorem dX11_passYear_75 : decode cX11_passYear 75 = .ok (.iconst 0, 1) := by decide +kernel
theorem dX11_passYear_76 : decode cX11_passYear 76 = .ok (.istore_n 1, 1) := by decide +kernel
theorem dX11_passYear_77 : decode cX11_passYear 77 = .ok (.iinc 2 1, 3) := by decide +kernel
theorem dX11_passYear_80 : decode cX11_passYear 80 = .ok (.goto (-76), 3) := by decide +kernel
theorem dX11_passYear_83 : decode cX11_passYear 83 = .ok (.aload_n 0, 1) := by decide +kernel
theorem dX11_passYear_84 : decode cX11_passYear 84 = .ok (.dup, 1) := by decide +kernel
theorem dX11_passYear_85 : decode cX11_passYear 85 = .ok (.getfield 89, 3) := by decide +kernel
theorem dX11_passYear_88 : decode cX11_passYear 88 = .ok (.iconst 1, 1) := by decide +kernel
theorem dX11_passYear_89 : decode cX11_passYear 89 = .ok (.iadd, 1) := by decide +kernel
theorem dX11_passYear_90 : decode cX11_passYear 90 = .ok (.putfield 89, 3) := by decide +kernel
theorem dX11_passYear_93 : decode cX11_passYear 93 = .ok (.iload_n 1, 1) := by decide +kernel
theorem dX11_passYear_94 : decode cX11_passYear 94 = .ok (.ireturn, 1) := by decide +kernel
set_option maxRecDepth 20000 in
theorem ggX11_keepNow_X11_at : GoodIn wsX11_keepNow wsX11_at := goodIn_r _ [10] rfl (by decide +kernel)
set_option maxRecDepth 20000 in
theorem gX11_keepNow_X11_at : GoodIn wsX11_keepNow (va_wsS RX11 95 yX11_at wsX11_at) := goodIn_app (goodIn_r _ [7, 8, 9] rfl (by decide +kernel)) ggX11_keepNow_X11_at
theorem dX11_keepNow_0 : decode cX11_keepNow 0 = .ok (.iconst 0, 1) := by decide +kernel
theorem dX11_keepNow_1 : decode cX11_keepNow 1 = .ok (.istore_n 1, 1) := by decide +kernel
theorem dX11_keepNow_2 : decode cX11_keepNow 2 = .ok (.iload_n 1, 1) := by decide +kernel
theorem dX11_keepNow_3 : decode cX11_keepNow 3 = .ok (.bipush 9, 2) := by decide +kernel
theorem dX11_keepNow_5 : decode cX11_keepNow 5 = .ok (.if_icmp .ge 25, 3) := by decide +kernel
theorem dX11_keepNow_8 : decode cX11_keepNow 8 = .ok (.aload_n 0, 1) := by decide +kernel
theorem dX11_keepNow_9 : decode cX11_keepNow 9 = .ok (.getfield 40, 3) := by decide +kernel
theorem dX11_keepNow_12 : decode cX11_keepNow 12 = .ok (.iload_n 1, 1) := by decide +kernel
theorem dX11_keepNow_13 : decode cX11_keepNow 13 = .ok (.aload_n 0, 1) := by decide +kernel
theorem dX11_keepNow_14 : decode cX11_keepNow 14 = .ok (.getfield 7, 3) := by decide +kernel
theorem dX11_keepNow_17 : decode cX11_keepNow 17 = .ok (.iconst 2, 1) := by decide +kernel
theorem dX11_keepNow_18 : decode cX11_keepNow 18 = .ok (.iload_n 1, 1) := by decide +kernel
theorem dX11_keepNow_19 : decode cX11_keepNow 19 = .ok (.invokestatic 95, 3) := by decide +kernel
theorem dX11_keepNow_22 : decode cX11_keepNow 22 = .ok (.iaload, 1) := by decide +kernel
theorem dX11_keepNow_23 : decode cX11_keepNow 23 = .ok (.iastore, 1) := by decide +kernel
theorem dX11_keepNow_24 : decode cX11_keepNow 24 = .ok (.iinc 1 1, 3) := by decide +kernel
theorem dX11_keepNow_27 : decode cX11_keepNow 27 = .ok (.goto (-25), 3) := by decide +kernel
theorem dX11_keepNow_30 : decode cX11_keepNow 30 = .ok (.aload_n 0, 1) := by decide +kernel
theorem dX11_keepNow_31 : decode cX11_keepNow 31 = .ok (.aload_n 0, 1) := by decide +kernel
theorem dX11_keepNow_32 : decode cX11_keepNow 32 = .ok (.getfield 89, 3) := by decide +kernel
theorem dX11_keepNow_35 : decode cX11_keepNow 35 = .ok (.putfield 169, 3) := by decide +kernel
theorem dX11_keepNow_38 : decode cX11_keepNow 38 = .ok (.aload_n 0, 1) := by decide +kernel
theorem dX11_keepNow_39 : decode cX11_keepNow 39 = .ok (.iconst 0, 1) := by decide +kernel
theorem dX11_keepNow_40 : decode cX11_keepNow 40 = .ok (.putfield 166, 3) := by decide +kernel
theorem dX11_keepNow_43 : decode cX11_keepNow 43 = .ok (.iconst 0, 1) := by decide +kernel
theorem dX11_keepNow_44 : decode cX11_keepNow 44 = .ok (.istore_n 1, 1) := by decide +kernel
theorem dX11_keepNow_45 : decode cX11_keepNow 45 = .ok (.iload_n 1, 1) := by decide +kernel
theorem dX11_keepNow_46 : decode cX11_keepNow 46 = .ok (.bipush 9, 2) := by decide +kernel
theorem dX11_keepNow_48 : decode cX11_keepNow 48 = .ok (.if_icmp .ge 16, 3) := by decide +kernel
theorem dX11_keepNow_51 : decode cX11_keepNow 51 = .ok (.aload_n 0, 1) := by decide +kernel
theorem dX11_keepNow_52 : decode cX11_keepNow 52 = .ok (.getfield 37, 3) := by decide +kernel
theorem dX11_keepNow_55 : decode cX11_keepNow 55 = .ok (.iload_n 1, 1) := by decide +kernel
theorem dX11_keepNow_56 : decode cX11_keepNow 56 = .ok (.iconst 0, 1) := by decide +kernel
theorem dX11_keepNow_57 : decode cX11_keepNow 57 = .ok (.iastore, 1) := by decide +kernel
theorem dX11_keepNow_58 : decode cX11_keepNow 58 = .ok (.iinc 1 1, 3) := by decide +kernel
theorem dX11_keepNow_61 : decode cX11_keepNow 61 = .ok (.goto (-16), 3) := by decide +kernel
theorem dX11_keepNow_64 : decode cX11_keepNow 64 = .ok (.return_, 1) := by decide +kernel
set_option maxRecDepth 20000 in
theorem ggX11_putBack_X11_at : GoodIn wsX11_putBack wsX11_at := goodIn_r _ [8] rfl (by decide +kernel)
set_option maxRecDepth 20000 in
theorem gX11_putBack_X11_at : GoodIn wsX11_putBack (va_wsS RX11 95 yX11_at wsX11_at) := goodIn_app (goodIn_r _ [5, 6, 7] rfl (by decide +kernel)) ggX11_putBack_X11_at
theorem dX11_putBack_0 : decode cX11_putBack 0 = .ok (.iconst 0, 1) := by decide +kernel
theorem dX11_putBack_1 : decode cX11_putBack 1 = .ok (.istore_n 1, 1) := by decide +kernel
theorem dX11_putBack_2 : decode cX11_putBack 2 = .ok (.iload_n 1, 1) := by decide +kernel
theorem dX11_putBack_3 : decode cX11_putBack 3 = .ok (.bipush 9, 2) := by decide +kernel
theorem dX11_putBack_5 : decode cX11_putBack 5 = .ok (.if_icmp .ge 25, 3) := by decide +kernel
theorem dX11_putBack_8 : decode cX11_putBack 8 = .ok (.aload_n 0, 1) := by decide +kernel
theorem dX11_putBack_9 : decode cX11_putBack 9 = .ok (.getfield 7, 3) := by decide +kernel
theorem dX11_putBack_12 : decode cX11_putBack 12 = .ok (.iconst 2, 1) := by decide +kernel
theorem dX11_putBack_13 : decode cX11_putBack 13 = .ok (.iload_n 1, 1) := by decide +kernel
theorem dX11_putBack_14 : decode cX11_putBack 14 = .ok (.invokestatic 95, 3) := by decide +kernel
theorem dX11_putBack_17 : decode cX11_putBack 17 = .ok (.aload_n 0, 1) := by decide +kernel
theorem dX11_putBack_18 : decode cX11_putBack 18 = .ok (.getfield 40, 3) := by decide +kernel
theorem dX11_putBack_21 : decode cX11_putBack 21 = .ok (.iload_n 1, 1) := by decide +kernel
theorem dX11_putBack_22 : decode cX11_putBack 22 = .ok (.iaload, 1) := by decide +kernel
theorem dX11_putBack_23 : decode cX11_putBack 23 = .ok (.iastore, 1) := by decide +kernel
theorem dX11_putBack_24 : decode cX11_putBack 24 = .ok (.iinc 1 1, 3) := by decide +kernel
theorem dX11_putBack_27 : decode cX11_putBack 27 = .ok (.goto (-25), 3) := by decide +kernel
theorem dX11_putBack_30 : decode cX11_putBack 30 = .ok (.aload_n 0, 1) := by decide +kernel
theorem dX11_putBack_31 : decode cX11_putBack 31 = .ok (.aload_n 0, 1) := by decide +kernel
theorem dX11_putBack_32 : decode cX11_putBack 32 = .ok (.getfield 169, 3) := by decide +kernel
theorem dX11_putBack_35 : decode cX11_putBack 35 = .ok (.putfield 89, 3) := by decide +kernel
theorem dX11_putBack_38 : decode cX11_putBack 38 = .ok (.return_, 1) := by decide +kernel
set_option maxRecDepth 20000 in
theorem ggX11_whyNotLend_X11_at : GoodIn wsX11_whyNotLend wsX11_at := goodIn_r _ [5] rfl (by decide +kernel)
set_option maxRecDepth 20000 in
theorem gX11_whyNotLend_X11_at : GoodIn wsX11_whyNotLend (va_wsS RX11 95 yX11_at wsX11_at) := goodIn_app (goodIn_r _ [2, 3, 4] rfl (by decide +kernel)) ggX11_whyNotLend_X11_at
theorem dX11_whyNotLend_0 : decode cX11_whyNotLend 0 = .ok (.iload_n 1, 1) := by decide +kernel
theorem dX11_whyNotLend_1 : decode cX11_whyNotLend 1 = .ok (.iload_n 2, 1) := by decide +kernel
theorem dX11_whyNotLend_2 : decode cX11_whyNotLend 2 = .ok (.if_icmp .ne 5, 3) := by decide +kernel
theorem dX11_whyNotLend_5 : decode cX11_whyNotLend 5 = .ok (.iconst 1, 1) := by decide +kernel
theorem dX11_whyNotLend_6 : decode cX11_whyNotLend 6 = .ok (.ireturn, 1) := by decide +kernel
theorem dX11_whyNotLend_7 : decode cX11_whyNotLend 7 = .ok (.aload_n 0, 1) := by decide +kernel
theorem dX11_whyNotLend_8 : decode cX11_whyNotLend 8 = .ok (.getfield 7, 3) := by decide +kernel
theorem dX11_whyNotLend_11 : decode cX11_whyNotLend 11 = .ok (.iconst 2, 1) := by decide +kernel
theorem dX11_whyNotLend_12 : decode cX11_whyNotLend 12 = .ok (.iload_n 1, 1) := by decide +kernel
theorem dX11_whyNotLend_13 : decode cX11_whyNotLend 13 = .ok (.invokestatic 95, 3) := by decide +kernel
theorem dX11_whyNotLend_16 : decode cX11_whyNotLend 16 = .ok (.iaload, 1) := by decide +kernel
theorem dX11_whyNotLend_17 : decode cX11_whyNotLend 17 = .ok (.iload_n 3, 1) := by decide +kernel
theorem dX11_whyNotLend_18 : decode cX11_whyNotLend 18 = .ok (.if_icmp .ge 7, 3) := by decide +kernel
theorem dX11_whyNotLend_21 : decode cX11_whyNotLend 21 = .ok (.iconst 2, 1) := by decide +kernel
theorem dX11_whyNotLend_22 : decode cX11_whyNotLend 22 = .ok (.goto 33, 3) := by decide +kernel
theorem dX11_whyNotLend_25 : decode cX11_whyNotLend 25 = .ok (.aload_n 0, 1) := by decide +kernel
theorem dX11_whyNotLend_26 : decode cX11_whyNotLend 26 = .ok (.getfield 7, 3) := by decide +kernel
theorem dX11_whyNotLend_29 : decode cX11_whyNotLend 29 = .ok (.iconst 2, 1) := by decide +kernel
theorem dX11_whyNotLend_30 : decode cX11_whyNotLend 30 = .ok (.iload_n 2, 1) := by decide +kernel
theorem dX11_whyNotLend_31 : decode cX11_whyNotLend 31 = .ok (.invokestatic 95, 3) := by decide +kernel
theorem dX11_whyNotLend_34 : decode cX11_whyNotLend 34 = .ok (.iaload, 1) := by decide +kernel
theorem dX11_whyNotLend_35 : decode cX11_whyNotLend 35 = .ok (.iload_n 3, 1) := by decide +kernel
theorem dX11_whyNotLend_36 : decode cX11_whyNotLend 36 = .ok (.iadd, 1) := by decide +kernel
theorem dX11_whyNotLend_37 : decode cX11_whyNotLend 37 = .ok (.aload_n 0, 1) := by decide +kernel
theorem dX11_whyNotLend_38 : decode cX11_whyNotLend 38 = .ok (.getfield 7, 3) := by decide +kernel
theorem dX11_whyNotLend_41 : decode cX11_whyNotLend 41 = .ok (.iconst 3, 1) := by decide +kernel
theorem dX11_whyNotLend_42 : decode cX11_whyNotLend 42 = .ok (.iload_n 2, 1) := by decide +kernel
theorem dX11_whyNotLend_43 : decode cX11_whyNotLend 43 = .ok (.invokestatic 95, 3) := by decide +kernel
theorem dX11_whyNotLend_46 : decode cX11_whyNotLend 46 = .ok (.iaload, 1) := by decide +kernel
theorem dX11_whyNotLend_47 : decode cX11_whyNotLend 47 = .ok (.if_icmp .le 7, 3) := by decide +kernel
theorem dX11_whyNotLend_50 : decode cX11_whyNotLend 50 = .ok (.iconst 3, 1) := by decide +kernel
theorem dX11_whyNotLend_51 : decode cX11_whyNotLend 51 = .ok (.goto 4, 3) := by decide +kernel
theorem dX11_whyNotLend_54 : decode cX11_whyNotLend 54 = .ok (.iconst 0, 1) := by decide +kernel
theorem dX11_whyNotLend_55 : decode cX11_whyNotLend 55 = .ok (.ireturn, 1) := by decide +kernel
set_option maxRecDepth 20000 in
theorem ggX11_lend_X11_at : GoodIn wsX11_lend wsX11_at := goodIn_r _ [5] rfl (by decide +kernel)
set_option maxRecDepth 20000 in
theorem gX11_lend_X11_at : GoodIn wsX11_lend (va_wsS RX11 95 yX11_at wsX11_at) := goodIn_app (goodIn_r _ [2, 3, 4] rfl (by decide +kernel)) ggX11_lend_X11_at
theorem dX11_lend_0 : decode cX11_lend 0 = .ok (.aload_n 0, 1) := by decide +kernel
theorem dX11_lend_1 : decode cX11_lend 1 = .ok (.getfield 7, 3) := by decide +kernel
theorem dX11_lend_4 : decode cX11_lend 4 = .ok (.iconst 2, 1) := by decide +kernel
theorem dX11_lend_5 : decode cX11_lend 5 = .ok (.iload_n 1, 1) := by decide +kernel
theorem dX11_lend_6 : decode cX11_lend 6 = .ok (.invokestatic 95, 3) := by decide +kernel
theorem dX11_lend_9 : decode cX11_lend 9 = .ok (.dup2, 1) := by decide +kernel
theorem dX11_lend_10 : decode cX11_lend 10 = .ok (.iaload, 1) := by decide +kernel
theorem dX11_lend_11 : decode cX11_lend 11 = .ok (.iload_n 3, 1) := by decide +kernel
theorem dX11_lend_12 : decode cX11_lend 12 = .ok (.isub, 1) := by decide +kernel
theorem dX11_lend_13 : decode cX11_lend 13 = .ok (.iastore, 1) := by decide +kernel
theorem dX11_lend_14 : decode cX11_lend 14 = .ok (.aload_n 0, 1) := by decide +kernel
theorem dX11_lend_15 : decode cX11_lend 15 = .ok (.getfield 7, 3) := by decide +kernel
theorem dX11_lend_18 : decode cX11_lend 18 = .ok (.iconst 2, 1) := by decide +kernel
theorem dX11_lend_19 : decode cX11_lend 19 = .ok (.iload_n 2, 1) := by decide +kernel
theorem dX11_lend_20 : decode cX11_lend 20 = .ok (.invokestatic 95, 3) := by decide +kernel
theorem dX11_lend_23 : decode cX11_lend 23 = .ok (.dup2, 1) := by decide +kernel
theorem dX11_lend_24 : decode cX11_lend 24 = .ok (.iaload, 1) := by decide +kernel
theorem dX11_lend_25 : decode cX11_lend 25 = .ok (.iload_n 3, 1) := by decide +kernel
theorem dX11_lend_26 : decode cX11_lend 26 = .ok (.iadd, 1) := by decide +kernel
theorem dX11_lend_27 : decode cX11_lend 27 = .ok (.iastore, 1) := by decide +kernel
theorem dX11_lend_28 : decode cX11_lend 28 = .ok (.return_, 1) := by decide +kernel
set_option maxRecDepth 20000 in
theorem ggX11_goAges_X11_whyNotLend : GoodIn wsX11_goAges wsX11_whyNotLend := goodIn_r _ [13, 14, 15, 16, 12, 17, 55, 56, 57, 58, 59, 60, 61, 62, 63, 64, 65, 66, 67, 68, 69, 70, 71, 72, 73, 74, 75, 76, 77, 78, 79, 80, 81, 82, 83, 84, 85, 86, 87, 88, 89, 90, 91, 92, 93] rfl (by decide +kernel)
set_option maxRecDepth 20000 in
theorem gX11_goAges_X11_whyNotLend : GoodIn wsX11_goAges (wsV RX11 181 RX11 yX11_whyNotLend wsX11_whyNotLend) := goodIn_app (goodIn_r _ [9, 10, 11, 12] rfl (by decide +kernel)) ggX11_goAges_X11_whyNotLend
set_option maxRecDepth 20000 in
theorem ggX11_goAges_X11_lend : GoodIn wsX11_goAges wsX11_lend := goodIn_r _ [21, 14, 15, 16, 12, 17, 55, 56, 57, 58, 59, 60, 61, 62, 63, 64, 65, 66, 67, 68, 69, 70, 71, 72, 73, 74, 75, 76, 77, 78, 79, 80, 81, 82, 83, 84, 85, 86, 87, 88, 89, 90, 91, 92, 93] rfl (by decide +kernel)
set_option maxRecDepth 20000 in
theorem gX11_goAges_X11_lend : GoodIn wsX11_goAges (wsV RX11 185 RX11 yX11_lend wsX11_lend) := goodIn_app (goodIn_r _ [18, 19, 20, 12] rfl (by decide +kernel)) ggX11_goAges_X11_lend
set_option maxRecDepth 20000 in
theorem ggX11_goAges_X11_passYear : GoodIn wsX11_goAges wsX11_passYear := goodIn_r _ [25, 26, 27, 28, 29, 30, 31, 32, 12, 33, 34, 35, 36, 37, 38, 39, 40, 41, 42, 43, 44, 45, 46, 47, 48, 49, 50, 51, 52, 53, 54, 14, 15, 16, 17, 55, 56, 57, 58, 59, 60, 61, 62, 63, 64, 65, 66, 67, 68, 69, 70, 71, 72, 73, 74, 75, 76, 77, 78, 79, 80, 81, 82, 83, 84, 85, 86, 87, 88, 89, 90, 91, 92, 93] rfl (by decide +kernel)
set_option maxRecDepth 20000 in
theorem gX11_goAges_X11_passYear : GoodIn wsX11_goAges (wsV RX11 189 RX11 yX11_passYear wsX11_passYear) := goodIn_app (goodIn_r _ [22, 23, 24, 12] rfl (by decide +kernel)) ggX11_goAges_X11_passYear
theorem dX11_goAges_0 : decode cX11_goAges 0 = .ok (.aload_n 0, 1) := by decide +kernel
theorem dX11_goAges_1 : decode cX11_goAges 1 = .ok (.bipush (-6), 2) := by decide +kernel
theorem dX11_goAges_3 : decode cX11_goAges 3 = .ok (.putfield 172, 3) := by decide +kernel
theorem dX11_goAges_6 : decode cX11_goAges 6 = .ok (.aload_n 0, 1) := by decide +kernel
theorem dX11_goAges_7 : decode cX11_goAges 7 = .ok (.bipush (-6), 2) := by decide +kernel
theorem dX11_goAges_9 : decode cX11_goAges 9 = .ok (.putfield 175, 3) := by decide +kernel
theorem dX11_goAges_12 : decode cX11_goAges 12 = .ok (.aload_n 0, 1) := by decide +kernel
theorem dX11_goAges_13 : decode cX11_goAges 13 = .ok (.iconst 0, 1) := by decide +kernel
theorem dX11_goAges_14 : decode cX11_goAges 14 = .ok (.putfield 178, 3) := by decide +kernel
theorem dX11_goAges_17 : decode cX11_goAges 17 = .ok (.iconst 0, 1) := by decide +kernel
theorem dX11_goAges_18 : decode cX11_goAges 18 = .ok (.istore_n 1, 1) := by decide +kernel
theorem dX11_goAges_19 : decode cX11_goAges 19 = .ok (.iload_n 1, 1) := by decide +kernel
theorem dX11_goAges_20 : decode cX11_goAges 20 = .ok (.aload_n 0, 1) := by decide +kernel
theorem dX11_goAges_21 : decode cX11_goAges 21 = .ok (.getfield 142, 3) := by decide +kernel
theorem dX11_goAges_24 : decode cX11_goAges 24 = .ok (.if_icmp .ge 148, 3) := by decide +kernel
theorem dX11_goAges_27 : decode cX11_goAges 27 = .ok (.aload_n 0, 1) := by decide +kernel
theorem dX11_goAges_28 : decode cX11_goAges 28 = .ok (.getfield 172, 3) := by decide +kernel
theorem dX11_goAges_31 : decode cX11_goAges 31 = .ok (.ifCond .ge 141, 3) := by decide +kernel
theorem dX11_goAges_34 : decode cX11_goAges 34 = .ok (.aload_n 0, 1) := by decide +kernel
theorem dX11_goAges_35 : decode cX11_goAges 35 = .ok (.getfield 25, 3) := by decide +kernel
theorem dX11_goAges_38 : decode cX11_goAges 38 = .ok (.iload_n 1, 1) := by decide +kernel
theorem dX11_goAges_39 : decode cX11_goAges 39 = .ok (.iaload, 1) := by decide +kernel
theorem dX11_goAges_40 : decode cX11_goAges 40 = .ok (.ifCond .le 7, 3) := by decide +kernel
theorem dX11_goAges_43 : decode cX11_goAges 43 = .ok (.iconst 0, 1) := by decide +kernel
theorem dX11_goAges_44 : decode cX11_goAges 44 = .ok (.goto 25, 3) := by decide +kernel
theorem dX11_goAges_47 : decode cX11_goAges 47 = .ok (.aload_n 0, 1) := by decide +kernel
theorem dX11_goAges_48 : decode cX11_goAges 48 = .ok (.aload_n 0, 1) := by decide +kernel
theorem dX11_goAges_49 : decode cX11_goAges 49 = .ok (.getfield 28, 3) := by decide +kernel
theorem dX11_goAges_52 : decode cX11_goAges 52 = .ok (.iload_n 1, 1) := by decide +kernel
theorem dX11_goAges_53 : decode cX11_goAges 53 = .ok (.iaload, 1) := by decide +kernel
theorem dX11_goAges_54 : decode cX11_goAges 54 = .ok (.aload_n 0, 1) := by decide +kernel
theorem dX11_goAges_55 : decode cX11_goAges 55 = .ok (.getfield 31, 3) := by decide +kernel
theorem dX11_goAges_58 : decode cX11_goAges 58 = .ok (.iload_n 1, 1) := by decide +kernel
theorem dX11_goAges_59 : decode cX11_goAges 59 = .ok (.iaload, 1) := by decide +kernel
theorem dX11_goAges_60 : decode cX11_goAges 60 = .ok (.aload_n 0, 1) := by decide +kernel
theorem dX11_goAges_61 : decode cX11_goAges 61 = .ok (.getfield 34, 3) := by decide +kernel
theorem dX11_goAges_64 : decode cX11_goAges 64 = .ok (.iload_n 1, 1) := by decide +kernel
theorem dX11_goAges_65 : decode cX11_goAges 65 = .ok (.iaload, 1) := by decide +kernel
theorem dX11_goAges_66 : decode cX11_goAges 66 = .ok (.invokevirtual 181, 3) := by decide +kernel
theorem dX11_goAges_69 : decode cX11_goAges 69 = .ok (.istore_n 2, 1) := by decide +kernel
theorem dX11_goAges_70 : decode cX11_goAges 70 = .ok (.aload_n 0, 1) := by decide +kernel
theorem dX11_goAges_71 : decode cX11_goAges 71 = .ok (.iload_n 2, 1) := by decide +kernel
theorem dX11_goAges_72 : decode cX11_goAges 72 = .ok (.ifCond .le 7, 3) := by decide +kernel
theorem dX11_goAges_75 : decode cX11_goAges 75 = .ok (.iload_n 1, 1) := by decide +kernel
theorem dX11_goAges_76 : decode cX11_goAges 76 = .ok (.goto 5, 3) := by decide +kernel
theorem dX11_goAges_79 : decode cX11_goAges 79 = .ok (.bipush (-6), 2) := by decide +kernel
theorem dX11_goAges_81 : decode cX11_goAges 81 = .ok (.putfield 172, 3) := by decide +kernel
theorem dX11_goAges_84 : decode cX11_goAges 84 = .ok (.aload_n 0, 1) := by decide +kernel
theorem dX11_goAges_85 : decode cX11_goAges 85 = .ok (.iload_n 2, 1) := by decide +kernel
theorem dX11_goAges_86 : decode cX11_goAges 86 = .ok (.ifCond .le 7, 3) := by decide +kernel
theorem dX11_goAges_89 : decode cX11_goAges 89 = .ok (.iload_n 2, 1) := by decide +kernel
theorem dX11_goAges_90 : decode cX11_goAges 90 = .ok (.goto 5, 3) := by decide +kernel
theorem dX11_goAges_93 : decode cX11_goAges 93 = .ok (.bipush (-6), 2) := by decide +kernel
theorem dX11_goAges_95 : decode cX11_goAges 95 = .ok (.putfield 175, 3) := by decide +kernel
theorem dX11_goAges_98 : decode cX11_goAges 98 = .ok (.aload_n 0, 1) := by decide +kernel
theorem dX11_goAges_99 : decode cX11_goAges 99 = .ok (.getfield 25, 3) := by decide +kernel
theorem dX11_goAges_102 : decode cX11_goAges 102 = .ok (.iload_n 1, 1) := by decide +kernel
theorem dX11_goAges_103 : decode cX11_goAges 103 = .ok (.iaload, 1) := by decide +kernel
theorem dX11_goAges_104 : decode cX11_goAges 104 = .ok (.ifCond .ne 29, 3) := by decide +kernel
theorem dX11_goAges_107 : decode cX11_goAges 107 = .ok (.iload_n 2, 1) := by decide +kernel
theorem dX11_goAges_108 : decode cX11_goAges 108 = .ok (.ifCond .ne 25, 3) := by decide +kernel
theorem dX11_goAges_111 : decode cX11_goAges 111 = .ok (.aload_n 0, 1) := by decide +kernel
theorem dX11_goAges_112 : decode cX11_goAges 112 = .ok (.aload_n 0, 1) := by decide +kernel
theorem dX11_goAges_113 : decode cX11_goAges 113 = .ok (.getfield 28, 3) := by decide +kernel
theorem dX11_goAges_116 : decode cX11_goAges 116 = .ok (.iload_n 1, 1) := by decide +kernel
theorem dX11_goAges_117 : decode cX11_goAges 117 = .ok (.iaload, 1) := by decide +kernel
theorem dX11_goAges_118 : decode cX11_goAges 118 = .ok (.aload_n 0, 1) := by decide +kernel
theorem dX11_goAges_119 : decode cX11_goAges 119 = .ok (.getfield 31, 3) := by decide +kernel
theorem dX11_goAges_122 : decode cX11_goAges 122 = .ok (.iload_n 1, 1) := by decide +kernel
theorem dX11_goAges_123 : decode cX11_goAges 123 = .ok (.iaload, 1) := by decide +kernel
theorem dX11_goAges_124 : decode cX11_goAges 124 = .ok (.aload_n 0, 1) := by decide +kernel
theorem dX11_goAges_125 : decode cX11_goAges 125 = .ok (.getfield 34, 3) := by decide +kernel
theorem dX11_goAges_128 : decode cX11_goAges 128 = .ok (.iload_n 1, 1) := by decide +kernel
theorem dX11_goAges_129 : decode cX11_goAges 129 = .ok (.iaload, 1) := by decide +kernel
theorem dX11_goAges_130 : decode cX11_goAges 130 = .ok (.invokevirtual 185, 3) := by decide +kernel
theorem dX11_goAges_133 : decode cX11_goAges 133 = .ok (.iconst 0, 1) := by decide +kernel
theorem dX11_goAges_134 : decode cX11_goAges 134 = .ok (.istore_n 3, 1) := by decide +kernel
theorem dX11_goAges_135 : decode cX11_goAges 135 = .ok (.iload_n 3, 1) := by decide +kernel
theorem dX11_goAges_136 : decode cX11_goAges 136 = .ok (.aload_n 0, 1) := by decide +kernel
theorem dX11_goAges_137 : decode cX11_goAges 137 = .ok (.getfield 25, 3) := by decide +kernel
theorem dX11_goAges_140 : decode cX11_goAges 140 = .ok (.iload_n 1, 1) := by decide +kernel
theorem dX11_goAges_141 : decode cX11_goAges 141 = .ok (.iaload, 1) := by decide +kernel
theorem dX11_goAges_142 : decode cX11_goAges 142 = .ok (.if_icmp .ge 24, 3) := by decide +kernel
theorem dX11_goAges_145 : decode cX11_goAges 145 = .ok (.aload_n 0, 1) := by decide +kernel
theorem dX11_goAges_146 : decode cX11_goAges 146 = .ok (.invokevirtual 189, 3) := by decide +kernel
theorem dX11_goAges_149 : decode cX11_goAges 149 = .ok (.pop, 1) := by decide +kernel
theorem dX11_goAges_150 : decode cX11_goAges 150 = .ok (.aload_n 0, 1) := by decide +kernel
theorem dX11_goAges_151 : decode cX11_goAges 151 = .ok (.dup, 1) := by decide +kernel
theorem dX11_goAges_152 : decode cX11_goAges 152 = .ok (.getfield 178, 3) := by decide +kernel
theorem dX11_goAges_155 : decode cX11_goAges 155 = .ok (.iconst 1, 1) := by decide +kernel
theorem dX11_goAges_156 : decode cX11_goAges 156 = .ok (.iadd, 1) := by decide +kernel
theorem dX11_goAges_157 : decode cX11_goAges 157 = .ok (.putfield 178, 3) := by decide +kernel
theorem dX11_goAges_160 : decode cX11_goAges 160 = .ok (.iinc 3 1, 3) := by decide +kernel
theorem dX11_goAges_163 : decode cX11_goAges 163 = .ok (.goto (-28), 3) := by decide +kernel
theorem dX11_goAges_166 : decode cX11_goAges 166 = .ok (.iinc 1 1, 3) := by decide +kernel
theorem dX11_goAges_169 : decode cX11_goAges 169 = .ok (.goto (-150), 3) := by decide +kernel
theorem dX11_goAges_172 : decode cX11_goAges 172 = .ok (.return_, 1) := by decide +kernel
set_option maxRecDepth 20000 in
theorem ggX11_refusal_X11_fault : GoodIn wsX11_refusal wsX11_fault := goodIn_r _ [10, 11, 12, 13, 14, 15, 16, 17, 18, 19, 20, 21, 22, 9, 23, 24, 25, 26, 27, 86, 87, 88, 89, 90, 91, 92, 93, 94, 95, 96, 97, 98, 99, 100, 101, 102, 103, 104, 105, 106, 107, 108, 109, 110, 111, 112, 113, 114, 115, 116, 117, 118, 119, 120, 121, 122, 123, 124] rfl (by decide +kernel)
set_option maxRecDepth 20000 in
theorem gX11_refusal_X11_fault : GoodIn wsX11_refusal (wsV RX11 193 RX11 yX11_fault wsX11_fault) := goodIn_app (goodIn_r _ [6, 7, 8, 9] rfl (by decide +kernel)) ggX11_refusal_X11_fault
set_option maxRecDepth 20000 in
theorem ggX11_refusal_X11_keepNow : GoodIn wsX11_refusal wsX11_keepNow := goodIn_r _ [31, 32, 2, 3, 33, 34, 35, 36, 37, 9, 38, 86, 87, 88, 89, 90, 91, 92, 93, 94, 95, 96, 97, 98, 99, 100, 101, 102, 103, 104, 105, 106, 107, 108, 109, 110, 111, 112, 113, 114, 115, 116, 117, 118, 119, 120, 121, 122, 123, 124] rfl (by decide +kernel)
set_option maxRecDepth 20000 in
theorem gX11_refusal_X11_keepNow : GoodIn wsX11_refusal (wsV RX11 197 RX11 yX11_keepNow wsX11_keepNow) := goodIn_app (goodIn_r _ [28, 29, 30, 9] rfl (by decide +kernel)) ggX11_refusal_X11_keepNow
set_option maxRecDepth 20000 in
theorem ggX11_refusal_X11_goAges : GoodIn wsX11_refusal wsX11_goAges := goodIn_r _ [42, 5, 43, 44, 11, 16, 17, 18, 19, 45, 46, 47, 9, 48, 2, 36, 37, 38, 49, 50, 51, 52, 53, 54, 55, 56, 24, 3, 34, 35, 57, 58, 59, 60, 61, 62, 63, 64, 65, 66, 67, 68, 69, 70, 71, 72, 73, 74, 75, 76, 77, 78, 79, 80, 81, 86, 87, 88, 89, 90, 91, 92, 93, 94, 95, 96, 97, 98, 99, 100, 101, 102, 103, 104, 105, 106, 107, 108, 109, 110, 111, 112, 113, 114, 115, 116, 117, 118, 119, 120, 121, 122, 123, 124] rfl (by decide +kernel)
set_option maxRecDepth 20000 in
theorem gX11_refusal_X11_goAges : GoodIn wsX11_refusal (wsV RX11 200 RX11 yX11_goAges wsX11_goAges) := goodIn_app (goodIn_r _ [39, 40, 41, 9] rfl (by decide +kernel)) ggX11_refusal_X11_goAges
set_option maxRecDepth 20000 in
theorem ggX11_refusal_X11_at : GoodIn wsX11_refusal wsX11_at := goodIn_r _ [38] rfl (by decide +kernel)
set_option maxRecDepth 20000 in
theorem gX11_refusal_X11_at : GoodIn wsX11_refusal (va_wsS RX11 95 yX11_at wsX11_at) := goodIn_app (goodIn_r _ [36, 37, 9] rfl (by decide +kernel)) ggX11_refusal_X11_at
set_option maxRecDepth 20000 in
theorem ggX11_refusal_X11_putBack : GoodIn wsX11_refusal wsX11_putBack := goodIn_r _ [85, 2, 32, 33, 3, 36, 37, 9, 38, 86, 87, 88, 89, 90, 91, 92, 93, 94, 95, 96, 97, 98, 99, 100, 101, 102, 103, 104, 105, 106, 107, 108, 109, 110, 111, 112, 113, 114, 115, 116, 117, 118, 119, 120, 121, 122, 123, 124] rfl (by decide +kernel)
set_option maxRecDepth 20000 in
theorem gX11_refusal_X11_putBack : GoodIn wsX11_refusal (wsV RX11 206 RX11 yX11_putBack wsX11_putBack) := goodIn_app (goodIn_r _ [82, 83, 84, 9] rfl (by decide +kernel)) ggX11_refusal_X11_putBack
theorem dX11_refusal_0 : decode cX11_refusal 0 = .ok (.aload_n 0, 1) := by decide +kernel
theorem dX11_refusal_1 : decode cX11_refusal 1 = .ok (.invokevirtual 193, 3) := by decide +kernel
theorem dX11_refusal_4 : decode cX11_refusal 4 = .ok (.ifCond .lt 6, 3) := by decide +kernel
theorem dX11_refusal_7 : decode cX11_refusal 7 = .ok (.bipush (-5), 2) := by decide +kernel
theorem dX11_refusal_9 : decode cX11_refusal 9 = .ok (.ireturn, 1) := by decide +kernel
theorem dX11_refusal_10 : decode cX11_refusal 10 = .ok (.aload_n 0, 1) := by decide +kernel
theorem dX11_refusal_11 : decode cX11_refusal 11 = .ok (.invokevirtual 197, 3) := by decide +kernel
theorem dX11_refusal_14 : decode cX11_refusal 14 = .ok (.aload_n 0, 1) := by decide +kernel
theorem dX11_refusal_15 : decode cX11_refusal 15 = .ok (.invokevirtual 200, 3) := by decide +kernel
theorem dX11_refusal_18 : decode cX11_refusal 18 = .ok (.iconst 0, 1) := by decide +kernel
theorem dX11_refusal_19 : decode cX11_refusal 19 = .ok (.istore_n 1, 1) := by decide +kernel
theorem dX11_refusal_20 : decode cX11_refusal 20 = .ok (.iload_n 1, 1) := by decide +kernel
theorem dX11_refusal_21 : decode cX11_refusal 21 = .ok (.bipush 9, 2) := by decide +kernel
theorem dX11_refusal_23 : decode cX11_refusal 23 = .ok (.if_icmp .ge 25, 3) := by decide +kernel
theorem dX11_refusal_26 : decode cX11_refusal 26 = .ok (.aload_n 0, 1) := by decide +kernel
theorem dX11_refusal_27 : decode cX11_refusal 27 = .ok (.getfield 43, 3) := by decide +kernel
theorem dX11_refusal_30 : decode cX11_refusal 30 = .ok (.iload_n 1, 1) := by decide +kernel
theorem dX11_refusal_31 : decode cX11_refusal 31 = .ok (.aload_n 0, 1) := by decide +kernel
theorem dX11_refusal_32 : decode cX11_refusal 32 = .ok (.getfield 7, 3) := by decide +kernel
theorem dX11_refusal_35 : decode cX11_refusal 35 = .ok (.iconst 2, 1) := by decide +kernel
theorem dX11_refusal_36 : decode cX11_refusal 36 = .ok (.iload_n 1, 1) := by decide +kernel
theorem dX11_refusal_37 : decode cX11_refusal 37 = .ok (.invokestatic 95, 3) := by decide +kernel
theorem dX11_refusal_40 : decode cX11_refusal 40 = .ok (.iaload, 1) := by decide +kernel
theorem dX11_refusal_41 : decode cX11_refusal 41 = .ok (.iastore, 1) := by decide +kernel
theorem dX11_refusal_42 : decode cX11_refusal 42 = .ok (.iinc 1 1, 3) := by decide +kernel
theorem dX11_refusal_45 : decode cX11_refusal 45 = .ok (.goto (-25), 3) := by decide +kernel
theorem dX11_refusal_48 : decode cX11_refusal 48 = .ok (.aload_n 0, 1) := by decide +kernel
theorem dX11_refusal_49 : decode cX11_refusal 49 = .ok (.aload_n 0, 1) := by decide +kernel
theorem dX11_refusal_50 : decode cX11_refusal 50 = .ok (.getfield 89, 3) := by decide +kernel
theorem dX11_refusal_53 : decode cX11_refusal 53 = .ok (.putfield 203, 3) := by decide +kernel
theorem dX11_refusal_56 : decode cX11_refusal 56 = .ok (.aload_n 0, 1) := by decide +kernel
theorem dX11_refusal_57 : decode cX11_refusal 57 = .ok (.invokevirtual 206, 3) := by decide +kernel
theorem dX11_refusal_60 : decode cX11_refusal 60 = .ok (.aload_n 0, 1) := by decide +kernel
theorem dX11_refusal_61 : decode cX11_refusal 61 = .ok (.getfield 172, 3) := by decide +kernel
theorem dX11_refusal_64 : decode cX11_refusal 64 = .ok (.ifCond .lt 8, 3) := by decide +kernel
theorem dX11_refusal_67 : decode cX11_refusal 67 = .ok (.bipush (-3), 2) := by decide +kernel
theorem dX11_refusal_69 : decode cX11_refusal 69 = .ok (.goto 5, 3) := by decide +kernel
theorem dX11_refusal_72 : decode cX11_refusal 72 = .ok (.bipush (-6), 2) := by decide +kernel
theorem dX11_refusal_74 : decode cX11_refusal 74 = .ok (.ireturn, 1) := by decide +kernel
set_option maxRecDepth 20000 in
theorem ggX11_judge_X11_in : GoodIn wsX11_judge wsX11_in := goodIn_r _ [9] rfl (by decide +kernel)
set_option maxRecDepth 20000 in
theorem gX11_judge_X11_in : GoodIn wsX11_judge (va_wsS RX11 99 yX11_in wsX11_in) := goodIn_app (goodIn_r _ [6, 7, 8] rfl (by decide +kernel)) ggX11_judge_X11_in
set_option maxRecDepth 20000 in
theorem ggX11_judge_X11_refusal : GoodIn wsX11_judge wsX11_refusal := goodIn_r _ [13, 14, 15, 16, 17, 2, 18, 19, 20, 8, 21, 22, 23, 24, 25, 26, 27, 28, 29, 30, 31, 32, 33, 34, 35, 6, 7, 9, 36, 37, 38, 39, 40, 41, 5, 42, 43, 44, 45, 46, 47, 48, 49, 3, 4, 50, 51, 52, 53, 54, 55, 56, 57, 58, 59, 60, 61, 62, 63, 64, 65, 66, 67, 68, 69, 70, 71, 72, 73, 74, 75, 76, 77, 78, 79, 80, 81, 82, 83, 84, 85, 86, 87, 88, 89, 90, 91, 92, 93, 94, 95, 96, 97, 98, 99, 100, 101, 102, 103, 104, 105, 106, 107, 108, 109, 110, 111, 112, 113, 114, 115, 116, 117, 118, 119, 120, 121, 122, 123, 124, 125, 126, 127, 128, 129] rfl (by decide +kernel)
set_option maxRecDepth 20000 in
theorem gX11_judge_X11_refusal : GoodIn wsX11_judge (wsV RX11 209 RX11 yX11_refusal wsX11_refusal) := goodIn_app (goodIn_r _ [10, 11, 12, 8] rfl (by decide +kernel)) ggX11_judge_X11_refusal
theorem dX11_judge_0 : decode cX11_judge 0 = .ok (.iload_n 1, 1) := by decide +kernel
theorem dX11_judge_1 : decode cX11_judge 1 = .ok (.i2l, 1) := by decide +kernel
theorem dX11_judge_2 : decode cX11_judge 2 = .ok (.lconst 0, 1) := by decide +kernel
theorem dX11_judge_3 : decode cX11_judge 3 = .ok (.ldc2_w 133, 3) := by decide +kernel
theorem dX11_judge_6 : decode cX11_judge 6 = .ok (.invokestatic 99, 3) := by decide +kernel
theorem dX11_judge_9 : decode cX11_judge 9 = .ok (.ifCond .ne 6, 3) := by decide +kernel
theorem dX11_judge_12 : decode cX11_judge 12 = .ok (.bipush (-2), 2) := by decide +kernel
theorem dX11_judge_14 : decode cX11_judge 14 = .ok (.ireturn, 1) := by decide +kernel
theorem dX11_judge_15 : decode cX11_judge 15 = .ok (.aload_n 0, 1) := by decide +kernel
theorem dX11_judge_16 : decode cX11_judge 16 = .ok (.invokevirtual 209, 3) := by decide +kernel
theorem dX11_judge_19 : decode cX11_judge 19 = .ok (.istore_n 2, 1) := by decide +kernel
theorem dX11_judge_20 : decode cX11_judge 20 = .ok (.iload_n 2, 1) := by decide +kernel
theorem dX11_judge_21 : decode cX11_judge 21 = .ok (.bipush (-5), 2) := by decide +kernel
theorem dX11_judge_23 : decode cX11_judge 23 = .ok (.if_icmp .eq 14, 3) := by decide +kernel
theorem dX11_judge_26 : decode cX11_judge 26 = .ok (.iload_n 1, 1) := by decide +kernel
theorem dX11_judge_27 : decode cX11_judge 27 = .ok (.iconst 1, 1) := by decide +kernel
theorem dX11_judge_28 : decode cX11_judge 28 = .ok (.if_icmp .le 11, 3) := by decide +kernel
theorem dX11_judge_31 : decode cX11_judge 31 = .ok (.iload_n 2, 1) := by decide +kernel
theorem dX11_judge_32 : decode cX11_judge 32 = .ok (.bipush (-3), 2) := by decide +kernel
theorem dX11_judge_34 : decode cX11_judge 34 = .ok (.if_icmp .ne 5, 3) := by decide +kernel
theorem dX11_judge_37 : decode cX11_judge 37 = .ok (.iload_n 2, 1) := by decide +kernel
theorem dX11_judge_38 : decode cX11_judge 38 = .ok (.ireturn, 1) := by decide +kernel
theorem dX11_judge_39 : decode cX11_judge 39 = .ok (.iload_n 1, 1) := by decide +kernel
theorem dX11_judge_40 : decode cX11_judge 40 = .ok (.ifCond .ne 10, 3) := by decide +kernel
theorem dX11_judge_43 : decode cX11_judge 43 = .ok (.aload_n 0, 1) := by decide +kernel
theorem dX11_judge_44 : decode cX11_judge 44 = .ok (.getfield 172, 3) := by decide +kernel
theorem dX11_judge_47 : decode cX11_judge 47 = .ok (.goto 31, 3) := by decide +kernel
theorem dX11_judge_50 : decode cX11_judge 50 = .ok (.iload_n 1, 1) := by decide +kernel
theorem dX11_judge_51 : decode cX11_judge 51 = .ok (.iconst 1, 1) := by decide +kernel
theorem dX11_judge_52 : decode cX11_judge 52 = .ok (.if_icmp .ne 10, 3) := by decide +kernel
theorem dX11_judge_55 : decode cX11_judge 55 = .ok (.aload_n 0, 1) := by decide +kernel
theorem dX11_judge_56 : decode cX11_judge 56 = .ok (.getfield 175, 3) := by decide +kernel
theorem dX11_judge_59 : decode cX11_judge 59 = .ok (.goto 19, 3) := by decide +kernel
theorem dX11_judge_62 : decode cX11_judge 62 = .ok (.iload_n 1, 1) := by decide +kernel
theorem dX11_judge_63 : decode cX11_judge 63 = .ok (.iconst 2, 1) := by decide +kernel
theorem dX11_judge_64 : decode cX11_judge 64 = .ok (.if_icmp .ne 10, 3) := by decide +kernel
theorem dX11_judge_67 : decode cX11_judge 67 = .ok (.aload_n 0, 1) := by decide +kernel
theorem dX11_judge_68 : decode cX11_judge 68 = .ok (.getfield 178, 3) := by decide +kernel
theorem dX11_judge_71 : decode cX11_judge 71 = .ok (.goto 7, 3) := by decide +kernel
theorem dX11_judge_74 : decode cX11_judge 74 = .ok (.aload_n 0, 1) := by decide +kernel
theorem dX11_judge_75 : decode cX11_judge 75 = .ok (.getfield 166, 3) := by decide +kernel
theorem dX11_judge_78 : decode cX11_judge 78 = .ok (.ireturn, 1) := by decide +kernel
set_option maxRecDepth 20000 in
theorem ggX11_behind_X11_isLand : GoodIn wsX11_behind wsX11_isLand := goodIn_r _ [9, 10, 11, 12, 8, 13, 91, 92, 93, 94, 95, 96, 97, 98, 99, 100, 101, 102, 103, 104, 105, 106, 107, 108, 109, 110, 111, 112, 113, 114, 115, 116, 117, 118, 119, 120, 121, 122, 123, 124, 125, 126, 127, 128, 129] rfl (by decide +kernel)
set_option maxRecDepth 20000 in
theorem gX11_behind_X11_isLand : GoodIn wsX11_behind (wsV RX11 129 RX11 yX11_isLand wsX11_isLand) := goodIn_app (goodIn_r _ [5, 6, 7, 8] rfl (by decide +kernel)) ggX11_behind_X11_isLand
set_option maxRecDepth 20000 in
theorem ggX11_behind_X11_in : GoodIn wsX11_behind wsX11_in := goodIn_r _ [13] rfl (by decide +kernel)
set_option maxRecDepth 20000 in
theorem gX11_behind_X11_in : GoodIn wsX11_behind (va_wsS RX11 99 yX11_in wsX11_in) := goodIn_app (goodIn_r _ [11, 12, 8] rfl (by decide +kernel)) ggX11_behind_X11_in
set_option maxRecDepth 20000 in
theorem ggX11_behind_X11_refusal : GoodIn wsX11_behind wsX11_refusal := goodIn_r _ [17, 2, 18, 19, 4, 20, 21, 22, 23, 8, 24, 25, 26, 27, 28, 29, 30, 31, 32, 33, 5, 6, 7, 9, 10, 11, 12, 13, 34, 35, 36, 37, 38, 39, 40, 3, 41, 42, 43, 44, 45, 46, 47, 48, 49, 50, 51, 52, 53, 54, 55, 56, 57, 58, 59, 60, 61, 62, 63, 64, 65, 66, 67, 68, 69, 70, 71, 72, 73, 74, 75, 76, 77, 78, 79, 80, 81, 82, 83, 84, 85, 86, 87, 88, 89, 90, 91, 92, 93, 94, 95, 96, 97, 98, 99, 100, 101, 102, 103, 104, 105, 106, 107, 108, 109, 110, 111, 112, 113, 114, 115, 116, 117, 118, 119, 120, 121, 122, 123, 124, 125, 126, 127, 128, 129] rfl (by decide +kernel)
set_option maxRecDepth 20000 in
theorem gX11_behind_X11_refusal : GoodIn wsX11_behind (wsV RX11 209 RX11 yX11_refusal wsX11_refusal) := goodIn_app (goodIn_r _ [14, 15, 16, 8] rfl (by decide +kernel)) ggX11_behind_X11_refusal
set_option maxRecDepth 20000 in
theorem ggX11_behind_X11_isLit : GoodIn wsX11_behind wsX11_isLit := goodIn_r _ [65, 66, 67, 68, 8, 69, 10, 70, 71, 72, 73, 74, 75, 76, 77, 78, 79, 80, 81, 82, 91, 92, 93, 94, 95, 96, 97, 98, 99, 100, 101, 102, 103, 104, 105, 106, 107, 108, 109, 110, 111, 112, 113, 114, 115, 116, 117, 118, 119, 120, 121, 122, 123, 124, 125, 126, 127, 128, 129] rfl (by decide +kernel)
set_option maxRecDepth 20000 in
theorem gX11_behind_X11_isLit : GoodIn wsX11_behind (wsV RX11 159 RX11 yX11_isLit wsX11_isLit) := goodIn_app (goodIn_r _ [62, 63, 64, 8] rfl (by decide +kernel)) ggX11_behind_X11_isLit
theorem dX11_behind_0 : decode cX11_behind 0 = .ok (.aload_n 0, 1) := by decide +kernel
theorem dX11_behind_1 : decode cX11_behind 1 = .ok (.iload_n 1, 1) := by decide +kernel
theorem dX11_behind_2 : decode cX11_behind 2 = .ok (.invokevirtual 129, 3) := by decide +kernel
theorem dX11_behind_5 : decode cX11_behind 5 = .ok (.ifCond .ne 5, 3) := by decide +kernel
theorem dX11_behind_8 : decode cX11_behind 8 = .ok (.iconst (-1), 1) := by decide +kernel
theorem dX11_behind_9 : decode cX11_behind 9 = .ok (.ireturn, 1) := by decide +kernel
theorem dX11_behind_10 : decode cX11_behind 10 = .ok (.iload_n 2, 1) := by decide +kernel
theorem dX11_behind_11 : decode cX11_behind 11 = .ok (.i2l, 1) := by decide +kernel
theorem dX11_behind_12 : decode cX11_behind 12 = .ok (.lconst 0, 1) := by decide +kernel
theorem dX11_behind_13 : decode cX11_behind 13 = .ok (.ldc2_w 105, 3) := by decide +kernel
theorem dX11_behind_16 : decode cX11_behind 16 = .ok (.invokestatic 99, 3) := by decide +kernel
theorem dX11_behind_19 : decode cX11_behind 19 = .ok (.ifCond .ne 6, 3) := by decide +kernel
theorem dX11_behind_22 : decode cX11_behind 22 = .ok (.bipush (-2), 2) := by decide +kernel
theorem dX11_behind_24 : decode cX11_behind 24 = .ok (.ireturn, 1) := by decide +kernel
theorem dX11_behind_25 : decode cX11_behind 25 = .ok (.aload_n 0, 1) := by decide +kernel
theorem dX11_behind_26 : decode cX11_behind 26 = .ok (.invokevirtual 209, 3) := by decide +kernel
theorem dX11_behind_29 : decode cX11_behind 29 = .ok (.istore_n 3, 1) := by decide +kernel
theorem dX11_behind_30 : decode cX11_behind 30 = .ok (.iload_n 3, 1) := by decide +kernel
theorem dX11_behind_31 : decode cX11_behind 31 = .ok (.bipush (-6), 2) := by decide +kernel
theorem dX11_behind_33 : decode cX11_behind 33 = .ok (.if_icmp .eq 5, 3) := by decide +kernel
theorem dX11_behind_36 : decode cX11_behind 36 = .ok (.iload_n 3, 1) := by decide +kernel
theorem dX11_behind_37 : decode cX11_behind 37 = .ok (.ireturn, 1) := by decide +kernel
theorem dX11_behind_38 : decode cX11_behind 38 = .ok (.iload_n 2, 1) := by decide +kernel
theorem dX11_behind_39 : decode cX11_behind 39 = .ok (.ifCond .ne 12, 3) := by decide +kernel
theorem dX11_behind_42 : decode cX11_behind 42 = .ok (.aload_n 0, 1) := by decide +kernel
theorem dX11_behind_43 : decode cX11_behind 43 = .ok (.getfield 43, 3) := by decide +kernel
theorem dX11_behind_46 : decode cX11_behind 46 = .ok (.iload_n 1, 1) := by decide +kernel
theorem dX11_behind_47 : decode cX11_behind 47 = .ok (.iaload, 1) := by decide +kernel
theorem dX11_behind_48 : decode cX11_behind 48 = .ok (.goto 34, 3) := by decide +kernel
theorem dX11_behind_51 : decode cX11_behind 51 = .ok (.iload_n 2, 1) := by decide +kernel
theorem dX11_behind_52 : decode cX11_behind 52 = .ok (.iconst 1, 1) := by decide +kernel
theorem dX11_behind_53 : decode cX11_behind 53 = .ok (.if_icmp .ne 12, 3) := by decide +kernel
theorem dX11_behind_56 : decode cX11_behind 56 = .ok (.aload_n 0, 1) := by decide +kernel
theorem dX11_behind_57 : decode cX11_behind 57 = .ok (.getfield 37, 3) := by decide +kernel
theorem dX11_behind_60 : decode cX11_behind 60 = .ok (.iload_n 1, 1) := by decide +kernel
theorem dX11_behind_61 : decode cX11_behind 61 = .ok (.iaload, 1) := by decide +kernel
theorem dX11_behind_62 : decode cX11_behind 62 = .ok (.goto 20, 3) := by decide +kernel
theorem dX11_behind_65 : decode cX11_behind 65 = .ok (.aload_n 0, 1) := by decide +kernel
theorem dX11_behind_66 : decode cX11_behind 66 = .ok (.iload_n 1, 1) := by decide +kernel
theorem dX11_behind_67 : decode cX11_behind 67 = .ok (.aload_n 0, 1) := by decide +kernel
theorem dX11_behind_68 : decode cX11_behind 68 = .ok (.getfield 203, 3) := by decide +kernel
theorem dX11_behind_71 : decode cX11_behind 71 = .ok (.invokevirtual 159, 3) := by decide +kernel
theorem dX11_behind_74 : decode cX11_behind 74 = .ok (.ifCond .eq 7, 3) := by decide +kernel
theorem dX11_behind_77 : decode cX11_behind 77 = .ok (.iconst 1, 1) := by decide +kernel
theorem dX11_behind_78 : decode cX11_behind 78 = .ok (.goto 4, 3) := by decide +kernel
theorem dX11_behind_81 : decode cX11_behind 81 = .ok (.iconst 0, 1) := by decide +kernel
theorem dX11_behind_82 : decode cX11_behind 82 = .ok (.ireturn, 1) := by decide +kernel
set_option maxRecDepth 20000 in
theorem ggX11_done_X11_refusal : GoodIn wsX11_done wsX11_refusal := goodIn_r _ [7, 8, 9, 10, 11, 12, 13, 14, 15, 6, 16, 2, 1, 17, 18, 19, 20, 21, 22, 23, 24, 25, 26, 27, 28, 29, 30, 31, 32, 33, 34, 35, 36, 37, 38, 39, 40, 41, 42, 43, 44, 45, 46, 47, 48, 49, 50, 51, 52, 53, 54, 55, 56, 57, 58, 59, 60, 61, 62, 63, 64, 65, 66, 67, 68, 69, 70, 71, 72, 73, 74, 75, 76, 77, 78, 79, 80, 81, 82, 83, 84, 85, 86, 87, 88, 89, 90, 91, 92, 93, 94, 95, 96, 97, 98, 99, 100, 101, 102, 103, 104, 105, 106, 107, 108, 109, 110, 111, 112, 113, 114, 115, 116, 117, 118, 119, 120, 121, 122, 123, 124, 125, 126, 127, 128] rfl (by decide +kernel)
set_option maxRecDepth 20000 in
theorem gX11_done_X11_refusal : GoodIn wsX11_done (wsV RX11 209 RX11 yX11_refusal wsX11_refusal) := goodIn_app (goodIn_r _ [3, 4, 5, 6] rfl (by decide +kernel)) ggX11_done_X11_refusal
set_option maxRecDepth 20000 in
theorem ggX11_done_X11_goAges : GoodIn wsX11_done wsX11_goAges := goodIn_r _ [46, 12, 47, 48, 2, 20, 21, 22, 23, 49, 50, 51, 6, 52, 9, 40, 41, 42, 53, 54, 55, 56, 57, 58, 59, 60, 28, 10, 38, 39, 61, 62, 63, 64, 65, 66, 67, 68, 69, 70, 71, 72, 73, 74, 75, 76, 77, 78, 79, 80, 81, 82, 83, 84, 85, 90, 91, 92, 93, 94, 95, 96, 97, 98, 99, 100, 101, 102, 103, 104, 105, 106, 107, 108, 109, 110, 111, 112, 113, 114, 115, 116, 117, 118, 119, 120, 121, 122, 123, 124, 125, 126, 127, 128] rfl (by decide +kernel)
set_option maxRecDepth 20000 in
theorem gX11_done_X11_goAges : GoodIn wsX11_done (wsV RX11 200 RX11 yX11_goAges wsX11_goAges) := goodIn_app (goodIn_r _ [43, 44, 45, 6] rfl (by decide +kernel)) ggX11_done_X11_goAges
theorem dX11_done_0 : decode cX11_done 0 = .ok (.aload_n 0, 1) := by decide +kernel
theorem dX11_done_1 : decode cX11_done 1 = .ok (.invokevirtual 209, 3) := by decide +kernel
theorem dX11_done_4 : decode cX11_done 4 = .ok (.istore_n 1, 1) := by decide +kernel
theorem dX11_done_5 : decode cX11_done 5 = .ok (.iload_n 1, 1) := by decide +kernel
theorem dX11_done_6 : decode cX11_done 6 = .ok (.bipush (-6), 2) := by decide +kernel
theorem dX11_done_8 : decode cX11_done 8 = .ok (.if_icmp .eq 5, 3) := by decide +kernel
theorem dX11_done_11 : decode cX11_done 11 = .ok (.iload_n 1, 1) := by decide +kernel
theorem dX11_done_12 : decode cX11_done 12 = .ok (.ireturn, 1) := by decide +kernel
theorem dX11_done_13 : decode cX11_done 13 = .ok (.aload_n 0, 1) := by decide +kernel
theorem dX11_done_14 : decode cX11_done 14 = .ok (.invokevirtual 200, 3) := by decide +kernel
theorem dX11_done_17 : decode cX11_done 17 = .ok (.aload_n 0, 1) := by decide +kernel
theorem dX11_done_18 : decode cX11_done 18 = .ok (.iconst 0, 1) := by decide +kernel
theorem dX11_done_19 : decode cX11_done 19 = .ok (.putfield 139, 3) := by decide +kernel
theorem dX11_done_22 : decode cX11_done 22 = .ok (.aload_n 0, 1) := by decide +kernel
theorem dX11_done_23 : decode cX11_done 23 = .ok (.getfield 142, 3) := by decide +kernel
theorem dX11_done_26 : decode cX11_done 26 = .ok (.ireturn, 1) := by decide +kernel
set_option maxRecDepth 20000 in
theorem ggX11_lit_X11_isLand : GoodIn wsX11_lit wsX11_isLand := goodIn_r _ [5, 6, 7, 8, 4, 9, 35, 36, 37, 38, 39, 40, 41, 42, 43, 44, 45, 46, 47, 48, 49, 50, 51, 52, 53, 54, 55, 56, 57, 58, 59, 60, 61, 62, 63, 64, 65, 66, 67, 68, 69, 70, 71, 72, 73] rfl (by decide +kernel)
set_option maxRecDepth 20000 in
theorem gX11_lit_X11_isLand : GoodIn wsX11_lit (wsV RX11 129 RX11 yX11_isLand wsX11_isLand) := goodIn_app (goodIn_r _ [1, 2, 3, 4] rfl (by decide +kernel)) ggX11_lit_X11_isLand
set_option maxRecDepth 20000 in
theorem ggX11_lit_X11_isYear : GoodIn wsX11_lit wsX11_isYear := goodIn_r _ [12, 13, 7, 8, 4, 9] rfl (by decide +kernel)
set_option maxRecDepth 20000 in
theorem gX11_lit_X11_isYear : GoodIn wsX11_lit (va_wsS RX11 212 yX11_isYear wsX11_isYear) := goodIn_app (goodIn_r _ [10, 11, 4] rfl (by decide +kernel)) ggX11_lit_X11_isYear
set_option maxRecDepth 20000 in
theorem ggX11_lit_X11_isLit : GoodIn wsX11_lit wsX11_isLit := goodIn_r _ [17, 18, 19, 20, 4, 21, 6, 22, 23, 24, 25, 26, 27, 28, 29, 30, 31, 32, 33, 34, 35, 36, 37, 38, 39, 40, 41, 42, 43, 44, 45, 46, 47, 48, 49, 50, 51, 52, 53, 54, 55, 56, 57, 58, 59, 60, 61, 62, 63, 64, 65, 66, 67, 68, 69, 70, 71, 72, 73] rfl (by decide +kernel)
set_option maxRecDepth 20000 in
theorem gX11_lit_X11_isLit : GoodIn wsX11_lit (wsV RX11 159 RX11 yX11_isLit wsX11_isLit) := goodIn_app (goodIn_r _ [14, 15, 16, 4] rfl (by decide +kernel)) ggX11_lit_X11_isLit
theorem dX11_lit_0 : decode cX11_lit 0 = .ok (.aload_n 0, 1) := by decide +kernel
theorem dX11_lit_1 : decode cX11_lit 1 = .ok (.iload_n 1, 1) := by decide +kernel
theorem dX11_lit_2 : decode cX11_lit 2 = .ok (.invokevirtual 129, 3) := by decide +kernel
theorem dX11_lit_5 : decode cX11_lit 5 = .ok (.ifCond .ne 5, 3) := by decide +kernel
theorem dX11_lit_8 : decode cX11_lit 8 = .ok (.iconst (-1), 1) := by decide +kernel
theorem dX11_lit_9 : decode cX11_lit 9 = .ok (.ireturn, 1) := by decide +kernel
theorem dX11_lit_10 : decode cX11_lit 10 = .ok (.iload_n 2, 1) := by decide +kernel
theorem dX11_lit_11 : decode cX11_lit 11 = .ok (.invokestatic 212, 3) := by decide +kernel
theorem dX11_lit_14 : decode cX11_lit 14 = .ok (.ifCond .ne 8, 3) := by decide +kernel
theorem dX11_lit_17 : decode cX11_lit 17 = .ok (.bipush (-2), 2) := by decide +kernel
theorem dX11_lit_19 : decode cX11_lit 19 = .ok (.goto 17, 3) := by decide +kernel
theorem dX11_lit_22 : decode cX11_lit 22 = .ok (.aload_n 0, 1) := by decide +kernel
theorem dX11_lit_23 : decode cX11_lit 23 = .ok (.iload_n 1, 1) := by decide +kernel
theorem dX11_lit_24 : decode cX11_lit 24 = .ok (.iload_n 2, 1) := by decide +kernel
theorem dX11_lit_25 : decode cX11_lit 25 = .ok (.invokevirtual 159, 3) := by decide +kernel
theorem dX11_lit_28 : decode cX11_lit 28 = .ok (.ifCond .eq 7, 3) := by decide +kernel
theorem dX11_lit_31 : decode cX11_lit 31 = .ok (.iconst 1, 1) := by decide +kernel
theorem dX11_lit_32 : decode cX11_lit 32 = .ok (.goto 4, 3) := by decide +kernel
theorem dX11_lit_35 : decode cX11_lit 35 = .ok (.iconst 0, 1) := by decide +kernel
theorem dX11_lit_36 : decode cX11_lit 36 = .ok (.ireturn, 1) := by decide +kernel
set_option maxRecDepth 20000 in
theorem ggX11_covered_X11_isYear : GoodIn wsX11_covered wsX11_isYear := goodIn_r _ [8, 9, 10, 11, 7, 12] rfl (by decide +kernel)
set_option maxRecDepth 20000 in
theorem gX11_covered_X11_isYear : GoodIn wsX11_covered (va_wsS RX11 212 yX11_isYear wsX11_isYear) := goodIn_app (goodIn_r _ [5, 6, 7] rfl (by decide +kernel)) ggX11_covered_X11_isYear
set_option maxRecDepth 20000 in
theorem ggX11_covered_X11_firstCovered : GoodIn wsX11_covered wsX11_firstCovered := goodIn_r _ [15] rfl (by decide +kernel)
set_option maxRecDepth 20000 in
theorem gX11_covered_X11_firstCovered : GoodIn wsX11_covered (va_wsS RX11 149 yX11_firstCovered wsX11_firstCovered) := goodIn_app (goodIn_r _ [13, 14, 7] rfl (by decide +kernel)) ggX11_covered_X11_firstCovered
theorem dX11_covered_0 : decode cX11_covered 0 = .ok (.iload_n 1, 1) := by decide +kernel
theorem dX11_covered_1 : decode cX11_covered 1 = .ok (.invokestatic 212, 3) := by decide +kernel
theorem dX11_covered_4 : decode cX11_covered 4 = .ok (.ifCond .eq 26, 3) := by decide +kernel
theorem dX11_covered_7 : decode cX11_covered 7 = .ok (.aload_n 0, 1) := by decide +kernel
theorem dX11_covered_8 : decode cX11_covered 8 = .ok (.getfield 83, 3) := by decide +kernel
theorem dX11_covered_11 : decode cX11_covered 11 = .ok (.aload_n 0, 1) := by decide +kernel
theorem dX11_covered_12 : decode cX11_covered 12 = .ok (.getfield 86, 3) := by decide +kernel
theorem dX11_covered_15 : decode cX11_covered 15 = .ok (.aload_n 0, 1) := by decide +kernel
theorem dX11_covered_16 : decode cX11_covered 16 = .ok (.getfield 69, 3) := by decide +kernel
theorem dX11_covered_19 : decode cX11_covered 19 = .ok (.aload_n 0, 1) := by decide +kernel
theorem dX11_covered_20 : decode cX11_covered 20 = .ok (.getfield 115, 3) := by decide +kernel
theorem dX11_covered_23 : decode cX11_covered 23 = .ok (.iload_n 1, 1) := by decide +kernel
theorem dX11_covered_24 : decode cX11_covered 24 = .ok (.invokestatic 149, 3) := by decide +kernel
theorem dX11_covered_27 : decode cX11_covered 27 = .ok (.goto 5, 3) := by decide +kernel
theorem dX11_covered_30 : decode cX11_covered 30 = .ok (.bipush (-2), 2) := by decide +kernel
theorem dX11_covered_32 : decode cX11_covered 32 = .ok (.ireturn, 1) := by decide +kernel
set_option maxRecDepth 20000 in
theorem ggX11_lits_X11_isLand : GoodIn wsX11_lits wsX11_isLand := goodIn_r _ [6, 7, 8, 9, 5, 10, 36, 37, 38, 39, 40, 41, 42, 43, 44, 45, 46, 47, 48, 49, 50, 51, 52, 53, 54, 55, 56, 57, 58, 59, 60, 61, 62, 63, 64, 65, 66, 67, 68, 69, 70, 71, 72, 73, 74] rfl (by decide +kernel)
set_option maxRecDepth 20000 in
theorem gX11_lits_X11_isLand : GoodIn wsX11_lits (wsV RX11 129 RX11 yX11_isLand wsX11_isLand) := goodIn_app (goodIn_r _ [2, 3, 4, 5] rfl (by decide +kernel)) ggX11_lits_X11_isLand
set_option maxRecDepth 20000 in
theorem ggX11_lits_X11_isYear : GoodIn wsX11_lits wsX11_isYear := goodIn_r _ [13, 14, 8, 9, 5, 10] rfl (by decide +kernel)
set_option maxRecDepth 20000 in
theorem gX11_lits_X11_isYear : GoodIn wsX11_lits (va_wsS RX11 212 yX11_isYear wsX11_isYear) := goodIn_app (goodIn_r _ [11, 12, 5] rfl (by decide +kernel)) ggX11_lits_X11_isYear
set_option maxRecDepth 20000 in
theorem ggX11_lits_X11_in : GoodIn wsX11_lits wsX11_in := goodIn_r _ [10] rfl (by decide +kernel)
set_option maxRecDepth 20000 in
theorem gX11_lits_X11_in : GoodIn wsX11_lits (va_wsS RX11 99 yX11_in wsX11_in) := goodIn_app (goodIn_r _ [8, 9, 5] rfl (by decide +kernel)) ggX11_lits_X11_in
set_option maxRecDepth 20000 in
theorem ggX11_lits_X11_isLit : GoodIn wsX11_lits wsX11_isLit := goodIn_r _ [18, 19, 20, 21, 5, 22, 7, 23, 24, 25, 26, 27, 28, 29, 30, 31, 32, 33, 34, 35, 36, 37, 38, 39, 40, 41, 42, 43, 44, 45, 46, 47, 48, 49, 50, 51, 52, 53, 54, 55, 56, 57, 58, 59, 60, 61, 62, 63, 64, 65, 66, 67, 68, 69, 70, 71, 72, 73, 74] rfl (by decide +kernel)
set_option maxRecDepth 20000 in
theorem gX11_lits_X11_isLit : GoodIn wsX11_lits (wsV RX11 159 RX11 yX11_isLit wsX11_isLit) := goodIn_app (goodIn_r _ [15, 16, 17, 5] rfl (by decide +kernel)) ggX11_lits_X11_isLit
theorem dX11_lits_0 : decode cX11_lits 0 = .ok (.aload_n 0, 1) := by decide +kernel
theorem dX11_lits_1 : decode cX11_lits 1 = .ok (.iload_n 1, 1) := by decide +kernel
theorem dX11_lits_2 : decode cX11_lits 2 = .ok (.invokevirtual 129, 3) := by decide +kernel
theorem dX11_lits_5 : decode cX11_lits 5 = .ok (.ifCond .ne 5, 3) := by decide +kernel
theorem dX11_lits_8 : decode cX11_lits 8 = .ok (.iconst (-1), 1) := by decide +kernel
theorem dX11_lits_9 : decode cX11_lits 9 = .ok (.ireturn, 1) := by decide +kernel
theorem dX11_lits_10 : decode cX11_lits 10 = .ok (.iload_n 2, 1) := by decide +kernel
theorem dX11_lits_11 : decode cX11_lits 11 = .ok (.invokestatic 212, 3) := by decide +kernel
theorem dX11_lits_14 : decode cX11_lits 14 = .ok (.ifCond .eq 15, 3) := by decide +kernel
theorem dX11_lits_17 : decode cX11_lits 17 = .ok (.iload_n 3, 1) := by decide +kernel
theorem dX11_lits_18 : decode cX11_lits 18 = .ok (.i2l, 1) := by decide +kernel
theorem dX11_lits_19 : decode cX11_lits 19 = .ok (.lconst 0, 1) := by decide +kernel
theorem dX11_lits_20 : decode cX11_lits 20 = .ok (.ldc2_w 215, 3) := by decide +kernel
theorem dX11_lits_23 : decode cX11_lits 23 = .ok (.invokestatic 99, 3) := by decide +kernel
theorem dX11_lits_26 : decode cX11_lits 26 = .ok (.ifCond .ne 6, 3) := by decide +kernel
theorem dX11_lits_29 : decode cX11_lits 29 = .ok (.bipush (-2), 2) := by decide +kernel
theorem dX11_lits_31 : decode cX11_lits 31 = .ok (.ireturn, 1) := by decide +kernel
theorem dX11_lits_32 : decode cX11_lits 32 = .ok (.iconst 0, 1) := by decide +kernel
theorem dX11_lits_33 : decode cX11_lits 33 = .ok (.istore 4, 2) := by decide +kernel
theorem dX11_lits_35 : decode cX11_lits 35 = .ok (.iload_n 2, 1) := by decide +kernel
theorem dX11_lits_36 : decode cX11_lits 36 = .ok (.istore 5, 2) := by decide +kernel
theorem dX11_lits_38 : decode cX11_lits 38 = .ok (.iload 5, 2) := by decide +kernel
theorem dX11_lits_40 : decode cX11_lits 40 = .ok (.iload_n 2, 1) := by decide +kernel
theorem dX11_lits_41 : decode cX11_lits 41 = .ok (.iload_n 3, 1) := by decide +kernel
theorem dX11_lits_42 : decode cX11_lits 42 = .ok (.iadd, 1) := by decide +kernel
theorem dX11_lits_43 : decode cX11_lits 43 = .ok (.if_icmp .ge 29, 3) := by decide +kernel
theorem dX11_lits_46 : decode cX11_lits 46 = .ok (.iload 4, 2) := by decide +kernel
theorem dX11_lits_48 : decode cX11_lits 48 = .ok (.aload_n 0, 1) := by decide +kernel
theorem dX11_lits_49 : decode cX11_lits 49 = .ok (.iload_n 1, 1) := by decide +kernel
theorem dX11_lits_50 : decode cX11_lits 50 = .ok (.iload 5, 2) := by decide +kernel
theorem dX11_lits_52 : decode cX11_lits 52 = .ok (.invokevirtual 159, 3) := by decide +kernel
theorem dX11_lits_55 : decode cX11_lits 55 = .ok (.ifCond .eq 7, 3) := by decide +kernel
theorem dX11_lits_58 : decode cX11_lits 58 = .ok (.iconst 1, 1) := by decide +kernel
theorem dX11_lits_59 : decode cX11_lits 59 = .ok (.goto 4, 3) := by decide +kernel
theorem dX11_lits_62 : decode cX11_lits 62 = .ok (.iconst 0, 1) := by decide +kernel
theorem dX11_lits_63 : decode cX11_lits 63 = .ok (.iadd, 1) := by decide +kernel
theorem dX11_lits_64 : decode cX11_lits 64 = .ok (.istore 4, 2) := by decide +kernel
theorem dX11_lits_66 : decode cX11_lits 66 = .ok (.iinc 5 1, 3) := by decide +kernel
theorem dX11_lits_69 : decode cX11_lits 69 = .ok (.goto (-31), 3) := by decide +kernel
theorem dX11_lits_72 : decode cX11_lits 72 = .ok (.iload 4, 2) := by decide +kernel
theorem dX11_lits_74 : decode cX11_lits 74 = .ok (.ireturn, 1) := by decide +kernel
set_option maxRecDepth 20000 in
theorem ggX11_next_X11_isLand : GoodIn wsX11_next wsX11_isLand := goodIn_r _ [5, 6, 7, 8, 4, 9, 35, 36, 37, 38, 39, 40, 41, 42, 43, 44, 45, 46, 47, 48, 49, 50, 51, 52, 53, 54, 55, 56, 57, 58, 59, 60, 61, 62, 63, 64, 65, 66, 67, 68, 69, 70, 71, 72, 73] rfl (by decide +kernel)
set_option maxRecDepth 20000 in
theorem gX11_next_X11_isLand : GoodIn wsX11_next (wsV RX11 129 RX11 yX11_isLand wsX11_isLand) := goodIn_app (goodIn_r _ [1, 2, 3, 4] rfl (by decide +kernel)) ggX11_next_X11_isLand
set_option maxRecDepth 20000 in
theorem ggX11_next_X11_isYear : GoodIn wsX11_next wsX11_isYear := goodIn_r _ [12, 13, 7, 8, 4, 9] rfl (by decide +kernel)
set_option maxRecDepth 20000 in
theorem gX11_next_X11_isYear : GoodIn wsX11_next (va_wsS RX11 212 yX11_isYear wsX11_isYear) := goodIn_app (goodIn_r _ [10, 11, 4] rfl (by decide +kernel)) ggX11_next_X11_isYear
set_option maxRecDepth 20000 in
theorem ggX11_next_X11_isLit : GoodIn wsX11_next wsX11_isLit := goodIn_r _ [17, 18, 19, 20, 4, 21, 6, 22, 23, 24, 25, 26, 27, 28, 29, 30, 31, 32, 33, 34, 35, 36, 37, 38, 39, 40, 41, 42, 43, 44, 45, 46, 47, 48, 49, 50, 51, 52, 53, 54, 55, 56, 57, 58, 59, 60, 61, 62, 63, 64, 65, 66, 67, 68, 69, 70, 71, 72, 73] rfl (by decide +kernel)
set_option maxRecDepth 20000 in
theorem gX11_next_X11_isLit : GoodIn wsX11_next (wsV RX11 159 RX11 yX11_isLit wsX11_isLit) := goodIn_app (goodIn_r _ [14, 15, 16, 4] rfl (by decide +kernel)) ggX11_next_X11_isLit
theorem dX11_next_0 : decode cX11_next 0 = .ok (.aload_n 0, 1) := by decide +kernel
theorem dX11_next_1 : decode cX11_next 1 = .ok (.iload_n 1, 1) := by decide +kernel
theorem dX11_next_2 : decode cX11_next 2 = .ok (.invokevirtual 129, 3) := by decide +kernel
theorem dX11_next_5 : decode cX11_next 5 = .ok (.ifCond .ne 5, 3) := by decide +kernel
theorem dX11_next_8 : decode cX11_next 8 = .ok (.iconst (-1), 1) := by decide +kernel
theorem dX11_next_9 : decode cX11_next 9 = .ok (.ireturn, 1) := by decide +kernel
theorem dX11_next_10 : decode cX11_next 10 = .ok (.iload_n 2, 1) := by decide +kernel
theorem dX11_next_11 : decode cX11_next 11 = .ok (.invokestatic 212, 3) := by decide +kernel
theorem dX11_next_14 : decode cX11_next 14 = .ok (.ifCond .ne 6, 3) := by decide +kernel
theorem dX11_next_17 : decode cX11_next 17 = .ok (.bipush (-2), 2) := by decide +kernel
theorem dX11_next_19 : decode cX11_next 19 = .ok (.ireturn, 1) := by decide +kernel
theorem dX11_next_20 : decode cX11_next 20 = .ok (.iload_n 2, 1) := by decide +kernel
theorem dX11_next_21 : decode cX11_next 21 = .ok (.istore 4, 2) := by decide +kernel
theorem dX11_next_23 : decode cX11_next 23 = .ok (.iload 4, 2) := by decide +kernel
theorem dX11_next_25 : decode cX11_next 25 = .ok (.iload_n 2, 1) := by decide +kernel
theorem dX11_next_26 : decode cX11_next 26 = .ok (.sipush 2880, 3) := by decide +kernel
theorem dX11_next_29 : decode cX11_next 29 = .ok (.iadd, 1) := by decide +kernel
theorem dX11_next_30 : decode cX11_next 30 = .ok (.if_icmp .ge 23, 3) := by decide +kernel
theorem dX11_next_33 : decode cX11_next 33 = .ok (.aload_n 0, 1) := by decide +kernel
theorem dX11_next_34 : decode cX11_next 34 = .ok (.iload_n 1, 1) := by decide +kernel
theorem dX11_next_35 : decode cX11_next 35 = .ok (.iload 4, 2) := by decide +kernel
theorem dX11_next_37 : decode cX11_next 37 = .ok (.invokevirtual 159, 3) := by decide +kernel
theorem dX11_next_40 : decode cX11_next 40 = .ok (.iload_n 3, 1) := by decide +kernel
theorem dX11_next_41 : decode cX11_next 41 = .ok (.if_icmp .ne 6, 3) := by decide +kernel
theorem dX11_next_44 : decode cX11_next 44 = .ok (.iload 4, 2) := by decide +kernel
theorem dX11_next_46 : decode cX11_next 46 = .ok (.ireturn, 1) := by decide +kernel
theorem dX11_next_47 : decode cX11_next 47 = .ok (.iinc 4 1, 3) := by decide +kernel
theorem dX11_next_50 : decode cX11_next 50 = .ok (.goto (-27), 3) := by decide +kernel
theorem dX11_next_53 : decode cX11_next 53 = .ok (.bipush (-6), 2) := by decide +kernel
theorem dX11_next_55 : decode cX11_next 55 = .ok (.ireturn, 1) := by decide +kernel
set_option maxRecDepth 20000 in
theorem ggX11_longest_X11_isLand : GoodIn wsX11_longest wsX11_isLand := goodIn_r _ [6, 7, 8, 9, 5, 10, 36, 37, 38, 39, 40, 41, 42, 43, 44, 45, 46, 47, 48, 49, 50, 51, 52, 53, 54, 55, 56, 57, 58, 59, 60, 61, 62, 63, 64, 65, 66, 67, 68, 69, 70, 71, 72, 73, 74] rfl (by decide +kernel)
set_option maxRecDepth 20000 in
theorem gX11_longest_X11_isLand : GoodIn wsX11_longest (wsV RX11 129 RX11 yX11_isLand wsX11_isLand) := goodIn_app (goodIn_r _ [2, 3, 4, 5] rfl (by decide +kernel)) ggX11_longest_X11_isLand
set_option maxRecDepth 20000 in
theorem ggX11_longest_X11_isYear : GoodIn wsX11_longest wsX11_isYear := goodIn_r _ [13, 14, 8, 9, 5, 10] rfl (by decide +kernel)
set_option maxRecDepth 20000 in
theorem gX11_longest_X11_isYear : GoodIn wsX11_longest (va_wsS RX11 212 yX11_isYear wsX11_isYear) := goodIn_app (goodIn_r _ [11, 12, 5] rfl (by decide +kernel)) ggX11_longest_X11_isYear
set_option maxRecDepth 20000 in
theorem ggX11_longest_X11_in : GoodIn wsX11_longest wsX11_in := goodIn_r _ [10] rfl (by decide +kernel)
set_option maxRecDepth 20000 in
theorem gX11_longest_X11_in : GoodIn wsX11_longest (va_wsS RX11 99 yX11_in wsX11_in) := goodIn_app (goodIn_r _ [8, 9, 5] rfl (by decide +kernel)) ggX11_longest_X11_in
set_option maxRecDepth 20000 in
theorem ggX11_longest_X11_isLit : GoodIn wsX11_longest wsX11_isLit := goodIn_r _ [18, 19, 20, 21, 5, 22, 7, 23, 24, 25, 26, 27, 28, 29, 30, 31, 32, 33, 34, 35, 36, 37, 38, 39, 40, 41, 42, 43, 44, 45, 46, 47, 48, 49, 50, 51, 52, 53, 54, 55, 56, 57, 58, 59, 60, 61, 62, 63, 64, 65, 66, 67, 68, 69, 70, 71, 72, 73, 74] rfl (by decide +kernel)
set_option maxRecDepth 20000 in
theorem gX11_longest_X11_isLit : GoodIn wsX11_longest (wsV RX11 159 RX11 yX11_isLit wsX11_isLit) := goodIn_app (goodIn_r _ [15, 16, 17, 5] rfl (by decide +kernel)) ggX11_longest_X11_isLit
theorem dX11_longest_0 : decode cX11_longest 0 = .ok (.aload_n 0, 1) := by decide +kernel
theorem dX11_longest_1 : decode cX11_longest 1 = .ok (.iload_n 1, 1) := by decide +kernel
theorem dX11_longest_2 : decode cX11_longest 2 = .ok (.invokevirtual 129, 3) := by decide +kernel
theorem dX11_longest_5 : decode cX11_longest 5 = .ok (.ifCond .ne 5, 3) := by decide +kernel
theorem dX11_longest_8 : decode cX11_longest 8 = .ok (.iconst (-1), 1) := by decide +kernel
theorem dX11_longest_9 : decode cX11_longest 9 = .ok (.ireturn, 1) := by decide +kernel
theorem dX11_longest_10 : decode cX11_longest 10 = .ok (.iload_n 2, 1) := by decide +kernel
theorem dX11_longest_11 : decode cX11_longest 11 = .ok (.invokestatic 212, 3) := by decide +kernel
theorem dX11_longest_14 : decode cX11_longest 14 = .ok (.ifCond .eq 15, 3) := by decide +kernel
theorem dX11_longest_17 : decode cX11_longest 17 = .ok (.iload_n 3, 1) := by decide +kernel
theorem dX11_longest_18 : decode cX11_longest 18 = .ok (.i2l, 1) := by decide +kernel
theorem dX11_longest_19 : decode cX11_longest 19 = .ok (.lconst 0, 1) := by decide +kernel
theorem dX11_longest_20 : decode cX11_longest 20 = .ok (.ldc2_w 217, 3) := by decide +kernel
theorem dX11_longest_23 : decode cX11_longest 23 = .ok (.invokestatic 99, 3) := by decide +kernel
theorem dX11_longest_26 : decode cX11_longest 26 = .ok (.ifCond .ne 6, 3) := by decide +kernel
theorem dX11_longest_29 : decode cX11_longest 29 = .ok (.bipush (-2), 2) := by decide +kernel
theorem dX11_longest_31 : decode cX11_longest 31 = .ok (.ireturn, 1) := by decide +kernel
theorem dX11_longest_32 : decode cX11_longest 32 = .ok (.iconst 0, 1) := by decide +kernel
theorem dX11_longest_33 : decode cX11_longest 33 = .ok (.istore 4, 2) := by decide +kernel
theorem dX11_longest_35 : decode cX11_longest 35 = .ok (.iconst 0, 1) := by decide +kernel
theorem dX11_longest_36 : decode cX11_longest 36 = .ok (.istore 5, 2) := by decide +kernel
theorem dX11_longest_38 : decode cX11_longest 38 = .ok (.iload_n 2, 1) := by decide +kernel
theorem dX11_longest_39 : decode cX11_longest 39 = .ok (.istore 6, 2) := by decide +kernel
theorem dX11_longest_41 : decode cX11_longest 41 = .ok (.iload 6, 2) := by decide +kernel
theorem dX11_longest_43 : decode cX11_longest 43 = .ok (.iload_n 2, 1) := by decide +kernel
theorem dX11_longest_44 : decode cX11_longest 44 = .ok (.iload_n 3, 1) := by decide +kernel
theorem dX11_longest_45 : decode cX11_longest 45 = .ok (.iadd, 1) := by decide +kernel
theorem dX11_longest_46 : decode cX11_longest 46 = .ok (.if_icmp .ge 45, 3) := by decide +kernel
theorem dX11_longest_49 : decode cX11_longest 49 = .ok (.aload_n 0, 1) := by decide +kernel
theorem dX11_longest_50 : decode cX11_longest 50 = .ok (.iload_n 1, 1) := by decide +kernel
theorem dX11_longest_51 : decode cX11_longest 51 = .ok (.iload 6, 2) := by decide +kernel
theorem dX11_longest_53 : decode cX11_longest 53 = .ok (.invokevirtual 159, 3) := by decide +kernel
theorem dX11_longest_56 : decode cX11_longest 56 = .ok (.ifCond .eq 7, 3) := by decide +kernel
theorem dX11_longest_59 : decode cX11_longest 59 = .ok (.iconst 0, 1) := by decide +kernel
theorem dX11_longest_60 : decode cX11_longest 60 = .ok (.goto 7, 3) := by decide +kernel
theorem dX11_longest_63 : decode cX11_longest 63 = .ok (.iload 5, 2) := by decide +kernel
theorem dX11_longest_65 : decode cX11_longest 65 = .ok (.iconst 1, 1) := by decide +kernel
theorem dX11_longest_66 : decode cX11_longest 66 = .ok (.iadd, 1) := by decide +kernel
theorem dX11_longest_67 : decode cX11_longest 67 = .ok (.istore 5, 2) := by decide +kernel
theorem dX11_longest_69 : decode cX11_longest 69 = .ok (.iload 5, 2) := by decide +kernel
theorem dX11_longest_71 : decode cX11_longest 71 = .ok (.iload 4, 2) := by decide +kernel
theorem dX11_longest_73 : decode cX11_longest 73 = .ok (.if_icmp .le 8, 3) := by decide +kernel
theorem dX11_longest_76 : decode cX11_longest 76 = .ok (.iload 5, 2) := by decide +kernel
theorem dX11_longest_78 : decode cX11_longest 78 = .ok (.goto 5, 3) := by decide +kernel
theorem dX11_longest_81 : decode cX11_longest 81 = .ok (.iload 4, 2) := by decide +kernel
theorem dX11_longest_83 : decode cX11_longest 83 = .ok (.istore 4, 2) := by decide +kernel
theorem dX11_longest_85 : decode cX11_longest 85 = .ok (.iinc 6 1, 3) := by decide +kernel
theorem dX11_longest_88 : decode cX11_longest 88 = .ok (.goto (-47), 3) := by decide +kernel
theorem dX11_longest_91 : decode cX11_longest 91 = .ok (.iload 4, 2) := by decide +kernel
theorem dX11_longest_93 : decode cX11_longest 93 = .ok (.ireturn, 1) := by decide +kernel
set_option maxRecDepth 20000 in
theorem ggX11_hungry_X11_in : GoodIn wsX11_hungry wsX11_in := goodIn_r _ [6] rfl (by decide +kernel)
set_option maxRecDepth 20000 in
theorem gX11_hungry_X11_in : GoodIn wsX11_hungry (va_wsS RX11 99 yX11_in wsX11_in) := goodIn_app (goodIn_r _ [3, 4, 5] rfl (by decide +kernel)) ggX11_hungry_X11_in
set_option maxRecDepth 20000 in
theorem ggX11_hungry_X11_keepNow : GoodIn wsX11_hungry wsX11_keepNow := goodIn_r _ [10, 11, 12, 13, 14, 15, 2, 16, 17, 5, 18, 52, 53, 54, 55, 56, 57, 58, 59, 60, 61, 62, 63, 64, 65, 66, 67, 68, 69, 70, 71, 72, 73, 74, 75, 76, 77, 78, 79, 80, 81, 82, 83, 84, 85, 86, 87, 88, 89, 90] rfl (by decide +kernel)
set_option maxRecDepth 20000 in
theorem gX11_hungry_X11_keepNow : GoodIn wsX11_hungry (wsV RX11 197 RX11 yX11_keepNow wsX11_keepNow) := goodIn_app (goodIn_r _ [7, 8, 9, 5] rfl (by decide +kernel)) ggX11_hungry_X11_keepNow
set_option maxRecDepth 20000 in
theorem ggX11_hungry_X11_passYear : GoodIn wsX11_hungry wsX11_passYear := goodIn_r _ [22, 1, 13, 15, 2, 23, 24, 25, 5, 26, 27, 28, 29, 30, 31, 32, 33, 34, 35, 36, 37, 38, 39, 40, 41, 42, 43, 44, 45, 46, 47, 12, 16, 17, 18, 52, 53, 54, 55, 56, 57, 58, 59, 60, 61, 62, 63, 64, 65, 66, 67, 68, 69, 70, 71, 72, 73, 74, 75, 76, 77, 78, 79, 80, 81, 82, 83, 84, 85, 86, 87, 88, 89, 90] rfl (by decide +kernel)
set_option maxRecDepth 20000 in
theorem gX11_hungry_X11_passYear : GoodIn wsX11_hungry (wsV RX11 189 RX11 yX11_passYear wsX11_passYear) := goodIn_app (goodIn_r _ [19, 20, 21, 5] rfl (by decide +kernel)) ggX11_hungry_X11_passYear
set_option maxRecDepth 20000 in
theorem ggX11_hungry_X11_putBack : GoodIn wsX11_hungry wsX11_putBack := goodIn_r _ [51, 12, 11, 14, 13, 16, 17, 5, 18, 52, 53, 54, 55, 56, 57, 58, 59, 60, 61, 62, 63, 64, 65, 66, 67, 68, 69, 70, 71, 72, 73, 74, 75, 76, 77, 78, 79, 80, 81, 82, 83, 84, 85, 86, 87, 88, 89, 90] rfl (by decide +kernel)
set_option maxRecDepth 20000 in
theorem gX11_hungry_X11_putBack : GoodIn wsX11_hungry (wsV RX11 206 RX11 yX11_putBack wsX11_putBack) := goodIn_app (goodIn_r _ [48, 49, 50, 5] rfl (by decide +kernel)) ggX11_hungry_X11_putBack
theorem dX11_hungry_0 : decode cX11_hungry 0 = .ok (.iload_n 1, 1) := by decide +kernel
theorem dX11_hungry_1 : decode cX11_hungry 1 = .ok (.i2l, 1) := by decide +kernel
theorem dX11_hungry_2 : decode cX11_hungry 2 = .ok (.lconst 0, 1) := by decide +kernel
theorem dX11_hungry_3 : decode cX11_hungry 3 = .ok (.lconst 1, 1) := by decide +kernel
theorem dX11_hungry_4 : decode cX11_hungry 4 = .ok (.invokestatic 99, 3) := by decide +kernel
theorem dX11_hungry_7 : decode cX11_hungry 7 = .ok (.ifCond .ne 6, 3) := by decide +kernel
theorem dX11_hungry_10 : decode cX11_hungry 10 = .ok (.bipush (-2), 2) := by decide +kernel
theorem dX11_hungry_12 : decode cX11_hungry 12 = .ok (.ireturn, 1) := by decide +kernel
theorem dX11_hungry_13 : decode cX11_hungry 13 = .ok (.aload_n 0, 1) := by decide +kernel
theorem dX11_hungry_14 : decode cX11_hungry 14 = .ok (.invokevirtual 197, 3) := by decide +kernel
theorem dX11_hungry_17 : decode cX11_hungry 17 = .ok (.bipush (-6), 2) := by decide +kernel
theorem dX11_hungry_19 : decode cX11_hungry 19 = .ok (.istore_n 2, 1) := by decide +kernel
theorem dX11_hungry_20 : decode cX11_hungry 20 = .ok (.bipush (-6), 2) := by decide +kernel
theorem dX11_hungry_22 : decode cX11_hungry 22 = .ok (.istore_n 3, 1) := by decide +kernel
theorem dX11_hungry_23 : decode cX11_hungry 23 = .ok (.iconst 1, 1) := by decide +kernel
theorem dX11_hungry_24 : decode cX11_hungry 24 = .ok (.istore 4, 2) := by decide +kernel
theorem dX11_hungry_26 : decode cX11_hungry 26 = .ok (.iload 4, 2) := by decide +kernel
theorem dX11_hungry_28 : decode cX11_hungry 28 = .ok (.bipush 99, 2) := by decide +kernel
theorem dX11_hungry_30 : decode cX11_hungry 30 = .ok (.if_icmp .gt 28, 3) := by decide +kernel
theorem dX11_hungry_33 : decode cX11_hungry 33 = .ok (.iload_n 2, 1) := by decide +kernel
theorem dX11_hungry_34 : decode cX11_hungry 34 = .ok (.ifCond .ge 24, 3) := by decide +kernel
theorem dX11_hungry_37 : decode cX11_hungry 37 = .ok (.aload_n 0, 1) := by decide +kernel
theorem dX11_hungry_38 : decode cX11_hungry 38 = .ok (.invokevirtual 189, 3) := by decide +kernel
theorem dX11_hungry_41 : decode cX11_hungry 41 = .ok (.ifCond .eq 8, 3) := by decide +kernel
theorem dX11_hungry_44 : decode cX11_hungry 44 = .ok (.iload 4, 2) := by decide +kernel
theorem dX11_hungry_46 : decode cX11_hungry 46 = .ok (.goto 5, 3) := by decide +kernel
theorem dX11_hungry_49 : decode cX11_hungry 49 = .ok (.bipush (-6), 2) := by decide +kernel
theorem dX11_hungry_51 : decode cX11_hungry 51 = .ok (.istore_n 2, 1) := by decide +kernel
theorem dX11_hungry_52 : decode cX11_hungry 52 = .ok (.iinc 4 1, 3) := by decide +kernel
theorem dX11_hungry_55 : decode cX11_hungry 55 = .ok (.goto (-29), 3) := by decide +kernel
theorem dX11_hungry_58 : decode cX11_hungry 58 = .ok (.aload_n 0, 1) := by decide +kernel
theorem dX11_hungry_59 : decode cX11_hungry 59 = .ok (.getfield 83, 3) := by decide +kernel
theorem dX11_hungry_62 : decode cX11_hungry 62 = .ok (.iconst 1, 1) := by decide +kernel
theorem dX11_hungry_63 : decode cX11_hungry 63 = .ok (.isub, 1) := by decide +kernel
theorem dX11_hungry_64 : decode cX11_hungry 64 = .ok (.istore 4, 2) := by decide +kernel
theorem dX11_hungry_66 : decode cX11_hungry 66 = .ok (.iload 4, 2) := by decide +kernel
theorem dX11_hungry_68 : decode cX11_hungry 68 = .ok (.ifCond .lt 26, 3) := by decide +kernel
theorem dX11_hungry_71 : decode cX11_hungry 71 = .ok (.aload_n 0, 1) := by decide +kernel
theorem dX11_hungry_72 : decode cX11_hungry 72 = .ok (.getfield 37, 3) := by decide +kernel
theorem dX11_hungry_75 : decode cX11_hungry 75 = .ok (.iload 4, 2) := by decide +kernel
theorem dX11_hungry_77 : decode cX11_hungry 77 = .ok (.iaload, 1) := by decide +kernel
theorem dX11_hungry_78 : decode cX11_hungry 78 = .ok (.ifCond .le 8, 3) := by decide +kernel
theorem dX11_hungry_81 : decode cX11_hungry 81 = .ok (.iload 4, 2) := by decide +kernel
theorem dX11_hungry_83 : decode cX11_hungry 83 = .ok (.goto 4, 3) := by decide +kernel
theorem dX11_hungry_86 : decode cX11_hungry 86 = .ok (.iload_n 3, 1) := by decide +kernel
theorem dX11_hungry_87 : decode cX11_hungry 87 = .ok (.istore_n 3, 1) := by decide +kernel
theorem dX11_hungry_88 : decode cX11_hungry 88 = .ok (.iinc 4 (-1), 3) := by decide +kernel
theorem dX11_hungry_91 : decode cX11_hungry 91 = .ok (.goto (-25), 3) := by decide +kernel
theorem dX11_hungry_94 : decode cX11_hungry 94 = .ok (.aload_n 0, 1) := by decide +kernel
theorem dX11_hungry_95 : decode cX11_hungry 95 = .ok (.invokevirtual 206, 3) := by decide +kernel
theorem dX11_hungry_98 : decode cX11_hungry 98 = .ok (.iload_n 1, 1) := by decide +kernel
theorem dX11_hungry_99 : decode cX11_hungry 99 = .ok (.ifCond .ne 7, 3) := by decide +kernel
theorem dX11_hungry_102 : decode cX11_hungry 102 = .ok (.iload_n 2, 1) := by decide +kernel
theorem dX11_hungry_103 : decode cX11_hungry 103 = .ok (.goto 4, 3) := by decide +kernel
theorem dX11_hungry_106 : decode cX11_hungry 106 = .ok (.iload_n 3, 1) := by decide +kernel
theorem dX11_hungry_107 : decode cX11_hungry 107 = .ok (.ireturn, 1) := by decide +kernel
set_option maxRecDepth 20000 in
theorem ggX11_lastsFor_X11_at : GoodIn wsX11_lastsFor wsX11_at := goodIn_r _ [7] rfl (by decide +kernel)
set_option maxRecDepth 20000 in
theorem gX11_lastsFor_X11_at : GoodIn wsX11_lastsFor (va_wsS RX11 95 yX11_at wsX11_at) := goodIn_app (goodIn_r _ [4, 5, 6] rfl (by decide +kernel)) ggX11_lastsFor_X11_at
set_option maxRecDepth 20000 in
theorem ggX11_lastsFor_X11_isLit : GoodIn wsX11_lastsFor wsX11_isLit := goodIn_r _ [11, 12, 13, 14, 6, 15, 16, 17, 18, 19, 20, 21, 22, 23, 24, 25, 26, 27, 28, 29, 34, 35, 36, 37, 38, 39, 40, 41, 42, 43, 44, 45, 46, 47, 48, 49, 50, 51, 52, 53, 54, 55, 56, 57, 58, 59, 60, 61, 62, 63, 64, 65, 66, 67, 68, 69, 70, 71, 72] rfl (by decide +kernel)
set_option maxRecDepth 20000 in
theorem gX11_lastsFor_X11_isLit : GoodIn wsX11_lastsFor (wsV RX11 159 RX11 yX11_isLit wsX11_isLit) := goodIn_app (goodIn_r _ [8, 9, 10, 6] rfl (by decide +kernel)) ggX11_lastsFor_X11_isLit
set_option maxRecDepth 20000 in
theorem ggX11_lastsFor_X11_eats : GoodIn wsX11_lastsFor wsX11_eats := goodIn_r _ [33, 1, 4, 5, 6, 7, 34, 35, 36, 37, 38, 39, 40, 41, 42, 43, 44, 45, 46, 47, 48, 49, 50, 51, 52, 53, 54, 55, 56, 57, 58, 59, 60, 61, 62, 63, 64, 65, 66, 67, 68, 69, 70, 71, 72] rfl (by decide +kernel)
set_option maxRecDepth 20000 in
theorem gX11_lastsFor_X11_eats : GoodIn wsX11_lastsFor (wsV RX11 162 RX11 yX11_eats wsX11_eats) := goodIn_app (goodIn_r _ [30, 31, 32, 6] rfl (by decide +kernel)) ggX11_lastsFor_X11_eats
theorem dX11_lastsFor_0 : decode cX11_lastsFor 0 = .ok (.aload_n 0, 1) := by decide +kernel
theorem dX11_lastsFor_1 : decode cX11_lastsFor 1 = .ok (.getfield 7, 3) := by decide +kernel
theorem dX11_lastsFor_4 : decode cX11_lastsFor 4 = .ok (.iconst 2, 1) := by decide +kernel
theorem dX11_lastsFor_5 : decode cX11_lastsFor 5 = .ok (.iload_n 1, 1) := by decide +kernel
theorem dX11_lastsFor_6 : decode cX11_lastsFor 6 = .ok (.invokestatic 95, 3) := by decide +kernel
theorem dX11_lastsFor_9 : decode cX11_lastsFor 9 = .ok (.iload_n 2, 1) := by decide +kernel
theorem dX11_lastsFor_10 : decode cX11_lastsFor 10 = .ok (.iastore, 1) := by decide +kernel
theorem dX11_lastsFor_11 : decode cX11_lastsFor 11 = .ok (.iconst 1, 1) := by decide +kernel
theorem dX11_lastsFor_12 : decode cX11_lastsFor 12 = .ok (.istore 4, 2) := by decide +kernel
theorem dX11_lastsFor_14 : decode cX11_lastsFor 14 = .ok (.iconst 0, 1) := by decide +kernel
theorem dX11_lastsFor_15 : decode cX11_lastsFor 15 = .ok (.istore 5, 2) := by decide +kernel
theorem dX11_lastsFor_17 : decode cX11_lastsFor 17 = .ok (.iload 5, 2) := by decide +kernel
theorem dX11_lastsFor_19 : decode cX11_lastsFor 19 = .ok (.iload_n 3, 1) := by decide +kernel
theorem dX11_lastsFor_20 : decode cX11_lastsFor 20 = .ok (.if_icmp .ge 41, 3) := by decide +kernel
theorem dX11_lastsFor_23 : decode cX11_lastsFor 23 = .ok (.iload 4, 2) := by decide +kernel
theorem dX11_lastsFor_25 : decode cX11_lastsFor 25 = .ok (.ifCond .eq 36, 3) := by decide +kernel
theorem dX11_lastsFor_28 : decode cX11_lastsFor 28 = .ok (.aload_n 0, 1) := by decide +kernel
theorem dX11_lastsFor_29 : decode cX11_lastsFor 29 = .ok (.iload_n 1, 1) := by decide +kernel
theorem dX11_lastsFor_30 : decode cX11_lastsFor 30 = .ok (.aload_n 0, 1) := by decide +kernel
theorem dX11_lastsFor_31 : decode cX11_lastsFor 31 = .ok (.iload_n 1, 1) := by decide +kernel
theorem dX11_lastsFor_32 : decode cX11_lastsFor 32 = .ok (.aload_n 0, 1) := by decide +kernel
theorem dX11_lastsFor_33 : decode cX11_lastsFor 33 = .ok (.getfield 89, 3) := by decide +kernel
theorem dX11_lastsFor_36 : decode cX11_lastsFor 36 = .ok (.iload 5, 2) := by decide +kernel
theorem dX11_lastsFor_38 : decode cX11_lastsFor 38 = .ok (.iadd, 1) := by decide +kernel
theorem dX11_lastsFor_39 : decode cX11_lastsFor 39 = .ok (.invokevirtual 159, 3) := by decide +kernel
theorem dX11_lastsFor_42 : decode cX11_lastsFor 42 = .ok (.invokevirtual 162, 3) := by decide +kernel
theorem dX11_lastsFor_45 : decode cX11_lastsFor 45 = .ok (.ifCond .ne 7, 3) := by decide +kernel
theorem dX11_lastsFor_48 : decode cX11_lastsFor 48 = .ok (.iconst 1, 1) := by decide +kernel
theorem dX11_lastsFor_49 : decode cX11_lastsFor 49 = .ok (.goto 4, 3) := by decide +kernel
theorem dX11_lastsFor_52 : decode cX11_lastsFor 52 = .ok (.iconst 0, 1) := by decide +kernel
theorem dX11_lastsFor_53 : decode cX11_lastsFor 53 = .ok (.istore 4, 2) := by decide +kernel
theorem dX11_lastsFor_55 : decode cX11_lastsFor 55 = .ok (.iinc 5 1, 3) := by decide +kernel
theorem dX11_lastsFor_58 : decode cX11_lastsFor 58 = .ok (.goto (-41), 3) := by decide +kernel
theorem dX11_lastsFor_61 : decode cX11_lastsFor 61 = .ok (.aload_n 0, 1) := by decide +kernel
theorem dX11_lastsFor_62 : decode cX11_lastsFor 62 = .ok (.getfield 7, 3) := by decide +kernel
theorem dX11_lastsFor_65 : decode cX11_lastsFor 65 = .ok (.iconst 2, 1) := by decide +kernel
theorem dX11_lastsFor_66 : decode cX11_lastsFor 66 = .ok (.iload_n 1, 1) := by decide +kernel
theorem dX11_lastsFor_67 : decode cX11_lastsFor 67 = .ok (.invokestatic 95, 3) := by decide +kernel
theorem dX11_lastsFor_70 : decode cX11_lastsFor 70 = .ok (.aload_n 0, 1) := by decide +kernel
theorem dX11_lastsFor_71 : decode cX11_lastsFor 71 = .ok (.getfield 40, 3) := by decide +kernel
theorem dX11_lastsFor_74 : decode cX11_lastsFor 74 = .ok (.iload_n 1, 1) := by decide +kernel
theorem dX11_lastsFor_75 : decode cX11_lastsFor 75 = .ok (.iaload, 1) := by decide +kernel
theorem dX11_lastsFor_76 : decode cX11_lastsFor 76 = .ok (.iastore, 1) := by decide +kernel
theorem dX11_lastsFor_77 : decode cX11_lastsFor 77 = .ok (.iload 4, 2) := by decide +kernel
theorem dX11_lastsFor_79 : decode cX11_lastsFor 79 = .ok (.ireturn, 1) := by decide +kernel
set_option maxRecDepth 20000 in
theorem ggX11_needOf_X11_at : GoodIn wsX11_needOf wsX11_at := goodIn_r _ [5] rfl (by decide +kernel)
set_option maxRecDepth 20000 in
theorem gX11_needOf_X11_at : GoodIn wsX11_needOf (va_wsS RX11 95 yX11_at wsX11_at) := goodIn_app (goodIn_r _ [2, 3, 4] rfl (by decide +kernel)) ggX11_needOf_X11_at
set_option maxRecDepth 20000 in
theorem ggX11_needOf_X11_lastsFor : GoodIn wsX11_needOf wsX11_lastsFor := goodIn_r _ [9, 1, 10, 11, 2, 3, 4, 5, 12, 13, 14, 15, 16, 17, 18, 19, 20, 21, 22, 23, 24, 25, 26, 27, 28, 29, 30, 31, 32, 33, 34, 35, 36, 37, 38, 39, 40, 41, 42, 43, 44, 45, 46, 47, 48, 49, 50, 51, 52, 53, 54, 55, 56, 57, 58, 59, 60, 61, 62, 63, 64, 65, 66, 67, 68, 69, 70, 71, 72, 73, 74, 75, 76] rfl (by decide +kernel)
set_option maxRecDepth 20000 in
theorem gX11_needOf_X11_lastsFor : GoodIn wsX11_needOf (wsV RX11 219 RX11 yX11_lastsFor wsX11_lastsFor) := goodIn_app (goodIn_r _ [6, 7, 8, 4] rfl (by decide +kernel)) ggX11_needOf_X11_lastsFor
theorem dX11_needOf_0 : decode cX11_needOf 0 = .ok (.iconst 0, 1) := by decide +kernel
theorem dX11_needOf_1 : decode cX11_needOf 1 = .ok (.istore_n 3, 1) := by decide +kernel
theorem dX11_needOf_2 : decode cX11_needOf 2 = .ok (.iload_n 3, 1) := by decide +kernel
theorem dX11_needOf_3 : decode cX11_needOf 3 = .ok (.aload_n 0, 1) := by decide +kernel
theorem dX11_needOf_4 : decode cX11_needOf 4 = .ok (.getfield 7, 3) := by decide +kernel
theorem dX11_needOf_7 : decode cX11_needOf 7 = .ok (.iconst 3, 1) := by decide +kernel
theorem dX11_needOf_8 : decode cX11_needOf 8 = .ok (.iload_n 1, 1) := by decide +kernel
theorem dX11_needOf_9 : decode cX11_needOf 9 = .ok (.invokestatic 95, 3) := by decide +kernel
theorem dX11_needOf_12 : decode cX11_needOf 12 = .ok (.iaload, 1) := by decide +kernel
theorem dX11_needOf_13 : decode cX11_needOf 13 = .ok (.if_icmp .gt 21, 3) := by decide +kernel
theorem dX11_needOf_16 : decode cX11_needOf 16 = .ok (.aload_n 0, 1) := by decide +kernel
theorem dX11_needOf_17 : decode cX11_needOf 17 = .ok (.iload_n 1, 1) := by decide +kernel
theorem dX11_needOf_18 : decode cX11_needOf 18 = .ok (.iload_n 3, 1) := by decide +kernel
theorem dX11_needOf_19 : decode cX11_needOf 19 = .ok (.iload_n 2, 1) := by decide +kernel
theorem dX11_needOf_20 : decode cX11_needOf 20 = .ok (.invokevirtual 219, 3) := by decide +kernel
theorem dX11_needOf_23 : decode cX11_needOf 23 = .ok (.ifCond .eq 5, 3) := by decide +kernel
theorem dX11_needOf_26 : decode cX11_needOf 26 = .ok (.iload_n 3, 1) := by decide +kernel
theorem dX11_needOf_27 : decode cX11_needOf 27 = .ok (.ireturn, 1) := by decide +kernel
theorem dX11_needOf_28 : decode cX11_needOf 28 = .ok (.iinc 3 1, 3) := by decide +kernel
theorem dX11_needOf_31 : decode cX11_needOf 31 = .ok (.goto (-29), 3) := by decide +kernel
theorem dX11_needOf_34 : decode cX11_needOf 34 = .ok (.bipush (-6), 2) := by decide +kernel
theorem dX11_needOf_36 : decode cX11_needOf 36 = .ok (.ireturn, 1) := by decide +kernel
set_option maxRecDepth 20000 in
theorem ggX11_needs_X11_isLand : GoodIn wsX11_needs wsX11_isLand := goodIn_r _ [6, 7, 8, 9, 5, 10, 57, 58, 59, 60, 61, 62, 63, 64, 65, 66, 67, 68, 69, 70, 71, 72, 73, 74, 75, 76, 77, 78, 79, 80, 81, 82, 83, 84, 85, 86, 87, 88, 89, 90, 91, 92, 93, 94, 95] rfl (by decide +kernel)
set_option maxRecDepth 20000 in
theorem gX11_needs_X11_isLand : GoodIn wsX11_needs (wsV RX11 129 RX11 yX11_isLand wsX11_isLand) := goodIn_app (goodIn_r _ [2, 3, 4, 5] rfl (by decide +kernel)) ggX11_needs_X11_isLand
set_option maxRecDepth 20000 in
theorem ggX11_needs_X11_in : GoodIn wsX11_needs wsX11_in := goodIn_r _ [10] rfl (by decide +kernel)
set_option maxRecDepth 20000 in
theorem gX11_needs_X11_in : GoodIn wsX11_needs (va_wsS RX11 99 yX11_in wsX11_in) := goodIn_app (goodIn_r _ [8, 9, 5] rfl (by decide +kernel)) ggX11_needs_X11_in
set_option maxRecDepth 20000 in
theorem ggX11_needs_X11_keepNow : GoodIn wsX11_needs wsX11_keepNow := goodIn_r _ [14, 15, 16, 17, 18, 19, 20, 21, 22, 5, 23, 57, 58, 59, 60, 61, 62, 63, 64, 65, 66, 67, 68, 69, 70, 71, 72, 73, 74, 75, 76, 77, 78, 79, 80, 81, 82, 83, 84, 85, 86, 87, 88, 89, 90, 91, 92, 93, 94, 95] rfl (by decide +kernel)
set_option maxRecDepth 20000 in
theorem gX11_needs_X11_keepNow : GoodIn wsX11_needs (wsV RX11 197 RX11 yX11_keepNow wsX11_keepNow) := goodIn_app (goodIn_r _ [11, 12, 13, 5] rfl (by decide +kernel)) ggX11_needs_X11_keepNow
set_option maxRecDepth 20000 in
theorem ggX11_needs_X11_needOf : GoodIn wsX11_needs wsX11_needOf := goodIn_r _ [27, 16, 21, 22, 5, 23, 28, 29, 30, 31, 17, 15, 32, 33, 34, 35, 36, 37, 38, 39, 7, 40, 41, 42, 43, 44, 45, 46, 47, 48, 49, 50, 51, 52, 53, 54, 55, 56, 57, 58, 59, 60, 61, 62, 63, 64, 65, 66, 67, 68, 69, 70, 71, 72, 73, 74, 75, 76, 77, 78, 79, 80, 81, 82, 83, 84, 85, 86, 87, 88, 89, 90, 91, 92, 93, 94, 95] rfl (by decide +kernel)
set_option maxRecDepth 20000 in
theorem gX11_needs_X11_needOf : GoodIn wsX11_needs (wsV RX11 223 RX11 yX11_needOf wsX11_needOf) := goodIn_app (goodIn_r _ [24, 25, 26, 5] rfl (by decide +kernel)) ggX11_needs_X11_needOf
theorem dX11_needs_0 : decode cX11_needs 0 = .ok (.aload_n 0, 1) := by decide +kernel
theorem dX11_needs_1 : decode cX11_needs 1 = .ok (.iload_n 1, 1) := by decide +kernel
theorem dX11_needs_2 : decode cX11_needs 2 = .ok (.invokevirtual 129, 3) := by decide +kernel
theorem dX11_needs_5 : decode cX11_needs 5 = .ok (.ifCond .ne 5, 3) := by decide +kernel
theorem dX11_needs_8 : decode cX11_needs 8 = .ok (.iconst (-1), 1) := by decide +kernel
theorem dX11_needs_9 : decode cX11_needs 9 = .ok (.ireturn, 1) := by decide +kernel
theorem dX11_needs_10 : decode cX11_needs 10 = .ok (.iload_n 2, 1) := by decide +kernel
theorem dX11_needs_11 : decode cX11_needs 11 = .ok (.i2l, 1) := by decide +kernel
theorem dX11_needs_12 : decode cX11_needs 12 = .ok (.lconst 1, 1) := by decide +kernel
theorem dX11_needs_13 : decode cX11_needs 13 = .ok (.ldc2_w 109, 3) := by decide +kernel
theorem dX11_needs_16 : decode cX11_needs 16 = .ok (.invokestatic 99, 3) := by decide +kernel
theorem dX11_needs_19 : decode cX11_needs 19 = .ok (.ifCond .ne 6, 3) := by decide +kernel
theorem dX11_needs_22 : decode cX11_needs 22 = .ok (.bipush (-2), 2) := by decide +kernel
theorem dX11_needs_24 : decode cX11_needs 24 = .ok (.ireturn, 1) := by decide +kernel
theorem dX11_needs_25 : decode cX11_needs 25 = .ok (.aload_n 0, 1) := by decide +kernel
theorem dX11_needs_26 : decode cX11_needs 26 = .ok (.invokevirtual 197, 3) := by decide +kernel
theorem dX11_needs_29 : decode cX11_needs 29 = .ok (.aload_n 0, 1) := by decide +kernel
theorem dX11_needs_30 : decode cX11_needs 30 = .ok (.iload_n 1, 1) := by decide +kernel
theorem dX11_needs_31 : decode cX11_needs 31 = .ok (.iload_n 2, 1) := by decide +kernel
theorem dX11_needs_32 : decode cX11_needs 32 = .ok (.invokevirtual 223, 3) := by decide +kernel
theorem dX11_needs_35 : decode cX11_needs 35 = .ok (.ireturn, 1) := by decide +kernel
theorem dX11_carryOn_0 : decode cX11_carryOn 0 = .ok (.iconst 0, 1) := by decide +kernel
theorem dX11_carryOn_1 : decode cX11_carryOn 1 = .ok (.istore 4, 2) := by decide +kernel
theorem dX11_carryOn_3 : decode cX11_carryOn 3 = .ok (.iload 4, 2) := by decide +kernel
theorem dX11_carryOn_5 : decode cX11_carryOn 5 = .ok (.sipush 892, 3) := by decide +kernel
theorem dX11_carryOn_8 : decode cX11_carryOn 8 = .ok (.if_icmp .ge 110, 3) := by decide +kernel
theorem dX11_carryOn_11 : decode cX11_carryOn 11 = .ok (.ldc 226, 2) := by decide +kernel
theorem dX11_carryOn_13 : decode cX11_carryOn 13 = .ok (.istore 5, 2) := by decide +kernel
theorem dX11_carryOn_15 : decode cX11_carryOn 15 = .ok (.iload_n 1, 1) := by decide +kernel
theorem dX11_carryOn_16 : decode cX11_carryOn 16 = .ok (.istore 6, 2) := by decide +kernel
theorem dX11_carryOn_18 : decode cX11_carryOn 18 = .ok (.iload 6, 2) := by decide +kernel
theorem dX11_carryOn_20 : decode cX11_carryOn 20 = .ok (.iload_n 2, 1) := by decide +kernel
theorem dX11_carryOn_21 : decode cX11_carryOn 21 = .ok (.if_icmp .gt 48, 3) := by decide +kernel
theorem dX11_carryOn_24 : decode cX11_carryOn 24 = .ok (.iload 6, 2) := by decide +kernel
theorem dX11_carryOn_26 : decode cX11_carryOn 26 = .ok (.iload 4, 2) := by decide +kernel
theorem dX11_carryOn_28 : decode cX11_carryOn 28 = .ok (.if_icmp .gt 41, 3) := by decide +kernel
theorem dX11_carryOn_31 : decode cX11_carryOn 31 = .ok (.aload_n 0, 1) := by decide +kernel
theorem dX11_carryOn_32 : decode cX11_carryOn 32 = .ok (.getfield 46, 3) := by decide +kernel
theorem dX11_carryOn_35 : decode cX11_carryOn 35 = .ok (.iload 4, 2) := by decide +kernel
theorem dX11_carryOn_37 : decode cX11_carryOn 37 = .ok (.iload 6, 2) := by decide +kernel
theorem dX11_carryOn_39 : decode cX11_carryOn 39 = .ok (.isub, 1) := by decide +kernel
theorem dX11_carryOn_40 : decode cX11_carryOn 40 = .ok (.iaload, 1) := by decide +kernel
theorem dX11_carryOn_41 : decode cX11_carryOn 41 = .ok (.iload 5, 2) := by decide +kernel
theorem dX11_carryOn_43 : decode cX11_carryOn 43 = .ok (.if_icmp .ge 16, 3) := by decide +kernel
theorem dX11_carryOn_46 : decode cX11_carryOn 46 = .ok (.aload_n 0, 1) := by decide +kernel
theorem dX11_carryOn_47 : decode cX11_carryOn 47 = .ok (.getfield 46, 3) := by decide +kernel
theorem dX11_carryOn_50 : decode cX11_carryOn 50 = .ok (.iload 4, 2) := by decide +kernel
theorem dX11_carryOn_52 : decode cX11_carryOn 52 = .ok (.iload 6, 2) := by decide +kernel
theorem dX11_carryOn_54 : decode cX11_carryOn 54 = .ok (.isub, 1) := by decide +kernel
theorem dX11_carryOn_55 : decode cX11_carryOn 55 = .ok (.iaload, 1) := by decide +kernel
theorem dX11_carryOn_56 : decode cX11_carryOn 56 = .ok (.goto 5, 3) := by decide +kernel
theorem dX11_carryOn_59 : decode cX11_carryOn 59 = .ok (.iload 5, 2) := by decide +kernel
theorem dX11_carryOn_61 : decode cX11_carryOn 61 = .ok (.istore 5, 2) := by decide +kernel
theorem dX11_carryOn_63 : decode cX11_carryOn 63 = .ok (.iinc 6 1, 3) := by decide +kernel
theorem dX11_carryOn_66 : decode cX11_carryOn 66 = .ok (.goto (-48), 3) := by decide +kernel
theorem dX11_carryOn_69 : decode cX11_carryOn 69 = .ok (.iload 4, 2) := by decide +kernel
theorem dX11_carryOn_71 : decode cX11_carryOn 71 = .ok (.iload_n 3, 1) := by decide +kernel
theorem dX11_carryOn_72 : decode cX11_carryOn 72 = .ok (.if_icmp .ge 10, 3) := by decide +kernel
theorem dX11_carryOn_75 : decode cX11_carryOn 75 = .ok (.iload_n 3, 1) := by decide +kernel
theorem dX11_carryOn_76 : decode cX11_carryOn 76 = .ok (.iload 4, 2) := by decide +kernel
theorem dX11_carryOn_78 : decode cX11_carryOn 78 = .ok (.isub, 1) := by decide +kernel
theorem dX11_carryOn_79 : decode cX11_carryOn 79 = .ok (.goto 7, 3) := by decide +kernel
theorem dX11_carryOn_82 : decode cX11_carryOn 82 = .ok (.iload 4, 2) := by decide +kernel
theorem dX11_carryOn_84 : decode cX11_carryOn 84 = .ok (.iload_n 3, 1) := by decide +kernel
theorem dX11_carryOn_85 : decode cX11_carryOn 85 = .ok (.isub, 1) := by decide +kernel
theorem dX11_carryOn_86 : decode cX11_carryOn 86 = .ok (.istore 6, 2) := by decide +kernel
theorem dX11_carryOn_88 : decode cX11_carryOn 88 = .ok (.aload_n 0, 1) := by decide +kernel
theorem dX11_carryOn_89 : decode cX11_carryOn 89 = .ok (.getfield 49, 3) := by decide +kernel
theorem dX11_carryOn_92 : decode cX11_carryOn 92 = .ok (.iload 4, 2) := by decide +kernel
theorem dX11_carryOn_94 : decode cX11_carryOn 94 = .ok (.iload 5, 2) := by decide +kernel
theorem dX11_carryOn_96 : decode cX11_carryOn 96 = .ok (.ldc 226, 2) := by decide +kernel
theorem dX11_carryOn_98 : decode cX11_carryOn 98 = .ok (.if_icmp .ne 8, 3) := by decide +kernel
