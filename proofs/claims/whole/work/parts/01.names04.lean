theorem dX10_longest_0 : decode cX10_longest 0 = .ok (.aload_n 0, 1) := by decide +kernel
theorem dX10_longest_1 : decode cX10_longest 1 = .ok (.iload_n 1, 1) := by decide +kernel
theorem dX10_longest_2 : decode cX10_longest 2 = .ok (.invokevirtual 112, 3) := by decide +kernel
theorem dX10_longest_5 : decode cX10_longest 5 = .ok (.ifCond .ne 5, 3) := by decide +kernel
theorem dX10_longest_8 : decode cX10_longest 8 = .ok (.iconst (-1), 1) := by decide +kernel
theorem dX10_longest_9 : decode cX10_longest 9 = .ok (.ireturn, 1) := by decide +kernel
theorem dX10_longest_10 : decode cX10_longest 10 = .ok (.iload_n 2, 1) := by decide +kernel
theorem dX10_longest_11 : decode cX10_longest 11 = .ok (.invokestatic 174, 3) := by decide +kernel
theorem dX10_longest_14 : decode cX10_longest 14 = .ok (.ifCond .eq 14, 3) := by decide +kernel
theorem dX10_longest_17 : decode cX10_longest 17 = .ok (.iload_n 3, 1) := by decide +kernel
theorem dX10_longest_18 : decode cX10_longest 18 = .ok (.iconst 0, 1) := by decide +kernel
theorem dX10_longest_19 : decode cX10_longest 19 = .ok (.sipush 9999, 3) := by decide +kernel
theorem dX10_longest_22 : decode cX10_longest 22 = .ok (.invokestatic 62, 3) := by decide +kernel
theorem dX10_longest_25 : decode cX10_longest 25 = .ok (.ifCond .ne 6, 3) := by decide +kernel
theorem dX10_longest_28 : decode cX10_longest 28 = .ok (.bipush (-2), 2) := by decide +kernel
theorem dX10_longest_30 : decode cX10_longest 30 = .ok (.ireturn, 1) := by decide +kernel
theorem dX10_longest_31 : decode cX10_longest 31 = .ok (.aload_n 0, 1) := by decide +kernel
theorem dX10_longest_32 : decode cX10_longest 32 = .ok (.getfield 10, 3) := by decide +kernel
theorem dX10_longest_35 : decode cX10_longest 35 = .ok (.getfield 66, 3) := by decide +kernel
theorem dX10_longest_38 : decode cX10_longest 38 = .ok (.iload_n 1, 1) := by decide +kernel
theorem dX10_longest_39 : decode cX10_longest 39 = .ok (.iload_n 2, 1) := by decide +kernel
theorem dX10_longest_40 : decode cX10_longest 40 = .ok (.iload_n 3, 1) := by decide +kernel
theorem dX10_longest_41 : decode cX10_longest 41 = .ok (.invokevirtual 198, 3) := by decide +kernel
theorem dX10_longest_44 : decode cX10_longest 44 = .ok (.ireturn, 1) := by decide +kernel
set_option maxRecDepth 20000 in
theorem ggX10_hungry_X10_within : GoodIn wsX10_hungry wsX10_within := goodIn_r _ [8] rfl (by decide +kernel)
set_option maxRecDepth 20000 in
theorem gX10_hungry_X10_within : GoodIn wsX10_hungry (va_wsS RX10 62 yX10_within wsX10_within) := goodIn_app (goodIn_r _ [5, 6, 7] rfl (by decide +kernel)) ggX10_hungry_X10_within
set_option maxRecDepth 20000 in
theorem ggX10_hungry_X7_begin : GoodIn wsX10_hungry wsX7_begin := goodIn_r _ [13, 14, 15, 16, 17, 18, 19, 20, 21, 22, 23, 24, 25, 26, 27, 28, 29, 30, 31, 32, 33, 34, 35, 36, 37, 38, 39, 40, 41, 42, 43, 44, 45, 7, 46, 47, 48, 105, 106, 107, 108, 109, 110, 111, 112, 113, 114, 115, 116, 117, 118, 119, 120, 121, 122, 123, 124, 125, 126] rfl (by decide +kernel)
set_option maxRecDepth 20000 in
theorem gX10_hungry_X7_begin : GoodIn wsX10_hungry (wsV RX10 201 RX7 yX7_begin wsX7_begin) := goodIn_app (goodIn_r _ [9, 10, 11, 12] rfl (by decide +kernel)) ggX10_hungry_X7_begin
set_option maxRecDepth 20000 in
theorem ggX10_hungry_X7_passUntilHungry : GoodIn wsX10_hungry wsX7_passUntilHungry := goodIn_r _ [52, 22, 53, 54, 55, 12, 56, 14, 20, 57, 16, 18, 21, 58, 59, 60, 30, 61, 33, 62, 63, 64, 65, 32, 34, 35, 66, 67, 68, 69, 36, 37, 38, 70, 71, 72, 42, 73, 74, 75, 76, 77, 78, 79, 80, 81, 82, 83, 84, 44, 85, 86, 87, 88, 89, 7, 90, 91, 92, 105, 106, 107, 108, 109, 110, 111, 112, 113, 114, 119, 120, 121, 122, 123, 124, 125, 126] rfl (by decide +kernel)
set_option maxRecDepth 20000 in
theorem gX10_hungry_X7_passUntilHungry : GoodIn wsX10_hungry (wsV RX10 204 RX7 yX7_passUntilHungry wsX7_passUntilHungry) := goodIn_app (goodIn_r _ [49, 50, 51, 12] rfl (by decide +kernel)) ggX10_hungry_X7_passUntilHungry
set_option maxRecDepth 20000 in
theorem ggX10_hungry_X7_leastHungry : GoodIn wsX10_hungry wsX7_leastHungry := goodIn_r _ [96, 18, 105, 106, 107, 108, 109, 110, 111, 112, 113, 114] rfl (by decide +kernel)
set_option maxRecDepth 20000 in
theorem gX10_hungry_X7_leastHungry : GoodIn wsX10_hungry (wsV RX10 208 RX7 yX7_leastHungry wsX7_leastHungry) := goodIn_app (goodIn_r _ [93, 94, 95, 12] rfl (by decide +kernel)) ggX10_hungry_X7_leastHungry
theorem dX10_hungry_0 : decode cX10_hungry 0 = .ok (.iload_n 1, 1) := by decide +kernel
theorem dX10_hungry_1 : decode cX10_hungry 1 = .ok (.iconst 0, 1) := by decide +kernel
theorem dX10_hungry_2 : decode cX10_hungry 2 = .ok (.iconst 1, 1) := by decide +kernel
theorem dX10_hungry_3 : decode cX10_hungry 3 = .ok (.invokestatic 62, 3) := by decide +kernel
theorem dX10_hungry_6 : decode cX10_hungry 6 = .ok (.ifCond .ne 6, 3) := by decide +kernel
theorem dX10_hungry_9 : decode cX10_hungry 9 = .ok (.bipush (-2), 2) := by decide +kernel
theorem dX10_hungry_11 : decode cX10_hungry 11 = .ok (.ireturn, 1) := by decide +kernel
theorem dX10_hungry_12 : decode cX10_hungry 12 = .ok (.aload_n 0, 1) := by decide +kernel
theorem dX10_hungry_13 : decode cX10_hungry 13 = .ok (.getfield 30, 3) := by decide +kernel
theorem dX10_hungry_16 : decode cX10_hungry 16 = .ok (.aload_n 0, 1) := by decide +kernel
theorem dX10_hungry_17 : decode cX10_hungry 17 = .ok (.getfield 10, 3) := by decide +kernel
theorem dX10_hungry_20 : decode cX10_hungry 20 = .ok (.invokevirtual 201, 3) := by decide +kernel
theorem dX10_hungry_23 : decode cX10_hungry 23 = .ok (.aload_n 0, 1) := by decide +kernel
theorem dX10_hungry_24 : decode cX10_hungry 24 = .ok (.getfield 30, 3) := by decide +kernel
theorem dX10_hungry_27 : decode cX10_hungry 27 = .ok (.bipush 99, 2) := by decide +kernel
theorem dX10_hungry_29 : decode cX10_hungry 29 = .ok (.invokevirtual 204, 3) := by decide +kernel
theorem dX10_hungry_32 : decode cX10_hungry 32 = .ok (.aload_n 0, 1) := by decide +kernel
theorem dX10_hungry_33 : decode cX10_hungry 33 = .ok (.getfield 30, 3) := by decide +kernel
theorem dX10_hungry_36 : decode cX10_hungry 36 = .ok (.getfield 150, 3) := by decide +kernel
theorem dX10_hungry_39 : decode cX10_hungry 39 = .ok (.ifCond .ne 6, 3) := by decide +kernel
theorem dX10_hungry_42 : decode cX10_hungry 42 = .ok (.bipush (-6), 2) := by decide +kernel
theorem dX10_hungry_44 : decode cX10_hungry 44 = .ok (.ireturn, 1) := by decide +kernel
theorem dX10_hungry_45 : decode cX10_hungry 45 = .ok (.iload_n 1, 1) := by decide +kernel
theorem dX10_hungry_46 : decode cX10_hungry 46 = .ok (.ifCond .ne 13, 3) := by decide +kernel
theorem dX10_hungry_49 : decode cX10_hungry 49 = .ok (.aload_n 0, 1) := by decide +kernel
theorem dX10_hungry_50 : decode cX10_hungry 50 = .ok (.getfield 30, 3) := by decide +kernel
theorem dX10_hungry_53 : decode cX10_hungry 53 = .ok (.getfield 147, 3) := by decide +kernel
theorem dX10_hungry_56 : decode cX10_hungry 56 = .ok (.goto 10, 3) := by decide +kernel
theorem dX10_hungry_59 : decode cX10_hungry 59 = .ok (.aload_n 0, 1) := by decide +kernel
theorem dX10_hungry_60 : decode cX10_hungry 60 = .ok (.getfield 30, 3) := by decide +kernel
theorem dX10_hungry_63 : decode cX10_hungry 63 = .ok (.invokevirtual 208, 3) := by decide +kernel
theorem dX10_hungry_66 : decode cX10_hungry 66 = .ok (.ireturn, 1) := by decide +kernel
set_option maxRecDepth 20000 in
theorem ggX10_needs_X10_hasLand : GoodIn wsX10_needs wsX10_hasLand := goodIn_r _ [6, 1, 7, 8, 9, 10, 5, 11, 54, 55, 56, 57, 58, 59, 60, 61, 62, 63, 64, 65, 66, 67, 68, 69, 70, 71, 72] rfl (by decide +kernel)
set_option maxRecDepth 20000 in
theorem gX10_needs_X10_hasLand : GoodIn wsX10_needs (wsV RX10 112 RX10 yX10_hasLand wsX10_hasLand) := goodIn_app (goodIn_r _ [2, 3, 4, 5] rfl (by decide +kernel)) ggX10_needs_X10_hasLand
set_option maxRecDepth 20000 in
theorem ggX10_needs_X10_within : GoodIn wsX10_needs wsX10_within := goodIn_r _ [11] rfl (by decide +kernel)
set_option maxRecDepth 20000 in
theorem gX10_needs_X10_within : GoodIn wsX10_needs (va_wsS RX10 62 yX10_within wsX10_within) := goodIn_app (goodIn_r _ [9, 10, 5] rfl (by decide +kernel)) ggX10_needs_X10_within
set_option maxRecDepth 20000 in
theorem ggX10_needs_X9_needOf : GoodIn wsX10_needs wsX9_needOf := goodIn_r _ [16, 17, 18, 19, 20, 21, 22, 23, 24, 25, 26, 27, 28, 29, 30, 31, 32, 33, 34, 35, 36, 37, 38, 39, 40, 41, 42, 43, 44, 45, 46, 47, 48, 49, 50, 51, 52, 53, 62, 63, 64, 65, 73, 66, 67, 68, 69, 70, 71, 72] rfl (by decide +kernel)
set_option maxRecDepth 20000 in
theorem gX10_needs_X9_needOf : GoodIn wsX10_needs (wsV RX10 211 RX9 yX9_needOf wsX9_needOf) := goodIn_app (goodIn_r _ [12, 13, 14, 15] rfl (by decide +kernel)) ggX10_needs_X9_needOf
theorem dX10_needs_0 : decode cX10_needs 0 = .ok (.aload_n 0, 1) := by decide +kernel
theorem dX10_needs_1 : decode cX10_needs 1 = .ok (.iload_n 1, 1) := by decide +kernel
theorem dX10_needs_2 : decode cX10_needs 2 = .ok (.invokevirtual 112, 3) := by decide +kernel
theorem dX10_needs_5 : decode cX10_needs 5 = .ok (.ifCond .ne 5, 3) := by decide +kernel
theorem dX10_needs_8 : decode cX10_needs 8 = .ok (.iconst (-1), 1) := by decide +kernel
theorem dX10_needs_9 : decode cX10_needs 9 = .ok (.ireturn, 1) := by decide +kernel
theorem dX10_needs_10 : decode cX10_needs 10 = .ok (.iload_n 2, 1) := by decide +kernel
theorem dX10_needs_11 : decode cX10_needs 11 = .ok (.iconst 1, 1) := by decide +kernel
theorem dX10_needs_12 : decode cX10_needs 12 = .ok (.bipush 99, 2) := by decide +kernel
theorem dX10_needs_14 : decode cX10_needs 14 = .ok (.invokestatic 62, 3) := by decide +kernel
theorem dX10_needs_17 : decode cX10_needs 17 = .ok (.ifCond .ne 6, 3) := by decide +kernel
theorem dX10_needs_20 : decode cX10_needs 20 = .ok (.bipush (-2), 2) := by decide +kernel
theorem dX10_needs_22 : decode cX10_needs 22 = .ok (.ireturn, 1) := by decide +kernel
theorem dX10_needs_23 : decode cX10_needs 23 = .ok (.aload_n 0, 1) := by decide +kernel
theorem dX10_needs_24 : decode cX10_needs 24 = .ok (.getfield 10, 3) := by decide +kernel
theorem dX10_needs_27 : decode cX10_needs 27 = .ok (.iload_n 1, 1) := by decide +kernel
theorem dX10_needs_28 : decode cX10_needs 28 = .ok (.iload_n 2, 1) := by decide +kernel
theorem dX10_needs_29 : decode cX10_needs 29 = .ok (.invokevirtual 211, 3) := by decide +kernel
theorem dX10_needs_32 : decode cX10_needs 32 = .ok (.ireturn, 1) := by decide +kernel
set_option maxRecDepth 20000 in
theorem ggX10_carry_X10_within : GoodIn wsX10_carry wsX10_within := goodIn_r _ [6] rfl (by decide +kernel)
set_option maxRecDepth 20000 in
theorem gX10_carry_X10_within : GoodIn wsX10_carry (va_wsS RX10 62 yX10_within wsX10_within) := goodIn_app (goodIn_r _ [3, 4, 5] rfl (by decide +kernel)) ggX10_carry_X10_within
set_option maxRecDepth 20000 in
theorem ggX10_carry_X0_fewestSteps : GoodIn wsX10_carry wsX0_fewestSteps := goodIn_r _ [11, 12, 13, 14, 15, 16, 17, 18, 19, 20, 21, 22, 23, 24, 25, 26, 27, 28, 29, 30, 31, 32, 33, 34, 5, 35, 36, 37, 38, 39, 40, 41, 42, 43, 44, 45, 46, 47, 48, 49, 50, 51, 52, 53, 54, 55, 56, 57, 58, 59, 60, 61, 62, 63, 64, 65, 66, 67, 68, 69, 70, 71, 72, 73, 74, 10, 75, 76, 77, 78, 79, 80, 81, 90, 91, 92, 93, 94, 95, 96, 97, 98, 99, 100, 101, 102, 103] rfl (by decide +kernel)
set_option maxRecDepth 20000 in
theorem gX10_carry_X0_fewestSteps : GoodIn wsX10_carry (wsV RX10 214 RX0 yX0_fewestSteps wsX0_fewestSteps) := goodIn_app (goodIn_r _ [7, 8, 9, 10] rfl (by decide +kernel)) ggX10_carry_X0_fewestSteps
theorem dX10_carry_0 : decode cX10_carry 0 = .ok (.iload_n 1, 1) := by decide +kernel
theorem dX10_carry_1 : decode cX10_carry 1 = .ok (.iconst 1, 1) := by decide +kernel
theorem dX10_carry_2 : decode cX10_carry 2 = .ok (.bipush 40, 2) := by decide +kernel
theorem dX10_carry_4 : decode cX10_carry 4 = .ok (.invokestatic 62, 3) := by decide +kernel
theorem dX10_carry_7 : decode cX10_carry 7 = .ok (.ifCond .eq 18, 3) := by decide +kernel
theorem dX10_carry_10 : decode cX10_carry 10 = .ok (.aload_n 0, 1) := by decide +kernel
theorem dX10_carry_11 : decode cX10_carry 11 = .ok (.getfield 51, 3) := by decide +kernel
theorem dX10_carry_14 : decode cX10_carry 14 = .ok (.aload_n 0, 1) := by decide +kernel
theorem dX10_carry_15 : decode cX10_carry 15 = .ok (.getfield 10, 3) := by decide +kernel
theorem dX10_carry_18 : decode cX10_carry 18 = .ok (.iload_n 1, 1) := by decide +kernel
theorem dX10_carry_19 : decode cX10_carry 19 = .ok (.invokevirtual 214, 3) := by decide +kernel
theorem dX10_carry_22 : decode cX10_carry 22 = .ok (.goto 5, 3) := by decide +kernel
theorem dX10_carry_25 : decode cX10_carry 25 = .ok (.bipush (-2), 2) := by decide +kernel
theorem dX10_carry_27 : decode cX10_carry 27 = .ok (.ireturn, 1) := by decide +kernel
set_option maxRecDepth 20000 in
theorem ggX10_paced_X10_within : GoodIn wsX10_paced wsX10_within := goodIn_r _ [9] rfl (by decide +kernel)
set_option maxRecDepth 20000 in
theorem gX10_paced_X10_within : GoodIn wsX10_paced (va_wsS RX10 62 yX10_within wsX10_within) := goodIn_app (goodIn_r _ [6, 7, 8] rfl (by decide +kernel)) ggX10_paced_X10_within
set_option maxRecDepth 20000 in
theorem ggX10_paced_X7_begin : GoodIn wsX10_paced wsX7_begin := goodIn_r _ [14, 15, 16, 17, 18, 19, 20, 21, 22, 23, 24, 25, 26, 27, 28, 29, 30, 31, 32, 33, 34, 35, 36, 37, 38, 39, 40, 41, 42, 43, 44, 45, 46, 8, 47, 48, 49, 102, 103, 104, 105, 106, 107, 108, 109, 110, 111, 119, 120, 121, 122, 112, 113, 114, 115, 116, 117, 118, 123] rfl (by decide +kernel)
set_option maxRecDepth 20000 in
theorem gX10_paced_X7_begin : GoodIn wsX10_paced (wsV RX10 201 RX7 yX7_begin wsX7_begin) := goodIn_app (goodIn_r _ [10, 11, 12, 13] rfl (by decide +kernel)) ggX10_paced_X7_begin
set_option maxRecDepth 20000 in
theorem ggX10_paced_X7_passYears : GoodIn wsX10_paced wsX7_passYears := goodIn_r _ [53, 54, 55, 56, 13, 57, 15, 21, 58, 17, 19, 23, 22, 59, 60, 61, 31, 62, 34, 63, 64, 65, 66, 33, 35, 36, 67, 68, 69, 70, 37, 38, 39, 71, 72, 73, 43, 74, 75, 76, 77, 78, 79, 80, 81, 82, 83, 84, 85, 45, 86, 87, 88, 89, 90, 8, 91, 92, 93, 102, 103, 104, 105, 106, 107, 108, 109, 110, 111, 112, 113, 114, 115, 116, 117, 118, 123] rfl (by decide +kernel)
set_option maxRecDepth 20000 in
theorem gX10_paced_X7_passYears : GoodIn wsX10_paced (wsV RX10 221 RX7 yX7_passYears wsX7_passYears) := goodIn_app (goodIn_r _ [50, 51, 52, 13] rfl (by decide +kernel)) ggX10_paced_X7_passYears
theorem dX10_paced_0 : decode cX10_paced 0 = .ok (.iload_n 1, 1) := by decide +kernel
theorem dX10_paced_1 : decode cX10_paced 1 = .ok (.iconst 1, 1) := by decide +kernel
theorem dX10_paced_2 : decode cX10_paced 2 = .ok (.bipush 9, 2) := by decide +kernel
theorem dX10_paced_4 : decode cX10_paced 4 = .ok (.invokestatic 62, 3) := by decide +kernel
theorem dX10_paced_7 : decode cX10_paced 7 = .ok (.ifCond .eq 13, 3) := by decide +kernel
theorem dX10_paced_10 : decode cX10_paced 10 = .ok (.iload_n 2, 1) := by decide +kernel
theorem dX10_paced_11 : decode cX10_paced 11 = .ok (.iconst 1, 1) := by decide +kernel
theorem dX10_paced_12 : decode cX10_paced 12 = .ok (.bipush 99, 2) := by decide +kernel
theorem dX10_paced_14 : decode cX10_paced 14 = .ok (.invokestatic 62, 3) := by decide +kernel
theorem dX10_paced_17 : decode cX10_paced 17 = .ok (.ifCond .ne 6, 3) := by decide +kernel
theorem dX10_paced_20 : decode cX10_paced 20 = .ok (.bipush (-2), 2) := by decide +kernel
theorem dX10_paced_22 : decode cX10_paced 22 = .ok (.ireturn, 1) := by decide +kernel
theorem dX10_paced_23 : decode cX10_paced 23 = .ok (.aload_n 0, 1) := by decide +kernel
theorem dX10_paced_24 : decode cX10_paced 24 = .ok (.getfield 30, 3) := by decide +kernel
theorem dX10_paced_27 : decode cX10_paced 27 = .ok (.aload_n 0, 1) := by decide +kernel
theorem dX10_paced_28 : decode cX10_paced 28 = .ok (.getfield 10, 3) := by decide +kernel
theorem dX10_paced_31 : decode cX10_paced 31 = .ok (.invokevirtual 201, 3) := by decide +kernel
theorem dX10_paced_34 : decode cX10_paced 34 = .ok (.aload_n 0, 1) := by decide +kernel
theorem dX10_paced_35 : decode cX10_paced 35 = .ok (.getfield 30, 3) := by decide +kernel
theorem dX10_paced_38 : decode cX10_paced 38 = .ok (.getfield 162, 3) := by decide +kernel
theorem dX10_paced_41 : decode cX10_paced 41 = .ok (.iload_n 1, 1) := by decide +kernel
theorem dX10_paced_42 : decode cX10_paced 42 = .ok (.putfield 218, 3) := by decide +kernel
theorem dX10_paced_45 : decode cX10_paced 45 = .ok (.aload_n 0, 1) := by decide +kernel
theorem dX10_paced_46 : decode cX10_paced 46 = .ok (.getfield 30, 3) := by decide +kernel
theorem dX10_paced_49 : decode cX10_paced 49 = .ok (.iload_n 2, 1) := by decide +kernel
theorem dX10_paced_50 : decode cX10_paced 50 = .ok (.invokevirtual 221, 3) := by decide +kernel
theorem dX10_paced_53 : decode cX10_paced 53 = .ok (.aload_n 0, 1) := by decide +kernel
theorem dX10_paced_54 : decode cX10_paced 54 = .ok (.getfield 30, 3) := by decide +kernel
theorem dX10_paced_57 : decode cX10_paced 57 = .ok (.getfield 150, 3) := by decide +kernel
theorem dX10_paced_60 : decode cX10_paced 60 = .ok (.ireturn, 1) := by decide +kernel
set_option maxRecDepth 20000 in
theorem ggX10_strike_X10_areTwoLands : GoodIn wsX10_strike wsX10_areTwoLands := goodIn_r _ [7, 8, 9, 10, 6, 11, 1, 2, 12, 13, 14, 15, 64, 65, 66, 67, 68, 69, 70, 71, 72, 73, 74, 75, 76, 77, 78, 79, 80, 81, 82] rfl (by decide +kernel)
set_option maxRecDepth 20000 in
theorem gX10_strike_X10_areTwoLands : GoodIn wsX10_strike (wsV RX10 224 RX10 yX10_areTwoLands wsX10_areTwoLands) := goodIn_app (goodIn_r _ [3, 4, 5, 6] rfl (by decide +kernel)) ggX10_strike_X10_areTwoLands
set_option maxRecDepth 20000 in
theorem ggX10_strike_X10_isYear : GoodIn wsX10_strike wsX10_isYear := goodIn_r _ [18, 19, 13, 14, 6, 15] rfl (by decide +kernel)
set_option maxRecDepth 20000 in
theorem gX10_strike_X10_isYear : GoodIn wsX10_strike (va_wsS RX10 174 yX10_isYear wsX10_isYear) := goodIn_app (goodIn_r _ [16, 17, 6] rfl (by decide +kernel)) ggX10_strike_X10_isYear
set_option maxRecDepth 20000 in
theorem ggX10_strike_X4_firstStrike : GoodIn wsX10_strike wsX4_firstStrike := goodIn_r _ [24, 25, 26, 27, 23, 28, 29, 30, 31, 32, 33, 34, 35, 36, 37, 6, 38, 39, 40, 41, 42, 43, 44, 45, 46, 47, 48, 49, 50, 51, 52, 53, 54, 55, 56, 57, 58, 59, 60, 61, 62, 63, 76, 77, 78, 79, 80, 81, 82] rfl (by decide +kernel)
set_option maxRecDepth 20000 in
theorem gX10_strike_X4_firstStrike : GoodIn wsX10_strike (wsV RX10 227 RX4 yX4_firstStrike wsX4_firstStrike) := goodIn_app (goodIn_r _ [20, 21, 22, 23] rfl (by decide +kernel)) ggX10_strike_X4_firstStrike
theorem dX10_strike_0 : decode cX10_strike 0 = .ok (.aload_n 0, 1) := by decide +kernel
theorem dX10_strike_1 : decode cX10_strike 1 = .ok (.iload_n 1, 1) := by decide +kernel
theorem dX10_strike_2 : decode cX10_strike 2 = .ok (.iload_n 2, 1) := by decide +kernel
theorem dX10_strike_3 : decode cX10_strike 3 = .ok (.invokevirtual 224, 3) := by decide +kernel
theorem dX10_strike_6 : decode cX10_strike 6 = .ok (.ifCond .ne 5, 3) := by decide +kernel
theorem dX10_strike_9 : decode cX10_strike 9 = .ok (.iconst (-1), 1) := by decide +kernel
theorem dX10_strike_10 : decode cX10_strike 10 = .ok (.ireturn, 1) := by decide +kernel
theorem dX10_strike_11 : decode cX10_strike 11 = .ok (.iload_n 3, 1) := by decide +kernel
theorem dX10_strike_12 : decode cX10_strike 12 = .ok (.invokestatic 174, 3) := by decide +kernel
theorem dX10_strike_15 : decode cX10_strike 15 = .ok (.ifCond .ne 6, 3) := by decide +kernel
theorem dX10_strike_18 : decode cX10_strike 18 = .ok (.bipush (-2), 2) := by decide +kernel
theorem dX10_strike_20 : decode cX10_strike 20 = .ok (.ireturn, 1) := by decide +kernel
theorem dX10_strike_21 : decode cX10_strike 21 = .ok (.aload_n 0, 1) := by decide +kernel
theorem dX10_strike_22 : decode cX10_strike 22 = .ok (.getfield 10, 3) := by decide +kernel
theorem dX10_strike_25 : decode cX10_strike 25 = .ok (.getfield 66, 3) := by decide +kernel
theorem dX10_strike_28 : decode cX10_strike 28 = .ok (.iload_n 1, 1) := by decide +kernel
theorem dX10_strike_29 : decode cX10_strike 29 = .ok (.iload_n 2, 1) := by decide +kernel
theorem dX10_strike_30 : decode cX10_strike 30 = .ok (.iload_n 3, 1) := by decide +kernel
theorem dX10_strike_31 : decode cX10_strike 31 = .ok (.invokevirtual 227, 3) := by decide +kernel
theorem dX10_strike_34 : decode cX10_strike 34 = .ok (.ireturn, 1) := by decide +kernel
set_option maxRecDepth 20000 in
theorem ggX10_strikes_X10_areTwoLands : GoodIn wsX10_strikes wsX10_areTwoLands := goodIn_r _ [7, 8, 9, 10, 6, 11, 1, 2, 12, 13, 14, 15, 68, 69, 70, 71, 72, 73, 74, 75, 76, 77, 78, 79, 80, 81, 82, 83, 84, 85, 86] rfl (by decide +kernel)
set_option maxRecDepth 20000 in
theorem gX10_strikes_X10_areTwoLands : GoodIn wsX10_strikes (wsV RX10 224 RX10 yX10_areTwoLands wsX10_areTwoLands) := goodIn_app (goodIn_r _ [3, 4, 5, 6] rfl (by decide +kernel)) ggX10_strikes_X10_areTwoLands
set_option maxRecDepth 20000 in
theorem ggX10_strikes_X10_isYear : GoodIn wsX10_strikes wsX10_isYear := goodIn_r _ [18, 19, 13, 14, 6, 15] rfl (by decide +kernel)
set_option maxRecDepth 20000 in
theorem gX10_strikes_X10_isYear : GoodIn wsX10_strikes (va_wsS RX10 174 yX10_isYear wsX10_isYear) := goodIn_app (goodIn_r _ [16, 17, 6] rfl (by decide +kernel)) ggX10_strikes_X10_isYear
set_option maxRecDepth 20000 in
theorem ggX10_strikes_X10_within : GoodIn wsX10_strikes wsX10_within := goodIn_r _ [15] rfl (by decide +kernel)
set_option maxRecDepth 20000 in
theorem gX10_strikes_X10_within : GoodIn wsX10_strikes (va_wsS RX10 62 yX10_within wsX10_within) := goodIn_app (goodIn_r _ [13, 14, 6] rfl (by decide +kernel)) ggX10_strikes_X10_within
set_option maxRecDepth 20000 in
theorem ggX10_strikes_X4_period : GoodIn wsX10_strikes wsX4_period := goodIn_r _ [24, 25, 26, 27, 28, 29, 23, 30, 31, 32, 33, 6, 34, 35, 36, 80, 81, 82, 83, 84, 85, 86] rfl (by decide +kernel)
set_option maxRecDepth 20000 in
theorem gX10_strikes_X4_period : GoodIn wsX10_strikes (wsV RX10 181 RX4 yX4_period wsX4_period) := goodIn_app (goodIn_r _ [20, 21, 22, 23] rfl (by decide +kernel)) ggX10_strikes_X4_period
set_option maxRecDepth 20000 in
theorem ggX10_strikes_X10_leftOver : GoodIn wsX10_strikes wsX10_leftOver := goodIn_r _ [39] rfl (by decide +kernel)
set_option maxRecDepth 20000 in
theorem gX10_strikes_X10_leftOver : GoodIn wsX10_strikes (va_wsS RX10 184 yX10_leftOver wsX10_leftOver) := goodIn_app (goodIn_r _ [37, 38, 6] rfl (by decide +kernel)) ggX10_strikes_X10_leftOver
set_option maxRecDepth 20000 in
theorem ggX10_strikes_X4_countStrikes : GoodIn wsX10_strikes wsX4_countStrikes := goodIn_r _ [43, 44, 45, 46, 23, 47, 48, 49, 50, 51, 52, 53, 54, 55, 32, 56, 57, 58, 59, 31, 25, 60, 61, 62, 63, 64, 26, 65, 66, 80, 81, 82, 83, 84, 85, 86] rfl (by decide +kernel)
set_option maxRecDepth 20000 in
theorem gX10_strikes_X4_countStrikes : GoodIn wsX10_strikes (wsV RX10 230 RX4 yX4_countStrikes wsX4_countStrikes) := goodIn_app (goodIn_r _ [40, 41, 42, 23] rfl (by decide +kernel)) ggX10_strikes_X4_countStrikes
set_option maxRecDepth 20000 in
theorem ggX10_strikes_X10_cut : GoodIn wsX10_strikes wsX10_cut := goodIn_r _ [36] rfl (by decide +kernel)
set_option maxRecDepth 20000 in
theorem gX10_strikes_X10_cut : GoodIn wsX10_strikes (va_wsS RX10 191 yX10_cut wsX10_cut) := goodIn_app (goodIn_r _ [67, 35, 6] rfl (by decide +kernel)) ggX10_strikes_X10_cut
theorem dX10_strikes_0 : decode cX10_strikes 0 = .ok (.aload_n 0, 1) := by decide +kernel
theorem dX10_strikes_1 : decode cX10_strikes 1 = .ok (.iload_n 1, 1) := by decide +kernel
theorem dX10_strikes_2 : decode cX10_strikes 2 = .ok (.iload_n 2, 1) := by decide +kernel
theorem dX10_strikes_3 : decode cX10_strikes 3 = .ok (.invokevirtual 224, 3) := by decide +kernel
theorem dX10_strikes_6 : decode cX10_strikes 6 = .ok (.ifCond .ne 5, 3) := by decide +kernel
theorem dX10_strikes_9 : decode cX10_strikes 9 = .ok (.iconst (-1), 1) := by decide +kernel
theorem dX10_strikes_10 : decode cX10_strikes 10 = .ok (.ireturn, 1) := by decide +kernel
theorem dX10_strikes_11 : decode cX10_strikes 11 = .ok (.iload_n 3, 1) := by decide +kernel
theorem dX10_strikes_12 : decode cX10_strikes 12 = .ok (.invokestatic 174, 3) := by decide +kernel
theorem dX10_strikes_15 : decode cX10_strikes 15 = .ok (.ifCond .eq 15, 3) := by decide +kernel
theorem dX10_strikes_18 : decode cX10_strikes 18 = .ok (.iload 4, 2) := by decide +kernel
theorem dX10_strikes_20 : decode cX10_strikes 20 = .ok (.iconst 0, 1) := by decide +kernel
theorem dX10_strikes_21 : decode cX10_strikes 21 = .ok (.sipush 9999, 3) := by decide +kernel
theorem dX10_strikes_24 : decode cX10_strikes 24 = .ok (.invokestatic 62, 3) := by decide +kernel
theorem dX10_strikes_27 : decode cX10_strikes 27 = .ok (.ifCond .ne 6, 3) := by decide +kernel
theorem dX10_strikes_30 : decode cX10_strikes 30 = .ok (.bipush (-2), 2) := by decide +kernel
theorem dX10_strikes_32 : decode cX10_strikes 32 = .ok (.ireturn, 1) := by decide +kernel
theorem dX10_strikes_33 : decode cX10_strikes 33 = .ok (.aload_n 0, 1) := by decide +kernel
theorem dX10_strikes_34 : decode cX10_strikes 34 = .ok (.getfield 10, 3) := by decide +kernel
theorem dX10_strikes_37 : decode cX10_strikes 37 = .ok (.getfield 66, 3) := by decide +kernel
theorem dX10_strikes_40 : decode cX10_strikes 40 = .ok (.astore 5, 2) := by decide +kernel
theorem dX10_strikes_42 : decode cX10_strikes 42 = .ok (.aload 5, 2) := by decide +kernel
theorem dX10_strikes_44 : decode cX10_strikes 44 = .ok (.invokevirtual 181, 3) := by decide +kernel
theorem dX10_strikes_47 : decode cX10_strikes 47 = .ok (.istore 6, 2) := by decide +kernel
theorem dX10_strikes_49 : decode cX10_strikes 49 = .ok (.aload 5, 2) := by decide +kernel
theorem dX10_strikes_51 : decode cX10_strikes 51 = .ok (.iload_n 1, 1) := by decide +kernel
theorem dX10_strikes_52 : decode cX10_strikes 52 = .ok (.iload_n 2, 1) := by decide +kernel
theorem dX10_strikes_53 : decode cX10_strikes 53 = .ok (.iload_n 3, 1) := by decide +kernel
theorem dX10_strikes_54 : decode cX10_strikes 54 = .ok (.iload 4, 2) := by decide +kernel
theorem dX10_strikes_56 : decode cX10_strikes 56 = .ok (.iload 6, 2) := by decide +kernel
theorem dX10_strikes_58 : decode cX10_strikes 58 = .ok (.invokestatic 184, 3) := by decide +kernel
theorem dX10_strikes_61 : decode cX10_strikes 61 = .ok (.invokevirtual 230, 3) := by decide +kernel
theorem dX10_strikes_64 : decode cX10_strikes 64 = .ok (.istore 7, 2) := by decide +kernel
theorem dX10_strikes_66 : decode cX10_strikes 66 = .ok (.iload 4, 2) := by decide +kernel
theorem dX10_strikes_68 : decode cX10_strikes 68 = .ok (.iload 6, 2) := by decide +kernel
theorem dX10_strikes_70 : decode cX10_strikes 70 = .ok (.if_icmp .ge 8, 3) := by decide +kernel
theorem dX10_strikes_73 : decode cX10_strikes 73 = .ok (.iload 7, 2) := by decide +kernel
theorem dX10_strikes_75 : decode cX10_strikes 75 = .ok (.goto 24, 3) := by decide +kernel
theorem dX10_strikes_78 : decode cX10_strikes 78 = .ok (.iload 7, 2) := by decide +kernel
theorem dX10_strikes_80 : decode cX10_strikes 80 = .ok (.iload 4, 2) := by decide +kernel
theorem dX10_strikes_82 : decode cX10_strikes 82 = .ok (.iload 6, 2) := by decide +kernel
theorem dX10_strikes_84 : decode cX10_strikes 84 = .ok (.invokestatic 191, 3) := by decide +kernel
theorem dX10_strikes_87 : decode cX10_strikes 87 = .ok (.aload 5, 2) := by decide +kernel
theorem dX10_strikes_89 : decode cX10_strikes 89 = .ok (.iload_n 1, 1) := by decide +kernel
theorem dX10_strikes_90 : decode cX10_strikes 90 = .ok (.iload_n 2, 1) := by decide +kernel
theorem dX10_strikes_91 : decode cX10_strikes 91 = .ok (.iload_n 3, 1) := by decide +kernel
theorem dX10_strikes_92 : decode cX10_strikes 92 = .ok (.iload 6, 2) := by decide +kernel
theorem dX10_strikes_94 : decode cX10_strikes 94 = .ok (.invokevirtual 230, 3) := by decide +kernel
theorem dX10_strikes_97 : decode cX10_strikes 97 = .ok (.imul, 1) := by decide +kernel
theorem dX10_strikes_98 : decode cX10_strikes 98 = .ok (.iadd, 1) := by decide +kernel
theorem dX10_strikes_99 : decode cX10_strikes 99 = .ok (.ireturn, 1) := by decide +kernel
set_option maxRecDepth 20000 in
theorem ggX10_ways_X10_hasLand : GoodIn wsX10_ways wsX10_hasLand := goodIn_r _ [10, 4, 5, 11, 12, 13, 9, 14, 63, 64, 65, 66, 67, 68, 69, 70, 71, 72, 73, 74, 75, 76, 77, 78, 79, 80, 81] rfl (by decide +kernel)
set_option maxRecDepth 20000 in
theorem gX10_ways_X10_hasLand : GoodIn wsX10_ways (wsV RX10 112 RX10 yX10_hasLand wsX10_hasLand) := goodIn_app (goodIn_r _ [6, 7, 8, 9] rfl (by decide +kernel)) ggX10_ways_X10_hasLand
set_option maxRecDepth 20000 in
theorem ggX10_ways_X10_isYear : GoodIn wsX10_ways wsX10_isYear := goodIn_r _ [17, 18, 12, 13, 9, 14] rfl (by decide +kernel)
set_option maxRecDepth 20000 in
theorem gX10_ways_X10_isYear : GoodIn wsX10_ways (va_wsS RX10 174 yX10_isYear wsX10_isYear) := goodIn_app (goodIn_r _ [15, 16, 9] rfl (by decide +kernel)) ggX10_ways_X10_isYear
set_option maxRecDepth 20000 in
theorem ggX10_ways_X10_within : GoodIn wsX10_ways wsX10_within := goodIn_r _ [14] rfl (by decide +kernel)
set_option maxRecDepth 20000 in
theorem gX10_ways_X10_within : GoodIn wsX10_ways (va_wsS RX10 62 yX10_within wsX10_within) := goodIn_app (goodIn_r _ [12, 13, 9] rfl (by decide +kernel)) ggX10_ways_X10_within
set_option maxRecDepth 20000 in
theorem ggX10_ways_X8_countWays : GoodIn wsX10_ways wsX8_countWays := goodIn_r _ [23, 24, 25, 26, 9, 27, 28, 29, 30, 31, 32, 33, 34, 35, 36, 37, 38, 39, 40, 41, 42, 43, 44, 45, 46, 47, 48, 49, 50, 51, 52, 53, 54, 55, 56, 57, 58, 59, 22, 60, 61, 62, 82, 83, 75, 76, 77, 78, 79, 80, 81] rfl (by decide +kernel)
set_option maxRecDepth 20000 in
theorem gX10_ways_X8_countWays : GoodIn wsX10_ways (wsV RX10 238 RX8 yX8_countWays wsX8_countWays) := goodIn_app (goodIn_r _ [19, 20, 21, 22] rfl (by decide +kernel)) ggX10_ways_X8_countWays
theorem dX10_ways_0 : decode cX10_ways 0 = .ok (.aload_n 0, 1) := by decide +kernel
theorem dX10_ways_1 : decode cX10_ways 1 = .ok (.iload_n 1, 1) := by decide +kernel
theorem dX10_ways_2 : decode cX10_ways 2 = .ok (.invokevirtual 112, 3) := by decide +kernel
theorem dX10_ways_5 : decode cX10_ways 5 = .ok (.ifCond .eq 11, 3) := by decide +kernel
theorem dX10_ways_8 : decode cX10_ways 8 = .ok (.aload_n 0, 1) := by decide +kernel
theorem dX10_ways_9 : decode cX10_ways 9 = .ok (.iload_n 2, 1) := by decide +kernel
theorem dX10_ways_10 : decode cX10_ways 10 = .ok (.invokevirtual 112, 3) := by decide +kernel
theorem dX10_ways_13 : decode cX10_ways 13 = .ok (.ifCond .ne 7, 3) := by decide +kernel
theorem dX10_ways_16 : decode cX10_ways 16 = .ok (.ldc2_w 234, 3) := by decide +kernel
theorem dX10_ways_19 : decode cX10_ways 19 = .ok (.lreturn, 1) := by decide +kernel
theorem dX10_ways_20 : decode cX10_ways 20 = .ok (.iload_n 3, 1) := by decide +kernel
theorem dX10_ways_21 : decode cX10_ways 21 = .ok (.invokestatic 174, 3) := by decide +kernel
theorem dX10_ways_24 : decode cX10_ways 24 = .ok (.ifCond .eq 14, 3) := by decide +kernel
theorem dX10_ways_27 : decode cX10_ways 27 = .ok (.iload 4, 2) := by decide +kernel
theorem dX10_ways_29 : decode cX10_ways 29 = .ok (.iconst 0, 1) := by decide +kernel
theorem dX10_ways_30 : decode cX10_ways 30 = .ok (.bipush 30, 2) := by decide +kernel
theorem dX10_ways_32 : decode cX10_ways 32 = .ok (.invokestatic 62, 3) := by decide +kernel
theorem dX10_ways_35 : decode cX10_ways 35 = .ok (.ifCond .ne 7, 3) := by decide +kernel
theorem dX10_ways_38 : decode cX10_ways 38 = .ok (.ldc2_w 236, 3) := by decide +kernel
theorem dX10_ways_41 : decode cX10_ways 41 = .ok (.lreturn, 1) := by decide +kernel
theorem dX10_ways_42 : decode cX10_ways 42 = .ok (.aload_n 0, 1) := by decide +kernel
theorem dX10_ways_43 : decode cX10_ways 43 = .ok (.getfield 37, 3) := by decide +kernel
theorem dX10_ways_46 : decode cX10_ways 46 = .ok (.aload_n 0, 1) := by decide +kernel
theorem dX10_ways_47 : decode cX10_ways 47 = .ok (.getfield 10, 3) := by decide +kernel
theorem dX10_ways_50 : decode cX10_ways 50 = .ok (.getfield 66, 3) := by decide +kernel
theorem dX10_ways_53 : decode cX10_ways 53 = .ok (.iload_n 1, 1) := by decide +kernel
theorem dX10_ways_54 : decode cX10_ways 54 = .ok (.iload_n 2, 1) := by decide +kernel
theorem dX10_ways_55 : decode cX10_ways 55 = .ok (.iload_n 3, 1) := by decide +kernel
theorem dX10_ways_56 : decode cX10_ways 56 = .ok (.iload 4, 2) := by decide +kernel
theorem dX10_ways_58 : decode cX10_ways 58 = .ok (.invokevirtual 238, 3) := by decide +kernel
theorem dX10_ways_61 : decode cX10_ways 61 = .ok (.lreturn, 1) := by decide +kernel
set_option maxRecDepth 20000 in
theorem ggX10_where_X10_hasLand : GoodIn wsX10_where wsX10_hasLand := goodIn_r _ [7, 1, 2, 8, 9, 10, 6, 11, 39, 40, 41, 42, 43, 44, 45, 46, 47, 48, 49, 50, 51, 52, 53, 54, 55, 56, 57] rfl (by decide +kernel)
set_option maxRecDepth 20000 in
theorem gX10_where_X10_hasLand : GoodIn wsX10_where (wsV RX10 112 RX10 yX10_hasLand wsX10_hasLand) := goodIn_app (goodIn_r _ [3, 4, 5, 6] rfl (by decide +kernel)) ggX10_where_X10_hasLand
set_option maxRecDepth 20000 in
theorem ggX10_where_X10_isYear : GoodIn wsX10_where wsX10_isYear := goodIn_r _ [14, 15, 9, 10, 6, 11] rfl (by decide +kernel)
set_option maxRecDepth 20000 in
theorem gX10_where_X10_isYear : GoodIn wsX10_where (va_wsS RX10 174 yX10_isYear wsX10_isYear) := goodIn_app (goodIn_r _ [12, 13, 6] rfl (by decide +kernel)) ggX10_where_X10_isYear
set_option maxRecDepth 20000 in
theorem ggX10_where_X10_within : GoodIn wsX10_where wsX10_within := goodIn_r _ [11] rfl (by decide +kernel)
set_option maxRecDepth 20000 in
theorem gX10_where_X10_within : GoodIn wsX10_where (va_wsS RX10 62 yX10_within wsX10_within) := goodIn_app (goodIn_r _ [9, 10, 6] rfl (by decide +kernel)) ggX10_where_X10_within
set_option maxRecDepth 20000 in
theorem ggX10_where_X4_darkAt : GoodIn wsX10_where wsX4_darkAt := goodIn_r _ [20, 21, 22, 23, 24, 19, 25, 26, 27, 28, 29, 30, 31, 32, 33, 34, 35, 51, 52, 53, 54, 55, 56, 57] rfl (by decide +kernel)
set_option maxRecDepth 20000 in
theorem gX10_where_X4_darkAt : GoodIn wsX10_where (wsV RX10 242 RX4 yX4_darkAt wsX4_darkAt) := goodIn_app (goodIn_r _ [16, 17, 18, 19] rfl (by decide +kernel)) ggX10_where_X4_darkAt
set_option maxRecDepth 20000 in
theorem ggX10_where_X10_beside : GoodIn wsX10_where wsX10_beside := goodIn_r _ [38] rfl (by decide +kernel)
set_option maxRecDepth 20000 in
theorem gX10_where_X10_beside : GoodIn wsX10_where (va_wsS RX10 245 yX10_beside wsX10_beside) := goodIn_app (goodIn_r _ [36, 37, 6] rfl (by decide +kernel)) ggX10_where_X10_beside
theorem dX10_where_0 : decode cX10_where 0 = .ok (.aload_n 0, 1) := by decide +kernel
theorem dX10_where_1 : decode cX10_where 1 = .ok (.iload_n 1, 1) := by decide +kernel
theorem dX10_where_2 : decode cX10_where 2 = .ok (.invokevirtual 112, 3) := by decide +kernel
theorem dX10_where_5 : decode cX10_where 5 = .ok (.ifCond .ne 5, 3) := by decide +kernel
theorem dX10_where_8 : decode cX10_where 8 = .ok (.iconst (-1), 1) := by decide +kernel
theorem dX10_where_9 : decode cX10_where 9 = .ok (.ireturn, 1) := by decide +kernel
theorem dX10_where_10 : decode cX10_where 10 = .ok (.iload_n 2, 1) := by decide +kernel
theorem dX10_where_11 : decode cX10_where 11 = .ok (.invokestatic 174, 3) := by decide +kernel
theorem dX10_where_14 : decode cX10_where 14 = .ok (.ifCond .eq 13, 3) := by decide +kernel
theorem dX10_where_17 : decode cX10_where 17 = .ok (.iload_n 3, 1) := by decide +kernel
theorem dX10_where_18 : decode cX10_where 18 = .ok (.iconst 0, 1) := by decide +kernel
theorem dX10_where_19 : decode cX10_where 19 = .ok (.bipush 30, 2) := by decide +kernel
theorem dX10_where_21 : decode cX10_where 21 = .ok (.invokestatic 62, 3) := by decide +kernel
theorem dX10_where_24 : decode cX10_where 24 = .ok (.ifCond .ne 6, 3) := by decide +kernel
theorem dX10_where_27 : decode cX10_where 27 = .ok (.bipush (-2), 2) := by decide +kernel
theorem dX10_where_29 : decode cX10_where 29 = .ok (.ireturn, 1) := by decide +kernel
theorem dX10_where_30 : decode cX10_where 30 = .ok (.aload_n 0, 1) := by decide +kernel
theorem dX10_where_31 : decode cX10_where 31 = .ok (.getfield 10, 3) := by decide +kernel
theorem dX10_where_34 : decode cX10_where 34 = .ok (.getfield 66, 3) := by decide +kernel
theorem dX10_where_37 : decode cX10_where 37 = .ok (.astore 4, 2) := by decide +kernel
theorem dX10_where_39 : decode cX10_where 39 = .ok (.iconst 1, 1) := by decide +kernel
theorem dX10_where_40 : decode cX10_where 40 = .ok (.iload_n 1, 1) := by decide +kernel
theorem dX10_where_41 : decode cX10_where 41 = .ok (.ishl, 1) := by decide +kernel
theorem dX10_where_42 : decode cX10_where 42 = .ok (.aload 4, 2) := by decide +kernel
theorem dX10_where_44 : decode cX10_where 44 = .ok (.iload_n 2, 1) := by decide +kernel
theorem dX10_where_45 : decode cX10_where 45 = .ok (.invokevirtual 242, 3) := by decide +kernel
theorem dX10_where_48 : decode cX10_where 48 = .ok (.iand, 1) := by decide +kernel
theorem dX10_where_49 : decode cX10_where 49 = .ok (.istore 5, 2) := by decide +kernel
theorem dX10_where_51 : decode cX10_where 51 = .ok (.iconst 1, 1) := by decide +kernel
theorem dX10_where_52 : decode cX10_where 52 = .ok (.istore 6, 2) := by decide +kernel
theorem dX10_where_54 : decode cX10_where 54 = .ok (.iload 6, 2) := by decide +kernel
theorem dX10_where_56 : decode cX10_where 56 = .ok (.iload_n 3, 1) := by decide +kernel
theorem dX10_where_57 : decode cX10_where 57 = .ok (.if_icmp .gt 26, 3) := by decide +kernel
theorem dX10_where_60 : decode cX10_where 60 = .ok (.iload 5, 2) := by decide +kernel
theorem dX10_where_62 : decode cX10_where 62 = .ok (.invokestatic 245, 3) := by decide +kernel
theorem dX10_where_65 : decode cX10_where 65 = .ok (.aload 4, 2) := by decide +kernel
theorem dX10_where_67 : decode cX10_where 67 = .ok (.iload_n 2, 1) := by decide +kernel
theorem dX10_where_68 : decode cX10_where 68 = .ok (.iload 6, 2) := by decide +kernel
theorem dX10_where_70 : decode cX10_where 70 = .ok (.iadd, 1) := by decide +kernel
theorem dX10_where_71 : decode cX10_where 71 = .ok (.invokevirtual 242, 3) := by decide +kernel
theorem dX10_where_74 : decode cX10_where 74 = .ok (.iand, 1) := by decide +kernel
theorem dX10_where_75 : decode cX10_where 75 = .ok (.istore 5, 2) := by decide +kernel
theorem dX10_where_77 : decode cX10_where 77 = .ok (.iinc 6 1, 3) := by decide +kernel
theorem dX10_where_80 : decode cX10_where 80 = .ok (.goto (-26), 3) := by decide +kernel
theorem dX10_where_83 : decode cX10_where 83 = .ok (.iload 5, 2) := by decide +kernel
theorem dX10_where_85 : decode cX10_where 85 = .ok (.ireturn, 1) := by decide +kernel
set_option maxRecDepth 20000 in
theorem ggX10_meet_X10_hasLand : GoodIn wsX10_meet wsX10_hasLand := goodIn_r _ [7, 1, 2, 8, 9, 10, 6, 11, 39, 40, 41, 42, 43, 44, 45, 46, 47, 48, 49, 50, 51, 52, 53, 54, 55, 56, 57] rfl (by decide +kernel)
set_option maxRecDepth 20000 in
theorem gX10_meet_X10_hasLand : GoodIn wsX10_meet (wsV RX10 112 RX10 yX10_hasLand wsX10_hasLand) := goodIn_app (goodIn_r _ [3, 4, 5, 6] rfl (by decide +kernel)) ggX10_meet_X10_hasLand
set_option maxRecDepth 20000 in
theorem ggX10_meet_X10_isYear : GoodIn wsX10_meet wsX10_isYear := goodIn_r _ [14, 15, 9, 10, 6, 11] rfl (by decide +kernel)
set_option maxRecDepth 20000 in
theorem gX10_meet_X10_isYear : GoodIn wsX10_meet (va_wsS RX10 174 yX10_isYear wsX10_isYear) := goodIn_app (goodIn_r _ [12, 13, 6] rfl (by decide +kernel)) ggX10_meet_X10_isYear
set_option maxRecDepth 20000 in
theorem ggX10_meet_X4_darkAt : GoodIn wsX10_meet wsX4_darkAt := goodIn_r _ [20, 21, 22, 23, 24, 19, 25, 26, 27, 28, 29, 30, 31, 32, 33, 34, 35, 51, 52, 53, 54, 55, 56, 57] rfl (by decide +kernel)
set_option maxRecDepth 20000 in
theorem gX10_meet_X4_darkAt : GoodIn wsX10_meet (wsV RX10 242 RX4 yX4_darkAt wsX4_darkAt) := goodIn_app (goodIn_r _ [16, 17, 18, 19] rfl (by decide +kernel)) ggX10_meet_X4_darkAt
set_option maxRecDepth 20000 in
theorem ggX10_meet_X10_beside : GoodIn wsX10_meet wsX10_beside := goodIn_r _ [38] rfl (by decide +kernel)
set_option maxRecDepth 20000 in
theorem gX10_meet_X10_beside : GoodIn wsX10_meet (va_wsS RX10 245 yX10_beside wsX10_beside) := goodIn_app (goodIn_r _ [36, 37, 6] rfl (by decide +kernel)) ggX10_meet_X10_beside
theorem dX10_meet_0 : decode cX10_meet 0 = .ok (.aload_n 0, 1) := by decide +kernel
theorem dX10_meet_1 : decode cX10_meet 1 = .ok (.iload_n 1, 1) := by decide +kernel
theorem dX10_meet_2 : decode cX10_meet 2 = .ok (.invokevirtual 112, 3) := by decide +kernel
theorem dX10_meet_5 : decode cX10_meet 5 = .ok (.ifCond .eq 11, 3) := by decide +kernel
theorem dX10_meet_8 : decode cX10_meet 8 = .ok (.aload_n 0, 1) := by decide +kernel
theorem dX10_meet_9 : decode cX10_meet 9 = .ok (.iload_n 2, 1) := by decide +kernel
theorem dX10_meet_10 : decode cX10_meet 10 = .ok (.invokevirtual 112, 3) := by decide +kernel
theorem dX10_meet_13 : decode cX10_meet 13 = .ok (.ifCond .ne 5, 3) := by decide +kernel
theorem dX10_meet_16 : decode cX10_meet 16 = .ok (.iconst (-1), 1) := by decide +kernel
theorem dX10_meet_17 : decode cX10_meet 17 = .ok (.ireturn, 1) := by decide +kernel
theorem dX10_meet_18 : decode cX10_meet 18 = .ok (.iload_n 3, 1) := by decide +kernel
theorem dX10_meet_19 : decode cX10_meet 19 = .ok (.invokestatic 174, 3) := by decide +kernel
theorem dX10_meet_22 : decode cX10_meet 22 = .ok (.ifCond .ne 6, 3) := by decide +kernel
theorem dX10_meet_25 : decode cX10_meet 25 = .ok (.bipush (-2), 2) := by decide +kernel
theorem dX10_meet_27 : decode cX10_meet 27 = .ok (.ireturn, 1) := by decide +kernel
theorem dX10_meet_28 : decode cX10_meet 28 = .ok (.aload_n 0, 1) := by decide +kernel
theorem dX10_meet_29 : decode cX10_meet 29 = .ok (.getfield 10, 3) := by decide +kernel
theorem dX10_meet_32 : decode cX10_meet 32 = .ok (.getfield 66, 3) := by decide +kernel
theorem dX10_meet_35 : decode cX10_meet 35 = .ok (.astore 4, 2) := by decide +kernel
theorem dX10_meet_37 : decode cX10_meet 37 = .ok (.aload 4, 2) := by decide +kernel
theorem dX10_meet_39 : decode cX10_meet 39 = .ok (.iload_n 3, 1) := by decide +kernel
theorem dX10_meet_40 : decode cX10_meet 40 = .ok (.invokevirtual 242, 3) := by decide +kernel
theorem dX10_meet_43 : decode cX10_meet 43 = .ok (.istore 5, 2) := by decide +kernel
theorem dX10_meet_45 : decode cX10_meet 45 = .ok (.iconst 1, 1) := by decide +kernel
theorem dX10_meet_46 : decode cX10_meet 46 = .ok (.iload_n 1, 1) := by decide +kernel
theorem dX10_meet_47 : decode cX10_meet 47 = .ok (.ishl, 1) := by decide +kernel
theorem dX10_meet_48 : decode cX10_meet 48 = .ok (.iload 5, 2) := by decide +kernel
theorem dX10_meet_50 : decode cX10_meet 50 = .ok (.iand, 1) := by decide +kernel
theorem dX10_meet_51 : decode cX10_meet 51 = .ok (.istore 6, 2) := by decide +kernel
theorem dX10_meet_53 : decode cX10_meet 53 = .ok (.iconst 1, 1) := by decide +kernel
theorem dX10_meet_54 : decode cX10_meet 54 = .ok (.iload_n 2, 1) := by decide +kernel
theorem dX10_meet_55 : decode cX10_meet 55 = .ok (.ishl, 1) := by decide +kernel
theorem dX10_meet_56 : decode cX10_meet 56 = .ok (.iload 5, 2) := by decide +kernel
theorem dX10_meet_58 : decode cX10_meet 58 = .ok (.iand, 1) := by decide +kernel
theorem dX10_meet_59 : decode cX10_meet 59 = .ok (.istore 7, 2) := by decide +kernel
theorem dX10_meet_61 : decode cX10_meet 61 = .ok (.iconst 0, 1) := by decide +kernel
theorem dX10_meet_62 : decode cX10_meet 62 = .ok (.istore 8, 2) := by decide +kernel
theorem dX10_meet_64 : decode cX10_meet 64 = .ok (.iload 8, 2) := by decide +kernel
theorem dX10_meet_66 : decode cX10_meet 66 = .ok (.bipush 30, 2) := by decide +kernel
theorem dX10_meet_68 : decode cX10_meet 68 = .ok (.if_icmp .ge 48, 3) := by decide +kernel
theorem dX10_meet_71 : decode cX10_meet 71 = .ok (.iload 6, 2) := by decide +kernel
theorem dX10_meet_73 : decode cX10_meet 73 = .ok (.iload 7, 2) := by decide +kernel
theorem dX10_meet_75 : decode cX10_meet 75 = .ok (.iand, 1) := by decide +kernel
theorem dX10_meet_76 : decode cX10_meet 76 = .ok (.ifCond .ne 40, 3) := by decide +kernel
theorem dX10_meet_79 : decode cX10_meet 79 = .ok (.iinc 3 1, 3) := by decide +kernel
theorem dX10_meet_82 : decode cX10_meet 82 = .ok (.aload 4, 2) := by decide +kernel
theorem dX10_meet_84 : decode cX10_meet 84 = .ok (.iload_n 3, 1) := by decide +kernel
theorem dX10_meet_85 : decode cX10_meet 85 = .ok (.invokevirtual 242, 3) := by decide +kernel
theorem dX10_meet_88 : decode cX10_meet 88 = .ok (.istore 5, 2) := by decide +kernel
theorem dX10_meet_90 : decode cX10_meet 90 = .ok (.iload 6, 2) := by decide +kernel
theorem dX10_meet_92 : decode cX10_meet 92 = .ok (.invokestatic 245, 3) := by decide +kernel
theorem dX10_meet_95 : decode cX10_meet 95 = .ok (.iload 5, 2) := by decide +kernel
theorem dX10_meet_97 : decode cX10_meet 97 = .ok (.iand, 1) := by decide +kernel
theorem dX10_meet_98 : decode cX10_meet 98 = .ok (.istore 6, 2) := by decide +kernel
theorem dX10_meet_100 : decode cX10_meet 100 = .ok (.iload 7, 2) := by decide +kernel
theorem dX10_meet_102 : decode cX10_meet 102 = .ok (.invokestatic 245, 3) := by decide +kernel
theorem dX10_meet_105 : decode cX10_meet 105 = .ok (.iload 5, 2) := by decide +kernel
theorem dX10_meet_107 : decode cX10_meet 107 = .ok (.iand, 1) := by decide +kernel
theorem dX10_meet_108 : decode cX10_meet 108 = .ok (.istore 7, 2) := by decide +kernel
theorem dX10_meet_110 : decode cX10_meet 110 = .ok (.iinc 8 1, 3) := by decide +kernel
theorem dX10_meet_113 : decode cX10_meet 113 = .ok (.goto (-49), 3) := by decide +kernel
theorem dX10_meet_116 : decode cX10_meet 116 = .ok (.iload 6, 2) := by decide +kernel
theorem dX10_meet_118 : decode cX10_meet 118 = .ok (.iload 7, 2) := by decide +kernel
theorem dX10_meet_120 : decode cX10_meet 120 = .ok (.iand, 1) := by decide +kernel
theorem dX10_meet_121 : decode cX10_meet 121 = .ok (.ifCond .ne 8, 3) := by decide +kernel
theorem dX10_meet_124 : decode cX10_meet 124 = .ok (.bipush (-6), 2) := by decide +kernel
theorem dX10_meet_126 : decode cX10_meet 126 = .ok (.goto 4, 3) := by decide +kernel
theorem dX10_meet_129 : decode cX10_meet 129 = .ok (.iload_n 3, 1) := by decide +kernel
theorem dX10_meet_130 : decode cX10_meet 130 = .ok (.ireturn, 1) := by decide +kernel
set_option maxRecDepth 20000 in
theorem ggX10_seen_X10_hasLand : GoodIn wsX10_seen wsX10_hasLand := goodIn_r _ [8, 1, 9, 10, 11, 12, 7, 13, 25, 26, 27, 28, 29, 30, 31, 32, 33, 34, 35, 36, 41, 42, 43, 44, 45, 46, 47] rfl (by decide +kernel)
set_option maxRecDepth 20000 in
theorem gX10_seen_X10_hasLand : GoodIn wsX10_seen (wsV RX10 112 RX10 yX10_hasLand wsX10_hasLand) := goodIn_app (goodIn_r _ [4, 5, 6, 7] rfl (by decide +kernel)) ggX10_seen_X10_hasLand
set_option maxRecDepth 20000 in
theorem ggX10_seen_X10_within : GoodIn wsX10_seen wsX10_within := goodIn_r _ [13] rfl (by decide +kernel)
set_option maxRecDepth 20000 in
theorem gX10_seen_X10_within : GoodIn wsX10_seen (va_wsS RX10 62 yX10_within wsX10_within) := goodIn_app (goodIn_r _ [11, 12, 7] rfl (by decide +kernel)) ggX10_seen_X10_within
set_option maxRecDepth 20000 in
theorem ggX10_seen_X5_add : GoodIn wsX10_seen wsX5_add := goodIn_r _ [18, 19, 20, 21, 22, 23, 7, 24, 37, 38, 39, 40] rfl (by decide +kernel)
set_option maxRecDepth 20000 in
theorem gX10_seen_X5_add : GoodIn wsX10_seen (wsV RX10 248 RX5 yX5_add wsX5_add) := goodIn_app (goodIn_r _ [14, 15, 16, 17] rfl (by decide +kernel)) ggX10_seen_X5_add
theorem dX10_seen_0 : decode cX10_seen 0 = .ok (.aload_n 0, 1) := by decide +kernel
theorem dX10_seen_1 : decode cX10_seen 1 = .ok (.iload_n 1, 1) := by decide +kernel
theorem dX10_seen_2 : decode cX10_seen 2 = .ok (.invokevirtual 112, 3) := by decide +kernel
theorem dX10_seen_5 : decode cX10_seen 5 = .ok (.ifCond .ne 5, 3) := by decide +kernel
theorem dX10_seen_8 : decode cX10_seen 8 = .ok (.iconst (-1), 1) := by decide +kernel
theorem dX10_seen_9 : decode cX10_seen 9 = .ok (.ireturn, 1) := by decide +kernel
theorem dX10_seen_10 : decode cX10_seen 10 = .ok (.iload_n 2, 1) := by decide +kernel
theorem dX10_seen_11 : decode cX10_seen 11 = .ok (.iconst 0, 1) := by decide +kernel
theorem dX10_seen_12 : decode cX10_seen 12 = .ok (.sipush 9999, 3) := by decide +kernel
theorem dX10_seen_15 : decode cX10_seen 15 = .ok (.invokestatic 62, 3) := by decide +kernel
theorem dX10_seen_18 : decode cX10_seen 18 = .ok (.ifCond .ne 6, 3) := by decide +kernel
theorem dX10_seen_21 : decode cX10_seen 21 = .ok (.bipush (-2), 2) := by decide +kernel
theorem dX10_seen_23 : decode cX10_seen 23 = .ok (.ireturn, 1) := by decide +kernel
theorem dX10_seen_24 : decode cX10_seen 24 = .ok (.aload_n 0, 1) := by decide +kernel
theorem dX10_seen_25 : decode cX10_seen 25 = .ok (.getfield 10, 3) := by decide +kernel
theorem dX10_seen_28 : decode cX10_seen 28 = .ok (.getfield 88, 3) := by decide +kernel
theorem dX10_seen_31 : decode cX10_seen 31 = .ok (.iload_n 1, 1) := by decide +kernel
theorem dX10_seen_32 : decode cX10_seen 32 = .ok (.iload_n 2, 1) := by decide +kernel
theorem dX10_seen_33 : decode cX10_seen 33 = .ok (.iload_n 3, 1) := by decide +kernel
theorem dX10_seen_34 : decode cX10_seen 34 = .ok (.invokevirtual 248, 3) := by decide +kernel
theorem dX10_seen_37 : decode cX10_seen 37 = .ok (.ifCond .eq 16, 3) := by decide +kernel
theorem dX10_seen_40 : decode cX10_seen 40 = .ok (.aload_n 0, 1) := by decide +kernel
theorem dX10_seen_41 : decode cX10_seen 41 = .ok (.getfield 10, 3) := by decide +kernel
theorem dX10_seen_44 : decode cX10_seen 44 = .ok (.getfield 88, 3) := by decide +kernel
theorem dX10_seen_47 : decode cX10_seen 47 = .ok (.getfield 92, 3) := by decide +kernel
theorem dX10_seen_50 : decode cX10_seen 50 = .ok (.goto 5, 3) := by decide +kernel
theorem dX10_seen_53 : decode cX10_seen 53 = .ok (.bipush (-4), 2) := by decide +kernel
theorem dX10_seen_55 : decode cX10_seen 55 = .ok (.ireturn, 1) := by decide +kernel
theorem dX10_forget_0 : decode cX10_forget 0 = .ok (.aload_n 0, 1) := by decide +kernel
theorem dX10_forget_1 : decode cX10_forget 1 = .ok (.getfield 10, 3) := by decide +kernel
theorem dX10_forget_4 : decode cX10_forget 4 = .ok (.getfield 88, 3) := by decide +kernel
theorem dX10_forget_7 : decode cX10_forget 7 = .ok (.getfield 92, 3) := by decide +kernel
theorem dX10_forget_10 : decode cX10_forget 10 = .ok (.istore_n 1, 1) := by decide +kernel
theorem dX10_forget_11 : decode cX10_forget 11 = .ok (.aload_n 0, 1) := by decide +kernel
theorem dX10_forget_12 : decode cX10_forget 12 = .ok (.getfield 10, 3) := by decide +kernel
theorem dX10_forget_15 : decode cX10_forget 15 = .ok (.getfield 88, 3) := by decide +kernel
theorem dX10_forget_18 : decode cX10_forget 18 = .ok (.iconst 0, 1) := by decide +kernel
theorem dX10_forget_19 : decode cX10_forget 19 = .ok (.putfield 92, 3) := by decide +kernel
theorem dX10_forget_22 : decode cX10_forget 22 = .ok (.iload_n 1, 1) := by decide +kernel
theorem dX10_forget_23 : decode cX10_forget 23 = .ok (.ireturn, 1) := by decide +kernel
set_option maxRecDepth 20000 in
theorem ggX10_laws_X1_take : GoodIn wsX10_laws wsX1_take := goodIn_r _ [9, 10, 11, 12, 13, 14, 15, 16, 17, 18, 19, 20, 21, 22, 23, 24, 8, 25, 26, 27, 28, 29, 30, 31, 32, 33, 34, 35, 36, 37, 38, 39, 40, 41, 42, 43, 44, 45, 46, 47, 48, 49, 50, 51, 52, 53, 54, 55, 56, 57, 58, 59, 60, 61, 62, 63, 64, 65, 74, 75, 76, 77, 78, 79, 80, 81, 82, 83, 84, 85, 86, 87, 88, 89, 90, 91, 92] rfl (by decide +kernel)
set_option maxRecDepth 20000 in
theorem gX10_laws_X1_take : GoodIn wsX10_laws (wsV RX10 251 RX1 yX1_take wsX1_take) := goodIn_app (goodIn_r _ [5, 6, 7, 8] rfl (by decide +kernel)) ggX10_laws_X1_take
theorem dX10_laws_0 : decode cX10_laws 0 = .ok (.iload_n 1, 1) := by decide +kernel
theorem dX10_laws_1 : decode cX10_laws 1 = .ok (.iconst (-1), 1) := by decide +kernel
theorem dX10_laws_2 : decode cX10_laws 2 = .ok (.if_icmp .ge 6, 3) := by decide +kernel
theorem dX10_laws_5 : decode cX10_laws 5 = .ok (.bipush (-6), 2) := by decide +kernel
theorem dX10_laws_7 : decode cX10_laws 7 = .ok (.ireturn, 1) := by decide +kernel
theorem dX10_laws_8 : decode cX10_laws 8 = .ok (.aload_n 0, 1) := by decide +kernel
theorem dX10_laws_9 : decode cX10_laws 9 = .ok (.getfield 44, 3) := by decide +kernel
theorem dX10_laws_12 : decode cX10_laws 12 = .ok (.aload_n 0, 1) := by decide +kernel
theorem dX10_laws_13 : decode cX10_laws 13 = .ok (.getfield 10, 3) := by decide +kernel
theorem dX10_laws_16 : decode cX10_laws 16 = .ok (.iload_n 1, 1) := by decide +kernel
theorem dX10_laws_17 : decode cX10_laws 17 = .ok (.iconst (-1), 1) := by decide +kernel
theorem dX10_laws_18 : decode cX10_laws 18 = .ok (.invokevirtual 251, 3) := by decide +kernel
theorem dX10_laws_21 : decode cX10_laws 21 = .ok (.iload_n 1, 1) := by decide +kernel
theorem dX10_laws_22 : decode cX10_laws 22 = .ok (.iconst (-1), 1) := by decide +kernel
theorem dX10_laws_23 : decode cX10_laws 23 = .ok (.if_icmp .ne 13, 3) := by decide +kernel
theorem dX10_laws_26 : decode cX10_laws 26 = .ok (.aload_n 0, 1) := by decide +kernel
theorem dX10_laws_27 : decode cX10_laws 27 = .ok (.getfield 44, 3) := by decide +kernel
theorem dX10_laws_30 : decode cX10_laws 30 = .ok (.getfield 255, 3) := by decide +kernel
theorem dX10_laws_33 : decode cX10_laws 33 = .ok (.goto 10, 3) := by decide +kernel
theorem dX10_laws_36 : decode cX10_laws 36 = .ok (.aload_n 0, 1) := by decide +kernel
theorem dX10_laws_37 : decode cX10_laws 37 = .ok (.getfield 44, 3) := by decide +kernel
theorem dX10_laws_40 : decode cX10_laws 40 = .ok (.getfield 256, 3) := by decide +kernel
theorem dX10_laws_43 : decode cX10_laws 43 = .ok (.ireturn, 1) := by decide +kernel
set_option maxRecDepth 20000 in
theorem ggX10_look_X10_isYear : GoodIn wsX10_look wsX10_isYear := goodIn_r _ [9, 10, 11, 12, 8, 13] rfl (by decide +kernel)
set_option maxRecDepth 20000 in
theorem gX10_look_X10_isYear : GoodIn wsX10_look (va_wsS RX10 174 yX10_isYear wsX10_isYear) := goodIn_app (goodIn_r _ [6, 7, 8] rfl (by decide +kernel)) ggX10_look_X10_isYear
set_option maxRecDepth 20000 in
theorem ggX10_look_X10_within : GoodIn wsX10_look wsX10_within := goodIn_r _ [13] rfl (by decide +kernel)
set_option maxRecDepth 20000 in
theorem gX10_look_X10_within : GoodIn wsX10_look (va_wsS RX10 62 yX10_within wsX10_within) := goodIn_app (goodIn_r _ [11, 12, 8] rfl (by decide +kernel)) ggX10_look_X10_within
set_option maxRecDepth 20000 in
theorem ggX10_look_X1_take : GoodIn wsX10_look wsX1_take := goodIn_r _ [18, 19, 20, 21, 22, 23, 24, 25, 26, 27, 28, 8, 29, 30, 31, 32, 17, 33, 34, 35, 36, 37, 38, 39, 40, 41, 42, 43, 44, 45, 46, 47, 48, 49, 50, 51, 52, 53, 54, 55, 56, 57, 58, 59, 60, 61, 62, 63, 64, 65, 66, 67, 68, 69, 70, 71, 72, 73, 94, 95, 96, 97, 98, 99, 100, 101, 102, 103, 104, 105, 106, 107, 108, 109, 110, 111, 112] rfl (by decide +kernel)
set_option maxRecDepth 20000 in
theorem gX10_look_X1_take : GoodIn wsX10_look (wsV RX10 251 RX1 yX1_take wsX1_take) := goodIn_app (goodIn_r _ [14, 15, 16, 17] rfl (by decide +kernel)) ggX10_look_X1_take
set_option maxRecDepth 20000 in
theorem ggX10_look_X1_bestLook : GoodIn wsX10_look wsX1_bestLook := goodIn_r _ [77, 78, 79, 80, 17, 81, 21, 19, 82, 83, 36, 84, 55, 8, 56, 94, 95, 96, 97] rfl (by decide +kernel)
set_option maxRecDepth 20000 in
theorem gX10_look_X1_bestLook : GoodIn wsX10_look (wsV RX10 259 RX1 yX1_bestLook wsX1_bestLook) := goodIn_app (goodIn_r _ [74, 75, 76, 17] rfl (by decide +kernel)) ggX10_look_X1_bestLook
set_option maxRecDepth 20000 in
theorem ggX10_look_X1_leftAtMost : GoodIn wsX10_look wsX1_leftAtMost := goodIn_r _ [81, 21, 19, 82, 83, 36, 84, 55, 8, 56, 94, 95, 96, 97] rfl (by decide +kernel)
set_option maxRecDepth 20000 in
theorem gX10_look_X1_leftAtMost : GoodIn wsX10_look (wsV RX10 262 RX1 yX1_leftAtMost wsX1_leftAtMost) := goodIn_app (goodIn_r _ [85, 79, 80, 17] rfl (by decide +kernel)) ggX10_look_X1_leftAtMost
theorem dX10_look_0 : decode cX10_look 0 = .ok (.iload_n 1, 1) := by decide +kernel
theorem dX10_look_1 : decode cX10_look 1 = .ok (.invokestatic 174, 3) := by decide +kernel
theorem dX10_look_4 : decode cX10_look 4 = .ok (.ifCond .eq 12, 3) := by decide +kernel
theorem dX10_look_7 : decode cX10_look 7 = .ok (.iload_n 2, 1) := by decide +kernel
theorem dX10_look_8 : decode cX10_look 8 = .ok (.iconst 0, 1) := by decide +kernel
theorem dX10_look_9 : decode cX10_look 9 = .ok (.iconst 1, 1) := by decide +kernel
theorem dX10_look_10 : decode cX10_look 10 = .ok (.invokestatic 62, 3) := by decide +kernel
theorem dX10_look_13 : decode cX10_look 13 = .ok (.ifCond .ne 6, 3) := by decide +kernel
theorem dX10_look_16 : decode cX10_look 16 = .ok (.bipush (-2), 2) := by decide +kernel
theorem dX10_look_18 : decode cX10_look 18 = .ok (.ireturn, 1) := by decide +kernel
theorem dX10_look_19 : decode cX10_look 19 = .ok (.aload_n 0, 1) := by decide +kernel
theorem dX10_look_20 : decode cX10_look 20 = .ok (.getfield 44, 3) := by decide +kernel
theorem dX10_look_23 : decode cX10_look 23 = .ok (.aload_n 0, 1) := by decide +kernel
theorem dX10_look_24 : decode cX10_look 24 = .ok (.getfield 10, 3) := by decide +kernel
theorem dX10_look_27 : decode cX10_look 27 = .ok (.bipush (-6), 2) := by decide +kernel
theorem dX10_look_29 : decode cX10_look 29 = .ok (.iload_n 1, 1) := by decide +kernel
theorem dX10_look_30 : decode cX10_look 30 = .ok (.invokevirtual 251, 3) := by decide +kernel
theorem dX10_look_33 : decode cX10_look 33 = .ok (.aload_n 0, 1) := by decide +kernel
theorem dX10_look_34 : decode cX10_look 34 = .ok (.getfield 44, 3) := by decide +kernel
theorem dX10_look_37 : decode cX10_look 37 = .ok (.getfield 255, 3) := by decide +kernel
theorem dX10_look_40 : decode cX10_look 40 = .ok (.ifCond .ne 6, 3) := by decide +kernel
theorem dX10_look_43 : decode cX10_look 43 = .ok (.bipush (-6), 2) := by decide +kernel
theorem dX10_look_45 : decode cX10_look 45 = .ok (.ireturn, 1) := by decide +kernel
theorem dX10_look_46 : decode cX10_look 46 = .ok (.aload_n 0, 1) := by decide +kernel
theorem dX10_look_47 : decode cX10_look 47 = .ok (.getfield 44, 3) := by decide +kernel
theorem dX10_look_50 : decode cX10_look 50 = .ok (.aload_n 0, 1) := by decide +kernel
theorem dX10_look_51 : decode cX10_look 51 = .ok (.getfield 10, 3) := by decide +kernel
theorem dX10_look_54 : decode cX10_look 54 = .ok (.getfield 66, 3) := by decide +kernel
theorem dX10_look_57 : decode cX10_look 57 = .ok (.getfield 70, 3) := by decide +kernel
theorem dX10_look_60 : decode cX10_look 60 = .ok (.invokevirtual 259, 3) := by decide +kernel
theorem dX10_look_63 : decode cX10_look 63 = .ok (.istore_n 3, 1) := by decide +kernel
theorem dX10_look_64 : decode cX10_look 64 = .ok (.iload_n 2, 1) := by decide +kernel
theorem dX10_look_65 : decode cX10_look 65 = .ok (.ifCond .ne 7, 3) := by decide +kernel
theorem dX10_look_68 : decode cX10_look 68 = .ok (.iload_n 3, 1) := by decide +kernel
theorem dX10_look_69 : decode cX10_look 69 = .ok (.goto 11, 3) := by decide +kernel
theorem dX10_look_72 : decode cX10_look 72 = .ok (.aload_n 0, 1) := by decide +kernel
theorem dX10_look_73 : decode cX10_look 73 = .ok (.getfield 44, 3) := by decide +kernel
theorem dX10_look_76 : decode cX10_look 76 = .ok (.iload_n 3, 1) := by decide +kernel
theorem dX10_look_77 : decode cX10_look 77 = .ok (.invokevirtual 262, 3) := by decide +kernel
theorem dX10_look_80 : decode cX10_look 80 = .ok (.ireturn, 1) := by decide +kernel
set_option maxRecDepth 20000 in
theorem ggX10_dust_X10_hasLand : GoodIn wsX10_dust wsX10_hasLand := goodIn_r _ [11, 4, 12, 13, 14, 15, 10, 16, 77, 78, 79, 80, 81, 82, 83, 84, 89, 90, 91, 92, 93, 94, 95, 96, 97, 98, 99] rfl (by decide +kernel)
set_option maxRecDepth 20000 in
theorem gX10_dust_X10_hasLand : GoodIn wsX10_dust (wsV RX10 112 RX10 yX10_hasLand wsX10_hasLand) := goodIn_app (goodIn_r _ [7, 8, 9, 10] rfl (by decide +kernel)) ggX10_dust_X10_hasLand
set_option maxRecDepth 20000 in
theorem ggX10_dust_X10_within : GoodIn wsX10_dust wsX10_within := goodIn_r _ [16] rfl (by decide +kernel)
set_option maxRecDepth 20000 in
theorem gX10_dust_X10_within : GoodIn wsX10_dust (va_wsS RX10 62 yX10_within wsX10_within) := goodIn_app (goodIn_r _ [14, 15, 10] rfl (by decide +kernel)) ggX10_dust_X10_within
set_option maxRecDepth 20000 in
theorem ggX10_dust_X2_pass : GoodIn wsX10_dust wsX2_pass := goodIn_r _ [21, 22, 23, 24, 25, 26, 27, 28, 29, 30, 10, 31, 32, 33, 34, 35, 36, 37, 38, 39, 40, 41, 42, 43, 44, 45, 46, 47, 48, 49, 50, 51, 52, 53, 54, 55, 56, 57, 58, 59, 60, 61, 62, 63, 64, 65, 20, 66, 67, 68, 69, 70, 85, 86, 87, 88, 89, 90, 91, 92, 100, 93, 94, 95, 96, 97, 98, 99] rfl (by decide +kernel)
set_option maxRecDepth 20000 in
theorem gX10_dust_X2_pass : GoodIn wsX10_dust (wsV RX10 265 RX2 yX2_pass wsX2_pass) := goodIn_app (goodIn_r _ [17, 18, 19, 20] rfl (by decide +kernel)) ggX10_dust_X2_pass
set_option maxRecDepth 20000 in
theorem ggX10_dust_X10_greatestDivisor : GoodIn wsX10_dust wsX10_greatestDivisor := goodIn_r _ [73] rfl (by decide +kernel)
set_option maxRecDepth 20000 in
theorem gX10_dust_X10_greatestDivisor : GoodIn wsX10_dust (va_wsS RX10 276 yX10_greatestDivisor wsX10_greatestDivisor) := goodIn_app (goodIn_r _ [71, 72, 10] rfl (by decide +kernel)) ggX10_dust_X10_greatestDivisor
set_option maxRecDepth 20000 in
theorem ggX10_dust_X10_cut_ : GoodIn wsX10_dust wsX10_cut_ := goodIn_r _ [76] rfl (by decide +kernel)
set_option maxRecDepth 20000 in
theorem gX10_dust_X10_cut_ : GoodIn wsX10_dust (va_wsS RX10 280 yX10_cut_ wsX10_cut_) := goodIn_app (goodIn_r _ [74, 75, 10] rfl (by decide +kernel)) ggX10_dust_X10_cut_
theorem dX10_dust_0 : decode cX10_dust 0 = .ok (.aload_n 0, 1) := by decide +kernel
theorem dX10_dust_1 : decode cX10_dust 1 = .ok (.iload_n 1, 1) := by decide +kernel
theorem dX10_dust_2 : decode cX10_dust 2 = .ok (.invokevirtual 112, 3) := by decide +kernel
theorem dX10_dust_5 : decode cX10_dust 5 = .ok (.ifCond .ne 7, 3) := by decide +kernel
theorem dX10_dust_8 : decode cX10_dust 8 = .ok (.ldc2_w 234, 3) := by decide +kernel
theorem dX10_dust_11 : decode cX10_dust 11 = .ok (.lreturn, 1) := by decide +kernel
theorem dX10_dust_12 : decode cX10_dust 12 = .ok (.iload_n 2, 1) := by decide +kernel
theorem dX10_dust_13 : decode cX10_dust 13 = .ok (.iconst 0, 1) := by decide +kernel
theorem dX10_dust_14 : decode cX10_dust 14 = .ok (.bipush 10, 2) := by decide +kernel
theorem dX10_dust_16 : decode cX10_dust 16 = .ok (.invokestatic 62, 3) := by decide +kernel
theorem dX10_dust_19 : decode cX10_dust 19 = .ok (.ifCond .eq 23, 3) := by decide +kernel
theorem dX10_dust_22 : decode cX10_dust 22 = .ok (.iload_n 3, 1) := by decide +kernel
theorem dX10_dust_23 : decode cX10_dust 23 = .ok (.iconst 0, 1) := by decide +kernel
theorem dX10_dust_24 : decode cX10_dust 24 = .ok (.bipush 12, 2) := by decide +kernel
theorem dX10_dust_26 : decode cX10_dust 26 = .ok (.invokestatic 62, 3) := by decide +kernel
theorem dX10_dust_29 : decode cX10_dust 29 = .ok (.ifCond .eq 13, 3) := by decide +kernel
theorem dX10_dust_32 : decode cX10_dust 32 = .ok (.iload 4, 2) := by decide +kernel
theorem dX10_dust_34 : decode cX10_dust 34 = .ok (.iconst 0, 1) := by decide +kernel
theorem dX10_dust_35 : decode cX10_dust 35 = .ok (.iconst 1, 1) := by decide +kernel
theorem dX10_dust_36 : decode cX10_dust 36 = .ok (.invokestatic 62, 3) := by decide +kernel
theorem dX10_dust_39 : decode cX10_dust 39 = .ok (.ifCond .ne 7, 3) := by decide +kernel
theorem dX10_dust_42 : decode cX10_dust 42 = .ok (.ldc2_w 236, 3) := by decide +kernel
theorem dX10_dust_45 : decode cX10_dust 45 = .ok (.lreturn, 1) := by decide +kernel
theorem dX10_dust_46 : decode cX10_dust 46 = .ok (.aload_n 0, 1) := by decide +kernel
theorem dX10_dust_47 : decode cX10_dust 47 = .ok (.getfield 58, 3) := by decide +kernel
theorem dX10_dust_50 : decode cX10_dust 50 = .ok (.aload_n 0, 1) := by decide +kernel
theorem dX10_dust_51 : decode cX10_dust 51 = .ok (.getfield 10, 3) := by decide +kernel
theorem dX10_dust_54 : decode cX10_dust 54 = .ok (.iload_n 1, 1) := by decide +kernel
theorem dX10_dust_55 : decode cX10_dust 55 = .ok (.iload_n 2, 1) := by decide +kernel
theorem dX10_dust_56 : decode cX10_dust 56 = .ok (.iload_n 3, 1) := by decide +kernel
theorem dX10_dust_57 : decode cX10_dust 57 = .ok (.invokevirtual 265, 3) := by decide +kernel
theorem dX10_dust_60 : decode cX10_dust 60 = .ok (.aload_n 0, 1) := by decide +kernel
theorem dX10_dust_61 : decode cX10_dust 61 = .ok (.getfield 58, 3) := by decide +kernel
theorem dX10_dust_64 : decode cX10_dust 64 = .ok (.getfield 269, 3) := by decide +kernel
theorem dX10_dust_67 : decode cX10_dust 67 = .ok (.aload_n 0, 1) := by decide +kernel
theorem dX10_dust_68 : decode cX10_dust 68 = .ok (.getfield 58, 3) := by decide +kernel
theorem dX10_dust_71 : decode cX10_dust 71 = .ok (.getfield 273, 3) := by decide +kernel
theorem dX10_dust_74 : decode cX10_dust 74 = .ok (.invokestatic 276, 3) := by decide +kernel
theorem dX10_dust_77 : decode cX10_dust 77 = .ok (.lstore 5, 2) := by decide +kernel
theorem dX10_dust_79 : decode cX10_dust 79 = .ok (.iload 4, 2) := by decide +kernel
theorem dX10_dust_81 : decode cX10_dust 81 = .ok (.ifCond .ne 18, 3) := by decide +kernel
theorem dX10_dust_84 : decode cX10_dust 84 = .ok (.aload_n 0, 1) := by decide +kernel
theorem dX10_dust_85 : decode cX10_dust 85 = .ok (.getfield 58, 3) := by decide +kernel
theorem dX10_dust_88 : decode cX10_dust 88 = .ok (.getfield 269, 3) := by decide +kernel
theorem dX10_dust_91 : decode cX10_dust 91 = .ok (.lload 5, 2) := by decide +kernel
theorem dX10_dust_93 : decode cX10_dust 93 = .ok (.invokestatic 280, 3) := by decide +kernel
theorem dX10_dust_96 : decode cX10_dust 96 = .ok (.goto 15, 3) := by decide +kernel
theorem dX10_dust_99 : decode cX10_dust 99 = .ok (.aload_n 0, 1) := by decide +kernel
theorem dX10_dust_100 : decode cX10_dust 100 = .ok (.getfield 58, 3) := by decide +kernel
theorem dX10_dust_103 : decode cX10_dust 103 = .ok (.getfield 273, 3) := by decide +kernel
theorem dX10_dust_106 : decode cX10_dust 106 = .ok (.lload 5, 2) := by decide +kernel
theorem dX10_dust_108 : decode cX10_dust 108 = .ok (.invokestatic 280, 3) := by decide +kernel
theorem dX10_dust_111 : decode cX10_dust 111 = .ok (.lreturn, 1) := by decide +kernel
set_option maxRecDepth 20000 in
theorem ggX10_rent_X10_hasLand : GoodIn wsX10_rent wsX10_hasLand := goodIn_r _ [7, 1, 2, 8, 9, 10, 6, 11, 73, 74, 75, 76, 77, 78, 79, 80, 81, 82, 83, 84, 85, 86, 87, 88, 89, 90, 91] rfl (by decide +kernel)
set_option maxRecDepth 20000 in
theorem gX10_rent_X10_hasLand : GoodIn wsX10_rent (wsV RX10 112 RX10 yX10_hasLand wsX10_hasLand) := goodIn_app (goodIn_r _ [3, 4, 5, 6] rfl (by decide +kernel)) ggX10_rent_X10_hasLand
set_option maxRecDepth 20000 in
theorem ggX10_rent_X10_isYear : GoodIn wsX10_rent wsX10_isYear := goodIn_r _ [14, 15, 9, 10, 6, 11] rfl (by decide +kernel)
set_option maxRecDepth 20000 in
theorem gX10_rent_X10_isYear : GoodIn wsX10_rent (va_wsS RX10 174 yX10_isYear wsX10_isYear) := goodIn_app (goodIn_r _ [12, 13, 6] rfl (by decide +kernel)) ggX10_rent_X10_isYear
set_option maxRecDepth 20000 in
theorem ggX10_rent_X10_within : GoodIn wsX10_rent wsX10_within := goodIn_r _ [11] rfl (by decide +kernel)
set_option maxRecDepth 20000 in
theorem gX10_rent_X10_within : GoodIn wsX10_rent (va_wsS RX10 62 yX10_within wsX10_within) := goodIn_app (goodIn_r _ [9, 10, 6] rfl (by decide +kernel)) ggX10_rent_X10_within
set_option maxRecDepth 20000 in
theorem ggX10_rent_X4_rentYears : GoodIn wsX10_rent wsX4_rentYears := goodIn_r _ [20, 21, 22, 23, 24, 25, 26, 27, 28, 29, 30, 31, 19, 32, 33, 34, 35, 36, 37, 38, 39, 40, 6, 41, 42, 43, 44, 45, 46, 47, 48, 49, 50, 51, 52, 53, 54, 55, 56, 57, 58, 59, 60, 61, 62, 63, 64, 65, 66, 67, 68, 69, 70, 71, 72, 85, 86, 87, 88, 89, 90, 91] rfl (by decide +kernel)
set_option maxRecDepth 20000 in
theorem gX10_rent_X4_rentYears : GoodIn wsX10_rent (wsV RX10 282 RX4 yX4_rentYears wsX4_rentYears) := goodIn_app (goodIn_r _ [16, 17, 18, 19] rfl (by decide +kernel)) ggX10_rent_X4_rentYears
theorem dX10_rent_0 : decode cX10_rent 0 = .ok (.aload_n 0, 1) := by decide +kernel
theorem dX10_rent_1 : decode cX10_rent 1 = .ok (.iload_n 1, 1) := by decide +kernel
theorem dX10_rent_2 : decode cX10_rent 2 = .ok (.invokevirtual 112, 3) := by decide +kernel
theorem dX10_rent_5 : decode cX10_rent 5 = .ok (.ifCond .ne 5, 3) := by decide +kernel
theorem dX10_rent_8 : decode cX10_rent 8 = .ok (.iconst (-1), 1) := by decide +kernel
theorem dX10_rent_9 : decode cX10_rent 9 = .ok (.ireturn, 1) := by decide +kernel
theorem dX10_rent_10 : decode cX10_rent 10 = .ok (.iload_n 2, 1) := by decide +kernel
theorem dX10_rent_11 : decode cX10_rent 11 = .ok (.invokestatic 174, 3) := by decide +kernel
theorem dX10_rent_14 : decode cX10_rent 14 = .ok (.ifCond .eq 25, 3) := by decide +kernel
theorem dX10_rent_17 : decode cX10_rent 17 = .ok (.iload_n 3, 1) := by decide +kernel
theorem dX10_rent_18 : decode cX10_rent 18 = .ok (.iconst 0, 1) := by decide +kernel
theorem dX10_rent_19 : decode cX10_rent 19 = .ok (.sipush 9999, 3) := by decide +kernel
theorem dX10_rent_22 : decode cX10_rent 22 = .ok (.invokestatic 62, 3) := by decide +kernel
theorem dX10_rent_25 : decode cX10_rent 25 = .ok (.ifCond .eq 14, 3) := by decide +kernel
theorem dX10_rent_28 : decode cX10_rent 28 = .ok (.iload 4, 2) := by decide +kernel
theorem dX10_rent_30 : decode cX10_rent 30 = .ok (.iconst 0, 1) := by decide +kernel
theorem dX10_rent_31 : decode cX10_rent 31 = .ok (.bipush 99, 2) := by decide +kernel
theorem dX10_rent_33 : decode cX10_rent 33 = .ok (.invokestatic 62, 3) := by decide +kernel
theorem dX10_rent_36 : decode cX10_rent 36 = .ok (.ifCond .ne 6, 3) := by decide +kernel
theorem dX10_rent_39 : decode cX10_rent 39 = .ok (.bipush (-2), 2) := by decide +kernel
theorem dX10_rent_41 : decode cX10_rent 41 = .ok (.ireturn, 1) := by decide +kernel
theorem dX10_rent_42 : decode cX10_rent 42 = .ok (.iload 4, 2) := by decide +kernel
theorem dX10_rent_44 : decode cX10_rent 44 = .ok (.aload_n 0, 1) := by decide +kernel
theorem dX10_rent_45 : decode cX10_rent 45 = .ok (.getfield 10, 3) := by decide +kernel
theorem dX10_rent_48 : decode cX10_rent 48 = .ok (.getfield 66, 3) := by decide +kernel
theorem dX10_rent_51 : decode cX10_rent 51 = .ok (.iload_n 1, 1) := by decide +kernel
theorem dX10_rent_52 : decode cX10_rent 52 = .ok (.iload_n 2, 1) := by decide +kernel
theorem dX10_rent_53 : decode cX10_rent 53 = .ok (.iload_n 3, 1) := by decide +kernel
theorem dX10_rent_54 : decode cX10_rent 54 = .ok (.invokevirtual 282, 3) := by decide +kernel
theorem dX10_rent_57 : decode cX10_rent 57 = .ok (.imul, 1) := by decide +kernel
theorem dX10_rent_58 : decode cX10_rent 58 = .ok (.ireturn, 1) := by decide +kernel
set_option maxRecDepth 20000 in
theorem ggX10_age_X10_within : GoodIn wsX10_age wsX10_within := goodIn_r _ [11] rfl (by decide +kernel)
set_option maxRecDepth 20000 in
theorem gX10_age_X10_within : GoodIn wsX10_age (va_wsS RX10 62 yX10_within wsX10_within) := goodIn_app (goodIn_r _ [8, 9, 10] rfl (by decide +kernel)) ggX10_age_X10_within
set_option maxRecDepth 20000 in
theorem ggX10_age_X7_begin : GoodIn wsX10_age wsX7_begin := goodIn_r _ [16, 17, 18, 19, 20, 21, 22, 23, 24, 25, 26, 27, 28, 29, 30, 31, 32, 33, 34, 35, 36, 37, 38, 39, 40, 41, 42, 43, 44, 45, 46, 47, 48, 10, 49, 50, 51, 115, 116, 117, 118, 119, 120, 121, 122, 123, 124, 132, 133, 134, 135, 125, 126, 127, 128, 129, 130, 131, 136] rfl (by decide +kernel)
set_option maxRecDepth 20000 in
theorem gX10_age_X7_begin : GoodIn wsX10_age (wsV RX10 201 RX7 yX7_begin wsX7_begin) := goodIn_app (goodIn_r _ [12, 13, 14, 15] rfl (by decide +kernel)) ggX10_age_X7_begin
set_option maxRecDepth 20000 in
theorem ggX10_age_X7_drawYears : GoodIn wsX10_age wsX7_drawYears := goodIn_r _ [55, 17, 56, 57, 19, 29, 58, 10, 59, 60, 61, 62, 45, 63, 64, 65, 66, 67, 47, 68, 69, 70, 71, 72, 73, 74, 15, 75, 23, 21, 25, 24, 76, 77, 78, 33, 79, 36, 80, 81, 82, 83, 35, 37, 38, 84, 85, 86, 87, 39, 40, 41, 88, 89, 90, 91, 92, 93, 94, 95, 96, 97, 98, 99, 100, 101, 102, 115, 116, 117, 118, 119, 120, 121, 122, 123, 124, 125, 126, 127, 128, 129, 130, 131, 136] rfl (by decide +kernel)
set_option maxRecDepth 20000 in
theorem gX10_age_X7_drawYears : GoodIn wsX10_age (wsV RX10 285 RX7 yX7_drawYears wsX7_drawYears) := goodIn_app (goodIn_r _ [52, 53, 54, 15] rfl (by decide +kernel)) ggX10_age_X7_drawYears
set_option maxRecDepth 20000 in
theorem ggX10_age_X6_together : GoodIn wsX10_age wsX6_together := goodIn_r _ [106, 64, 65, 66, 45, 67, 47, 136] rfl (by decide +kernel)
set_option maxRecDepth 20000 in
theorem gX10_age_X6_together : GoodIn wsX10_age (wsV RX10 288 RX6 yX6_together wsX6_together) := goodIn_app (goodIn_r _ [103, 104, 105, 45] rfl (by decide +kernel)) ggX10_age_X6_together
theorem dX10_age_0 : decode cX10_age 0 = .ok (.iload_n 1, 1) := by decide +kernel
theorem dX10_age_1 : decode cX10_age 1 = .ok (.iconst 0, 1) := by decide +kernel
theorem dX10_age_2 : decode cX10_age 2 = .ok (.sipush 9999, 3) := by decide +kernel
theorem dX10_age_5 : decode cX10_age 5 = .ok (.invokestatic 62, 3) := by decide +kernel
theorem dX10_age_8 : decode cX10_age 8 = .ok (.ifCond .eq 22, 3) := by decide +kernel
theorem dX10_age_11 : decode cX10_age 11 = .ok (.iload_n 2, 1) := by decide +kernel
theorem dX10_age_12 : decode cX10_age 12 = .ok (.iconst 1, 1) := by decide +kernel
theorem dX10_age_13 : decode cX10_age 13 = .ok (.bipush 99, 2) := by decide +kernel
theorem dX10_age_15 : decode cX10_age 15 = .ok (.invokestatic 62, 3) := by decide +kernel
theorem dX10_age_18 : decode cX10_age 18 = .ok (.ifCond .eq 12, 3) := by decide +kernel
theorem dX10_age_21 : decode cX10_age 21 = .ok (.iload_n 3, 1) := by decide +kernel
theorem dX10_age_22 : decode cX10_age 22 = .ok (.iconst 0, 1) := by decide +kernel
theorem dX10_age_23 : decode cX10_age 23 = .ok (.iconst 2, 1) := by decide +kernel
theorem dX10_age_24 : decode cX10_age 24 = .ok (.invokestatic 62, 3) := by decide +kernel
theorem dX10_age_27 : decode cX10_age 27 = .ok (.ifCond .ne 6, 3) := by decide +kernel
theorem dX10_age_30 : decode cX10_age 30 = .ok (.bipush (-2), 2) := by decide +kernel
theorem dX10_age_32 : decode cX10_age 32 = .ok (.ireturn, 1) := by decide +kernel
theorem dX10_age_33 : decode cX10_age 33 = .ok (.aload_n 0, 1) := by decide +kernel
theorem dX10_age_34 : decode cX10_age 34 = .ok (.getfield 30, 3) := by decide +kernel
theorem dX10_age_37 : decode cX10_age 37 = .ok (.aload_n 0, 1) := by decide +kernel
theorem dX10_age_38 : decode cX10_age 38 = .ok (.getfield 10, 3) := by decide +kernel
theorem dX10_age_41 : decode cX10_age 41 = .ok (.invokevirtual 201, 3) := by decide +kernel
theorem dX10_age_44 : decode cX10_age 44 = .ok (.aload_n 0, 1) := by decide +kernel
theorem dX10_age_45 : decode cX10_age 45 = .ok (.getfield 30, 3) := by decide +kernel
theorem dX10_age_48 : decode cX10_age 48 = .ok (.iload_n 1, 1) := by decide +kernel
theorem dX10_age_49 : decode cX10_age 49 = .ok (.iload_n 2, 1) := by decide +kernel
theorem dX10_age_50 : decode cX10_age 50 = .ok (.invokevirtual 285, 3) := by decide +kernel
theorem dX10_age_53 : decode cX10_age 53 = .ok (.iload_n 3, 1) := by decide +kernel
theorem dX10_age_54 : decode cX10_age 54 = .ok (.ifCond .ne 11, 3) := by decide +kernel
theorem dX10_age_57 : decode cX10_age 57 = .ok (.aload_n 0, 1) := by decide +kernel
theorem dX10_age_58 : decode cX10_age 58 = .ok (.getfield 30, 3) := by decide +kernel
theorem dX10_age_61 : decode cX10_age 61 = .ok (.getfield 150, 3) := by decide +kernel
theorem dX10_age_64 : decode cX10_age 64 = .ok (.ireturn, 1) := by decide +kernel
theorem dX10_age_65 : decode cX10_age 65 = .ok (.iload_n 3, 1) := by decide +kernel
theorem dX10_age_66 : decode cX10_age 66 = .ok (.iconst 1, 1) := by decide +kernel
theorem dX10_age_67 : decode cX10_age 67 = .ok (.if_icmp .ne 26, 3) := by decide +kernel
theorem dX10_age_70 : decode cX10_age 70 = .ok (.aload_n 0, 1) := by decide +kernel
theorem dX10_age_71 : decode cX10_age 71 = .ok (.getfield 30, 3) := by decide +kernel
theorem dX10_age_74 : decode cX10_age 74 = .ok (.getfield 153, 3) := by decide +kernel
theorem dX10_age_77 : decode cX10_age 77 = .ok (.aload_n 0, 1) := by decide +kernel
theorem dX10_age_78 : decode cX10_age 78 = .ok (.getfield 30, 3) := by decide +kernel
theorem dX10_age_81 : decode cX10_age 81 = .ok (.getfield 162, 3) := by decide +kernel
theorem dX10_age_84 : decode cX10_age 84 = .ok (.getfield 70, 3) := by decide +kernel
theorem dX10_age_87 : decode cX10_age 87 = .ok (.invokevirtual 288, 3) := by decide +kernel
theorem dX10_age_90 : decode cX10_age 90 = .ok (.goto 10, 3) := by decide +kernel
theorem dX10_age_93 : decode cX10_age 93 = .ok (.aload_n 0, 1) := by decide +kernel
theorem dX10_age_94 : decode cX10_age 94 = .ok (.getfield 30, 3) := by decide +kernel
theorem dX10_age_97 : decode cX10_age 97 = .ok (.getfield 291, 3) := by decide +kernel
theorem dX10_age_100 : decode cX10_age 100 = .ok (.ireturn, 1) := by decide +kernel
set_option maxRecDepth 20000 in
theorem ggX10_image_X9_init : GoodIn wsX10_image wsX9_init := goodIn_r _ [8, 9, 10, 11, 12, 13, 14, 15, 16, 17, 18, 19, 20, 21, 22, 23, 24, 25, 26, 27, 28, 29, 30, 31, 32, 33, 34, 35, 36, 37, 38, 39, 40, 41, 42, 43, 44, 45, 46, 47, 48, 49, 50, 51, 52, 53, 54, 88, 89, 90, 91, 92, 93, 94, 84, 85, 86, 87, 95, 96, 97, 98, 99] rfl (by decide +kernel)
set_option maxRecDepth 20000 in
theorem gX10_image_X9_init : GoodIn wsX10_image (wsX9_init) := ggX10_image_X9_init
set_option maxRecDepth 20000 in
theorem ggX10_image_X9_takeFrom : GoodIn wsX10_image wsX9_takeFrom := goodIn_r _ [58, 15, 19, 23, 59, 60, 61, 62, 14, 63, 27, 28, 29, 30, 31, 32, 33, 64, 65, 66, 18, 67, 39, 68, 69, 70, 71, 72, 73, 22, 74, 52, 53, 54, 75, 84, 85, 86, 87, 88, 89, 90, 91, 92, 93, 94, 95, 96, 97, 98, 99] rfl (by decide +kernel)
set_option maxRecDepth 20000 in
theorem gX10_image_X9_takeFrom : GoodIn wsX10_image (wsV RX10 294 RX9 yX9_takeFrom wsX9_takeFrom) := goodIn_app (goodIn_r _ [55, 56, 57, 4] rfl (by decide +kernel)) ggX10_image_X9_takeFrom
theorem dX10_image_0 : decode cX10_image 0 = .ok (.iload_n 1, 1) := by decide +kernel
theorem dX10_image_1 : decode cX10_image 1 = .ok (.ifCond .lt 12, 3) := by decide +kernel
theorem dX10_image_4 : decode cX10_image 4 = .ok (.iload_n 1, 1) := by decide +kernel
theorem dX10_image_5 : decode cX10_image 5 = .ok (.aload_n 0, 1) := by decide +kernel
theorem dX10_image_6 : decode cX10_image 6 = .ok (.getfield 16, 3) := by decide +kernel
theorem dX10_image_9 : decode cX10_image 9 = .ok (.arraylength, 1) := by decide +kernel
theorem dX10_image_10 : decode cX10_image 10 = .ok (.if_icmp .lt 6, 3) := by decide +kernel
theorem dX10_image_13 : decode cX10_image 13 = .ok (.bipush (-2), 2) := by decide +kernel
theorem dX10_image_15 : decode cX10_image 15 = .ok (.ireturn, 1) := by decide +kernel
theorem dX10_image_16 : decode cX10_image 16 = .ok (.aload_n 0, 1) := by decide +kernel
theorem dX10_image_17 : decode cX10_image 17 = .ok (.getfield 16, 3) := by decide +kernel
theorem dX10_image_20 : decode cX10_image 20 = .ok (.iload_n 1, 1) := by decide +kernel
theorem dX10_image_21 : decode cX10_image 21 = .ok (.aaload, 1) := by decide +kernel
theorem dX10_image_22 : decode cX10_image 22 = .ok (.astore_n 2, 1) := by decide +kernel
theorem dX10_image_23 : decode cX10_image 23 = .ok (.aload_n 2, 1) := by decide +kernel
theorem dX10_image_24 : decode cX10_image 24 = .ok (.ifnonnull 18, 3) := by decide +kernel
theorem dX10_image_27 : decode cX10_image 27 = .ok (.new 7, 3) := by decide +kernel
theorem dX10_image_30 : decode cX10_image 30 = .ok (.dup, 1) := by decide +kernel
theorem dX10_image_31 : decode cX10_image 31 = .ok (.invokespecial 9, 3) := by decide +kernel
theorem dX10_image_34 : decode cX10_image 34 = .ok (.astore_n 2, 1) := by decide +kernel
theorem dX10_image_35 : decode cX10_image 35 = .ok (.aload_n 0, 1) := by decide +kernel
theorem dX10_image_36 : decode cX10_image 36 = .ok (.getfield 16, 3) := by decide +kernel
theorem dX10_image_39 : decode cX10_image 39 = .ok (.iload_n 1, 1) := by decide +kernel
theorem dX10_image_40 : decode cX10_image 40 = .ok (.aload_n 2, 1) := by decide +kernel
theorem dX10_image_41 : decode cX10_image 41 = .ok (.aastore, 1) := by decide +kernel
theorem dX10_image_42 : decode cX10_image 42 = .ok (.aload_n 2, 1) := by decide +kernel
theorem dX10_image_43 : decode cX10_image 43 = .ok (.aload_n 0, 1) := by decide +kernel
theorem dX10_image_44 : decode cX10_image 44 = .ok (.getfield 10, 3) := by decide +kernel
theorem dX10_image_47 : decode cX10_image 47 = .ok (.invokevirtual 294, 3) := by decide +kernel
theorem dX10_image_50 : decode cX10_image 50 = .ok (.iconst 1, 1) := by decide +kernel
theorem dX10_image_51 : decode cX10_image 51 = .ok (.ireturn, 1) := by decide +kernel
set_option maxRecDepth 20000 in
theorem ggX10_restore_X9_takeFrom : GoodIn wsX10_restore wsX9_takeFrom := goodIn_r _ [7, 8, 9, 10, 11, 12, 13, 14, 15, 16, 17, 18, 19, 20, 21, 22, 23, 24, 25, 26, 27, 28, 29, 30, 31, 32, 33, 34, 35, 36, 37, 38, 39, 40, 41, 50, 51, 52, 53, 54, 55, 56, 57, 58, 59, 60, 61, 62, 63, 64, 65] rfl (by decide +kernel)
set_option maxRecDepth 20000 in
theorem gX10_restore_X9_takeFrom : GoodIn wsX10_restore (wsV RX10 294 RX9 yX9_takeFrom wsX9_takeFrom) := goodIn_app (goodIn_r _ [3, 4, 5, 6] rfl (by decide +kernel)) ggX10_restore_X9_takeFrom
theorem dX10_restore_0 : decode cX10_restore 0 = .ok (.iload_n 1, 1) := by decide +kernel
theorem dX10_restore_1 : decode cX10_restore 1 = .ok (.ifCond .lt 12, 3) := by decide +kernel
theorem dX10_restore_4 : decode cX10_restore 4 = .ok (.iload_n 1, 1) := by decide +kernel
theorem dX10_restore_5 : decode cX10_restore 5 = .ok (.aload_n 0, 1) := by decide +kernel
theorem dX10_restore_6 : decode cX10_restore 6 = .ok (.getfield 16, 3) := by decide +kernel
theorem dX10_restore_9 : decode cX10_restore 9 = .ok (.arraylength, 1) := by decide +kernel
theorem dX10_restore_10 : decode cX10_restore 10 = .ok (.if_icmp .lt 6, 3) := by decide +kernel
theorem dX10_restore_13 : decode cX10_restore 13 = .ok (.bipush (-2), 2) := by decide +kernel
theorem dX10_restore_15 : decode cX10_restore 15 = .ok (.ireturn, 1) := by decide +kernel
theorem dX10_restore_16 : decode cX10_restore 16 = .ok (.aload_n 0, 1) := by decide +kernel
theorem dX10_restore_17 : decode cX10_restore 17 = .ok (.getfield 16, 3) := by decide +kernel
theorem dX10_restore_20 : decode cX10_restore 20 = .ok (.iload_n 1, 1) := by decide +kernel
theorem dX10_restore_21 : decode cX10_restore 21 = .ok (.aaload, 1) := by decide +kernel
theorem dX10_restore_22 : decode cX10_restore 22 = .ok (.astore_n 2, 1) := by decide +kernel
theorem dX10_restore_23 : decode cX10_restore 23 = .ok (.aload_n 2, 1) := by decide +kernel
theorem dX10_restore_24 : decode cX10_restore 24 = .ok (.ifnonnull 6, 3) := by decide +kernel
theorem dX10_restore_27 : decode cX10_restore 27 = .ok (.bipush (-3), 2) := by decide +kernel
theorem dX10_restore_29 : decode cX10_restore 29 = .ok (.ireturn, 1) := by decide +kernel
theorem dX10_restore_30 : decode cX10_restore 30 = .ok (.aload_n 0, 1) := by decide +kernel
theorem dX10_restore_31 : decode cX10_restore 31 = .ok (.getfield 10, 3) := by decide +kernel
theorem dX10_restore_34 : decode cX10_restore 34 = .ok (.aload_n 2, 1) := by decide +kernel
theorem dX10_restore_35 : decode cX10_restore 35 = .ok (.invokevirtual 294, 3) := by decide +kernel
theorem dX10_restore_38 : decode cX10_restore 38 = .ok (.iconst 1, 1) := by decide +kernel
theorem dX10_restore_39 : decode cX10_restore 39 = .ok (.ireturn, 1) := by decide +kernel
set_option maxRecDepth 20000 in
theorem ggX10_told_X10_hasLand : GoodIn wsX10_told wsX10_hasLand := goodIn_r _ [15, 1, 5, 6, 16, 17, 14, 18, 35, 36, 37, 38, 39, 40, 41, 42, 43, 44, 45, 46, 49, 50, 51, 52, 53, 54, 55] rfl (by decide +kernel)
set_option maxRecDepth 20000 in
theorem gX10_told_X10_hasLand : GoodIn wsX10_told (wsV RX10 112 RX10 yX10_hasLand wsX10_hasLand) := goodIn_app (goodIn_r _ [11, 12, 13, 14] rfl (by decide +kernel)) ggX10_told_X10_hasLand
set_option maxRecDepth 20000 in
theorem ggX10_told_X6_of : GoodIn wsX10_told wsX6_of := goodIn_r _ [23, 24, 60] rfl (by decide +kernel)
set_option maxRecDepth 20000 in
theorem gX10_told_X6_of : GoodIn wsX10_told (wsV RX10 116 RX6 yX6_of wsX6_of) := goodIn_app (goodIn_r _ [19, 20, 21, 22] rfl (by decide +kernel)) ggX10_told_X6_of
set_option maxRecDepth 20000 in
theorem ggX10_told_X10_within : GoodIn wsX10_told wsX10_within := goodIn_r _ [18] rfl (by decide +kernel)
set_option maxRecDepth 20000 in
theorem gX10_told_X10_within : GoodIn wsX10_told (va_wsS RX10 62 yX10_within wsX10_within) := goodIn_app (goodIn_r _ [16, 17, 14] rfl (by decide +kernel)) ggX10_told_X10_within
set_option maxRecDepth 20000 in
theorem ggX10_told_X4_rule : GoodIn wsX10_told wsX4_rule := goodIn_r _ [29, 30, 31, 32, 33, 34, 49, 50, 51, 52, 53, 54, 55] rfl (by decide +kernel)
set_option maxRecDepth 20000 in
theorem gX10_told_X4_rule : GoodIn wsX10_told (wsV RX10 104 RX4 yX4_rule wsX4_rule) := goodIn_app (goodIn_r _ [25, 26, 27, 28] rfl (by decide +kernel)) ggX10_told_X4_rule
theorem dX10_told_0 : decode cX10_told 0 = .ok (.iload_n 1, 1) := by decide +kernel
theorem dX10_told_1 : decode cX10_told 1 = .ok (.bipush 10, 2) := by decide +kernel
theorem dX10_told_3 : decode cX10_told 3 = .ok (.if_icmp .lt 46, 3) := by decide +kernel
theorem dX10_told_6 : decode cX10_told 6 = .ok (.iload_n 1, 1) := by decide +kernel
theorem dX10_told_7 : decode cX10_told 7 = .ok (.bipush 10, 2) := by decide +kernel
theorem dX10_told_9 : decode cX10_told 9 = .ok (.idiv, 1) := by decide +kernel
theorem dX10_told_10 : decode cX10_told 10 = .ok (.iconst 1, 1) := by decide +kernel
theorem dX10_told_11 : decode cX10_told 11 = .ok (.isub, 1) := by decide +kernel
theorem dX10_told_12 : decode cX10_told 12 = .ok (.istore_n 2, 1) := by decide +kernel
theorem dX10_told_13 : decode cX10_told 13 = .ok (.iload_n 1, 1) := by decide +kernel
theorem dX10_told_14 : decode cX10_told 14 = .ok (.bipush 10, 2) := by decide +kernel
theorem dX10_told_16 : decode cX10_told 16 = .ok (.irem, 1) := by decide +kernel
theorem dX10_told_17 : decode cX10_told 17 = .ok (.istore_n 3, 1) := by decide +kernel
theorem dX10_told_18 : decode cX10_told 18 = .ok (.aload_n 0, 1) := by decide +kernel
theorem dX10_told_19 : decode cX10_told 19 = .ok (.iload_n 2, 1) := by decide +kernel
theorem dX10_told_20 : decode cX10_told 20 = .ok (.invokevirtual 112, 3) := by decide +kernel
theorem dX10_told_23 : decode cX10_told 23 = .ok (.ifCond .eq 23, 3) := by decide +kernel
theorem dX10_told_26 : decode cX10_told 26 = .ok (.iload_n 3, 1) := by decide +kernel
theorem dX10_told_27 : decode cX10_told 27 = .ok (.iconst 4, 1) := by decide +kernel
theorem dX10_told_28 : decode cX10_told 28 = .ok (.if_icmp .ge 18, 3) := by decide +kernel
theorem dX10_told_31 : decode cX10_told 31 = .ok (.aload_n 0, 1) := by decide +kernel
theorem dX10_told_32 : decode cX10_told 32 = .ok (.getfield 10, 3) := by decide +kernel
theorem dX10_told_35 : decode cX10_told 35 = .ok (.getfield 79, 3) := by decide +kernel
theorem dX10_told_38 : decode cX10_told 38 = .ok (.iload_n 2, 1) := by decide +kernel
theorem dX10_told_39 : decode cX10_told 39 = .ok (.iload_n 3, 1) := by decide +kernel
theorem dX10_told_40 : decode cX10_told 40 = .ok (.invokevirtual 116, 3) := by decide +kernel
theorem dX10_told_43 : decode cX10_told 43 = .ok (.goto 5, 3) := by decide +kernel
theorem dX10_told_46 : decode cX10_told 46 = .ok (.bipush (-2), 2) := by decide +kernel
theorem dX10_told_48 : decode cX10_told 48 = .ok (.ireturn, 1) := by decide +kernel
theorem dX10_told_49 : decode cX10_told 49 = .ok (.iload_n 1, 1) := by decide +kernel
theorem dX10_told_50 : decode cX10_told 50 = .ok (.tableswitch 103 0 9 #[54, 62, 73, 103, 103, 103, 103, 103, 84, 92], 54) := by decide +kernel
theorem dX10_told_104 : decode cX10_told 104 = .ok (.aload_n 0, 1) := by decide +kernel
theorem dX10_told_105 : decode cX10_told 105 = .ok (.getfield 23, 3) := by decide +kernel
theorem dX10_told_108 : decode cX10_told 108 = .ok (.getfield 133, 3) := by decide +kernel
theorem dX10_told_111 : decode cX10_told 111 = .ok (.ireturn, 1) := by decide +kernel
theorem dX10_told_112 : decode cX10_told 112 = .ok (.aload_n 0, 1) := by decide +kernel
theorem dX10_told_113 : decode cX10_told 113 = .ok (.getfield 10, 3) := by decide +kernel
theorem dX10_told_116 : decode cX10_told 116 = .ok (.getfield 66, 3) := by decide +kernel
theorem dX10_told_119 : decode cX10_told 119 = .ok (.getfield 70, 3) := by decide +kernel
theorem dX10_told_122 : decode cX10_told 122 = .ok (.ireturn, 1) := by decide +kernel
theorem dX10_told_123 : decode cX10_told 123 = .ok (.aload_n 0, 1) := by decide +kernel
theorem dX10_told_124 : decode cX10_told 124 = .ok (.getfield 10, 3) := by decide +kernel
theorem dX10_told_127 : decode cX10_told 127 = .ok (.getfield 66, 3) := by decide +kernel
theorem dX10_told_130 : decode cX10_told 130 = .ok (.getfield 76, 3) := by decide +kernel
theorem dX10_told_133 : decode cX10_told 133 = .ok (.ireturn, 1) := by decide +kernel
theorem dX10_told_134 : decode cX10_told 134 = .ok (.aload_n 0, 1) := by decide +kernel
theorem dX10_told_135 : decode cX10_told 135 = .ok (.getfield 10, 3) := by decide +kernel
theorem dX10_told_138 : decode cX10_told 138 = .ok (.getfield 97, 3) := by decide +kernel
theorem dX10_told_141 : decode cX10_told 141 = .ok (.ireturn, 1) := by decide +kernel
theorem dX10_told_142 : decode cX10_told 142 = .ok (.aload_n 0, 1) := by decide +kernel
theorem dX10_told_143 : decode cX10_told 143 = .ok (.getfield 10, 3) := by decide +kernel
theorem dX10_told_146 : decode cX10_told 146 = .ok (.getfield 88, 3) := by decide +kernel
theorem dX10_told_149 : decode cX10_told 149 = .ok (.getfield 92, 3) := by decide +kernel
theorem dX10_told_152 : decode cX10_told 152 = .ok (.ireturn, 1) := by decide +kernel
theorem dX10_told_153 : decode cX10_told 153 = .ok (.iload_n 1, 1) := by decide +kernel
theorem dX10_told_154 : decode cX10_told 154 = .ok (.iconst 3, 1) := by decide +kernel
theorem dX10_told_155 : decode cX10_told 155 = .ok (.bipush 7, 2) := by decide +kernel
theorem dX10_told_157 : decode cX10_told 157 = .ok (.invokestatic 62, 3) := by decide +kernel
theorem dX10_told_160 : decode cX10_told 160 = .ok (.ifCond .eq 19, 3) := by decide +kernel
theorem dX10_told_163 : decode cX10_told 163 = .ok (.aload_n 0, 1) := by decide +kernel
theorem dX10_told_164 : decode cX10_told 164 = .ok (.getfield 10, 3) := by decide +kernel
theorem dX10_told_167 : decode cX10_told 167 = .ok (.getfield 66, 3) := by decide +kernel
theorem dX10_told_170 : decode cX10_told 170 = .ok (.iload_n 1, 1) := by decide +kernel
theorem dX10_told_171 : decode cX10_told 171 = .ok (.iconst 3, 1) := by decide +kernel
theorem dX10_told_172 : decode cX10_told 172 = .ok (.isub, 1) := by decide +kernel
theorem dX10_told_173 : decode cX10_told 173 = .ok (.invokevirtual 104, 3) := by decide +kernel
theorem dX10_told_176 : decode cX10_told 176 = .ok (.goto 5, 3) := by decide +kernel
theorem dX10_told_179 : decode cX10_told 179 = .ok (.bipush (-2), 2) := by decide +kernel
theorem dX10_told_181 : decode cX10_told 181 = .ok (.ireturn, 1) := by decide +kernel
set_option maxRecDepth 20000 in
theorem ggX10_hasLand_X10_within : GoodIn wsX10_hasLand wsX10_within := goodIn_r _ [7] rfl (by decide +kernel)
set_option maxRecDepth 20000 in
theorem gX10_hasLand_X10_within : GoodIn wsX10_hasLand (va_wsS RX10 62 yX10_within wsX10_within) := goodIn_app (goodIn_r _ [4, 5, 6] rfl (by decide +kernel)) ggX10_hasLand_X10_within
theorem dX10_hasLand_0 : decode cX10_hasLand 0 = .ok (.iload_n 1, 1) := by decide +kernel
theorem dX10_hasLand_1 : decode cX10_hasLand 1 = .ok (.iconst 0, 1) := by decide +kernel
theorem dX10_hasLand_2 : decode cX10_hasLand 2 = .ok (.aload_n 0, 1) := by decide +kernel
theorem dX10_hasLand_3 : decode cX10_hasLand 3 = .ok (.getfield 10, 3) := by decide +kernel
theorem dX10_hasLand_6 : decode cX10_hasLand 6 = .ok (.getfield 66, 3) := by decide +kernel
theorem dX10_hasLand_9 : decode cX10_hasLand 9 = .ok (.getfield 70, 3) := by decide +kernel
theorem dX10_hasLand_12 : decode cX10_hasLand 12 = .ok (.iconst 1, 1) := by decide +kernel
theorem dX10_hasLand_13 : decode cX10_hasLand 13 = .ok (.isub, 1) := by decide +kernel
theorem dX10_hasLand_14 : decode cX10_hasLand 14 = .ok (.invokestatic 62, 3) := by decide +kernel
theorem dX10_hasLand_17 : decode cX10_hasLand 17 = .ok (.ireturn, 1) := by decide +kernel
set_option maxRecDepth 20000 in
theorem ggX10_areTwoLands_X10_hasLand : GoodIn wsX10_areTwoLands wsX10_hasLand := goodIn_r _ [5, 6, 7, 8, 9, 10, 4, 11, 12, 13, 14, 15, 16, 17, 18, 19, 20, 21, 22, 23, 24, 25, 26, 27, 28, 29, 30] rfl (by decide +kernel)
set_option maxRecDepth 20000 in
theorem gX10_areTwoLands_X10_hasLand : GoodIn wsX10_areTwoLands (wsV RX10 112 RX10 yX10_hasLand wsX10_hasLand) := goodIn_app (goodIn_r _ [1, 2, 3, 4] rfl (by decide +kernel)) ggX10_areTwoLands_X10_hasLand
theorem dX10_areTwoLands_0 : decode cX10_areTwoLands 0 = .ok (.aload_n 0, 1) := by decide +kernel
theorem dX10_areTwoLands_1 : decode cX10_areTwoLands 1 = .ok (.iload_n 1, 1) := by decide +kernel
theorem dX10_areTwoLands_2 : decode cX10_areTwoLands 2 = .ok (.invokevirtual 112, 3) := by decide +kernel
theorem dX10_areTwoLands_5 : decode cX10_areTwoLands 5 = .ok (.ifCond .eq 20, 3) := by decide +kernel
theorem dX10_areTwoLands_8 : decode cX10_areTwoLands 8 = .ok (.aload_n 0, 1) := by decide +kernel
theorem dX10_areTwoLands_9 : decode cX10_areTwoLands 9 = .ok (.iload_n 2, 1) := by decide +kernel
theorem dX10_areTwoLands_10 : decode cX10_areTwoLands 10 = .ok (.invokevirtual 112, 3) := by decide +kernel
theorem dX10_areTwoLands_13 : decode cX10_areTwoLands 13 = .ok (.ifCond .eq 12, 3) := by decide +kernel
theorem dX10_areTwoLands_16 : decode cX10_areTwoLands 16 = .ok (.iload_n 1, 1) := by decide +kernel
theorem dX10_areTwoLands_17 : decode cX10_areTwoLands 17 = .ok (.iload_n 2, 1) := by decide +kernel
theorem dX10_areTwoLands_18 : decode cX10_areTwoLands 18 = .ok (.if_icmp .eq 7, 3) := by decide +kernel
theorem dX10_areTwoLands_21 : decode cX10_areTwoLands 21 = .ok (.iconst 1, 1) := by decide +kernel
theorem dX10_areTwoLands_22 : decode cX10_areTwoLands 22 = .ok (.goto 4, 3) := by decide +kernel
theorem dX10_areTwoLands_25 : decode cX10_areTwoLands 25 = .ok (.iconst 0, 1) := by decide +kernel
theorem dX10_areTwoLands_26 : decode cX10_areTwoLands 26 = .ok (.ireturn, 1) := by decide +kernel
set_option maxRecDepth 20000 in
theorem ggX10_tellPad_X3_faultAmong : GoodIn wsX10_tellPad wsX3_faultAmong := goodIn_r _ [11, 12, 13, 14, 15, 10, 16, 17, 18, 19, 20, 21, 22, 23, 24, 25, 26, 27, 28, 29, 30, 31, 32, 159, 160] rfl (by decide +kernel)
set_option maxRecDepth 20000 in
theorem gX10_tellPad_X3_faultAmong : GoodIn wsX10_tellPad (wsV RX10 134 RX3 yX3_faultAmong wsX3_faultAmong) := goodIn_app (goodIn_r _ [7, 8, 9, 10] rfl (by decide +kernel)) ggX10_tellPad_X3_faultAmong
set_option maxRecDepth 20000 in
theorem ggX10_tellPad_X7_begin : GoodIn wsX10_tellPad wsX7_begin := goodIn_r _ [37, 38, 39, 40, 41, 42, 43, 44, 45, 46, 47, 48, 49, 50, 51, 52, 53, 54, 55, 56, 57, 58, 59, 60, 61, 62, 63, 64, 65, 66, 67, 68, 69, 23, 70, 71, 72, 149, 150, 151, 152, 153, 154, 155, 156, 157, 158, 138, 139, 140, 141, 142, 143, 144, 145, 146, 147, 148, 161] rfl (by decide +kernel)
set_option maxRecDepth 20000 in
theorem gX10_tellPad_X7_begin : GoodIn wsX10_tellPad (wsV RX10 201 RX7 yX7_begin wsX7_begin) := goodIn_app (goodIn_r _ [33, 34, 35, 36] rfl (by decide +kernel)) ggX10_tellPad_X7_begin
set_option maxRecDepth 20000 in
theorem ggX10_tellPad_X7_tell : GoodIn wsX10_tellPad wsX7_tell := goodIn_r _ [76, 77, 48, 40, 47, 49, 78, 26, 27, 10, 28, 17, 18, 19, 20, 21, 79, 80, 81, 82, 36, 83, 84, 85, 86, 87, 38, 44, 88, 42, 46, 45, 89, 90, 91, 54, 92, 57, 93, 94, 95, 96, 56, 58, 59, 97, 98, 99, 100, 60, 61, 62, 101, 102, 103, 66, 104, 105, 106, 107, 108, 109, 110, 111, 112, 113, 114, 115, 68, 116, 117, 118, 119, 120, 23, 121, 122, 123, 124, 30, 31, 32, 125, 14, 15, 16, 126, 127, 128, 129, 159, 160, 149, 150, 151, 152, 153, 154, 155, 156, 157, 158, 142, 143, 144, 145, 146, 147, 148, 161] rfl (by decide +kernel)
set_option maxRecDepth 20000 in
theorem gX10_tellPad_X7_tell : GoodIn wsX10_tellPad (wsV RX10 296 RX7 yX7_tell wsX7_tell) := goodIn_app (goodIn_r _ [73, 74, 75, 36] rfl (by decide +kernel)) ggX10_tellPad_X7_tell
theorem dX10_tellPad_0 : decode cX10_tellPad 0 = .ok (.aload_n 0, 1) := by decide +kernel
theorem dX10_tellPad_1 : decode cX10_tellPad 1 = .ok (.getfield 23, 3) := by decide +kernel
theorem dX10_tellPad_4 : decode cX10_tellPad 4 = .ok (.aload_n 0, 1) := by decide +kernel
