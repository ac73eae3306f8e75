theorem dX8_differ_38 : decode cX8_differ 38 = .ok (.iload_n 2, 1) := by decide +kernel
theorem dX8_differ_39 : decode cX8_differ 39 = .ok (.iload_n 3, 1) := by decide +kernel
theorem dX8_differ_40 : decode cX8_differ 40 = .ok (.aload_n 0, 1) := by decide +kernel
theorem dX8_differ_41 : decode cX8_differ 41 = .ok (.getfield 53, 3) := by decide +kernel
theorem dX8_differ_44 : decode cX8_differ 44 = .ok (.invokevirtual 150, 3) := by decide +kernel
theorem dX8_differ_47 : decode cX8_differ 47 = .ok (.aload_n 0, 1) := by decide +kernel
theorem dX8_differ_48 : decode cX8_differ 48 = .ok (.getfield 53, 3) := by decide +kernel
theorem dX8_differ_51 : decode cX8_differ 51 = .ok (.iload 4, 2) := by decide +kernel
theorem dX8_differ_53 : decode cX8_differ 53 = .ok (.invokevirtual 146, 3) := by decide +kernel
theorem dX8_differ_56 : decode cX8_differ 56 = .ok (.lreturn, 1) := by decide +kernel
set_option maxRecDepth 20000 in
theorem ggX8_first_X8_isWorld : GoodIn wsX8_first wsX8_isWorld := goodIn_r _ [6] (by decide +kernel) (by decide +kernel)
set_option maxRecDepth 20000 in
theorem gX8_first_X8_isWorld : GoodIn wsX8_first (va_wsS RX8 153 yX8_isWorld wsX8_isWorld) := goodIn_app (goodIn_of _ (by decide +kernel)) ggX8_first_X8_isWorld
set_option maxRecDepth 20000 in
theorem ggX8_first_X8_isZeroOrOne : GoodIn wsX8_first wsX8_isZeroOrOne := goodIn_r _ [9] (by decide +kernel) (by decide +kernel)
set_option maxRecDepth 20000 in
theorem gX8_first_X8_isZeroOrOne : GoodIn wsX8_first (va_wsS RX8 118 yX8_isZeroOrOne wsX8_isZeroOrOne) := goodIn_app (goodIn_of _ (by decide +kernel)) ggX8_first_X8_isZeroOrOne
set_option maxRecDepth 20000 in
theorem ggX8_first_X8_rowsByOn : GoodIn wsX8_first wsX8_rowsByOn := goodIn_r _ [13, 14, 15, 16, 17, 18, 5, 19, 20, 21, 22, 23, 24, 25, 26, 27, 28, 29, 30, 31, 32, 33, 34, 35, 36, 37, 38, 39, 40, 41, 42, 43, 44, 45, 46, 47, 48, 49, 50, 51, 52, 53, 54, 55, 56, 57, 58, 59, 60, 61, 62, 63, 64, 65, 66, 67, 68, 69, 70, 71, 72, 73, 74, 75, 76, 77, 78, 79, 80, 81, 82, 83, 84, 85, 86, 87, 88, 89, 90, 91, 92, 93, 94, 95, 96, 97, 98, 99, 100, 101, 102, 103, 104, 105, 106, 107, 108, 109, 110, 111, 112, 113, 114, 115, 116, 117, 145, 146, 147, 148, 149, 150, 151, 152, 153, 154, 155, 156, 157, 158, 159, 160, 161, 162, 163, 164, 165, 166, 167, 168, 169, 170, 171, 172, 173] (by decide +kernel) (by decide +kernel)
set_option maxRecDepth 20000 in
theorem gX8_first_X8_rowsByOn : GoodIn wsX8_first (wsV RX8 128 RX8 yX8_rowsByOn wsX8_rowsByOn) := goodIn_app (goodIn_of _ (by decide +kernel)) ggX8_first_X8_rowsByOn
set_option maxRecDepth 20000 in
theorem ggX8_first_X0_findInFirstRow : GoodIn wsX8_first wsX0_findInFirstRow := goodIn_r _ [121, 62, 122, 123, 124, 125, 126, 127, 128, 129, 130, 131, 59, 132, 76, 72, 73, 74, 75, 29, 5, 30, 133, 134, 135, 136, 164, 165, 166, 167, 168, 169, 170, 171, 172, 173, 174, 175] (by decide +kernel) (by decide +kernel)
set_option maxRecDepth 20000 in
theorem gX8_first_X0_findInFirstRow : GoodIn wsX8_first (wsV RX8 156 RX0 yX0_findInFirstRow wsX0_findInFirstRow) := goodIn_app (goodIn_of _ (by decide +kernel)) ggX8_first_X0_findInFirstRow
set_option maxRecDepth 20000 in
theorem ggX8_first_X1_inLeastTerms : GoodIn wsX8_first wsX1_inLeastTerms := goodIn_r _ [140, 127, 141, 142, 47, 143, 128, 144, 97, 5, 98, 174, 175] (by decide +kernel) (by decide +kernel)
set_option maxRecDepth 20000 in
theorem gX8_first_X1_inLeastTerms : GoodIn wsX8_first (wsV RX8 146 RX1 yX1_inLeastTerms wsX1_inLeastTerms) := goodIn_app (goodIn_of _ (by decide +kernel)) ggX8_first_X1_inLeastTerms
theorem dX8_first_0 : decode cX8_first 0 = .ok (.iload_n 1, 1) := by decide +kernel
theorem dX8_first_1 : decode cX8_first 1 = .ok (.invokestatic 153, 3) := by decide +kernel
theorem dX8_first_4 : decode cX8_first 4 = .ok (.ifCond .eq 10, 3) := by decide +kernel
theorem dX8_first_7 : decode cX8_first 7 = .ok (.iload_n 2, 1) := by decide +kernel
theorem dX8_first_8 : decode cX8_first 8 = .ok (.invokestatic 118, 3) := by decide +kernel
theorem dX8_first_11 : decode cX8_first 11 = .ok (.ifCond .ne 7, 3) := by decide +kernel
theorem dX8_first_14 : decode cX8_first 14 = .ok (.ldc2_w 140, 3) := by decide +kernel
theorem dX8_first_17 : decode cX8_first 17 = .ok (.lreturn, 1) := by decide +kernel
theorem dX8_first_18 : decode cX8_first 18 = .ok (.aload_n 0, 1) := by decide +kernel
theorem dX8_first_19 : decode cX8_first 19 = .ok (.invokevirtual 128, 3) := by decide +kernel
theorem dX8_first_22 : decode cX8_first 22 = .ok (.iload_n 1, 1) := by decide +kernel
theorem dX8_first_23 : decode cX8_first 23 = .ok (.aload_n 0, 1) := by decide +kernel
theorem dX8_first_24 : decode cX8_first 24 = .ok (.getfield 53, 3) := by decide +kernel
theorem dX8_first_27 : decode cX8_first 27 = .ok (.invokevirtual 156, 3) := by decide +kernel
theorem dX8_first_30 : decode cX8_first 30 = .ok (.aload_n 0, 1) := by decide +kernel
theorem dX8_first_31 : decode cX8_first 31 = .ok (.getfield 53, 3) := by decide +kernel
theorem dX8_first_34 : decode cX8_first 34 = .ok (.iload_n 2, 1) := by decide +kernel
theorem dX8_first_35 : decode cX8_first 35 = .ok (.invokevirtual 146, 3) := by decide +kernel
theorem dX8_first_38 : decode cX8_first 38 = .ok (.lreturn, 1) := by decide +kernel
set_option maxRecDepth 20000 in
theorem ggX8_never_X8_rowsByOn : GoodIn wsX8_never wsX8_rowsByOn := goodIn_r _ [5, 6, 7, 8, 9, 10, 4, 11, 12, 13, 14, 15, 16, 17, 18, 19, 20, 21, 22, 23, 24, 25, 26, 27, 28, 29, 30, 31, 32, 33, 34, 35, 36, 37, 38, 39, 40, 41, 42, 43, 44, 45, 46, 47, 48, 49, 50, 51, 52, 53, 54, 55, 56, 57, 58, 59, 60, 61, 62, 63, 64, 65, 66, 67, 68, 69, 70, 71, 72, 73, 74, 75, 76, 77, 78, 79, 80, 81, 82, 83, 84, 85, 86, 87, 88, 89, 90, 91, 92, 93, 94, 95, 96, 97, 98, 99, 100, 101, 102, 103, 104, 105, 106, 107, 108, 109, 114, 115, 116, 117, 118, 119, 120, 121, 122, 123, 124, 125, 126, 127, 128, 129, 130, 131, 132, 133, 134, 135, 136, 137, 138, 139, 140, 141, 142] (by decide +kernel) (by decide +kernel)
set_option maxRecDepth 20000 in
theorem gX8_never_X8_rowsByOn : GoodIn wsX8_never (wsV RX8 128 RX8 yX8_rowsByOn wsX8_rowsByOn) := goodIn_app (goodIn_of _ (by decide +kernel)) ggX8_never_X8_rowsByOn
set_option maxRecDepth 20000 in
theorem ggX8_never_X0_worldsWithoutChance : GoodIn wsX8_never wsX0_worldsWithoutChance := goodIn_r _ [113, 54, 83, 133, 134, 135, 136, 137, 138, 139, 140, 141, 142] (by decide +kernel) (by decide +kernel)
set_option maxRecDepth 20000 in
theorem gX8_never_X0_worldsWithoutChance : GoodIn wsX8_never (wsV RX8 160 RX0 yX0_worldsWithoutChance wsX0_worldsWithoutChance) := goodIn_app (goodIn_of _ (by decide +kernel)) ggX8_never_X0_worldsWithoutChance
theorem dX8_never_0 : decode cX8_never 0 = .ok (.aload_n 0, 1) := by decide +kernel
theorem dX8_never_1 : decode cX8_never 1 = .ok (.invokevirtual 128, 3) := by decide +kernel
theorem dX8_never_4 : decode cX8_never 4 = .ok (.invokevirtual 160, 3) := by decide +kernel
theorem dX8_never_7 : decode cX8_never 7 = .ok (.ireturn, 1) := by decide +kernel
set_option maxRecDepth 20000 in
theorem ggX8_quarrel_X8_isZeroOrOne : GoodIn wsX8_quarrel wsX8_isZeroOrOne := goodIn_r _ [4] (by decide +kernel) (by decide +kernel)
set_option maxRecDepth 20000 in
theorem gX8_quarrel_X8_isZeroOrOne : GoodIn wsX8_quarrel (va_wsS RX8 118 yX8_isZeroOrOne wsX8_isZeroOrOne) := goodIn_app (goodIn_of _ (by decide +kernel)) ggX8_quarrel_X8_isZeroOrOne
set_option maxRecDepth 20000 in
theorem ggX8_quarrel_X8_fewestThatCannot : GoodIn wsX8_quarrel wsX8_fewestThatCannot := goodIn_r _ [8, 9, 10, 11, 12, 13, 3, 14, 15, 16, 17, 18, 19, 20, 21, 22, 23, 24, 25, 26, 27, 28, 29, 30, 31, 32, 33, 34, 35, 36, 37, 38, 39, 40, 41, 42, 43, 44, 45, 46, 47, 48, 49, 50, 51, 52, 53, 54, 55, 56, 57, 58, 59, 60, 61, 62, 63, 64, 65, 66, 67, 68, 69, 70, 71, 72, 73, 74, 75, 76, 77, 78, 79, 80, 81, 82, 83, 84, 85, 86, 87, 88, 89, 90, 91, 92, 93, 94, 95, 96, 97, 98, 99, 100, 101, 102, 103, 104, 105, 106, 107, 108, 109, 110, 111, 112, 113, 114, 115, 116, 117, 118, 119, 120, 121, 122, 123, 124, 125, 126, 127, 128, 129, 130, 131, 132, 133, 134, 135, 136, 137, 138, 139, 140, 141, 142, 143, 144, 145, 146, 147, 148, 149] (by decide +kernel) (by decide +kernel)
set_option maxRecDepth 20000 in
theorem gX8_quarrel_X8_fewestThatCannot : GoodIn wsX8_quarrel (wsV RX8 164 RX8 yX8_fewestThatCannot wsX8_fewestThatCannot) := goodIn_app (goodIn_of _ (by decide +kernel)) ggX8_quarrel_X8_fewestThatCannot
set_option maxRecDepth 20000 in
theorem ggX8_quarrel_J6_bitCount_0f7a4 : GoodIn wsX8_quarrel wsJ6_bitCount_0f7a4 := goodIn_r _ [22, 23, 24, 25] (by decide +kernel) (by decide +kernel)
set_option maxRecDepth 20000 in
theorem gX8_quarrel_J6_bitCount_0f7a4 : GoodIn wsX8_quarrel (va_wsS RX8 167 yJ6_bitCount_0f7a4 wsJ6_bitCount_0f7a4) := goodIn_app (goodIn_of _ (by decide +kernel)) ggX8_quarrel_J6_bitCount_0f7a4
theorem dX8_quarrel_0 : decode cX8_quarrel 0 = .ok (.iload_n 1, 1) := by decide +kernel
theorem dX8_quarrel_1 : decode cX8_quarrel 1 = .ok (.invokestatic 118, 3) := by decide +kernel
theorem dX8_quarrel_4 : decode cX8_quarrel 4 = .ok (.ifCond .ne 5, 3) := by decide +kernel
theorem dX8_quarrel_7 : decode cX8_quarrel 7 = .ok (.iconst (-1), 1) := by decide +kernel
theorem dX8_quarrel_8 : decode cX8_quarrel 8 = .ok (.ireturn, 1) := by decide +kernel
theorem dX8_quarrel_9 : decode cX8_quarrel 9 = .ok (.aload_n 0, 1) := by decide +kernel
theorem dX8_quarrel_10 : decode cX8_quarrel 10 = .ok (.invokevirtual 164, 3) := by decide +kernel
theorem dX8_quarrel_13 : decode cX8_quarrel 13 = .ok (.istore_n 2, 1) := by decide +kernel
theorem dX8_quarrel_14 : decode cX8_quarrel 14 = .ok (.iload_n 2, 1) := by decide +kernel
theorem dX8_quarrel_15 : decode cX8_quarrel 15 = .ok (.ifCond .ge 6, 3) := by decide +kernel
theorem dX8_quarrel_18 : decode cX8_quarrel 18 = .ok (.bipush (-9), 2) := by decide +kernel
theorem dX8_quarrel_20 : decode cX8_quarrel 20 = .ok (.ireturn, 1) := by decide +kernel
theorem dX8_quarrel_21 : decode cX8_quarrel 21 = .ok (.iload_n 1, 1) := by decide +kernel
theorem dX8_quarrel_22 : decode cX8_quarrel 22 = .ok (.ifCond .ne 10, 3) := by decide +kernel
theorem dX8_quarrel_25 : decode cX8_quarrel 25 = .ok (.iload_n 2, 1) := by decide +kernel
theorem dX8_quarrel_26 : decode cX8_quarrel 26 = .ok (.invokestatic 167, 3) := by decide +kernel
theorem dX8_quarrel_29 : decode cX8_quarrel 29 = .ok (.goto 4, 3) := by decide +kernel
theorem dX8_quarrel_32 : decode cX8_quarrel 32 = .ok (.iload_n 2, 1) := by decide +kernel
theorem dX8_quarrel_33 : decode cX8_quarrel 33 = .ok (.ireturn, 1) := by decide +kernel
set_option maxRecDepth 20000 in
theorem ggX8_fewestThatCannot_X8_onSet : GoodIn wsX8_fewestThatCannot wsX8_onSet := goodIn_r _ [7, 8, 2, 114, 115, 116, 117, 118, 119, 120, 121, 122, 123, 124, 125, 126, 127, 128, 129] (by decide +kernel) (by decide +kernel)
set_option maxRecDepth 20000 in
theorem gX8_fewestThatCannot_X8_onSet : GoodIn wsX8_fewestThatCannot (wsV RX8 173 RX8 yX8_onSet wsX8_onSet) := goodIn_app (goodIn_of _ (by decide +kernel)) ggX8_fewestThatCannot_X8_onSet
set_option maxRecDepth 20000 in
theorem ggX8_fewestThatCannot_X8_isFewerOf : GoodIn wsX8_fewestThatCannot wsX8_isFewerOf := goodIn_r _ [11, 12, 13, 14, 15, 16, 17, 18] (by decide +kernel) (by decide +kernel)
set_option maxRecDepth 20000 in
theorem gX8_fewestThatCannot_X8_isFewerOf : GoodIn wsX8_fewestThatCannot (va_wsS RX8 176 yX8_isFewerOf wsX8_isFewerOf) := goodIn_app (goodIn_of _ (by decide +kernel)) ggX8_fewestThatCannot_X8_isFewerOf
set_option maxRecDepth 20000 in
theorem ggX8_fewestThatCannot_X2_rowsBy : GoodIn wsX8_fewestThatCannot wsX2_rowsBy := goodIn_r _ [23, 24, 25, 26, 27, 6, 28, 29, 30, 31, 32, 33, 34, 35, 36, 37, 38, 39, 40, 41, 42, 43, 44, 45, 46, 47, 48, 49, 50, 51, 52, 53, 54, 55, 56, 57, 58, 59, 60, 61, 62, 63, 64, 65, 66, 67, 68, 69, 70, 71, 72, 73, 74, 75, 76, 77, 78, 79, 80, 81, 82, 83, 84, 85, 86, 87, 88, 89, 90, 91, 92, 93, 94, 95, 96, 97, 98, 99, 100, 101, 102, 103, 104, 105, 13, 14, 15, 16, 17, 18, 106, 107, 108, 109, 130, 131, 132, 133, 134, 135, 136, 137, 138, 139, 140, 141, 142, 125, 126, 127, 128, 129] (by decide +kernel) (by decide +kernel)
set_option maxRecDepth 20000 in
theorem gX8_fewestThatCannot_X2_rowsBy : GoodIn wsX8_fewestThatCannot (wsV RX8 180 RX2 yX2_rowsBy wsX2_rowsBy) := goodIn_app (goodIn_of _ (by decide +kernel)) ggX8_fewestThatCannot_X2_rowsBy
set_option maxRecDepth 20000 in
theorem ggX8_fewestThatCannot_X0_isEmpty : GoodIn wsX8_fewestThatCannot wsX0_isEmpty := goodIn_r _ [113, 60, 133, 134, 135, 136, 137, 138, 139, 140, 141, 142] (by decide +kernel) (by decide +kernel)
set_option maxRecDepth 20000 in
theorem gX8_fewestThatCannot_X0_isEmpty : GoodIn wsX8_fewestThatCannot (wsV RX8 132 RX0 yX0_isEmpty wsX0_isEmpty) := goodIn_app (goodIn_of _ (by decide +kernel)) ggX8_fewestThatCannot_X0_isEmpty
theorem dX8_fewestThatCannot_0 : decode cX8_fewestThatCannot 0 = .ok (.aload_n 0, 1) := by decide +kernel
theorem dX8_fewestThatCannot_1 : decode cX8_fewestThatCannot 1 = .ok (.invokevirtual 173, 3) := by decide +kernel
theorem dX8_fewestThatCannot_4 : decode cX8_fewestThatCannot 4 = .ok (.istore_n 1, 1) := by decide +kernel
theorem dX8_fewestThatCannot_5 : decode cX8_fewestThatCannot 5 = .ok (.iconst (-1), 1) := by decide +kernel
theorem dX8_fewestThatCannot_6 : decode cX8_fewestThatCannot 6 = .ok (.istore_n 2, 1) := by decide +kernel
theorem dX8_fewestThatCannot_7 : decode cX8_fewestThatCannot 7 = .ok (.iconst 0, 1) := by decide +kernel
theorem dX8_fewestThatCannot_8 : decode cX8_fewestThatCannot 8 = .ok (.istore_n 3, 1) := by decide +kernel
theorem dX8_fewestThatCannot_9 : decode cX8_fewestThatCannot 9 = .ok (.iload_n 3, 1) := by decide +kernel
theorem dX8_fewestThatCannot_10 : decode cX8_fewestThatCannot 10 = .ok (.iload_n 1, 1) := by decide +kernel
theorem dX8_fewestThatCannot_11 : decode cX8_fewestThatCannot 11 = .ok (.if_icmp .gt 40, 3) := by decide +kernel
theorem dX8_fewestThatCannot_14 : decode cX8_fewestThatCannot 14 = .ok (.iload_n 1, 1) := by decide +kernel
theorem dX8_fewestThatCannot_15 : decode cX8_fewestThatCannot 15 = .ok (.iload_n 3, 1) := by decide +kernel
theorem dX8_fewestThatCannot_16 : decode cX8_fewestThatCannot 16 = .ok (.iload_n 2, 1) := by decide +kernel
theorem dX8_fewestThatCannot_17 : decode cX8_fewestThatCannot 17 = .ok (.invokestatic 176, 3) := by decide +kernel
theorem dX8_fewestThatCannot_20 : decode cX8_fewestThatCannot 20 = .ok (.ifCond .eq 25, 3) := by decide +kernel
theorem dX8_fewestThatCannot_23 : decode cX8_fewestThatCannot 23 = .ok (.aload_n 0, 1) := by decide +kernel
theorem dX8_fewestThatCannot_24 : decode cX8_fewestThatCannot 24 = .ok (.getfield 39, 3) := by decide +kernel
theorem dX8_fewestThatCannot_27 : decode cX8_fewestThatCannot 27 = .ok (.aload_n 0, 1) := by decide +kernel
theorem dX8_fewestThatCannot_28 : decode cX8_fewestThatCannot 28 = .ok (.getfield 27, 3) := by decide +kernel
theorem dX8_fewestThatCannot_31 : decode cX8_fewestThatCannot 31 = .ok (.iload_n 3, 1) := by decide +kernel
theorem dX8_fewestThatCannot_32 : decode cX8_fewestThatCannot 32 = .ok (.iconst 0, 1) := by decide +kernel
theorem dX8_fewestThatCannot_33 : decode cX8_fewestThatCannot 33 = .ok (.iconst 0, 1) := by decide +kernel
theorem dX8_fewestThatCannot_34 : decode cX8_fewestThatCannot 34 = .ok (.invokevirtual 180, 3) := by decide +kernel
theorem dX8_fewestThatCannot_37 : decode cX8_fewestThatCannot 37 = .ok (.invokevirtual 132, 3) := by decide +kernel
theorem dX8_fewestThatCannot_40 : decode cX8_fewestThatCannot 40 = .ok (.ifCond .eq 5, 3) := by decide +kernel
theorem dX8_fewestThatCannot_43 : decode cX8_fewestThatCannot 43 = .ok (.iload_n 3, 1) := by decide +kernel
theorem dX8_fewestThatCannot_44 : decode cX8_fewestThatCannot 44 = .ok (.istore_n 2, 1) := by decide +kernel
theorem dX8_fewestThatCannot_45 : decode cX8_fewestThatCannot 45 = .ok (.iinc 3 1, 3) := by decide +kernel
theorem dX8_fewestThatCannot_48 : decode cX8_fewestThatCannot 48 = .ok (.goto (-39), 3) := by decide +kernel
theorem dX8_fewestThatCannot_51 : decode cX8_fewestThatCannot 51 = .ok (.iload_n 2, 1) := by decide +kernel
theorem dX8_fewestThatCannot_52 : decode cX8_fewestThatCannot 52 = .ok (.ireturn, 1) := by decide +kernel
set_option maxRecDepth 20000 in
theorem ggX8_follows_X8_isSaying : GoodIn wsX8_follows wsX8_isSaying := goodIn_r _ [7, 8, 120, 121, 122, 123, 124, 125, 126, 127, 128, 129, 130] (by decide +kernel) (by decide +kernel)
set_option maxRecDepth 20000 in
theorem gX8_follows_X8_isSaying : GoodIn wsX8_follows (wsV RX8 99 RX8 yX8_isSaying wsX8_isSaying) := goodIn_app (goodIn_of _ (by decide +kernel)) ggX8_follows_X8_isSaying
set_option maxRecDepth 20000 in
theorem ggX8_follows_X8_onSet : GoodIn wsX8_follows wsX8_onSet := goodIn_r _ [12, 8, 2, 120, 121, 122, 123, 124, 125, 126, 127, 128, 129, 130, 131, 132, 133, 134, 135] (by decide +kernel) (by decide +kernel)
set_option maxRecDepth 20000 in
theorem gX8_follows_X8_onSet : GoodIn wsX8_follows (wsV RX8 173 RX8 yX8_onSet wsX8_onSet) := goodIn_app (goodIn_of _ (by decide +kernel)) ggX8_follows_X8_onSet
set_option maxRecDepth 20000 in
theorem ggX8_follows_X2_rowsBy : GoodIn wsX8_follows wsX2_rowsBy := goodIn_r _ [17, 18, 19, 20, 21, 6, 22, 23, 24, 25, 26, 27, 28, 29, 30, 31, 32, 33, 34, 35, 36, 37, 38, 39, 40, 41, 42, 43, 44, 45, 46, 47, 48, 49, 50, 51, 52, 53, 54, 55, 56, 57, 58, 59, 60, 61, 62, 63, 64, 65, 66, 67, 68, 69, 70, 71, 72, 73, 74, 75, 76, 77, 78, 79, 80, 81, 82, 83, 84, 85, 86, 87, 88, 89, 90, 91, 92, 93, 94, 95, 96, 97, 98, 99, 100, 101, 102, 103, 104, 105, 106, 107, 108, 109, 136, 137, 138, 139, 140, 141, 142, 143, 144, 145, 146, 147, 148, 131, 132, 133, 134, 135] (by decide +kernel) (by decide +kernel)
set_option maxRecDepth 20000 in
theorem gX8_follows_X2_rowsBy : GoodIn wsX8_follows (wsV RX8 180 RX2 yX2_rowsBy wsX2_rowsBy) := goodIn_app (goodIn_of _ (by decide +kernel)) ggX8_follows_X2_rowsBy
set_option maxRecDepth 20000 in
theorem ggX8_follows_X0_allKeep : GoodIn wsX8_follows wsX0_allKeep := goodIn_r _ [113, 54, 64, 65, 66, 51, 67, 68, 21, 6, 22, 114, 115, 116, 26, 117, 118, 70, 71, 72, 73, 30, 119, 75, 76, 77, 31, 139, 140, 141, 142, 143, 144, 145, 146, 147, 148, 131, 132, 133, 134, 135] (by decide +kernel) (by decide +kernel)
set_option maxRecDepth 20000 in
theorem gX8_follows_X0_allKeep : GoodIn wsX8_follows (wsV RX8 184 RX0 yX0_allKeep wsX0_allKeep) := goodIn_app (goodIn_of _ (by decide +kernel)) ggX8_follows_X0_allKeep
theorem dX8_follows_0 : decode cX8_follows 0 = .ok (.aload_n 0, 1) := by decide +kernel
theorem dX8_follows_1 : decode cX8_follows 1 = .ok (.iload_n 1, 1) := by decide +kernel
theorem dX8_follows_2 : decode cX8_follows 2 = .ok (.invokevirtual 99, 3) := by decide +kernel
theorem dX8_follows_5 : decode cX8_follows 5 = .ok (.ifCond .ne 5, 3) := by decide +kernel
theorem dX8_follows_8 : decode cX8_follows 8 = .ok (.iconst (-1), 1) := by decide +kernel
theorem dX8_follows_9 : decode cX8_follows 9 = .ok (.ireturn, 1) := by decide +kernel
theorem dX8_follows_10 : decode cX8_follows 10 = .ok (.aload_n 0, 1) := by decide +kernel
theorem dX8_follows_11 : decode cX8_follows 11 = .ok (.invokevirtual 173, 3) := by decide +kernel
theorem dX8_follows_14 : decode cX8_follows 14 = .ok (.iconst 1, 1) := by decide +kernel
theorem dX8_follows_15 : decode cX8_follows 15 = .ok (.iload_n 1, 1) := by decide +kernel
theorem dX8_follows_16 : decode cX8_follows 16 = .ok (.ishl, 1) := by decide +kernel
theorem dX8_follows_17 : decode cX8_follows 17 = .ok (.iconst (-1), 1) := by decide +kernel
theorem dX8_follows_18 : decode cX8_follows 18 = .ok (.ixor, 1) := by decide +kernel
theorem dX8_follows_19 : decode cX8_follows 19 = .ok (.iand, 1) := by decide +kernel
theorem dX8_follows_20 : decode cX8_follows 20 = .ok (.istore_n 2, 1) := by decide +kernel
theorem dX8_follows_21 : decode cX8_follows 21 = .ok (.aload_n 0, 1) := by decide +kernel
theorem dX8_follows_22 : decode cX8_follows 22 = .ok (.getfield 39, 3) := by decide +kernel
theorem dX8_follows_25 : decode cX8_follows 25 = .ok (.aload_n 0, 1) := by decide +kernel
theorem dX8_follows_26 : decode cX8_follows 26 = .ok (.getfield 27, 3) := by decide +kernel
theorem dX8_follows_29 : decode cX8_follows 29 = .ok (.iload_n 2, 1) := by decide +kernel
theorem dX8_follows_30 : decode cX8_follows 30 = .ok (.iconst 0, 1) := by decide +kernel
theorem dX8_follows_31 : decode cX8_follows 31 = .ok (.iconst 0, 1) := by decide +kernel
theorem dX8_follows_32 : decode cX8_follows 32 = .ok (.invokevirtual 180, 3) := by decide +kernel
theorem dX8_follows_35 : decode cX8_follows 35 = .ok (.aload_n 0, 1) := by decide +kernel
theorem dX8_follows_36 : decode cX8_follows 36 = .ok (.getfield 27, 3) := by decide +kernel
theorem dX8_follows_39 : decode cX8_follows 39 = .ok (.iload_n 1, 1) := by decide +kernel
theorem dX8_follows_40 : decode cX8_follows 40 = .ok (.aaload, 1) := by decide +kernel
theorem dX8_follows_41 : decode cX8_follows 41 = .ok (.invokevirtual 184, 3) := by decide +kernel
theorem dX8_follows_44 : decode cX8_follows 44 = .ok (.ifCond .eq 7, 3) := by decide +kernel
theorem dX8_follows_47 : decode cX8_follows 47 = .ok (.iconst 1, 1) := by decide +kernel
theorem dX8_follows_48 : decode cX8_follows 48 = .ok (.goto 4, 3) := by decide +kernel
theorem dX8_follows_51 : decode cX8_follows 51 = .ok (.iconst 0, 1) := by decide +kernel
theorem dX8_follows_52 : decode cX8_follows 52 = .ok (.ireturn, 1) := by decide +kernel
set_option maxRecDepth 20000 in
theorem ggX8_needed_X8_isThing : GoodIn wsX8_needed wsX8_isThing := goodIn_r _ [4] (by decide +kernel) (by decide +kernel)
set_option maxRecDepth 20000 in
theorem gX8_needed_X8_isThing : GoodIn wsX8_needed (va_wsS RX8 137 yX8_isThing wsX8_isThing) := goodIn_app (goodIn_of _ (by decide +kernel)) ggX8_needed_X8_isThing
set_option maxRecDepth 20000 in
theorem ggX8_needed_X8_isZeroOrOne : GoodIn wsX8_needed wsX8_isZeroOrOne := goodIn_r _ [7] (by decide +kernel) (by decide +kernel)
set_option maxRecDepth 20000 in
theorem gX8_needed_X8_isZeroOrOne : GoodIn wsX8_needed (va_wsS RX8 118 yX8_isZeroOrOne wsX8_isZeroOrOne) := goodIn_app (goodIn_of _ (by decide +kernel)) ggX8_needed_X8_isZeroOrOne
set_option maxRecDepth 20000 in
theorem ggX8_needed_X8_fewestThatTellAsMuch : GoodIn wsX8_needed wsX8_fewestThatTellAsMuch := goodIn_r _ [11, 12, 13, 14, 15, 16, 17, 18, 19, 20, 3, 21, 22, 23, 24, 25, 26, 27, 28, 29, 30, 31, 32, 33, 34, 35, 36, 37, 38, 39, 40, 41, 42, 43, 44, 45, 46, 47, 48, 49, 50, 51, 52, 53, 54, 55, 56, 57, 58, 59, 60, 61, 62, 63, 64, 65, 66, 67, 68, 69, 70, 71, 72, 73, 74, 75, 76, 77, 78, 79, 80, 81, 82, 83, 84, 85, 86, 87, 88, 89, 90, 91, 92, 93, 94, 95, 96, 97, 98, 99, 100, 101, 102, 103, 104, 105, 106, 107, 108, 109, 110, 111, 112, 113, 114, 115, 116, 117, 118, 119, 120, 121, 122, 123, 124, 125, 126, 127, 128, 129, 130, 131, 132, 133, 134, 135, 136, 137, 138, 139, 140, 141, 142, 143, 144, 145, 146, 147, 148, 149, 150, 151, 152, 153, 154, 155, 156, 157, 158, 159, 160, 161, 162, 163, 164, 165, 166, 167, 168, 169, 170, 171, 172, 173, 174, 175, 176, 177] (by decide +kernel) (by decide +kernel)
set_option maxRecDepth 20000 in
theorem gX8_needed_X8_fewestThatTellAsMuch : GoodIn wsX8_needed (wsV RX8 188 RX8 yX8_fewestThatTellAsMuch wsX8_fewestThatTellAsMuch) := goodIn_app (goodIn_of _ (by decide +kernel)) ggX8_needed_X8_fewestThatTellAsMuch
set_option maxRecDepth 20000 in
theorem ggX8_needed_J6_bitCount_0f7a4 : GoodIn wsX8_needed wsJ6_bitCount_0f7a4 := goodIn_r _ [112, 113, 114, 115] (by decide +kernel) (by decide +kernel)
set_option maxRecDepth 20000 in
theorem gX8_needed_J6_bitCount_0f7a4 : GoodIn wsX8_needed (va_wsS RX8 167 yJ6_bitCount_0f7a4 wsJ6_bitCount_0f7a4) := goodIn_app (goodIn_of _ (by decide +kernel)) ggX8_needed_J6_bitCount_0f7a4
theorem dX8_needed_0 : decode cX8_needed 0 = .ok (.iload_n 1, 1) := by decide +kernel
theorem dX8_needed_1 : decode cX8_needed 1 = .ok (.invokestatic 137, 3) := by decide +kernel
theorem dX8_needed_4 : decode cX8_needed 4 = .ok (.ifCond .eq 17, 3) := by decide +kernel
theorem dX8_needed_7 : decode cX8_needed 7 = .ok (.iload_n 2, 1) := by decide +kernel
theorem dX8_needed_8 : decode cX8_needed 8 = .ok (.invokestatic 137, 3) := by decide +kernel
theorem dX8_needed_11 : decode cX8_needed 11 = .ok (.ifCond .eq 10, 3) := by decide +kernel
theorem dX8_needed_14 : decode cX8_needed 14 = .ok (.iload_n 3, 1) := by decide +kernel
theorem dX8_needed_15 : decode cX8_needed 15 = .ok (.invokestatic 118, 3) := by decide +kernel
theorem dX8_needed_18 : decode cX8_needed 18 = .ok (.ifCond .ne 5, 3) := by decide +kernel
theorem dX8_needed_21 : decode cX8_needed 21 = .ok (.iconst (-1), 1) := by decide +kernel
theorem dX8_needed_22 : decode cX8_needed 22 = .ok (.ireturn, 1) := by decide +kernel
theorem dX8_needed_23 : decode cX8_needed 23 = .ok (.aload_n 0, 1) := by decide +kernel
theorem dX8_needed_24 : decode cX8_needed 24 = .ok (.iload_n 1, 1) := by decide +kernel
theorem dX8_needed_25 : decode cX8_needed 25 = .ok (.iload_n 2, 1) := by decide +kernel
theorem dX8_needed_26 : decode cX8_needed 26 = .ok (.invokevirtual 188, 3) := by decide +kernel
theorem dX8_needed_29 : decode cX8_needed 29 = .ok (.istore 4, 2) := by decide +kernel
theorem dX8_needed_31 : decode cX8_needed 31 = .ok (.iload_n 3, 1) := by decide +kernel
theorem dX8_needed_32 : decode cX8_needed 32 = .ok (.ifCond .ne 11, 3) := by decide +kernel
theorem dX8_needed_35 : decode cX8_needed 35 = .ok (.iload 4, 2) := by decide +kernel
theorem dX8_needed_37 : decode cX8_needed 37 = .ok (.invokestatic 167, 3) := by decide +kernel
theorem dX8_needed_40 : decode cX8_needed 40 = .ok (.goto 5, 3) := by decide +kernel
theorem dX8_needed_43 : decode cX8_needed 43 = .ok (.iload 4, 2) := by decide +kernel
theorem dX8_needed_45 : decode cX8_needed 45 = .ok (.ireturn, 1) := by decide +kernel
set_option maxRecDepth 20000 in
theorem ggX8_fewestThatTellAsMuch_X8_onSet : GoodIn wsX8_fewestThatTellAsMuch wsX8_onSet := goodIn_r _ [11, 12, 2, 137, 138, 139, 140, 141, 142, 143, 144, 145, 146, 147, 148, 149, 150, 151, 152] (by decide +kernel) (by decide +kernel)
set_option maxRecDepth 20000 in
theorem gX8_fewestThatTellAsMuch_X8_onSet : GoodIn wsX8_fewestThatTellAsMuch (wsV RX8 173 RX8 yX8_onSet wsX8_onSet) := goodIn_app (goodIn_of _ (by decide +kernel)) ggX8_fewestThatTellAsMuch_X8_onSet
set_option maxRecDepth 20000 in
theorem ggX8_fewestThatTellAsMuch_X2_rowsBy : GoodIn wsX8_fewestThatTellAsMuch wsX2_rowsBy := goodIn_r _ [17, 18, 19, 20, 21, 10, 22, 23, 24, 25, 26, 27, 28, 29, 30, 31, 32, 33, 34, 35, 36, 37, 38, 39, 40, 41, 42, 43, 44, 45, 46, 47, 48, 49, 50, 51, 52, 53, 54, 55, 56, 57, 58, 59, 60, 61, 62, 63, 64, 65, 66, 67, 68, 69, 70, 71, 72, 73, 74, 75, 76, 77, 78, 79, 80, 81, 82, 83, 84, 85, 86, 87, 88, 89, 90, 91, 92, 93, 94, 95, 96, 97, 98, 99, 100, 101, 102, 103, 104, 105, 106, 107, 108, 109, 153, 154, 155, 156, 157, 158, 159, 160, 161, 162, 163, 164, 165, 148, 149, 150, 151, 152] (by decide +kernel) (by decide +kernel)
set_option maxRecDepth 20000 in
theorem gX8_fewestThatTellAsMuch_X2_rowsBy : GoodIn wsX8_fewestThatTellAsMuch (wsV RX8 180 RX2 yX2_rowsBy wsX2_rowsBy) := goodIn_app (goodIn_of _ (by decide +kernel)) ggX8_fewestThatTellAsMuch_X2_rowsBy
set_option maxRecDepth 20000 in
theorem ggX8_fewestThatTellAsMuch_X0_findShare : GoodIn wsX8_fewestThatTellAsMuch wsX0_findShare := goodIn_r _ [113, 54, 114, 115, 116, 117, 118, 119, 120, 64, 65, 66, 51, 67, 68, 21, 10, 22, 121, 122, 123, 124, 125, 126, 127, 128, 156, 157, 158, 159, 160, 161, 162, 163, 164, 165, 166, 167] (by decide +kernel) (by decide +kernel)
set_option maxRecDepth 20000 in
theorem gX8_fewestThatTellAsMuch_X0_findShare : GoodIn wsX8_fewestThatTellAsMuch (wsV RX8 142 RX0 yX0_findShare wsX0_findShare) := goodIn_app (goodIn_of _ (by decide +kernel)) ggX8_fewestThatTellAsMuch_X0_findShare
set_option maxRecDepth 20000 in
theorem ggX8_fewestThatTellAsMuch_X8_isFewerOf : GoodIn wsX8_fewestThatTellAsMuch wsX8_isFewerOf := goodIn_r _ [131, 132, 100, 101, 102, 103, 104, 105] (by decide +kernel) (by decide +kernel)
set_option maxRecDepth 20000 in
theorem gX8_fewestThatTellAsMuch_X8_isFewerOf : GoodIn wsX8_fewestThatTellAsMuch (va_wsS RX8 176 yX8_isFewerOf wsX8_isFewerOf) := goodIn_app (goodIn_of _ (by decide +kernel)) ggX8_fewestThatTellAsMuch_X8_isFewerOf
set_option maxRecDepth 20000 in
theorem ggX8_fewestThatTellAsMuch_X1_isSameAs : GoodIn wsX8_fewestThatTellAsMuch wsX1_isSameAs := goodIn_r _ [136, 120, 119, 166, 167] (by decide +kernel) (by decide +kernel)
set_option maxRecDepth 20000 in
theorem gX8_fewestThatTellAsMuch_X1_isSameAs : GoodIn wsX8_fewestThatTellAsMuch (wsV RX8 192 RX1 yX1_isSameAs wsX1_isSameAs) := goodIn_app (goodIn_of _ (by decide +kernel)) ggX8_fewestThatTellAsMuch_X1_isSameAs
theorem dX8_fewestThatTellAsMuch_0 : decode cX8_fewestThatTellAsMuch 0 = .ok (.aload_n 0, 1) := by decide +kernel
theorem dX8_fewestThatTellAsMuch_1 : decode cX8_fewestThatTellAsMuch 1 = .ok (.invokevirtual 173, 3) := by decide +kernel
theorem dX8_fewestThatTellAsMuch_4 : decode cX8_fewestThatTellAsMuch 4 = .ok (.istore_n 3, 1) := by decide +kernel
theorem dX8_fewestThatTellAsMuch_5 : decode cX8_fewestThatTellAsMuch 5 = .ok (.aload_n 0, 1) := by decide +kernel
theorem dX8_fewestThatTellAsMuch_6 : decode cX8_fewestThatTellAsMuch 6 = .ok (.getfield 39, 3) := by decide +kernel
theorem dX8_fewestThatTellAsMuch_9 : decode cX8_fewestThatTellAsMuch 9 = .ok (.aload_n 0, 1) := by decide +kernel
theorem dX8_fewestThatTellAsMuch_10 : decode cX8_fewestThatTellAsMuch 10 = .ok (.getfield 27, 3) := by decide +kernel
theorem dX8_fewestThatTellAsMuch_13 : decode cX8_fewestThatTellAsMuch 13 = .ok (.iload_n 3, 1) := by decide +kernel
theorem dX8_fewestThatTellAsMuch_14 : decode cX8_fewestThatTellAsMuch 14 = .ok (.iconst 0, 1) := by decide +kernel
theorem dX8_fewestThatTellAsMuch_15 : decode cX8_fewestThatTellAsMuch 15 = .ok (.iconst 0, 1) := by decide +kernel
theorem dX8_fewestThatTellAsMuch_16 : decode cX8_fewestThatTellAsMuch 16 = .ok (.invokevirtual 180, 3) := by decide +kernel
theorem dX8_fewestThatTellAsMuch_19 : decode cX8_fewestThatTellAsMuch 19 = .ok (.astore 4, 2) := by decide +kernel
theorem dX8_fewestThatTellAsMuch_21 : decode cX8_fewestThatTellAsMuch 21 = .ok (.aload 4, 2) := by decide +kernel
theorem dX8_fewestThatTellAsMuch_23 : decode cX8_fewestThatTellAsMuch 23 = .ok (.iload_n 1, 1) := by decide +kernel
theorem dX8_fewestThatTellAsMuch_24 : decode cX8_fewestThatTellAsMuch 24 = .ok (.iload_n 2, 1) := by decide +kernel
theorem dX8_fewestThatTellAsMuch_25 : decode cX8_fewestThatTellAsMuch 25 = .ok (.iconst 0, 1) := by decide +kernel
theorem dX8_fewestThatTellAsMuch_26 : decode cX8_fewestThatTellAsMuch 26 = .ok (.aload_n 0, 1) := by decide +kernel
theorem dX8_fewestThatTellAsMuch_27 : decode cX8_fewestThatTellAsMuch 27 = .ok (.getfield 63, 3) := by decide +kernel
theorem dX8_fewestThatTellAsMuch_30 : decode cX8_fewestThatTellAsMuch 30 = .ok (.invokevirtual 142, 3) := by decide +kernel
theorem dX8_fewestThatTellAsMuch_33 : decode cX8_fewestThatTellAsMuch 33 = .ok (.aload 4, 2) := by decide +kernel
theorem dX8_fewestThatTellAsMuch_35 : decode cX8_fewestThatTellAsMuch 35 = .ok (.iload_n 1, 1) := by decide +kernel
theorem dX8_fewestThatTellAsMuch_36 : decode cX8_fewestThatTellAsMuch 36 = .ok (.iload_n 2, 1) := by decide +kernel
theorem dX8_fewestThatTellAsMuch_37 : decode cX8_fewestThatTellAsMuch 37 = .ok (.iconst 1, 1) := by decide +kernel
theorem dX8_fewestThatTellAsMuch_38 : decode cX8_fewestThatTellAsMuch 38 = .ok (.aload_n 0, 1) := by decide +kernel
theorem dX8_fewestThatTellAsMuch_39 : decode cX8_fewestThatTellAsMuch 39 = .ok (.getfield 66, 3) := by decide +kernel
theorem dX8_fewestThatTellAsMuch_42 : decode cX8_fewestThatTellAsMuch 42 = .ok (.invokevirtual 142, 3) := by decide +kernel
theorem dX8_fewestThatTellAsMuch_45 : decode cX8_fewestThatTellAsMuch 45 = .ok (.iconst (-1), 1) := by decide +kernel
theorem dX8_fewestThatTellAsMuch_46 : decode cX8_fewestThatTellAsMuch 46 = .ok (.istore 5, 2) := by decide +kernel
theorem dX8_fewestThatTellAsMuch_48 : decode cX8_fewestThatTellAsMuch 48 = .ok (.iconst 0, 1) := by decide +kernel
theorem dX8_fewestThatTellAsMuch_49 : decode cX8_fewestThatTellAsMuch 49 = .ok (.istore 6, 2) := by decide +kernel
theorem dX8_fewestThatTellAsMuch_51 : decode cX8_fewestThatTellAsMuch 51 = .ok (.iload 6, 2) := by decide +kernel
theorem dX8_fewestThatTellAsMuch_53 : decode cX8_fewestThatTellAsMuch 53 = .ok (.iload_n 3, 1) := by decide +kernel
theorem dX8_fewestThatTellAsMuch_54 : decode cX8_fewestThatTellAsMuch 54 = .ok (.if_icmp .ge 93, 3) := by decide +kernel
theorem dX8_fewestThatTellAsMuch_57 : decode cX8_fewestThatTellAsMuch 57 = .ok (.iload_n 3, 1) := by decide +kernel
theorem dX8_fewestThatTellAsMuch_58 : decode cX8_fewestThatTellAsMuch 58 = .ok (.iload 6, 2) := by decide +kernel
theorem dX8_fewestThatTellAsMuch_60 : decode cX8_fewestThatTellAsMuch 60 = .ok (.iload 5, 2) := by decide +kernel
theorem dX8_fewestThatTellAsMuch_62 : decode cX8_fewestThatTellAsMuch 62 = .ok (.invokestatic 176, 3) := by decide +kernel
theorem dX8_fewestThatTellAsMuch_65 : decode cX8_fewestThatTellAsMuch 65 = .ok (.ifCond .eq 76, 3) := by decide +kernel
theorem dX8_fewestThatTellAsMuch_68 : decode cX8_fewestThatTellAsMuch 68 = .ok (.aload_n 0, 1) := by decide +kernel
theorem dX8_fewestThatTellAsMuch_69 : decode cX8_fewestThatTellAsMuch 69 = .ok (.getfield 39, 3) := by decide +kernel
theorem dX8_fewestThatTellAsMuch_72 : decode cX8_fewestThatTellAsMuch 72 = .ok (.aload_n 0, 1) := by decide +kernel
theorem dX8_fewestThatTellAsMuch_73 : decode cX8_fewestThatTellAsMuch 73 = .ok (.getfield 27, 3) := by decide +kernel
theorem dX8_fewestThatTellAsMuch_76 : decode cX8_fewestThatTellAsMuch 76 = .ok (.iload 6, 2) := by decide +kernel
theorem dX8_fewestThatTellAsMuch_78 : decode cX8_fewestThatTellAsMuch 78 = .ok (.iconst 0, 1) := by decide +kernel
theorem dX8_fewestThatTellAsMuch_79 : decode cX8_fewestThatTellAsMuch 79 = .ok (.iconst 0, 1) := by decide +kernel
theorem dX8_fewestThatTellAsMuch_80 : decode cX8_fewestThatTellAsMuch 80 = .ok (.invokevirtual 180, 3) := by decide +kernel
theorem dX8_fewestThatTellAsMuch_83 : decode cX8_fewestThatTellAsMuch 83 = .ok (.astore 7, 2) := by decide +kernel
theorem dX8_fewestThatTellAsMuch_85 : decode cX8_fewestThatTellAsMuch 85 = .ok (.aload 7, 2) := by decide +kernel
theorem dX8_fewestThatTellAsMuch_87 : decode cX8_fewestThatTellAsMuch 87 = .ok (.iload_n 1, 1) := by decide +kernel
theorem dX8_fewestThatTellAsMuch_88 : decode cX8_fewestThatTellAsMuch 88 = .ok (.iload_n 2, 1) := by decide +kernel
theorem dX8_fewestThatTellAsMuch_89 : decode cX8_fewestThatTellAsMuch 89 = .ok (.iconst 0, 1) := by decide +kernel
theorem dX8_fewestThatTellAsMuch_90 : decode cX8_fewestThatTellAsMuch 90 = .ok (.aload_n 0, 1) := by decide +kernel
theorem dX8_fewestThatTellAsMuch_91 : decode cX8_fewestThatTellAsMuch 91 = .ok (.getfield 57, 3) := by decide +kernel
theorem dX8_fewestThatTellAsMuch_94 : decode cX8_fewestThatTellAsMuch 94 = .ok (.invokevirtual 142, 3) := by decide +kernel
theorem dX8_fewestThatTellAsMuch_97 : decode cX8_fewestThatTellAsMuch 97 = .ok (.aload 7, 2) := by decide +kernel
theorem dX8_fewestThatTellAsMuch_99 : decode cX8_fewestThatTellAsMuch 99 = .ok (.iload_n 1, 1) := by decide +kernel
theorem dX8_fewestThatTellAsMuch_100 : decode cX8_fewestThatTellAsMuch 100 = .ok (.iload_n 2, 1) := by decide +kernel
theorem dX8_fewestThatTellAsMuch_101 : decode cX8_fewestThatTellAsMuch 101 = .ok (.iconst 1, 1) := by decide +kernel
theorem dX8_fewestThatTellAsMuch_102 : decode cX8_fewestThatTellAsMuch 102 = .ok (.aload_n 0, 1) := by decide +kernel
theorem dX8_fewestThatTellAsMuch_103 : decode cX8_fewestThatTellAsMuch 103 = .ok (.getfield 60, 3) := by decide +kernel
theorem dX8_fewestThatTellAsMuch_106 : decode cX8_fewestThatTellAsMuch 106 = .ok (.invokevirtual 142, 3) := by decide +kernel
theorem dX8_fewestThatTellAsMuch_109 : decode cX8_fewestThatTellAsMuch 109 = .ok (.aload_n 0, 1) := by decide +kernel
theorem dX8_fewestThatTellAsMuch_110 : decode cX8_fewestThatTellAsMuch 110 = .ok (.getfield 57, 3) := by decide +kernel
theorem dX8_fewestThatTellAsMuch_113 : decode cX8_fewestThatTellAsMuch 113 = .ok (.aload_n 0, 1) := by decide +kernel
theorem dX8_fewestThatTellAsMuch_114 : decode cX8_fewestThatTellAsMuch 114 = .ok (.getfield 63, 3) := by decide +kernel
theorem dX8_fewestThatTellAsMuch_117 : decode cX8_fewestThatTellAsMuch 117 = .ok (.invokevirtual 192, 3) := by decide +kernel
theorem dX8_fewestThatTellAsMuch_120 : decode cX8_fewestThatTellAsMuch 120 = .ok (.ifCond .eq 21, 3) := by decide +kernel
theorem dX8_fewestThatTellAsMuch_123 : decode cX8_fewestThatTellAsMuch 123 = .ok (.aload_n 0, 1) := by decide +kernel
theorem dX8_fewestThatTellAsMuch_124 : decode cX8_fewestThatTellAsMuch 124 = .ok (.getfield 60, 3) := by decide +kernel
theorem dX8_fewestThatTellAsMuch_127 : decode cX8_fewestThatTellAsMuch 127 = .ok (.aload_n 0, 1) := by decide +kernel
theorem dX8_fewestThatTellAsMuch_128 : decode cX8_fewestThatTellAsMuch 128 = .ok (.getfield 66, 3) := by decide +kernel
theorem dX8_fewestThatTellAsMuch_131 : decode cX8_fewestThatTellAsMuch 131 = .ok (.invokevirtual 192, 3) := by decide +kernel
theorem dX8_fewestThatTellAsMuch_134 : decode cX8_fewestThatTellAsMuch 134 = .ok (.ifCond .eq 7, 3) := by decide +kernel
theorem dX8_fewestThatTellAsMuch_137 : decode cX8_fewestThatTellAsMuch 137 = .ok (.iload 6, 2) := by decide +kernel
theorem dX8_fewestThatTellAsMuch_139 : decode cX8_fewestThatTellAsMuch 139 = .ok (.istore 5, 2) := by decide +kernel
theorem dX8_fewestThatTellAsMuch_141 : decode cX8_fewestThatTellAsMuch 141 = .ok (.iinc 6 1, 3) := by decide +kernel
theorem dX8_fewestThatTellAsMuch_144 : decode cX8_fewestThatTellAsMuch 144 = .ok (.goto (-93), 3) := by decide +kernel
theorem dX8_fewestThatTellAsMuch_147 : decode cX8_fewestThatTellAsMuch 147 = .ok (.iload 5, 2) := by decide +kernel
theorem dX8_fewestThatTellAsMuch_149 : decode cX8_fewestThatTellAsMuch 149 = .ok (.ifCond .ge 7, 3) := by decide +kernel
theorem dX8_fewestThatTellAsMuch_152 : decode cX8_fewestThatTellAsMuch 152 = .ok (.iload_n 3, 1) := by decide +kernel
theorem dX8_fewestThatTellAsMuch_153 : decode cX8_fewestThatTellAsMuch 153 = .ok (.goto 5, 3) := by decide +kernel
theorem dX8_fewestThatTellAsMuch_156 : decode cX8_fewestThatTellAsMuch 156 = .ok (.iload 5, 2) := by decide +kernel
theorem dX8_fewestThatTellAsMuch_158 : decode cX8_fewestThatTellAsMuch 158 = .ok (.ireturn, 1) := by decide +kernel
set_option maxRecDepth 20000 in
theorem ggX8_isFewerOf_J6_bitCount_0f7a4 : GoodIn wsX8_isFewerOf wsJ6_bitCount_0f7a4 := goodIn_r _ [4, 5, 6, 7] (by decide +kernel) (by decide +kernel)
set_option maxRecDepth 20000 in
theorem gX8_isFewerOf_J6_bitCount_0f7a4 : GoodIn wsX8_isFewerOf (va_wsS RX8 167 yJ6_bitCount_0f7a4 wsJ6_bitCount_0f7a4) := goodIn_app (goodIn_of _ (by decide +kernel)) ggX8_isFewerOf_J6_bitCount_0f7a4
theorem dX8_isFewerOf_0 : decode cX8_isFewerOf 0 = .ok (.iload_n 1, 1) := by decide +kernel
theorem dX8_isFewerOf_1 : decode cX8_isFewerOf 1 = .ok (.iload_n 0, 1) := by decide +kernel
theorem dX8_isFewerOf_2 : decode cX8_isFewerOf 2 = .ok (.iconst (-1), 1) := by decide +kernel
theorem dX8_isFewerOf_3 : decode cX8_isFewerOf 3 = .ok (.ixor, 1) := by decide +kernel
theorem dX8_isFewerOf_4 : decode cX8_isFewerOf 4 = .ok (.iand, 1) := by decide +kernel
theorem dX8_isFewerOf_5 : decode cX8_isFewerOf 5 = .ok (.ifCond .ne 22, 3) := by decide +kernel
theorem dX8_isFewerOf_8 : decode cX8_isFewerOf 8 = .ok (.iload_n 2, 1) := by decide +kernel
theorem dX8_isFewerOf_9 : decode cX8_isFewerOf 9 = .ok (.ifCond .lt 14, 3) := by decide +kernel
theorem dX8_isFewerOf_12 : decode cX8_isFewerOf 12 = .ok (.iload_n 1, 1) := by decide +kernel
theorem dX8_isFewerOf_13 : decode cX8_isFewerOf 13 = .ok (.invokestatic 167, 3) := by decide +kernel
theorem dX8_isFewerOf_16 : decode cX8_isFewerOf 16 = .ok (.iload_n 2, 1) := by decide +kernel
theorem dX8_isFewerOf_17 : decode cX8_isFewerOf 17 = .ok (.invokestatic 167, 3) := by decide +kernel
theorem dX8_isFewerOf_20 : decode cX8_isFewerOf 20 = .ok (.if_icmp .ge 7, 3) := by decide +kernel
theorem dX8_isFewerOf_23 : decode cX8_isFewerOf 23 = .ok (.iconst 1, 1) := by decide +kernel
theorem dX8_isFewerOf_24 : decode cX8_isFewerOf 24 = .ok (.goto 4, 3) := by decide +kernel
theorem dX8_isFewerOf_27 : decode cX8_isFewerOf 27 = .ok (.iconst 0, 1) := by decide +kernel
theorem dX8_isFewerOf_28 : decode cX8_isFewerOf 28 = .ok (.ireturn, 1) := by decide +kernel
set_option maxRecDepth 20000 in
theorem ggX8_gives_X8_isSaying : GoodIn wsX8_gives wsX8_isSaying := goodIn_r _ [5, 6, 118, 119, 120, 121, 122, 123, 124, 125, 126, 127, 128] (by decide +kernel) (by decide +kernel)
set_option maxRecDepth 20000 in
theorem gX8_gives_X8_isSaying : GoodIn wsX8_gives (wsV RX8 99 RX8 yX8_isSaying wsX8_isSaying) := goodIn_app (goodIn_of _ (by decide +kernel)) ggX8_gives_X8_isSaying
set_option maxRecDepth 20000 in
theorem ggX8_gives_X8_onSet : GoodIn wsX8_gives wsX8_onSet := goodIn_r _ [10, 6, 11, 118, 119, 120, 121, 122, 123, 124, 125, 126, 127, 128, 129, 130, 131, 132, 133] (by decide +kernel) (by decide +kernel)
set_option maxRecDepth 20000 in
theorem gX8_gives_X8_onSet : GoodIn wsX8_gives (wsV RX8 173 RX8 yX8_onSet wsX8_onSet) := goodIn_app (goodIn_of _ (by decide +kernel)) ggX8_gives_X8_onSet
set_option maxRecDepth 20000 in
theorem ggX8_gives_X8_leastGiving : GoodIn wsX8_gives wsX8_leastGiving := goodIn_r _ [15, 16, 11, 17, 18, 19, 20, 21, 22, 23, 24, 25, 4, 26, 27, 28, 29, 30, 31, 32, 33, 34, 35, 36, 37, 38, 39, 40, 41, 42, 43, 44, 45, 46, 47, 48, 49, 50, 51, 52, 53, 54, 55, 56, 57, 58, 59, 60, 61, 62, 63, 64, 65, 66, 67, 68, 69, 70, 71, 72, 73, 74, 75, 76, 77, 78, 79, 80, 81, 82, 83, 84, 85, 86, 87, 88, 89, 90, 91, 92, 93, 94, 95, 96, 97, 98, 99, 100, 101, 102, 103, 104, 105, 106, 107, 108, 109, 110, 111, 112, 113, 114, 115, 116, 117, 118, 119, 120, 121, 122, 123, 124, 125, 126, 127, 128, 134, 135, 136, 137, 138, 139, 140, 141, 142, 143, 144, 145, 146, 129, 130, 131, 132, 133] (by decide +kernel) (by decide +kernel)
set_option maxRecDepth 20000 in
theorem gX8_gives_X8_leastGiving : GoodIn wsX8_gives (wsV RX8 196 RX8 yX8_leastGiving wsX8_leastGiving) := goodIn_app (goodIn_of _ (by decide +kernel)) ggX8_gives_X8_leastGiving
theorem dX8_gives_0 : decode cX8_gives 0 = .ok (.iload_n 1, 1) := by decide +kernel
theorem dX8_gives_1 : decode cX8_gives 1 = .ok (.iconst (-1), 1) := by decide +kernel
theorem dX8_gives_2 : decode cX8_gives 2 = .ok (.if_icmp .eq 13, 3) := by decide +kernel
theorem dX8_gives_5 : decode cX8_gives 5 = .ok (.aload_n 0, 1) := by decide +kernel
theorem dX8_gives_6 : decode cX8_gives 6 = .ok (.iload_n 1, 1) := by decide +kernel
theorem dX8_gives_7 : decode cX8_gives 7 = .ok (.invokevirtual 99, 3) := by decide +kernel
theorem dX8_gives_10 : decode cX8_gives 10 = .ok (.ifCond .ne 5, 3) := by decide +kernel
theorem dX8_gives_13 : decode cX8_gives 13 = .ok (.iconst (-1), 1) := by decide +kernel
theorem dX8_gives_14 : decode cX8_gives 14 = .ok (.ireturn, 1) := by decide +kernel
theorem dX8_gives_15 : decode cX8_gives 15 = .ok (.aload_n 0, 1) := by decide +kernel
theorem dX8_gives_16 : decode cX8_gives 16 = .ok (.invokevirtual 173, 3) := by decide +kernel
theorem dX8_gives_19 : decode cX8_gives 19 = .ok (.istore_n 2, 1) := by decide +kernel
theorem dX8_gives_20 : decode cX8_gives 20 = .ok (.iload_n 1, 1) := by decide +kernel
theorem dX8_gives_21 : decode cX8_gives 21 = .ok (.iconst (-1), 1) := by decide +kernel
theorem dX8_gives_22 : decode cX8_gives 22 = .ok (.if_icmp .ne 7, 3) := by decide +kernel
theorem dX8_gives_25 : decode cX8_gives 25 = .ok (.iload_n 2, 1) := by decide +kernel
theorem dX8_gives_26 : decode cX8_gives 26 = .ok (.goto 8, 3) := by decide +kernel
theorem dX8_gives_29 : decode cX8_gives 29 = .ok (.iload_n 2, 1) := by decide +kernel
theorem dX8_gives_30 : decode cX8_gives 30 = .ok (.iconst 1, 1) := by decide +kernel
theorem dX8_gives_31 : decode cX8_gives 31 = .ok (.iload_n 1, 1) := by decide +kernel
theorem dX8_gives_32 : decode cX8_gives 32 = .ok (.ishl, 1) := by decide +kernel
theorem dX8_gives_33 : decode cX8_gives 33 = .ok (.iand, 1) := by decide +kernel
theorem dX8_gives_34 : decode cX8_gives 34 = .ok (.istore_n 3, 1) := by decide +kernel
theorem dX8_gives_35 : decode cX8_gives 35 = .ok (.iload_n 1, 1) := by decide +kernel
theorem dX8_gives_36 : decode cX8_gives 36 = .ok (.iconst (-1), 1) := by decide +kernel
theorem dX8_gives_37 : decode cX8_gives 37 = .ok (.if_icmp .eq 10, 3) := by decide +kernel
theorem dX8_gives_40 : decode cX8_gives 40 = .ok (.iload_n 3, 1) := by decide +kernel
theorem dX8_gives_41 : decode cX8_gives 41 = .ok (.ifCond .ne 6, 3) := by decide +kernel
theorem dX8_gives_44 : decode cX8_gives 44 = .ok (.bipush (-9), 2) := by decide +kernel
theorem dX8_gives_46 : decode cX8_gives 46 = .ok (.ireturn, 1) := by decide +kernel
theorem dX8_gives_47 : decode cX8_gives 47 = .ok (.aload_n 0, 1) := by decide +kernel
theorem dX8_gives_48 : decode cX8_gives 48 = .ok (.iload_n 2, 1) := by decide +kernel
theorem dX8_gives_49 : decode cX8_gives 49 = .ok (.iload_n 3, 1) := by decide +kernel
theorem dX8_gives_50 : decode cX8_gives 50 = .ok (.invokevirtual 196, 3) := by decide +kernel
theorem dX8_gives_53 : decode cX8_gives 53 = .ok (.ireturn, 1) := by decide +kernel
set_option maxRecDepth 20000 in
theorem ggX8_leastGiving_X2_rowsBy : GoodIn wsX8_leastGiving wsX2_rowsBy := goodIn_r _ [7, 8, 9, 10, 11, 12, 13, 14, 15, 16, 17, 18, 19, 20, 21, 22, 23, 24, 25, 26, 27, 28, 29, 30, 31, 32, 33, 34, 35, 36, 37, 38, 39, 40, 41, 42, 43, 44, 45, 46, 47, 48, 49, 50, 51, 52, 53, 54, 55, 56, 57, 58, 59, 60, 61, 62, 63, 64, 65, 66, 67, 68, 69, 70, 71, 72, 73, 74, 75, 76, 77, 78, 79, 80, 81, 82, 83, 84, 85, 86, 87, 88, 89, 90, 91, 92, 93, 94, 95, 96, 97, 98, 99, 100, 116, 117, 118, 119, 120, 121, 122, 123, 124, 125, 126, 127, 128, 129, 130, 131, 132, 133] (by decide +kernel) (by decide +kernel)
set_option maxRecDepth 20000 in
theorem gX8_leastGiving_X2_rowsBy : GoodIn wsX8_leastGiving (wsV RX8 180 RX2 yX2_rowsBy wsX2_rowsBy) := goodIn_app (goodIn_of _ (by decide +kernel)) ggX8_leastGiving_X2_rowsBy
set_option maxRecDepth 20000 in
theorem ggX8_leastGiving_X0_isEmpty : GoodIn wsX8_leastGiving wsX0_isEmpty := goodIn_r _ [104, 45, 119, 120, 121, 122, 123, 124, 125, 126, 127, 128] (by decide +kernel) (by decide +kernel)
set_option maxRecDepth 20000 in
theorem gX8_leastGiving_X0_isEmpty : GoodIn wsX8_leastGiving (wsV RX8 132 RX0 yX0_isEmpty wsX0_isEmpty) := goodIn_app (goodIn_of _ (by decide +kernel)) ggX8_leastGiving_X0_isEmpty
theorem dX8_leastGiving_0 : decode cX8_leastGiving 0 = .ok (.aload_n 0, 1) := by decide +kernel
theorem dX8_leastGiving_1 : decode cX8_leastGiving 1 = .ok (.getfield 39, 3) := by decide +kernel
theorem dX8_leastGiving_4 : decode cX8_leastGiving 4 = .ok (.aload_n 0, 1) := by decide +kernel
theorem dX8_leastGiving_5 : decode cX8_leastGiving 5 = .ok (.getfield 27, 3) := by decide +kernel
theorem dX8_leastGiving_8 : decode cX8_leastGiving 8 = .ok (.iload_n 1, 1) := by decide +kernel
theorem dX8_leastGiving_9 : decode cX8_leastGiving 9 = .ok (.iload_n 2, 1) := by decide +kernel
theorem dX8_leastGiving_10 : decode cX8_leastGiving 10 = .ok (.bipush 100, 2) := by decide +kernel
theorem dX8_leastGiving_12 : decode cX8_leastGiving 12 = .ok (.invokevirtual 180, 3) := by decide +kernel
theorem dX8_leastGiving_15 : decode cX8_leastGiving 15 = .ok (.invokevirtual 132, 3) := by decide +kernel
theorem dX8_leastGiving_18 : decode cX8_leastGiving 18 = .ok (.ifCond .eq 6, 3) := by decide +kernel
theorem dX8_leastGiving_21 : decode cX8_leastGiving 21 = .ok (.bipush (-9), 2) := by decide +kernel
theorem dX8_leastGiving_23 : decode cX8_leastGiving 23 = .ok (.ireturn, 1) := by decide +kernel
theorem dX8_leastGiving_24 : decode cX8_leastGiving 24 = .ok (.iconst 0, 1) := by decide +kernel
theorem dX8_leastGiving_25 : decode cX8_leastGiving 25 = .ok (.istore_n 3, 1) := by decide +kernel
theorem dX8_leastGiving_26 : decode cX8_leastGiving 26 = .ok (.bipush 100, 2) := by decide +kernel
theorem dX8_leastGiving_28 : decode cX8_leastGiving 28 = .ok (.istore 4, 2) := by decide +kernel
theorem dX8_leastGiving_30 : decode cX8_leastGiving 30 = .ok (.iconst 0, 1) := by decide +kernel
theorem dX8_leastGiving_31 : decode cX8_leastGiving 31 = .ok (.istore 5, 2) := by decide +kernel
theorem dX8_leastGiving_33 : decode cX8_leastGiving 33 = .ok (.iload 5, 2) := by decide +kernel
theorem dX8_leastGiving_35 : decode cX8_leastGiving 35 = .ok (.bipush 100, 2) := by decide +kernel
theorem dX8_leastGiving_37 : decode cX8_leastGiving 37 = .ok (.if_icmp .ge 56, 3) := by decide +kernel
theorem dX8_leastGiving_40 : decode cX8_leastGiving 40 = .ok (.iload_n 3, 1) := by decide +kernel
theorem dX8_leastGiving_41 : decode cX8_leastGiving 41 = .ok (.iload 4, 2) := by decide +kernel
theorem dX8_leastGiving_43 : decode cX8_leastGiving 43 = .ok (.if_icmp .ge 50, 3) := by decide +kernel
theorem dX8_leastGiving_46 : decode cX8_leastGiving 46 = .ok (.iload_n 3, 1) := by decide +kernel
theorem dX8_leastGiving_47 : decode cX8_leastGiving 47 = .ok (.iload 4, 2) := by decide +kernel
theorem dX8_leastGiving_49 : decode cX8_leastGiving 49 = .ok (.iadd, 1) := by decide +kernel
theorem dX8_leastGiving_50 : decode cX8_leastGiving 50 = .ok (.iconst 2, 1) := by decide +kernel
theorem dX8_leastGiving_51 : decode cX8_leastGiving 51 = .ok (.idiv, 1) := by decide +kernel
theorem dX8_leastGiving_52 : decode cX8_leastGiving 52 = .ok (.istore 6, 2) := by decide +kernel
theorem dX8_leastGiving_54 : decode cX8_leastGiving 54 = .ok (.aload_n 0, 1) := by decide +kernel
theorem dX8_leastGiving_55 : decode cX8_leastGiving 55 = .ok (.getfield 39, 3) := by decide +kernel
theorem dX8_leastGiving_58 : decode cX8_leastGiving 58 = .ok (.aload_n 0, 1) := by decide +kernel
theorem dX8_leastGiving_59 : decode cX8_leastGiving 59 = .ok (.getfield 27, 3) := by decide +kernel
theorem dX8_leastGiving_62 : decode cX8_leastGiving 62 = .ok (.iload_n 1, 1) := by decide +kernel
theorem dX8_leastGiving_63 : decode cX8_leastGiving 63 = .ok (.iload_n 2, 1) := by decide +kernel
theorem dX8_leastGiving_64 : decode cX8_leastGiving 64 = .ok (.iload 6, 2) := by decide +kernel
theorem dX8_leastGiving_66 : decode cX8_leastGiving 66 = .ok (.invokevirtual 180, 3) := by decide +kernel
theorem dX8_leastGiving_69 : decode cX8_leastGiving 69 = .ok (.invokevirtual 132, 3) := by decide +kernel
theorem dX8_leastGiving_72 : decode cX8_leastGiving 72 = .ok (.ifCond .eq 11, 3) := by decide +kernel
theorem dX8_leastGiving_75 : decode cX8_leastGiving 75 = .ok (.iload 6, 2) := by decide +kernel
theorem dX8_leastGiving_77 : decode cX8_leastGiving 77 = .ok (.iconst 1, 1) := by decide +kernel
theorem dX8_leastGiving_78 : decode cX8_leastGiving 78 = .ok (.iadd, 1) := by decide +kernel
theorem dX8_leastGiving_79 : decode cX8_leastGiving 79 = .ok (.istore_n 3, 1) := by decide +kernel
theorem dX8_leastGiving_80 : decode cX8_leastGiving 80 = .ok (.goto 7, 3) := by decide +kernel
theorem dX8_leastGiving_83 : decode cX8_leastGiving 83 = .ok (.iload 6, 2) := by decide +kernel
theorem dX8_leastGiving_85 : decode cX8_leastGiving 85 = .ok (.istore 4, 2) := by decide +kernel
theorem dX8_leastGiving_87 : decode cX8_leastGiving 87 = .ok (.iinc 5 1, 3) := by decide +kernel
theorem dX8_leastGiving_90 : decode cX8_leastGiving 90 = .ok (.goto (-57), 3) := by decide +kernel
theorem dX8_leastGiving_93 : decode cX8_leastGiving 93 = .ok (.iload_n 3, 1) := by decide +kernel
theorem dX8_leastGiving_94 : decode cX8_leastGiving 94 = .ok (.ireturn, 1) := by decide +kernel
set_option maxRecDepth 20000 in
theorem ggX8_tell_X8_isWorld : GoodIn wsX8_tell wsX8_isWorld := goodIn_r _ [5] (by decide +kernel) (by decide +kernel)
set_option maxRecDepth 20000 in
theorem gX8_tell_X8_isWorld : GoodIn wsX8_tell (va_wsS RX8 153 yX8_isWorld wsX8_isWorld) := goodIn_app (goodIn_of _ (by decide +kernel)) ggX8_tell_X8_isWorld
theorem dX8_tell_0 : decode cX8_tell 0 = .ok (.iload_n 1, 1) := by decide +kernel
theorem dX8_tell_1 : decode cX8_tell 1 = .ok (.invokestatic 153, 3) := by decide +kernel
theorem dX8_tell_4 : decode cX8_tell 4 = .ok (.ifCond .eq 14, 3) := by decide +kernel
theorem dX8_tell_7 : decode cX8_tell 7 = .ok (.iload_n 2, 1) := by decide +kernel
theorem dX8_tell_8 : decode cX8_tell 8 = .ok (.ifCond .lt 10, 3) := by decide +kernel
theorem dX8_tell_11 : decode cX8_tell 11 = .ok (.iload_n 2, 1) := by decide +kernel
theorem dX8_tell_12 : decode cX8_tell 12 = .ok (.sipush 1000, 3) := by decide +kernel
theorem dX8_tell_15 : decode cX8_tell 15 = .ok (.if_icmp .le 5, 3) := by decide +kernel
theorem dX8_tell_18 : decode cX8_tell 18 = .ok (.iconst (-1), 1) := by decide +kernel
theorem dX8_tell_19 : decode cX8_tell 19 = .ok (.ireturn, 1) := by decide +kernel
theorem dX8_tell_20 : decode cX8_tell 20 = .ok (.aload_n 0, 1) := by decide +kernel
theorem dX8_tell_21 : decode cX8_tell 21 = .ok (.getfield 46, 3) := by decide +kernel
theorem dX8_tell_24 : decode cX8_tell 24 = .ok (.getfield 199, 3) := by decide +kernel
theorem dX8_tell_27 : decode cX8_tell 27 = .ok (.iload_n 1, 1) := by decide +kernel
theorem dX8_tell_28 : decode cX8_tell 28 = .ok (.iaload, 1) := by decide +kernel
theorem dX8_tell_29 : decode cX8_tell 29 = .ok (.istore_n 3, 1) := by decide +kernel
theorem dX8_tell_30 : decode cX8_tell 30 = .ok (.aload_n 0, 1) := by decide +kernel
theorem dX8_tell_31 : decode cX8_tell 31 = .ok (.getfield 46, 3) := by decide +kernel
theorem dX8_tell_34 : decode cX8_tell 34 = .ok (.getfield 199, 3) := by decide +kernel
theorem dX8_tell_37 : decode cX8_tell 37 = .ok (.iload_n 1, 1) := by decide +kernel
theorem dX8_tell_38 : decode cX8_tell 38 = .ok (.iload_n 2, 1) := by decide +kernel
theorem dX8_tell_39 : decode cX8_tell 39 = .ok (.iastore, 1) := by decide +kernel
theorem dX8_tell_40 : decode cX8_tell 40 = .ok (.iload_n 3, 1) := by decide +kernel
theorem dX8_tell_41 : decode cX8_tell 41 = .ok (.ireturn, 1) := by decide +kernel
set_option maxRecDepth 20000 in
theorem ggX8_check_X7_isWhole : GoodIn wsX8_check wsX7_isWhole := goodIn_r _ [8, 9, 10, 11, 7, 12, 13, 14, 15, 16, 53] (by decide +kernel) (by decide +kernel)
set_option maxRecDepth 20000 in
theorem gX8_check_X7_isWhole : GoodIn wsX8_check (wsV RX8 203 RX7 yX7_isWhole wsX7_isWhole) := goodIn_app (goodIn_of _ (by decide +kernel)) ggX8_check_X7_isWhole
set_option maxRecDepth 20000 in
theorem ggX8_check_X7_keeps : GoodIn wsX8_check wsX7_keeps := goodIn_r _ [20, 9, 10, 11, 7, 12, 13, 14, 15, 16, 21, 22, 23, 24, 25, 26, 27, 28, 29, 30, 31, 32, 33, 34, 35, 36, 48, 49, 50, 51, 52, 53] (by decide +kernel) (by decide +kernel)
set_option maxRecDepth 20000 in
theorem gX8_check_X7_keeps : GoodIn wsX8_check (wsV RX8 206 RX7 yX7_keeps wsX7_keeps) := goodIn_app (goodIn_of _ (by decide +kernel)) ggX8_check_X7_keeps
theorem dX8_check_0 : decode cX8_check 0 = .ok (.aload_n 0, 1) := by decide +kernel
theorem dX8_check_1 : decode cX8_check 1 = .ok (.getfield 46, 3) := by decide +kernel
theorem dX8_check_4 : decode cX8_check 4 = .ok (.invokevirtual 203, 3) := by decide +kernel
theorem dX8_check_7 : decode cX8_check 7 = .ok (.ifCond .ne 5, 3) := by decide +kernel
theorem dX8_check_10 : decode cX8_check 10 = .ok (.iconst (-1), 1) := by decide +kernel
theorem dX8_check_11 : decode cX8_check 11 = .ok (.ireturn, 1) := by decide +kernel
theorem dX8_check_12 : decode cX8_check 12 = .ok (.iconst 0, 1) := by decide +kernel
theorem dX8_check_13 : decode cX8_check 13 = .ok (.istore_n 1, 1) := by decide +kernel
theorem dX8_check_14 : decode cX8_check 14 = .ok (.iconst 0, 1) := by decide +kernel
theorem dX8_check_15 : decode cX8_check 15 = .ok (.istore_n 2, 1) := by decide +kernel
theorem dX8_check_16 : decode cX8_check 16 = .ok (.iload_n 2, 1) := by decide +kernel
theorem dX8_check_17 : decode cX8_check 17 = .ok (.aload_n 0, 1) := by decide +kernel
theorem dX8_check_18 : decode cX8_check 18 = .ok (.getfield 32, 3) := by decide +kernel
theorem dX8_check_21 : decode cX8_check 21 = .ok (.if_icmp .ge 41, 3) := by decide +kernel
theorem dX8_check_24 : decode cX8_check 24 = .ok (.aload_n 0, 1) := by decide +kernel
theorem dX8_check_25 : decode cX8_check 25 = .ok (.getfield 27, 3) := by decide +kernel
theorem dX8_check_28 : decode cX8_check 28 = .ok (.iload_n 2, 1) := by decide +kernel
theorem dX8_check_29 : decode cX8_check 29 = .ok (.aaload, 1) := by decide +kernel
theorem dX8_check_30 : decode cX8_check 30 = .ok (.getfield 115, 3) := by decide +kernel
theorem dX8_check_33 : decode cX8_check 33 = .ok (.iconst 1, 1) := by decide +kernel
theorem dX8_check_34 : decode cX8_check 34 = .ok (.if_icmp .ne 22, 3) := by decide +kernel
theorem dX8_check_37 : decode cX8_check 37 = .ok (.aload_n 0, 1) := by decide +kernel
theorem dX8_check_38 : decode cX8_check 38 = .ok (.getfield 46, 3) := by decide +kernel
theorem dX8_check_41 : decode cX8_check 41 = .ok (.aload_n 0, 1) := by decide +kernel
theorem dX8_check_42 : decode cX8_check 42 = .ok (.getfield 27, 3) := by decide +kernel
theorem dX8_check_45 : decode cX8_check 45 = .ok (.iload_n 2, 1) := by decide +kernel
theorem dX8_check_46 : decode cX8_check 46 = .ok (.aaload, 1) := by decide +kernel
theorem dX8_check_47 : decode cX8_check 47 = .ok (.invokevirtual 206, 3) := by decide +kernel
theorem dX8_check_50 : decode cX8_check 50 = .ok (.ifCond .ne 6, 3) := by decide +kernel
theorem dX8_check_53 : decode cX8_check 53 = .ok (.iinc 1 1, 3) := by decide +kernel
theorem dX8_check_56 : decode cX8_check 56 = .ok (.iinc 2 1, 3) := by decide +kernel
theorem dX8_check_59 : decode cX8_check 59 = .ok (.goto (-43), 3) := by decide +kernel
theorem dX8_check_62 : decode cX8_check 62 = .ok (.iload_n 1, 1) := by decide +kernel
theorem dX8_check_63 : decode cX8_check 63 = .ok (.ireturn, 1) := by decide +kernel
set_option maxRecDepth 20000 in
theorem ggX8_pull_X8_isThing : GoodIn wsX8_pull wsX8_isThing := goodIn_r _ [7] (by decide +kernel) (by decide +kernel)
set_option maxRecDepth 20000 in
theorem gX8_pull_X8_isThing : GoodIn wsX8_pull (va_wsS RX8 137 yX8_isThing wsX8_isThing) := goodIn_app (goodIn_of _ (by decide +kernel)) ggX8_pull_X8_isThing
set_option maxRecDepth 20000 in
theorem ggX8_pull_X8_isWorld : GoodIn wsX8_pull wsX8_isWorld := goodIn_r _ [10] (by decide +kernel) (by decide +kernel)
set_option maxRecDepth 20000 in
theorem gX8_pull_X8_isWorld : GoodIn wsX8_pull (va_wsS RX8 153 yX8_isWorld wsX8_isWorld) := goodIn_app (goodIn_of _ (by decide +kernel)) ggX8_pull_X8_isWorld
set_option maxRecDepth 20000 in
theorem ggX8_pull_X8_isZeroOrOne : GoodIn wsX8_pull wsX8_isZeroOrOne := goodIn_r _ [13] (by decide +kernel) (by decide +kernel)
set_option maxRecDepth 20000 in
theorem gX8_pull_X8_isZeroOrOne : GoodIn wsX8_pull (va_wsS RX8 118 yX8_isZeroOrOne wsX8_isZeroOrOne) := goodIn_app (goodIn_of _ (by decide +kernel)) ggX8_pull_X8_isZeroOrOne
set_option maxRecDepth 20000 in
theorem ggX8_pull_X1_forget : GoodIn wsX8_pull wsX1_forget := goodIn_r _ [18, 19, 20, 60, 61] (by decide +kernel) (by decide +kernel)
set_option maxRecDepth 20000 in
theorem gX8_pull_X1_forget : GoodIn wsX8_pull (wsV RX8 209 RX1 yX1_forget wsX1_forget) := goodIn_app (goodIn_of _ (by decide +kernel)) ggX8_pull_X1_forget
set_option maxRecDepth 20000 in
theorem ggX8_pull_X7_isWhole : GoodIn wsX8_pull wsX7_isWhole := goodIn_r _ [25, 26, 27, 28, 24, 29, 30, 31, 6, 32, 62] (by decide +kernel) (by decide +kernel)
set_option maxRecDepth 20000 in
theorem gX8_pull_X7_isWhole : GoodIn wsX8_pull (wsV RX8 203 RX7 yX7_isWhole wsX7_isWhole) := goodIn_app (goodIn_of _ (by decide +kernel)) ggX8_pull_X7_isWhole
set_option maxRecDepth 20000 in
theorem ggX8_pull_X7_chance : GoodIn wsX8_pull wsX7_chance := goodIn_r _ [29, 30, 31, 6, 32, 62] (by decide +kernel) (by decide +kernel)
set_option maxRecDepth 20000 in
theorem gX8_pull_X7_chance : GoodIn wsX8_pull (wsV RX8 212 RX7 yX7_chance wsX7_chance) := goodIn_app (goodIn_of _ (by decide +kernel)) ggX8_pull_X7_chance
set_option maxRecDepth 20000 in
theorem ggX8_pull_X1_set : GoodIn wsX8_pull wsX1_set := goodIn_r _ [37, 19, 20, 60, 61] (by decide +kernel) (by decide +kernel)
set_option maxRecDepth 20000 in
theorem gX8_pull_X1_set : GoodIn wsX8_pull (wsV RX8 215 RX1 yX1_set wsX1_set) := goodIn_app (goodIn_of _ (by decide +kernel)) ggX8_pull_X1_set
set_option maxRecDepth 20000 in
theorem ggX8_pull_X1_inLeastTerms : GoodIn wsX8_pull wsX1_inLeastTerms := goodIn_r _ [41, 19, 42, 43, 44, 45, 20, 46, 47, 6, 48, 60, 61] (by decide +kernel) (by decide +kernel)
set_option maxRecDepth 20000 in
theorem gX8_pull_X1_inLeastTerms : GoodIn wsX8_pull (wsV RX8 146 RX1 yX1_inLeastTerms wsX1_inLeastTerms) := goodIn_app (goodIn_of _ (by decide +kernel)) ggX8_pull_X1_inLeastTerms
theorem dX8_pull_0 : decode cX8_pull 0 = .ok (.iload_n 1, 1) := by decide +kernel
theorem dX8_pull_1 : decode cX8_pull 1 = .ok (.invokestatic 137, 3) := by decide +kernel
theorem dX8_pull_4 : decode cX8_pull 4 = .ok (.ifCond .eq 17, 3) := by decide +kernel
theorem dX8_pull_7 : decode cX8_pull 7 = .ok (.iload_n 2, 1) := by decide +kernel
theorem dX8_pull_8 : decode cX8_pull 8 = .ok (.invokestatic 153, 3) := by decide +kernel
theorem dX8_pull_11 : decode cX8_pull 11 = .ok (.ifCond .eq 10, 3) := by decide +kernel
theorem dX8_pull_14 : decode cX8_pull 14 = .ok (.iload_n 3, 1) := by decide +kernel
theorem dX8_pull_15 : decode cX8_pull 15 = .ok (.invokestatic 118, 3) := by decide +kernel
theorem dX8_pull_18 : decode cX8_pull 18 = .ok (.ifCond .ne 7, 3) := by decide +kernel
theorem dX8_pull_21 : decode cX8_pull 21 = .ok (.ldc2_w 140, 3) := by decide +kernel
theorem dX8_pull_24 : decode cX8_pull 24 = .ok (.lreturn, 1) := by decide +kernel
theorem dX8_pull_25 : decode cX8_pull 25 = .ok (.aload_n 0, 1) := by decide +kernel
theorem dX8_pull_26 : decode cX8_pull 26 = .ok (.getfield 53, 3) := by decide +kernel
theorem dX8_pull_29 : decode cX8_pull 29 = .ok (.invokevirtual 209, 3) := by decide +kernel
theorem dX8_pull_32 : decode cX8_pull 32 = .ok (.aload_n 0, 1) := by decide +kernel
theorem dX8_pull_33 : decode cX8_pull 33 = .ok (.getfield 46, 3) := by decide +kernel
theorem dX8_pull_36 : decode cX8_pull 36 = .ok (.invokevirtual 203, 3) := by decide +kernel
theorem dX8_pull_39 : decode cX8_pull 39 = .ok (.ifCond .eq 32, 3) := by decide +kernel
theorem dX8_pull_42 : decode cX8_pull 42 = .ok (.aload_n 0, 1) := by decide +kernel
theorem dX8_pull_43 : decode cX8_pull 43 = .ok (.getfield 53, 3) := by decide +kernel
theorem dX8_pull_46 : decode cX8_pull 46 = .ok (.aload_n 0, 1) := by decide +kernel
theorem dX8_pull_47 : decode cX8_pull 47 = .ok (.getfield 46, 3) := by decide +kernel
theorem dX8_pull_50 : decode cX8_pull 50 = .ok (.iload_n 1, 1) := by decide +kernel
theorem dX8_pull_51 : decode cX8_pull 51 = .ok (.iconst 1, 1) := by decide +kernel
theorem dX8_pull_52 : decode cX8_pull 52 = .ok (.iload_n 2, 1) := by decide +kernel
theorem dX8_pull_53 : decode cX8_pull 53 = .ok (.ishl, 1) := by decide +kernel
theorem dX8_pull_54 : decode cX8_pull 54 = .ok (.iand, 1) := by decide +kernel
theorem dX8_pull_55 : decode cX8_pull 55 = .ok (.invokevirtual 212, 3) := by decide +kernel
theorem dX8_pull_58 : decode cX8_pull 58 = .ok (.i2l, 1) := by decide +kernel
theorem dX8_pull_59 : decode cX8_pull 59 = .ok (.aload_n 0, 1) := by decide +kernel
theorem dX8_pull_60 : decode cX8_pull 60 = .ok (.getfield 46, 3) := by decide +kernel
theorem dX8_pull_63 : decode cX8_pull 63 = .ok (.iload_n 1, 1) := by decide +kernel
theorem dX8_pull_64 : decode cX8_pull 64 = .ok (.invokevirtual 212, 3) := by decide +kernel
theorem dX8_pull_67 : decode cX8_pull 67 = .ok (.i2l, 1) := by decide +kernel
theorem dX8_pull_68 : decode cX8_pull 68 = .ok (.invokevirtual 215, 3) := by decide +kernel
theorem dX8_pull_71 : decode cX8_pull 71 = .ok (.aload_n 0, 1) := by decide +kernel
theorem dX8_pull_72 : decode cX8_pull 72 = .ok (.getfield 53, 3) := by decide +kernel
theorem dX8_pull_75 : decode cX8_pull 75 = .ok (.iload_n 3, 1) := by decide +kernel
theorem dX8_pull_76 : decode cX8_pull 76 = .ok (.invokevirtual 146, 3) := by decide +kernel
theorem dX8_pull_79 : decode cX8_pull 79 = .ok (.lreturn, 1) := by decide +kernel
set_option maxRecDepth 20000 in
theorem ggX8_count_X8_onSet : GoodIn wsX8_count wsX8_onSet := goodIn_r _ [8, 1, 9, 25, 26, 27, 28, 29, 30, 31, 32, 33, 34, 35, 38, 39, 40, 41, 42] (by decide +kernel) (by decide +kernel)
set_option maxRecDepth 20000 in
theorem gX8_count_X8_onSet : GoodIn wsX8_count (wsV RX8 173 RX8 yX8_onSet wsX8_onSet) := goodIn_app (goodIn_of _ (by decide +kernel)) ggX8_count_X8_onSet
set_option maxRecDepth 20000 in
theorem ggX8_count_J6_bitCount_0f7a4 : GoodIn wsX8_count wsJ6_bitCount_0f7a4 := goodIn_r _ [13, 14, 15, 16] (by decide +kernel) (by decide +kernel)
set_option maxRecDepth 20000 in
theorem gX8_count_J6_bitCount_0f7a4 : GoodIn wsX8_count (va_wsS RX8 167 yJ6_bitCount_0f7a4 wsJ6_bitCount_0f7a4) := goodIn_app (goodIn_of _ (by decide +kernel)) ggX8_count_J6_bitCount_0f7a4
set_option maxRecDepth 20000 in
theorem ggX8_count_X7_chance : GoodIn wsX8_count wsX7_chance := goodIn_r _ [21, 22, 23, 7, 24, 43] (by decide +kernel) (by decide +kernel)
set_option maxRecDepth 20000 in
theorem gX8_count_X7_chance : GoodIn wsX8_count (wsV RX8 212 RX7 yX7_chance wsX7_chance) := goodIn_app (goodIn_of _ (by decide +kernel)) ggX8_count_X7_chance
theorem dX8_count_0 : decode cX8_count 0 = .ok (.iload_n 1, 1) := by decide +kernel
theorem dX8_count_1 : decode cX8_count 1 = .ok (.tableswitch 63 0 3 #[31, 36, 44, 52], 31) := by decide +kernel
theorem dX8_count_32 : decode cX8_count 32 = .ok (.aload_n 0, 1) := by decide +kernel
theorem dX8_count_33 : decode cX8_count 33 = .ok (.getfield 32, 3) := by decide +kernel
theorem dX8_count_36 : decode cX8_count 36 = .ok (.ireturn, 1) := by decide +kernel
theorem dX8_count_37 : decode cX8_count 37 = .ok (.aload_n 0, 1) := by decide +kernel
theorem dX8_count_38 : decode cX8_count 38 = .ok (.invokevirtual 173, 3) := by decide +kernel
theorem dX8_count_41 : decode cX8_count 41 = .ok (.invokestatic 167, 3) := by decide +kernel
theorem dX8_count_44 : decode cX8_count 44 = .ok (.ireturn, 1) := by decide +kernel
theorem dX8_count_45 : decode cX8_count 45 = .ok (.aload_n 0, 1) := by decide +kernel
theorem dX8_count_46 : decode cX8_count 46 = .ok (.getfield 10, 3) := by decide +kernel
theorem dX8_count_49 : decode cX8_count 49 = .ok (.getfield 69, 3) := by decide +kernel
theorem dX8_count_52 : decode cX8_count 52 = .ok (.ireturn, 1) := by decide +kernel
theorem dX8_count_53 : decode cX8_count 53 = .ok (.aload_n 0, 1) := by decide +kernel
theorem dX8_count_54 : decode cX8_count 54 = .ok (.getfield 46, 3) := by decide +kernel
theorem dX8_count_57 : decode cX8_count 57 = .ok (.sipush 255, 3) := by decide +kernel
theorem dX8_count_60 : decode cX8_count 60 = .ok (.invokevirtual 212, 3) := by decide +kernel
theorem dX8_count_63 : decode cX8_count 63 = .ok (.ireturn, 1) := by decide +kernel
theorem dX8_count_64 : decode cX8_count 64 = .ok (.iconst (-1), 1) := by decide +kernel
theorem dX8_count_65 : decode cX8_count 65 = .ok (.ireturn, 1) := by decide +kernel
theorem dX8_onSet_0 : decode cX8_onSet 0 = .ok (.iconst 0, 1) := by decide +kernel
theorem dX8_onSet_1 : decode cX8_onSet 1 = .ok (.istore_n 1, 1) := by decide +kernel
theorem dX8_onSet_2 : decode cX8_onSet 2 = .ok (.iconst 0, 1) := by decide +kernel
theorem dX8_onSet_3 : decode cX8_onSet 3 = .ok (.istore_n 2, 1) := by decide +kernel
theorem dX8_onSet_4 : decode cX8_onSet 4 = .ok (.iload_n 2, 1) := by decide +kernel
theorem dX8_onSet_5 : decode cX8_onSet 5 = .ok (.aload_n 0, 1) := by decide +kernel
theorem dX8_onSet_6 : decode cX8_onSet 6 = .ok (.getfield 32, 3) := by decide +kernel
theorem dX8_onSet_9 : decode cX8_onSet 9 = .ok (.if_icmp .ge 28, 3) := by decide +kernel
theorem dX8_onSet_12 : decode cX8_onSet 12 = .ok (.aload_n 0, 1) := by decide +kernel
theorem dX8_onSet_13 : decode cX8_onSet 13 = .ok (.getfield 27, 3) := by decide +kernel
theorem dX8_onSet_16 : decode cX8_onSet 16 = .ok (.iload_n 2, 1) := by decide +kernel
theorem dX8_onSet_17 : decode cX8_onSet 17 = .ok (.aaload, 1) := by decide +kernel
theorem dX8_onSet_18 : decode cX8_onSet 18 = .ok (.getfield 115, 3) := by decide +kernel
theorem dX8_onSet_21 : decode cX8_onSet 21 = .ok (.iconst 1, 1) := by decide +kernel
theorem dX8_onSet_22 : decode cX8_onSet 22 = .ok (.if_icmp .ne 9, 3) := by decide +kernel
theorem dX8_onSet_25 : decode cX8_onSet 25 = .ok (.iload_n 1, 1) := by decide +kernel
theorem dX8_onSet_26 : decode cX8_onSet 26 = .ok (.iconst 1, 1) := by decide +kernel
theorem dX8_onSet_27 : decode cX8_onSet 27 = .ok (.iload_n 2, 1) := by decide +kernel
theorem dX8_onSet_28 : decode cX8_onSet 28 = .ok (.ishl, 1) := by decide +kernel
theorem dX8_onSet_29 : decode cX8_onSet 29 = .ok (.ior, 1) := by decide +kernel
theorem dX8_onSet_30 : decode cX8_onSet 30 = .ok (.istore_n 1, 1) := by decide +kernel
theorem dX8_onSet_31 : decode cX8_onSet 31 = .ok (.iinc 2 1, 3) := by decide +kernel
theorem dX8_onSet_34 : decode cX8_onSet 34 = .ok (.goto (-30), 3) := by decide +kernel
theorem dX8_onSet_37 : decode cX8_onSet 37 = .ok (.iload_n 1, 1) := by decide +kernel
theorem dX8_onSet_38 : decode cX8_onSet 38 = .ok (.ireturn, 1) := by decide +kernel
set_option maxRecDepth 20000 in
theorem ggX8_rowsByOn_X8_onSet : GoodIn wsX8_rowsByOn wsX8_onSet := goodIn_r _ [7, 8, 2, 106, 107, 108, 109, 110, 111, 112, 113, 114, 115, 116, 117, 118, 119, 120, 121] (by decide +kernel) (by decide +kernel)
set_option maxRecDepth 20000 in
theorem gX8_rowsByOn_X8_onSet : GoodIn wsX8_rowsByOn (wsV RX8 173 RX8 yX8_onSet wsX8_onSet) := goodIn_app (goodIn_of _ (by decide +kernel)) ggX8_rowsByOn_X8_onSet
set_option maxRecDepth 20000 in
theorem ggX8_rowsByOn_X2_rowsBy : GoodIn wsX8_rowsByOn wsX2_rowsBy := goodIn_r _ [13, 14, 15, 16, 17, 6, 18, 19, 20, 21, 22, 23, 24, 25, 26, 27, 28, 29, 30, 31, 32, 33, 34, 35, 36, 37, 38, 39, 40, 41, 42, 43, 44, 45, 46, 47, 48, 49, 50, 51, 52, 53, 54, 55, 56, 57, 58, 59, 60, 61, 62, 63, 64, 65, 66, 67, 68, 69, 70, 71, 72, 73, 74, 75, 76, 77, 78, 79, 80, 81, 82, 83, 84, 85, 86, 87, 88, 89, 90, 91, 92, 93, 94, 95, 96, 97, 98, 99, 100, 101, 102, 103, 104, 105, 122, 123, 124, 125, 126, 127, 128, 129, 130, 131, 132, 133, 134, 117, 118, 119, 120, 121] (by decide +kernel) (by decide +kernel)
set_option maxRecDepth 20000 in
theorem gX8_rowsByOn_X2_rowsBy : GoodIn wsX8_rowsByOn (wsV RX8 180 RX2 yX2_rowsBy wsX2_rowsBy) := goodIn_app (goodIn_of _ (by decide +kernel)) ggX8_rowsByOn_X2_rowsBy
theorem dX8_rowsByOn_0 : decode cX8_rowsByOn 0 = .ok (.aload_n 0, 1) := by decide +kernel
theorem dX8_rowsByOn_1 : decode cX8_rowsByOn 1 = .ok (.getfield 39, 3) := by decide +kernel
theorem dX8_rowsByOn_4 : decode cX8_rowsByOn 4 = .ok (.aload_n 0, 1) := by decide +kernel
theorem dX8_rowsByOn_5 : decode cX8_rowsByOn 5 = .ok (.getfield 27, 3) := by decide +kernel
theorem dX8_rowsByOn_8 : decode cX8_rowsByOn 8 = .ok (.aload_n 0, 1) := by decide +kernel
theorem dX8_rowsByOn_9 : decode cX8_rowsByOn 9 = .ok (.invokevirtual 173, 3) := by decide +kernel
theorem dX8_rowsByOn_12 : decode cX8_rowsByOn 12 = .ok (.iconst 0, 1) := by decide +kernel
theorem dX8_rowsByOn_13 : decode cX8_rowsByOn 13 = .ok (.iconst 0, 1) := by decide +kernel
theorem dX8_rowsByOn_14 : decode cX8_rowsByOn 14 = .ok (.invokevirtual 180, 3) := by decide +kernel
theorem dX8_rowsByOn_17 : decode cX8_rowsByOn 17 = .ok (.areturn, 1) := by decide +kernel
theorem dX8_isSaying_0 : decode cX8_isSaying 0 = .ok (.iload_n 1, 1) := by decide +kernel
theorem dX8_isSaying_1 : decode cX8_isSaying 1 = .ok (.ifCond .lt 15, 3) := by decide +kernel
theorem dX8_isSaying_4 : decode cX8_isSaying 4 = .ok (.iload_n 1, 1) := by decide +kernel
theorem dX8_isSaying_5 : decode cX8_isSaying 5 = .ok (.aload_n 0, 1) := by decide +kernel
theorem dX8_isSaying_6 : decode cX8_isSaying 6 = .ok (.getfield 32, 3) := by decide +kernel
theorem dX8_isSaying_9 : decode cX8_isSaying 9 = .ok (.if_icmp .ge 7, 3) := by decide +kernel
theorem dX8_isSaying_12 : decode cX8_isSaying 12 = .ok (.iconst 1, 1) := by decide +kernel
theorem dX8_isSaying_13 : decode cX8_isSaying 13 = .ok (.goto 4, 3) := by decide +kernel
theorem dX8_isSaying_16 : decode cX8_isSaying 16 = .ok (.iconst 0, 1) := by decide +kernel
theorem dX8_isSaying_17 : decode cX8_isSaying 17 = .ok (.ireturn, 1) := by decide +kernel
theorem dX8_isThing_0 : decode cX8_isThing 0 = .ok (.iload_n 0, 1) := by decide +kernel
theorem dX8_isThing_1 : decode cX8_isThing 1 = .ok (.ifCond .lt 14, 3) := by decide +kernel
theorem dX8_isThing_4 : decode cX8_isThing 4 = .ok (.iload_n 0, 1) := by decide +kernel
theorem dX8_isThing_5 : decode cX8_isThing 5 = .ok (.sipush 255, 3) := by decide +kernel
theorem dX8_isThing_8 : decode cX8_isThing 8 = .ok (.if_icmp .gt 7, 3) := by decide +kernel
theorem dX8_isThing_11 : decode cX8_isThing 11 = .ok (.iconst 1, 1) := by decide +kernel
theorem dX8_isThing_12 : decode cX8_isThing 12 = .ok (.goto 4, 3) := by decide +kernel
theorem dX8_isThing_15 : decode cX8_isThing 15 = .ok (.iconst 0, 1) := by decide +kernel
theorem dX8_isThing_16 : decode cX8_isThing 16 = .ok (.ireturn, 1) := by decide +kernel
theorem dX8_isWorld_0 : decode cX8_isWorld 0 = .ok (.iload_n 0, 1) := by decide +kernel
theorem dX8_isWorld_1 : decode cX8_isWorld 1 = .ok (.ifCond .lt 13, 3) := by decide +kernel
theorem dX8_isWorld_4 : decode cX8_isWorld 4 = .ok (.iload_n 0, 1) := by decide +kernel
theorem dX8_isWorld_5 : decode cX8_isWorld 5 = .ok (.bipush 8, 2) := by decide +kernel
theorem dX8_isWorld_7 : decode cX8_isWorld 7 = .ok (.if_icmp .ge 7, 3) := by decide +kernel
theorem dX8_isWorld_10 : decode cX8_isWorld 10 = .ok (.iconst 1, 1) := by decide +kernel
theorem dX8_isWorld_11 : decode cX8_isWorld 11 = .ok (.goto 4, 3) := by decide +kernel
