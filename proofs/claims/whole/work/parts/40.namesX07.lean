theorem dX9_never_32 : decode cX9_never 32 = .ok (.iload_n 1, 1) := by decide +kernel
theorem dX9_never_33 : decode cX9_never 33 = .ok (.aload_n 0, 1) := by decide +kernel
theorem dX9_never_34 : decode cX9_never 34 = .ok (.getfield 26, 3) := by decide +kernel
theorem dX9_never_37 : decode cX9_never 37 = .ok (.bipush 8, 2) := by decide +kernel
theorem dX9_never_39 : decode cX9_never 39 = .ok (.iload_n 2, 1) := by decide +kernel
theorem dX9_never_40 : decode cX9_never 40 = .ok (.imul, 1) := by decide +kernel
theorem dX9_never_41 : decode cX9_never 41 = .ok (.iload_n 3, 1) := by decide +kernel
theorem dX9_never_42 : decode cX9_never 42 = .ok (.iadd, 1) := by decide +kernel
theorem dX9_never_43 : decode cX9_never 43 = .ok (.laload, 1) := by decide +kernel
theorem dX9_never_44 : decode cX9_never 44 = .ok (.lconst 0, 1) := by decide +kernel
theorem dX9_never_45 : decode cX9_never 45 = .ok (.lcmp, 1) := by decide +kernel
theorem dX9_never_46 : decode cX9_never 46 = .ok (.ifCond .le 11, 3) := by decide +kernel
theorem dX9_never_49 : decode cX9_never 49 = .ok (.iconst 1, 1) := by decide +kernel
theorem dX9_never_50 : decode cX9_never 50 = .ok (.iload_n 3, 1) := by decide +kernel
theorem dX9_never_51 : decode cX9_never 51 = .ok (.ishl, 1) := by decide +kernel
theorem dX9_never_52 : decode cX9_never 52 = .ok (.iconst (-1), 1) := by decide +kernel
theorem dX9_never_53 : decode cX9_never 53 = .ok (.ixor, 1) := by decide +kernel
theorem dX9_never_54 : decode cX9_never 54 = .ok (.goto 6, 3) := by decide +kernel
theorem dX9_never_57 : decode cX9_never 57 = .ok (.sipush 255, 3) := by decide +kernel
theorem dX9_never_60 : decode cX9_never 60 = .ok (.iand, 1) := by decide +kernel
theorem dX9_never_61 : decode cX9_never 61 = .ok (.istore_n 1, 1) := by decide +kernel
theorem dX9_never_62 : decode cX9_never 62 = .ok (.iinc 3 1, 3) := by decide +kernel
theorem dX9_never_65 : decode cX9_never 65 = .ok (.goto (-39), 3) := by decide +kernel
theorem dX9_never_68 : decode cX9_never 68 = .ok (.iinc 2 1, 3) := by decide +kernel
theorem dX9_never_71 : decode cX9_never 71 = .ok (.goto (-55), 3) := by decide +kernel
theorem dX9_never_74 : decode cX9_never 74 = .ok (.iload_n 1, 1) := by decide +kernel
theorem dX9_never_75 : decode cX9_never 75 = .ok (.ireturn, 1) := by decide +kernel
set_option maxRecDepth 20000 in
theorem ggX9_quarrel_X9_isBit : GoodIn wsX9_quarrel wsX9_isBit := goodIn_r _ [6] rfl (by decide +kernel)
set_option maxRecDepth 20000 in
theorem gX9_quarrel_X9_isBit : GoodIn wsX9_quarrel (va_wsS RX9 127 yX9_isBit wsX9_isBit) := goodIn_app (goodIn_of _ (by decide +kernel)) ggX9_quarrel_X9_isBit
set_option maxRecDepth 20000 in
theorem ggX9_quarrel_X9_ons : GoodIn wsX9_quarrel wsX9_ons := goodIn_r _ [10, 11, 12, 47, 48, 49, 50, 51, 52, 53, 54, 55, 56, 57, 58, 59, 60, 61, 62, 63, 64, 65, 66, 67, 68, 69, 70, 71, 72, 73, 74] rfl (by decide +kernel)
set_option maxRecDepth 20000 in
theorem gX9_quarrel_X9_ons : GoodIn wsX9_quarrel (wsV RX9 163 RX9 yX9_ons wsX9_ons) := goodIn_app (goodIn_of _ (by decide +kernel)) ggX9_quarrel_X9_ons
set_option maxRecDepth 20000 in
theorem ggX9_quarrel_X9_ones : GoodIn wsX9_quarrel wsX9_ones := goodIn_r _ [15] rfl (by decide +kernel)
set_option maxRecDepth 20000 in
theorem gX9_quarrel_X9_ones : GoodIn wsX9_quarrel (va_wsS RX9 156 yX9_ones wsX9_ones) := goodIn_app (goodIn_of _ (by decide +kernel)) ggX9_quarrel_X9_ones
set_option maxRecDepth 20000 in
theorem ggX9_quarrel_X9_loads : GoodIn wsX9_quarrel wsX9_loads := goodIn_r _ [19, 20, 21, 2, 22, 23, 11, 24, 13, 14, 5, 15, 25, 26, 27, 28, 29, 30, 31, 32, 33, 34, 35, 36, 37, 12, 38, 39, 40, 41, 42, 43, 44, 45, 46, 47, 48, 49, 50, 51, 52, 53, 54, 55, 56, 57, 58, 59, 60, 61, 62, 63, 64, 65, 66, 67, 68, 69, 70, 71, 72, 73, 74] rfl (by decide +kernel)
set_option maxRecDepth 20000 in
theorem gX9_quarrel_X9_loads : GoodIn wsX9_quarrel (wsV RX9 166 RX9 yX9_loads wsX9_loads) := goodIn_app (goodIn_of _ (by decide +kernel)) ggX9_quarrel_X9_loads
theorem dX9_quarrel_0 : decode cX9_quarrel 0 = .ok (.aload_n 0, 1) := by decide +kernel
theorem dX9_quarrel_1 : decode cX9_quarrel 1 = .ok (.iconst 0, 1) := by decide +kernel
theorem dX9_quarrel_2 : decode cX9_quarrel 2 = .ok (.putfield 45, 3) := by decide +kernel
theorem dX9_quarrel_5 : decode cX9_quarrel 5 = .ok (.iload_n 1, 1) := by decide +kernel
theorem dX9_quarrel_6 : decode cX9_quarrel 6 = .ok (.invokestatic 127, 3) := by decide +kernel
theorem dX9_quarrel_9 : decode cX9_quarrel 9 = .ok (.ifCond .ne 5, 3) := by decide +kernel
theorem dX9_quarrel_12 : decode cX9_quarrel 12 = .ok (.iconst (-1), 1) := by decide +kernel
theorem dX9_quarrel_13 : decode cX9_quarrel 13 = .ok (.ireturn, 1) := by decide +kernel
theorem dX9_quarrel_14 : decode cX9_quarrel 14 = .ok (.aload_n 0, 1) := by decide +kernel
theorem dX9_quarrel_15 : decode cX9_quarrel 15 = .ok (.iconst 0, 1) := by decide +kernel
theorem dX9_quarrel_16 : decode cX9_quarrel 16 = .ok (.putfield 130, 3) := by decide +kernel
theorem dX9_quarrel_19 : decode cX9_quarrel 19 = .ok (.aload_n 0, 1) := by decide +kernel
theorem dX9_quarrel_20 : decode cX9_quarrel 20 = .ok (.invokevirtual 163, 3) := by decide +kernel
theorem dX9_quarrel_23 : decode cX9_quarrel 23 = .ok (.istore_n 2, 1) := by decide +kernel
theorem dX9_quarrel_24 : decode cX9_quarrel 24 = .ok (.bipush (-9), 2) := by decide +kernel
theorem dX9_quarrel_26 : decode cX9_quarrel 26 = .ok (.istore_n 3, 1) := by decide +kernel
theorem dX9_quarrel_27 : decode cX9_quarrel 27 = .ok (.iconst 0, 1) := by decide +kernel
theorem dX9_quarrel_28 : decode cX9_quarrel 28 = .ok (.istore 4, 2) := by decide +kernel
theorem dX9_quarrel_30 : decode cX9_quarrel 30 = .ok (.iload 4, 2) := by decide +kernel
theorem dX9_quarrel_32 : decode cX9_quarrel 32 = .ok (.bipush 16, 2) := by decide +kernel
theorem dX9_quarrel_34 : decode cX9_quarrel 34 = .ok (.if_icmp .ge 64, 3) := by decide +kernel
theorem dX9_quarrel_37 : decode cX9_quarrel 37 = .ok (.iload 4, 2) := by decide +kernel
theorem dX9_quarrel_39 : decode cX9_quarrel 39 = .ok (.iload_n 2, 1) := by decide +kernel
theorem dX9_quarrel_40 : decode cX9_quarrel 40 = .ok (.iconst (-1), 1) := by decide +kernel
theorem dX9_quarrel_41 : decode cX9_quarrel 41 = .ok (.ixor, 1) := by decide +kernel
theorem dX9_quarrel_42 : decode cX9_quarrel 42 = .ok (.iand, 1) := by decide +kernel
theorem dX9_quarrel_43 : decode cX9_quarrel 43 = .ok (.ifCond .ne 25, 3) := by decide +kernel
theorem dX9_quarrel_46 : decode cX9_quarrel 46 = .ok (.iload_n 3, 1) := by decide +kernel
theorem dX9_quarrel_47 : decode cX9_quarrel 47 = .ok (.bipush (-9), 2) := by decide +kernel
theorem dX9_quarrel_49 : decode cX9_quarrel 49 = .ok (.if_icmp .eq 15, 3) := by decide +kernel
theorem dX9_quarrel_52 : decode cX9_quarrel 52 = .ok (.iload 4, 2) := by decide +kernel
theorem dX9_quarrel_54 : decode cX9_quarrel 54 = .ok (.invokestatic 156, 3) := by decide +kernel
theorem dX9_quarrel_57 : decode cX9_quarrel 57 = .ok (.iload_n 3, 1) := by decide +kernel
theorem dX9_quarrel_58 : decode cX9_quarrel 58 = .ok (.invokestatic 156, 3) := by decide +kernel
theorem dX9_quarrel_61 : decode cX9_quarrel 61 = .ok (.if_icmp .ge 7, 3) := by decide +kernel
theorem dX9_quarrel_64 : decode cX9_quarrel 64 = .ok (.iconst 1, 1) := by decide +kernel
theorem dX9_quarrel_65 : decode cX9_quarrel 65 = .ok (.goto 4, 3) := by decide +kernel
theorem dX9_quarrel_68 : decode cX9_quarrel 68 = .ok (.iconst 0, 1) := by decide +kernel
theorem dX9_quarrel_69 : decode cX9_quarrel 69 = .ok (.istore 5, 2) := by decide +kernel
theorem dX9_quarrel_71 : decode cX9_quarrel 71 = .ok (.iload 5, 2) := by decide +kernel
theorem dX9_quarrel_73 : decode cX9_quarrel 73 = .ok (.ifCond .eq 17, 3) := by decide +kernel
theorem dX9_quarrel_76 : decode cX9_quarrel 76 = .ok (.aload_n 0, 1) := by decide +kernel
theorem dX9_quarrel_77 : decode cX9_quarrel 77 = .ok (.iload 4, 2) := by decide +kernel
theorem dX9_quarrel_79 : decode cX9_quarrel 79 = .ok (.invokevirtual 166, 3) := by decide +kernel
theorem dX9_quarrel_82 : decode cX9_quarrel 82 = .ok (.ifCond .ne 8, 3) := by decide +kernel
theorem dX9_quarrel_85 : decode cX9_quarrel 85 = .ok (.iload 4, 2) := by decide +kernel
theorem dX9_quarrel_87 : decode cX9_quarrel 87 = .ok (.goto 4, 3) := by decide +kernel
theorem dX9_quarrel_90 : decode cX9_quarrel 90 = .ok (.iload_n 3, 1) := by decide +kernel
theorem dX9_quarrel_91 : decode cX9_quarrel 91 = .ok (.istore_n 3, 1) := by decide +kernel
theorem dX9_quarrel_92 : decode cX9_quarrel 92 = .ok (.iinc 4 1, 3) := by decide +kernel
theorem dX9_quarrel_95 : decode cX9_quarrel 95 = .ok (.goto (-65), 3) := by decide +kernel
theorem dX9_quarrel_98 : decode cX9_quarrel 98 = .ok (.iload_n 3, 1) := by decide +kernel
theorem dX9_quarrel_99 : decode cX9_quarrel 99 = .ok (.bipush (-9), 2) := by decide +kernel
theorem dX9_quarrel_101 : decode cX9_quarrel 101 = .ok (.if_icmp .eq 8, 3) := by decide +kernel
theorem dX9_quarrel_104 : decode cX9_quarrel 104 = .ok (.iload_n 1, 1) := by decide +kernel
theorem dX9_quarrel_105 : decode cX9_quarrel 105 = .ok (.iconst 1, 1) := by decide +kernel
theorem dX9_quarrel_106 : decode cX9_quarrel 106 = .ok (.if_icmp .ne 7, 3) := by decide +kernel
theorem dX9_quarrel_109 : decode cX9_quarrel 109 = .ok (.iload_n 3, 1) := by decide +kernel
theorem dX9_quarrel_110 : decode cX9_quarrel 110 = .ok (.goto 7, 3) := by decide +kernel
theorem dX9_quarrel_113 : decode cX9_quarrel 113 = .ok (.iload_n 3, 1) := by decide +kernel
theorem dX9_quarrel_114 : decode cX9_quarrel 114 = .ok (.invokestatic 156, 3) := by decide +kernel
theorem dX9_quarrel_117 : decode cX9_quarrel 117 = .ok (.ireturn, 1) := by decide +kernel
set_option maxRecDepth 20000 in
theorem ggX9_follows_X9_isSaying : GoodIn wsX9_follows wsX9_isSaying := goodIn_r _ [9, 10, 11, 12, 8, 13, 51, 52, 53, 54, 55, 56, 57, 58, 59, 60, 61, 62, 63, 64, 65, 66, 67, 68, 69, 70, 71, 72, 73, 74, 75, 76, 77, 78] rfl (by decide +kernel)
set_option maxRecDepth 20000 in
theorem gX9_follows_X9_isSaying : GoodIn wsX9_follows (wsV RX9 124 RX9 yX9_isSaying wsX9_isSaying) := goodIn_app (goodIn_of _ (by decide +kernel)) ggX9_follows_X9_isSaying
set_option maxRecDepth 20000 in
theorem ggX9_follows_X9_ons : GoodIn wsX9_follows wsX9_ons := goodIn_r _ [17, 10, 18, 51, 52, 53, 54, 55, 56, 57, 58, 59, 60, 61, 62, 63, 64, 65, 66, 67, 68, 69, 70, 71, 72, 73, 74, 75, 76, 77, 78] rfl (by decide +kernel)
set_option maxRecDepth 20000 in
theorem gX9_follows_X9_ons : GoodIn wsX9_follows (wsV RX9 163 RX9 yX9_ons wsX9_ons) := goodIn_app (goodIn_of _ (by decide +kernel)) ggX9_follows_X9_ons
set_option maxRecDepth 20000 in
theorem ggX9_follows_X9_loads : GoodIn wsX9_follows wsX9_loads := goodIn_r _ [22, 23, 24, 2, 3, 25, 10, 26, 27, 28, 8, 29, 30, 31, 32, 33, 34, 35, 36, 4, 37, 38, 39, 40, 41, 18, 42, 43, 44, 45, 46, 47, 48, 49, 50, 51, 52, 53, 54, 55, 56, 57, 58, 59, 60, 61, 62, 63, 64, 65, 66, 67, 68, 69, 70, 71, 72, 73, 74, 75, 76, 77, 78] rfl (by decide +kernel)
set_option maxRecDepth 20000 in
theorem gX9_follows_X9_loads : GoodIn wsX9_follows (wsV RX9 166 RX9 yX9_loads wsX9_loads) := goodIn_app (goodIn_of _ (by decide +kernel)) ggX9_follows_X9_loads
set_option maxRecDepth 20000 in
theorem ggX9_follows_X9_isHeld : GoodIn wsX9_follows wsX9_isHeld := goodIn_r _ [50, 38, 39, 40, 8, 41, 18, 42, 43, 44, 45, 2, 46, 51, 52, 53, 54, 55, 56, 57, 58, 59, 60, 61, 62, 63, 64, 65, 66, 67, 68, 69, 70, 71, 72, 73, 74, 75, 76, 77, 78] rfl (by decide +kernel)
set_option maxRecDepth 20000 in
theorem gX9_follows_X9_isHeld : GoodIn wsX9_follows (wsV RX9 146 RX9 yX9_isHeld wsX9_isHeld) := goodIn_app (goodIn_of _ (by decide +kernel)) ggX9_follows_X9_isHeld
theorem dX9_follows_0 : decode cX9_follows 0 = .ok (.aload_n 0, 1) := by decide +kernel
theorem dX9_follows_1 : decode cX9_follows 1 = .ok (.iconst 0, 1) := by decide +kernel
theorem dX9_follows_2 : decode cX9_follows 2 = .ok (.putfield 45, 3) := by decide +kernel
theorem dX9_follows_5 : decode cX9_follows 5 = .ok (.aload_n 0, 1) := by decide +kernel
theorem dX9_follows_6 : decode cX9_follows 6 = .ok (.iload_n 1, 1) := by decide +kernel
theorem dX9_follows_7 : decode cX9_follows 7 = .ok (.invokevirtual 124, 3) := by decide +kernel
theorem dX9_follows_10 : decode cX9_follows 10 = .ok (.ifCond .ne 5, 3) := by decide +kernel
theorem dX9_follows_13 : decode cX9_follows 13 = .ok (.iconst (-1), 1) := by decide +kernel
theorem dX9_follows_14 : decode cX9_follows 14 = .ok (.ireturn, 1) := by decide +kernel
theorem dX9_follows_15 : decode cX9_follows 15 = .ok (.aload_n 0, 1) := by decide +kernel
theorem dX9_follows_16 : decode cX9_follows 16 = .ok (.iconst 0, 1) := by decide +kernel
theorem dX9_follows_17 : decode cX9_follows 17 = .ok (.putfield 130, 3) := by decide +kernel
theorem dX9_follows_20 : decode cX9_follows 20 = .ok (.aload_n 0, 1) := by decide +kernel
theorem dX9_follows_21 : decode cX9_follows 21 = .ok (.aload_n 0, 1) := by decide +kernel
theorem dX9_follows_22 : decode cX9_follows 22 = .ok (.invokevirtual 163, 3) := by decide +kernel
theorem dX9_follows_25 : decode cX9_follows 25 = .ok (.iconst 1, 1) := by decide +kernel
theorem dX9_follows_26 : decode cX9_follows 26 = .ok (.iload_n 1, 1) := by decide +kernel
theorem dX9_follows_27 : decode cX9_follows 27 = .ok (.ishl, 1) := by decide +kernel
theorem dX9_follows_28 : decode cX9_follows 28 = .ok (.iconst (-1), 1) := by decide +kernel
theorem dX9_follows_29 : decode cX9_follows 29 = .ok (.ixor, 1) := by decide +kernel
theorem dX9_follows_30 : decode cX9_follows 30 = .ok (.iand, 1) := by decide +kernel
theorem dX9_follows_31 : decode cX9_follows 31 = .ok (.invokevirtual 166, 3) := by decide +kernel
theorem dX9_follows_34 : decode cX9_follows 34 = .ok (.pop, 1) := by decide +kernel
theorem dX9_follows_35 : decode cX9_follows 35 = .ok (.iconst 0, 1) := by decide +kernel
theorem dX9_follows_36 : decode cX9_follows 36 = .ok (.istore_n 2, 1) := by decide +kernel
theorem dX9_follows_37 : decode cX9_follows 37 = .ok (.iload_n 2, 1) := by decide +kernel
theorem dX9_follows_38 : decode cX9_follows 38 = .ok (.aload_n 0, 1) := by decide +kernel
theorem dX9_follows_39 : decode cX9_follows 39 = .ok (.getfield 150, 3) := by decide +kernel
theorem dX9_follows_42 : decode cX9_follows 42 = .ok (.if_icmp .ge 27, 3) := by decide +kernel
theorem dX9_follows_45 : decode cX9_follows 45 = .ok (.aload_n 0, 1) := by decide +kernel
theorem dX9_follows_46 : decode cX9_follows 46 = .ok (.iload_n 1, 1) := by decide +kernel
theorem dX9_follows_47 : decode cX9_follows 47 = .ok (.aload_n 0, 1) := by decide +kernel
theorem dX9_follows_48 : decode cX9_follows 48 = .ok (.getfield 26, 3) := by decide +kernel
theorem dX9_follows_51 : decode cX9_follows 51 = .ok (.bipush 8, 2) := by decide +kernel
theorem dX9_follows_53 : decode cX9_follows 53 = .ok (.iload_n 2, 1) := by decide +kernel
theorem dX9_follows_54 : decode cX9_follows 54 = .ok (.imul, 1) := by decide +kernel
theorem dX9_follows_55 : decode cX9_follows 55 = .ok (.invokevirtual 146, 3) := by decide +kernel
theorem dX9_follows_58 : decode cX9_follows 58 = .ok (.ifCond .ne 5, 3) := by decide +kernel
theorem dX9_follows_61 : decode cX9_follows 61 = .ok (.iconst 0, 1) := by decide +kernel
theorem dX9_follows_62 : decode cX9_follows 62 = .ok (.ireturn, 1) := by decide +kernel
theorem dX9_follows_63 : decode cX9_follows 63 = .ok (.iinc 2 1, 3) := by decide +kernel
theorem dX9_follows_66 : decode cX9_follows 66 = .ok (.goto (-29), 3) := by decide +kernel
theorem dX9_follows_69 : decode cX9_follows 69 = .ok (.iconst 1, 1) := by decide +kernel
theorem dX9_follows_70 : decode cX9_follows 70 = .ok (.ireturn, 1) := by decide +kernel
set_option maxRecDepth 20000 in
theorem ggX9_needed_X9_isThing : GoodIn wsX9_needed wsX9_isThing := goodIn_r _ [7, 8, 9, 6, 10] rfl (by decide +kernel)
set_option maxRecDepth 20000 in
theorem gX9_needed_X9_isThing : GoodIn wsX9_needed (va_wsS RX9 187 yX9_isThing wsX9_isThing) := goodIn_app (goodIn_of _ (by decide +kernel)) ggX9_needed_X9_isThing
set_option maxRecDepth 20000 in
theorem ggX9_needed_X9_isBit : GoodIn wsX9_needed wsX9_isBit := goodIn_r _ [13] rfl (by decide +kernel)
set_option maxRecDepth 20000 in
theorem gX9_needed_X9_isBit : GoodIn wsX9_needed (va_wsS RX9 127 yX9_isBit wsX9_isBit) := goodIn_app (goodIn_of _ (by decide +kernel)) ggX9_needed_X9_isBit
set_option maxRecDepth 20000 in
theorem ggX9_needed_X9_loadsOn : GoodIn wsX9_needed wsX9_loadsOn := goodIn_r _ [17, 18, 19, 20, 21, 6, 22, 23, 24, 25, 26, 27, 28, 29, 30, 31, 32, 33, 34, 35, 36, 37, 38, 39, 40, 41, 42, 43, 44, 45, 46, 47, 48, 49, 50, 51, 52, 53, 54, 55, 56, 57, 58, 67, 68, 69, 70, 71, 72, 73, 74, 75, 76, 77, 78, 79, 80, 81, 82, 83, 84, 85, 86, 87, 88, 89, 90, 91, 92, 93, 94] rfl (by decide +kernel)
set_option maxRecDepth 20000 in
theorem gX9_needed_X9_loadsOn : GoodIn wsX9_needed (wsV RX9 173 RX9 yX9_loadsOn wsX9_loadsOn) := goodIn_app (goodIn_of _ (by decide +kernel)) ggX9_needed_X9_loadsOn
set_option maxRecDepth 20000 in
theorem ggX9_needed_X9_ons : GoodIn wsX9_needed wsX9_ons := goodIn_r _ [22, 23, 24, 67, 68, 69, 70, 71, 72, 73, 74, 75, 76, 77, 78, 79, 80, 81, 82, 83, 84, 85, 86, 87, 88, 89, 90, 91, 92, 93, 94] rfl (by decide +kernel)
set_option maxRecDepth 20000 in
theorem gX9_needed_X9_ons : GoodIn wsX9_needed (wsV RX9 163 RX9 yX9_ons wsX9_ons) := goodIn_app (goodIn_of _ (by decide +kernel)) ggX9_needed_X9_ons
set_option maxRecDepth 20000 in
theorem ggX9_needed_X9_bounds : GoodIn wsX9_needed wsX9_bounds := goodIn_r _ [62, 3, 31, 45, 2, 63, 64, 65, 6, 66, 44, 67, 68, 69, 70, 71, 72, 73, 74, 75, 76, 77, 78, 79, 80, 81, 82, 83, 84, 85, 86, 87, 88, 89, 90, 91, 92, 93, 94] rfl (by decide +kernel)
set_option maxRecDepth 20000 in
theorem gX9_needed_X9_bounds : GoodIn wsX9_needed (wsV RX9 192 RX9 yX9_bounds wsX9_bounds) := goodIn_app (goodIn_of _ (by decide +kernel)) ggX9_needed_X9_bounds
set_option maxRecDepth 20000 in
theorem ggX9_needed_X9_ones : GoodIn wsX9_needed wsX9_ones := goodIn_r _ [36] rfl (by decide +kernel)
set_option maxRecDepth 20000 in
theorem gX9_needed_X9_ones : GoodIn wsX9_needed (va_wsS RX9 156 yX9_ones wsX9_ones) := goodIn_app (goodIn_of _ (by decide +kernel)) ggX9_needed_X9_ones
set_option maxRecDepth 20000 in
theorem ggX9_needed_X9_loads : GoodIn wsX9_needed wsX9_loads := goodIn_r _ [28, 29, 30, 18, 31, 32, 23, 33, 34, 35, 6, 36, 37, 38, 39, 40, 41, 42, 43, 44, 45, 46, 47, 48, 49, 24, 50, 51, 52, 53, 54, 55, 56, 57, 58, 67, 68, 69, 70, 71, 72, 73, 74, 75, 76, 77, 78, 79, 80, 81, 82, 83, 84, 85, 86, 87, 88, 89, 90, 91, 92, 93, 94] rfl (by decide +kernel)
set_option maxRecDepth 20000 in
theorem gX9_needed_X9_loads : GoodIn wsX9_needed (wsV RX9 166 RX9 yX9_loads wsX9_loads) := goodIn_app (goodIn_of _ (by decide +kernel)) ggX9_needed_X9_loads
theorem dX9_needed_0 : decode cX9_needed 0 = .ok (.aload_n 0, 1) := by decide +kernel
theorem dX9_needed_1 : decode cX9_needed 1 = .ok (.iconst 0, 1) := by decide +kernel
theorem dX9_needed_2 : decode cX9_needed 2 = .ok (.putfield 45, 3) := by decide +kernel
theorem dX9_needed_5 : decode cX9_needed 5 = .ok (.iload_n 1, 1) := by decide +kernel
theorem dX9_needed_6 : decode cX9_needed 6 = .ok (.invokestatic 187, 3) := by decide +kernel
theorem dX9_needed_9 : decode cX9_needed 9 = .ok (.ifCond .eq 17, 3) := by decide +kernel
theorem dX9_needed_12 : decode cX9_needed 12 = .ok (.iload_n 2, 1) := by decide +kernel
theorem dX9_needed_13 : decode cX9_needed 13 = .ok (.invokestatic 187, 3) := by decide +kernel
theorem dX9_needed_16 : decode cX9_needed 16 = .ok (.ifCond .eq 10, 3) := by decide +kernel
theorem dX9_needed_19 : decode cX9_needed 19 = .ok (.iload_n 3, 1) := by decide +kernel
theorem dX9_needed_20 : decode cX9_needed 20 = .ok (.invokestatic 127, 3) := by decide +kernel
theorem dX9_needed_23 : decode cX9_needed 23 = .ok (.ifCond .ne 5, 3) := by decide +kernel
theorem dX9_needed_26 : decode cX9_needed 26 = .ok (.iconst (-1), 1) := by decide +kernel
theorem dX9_needed_27 : decode cX9_needed 27 = .ok (.ireturn, 1) := by decide +kernel
theorem dX9_needed_28 : decode cX9_needed 28 = .ok (.aload_n 0, 1) := by decide +kernel
theorem dX9_needed_29 : decode cX9_needed 29 = .ok (.invokevirtual 173, 3) := by decide +kernel
theorem dX9_needed_32 : decode cX9_needed 32 = .ok (.pop, 1) := by decide +kernel
theorem dX9_needed_33 : decode cX9_needed 33 = .ok (.aload_n 0, 1) := by decide +kernel
theorem dX9_needed_34 : decode cX9_needed 34 = .ok (.invokevirtual 163, 3) := by decide +kernel
theorem dX9_needed_37 : decode cX9_needed 37 = .ok (.istore 4, 2) := by decide +kernel
theorem dX9_needed_39 : decode cX9_needed 39 = .ok (.aload_n 0, 1) := by decide +kernel
theorem dX9_needed_40 : decode cX9_needed 40 = .ok (.iload_n 1, 1) := by decide +kernel
theorem dX9_needed_41 : decode cX9_needed 41 = .ok (.iload_n 2, 1) := by decide +kernel
theorem dX9_needed_42 : decode cX9_needed 42 = .ok (.iconst 0, 1) := by decide +kernel
theorem dX9_needed_43 : decode cX9_needed 43 = .ok (.iconst 0, 1) := by decide +kernel
theorem dX9_needed_44 : decode cX9_needed 44 = .ok (.invokevirtual 192, 3) := by decide +kernel
theorem dX9_needed_47 : decode cX9_needed 47 = .ok (.istore 5, 2) := by decide +kernel
