theorem dX9_bounds_161 : decode cX9_bounds 161 = .ok (.getfield 176, 3) := by decide +kernel
theorem dX9_bounds_164 : decode cX9_bounds 164 = .ok (.lconst 0, 1) := by decide +kernel
theorem dX9_bounds_165 : decode cX9_bounds 165 = .ok (.lcmp, 1) := by decide +kernel
theorem dX9_bounds_166 : decode cX9_bounds 166 = .ok (.ifCond .le 7, 3) := by decide +kernel
theorem dX9_bounds_169 : decode cX9_bounds 169 = .ok (.iconst 1, 1) := by decide +kernel
theorem dX9_bounds_170 : decode cX9_bounds 170 = .ok (.goto 4, 3) := by decide +kernel
theorem dX9_bounds_173 : decode cX9_bounds 173 = .ok (.iconst 0, 1) := by decide +kernel
theorem dX9_bounds_174 : decode cX9_bounds 174 = .ok (.ireturn, 1) := by decide +kernel
set_option maxRecDepth 20000 in
theorem ggX9_asked_X9_isThing : GoodIn wsX9_asked wsX9_isThing := goodIn_r _ [7, 8, 9, 6, 10] rfl (by decide +kernel)
set_option maxRecDepth 20000 in
theorem gX9_asked_X9_isThing : GoodIn wsX9_asked (va_wsS RX9 187 yX9_isThing wsX9_isThing) := goodIn_app (goodIn_of _ (by decide +kernel)) ggX9_asked_X9_isThing
set_option maxRecDepth 20000 in
theorem ggX9_asked_X9_isBit : GoodIn wsX9_asked wsX9_isBit := goodIn_r _ [13] rfl (by decide +kernel)
set_option maxRecDepth 20000 in
theorem gX9_asked_X9_isBit : GoodIn wsX9_asked (va_wsS RX9 127 yX9_isBit wsX9_isBit) := goodIn_app (goodIn_of _ (by decide +kernel)) ggX9_asked_X9_isBit
set_option maxRecDepth 20000 in
theorem ggX9_asked_X9_loadsOn : GoodIn wsX9_asked wsX9_loadsOn := goodIn_r _ [17, 18, 19, 20, 21, 6, 22, 23, 24, 25, 26, 27, 28, 29, 30, 31, 32, 33, 34, 35, 36, 37, 38, 39, 40, 41, 42, 43, 44, 45, 46, 47, 48, 49, 50, 51, 52, 53, 54, 55, 56, 57, 58, 73, 74, 75, 76, 77, 78, 79, 80, 81, 82, 83, 84, 85, 86, 87, 88, 89, 90, 91, 92, 93, 94, 95, 96, 97, 98, 99, 100] rfl (by decide +kernel)
set_option maxRecDepth 20000 in
theorem gX9_asked_X9_loadsOn : GoodIn wsX9_asked (wsV RX9 173 RX9 yX9_loadsOn wsX9_loadsOn) := goodIn_app (goodIn_of _ (by decide +kernel)) ggX9_asked_X9_loadsOn
set_option maxRecDepth 20000 in
theorem ggX9_asked_X9_bounds : GoodIn wsX9_asked wsX9_bounds := goodIn_r _ [62, 3, 31, 45, 2, 63, 64, 65, 6, 66, 44, 73, 74, 75, 76, 77, 78, 79, 80, 81, 82, 83, 84, 85, 86, 87, 88, 89, 90, 91, 92, 93, 94, 95, 96, 97, 98, 99, 100] rfl (by decide +kernel)
set_option maxRecDepth 20000 in
theorem gX9_asked_X9_bounds : GoodIn wsX9_asked (wsV RX9 192 RX9 yX9_bounds wsX9_bounds) := goodIn_app (goodIn_of _ (by decide +kernel)) ggX9_asked_X9_bounds
set_option maxRecDepth 20000 in
theorem ggX9_asked_X9_tells : GoodIn wsX9_asked wsX9_tells := goodIn_r _ [69, 70, 71, 6, 72] rfl (by decide +kernel)
set_option maxRecDepth 20000 in
theorem gX9_asked_X9_tells : GoodIn wsX9_asked (va_wsS RX9 196 yX9_tells wsX9_tells) := goodIn_app (goodIn_of _ (by decide +kernel)) ggX9_asked_X9_tells
theorem dX9_asked_0 : decode cX9_asked 0 = .ok (.iload_n 1, 1) := by decide +kernel
theorem dX9_asked_1 : decode cX9_asked 1 = .ok (.invokestatic 187, 3) := by decide +kernel
theorem dX9_asked_4 : decode cX9_asked 4 = .ok (.ifCond .eq 25, 3) := by decide +kernel
theorem dX9_asked_7 : decode cX9_asked 7 = .ok (.iload_n 2, 1) := by decide +kernel
theorem dX9_asked_8 : decode cX9_asked 8 = .ok (.invokestatic 187, 3) := by decide +kernel
theorem dX9_asked_11 : decode cX9_asked 11 = .ok (.ifCond .eq 18, 3) := by decide +kernel
theorem dX9_asked_14 : decode cX9_asked 14 = .ok (.iload_n 3, 1) := by decide +kernel
theorem dX9_asked_15 : decode cX9_asked 15 = .ok (.invokestatic 127, 3) := by decide +kernel
theorem dX9_asked_18 : decode cX9_asked 18 = .ok (.ifCond .eq 11, 3) := by decide +kernel
theorem dX9_asked_21 : decode cX9_asked 21 = .ok (.iload 4, 2) := by decide +kernel
theorem dX9_asked_23 : decode cX9_asked 23 = .ok (.invokestatic 127, 3) := by decide +kernel
theorem dX9_asked_26 : decode cX9_asked 26 = .ok (.ifCond .ne 7, 3) := by decide +kernel
theorem dX9_asked_29 : decode cX9_asked 29 = .ok (.ldc2_w 190, 3) := by decide +kernel
theorem dX9_asked_32 : decode cX9_asked 32 = .ok (.lreturn, 1) := by decide +kernel
theorem dX9_asked_33 : decode cX9_asked 33 = .ok (.aload_n 0, 1) := by decide +kernel
theorem dX9_asked_34 : decode cX9_asked 34 = .ok (.invokevirtual 173, 3) := by decide +kernel
theorem dX9_asked_37 : decode cX9_asked 37 = .ok (.pop, 1) := by decide +kernel
theorem dX9_asked_38 : decode cX9_asked 38 = .ok (.aload_n 0, 1) := by decide +kernel
theorem dX9_asked_39 : decode cX9_asked 39 = .ok (.iload_n 1, 1) := by decide +kernel
theorem dX9_asked_40 : decode cX9_asked 40 = .ok (.iload_n 2, 1) := by decide +kernel
theorem dX9_asked_41 : decode cX9_asked 41 = .ok (.iload_n 3, 1) := by decide +kernel
theorem dX9_asked_42 : decode cX9_asked 42 = .ok (.iload 5, 2) := by decide +kernel
theorem dX9_asked_44 : decode cX9_asked 44 = .ok (.invokevirtual 192, 3) := by decide +kernel
theorem dX9_asked_47 : decode cX9_asked 47 = .ok (.ifCond .eq 19, 3) := by decide +kernel
theorem dX9_asked_50 : decode cX9_asked 50 = .ok (.aload_n 0, 1) := by decide +kernel
theorem dX9_asked_51 : decode cX9_asked 51 = .ok (.getfield 184, 3) := by decide +kernel
theorem dX9_asked_54 : decode cX9_asked 54 = .ok (.aload_n 0, 1) := by decide +kernel
theorem dX9_asked_55 : decode cX9_asked 55 = .ok (.getfield 176, 3) := by decide +kernel
theorem dX9_asked_58 : decode cX9_asked 58 = .ok (.iload 4, 2) := by decide +kernel
theorem dX9_asked_60 : decode cX9_asked 60 = .ok (.invokestatic 196, 3) := by decide +kernel
theorem dX9_asked_63 : decode cX9_asked 63 = .ok (.goto 6, 3) := by decide +kernel
theorem dX9_asked_66 : decode cX9_asked 66 = .ok (.ldc2_w 190, 3) := by decide +kernel
theorem dX9_asked_69 : decode cX9_asked 69 = .ok (.lreturn, 1) := by decide +kernel
set_option maxRecDepth 20000 in
theorem ggX9_bound_X9_asked : GoodIn wsX9_bound wsX9_asked := goodIn_r _ [6, 7, 8, 9, 10, 11, 5, 12, 13, 14, 15, 16, 17, 18, 19, 20, 21, 22, 23, 24, 25, 26, 27, 28, 29, 30, 31, 32, 33, 34, 35, 36, 37, 38, 39, 40, 41, 42, 43, 44, 45, 46, 47, 48, 49, 50, 51, 52, 53, 54, 55, 56, 57, 58, 59, 60, 61, 62, 63, 64, 65, 66, 67, 68, 69, 70, 71, 72, 73, 74, 75, 76, 77, 78, 79, 80, 81, 82, 83, 84, 85, 86, 87, 88, 89, 90, 91, 92, 93, 94, 95, 96, 97, 98, 99, 100, 101, 102, 103, 104, 105] rfl (by decide +kernel)
set_option maxRecDepth 20000 in
theorem gX9_bound_X9_asked : GoodIn wsX9_bound (wsV RX9 200 RX9 yX9_asked wsX9_asked) := goodIn_app (goodIn_of _ (by decide +kernel)) ggX9_bound_X9_asked
theorem dX9_bound_0 : decode cX9_bound 0 = .ok (.aload_n 0, 1) := by decide +kernel
theorem dX9_bound_1 : decode cX9_bound 1 = .ok (.iconst 0, 1) := by decide +kernel
theorem dX9_bound_2 : decode cX9_bound 2 = .ok (.putfield 45, 3) := by decide +kernel
theorem dX9_bound_5 : decode cX9_bound 5 = .ok (.aload_n 0, 1) := by decide +kernel
theorem dX9_bound_6 : decode cX9_bound 6 = .ok (.iload_n 1, 1) := by decide +kernel
theorem dX9_bound_7 : decode cX9_bound 7 = .ok (.iload_n 2, 1) := by decide +kernel
theorem dX9_bound_8 : decode cX9_bound 8 = .ok (.iload_n 3, 1) := by decide +kernel
theorem dX9_bound_9 : decode cX9_bound 9 = .ok (.iload 4, 2) := by decide +kernel
theorem dX9_bound_11 : decode cX9_bound 11 = .ok (.iconst 0, 1) := by decide +kernel
theorem dX9_bound_12 : decode cX9_bound 12 = .ok (.invokevirtual 200, 3) := by decide +kernel
theorem dX9_bound_15 : decode cX9_bound 15 = .ok (.lreturn, 1) := by decide +kernel
set_option maxRecDepth 20000 in
theorem ggX9_differ_X9_asked : GoodIn wsX9_differ wsX9_asked := goodIn_r _ [6, 7, 8, 9, 10, 11, 5, 12, 13, 14, 15, 16, 17, 18, 19, 20, 21, 22, 23, 24, 25, 26, 27, 28, 29, 30, 31, 32, 33, 34, 35, 36, 37, 38, 39, 40, 41, 42, 43, 44, 45, 46, 47, 48, 49, 50, 51, 52, 53, 54, 55, 56, 57, 58, 59, 60, 61, 62, 63, 64, 65, 66, 67, 68, 69, 70, 71, 72, 73, 74, 75, 76, 77, 78, 79, 80, 81, 82, 83, 84, 85, 86, 87, 88, 89, 90, 91, 92, 93, 94, 95, 96, 97, 98, 99, 100, 101, 102, 103, 104, 105] rfl (by decide +kernel)
set_option maxRecDepth 20000 in
theorem gX9_differ_X9_asked : GoodIn wsX9_differ (wsV RX9 200 RX9 yX9_asked wsX9_asked) := goodIn_app (goodIn_of _ (by decide +kernel)) ggX9_differ_X9_asked
theorem dX9_differ_0 : decode cX9_differ 0 = .ok (.aload_n 0, 1) := by decide +kernel
theorem dX9_differ_1 : decode cX9_differ 1 = .ok (.iconst 0, 1) := by decide +kernel
theorem dX9_differ_2 : decode cX9_differ 2 = .ok (.putfield 45, 3) := by decide +kernel
theorem dX9_differ_5 : decode cX9_differ 5 = .ok (.aload_n 0, 1) := by decide +kernel
theorem dX9_differ_6 : decode cX9_differ 6 = .ok (.iload_n 1, 1) := by decide +kernel
theorem dX9_differ_7 : decode cX9_differ 7 = .ok (.iload_n 2, 1) := by decide +kernel
theorem dX9_differ_8 : decode cX9_differ 8 = .ok (.iload_n 3, 1) := by decide +kernel
theorem dX9_differ_9 : decode cX9_differ 9 = .ok (.iload 4, 2) := by decide +kernel
theorem dX9_differ_11 : decode cX9_differ 11 = .ok (.iconst 1, 1) := by decide +kernel
theorem dX9_differ_12 : decode cX9_differ 12 = .ok (.invokevirtual 200, 3) := by decide +kernel
theorem dX9_differ_15 : decode cX9_differ 15 = .ok (.lreturn, 1) := by decide +kernel
set_option maxRecDepth 20000 in
theorem ggX9_first_X9_in : GoodIn wsX9_first wsX9_in := goodIn_r _ [9] rfl (by decide +kernel)
set_option maxRecDepth 20000 in
theorem gX9_first_X9_in : GoodIn wsX9_first (va_wsS RX9 52 yX9_in wsX9_in) := goodIn_app (goodIn_of _ (by decide +kernel)) ggX9_first_X9_in
set_option maxRecDepth 20000 in
theorem ggX9_first_X9_isBit : GoodIn wsX9_first wsX9_isBit := goodIn_r _ [12] rfl (by decide +kernel)
set_option maxRecDepth 20000 in
theorem gX9_first_X9_isBit : GoodIn wsX9_first (va_wsS RX9 127 yX9_isBit wsX9_isBit) := goodIn_app (goodIn_of _ (by decide +kernel)) ggX9_first_X9_isBit
set_option maxRecDepth 20000 in
theorem ggX9_first_X9_loadsOn : GoodIn wsX9_first wsX9_loadsOn := goodIn_r _ [16, 17, 18, 19, 20, 8, 21, 22, 23, 24, 25, 26, 27, 28, 29, 3, 30, 31, 32, 33, 34, 35, 36, 37, 38, 39, 40, 41, 4, 5, 42, 43, 44, 45, 46, 47, 48, 49, 50, 51, 52, 53, 54, 61, 62, 63, 64, 65, 66, 67, 68, 69, 70, 71, 72, 73, 74, 75, 76, 77, 78, 79, 80, 81, 82, 83, 84, 85, 86, 87, 88] rfl (by decide +kernel)
set_option maxRecDepth 20000 in
theorem gX9_first_X9_loadsOn : GoodIn wsX9_first (wsV RX9 173 RX9 yX9_loadsOn wsX9_loadsOn) := goodIn_app (goodIn_of _ (by decide +kernel)) ggX9_first_X9_loadsOn
set_option maxRecDepth 20000 in
theorem ggX9_first_X9_tells : GoodIn wsX9_first wsX9_tells := goodIn_r _ [57, 58, 59, 8, 60] rfl (by decide +kernel)
set_option maxRecDepth 20000 in
theorem gX9_first_X9_tells : GoodIn wsX9_first (va_wsS RX9 196 yX9_tells wsX9_tells) := goodIn_app (goodIn_of _ (by decide +kernel)) ggX9_first_X9_tells
theorem dX9_first_0 : decode cX9_first 0 = .ok (.aload_n 0, 1) := by decide +kernel
theorem dX9_first_1 : decode cX9_first 1 = .ok (.iconst 0, 1) := by decide +kernel
theorem dX9_first_2 : decode cX9_first 2 = .ok (.putfield 45, 3) := by decide +kernel
theorem dX9_first_5 : decode cX9_first 5 = .ok (.iload_n 1, 1) := by decide +kernel
theorem dX9_first_6 : decode cX9_first 6 = .ok (.iconst 0, 1) := by decide +kernel
theorem dX9_first_7 : decode cX9_first 7 = .ok (.bipush 7, 2) := by decide +kernel
theorem dX9_first_9 : decode cX9_first 9 = .ok (.invokestatic 52, 3) := by decide +kernel
theorem dX9_first_12 : decode cX9_first 12 = .ok (.ifCond .eq 17, 3) := by decide +kernel
theorem dX9_first_15 : decode cX9_first 15 = .ok (.iload_n 2, 1) := by decide +kernel
theorem dX9_first_16 : decode cX9_first 16 = .ok (.invokestatic 127, 3) := by decide +kernel
theorem dX9_first_19 : decode cX9_first 19 = .ok (.ifCond .eq 10, 3) := by decide +kernel
theorem dX9_first_22 : decode cX9_first 22 = .ok (.aload_n 0, 1) := by decide +kernel
theorem dX9_first_23 : decode cX9_first 23 = .ok (.invokevirtual 173, 3) := by decide +kernel
theorem dX9_first_26 : decode cX9_first 26 = .ok (.ifCond .ne 7, 3) := by decide +kernel
theorem dX9_first_29 : decode cX9_first 29 = .ok (.ldc2_w 190, 3) := by decide +kernel
theorem dX9_first_32 : decode cX9_first 32 = .ok (.lreturn, 1) := by decide +kernel
theorem dX9_first_33 : decode cX9_first 33 = .ok (.iconst 0, 1) := by decide +kernel
theorem dX9_first_34 : decode cX9_first 34 = .ok (.istore_n 3, 1) := by decide +kernel
theorem dX9_first_35 : decode cX9_first 35 = .ok (.iconst 1, 1) := by decide +kernel
theorem dX9_first_36 : decode cX9_first 36 = .ok (.istore 4, 2) := by decide +kernel
theorem dX9_first_38 : decode cX9_first 38 = .ok (.iload 4, 2) := by decide +kernel
theorem dX9_first_40 : decode cX9_first 40 = .ok (.aload_n 0, 1) := by decide +kernel
theorem dX9_first_41 : decode cX9_first 41 = .ok (.getfield 150, 3) := by decide +kernel
theorem dX9_first_44 : decode cX9_first 44 = .ok (.if_icmp .ge 92, 3) := by decide +kernel
theorem dX9_first_47 : decode cX9_first 47 = .ok (.lconst 0, 1) := by decide +kernel
theorem dX9_first_48 : decode cX9_first 48 = .ok (.lstore 5, 2) := by decide +kernel
theorem dX9_first_50 : decode cX9_first 50 = .ok (.iconst 0, 1) := by decide +kernel
theorem dX9_first_51 : decode cX9_first 51 = .ok (.istore 7, 2) := by decide +kernel
theorem dX9_first_53 : decode cX9_first 53 = .ok (.iload 7, 2) := by decide +kernel
theorem dX9_first_55 : decode cX9_first 55 = .ok (.bipush 8, 2) := by decide +kernel
theorem dX9_first_57 : decode cX9_first 57 = .ok (.if_icmp .ge 59, 3) := by decide +kernel
theorem dX9_first_60 : decode cX9_first 60 = .ok (.lload 5, 2) := by decide +kernel
theorem dX9_first_62 : decode cX9_first 62 = .ok (.lconst 0, 1) := by decide +kernel
theorem dX9_first_63 : decode cX9_first 63 = .ok (.lcmp, 1) := by decide +kernel
theorem dX9_first_64 : decode cX9_first 64 = .ok (.ifCond .ne 52, 3) := by decide +kernel
theorem dX9_first_67 : decode cX9_first 67 = .ok (.aload_n 0, 1) := by decide +kernel
theorem dX9_first_68 : decode cX9_first 68 = .ok (.getfield 26, 3) := by decide +kernel
theorem dX9_first_71 : decode cX9_first 71 = .ok (.bipush 8, 2) := by decide +kernel
theorem dX9_first_73 : decode cX9_first 73 = .ok (.iload 4, 2) := by decide +kernel
theorem dX9_first_75 : decode cX9_first 75 = .ok (.imul, 1) := by decide +kernel
theorem dX9_first_76 : decode cX9_first 76 = .ok (.iload 7, 2) := by decide +kernel
theorem dX9_first_78 : decode cX9_first 78 = .ok (.iadd, 1) := by decide +kernel
theorem dX9_first_79 : decode cX9_first 79 = .ok (.laload, 1) := by decide +kernel
theorem dX9_first_80 : decode cX9_first 80 = .ok (.aload_n 0, 1) := by decide +kernel
theorem dX9_first_81 : decode cX9_first 81 = .ok (.getfield 30, 3) := by decide +kernel
theorem dX9_first_84 : decode cX9_first 84 = .ok (.iload_n 3, 1) := by decide +kernel
theorem dX9_first_85 : decode cX9_first 85 = .ok (.laload, 1) := by decide +kernel
theorem dX9_first_86 : decode cX9_first 86 = .ok (.lmul, 1) := by decide +kernel
theorem dX9_first_87 : decode cX9_first 87 = .ok (.aload_n 0, 1) := by decide +kernel
theorem dX9_first_88 : decode cX9_first 88 = .ok (.getfield 26, 3) := by decide +kernel
theorem dX9_first_91 : decode cX9_first 91 = .ok (.bipush 8, 2) := by decide +kernel
theorem dX9_first_93 : decode cX9_first 93 = .ok (.iload_n 3, 1) := by decide +kernel
theorem dX9_first_94 : decode cX9_first 94 = .ok (.imul, 1) := by decide +kernel
theorem dX9_first_95 : decode cX9_first 95 = .ok (.iload 7, 2) := by decide +kernel
theorem dX9_first_97 : decode cX9_first 97 = .ok (.iadd, 1) := by decide +kernel
theorem dX9_first_98 : decode cX9_first 98 = .ok (.laload, 1) := by decide +kernel
theorem dX9_first_99 : decode cX9_first 99 = .ok (.aload_n 0, 1) := by decide +kernel
theorem dX9_first_100 : decode cX9_first 100 = .ok (.getfield 30, 3) := by decide +kernel
theorem dX9_first_103 : decode cX9_first 103 = .ok (.iload 4, 2) := by decide +kernel
theorem dX9_first_105 : decode cX9_first 105 = .ok (.laload, 1) := by decide +kernel
theorem dX9_first_106 : decode cX9_first 106 = .ok (.lmul, 1) := by decide +kernel
theorem dX9_first_107 : decode cX9_first 107 = .ok (.lsub, 1) := by decide +kernel
theorem dX9_first_108 : decode cX9_first 108 = .ok (.lstore 5, 2) := by decide +kernel
theorem dX9_first_110 : decode cX9_first 110 = .ok (.iinc 7 1, 3) := by decide +kernel
theorem dX9_first_113 : decode cX9_first 113 = .ok (.goto (-60), 3) := by decide +kernel
theorem dX9_first_116 : decode cX9_first 116 = .ok (.lload 5, 2) := by decide +kernel
theorem dX9_first_118 : decode cX9_first 118 = .ok (.lconst 0, 1) := by decide +kernel
theorem dX9_first_119 : decode cX9_first 119 = .ok (.lcmp, 1) := by decide +kernel
theorem dX9_first_120 : decode cX9_first 120 = .ok (.ifCond .ge 8, 3) := by decide +kernel
theorem dX9_first_123 : decode cX9_first 123 = .ok (.iload 4, 2) := by decide +kernel
theorem dX9_first_125 : decode cX9_first 125 = .ok (.goto 4, 3) := by decide +kernel
theorem dX9_first_128 : decode cX9_first 128 = .ok (.iload_n 3, 1) := by decide +kernel
theorem dX9_first_129 : decode cX9_first 129 = .ok (.istore_n 3, 1) := by decide +kernel
theorem dX9_first_130 : decode cX9_first 130 = .ok (.iinc 4 1, 3) := by decide +kernel
theorem dX9_first_133 : decode cX9_first 133 = .ok (.goto (-95), 3) := by decide +kernel
theorem dX9_first_136 : decode cX9_first 136 = .ok (.aload_n 0, 1) := by decide +kernel
theorem dX9_first_137 : decode cX9_first 137 = .ok (.getfield 26, 3) := by decide +kernel
theorem dX9_first_140 : decode cX9_first 140 = .ok (.bipush 8, 2) := by decide +kernel
theorem dX9_first_142 : decode cX9_first 142 = .ok (.iload_n 3, 1) := by decide +kernel
theorem dX9_first_143 : decode cX9_first 143 = .ok (.imul, 1) := by decide +kernel
theorem dX9_first_144 : decode cX9_first 144 = .ok (.iload_n 1, 1) := by decide +kernel
theorem dX9_first_145 : decode cX9_first 145 = .ok (.iadd, 1) := by decide +kernel
theorem dX9_first_146 : decode cX9_first 146 = .ok (.laload, 1) := by decide +kernel
theorem dX9_first_147 : decode cX9_first 147 = .ok (.aload_n 0, 1) := by decide +kernel
theorem dX9_first_148 : decode cX9_first 148 = .ok (.getfield 30, 3) := by decide +kernel
theorem dX9_first_151 : decode cX9_first 151 = .ok (.iload_n 3, 1) := by decide +kernel
theorem dX9_first_152 : decode cX9_first 152 = .ok (.laload, 1) := by decide +kernel
theorem dX9_first_153 : decode cX9_first 153 = .ok (.iload_n 2, 1) := by decide +kernel
theorem dX9_first_154 : decode cX9_first 154 = .ok (.invokestatic 196, 3) := by decide +kernel
theorem dX9_first_157 : decode cX9_first 157 = .ok (.lreturn, 1) := by decide +kernel
set_option maxRecDepth 20000 in
theorem ggX9_never_X9_loadsOn : GoodIn wsX9_never wsX9_loadsOn := goodIn_r _ [8, 9, 10, 11, 12, 7, 13, 14, 15, 16, 17, 18, 19, 20, 21, 2, 22, 23, 24, 25, 26, 27, 28, 29, 30, 31, 32, 33, 3, 34, 35, 36, 37, 38, 39, 40, 41, 42, 43, 44, 45, 46, 47, 48, 49, 50, 51, 52, 53, 54, 55, 56, 57, 58, 59, 60, 61, 62, 63, 64, 65, 66, 67, 68, 69, 70, 71, 72, 73, 74, 75] rfl (by decide +kernel)
set_option maxRecDepth 20000 in
theorem gX9_never_X9_loadsOn : GoodIn wsX9_never (wsV RX9 173 RX9 yX9_loadsOn wsX9_loadsOn) := goodIn_app (goodIn_of _ (by decide +kernel)) ggX9_never_X9_loadsOn
theorem dX9_never_0 : decode cX9_never 0 = .ok (.aload_n 0, 1) := by decide +kernel
theorem dX9_never_1 : decode cX9_never 1 = .ok (.iconst 0, 1) := by decide +kernel
theorem dX9_never_2 : decode cX9_never 2 = .ok (.putfield 45, 3) := by decide +kernel
theorem dX9_never_5 : decode cX9_never 5 = .ok (.aload_n 0, 1) := by decide +kernel
theorem dX9_never_6 : decode cX9_never 6 = .ok (.invokevirtual 173, 3) := by decide +kernel
theorem dX9_never_9 : decode cX9_never 9 = .ok (.pop, 1) := by decide +kernel
theorem dX9_never_10 : decode cX9_never 10 = .ok (.sipush 255, 3) := by decide +kernel
theorem dX9_never_13 : decode cX9_never 13 = .ok (.istore_n 1, 1) := by decide +kernel
theorem dX9_never_14 : decode cX9_never 14 = .ok (.iconst 0, 1) := by decide +kernel
theorem dX9_never_15 : decode cX9_never 15 = .ok (.istore_n 2, 1) := by decide +kernel
theorem dX9_never_16 : decode cX9_never 16 = .ok (.iload_n 2, 1) := by decide +kernel
theorem dX9_never_17 : decode cX9_never 17 = .ok (.aload_n 0, 1) := by decide +kernel
theorem dX9_never_18 : decode cX9_never 18 = .ok (.getfield 150, 3) := by decide +kernel
theorem dX9_never_21 : decode cX9_never 21 = .ok (.if_icmp .ge 53, 3) := by decide +kernel
theorem dX9_never_24 : decode cX9_never 24 = .ok (.iconst 0, 1) := by decide +kernel
theorem dX9_never_25 : decode cX9_never 25 = .ok (.istore_n 3, 1) := by decide +kernel
theorem dX9_never_26 : decode cX9_never 26 = .ok (.iload_n 3, 1) := by decide +kernel
theorem dX9_never_27 : decode cX9_never 27 = .ok (.bipush 8, 2) := by decide +kernel
theorem dX9_never_29 : decode cX9_never 29 = .ok (.if_icmp .ge 39, 3) := by decide +kernel
