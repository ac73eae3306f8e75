theorem dX9_toldOf_2 : decode cX9_toldOf 2 = .ok (.iconst 0, 1) := by decide +kernel
theorem dX9_toldOf_3 : decode cX9_toldOf 3 = .ok (.istore_n 3, 1) := by decide +kernel
theorem dX9_toldOf_4 : decode cX9_toldOf 4 = .ok (.iload_n 3, 1) := by decide +kernel
theorem dX9_toldOf_5 : decode cX9_toldOf 5 = .ok (.bipush 8, 2) := by decide +kernel
theorem dX9_toldOf_7 : decode cX9_toldOf 7 = .ok (.if_icmp .ge 31, 3) := by decide +kernel
theorem dX9_toldOf_10 : decode cX9_toldOf 10 = .ok (.iload_n 2, 1) := by decide +kernel
theorem dX9_toldOf_11 : decode cX9_toldOf 11 = .ok (.iload_n 1, 1) := by decide +kernel
theorem dX9_toldOf_12 : decode cX9_toldOf 12 = .ok (.iload_n 3, 1) := by decide +kernel
theorem dX9_toldOf_13 : decode cX9_toldOf 13 = .ok (.ishr, 1) := by decide +kernel
theorem dX9_toldOf_14 : decode cX9_toldOf 14 = .ok (.iconst 1, 1) := by decide +kernel
theorem dX9_toldOf_15 : decode cX9_toldOf 15 = .ok (.iand, 1) := by decide +kernel
theorem dX9_toldOf_16 : decode cX9_toldOf 16 = .ok (.iconst 1, 1) := by decide +kernel
theorem dX9_toldOf_17 : decode cX9_toldOf 17 = .ok (.if_icmp .ne 12, 3) := by decide +kernel
theorem dX9_toldOf_20 : decode cX9_toldOf 20 = .ok (.aload_n 0, 1) := by decide +kernel
theorem dX9_toldOf_21 : decode cX9_toldOf 21 = .ok (.getfield 22, 3) := by decide +kernel
theorem dX9_toldOf_24 : decode cX9_toldOf 24 = .ok (.iload_n 3, 1) := by decide +kernel
theorem dX9_toldOf_25 : decode cX9_toldOf 25 = .ok (.iaload, 1) := by decide +kernel
theorem dX9_toldOf_26 : decode cX9_toldOf 26 = .ok (.goto 4, 3) := by decide +kernel
theorem dX9_toldOf_29 : decode cX9_toldOf 29 = .ok (.iconst 0, 1) := by decide +kernel
theorem dX9_toldOf_30 : decode cX9_toldOf 30 = .ok (.iadd, 1) := by decide +kernel
theorem dX9_toldOf_31 : decode cX9_toldOf 31 = .ok (.istore_n 2, 1) := by decide +kernel
theorem dX9_toldOf_32 : decode cX9_toldOf 32 = .ok (.iinc 3 1, 3) := by decide +kernel
theorem dX9_toldOf_35 : decode cX9_toldOf 35 = .ok (.goto (-31), 3) := by decide +kernel
theorem dX9_toldOf_38 : decode cX9_toldOf 38 = .ok (.iload_n 2, 1) := by decide +kernel
theorem dX9_toldOf_39 : decode cX9_toldOf 39 = .ok (.ireturn, 1) := by decide +kernel
set_option maxRecDepth 20000 in
theorem ggX9_check_X9_toldOf : GoodIn wsX9_check wsX9_toldOf := goodIn_r _ [8, 9, 10, 11, 12, 13, 14, 15, 16, 17, 18, 19, 20, 21, 22, 23, 24, 25, 26, 27, 28, 29, 30, 31, 32, 33, 34, 35, 36, 37] rfl (by decide +kernel)
set_option maxRecDepth 20000 in
theorem gX9_check_X9_toldOf : GoodIn wsX9_check (wsV RX9 204 RX9 yX9_toldOf wsX9_toldOf) := goodIn_app (goodIn_of _ (by decide +kernel)) ggX9_check_X9_toldOf
theorem dX9_check_0 : decode cX9_check 0 = .ok (.aload_n 0, 1) := by decide +kernel
theorem dX9_check_1 : decode cX9_check 1 = .ok (.iconst 0, 1) := by decide +kernel
theorem dX9_check_2 : decode cX9_check 2 = .ok (.putfield 45, 3) := by decide +kernel
theorem dX9_check_5 : decode cX9_check 5 = .ok (.aload_n 0, 1) := by decide +kernel
theorem dX9_check_6 : decode cX9_check 6 = .ok (.sipush 255, 3) := by decide +kernel
theorem dX9_check_9 : decode cX9_check 9 = .ok (.invokevirtual 204, 3) := by decide +kernel
theorem dX9_check_12 : decode cX9_check 12 = .ok (.sipush 1000, 3) := by decide +kernel
theorem dX9_check_15 : decode cX9_check 15 = .ok (.if_icmp .eq 5, 3) := by decide +kernel
theorem dX9_check_18 : decode cX9_check 18 = .ok (.iconst (-1), 1) := by decide +kernel
theorem dX9_check_19 : decode cX9_check 19 = .ok (.ireturn, 1) := by decide +kernel
theorem dX9_check_20 : decode cX9_check 20 = .ok (.iconst 0, 1) := by decide +kernel
theorem dX9_check_21 : decode cX9_check 21 = .ok (.istore_n 1, 1) := by decide +kernel
theorem dX9_check_22 : decode cX9_check 22 = .ok (.iconst 0, 1) := by decide +kernel
theorem dX9_check_23 : decode cX9_check 23 = .ok (.istore_n 2, 1) := by decide +kernel
theorem dX9_check_24 : decode cX9_check 24 = .ok (.iload_n 2, 1) := by decide +kernel
theorem dX9_check_25 : decode cX9_check 25 = .ok (.aload_n 0, 1) := by decide +kernel
theorem dX9_check_26 : decode cX9_check 26 = .ok (.getfield 49, 3) := by decide +kernel
theorem dX9_check_29 : decode cX9_check 29 = .ok (.if_icmp .ge 120, 3) := by decide +kernel
theorem dX9_check_32 : decode cX9_check 32 = .ok (.aload_n 0, 1) := by decide +kernel
theorem dX9_check_33 : decode cX9_check 33 = .ok (.aload_n 0, 1) := by decide +kernel
theorem dX9_check_34 : decode cX9_check 34 = .ok (.getfield 13, 3) := by decide +kernel
theorem dX9_check_37 : decode cX9_check 37 = .ok (.iconst 5, 1) := by decide +kernel
theorem dX9_check_38 : decode cX9_check 38 = .ok (.iload_n 2, 1) := by decide +kernel
theorem dX9_check_39 : decode cX9_check 39 = .ok (.imul, 1) := by decide +kernel
theorem dX9_check_40 : decode cX9_check 40 = .ok (.iconst 1, 1) := by decide +kernel
theorem dX9_check_41 : decode cX9_check 41 = .ok (.iadd, 1) := by decide +kernel
theorem dX9_check_42 : decode cX9_check 42 = .ok (.iaload, 1) := by decide +kernel
theorem dX9_check_43 : decode cX9_check 43 = .ok (.invokevirtual 204, 3) := by decide +kernel
theorem dX9_check_46 : decode cX9_check 46 = .ok (.istore_n 3, 1) := by decide +kernel
theorem dX9_check_47 : decode cX9_check 47 = .ok (.bipush 100, 2) := by decide +kernel
theorem dX9_check_49 : decode cX9_check 49 = .ok (.aload_n 0, 1) := by decide +kernel
theorem dX9_check_50 : decode cX9_check 50 = .ok (.aload_n 0, 1) := by decide +kernel
theorem dX9_check_51 : decode cX9_check 51 = .ok (.getfield 13, 3) := by decide +kernel
theorem dX9_check_54 : decode cX9_check 54 = .ok (.iconst 5, 1) := by decide +kernel
theorem dX9_check_55 : decode cX9_check 55 = .ok (.iload_n 2, 1) := by decide +kernel
theorem dX9_check_56 : decode cX9_check 56 = .ok (.imul, 1) := by decide +kernel
theorem dX9_check_57 : decode cX9_check 57 = .ok (.iconst 1, 1) := by decide +kernel
theorem dX9_check_58 : decode cX9_check 58 = .ok (.iadd, 1) := by decide +kernel
theorem dX9_check_59 : decode cX9_check 59 = .ok (.iaload, 1) := by decide +kernel
theorem dX9_check_60 : decode cX9_check 60 = .ok (.aload_n 0, 1) := by decide +kernel
theorem dX9_check_61 : decode cX9_check 61 = .ok (.getfield 13, 3) := by decide +kernel
theorem dX9_check_64 : decode cX9_check 64 = .ok (.iconst 5, 1) := by decide +kernel
theorem dX9_check_65 : decode cX9_check 65 = .ok (.iload_n 2, 1) := by decide +kernel
theorem dX9_check_66 : decode cX9_check 66 = .ok (.imul, 1) := by decide +kernel
theorem dX9_check_67 : decode cX9_check 67 = .ok (.iaload, 1) := by decide +kernel
theorem dX9_check_68 : decode cX9_check 68 = .ok (.iand, 1) := by decide +kernel
theorem dX9_check_69 : decode cX9_check 69 = .ok (.invokevirtual 204, 3) := by decide +kernel
theorem dX9_check_72 : decode cX9_check 72 = .ok (.imul, 1) := by decide +kernel
theorem dX9_check_73 : decode cX9_check 73 = .ok (.istore 4, 2) := by decide +kernel
theorem dX9_check_75 : decode cX9_check 75 = .ok (.iload 4, 2) := by decide +kernel
theorem dX9_check_77 : decode cX9_check 77 = .ok (.aload_n 0, 1) := by decide +kernel
theorem dX9_check_78 : decode cX9_check 78 = .ok (.getfield 13, 3) := by decide +kernel
theorem dX9_check_81 : decode cX9_check 81 = .ok (.iconst 5, 1) := by decide +kernel
theorem dX9_check_82 : decode cX9_check 82 = .ok (.iload_n 2, 1) := by decide +kernel
theorem dX9_check_83 : decode cX9_check 83 = .ok (.imul, 1) := by decide +kernel
theorem dX9_check_84 : decode cX9_check 84 = .ok (.iconst 2, 1) := by decide +kernel
theorem dX9_check_85 : decode cX9_check 85 = .ok (.iadd, 1) := by decide +kernel
theorem dX9_check_86 : decode cX9_check 86 = .ok (.iaload, 1) := by decide +kernel
theorem dX9_check_87 : decode cX9_check 87 = .ok (.iload_n 3, 1) := by decide +kernel
theorem dX9_check_88 : decode cX9_check 88 = .ok (.imul, 1) := by decide +kernel
theorem dX9_check_89 : decode cX9_check 89 = .ok (.if_icmp .lt 24, 3) := by decide +kernel
theorem dX9_check_92 : decode cX9_check 92 = .ok (.iload 4, 2) := by decide +kernel
theorem dX9_check_94 : decode cX9_check 94 = .ok (.aload_n 0, 1) := by decide +kernel
theorem dX9_check_95 : decode cX9_check 95 = .ok (.getfield 13, 3) := by decide +kernel
theorem dX9_check_98 : decode cX9_check 98 = .ok (.iconst 5, 1) := by decide +kernel
theorem dX9_check_99 : decode cX9_check 99 = .ok (.iload_n 2, 1) := by decide +kernel
theorem dX9_check_100 : decode cX9_check 100 = .ok (.imul, 1) := by decide +kernel
theorem dX9_check_101 : decode cX9_check 101 = .ok (.iconst 3, 1) := by decide +kernel
theorem dX9_check_102 : decode cX9_check 102 = .ok (.iadd, 1) := by decide +kernel
theorem dX9_check_103 : decode cX9_check 103 = .ok (.iaload, 1) := by decide +kernel
theorem dX9_check_104 : decode cX9_check 104 = .ok (.iload_n 3, 1) := by decide +kernel
theorem dX9_check_105 : decode cX9_check 105 = .ok (.imul, 1) := by decide +kernel
theorem dX9_check_106 : decode cX9_check 106 = .ok (.if_icmp .gt 7, 3) := by decide +kernel
theorem dX9_check_109 : decode cX9_check 109 = .ok (.iconst 1, 1) := by decide +kernel
theorem dX9_check_110 : decode cX9_check 110 = .ok (.goto 4, 3) := by decide +kernel
theorem dX9_check_113 : decode cX9_check 113 = .ok (.iconst 0, 1) := by decide +kernel
theorem dX9_check_114 : decode cX9_check 114 = .ok (.istore 5, 2) := by decide +kernel
theorem dX9_check_116 : decode cX9_check 116 = .ok (.iload_n 1, 1) := by decide +kernel
theorem dX9_check_117 : decode cX9_check 117 = .ok (.aload_n 0, 1) := by decide +kernel
theorem dX9_check_118 : decode cX9_check 118 = .ok (.getfield 13, 3) := by decide +kernel
theorem dX9_check_121 : decode cX9_check 121 = .ok (.iconst 5, 1) := by decide +kernel
theorem dX9_check_122 : decode cX9_check 122 = .ok (.iload_n 2, 1) := by decide +kernel
theorem dX9_check_123 : decode cX9_check 123 = .ok (.imul, 1) := by decide +kernel
theorem dX9_check_124 : decode cX9_check 124 = .ok (.iconst 4, 1) := by decide +kernel
theorem dX9_check_125 : decode cX9_check 125 = .ok (.iadd, 1) := by decide +kernel
theorem dX9_check_126 : decode cX9_check 126 = .ok (.iaload, 1) := by decide +kernel
theorem dX9_check_127 : decode cX9_check 127 = .ok (.iconst 1, 1) := by decide +kernel
theorem dX9_check_128 : decode cX9_check 128 = .ok (.if_icmp .ne 12, 3) := by decide +kernel
theorem dX9_check_131 : decode cX9_check 131 = .ok (.iload 5, 2) := by decide +kernel
theorem dX9_check_133 : decode cX9_check 133 = .ok (.ifCond .ne 7, 3) := by decide +kernel
theorem dX9_check_136 : decode cX9_check 136 = .ok (.iconst 1, 1) := by decide +kernel
theorem dX9_check_137 : decode cX9_check 137 = .ok (.goto 4, 3) := by decide +kernel
theorem dX9_check_140 : decode cX9_check 140 = .ok (.iconst 0, 1) := by decide +kernel
theorem dX9_check_141 : decode cX9_check 141 = .ok (.iadd, 1) := by decide +kernel
theorem dX9_check_142 : decode cX9_check 142 = .ok (.istore_n 1, 1) := by decide +kernel
theorem dX9_check_143 : decode cX9_check 143 = .ok (.iinc 2 1, 3) := by decide +kernel
theorem dX9_check_146 : decode cX9_check 146 = .ok (.goto (-122), 3) := by decide +kernel
theorem dX9_check_149 : decode cX9_check 149 = .ok (.iload_n 1, 1) := by decide +kernel
theorem dX9_check_150 : decode cX9_check 150 = .ok (.ireturn, 1) := by decide +kernel
set_option maxRecDepth 20000 in
theorem ggX9_pull_X9_isThing : GoodIn wsX9_pull wsX9_isThing := goodIn_r _ [7, 8, 9, 6, 10] rfl (by decide +kernel)
set_option maxRecDepth 20000 in
theorem gX9_pull_X9_isThing : GoodIn wsX9_pull (va_wsS RX9 187 yX9_isThing wsX9_isThing) := goodIn_app (goodIn_of _ (by decide +kernel)) ggX9_pull_X9_isThing
set_option maxRecDepth 20000 in
theorem ggX9_pull_X9_in : GoodIn wsX9_pull wsX9_in := goodIn_r _ [10] rfl (by decide +kernel)
set_option maxRecDepth 20000 in
theorem gX9_pull_X9_in : GoodIn wsX9_pull (va_wsS RX9 52 yX9_in wsX9_in) := goodIn_app (goodIn_of _ (by decide +kernel)) ggX9_pull_X9_in
set_option maxRecDepth 20000 in
theorem ggX9_pull_X9_isBit : GoodIn wsX9_pull wsX9_isBit := goodIn_r _ [13] rfl (by decide +kernel)
set_option maxRecDepth 20000 in
theorem gX9_pull_X9_isBit : GoodIn wsX9_pull (va_wsS RX9 127 yX9_isBit wsX9_isBit) := goodIn_app (goodIn_of _ (by decide +kernel)) ggX9_pull_X9_isBit
set_option maxRecDepth 20000 in
theorem ggX9_pull_X9_toldOf : GoodIn wsX9_pull wsX9_toldOf := goodIn_r _ [17, 3, 24, 25, 26, 27, 28, 29, 30, 31, 32, 33, 34, 35, 36, 37, 38, 39, 40, 41, 42, 43, 44, 45, 46, 47, 48, 49, 50, 51] rfl (by decide +kernel)
set_option maxRecDepth 20000 in
theorem gX9_pull_X9_toldOf : GoodIn wsX9_pull (wsV RX9 204 RX9 yX9_toldOf wsX9_toldOf) := goodIn_app (goodIn_of _ (by decide +kernel)) ggX9_pull_X9_toldOf
set_option maxRecDepth 20000 in
theorem ggX9_pull_X9_tells : GoodIn wsX9_pull wsX9_tells := goodIn_r _ [20, 21, 22, 6, 23] rfl (by decide +kernel)
set_option maxRecDepth 20000 in
theorem gX9_pull_X9_tells : GoodIn wsX9_pull (va_wsS RX9 196 yX9_tells wsX9_tells) := goodIn_app (goodIn_of _ (by decide +kernel)) ggX9_pull_X9_tells
theorem dX9_pull_0 : decode cX9_pull 0 = .ok (.aload_n 0, 1) := by decide +kernel
theorem dX9_pull_1 : decode cX9_pull 1 = .ok (.iconst 0, 1) := by decide +kernel
theorem dX9_pull_2 : decode cX9_pull 2 = .ok (.putfield 45, 3) := by decide +kernel
theorem dX9_pull_5 : decode cX9_pull 5 = .ok (.iload_n 1, 1) := by decide +kernel
theorem dX9_pull_6 : decode cX9_pull 6 = .ok (.invokestatic 187, 3) := by decide +kernel
theorem dX9_pull_9 : decode cX9_pull 9 = .ok (.ifCond .eq 41, 3) := by decide +kernel
theorem dX9_pull_12 : decode cX9_pull 12 = .ok (.iload_n 2, 1) := by decide +kernel
theorem dX9_pull_13 : decode cX9_pull 13 = .ok (.iconst 0, 1) := by decide +kernel
theorem dX9_pull_14 : decode cX9_pull 14 = .ok (.bipush 7, 2) := by decide +kernel
theorem dX9_pull_16 : decode cX9_pull 16 = .ok (.invokestatic 52, 3) := by decide +kernel
theorem dX9_pull_19 : decode cX9_pull 19 = .ok (.ifCond .eq 31, 3) := by decide +kernel
theorem dX9_pull_22 : decode cX9_pull 22 = .ok (.iload_n 3, 1) := by decide +kernel
theorem dX9_pull_23 : decode cX9_pull 23 = .ok (.invokestatic 127, 3) := by decide +kernel
theorem dX9_pull_26 : decode cX9_pull 26 = .ok (.ifCond .eq 24, 3) := by decide +kernel
theorem dX9_pull_29 : decode cX9_pull 29 = .ok (.aload_n 0, 1) := by decide +kernel
theorem dX9_pull_30 : decode cX9_pull 30 = .ok (.sipush 255, 3) := by decide +kernel
theorem dX9_pull_33 : decode cX9_pull 33 = .ok (.invokevirtual 204, 3) := by decide +kernel
theorem dX9_pull_36 : decode cX9_pull 36 = .ok (.sipush 1000, 3) := by decide +kernel
theorem dX9_pull_39 : decode cX9_pull 39 = .ok (.if_icmp .ne 11, 3) := by decide +kernel
theorem dX9_pull_42 : decode cX9_pull 42 = .ok (.aload_n 0, 1) := by decide +kernel
theorem dX9_pull_43 : decode cX9_pull 43 = .ok (.iload_n 1, 1) := by decide +kernel
theorem dX9_pull_44 : decode cX9_pull 44 = .ok (.invokevirtual 204, 3) := by decide +kernel
theorem dX9_pull_47 : decode cX9_pull 47 = .ok (.ifCond .ne 7, 3) := by decide +kernel
theorem dX9_pull_50 : decode cX9_pull 50 = .ok (.ldc2_w 190, 3) := by decide +kernel
theorem dX9_pull_53 : decode cX9_pull 53 = .ok (.lreturn, 1) := by decide +kernel
theorem dX9_pull_54 : decode cX9_pull 54 = .ok (.iload_n 1, 1) := by decide +kernel
theorem dX9_pull_55 : decode cX9_pull 55 = .ok (.iload_n 2, 1) := by decide +kernel
theorem dX9_pull_56 : decode cX9_pull 56 = .ok (.ishr, 1) := by decide +kernel
theorem dX9_pull_57 : decode cX9_pull 57 = .ok (.iconst 1, 1) := by decide +kernel
theorem dX9_pull_58 : decode cX9_pull 58 = .ok (.iand, 1) := by decide +kernel
theorem dX9_pull_59 : decode cX9_pull 59 = .ok (.iconst 1, 1) := by decide +kernel
theorem dX9_pull_60 : decode cX9_pull 60 = .ok (.if_icmp .ne 13, 3) := by decide +kernel
theorem dX9_pull_63 : decode cX9_pull 63 = .ok (.aload_n 0, 1) := by decide +kernel
theorem dX9_pull_64 : decode cX9_pull 64 = .ok (.getfield 22, 3) := by decide +kernel
theorem dX9_pull_67 : decode cX9_pull 67 = .ok (.iload_n 2, 1) := by decide +kernel
theorem dX9_pull_68 : decode cX9_pull 68 = .ok (.iaload, 1) := by decide +kernel
theorem dX9_pull_69 : decode cX9_pull 69 = .ok (.i2l, 1) := by decide +kernel
theorem dX9_pull_70 : decode cX9_pull 70 = .ok (.goto 4, 3) := by decide +kernel
theorem dX9_pull_73 : decode cX9_pull 73 = .ok (.lconst 0, 1) := by decide +kernel
theorem dX9_pull_74 : decode cX9_pull 74 = .ok (.aload_n 0, 1) := by decide +kernel
theorem dX9_pull_75 : decode cX9_pull 75 = .ok (.iload_n 1, 1) := by decide +kernel
theorem dX9_pull_76 : decode cX9_pull 76 = .ok (.invokevirtual 204, 3) := by decide +kernel
theorem dX9_pull_79 : decode cX9_pull 79 = .ok (.i2l, 1) := by decide +kernel
theorem dX9_pull_80 : decode cX9_pull 80 = .ok (.iload_n 3, 1) := by decide +kernel
theorem dX9_pull_81 : decode cX9_pull 81 = .ok (.invokestatic 196, 3) := by decide +kernel
theorem dX9_pull_84 : decode cX9_pull 84 = .ok (.lreturn, 1) := by decide +kernel
set_option maxRecDepth 20000 in
theorem ggX9_count_X9_ons : GoodIn wsX9_count wsX9_ons := goodIn_r _ [8, 2, 9, 18, 19, 20, 21, 22, 23, 24, 25, 26, 27, 28, 29, 30, 31, 32, 33, 34, 35, 36, 37, 38, 39, 40, 41, 42, 43, 44, 45] rfl (by decide +kernel)
set_option maxRecDepth 20000 in
theorem gX9_count_X9_ons : GoodIn wsX9_count (wsV RX9 163 RX9 yX9_ons wsX9_ons) := goodIn_app (goodIn_of _ (by decide +kernel)) ggX9_count_X9_ons
set_option maxRecDepth 20000 in
theorem ggX9_count_X9_ones : GoodIn wsX9_count wsX9_ones := goodIn_r _ [12] rfl (by decide +kernel)
set_option maxRecDepth 20000 in
theorem gX9_count_X9_ones : GoodIn wsX9_count (va_wsS RX9 156 yX9_ones wsX9_ones) := goodIn_app (goodIn_of _ (by decide +kernel)) ggX9_count_X9_ones
set_option maxRecDepth 20000 in
theorem ggX9_count_X9_toldOf : GoodIn wsX9_count wsX9_toldOf := goodIn_r _ [16, 17, 18, 19, 20, 21, 22, 23, 24, 25, 26, 27, 28, 29, 30, 31, 32, 33, 34, 35, 36, 37, 38, 39, 40, 41, 42, 43, 44, 45] rfl (by decide +kernel)
set_option maxRecDepth 20000 in
theorem gX9_count_X9_toldOf : GoodIn wsX9_count (wsV RX9 204 RX9 yX9_toldOf wsX9_toldOf) := goodIn_app (goodIn_of _ (by decide +kernel)) ggX9_count_X9_toldOf
theorem dX9_count_0 : decode cX9_count 0 = .ok (.aload_n 0, 1) := by decide +kernel
theorem dX9_count_1 : decode cX9_count 1 = .ok (.iconst 0, 1) := by decide +kernel
theorem dX9_count_2 : decode cX9_count 2 = .ok (.putfield 45, 3) := by decide +kernel
theorem dX9_count_5 : decode cX9_count 5 = .ok (.iload_n 1, 1) := by decide +kernel
theorem dX9_count_6 : decode cX9_count 6 = .ok (.ifCond .ne 10, 3) := by decide +kernel
theorem dX9_count_9 : decode cX9_count 9 = .ok (.aload_n 0, 1) := by decide +kernel
theorem dX9_count_10 : decode cX9_count 10 = .ok (.getfield 49, 3) := by decide +kernel
theorem dX9_count_13 : decode cX9_count 13 = .ok (.goto 46, 3) := by decide +kernel
theorem dX9_count_16 : decode cX9_count 16 = .ok (.iload_n 1, 1) := by decide +kernel
theorem dX9_count_17 : decode cX9_count 17 = .ok (.iconst 1, 1) := by decide +kernel
theorem dX9_count_18 : decode cX9_count 18 = .ok (.if_icmp .ne 13, 3) := by decide +kernel
theorem dX9_count_21 : decode cX9_count 21 = .ok (.aload_n 0, 1) := by decide +kernel
theorem dX9_count_22 : decode cX9_count 22 = .ok (.invokevirtual 163, 3) := by decide +kernel
theorem dX9_count_25 : decode cX9_count 25 = .ok (.invokestatic 156, 3) := by decide +kernel
