theorem dX6_stepOverWord_63 : decode cX6_stepOverWord 63 = .ok (.aload_n 0, 1) := by decide +kernel
theorem dX6_stepOverWord_64 : decode cX6_stepOverWord 64 = .ok (.getfield 29, 3) := by decide +kernel
theorem dX6_stepOverWord_67 : decode cX6_stepOverWord 67 = .ok (.isub, 1) := by decide +kernel
theorem dX6_stepOverWord_68 : decode cX6_stepOverWord 68 = .ok (.iconst 1, 1) := by decide +kernel
theorem dX6_stepOverWord_69 : decode cX6_stepOverWord 69 = .ok (.if_icmp .ne 32, 3) := by decide +kernel
theorem dX6_stepOverWord_72 : decode cX6_stepOverWord 72 = .ok (.iload_n 1, 1) := by decide +kernel
theorem dX6_stepOverWord_73 : decode cX6_stepOverWord 73 = .ok (.ifCond .lt 28, 3) := by decide +kernel
theorem dX6_stepOverWord_76 : decode cX6_stepOverWord 76 = .ok (.iload_n 1, 1) := by decide +kernel
theorem dX6_stepOverWord_77 : decode cX6_stepOverWord 77 = .ok (.getstatic 55, 3) := by decide +kernel
theorem dX6_stepOverWord_80 : decode cX6_stepOverWord 80 = .ok (.arraylength, 1) := by decide +kernel
theorem dX6_stepOverWord_81 : decode cX6_stepOverWord 81 = .ok (.if_icmp .ge 20, 3) := by decide +kernel
theorem dX6_stepOverWord_84 : decode cX6_stepOverWord 84 = .ok (.aload_n 0, 1) := by decide +kernel
theorem dX6_stepOverWord_85 : decode cX6_stepOverWord 85 = .ok (.iconst 1, 1) := by decide +kernel
theorem dX6_stepOverWord_86 : decode cX6_stepOverWord 86 = .ok (.putfield 32, 3) := by decide +kernel
theorem dX6_stepOverWord_89 : decode cX6_stepOverWord 89 = .ok (.aload_n 0, 1) := by decide +kernel
theorem dX6_stepOverWord_90 : decode cX6_stepOverWord 90 = .ok (.getstatic 55, 3) := by decide +kernel
theorem dX6_stepOverWord_93 : decode cX6_stepOverWord 93 = .ok (.iload_n 1, 1) := by decide +kernel
theorem dX6_stepOverWord_94 : decode cX6_stepOverWord 94 = .ok (.iaload, 1) := by decide +kernel
theorem dX6_stepOverWord_95 : decode cX6_stepOverWord 95 = .ok (.putfield 59, 3) := by decide +kernel
theorem dX6_stepOverWord_98 : decode cX6_stepOverWord 98 = .ok (.goto 63, 3) := by decide +kernel
theorem dX6_stepOverWord_101 : decode cX6_stepOverWord 101 = .ok (.aload_n 0, 1) := by decide +kernel
theorem dX6_stepOverWord_102 : decode cX6_stepOverWord 102 = .ok (.getfield 13, 3) := by decide +kernel
theorem dX6_stepOverWord_105 : decode cX6_stepOverWord 105 = .ok (.aload_n 0, 1) := by decide +kernel
theorem dX6_stepOverWord_106 : decode cX6_stepOverWord 106 = .ok (.getfield 29, 3) := by decide +kernel
theorem dX6_stepOverWord_109 : decode cX6_stepOverWord 109 = .ok (.isub, 1) := by decide +kernel
theorem dX6_stepOverWord_110 : decode cX6_stepOverWord 110 = .ok (.iconst 2, 1) := by decide +kernel
theorem dX6_stepOverWord_111 : decode cX6_stepOverWord 111 = .ok (.if_icmp .ne 45, 3) := by decide +kernel
theorem dX6_stepOverWord_114 : decode cX6_stepOverWord 114 = .ok (.aload_n 0, 1) := by decide +kernel
theorem dX6_stepOverWord_115 : decode cX6_stepOverWord 115 = .ok (.getfield 7, 3) := by decide +kernel
theorem dX6_stepOverWord_118 : decode cX6_stepOverWord 118 = .ok (.aload_n 0, 1) := by decide +kernel
theorem dX6_stepOverWord_119 : decode cX6_stepOverWord 119 = .ok (.getfield 29, 3) := by decide +kernel
theorem dX6_stepOverWord_122 : decode cX6_stepOverWord 122 = .ok (.invokevirtual 25, 3) := by decide +kernel
theorem dX6_stepOverWord_125 : decode cX6_stepOverWord 125 = .ok (.bipush 105, 2) := by decide +kernel
theorem dX6_stepOverWord_127 : decode cX6_stepOverWord 127 = .ok (.if_icmp .ne 29, 3) := by decide +kernel
theorem dX6_stepOverWord_130 : decode cX6_stepOverWord 130 = .ok (.aload_n 0, 1) := by decide +kernel
theorem dX6_stepOverWord_131 : decode cX6_stepOverWord 131 = .ok (.getfield 7, 3) := by decide +kernel
theorem dX6_stepOverWord_134 : decode cX6_stepOverWord 134 = .ok (.aload_n 0, 1) := by decide +kernel
theorem dX6_stepOverWord_135 : decode cX6_stepOverWord 135 = .ok (.getfield 29, 3) := by decide +kernel
theorem dX6_stepOverWord_138 : decode cX6_stepOverWord 138 = .ok (.iconst 1, 1) := by decide +kernel
theorem dX6_stepOverWord_139 : decode cX6_stepOverWord 139 = .ok (.iadd, 1) := by decide +kernel
theorem dX6_stepOverWord_140 : decode cX6_stepOverWord 140 = .ok (.invokevirtual 25, 3) := by decide +kernel
theorem dX6_stepOverWord_143 : decode cX6_stepOverWord 143 = .ok (.bipush 102, 2) := by decide +kernel
theorem dX6_stepOverWord_145 : decode cX6_stepOverWord 145 = .ok (.if_icmp .ne 11, 3) := by decide +kernel
theorem dX6_stepOverWord_148 : decode cX6_stepOverWord 148 = .ok (.aload_n 0, 1) := by decide +kernel
theorem dX6_stepOverWord_149 : decode cX6_stepOverWord 149 = .ok (.iconst 2, 1) := by decide +kernel
theorem dX6_stepOverWord_150 : decode cX6_stepOverWord 150 = .ok (.putfield 32, 3) := by decide +kernel
theorem dX6_stepOverWord_153 : decode cX6_stepOverWord 153 = .ok (.goto 8, 3) := by decide +kernel
theorem dX6_stepOverWord_156 : decode cX6_stepOverWord 156 = .ok (.aload_n 0, 1) := by decide +kernel
theorem dX6_stepOverWord_157 : decode cX6_stepOverWord 157 = .ok (.iconst 4, 1) := by decide +kernel
theorem dX6_stepOverWord_158 : decode cX6_stepOverWord 158 = .ok (.putfield 32, 3) := by decide +kernel
theorem dX6_stepOverWord_161 : decode cX6_stepOverWord 161 = .ok (.return_, 1) := by decide +kernel
set_option maxRecDepth 20000 in
theorem ggX6_stepOverNumber_X5_at : GoodIn wsX6_stepOverNumber wsX5_at := goodIn_r _ [14, 15, 16, 26, 27] (by decide +kernel) (by decide +kernel)
set_option maxRecDepth 20000 in
theorem gX6_stepOverNumber_X5_at : GoodIn wsX6_stepOverNumber (wsV RX6 25 RX5 yX5_at wsX5_at) := goodIn_app (goodIn_of _ (by decide +kernel)) ggX6_stepOverNumber_X5_at
set_option maxRecDepth 20000 in
theorem ggX6_stepOverNumber_X6_isDigit : GoodIn wsX6_stepOverNumber wsX6_isDigit := goodIn_r _ [20] (by decide +kernel) (by decide +kernel)
set_option maxRecDepth 20000 in
theorem gX6_stepOverNumber_X6_isDigit : GoodIn wsX6_stepOverNumber (va_wsS RX6 42 yX6_isDigit wsX6_isDigit) := goodIn_app (goodIn_of _ (by decide +kernel)) ggX6_stepOverNumber_X6_isDigit
theorem dX6_stepOverNumber_0 : decode cX6_stepOverNumber 0 = .ok (.aload_n 0, 1) := by decide +kernel
theorem dX6_stepOverNumber_1 : decode cX6_stepOverNumber 1 = .ok (.iconst 0, 1) := by decide +kernel
theorem dX6_stepOverNumber_2 : decode cX6_stepOverNumber 2 = .ok (.putfield 59, 3) := by decide +kernel
theorem dX6_stepOverNumber_5 : decode cX6_stepOverNumber 5 = .ok (.aload_n 0, 1) := by decide +kernel
theorem dX6_stepOverNumber_6 : decode cX6_stepOverNumber 6 = .ok (.getfield 13, 3) := by decide +kernel
theorem dX6_stepOverNumber_9 : decode cX6_stepOverNumber 9 = .ok (.aload_n 0, 1) := by decide +kernel
theorem dX6_stepOverNumber_10 : decode cX6_stepOverNumber 10 = .ok (.getfield 7, 3) := by decide +kernel
theorem dX6_stepOverNumber_13 : decode cX6_stepOverNumber 13 = .ok (.getfield 20, 3) := by decide +kernel
theorem dX6_stepOverNumber_16 : decode cX6_stepOverNumber 16 = .ok (.if_icmp .ge 65, 3) := by decide +kernel
theorem dX6_stepOverNumber_19 : decode cX6_stepOverNumber 19 = .ok (.aload_n 0, 1) := by decide +kernel
theorem dX6_stepOverNumber_20 : decode cX6_stepOverNumber 20 = .ok (.getfield 7, 3) := by decide +kernel
theorem dX6_stepOverNumber_23 : decode cX6_stepOverNumber 23 = .ok (.aload_n 0, 1) := by decide +kernel
theorem dX6_stepOverNumber_24 : decode cX6_stepOverNumber 24 = .ok (.getfield 13, 3) := by decide +kernel
theorem dX6_stepOverNumber_27 : decode cX6_stepOverNumber 27 = .ok (.invokevirtual 25, 3) := by decide +kernel
theorem dX6_stepOverNumber_30 : decode cX6_stepOverNumber 30 = .ok (.invokestatic 42, 3) := by decide +kernel
theorem dX6_stepOverNumber_33 : decode cX6_stepOverNumber 33 = .ok (.ifCond .eq 48, 3) := by decide +kernel
theorem dX6_stepOverNumber_36 : decode cX6_stepOverNumber 36 = .ok (.aload_n 0, 1) := by decide +kernel
theorem dX6_stepOverNumber_37 : decode cX6_stepOverNumber 37 = .ok (.bipush 10, 2) := by decide +kernel
theorem dX6_stepOverNumber_39 : decode cX6_stepOverNumber 39 = .ok (.aload_n 0, 1) := by decide +kernel
theorem dX6_stepOverNumber_40 : decode cX6_stepOverNumber 40 = .ok (.getfield 59, 3) := by decide +kernel
theorem dX6_stepOverNumber_43 : decode cX6_stepOverNumber 43 = .ok (.imul, 1) := by decide +kernel
theorem dX6_stepOverNumber_44 : decode cX6_stepOverNumber 44 = .ok (.aload_n 0, 1) := by decide +kernel
theorem dX6_stepOverNumber_45 : decode cX6_stepOverNumber 45 = .ok (.getfield 7, 3) := by decide +kernel
theorem dX6_stepOverNumber_48 : decode cX6_stepOverNumber 48 = .ok (.aload_n 0, 1) := by decide +kernel
theorem dX6_stepOverNumber_49 : decode cX6_stepOverNumber 49 = .ok (.getfield 13, 3) := by decide +kernel
theorem dX6_stepOverNumber_52 : decode cX6_stepOverNumber 52 = .ok (.invokevirtual 25, 3) := by decide +kernel
theorem dX6_stepOverNumber_55 : decode cX6_stepOverNumber 55 = .ok (.iadd, 1) := by decide +kernel
theorem dX6_stepOverNumber_56 : decode cX6_stepOverNumber 56 = .ok (.bipush 48, 2) := by decide +kernel
theorem dX6_stepOverNumber_58 : decode cX6_stepOverNumber 58 = .ok (.isub, 1) := by decide +kernel
theorem dX6_stepOverNumber_59 : decode cX6_stepOverNumber 59 = .ok (.sipush 1000, 3) := by decide +kernel
theorem dX6_stepOverNumber_62 : decode cX6_stepOverNumber 62 = .ok (.invokestatic 62, 3) := by decide +kernel
theorem dX6_stepOverNumber_65 : decode cX6_stepOverNumber 65 = .ok (.putfield 59, 3) := by decide +kernel
theorem dX6_stepOverNumber_68 : decode cX6_stepOverNumber 68 = .ok (.aload_n 0, 1) := by decide +kernel
theorem dX6_stepOverNumber_69 : decode cX6_stepOverNumber 69 = .ok (.dup, 1) := by decide +kernel
theorem dX6_stepOverNumber_70 : decode cX6_stepOverNumber 70 = .ok (.getfield 13, 3) := by decide +kernel
theorem dX6_stepOverNumber_73 : decode cX6_stepOverNumber 73 = .ok (.iconst 1, 1) := by decide +kernel
theorem dX6_stepOverNumber_74 : decode cX6_stepOverNumber 74 = .ok (.iadd, 1) := by decide +kernel
theorem dX6_stepOverNumber_75 : decode cX6_stepOverNumber 75 = .ok (.putfield 13, 3) := by decide +kernel
theorem dX6_stepOverNumber_78 : decode cX6_stepOverNumber 78 = .ok (.goto (-73), 3) := by decide +kernel
theorem dX6_stepOverNumber_81 : decode cX6_stepOverNumber 81 = .ok (.aload_n 0, 1) := by decide +kernel
theorem dX6_stepOverNumber_82 : decode cX6_stepOverNumber 82 = .ok (.getfield 7, 3) := by decide +kernel
theorem dX6_stepOverNumber_85 : decode cX6_stepOverNumber 85 = .ok (.aload_n 0, 1) := by decide +kernel
theorem dX6_stepOverNumber_86 : decode cX6_stepOverNumber 86 = .ok (.getfield 29, 3) := by decide +kernel
theorem dX6_stepOverNumber_89 : decode cX6_stepOverNumber 89 = .ok (.invokevirtual 25, 3) := by decide +kernel
theorem dX6_stepOverNumber_92 : decode cX6_stepOverNumber 92 = .ok (.bipush 48, 2) := by decide +kernel
theorem dX6_stepOverNumber_94 : decode cX6_stepOverNumber 94 = .ok (.if_icmp .ne 20, 3) := by decide +kernel
theorem dX6_stepOverNumber_97 : decode cX6_stepOverNumber 97 = .ok (.aload_n 0, 1) := by decide +kernel
theorem dX6_stepOverNumber_98 : decode cX6_stepOverNumber 98 = .ok (.getfield 13, 3) := by decide +kernel
theorem dX6_stepOverNumber_101 : decode cX6_stepOverNumber 101 = .ok (.aload_n 0, 1) := by decide +kernel
theorem dX6_stepOverNumber_102 : decode cX6_stepOverNumber 102 = .ok (.getfield 29, 3) := by decide +kernel
theorem dX6_stepOverNumber_105 : decode cX6_stepOverNumber 105 = .ok (.isub, 1) := by decide +kernel
theorem dX6_stepOverNumber_106 : decode cX6_stepOverNumber 106 = .ok (.iconst 1, 1) := by decide +kernel
theorem dX6_stepOverNumber_107 : decode cX6_stepOverNumber 107 = .ok (.if_icmp .le 7, 3) := by decide +kernel
theorem dX6_stepOverNumber_110 : decode cX6_stepOverNumber 110 = .ok (.iconst 1, 1) := by decide +kernel
theorem dX6_stepOverNumber_111 : decode cX6_stepOverNumber 111 = .ok (.goto 4, 3) := by decide +kernel
theorem dX6_stepOverNumber_114 : decode cX6_stepOverNumber 114 = .ok (.iconst 0, 1) := by decide +kernel
theorem dX6_stepOverNumber_115 : decode cX6_stepOverNumber 115 = .ok (.istore_n 1, 1) := by decide +kernel
theorem dX6_stepOverNumber_116 : decode cX6_stepOverNumber 116 = .ok (.aload_n 0, 1) := by decide +kernel
theorem dX6_stepOverNumber_117 : decode cX6_stepOverNumber 117 = .ok (.iload_n 1, 1) := by decide +kernel
theorem dX6_stepOverNumber_118 : decode cX6_stepOverNumber 118 = .ok (.ifCond .ne 13, 3) := by decide +kernel
theorem dX6_stepOverNumber_121 : decode cX6_stepOverNumber 121 = .ok (.aload_n 0, 1) := by decide +kernel
theorem dX6_stepOverNumber_122 : decode cX6_stepOverNumber 122 = .ok (.getfield 59, 3) := by decide +kernel
theorem dX6_stepOverNumber_125 : decode cX6_stepOverNumber 125 = .ok (.sipush 1000, 3) := by decide +kernel
theorem dX6_stepOverNumber_128 : decode cX6_stepOverNumber 128 = .ok (.if_icmp .ne 7, 3) := by decide +kernel
theorem dX6_stepOverNumber_131 : decode cX6_stepOverNumber 131 = .ok (.iconst 4, 1) := by decide +kernel
theorem dX6_stepOverNumber_132 : decode cX6_stepOverNumber 132 = .ok (.goto 4, 3) := by decide +kernel
theorem dX6_stepOverNumber_135 : decode cX6_stepOverNumber 135 = .ok (.iconst 3, 1) := by decide +kernel
theorem dX6_stepOverNumber_136 : decode cX6_stepOverNumber 136 = .ok (.putfield 32, 3) := by decide +kernel
theorem dX6_stepOverNumber_139 : decode cX6_stepOverNumber 139 = .ok (.return_, 1) := by decide +kernel
theorem dX6_isLetter_0 : decode cX6_isLetter 0 = .ok (.iload_n 0, 1) := by decide +kernel
theorem dX6_isLetter_1 : decode cX6_isLetter 1 = .ok (.bipush 97, 2) := by decide +kernel
theorem dX6_isLetter_3 : decode cX6_isLetter 3 = .ok (.if_icmp .lt 13, 3) := by decide +kernel
theorem dX6_isLetter_6 : decode cX6_isLetter 6 = .ok (.iload_n 0, 1) := by decide +kernel
theorem dX6_isLetter_7 : decode cX6_isLetter 7 = .ok (.bipush 122, 2) := by decide +kernel
theorem dX6_isLetter_9 : decode cX6_isLetter 9 = .ok (.if_icmp .gt 7, 3) := by decide +kernel
theorem dX6_isLetter_12 : decode cX6_isLetter 12 = .ok (.iconst 1, 1) := by decide +kernel
theorem dX6_isLetter_13 : decode cX6_isLetter 13 = .ok (.goto 4, 3) := by decide +kernel
theorem dX6_isLetter_16 : decode cX6_isLetter 16 = .ok (.iconst 0, 1) := by decide +kernel
theorem dX6_isLetter_17 : decode cX6_isLetter 17 = .ok (.ireturn, 1) := by decide +kernel
theorem dX6_isDigit_0 : decode cX6_isDigit 0 = .ok (.iload_n 0, 1) := by decide +kernel
theorem dX6_isDigit_1 : decode cX6_isDigit 1 = .ok (.bipush 48, 2) := by decide +kernel
theorem dX6_isDigit_3 : decode cX6_isDigit 3 = .ok (.if_icmp .lt 13, 3) := by decide +kernel
theorem dX6_isDigit_6 : decode cX6_isDigit 6 = .ok (.iload_n 0, 1) := by decide +kernel
theorem dX6_isDigit_7 : decode cX6_isDigit 7 = .ok (.bipush 57, 2) := by decide +kernel
theorem dX6_isDigit_9 : decode cX6_isDigit 9 = .ok (.if_icmp .gt 7, 3) := by decide +kernel
theorem dX6_isDigit_12 : decode cX6_isDigit 12 = .ok (.iconst 1, 1) := by decide +kernel
theorem dX6_isDigit_13 : decode cX6_isDigit 13 = .ok (.goto 4, 3) := by decide +kernel
theorem dX6_isDigit_16 : decode cX6_isDigit 16 = .ok (.iconst 0, 1) := by decide +kernel
theorem dX6_isDigit_17 : decode cX6_isDigit 17 = .ok (.ireturn, 1) := by decide +kernel
theorem dX7_init_0 : decode cX7_init 0 = .ok (.aload_n 0, 1) := by decide +kernel
theorem dX7_init_1 : decode cX7_init 1 = .ok (.invokespecial 3, 3) := by decide +kernel
theorem dX7_init_4 : decode cX7_init 4 = .ok (.aload_n 0, 1) := by decide +kernel
theorem dX7_init_5 : decode cX7_init 5 = .ok (.bipush 8, 2) := by decide +kernel
theorem dX7_init_7 : decode cX7_init 7 = .ok (.newarray .int, 2) := by decide +kernel
theorem dX7_init_9 : decode cX7_init 9 = .ok (.putfield 9, 3) := by decide +kernel
theorem dX7_init_12 : decode cX7_init 12 = .ok (.iconst 0, 1) := by decide +kernel
theorem dX7_init_13 : decode cX7_init 13 = .ok (.istore_n 1, 1) := by decide +kernel
theorem dX7_init_14 : decode cX7_init 14 = .ok (.iload_n 1, 1) := by decide +kernel
theorem dX7_init_15 : decode cX7_init 15 = .ok (.bipush 8, 2) := by decide +kernel
theorem dX7_init_17 : decode cX7_init 17 = .ok (.if_icmp .ge 17, 3) := by decide +kernel
theorem dX7_init_20 : decode cX7_init 20 = .ok (.aload_n 0, 1) := by decide +kernel
theorem dX7_init_21 : decode cX7_init 21 = .ok (.getfield 9, 3) := by decide +kernel
theorem dX7_init_24 : decode cX7_init 24 = .ok (.iload_n 1, 1) := by decide +kernel
theorem dX7_init_25 : decode cX7_init 25 = .ok (.bipush 125, 2) := by decide +kernel
theorem dX7_init_27 : decode cX7_init 27 = .ok (.iastore, 1) := by decide +kernel
theorem dX7_init_28 : decode cX7_init 28 = .ok (.iinc 1 1, 3) := by decide +kernel
theorem dX7_init_31 : decode cX7_init 31 = .ok (.goto (-17), 3) := by decide +kernel
theorem dX7_init_34 : decode cX7_init 34 = .ok (.return_, 1) := by decide +kernel
set_option maxRecDepth 20000 in
theorem ggX7_chance_X8_has : GoodIn wsX7_chance wsX8_has := goodIn_r _ [4] (by decide +kernel) (by decide +kernel)
set_option maxRecDepth 20000 in
theorem gX7_chance_X8_has_n15 : GoodIn wsX7_chance (wsX8_has) := ggX7_chance_X8_has
theorem dX7_chance_0 : decode cX7_chance 0 = .ok (.iconst 0, 1) := by decide +kernel
theorem dX7_chance_1 : decode cX7_chance 1 = .ok (.istore_n 2, 1) := by decide +kernel
theorem dX7_chance_2 : decode cX7_chance 2 = .ok (.iconst 0, 1) := by decide +kernel
theorem dX7_chance_3 : decode cX7_chance 3 = .ok (.istore_n 3, 1) := by decide +kernel
theorem dX7_chance_4 : decode cX7_chance 4 = .ok (.iload_n 3, 1) := by decide +kernel
theorem dX7_chance_5 : decode cX7_chance 5 = .ok (.bipush 8, 2) := by decide +kernel
theorem dX7_chance_7 : decode cX7_chance 7 = .ok (.if_icmp .ge 26, 3) := by decide +kernel
theorem dX7_chance_10 : decode cX7_chance 10 = .ok (.iload_n 1, 1) := by decide +kernel
theorem dX7_chance_11 : decode cX7_chance 11 = .ok (.iload_n 3, 1) := by decide +kernel
theorem dX7_chance_12 : decode cX7_chance 12 = .ok (.invokestatic 15, 3) := by decide +kernel
theorem dX7_chance_15 : decode cX7_chance 15 = .ok (.ifCond .eq 12, 3) := by decide +kernel
theorem dX7_chance_18 : decode cX7_chance 18 = .ok (.iload_n 2, 1) := by decide +kernel
theorem dX7_chance_19 : decode cX7_chance 19 = .ok (.aload_n 0, 1) := by decide +kernel
theorem dX7_chance_20 : decode cX7_chance 20 = .ok (.getfield 9, 3) := by decide +kernel
theorem dX7_chance_23 : decode cX7_chance 23 = .ok (.iload_n 3, 1) := by decide +kernel
theorem dX7_chance_24 : decode cX7_chance 24 = .ok (.iaload, 1) := by decide +kernel
theorem dX7_chance_25 : decode cX7_chance 25 = .ok (.iadd, 1) := by decide +kernel
theorem dX7_chance_26 : decode cX7_chance 26 = .ok (.istore_n 2, 1) := by decide +kernel
theorem dX7_chance_27 : decode cX7_chance 27 = .ok (.iinc 3 1, 3) := by decide +kernel
theorem dX7_chance_30 : decode cX7_chance 30 = .ok (.goto (-26), 3) := by decide +kernel
theorem dX7_chance_33 : decode cX7_chance 33 = .ok (.iload_n 2, 1) := by decide +kernel
theorem dX7_chance_34 : decode cX7_chance 34 = .ok (.ireturn, 1) := by decide +kernel
set_option maxRecDepth 20000 in
theorem ggX7_isWhole_X7_chance : GoodIn wsX7_isWhole wsX7_chance := goodIn_r _ [5, 6, 7, 8, 9, 10] (by decide +kernel) (by decide +kernel)
set_option maxRecDepth 20000 in
theorem gX7_isWhole_X7_chance : GoodIn wsX7_isWhole (wsV RX7 19 RX7 yX7_chance wsX7_chance) := goodIn_app (goodIn_of _ (by decide +kernel)) ggX7_isWhole_X7_chance
theorem dX7_isWhole_0 : decode cX7_isWhole 0 = .ok (.aload_n 0, 1) := by decide +kernel
theorem dX7_isWhole_1 : decode cX7_isWhole 1 = .ok (.sipush 255, 3) := by decide +kernel
theorem dX7_isWhole_4 : decode cX7_isWhole 4 = .ok (.invokevirtual 19, 3) := by decide +kernel
theorem dX7_isWhole_7 : decode cX7_isWhole 7 = .ok (.sipush 1000, 3) := by decide +kernel
theorem dX7_isWhole_10 : decode cX7_isWhole 10 = .ok (.if_icmp .ne 7, 3) := by decide +kernel
theorem dX7_isWhole_13 : decode cX7_isWhole 13 = .ok (.iconst 1, 1) := by decide +kernel
theorem dX7_isWhole_14 : decode cX7_isWhole 14 = .ok (.goto 4, 3) := by decide +kernel
theorem dX7_isWhole_17 : decode cX7_isWhole 17 = .ok (.iconst 0, 1) := by decide +kernel
theorem dX7_isWhole_18 : decode cX7_isWhole 18 = .ok (.ireturn, 1) := by decide +kernel
set_option maxRecDepth 20000 in
theorem ggX7_keeps_X7_chance : GoodIn wsX7_keeps wsX7_chance := goodIn_r _ [5, 6, 7, 8, 9, 31] (by decide +kernel) (by decide +kernel)
set_option maxRecDepth 20000 in
theorem gX7_keeps_X7_chance : GoodIn wsX7_keeps (wsV RX7 19 RX7 yX7_chance wsX7_chance) := goodIn_app (goodIn_of _ (by decide +kernel)) ggX7_keeps_X7_chance
set_option maxRecDepth 20000 in
theorem ggX7_keeps_X4_isKeptBy : GoodIn wsX7_keeps wsX4_isKeptBy := goodIn_r _ [14, 15, 16, 17, 13, 18, 19, 20, 21, 22, 23, 24, 25, 26, 27, 28, 29, 30] (by decide +kernel) (by decide +kernel)
set_option maxRecDepth 20000 in
theorem gX7_keeps_X4_isKeptBy : GoodIn wsX7_keeps (wsV RX7 32 RX4 yX4_isKeptBy wsX4_isKeptBy) := goodIn_app (goodIn_of _ (by decide +kernel)) ggX7_keeps_X4_isKeptBy
theorem dX7_keeps_0 : decode cX7_keeps 0 = .ok (.aload_n 1, 1) := by decide +kernel
theorem dX7_keeps_1 : decode cX7_keeps 1 = .ok (.aload_n 0, 1) := by decide +kernel
theorem dX7_keeps_2 : decode cX7_keeps 2 = .ok (.aload_n 1, 1) := by decide +kernel
theorem dX7_keeps_3 : decode cX7_keeps 3 = .ok (.getfield 23, 3) := by decide +kernel
theorem dX7_keeps_6 : decode cX7_keeps 6 = .ok (.aload_n 1, 1) := by decide +kernel
theorem dX7_keeps_7 : decode cX7_keeps 7 = .ok (.getfield 29, 3) := by decide +kernel
theorem dX7_keeps_10 : decode cX7_keeps 10 = .ok (.iand, 1) := by decide +kernel
theorem dX7_keeps_11 : decode cX7_keeps 11 = .ok (.invokevirtual 19, 3) := by decide +kernel
theorem dX7_keeps_14 : decode cX7_keeps 14 = .ok (.i2l, 1) := by decide +kernel
theorem dX7_keeps_15 : decode cX7_keeps 15 = .ok (.aload_n 0, 1) := by decide +kernel
theorem dX7_keeps_16 : decode cX7_keeps 16 = .ok (.aload_n 1, 1) := by decide +kernel
theorem dX7_keeps_17 : decode cX7_keeps 17 = .ok (.getfield 29, 3) := by decide +kernel
theorem dX7_keeps_20 : decode cX7_keeps 20 = .ok (.invokevirtual 19, 3) := by decide +kernel
theorem dX7_keeps_23 : decode cX7_keeps 23 = .ok (.i2l, 1) := by decide +kernel
theorem dX7_keeps_24 : decode cX7_keeps 24 = .ok (.invokevirtual 32, 3) := by decide +kernel
theorem dX7_keeps_27 : decode cX7_keeps 27 = .ok (.ireturn, 1) := by decide +kernel
set_option maxRecDepth 20000 in
theorem ggX8_init_X5_init : GoodIn wsX8_init wsX5_init := goodIn_r _ [34, 35, 2, 3, 36, 37, 106, 107] (by decide +kernel) (by decide +kernel)
set_option maxRecDepth 20000 in
theorem gX8_init_X5_init_n9 : GoodIn wsX8_init (wsX5_init) := ggX8_init_X5_init
set_option maxRecDepth 20000 in
theorem ggX8_init_X3_init : GoodIn wsX8_init wsX3_init := goodIn_r _ [40, 41, 2, 3, 42, 43, 44, 45, 46, 47, 14, 15, 48, 49, 50, 51, 52, 53, 54, 55, 135, 136, 137, 138, 139, 119, 120, 121, 122, 123, 124, 125, 126, 127, 128] (by decide +kernel) (by decide +kernel)
set_option maxRecDepth 20000 in
theorem gX8_init_X3_init : GoodIn wsX8_init (wsX3_init) := ggX8_init_X3_init
set_option maxRecDepth 20000 in
theorem ggX8_init_X4_init : GoodIn wsX8_init wsX4_init := goodIn_r _ [54, 55, 2, 3] (by decide +kernel) (by decide +kernel)
set_option maxRecDepth 20000 in
theorem gX8_init_X4_init_n31 : GoodIn wsX8_init (wsX4_init) := ggX8_init_X4_init
set_option maxRecDepth 20000 in
theorem ggX8_init_X2_init : GoodIn wsX8_init wsX2_init := goodIn_r _ [58, 59, 2, 3, 60, 61, 62, 63, 64, 65, 14, 15, 66, 67, 68, 69, 70, 71, 72, 73, 74, 75, 76, 77, 78, 79, 80, 36, 81, 82, 83, 84, 85, 53, 54, 55, 86, 87, 88, 89, 90, 91, 92, 93, 94, 95, 96, 97, 129, 130, 131, 140, 141, 142, 143, 144, 145, 146, 147, 148, 149, 124, 125, 126, 127, 128] (by decide +kernel) (by decide +kernel)
set_option maxRecDepth 20000 in
theorem gX8_init_X2_init : GoodIn wsX8_init (wsX2_init) := ggX8_init_X2_init
set_option maxRecDepth 20000 in
theorem ggX8_init_X7_init : GoodIn wsX8_init wsX7_init := goodIn_r _ [100, 101, 2, 3, 36, 102, 132] (by decide +kernel) (by decide +kernel)
set_option maxRecDepth 20000 in
theorem gX8_init_X7_init : GoodIn wsX8_init (wsX7_init) := ggX8_init_X7_init
set_option maxRecDepth 20000 in
theorem ggX8_init_X1_init : GoodIn wsX8_init wsX1_init := goodIn_r _ [104, 105, 2, 3] (by decide +kernel) (by decide +kernel)
set_option maxRecDepth 20000 in
theorem gX8_init_X1_init_n52 : GoodIn wsX8_init (wsX1_init) := ggX8_init_X1_init
theorem dX8_init_0 : decode cX8_init 0 = .ok (.aload_n 0, 1) := by decide +kernel
theorem dX8_init_1 : decode cX8_init 1 = .ok (.invokespecial 1, 3) := by decide +kernel
theorem dX8_init_4 : decode cX8_init 4 = .ok (.aload_n 0, 1) := by decide +kernel
theorem dX8_init_5 : decode cX8_init 5 = .ok (.new 7, 3) := by decide +kernel
theorem dX8_init_8 : decode cX8_init 8 = .ok (.dup, 1) := by decide +kernel
theorem dX8_init_9 : decode cX8_init 9 = .ok (.invokespecial 9, 3) := by decide +kernel
theorem dX8_init_12 : decode cX8_init 12 = .ok (.putfield 10, 3) := by decide +kernel
theorem dX8_init_15 : decode cX8_init 15 = .ok (.aload_n 0, 1) := by decide +kernel
theorem dX8_init_16 : decode cX8_init 16 = .ok (.new 16, 3) := by decide +kernel
theorem dX8_init_19 : decode cX8_init 19 = .ok (.dup, 1) := by decide +kernel
theorem dX8_init_20 : decode cX8_init 20 = .ok (.aload_n 0, 1) := by decide +kernel
theorem dX8_init_21 : decode cX8_init 21 = .ok (.getfield 10, 3) := by decide +kernel
theorem dX8_init_24 : decode cX8_init 24 = .ok (.invokespecial 18, 3) := by decide +kernel
theorem dX8_init_27 : decode cX8_init 27 = .ok (.putfield 21, 3) := by decide +kernel
theorem dX8_init_30 : decode cX8_init 30 = .ok (.aload_n 0, 1) := by decide +kernel
theorem dX8_init_31 : decode cX8_init 31 = .ok (.iconst 4, 1) := by decide +kernel
theorem dX8_init_32 : decode cX8_init 32 = .ok (.anewarray 25, 3) := by decide +kernel
theorem dX8_init_35 : decode cX8_init 35 = .ok (.putfield 27, 3) := by decide +kernel
theorem dX8_init_38 : decode cX8_init 38 = .ok (.iconst 0, 1) := by decide +kernel
theorem dX8_init_39 : decode cX8_init 39 = .ok (.istore_n 1, 1) := by decide +kernel
theorem dX8_init_40 : decode cX8_init 40 = .ok (.iload_n 1, 1) := by decide +kernel
theorem dX8_init_41 : decode cX8_init 41 = .ok (.iconst 4, 1) := by decide +kernel
theorem dX8_init_42 : decode cX8_init 42 = .ok (.if_icmp .ge 22, 3) := by decide +kernel
theorem dX8_init_45 : decode cX8_init 45 = .ok (.aload_n 0, 1) := by decide +kernel
theorem dX8_init_46 : decode cX8_init 46 = .ok (.getfield 27, 3) := by decide +kernel
theorem dX8_init_49 : decode cX8_init 49 = .ok (.iload_n 1, 1) := by decide +kernel
theorem dX8_init_50 : decode cX8_init 50 = .ok (.new 25, 3) := by decide +kernel
theorem dX8_init_53 : decode cX8_init 53 = .ok (.dup, 1) := by decide +kernel
theorem dX8_init_54 : decode cX8_init 54 = .ok (.invokespecial 31, 3) := by decide +kernel
theorem dX8_init_57 : decode cX8_init 57 = .ok (.aastore, 1) := by decide +kernel
theorem dX8_init_58 : decode cX8_init 58 = .ok (.iinc 1 1, 3) := by decide +kernel
theorem dX8_init_61 : decode cX8_init 61 = .ok (.goto (-21), 3) := by decide +kernel
theorem dX8_init_64 : decode cX8_init 64 = .ok (.aload_n 0, 1) := by decide +kernel
theorem dX8_init_65 : decode cX8_init 65 = .ok (.iconst 0, 1) := by decide +kernel
theorem dX8_init_66 : decode cX8_init 66 = .ok (.putfield 32, 3) := by decide +kernel
theorem dX8_init_69 : decode cX8_init 69 = .ok (.aload_n 0, 1) := by decide +kernel
theorem dX8_init_70 : decode cX8_init 70 = .ok (.new 36, 3) := by decide +kernel
theorem dX8_init_73 : decode cX8_init 73 = .ok (.dup, 1) := by decide +kernel
theorem dX8_init_74 : decode cX8_init 74 = .ok (.invokespecial 38, 3) := by decide +kernel
theorem dX8_init_77 : decode cX8_init 77 = .ok (.putfield 39, 3) := by decide +kernel
theorem dX8_init_80 : decode cX8_init 80 = .ok (.aload_n 0, 1) := by decide +kernel
theorem dX8_init_81 : decode cX8_init 81 = .ok (.new 43, 3) := by decide +kernel
theorem dX8_init_84 : decode cX8_init 84 = .ok (.dup, 1) := by decide +kernel
theorem dX8_init_85 : decode cX8_init 85 = .ok (.invokespecial 45, 3) := by decide +kernel
theorem dX8_init_88 : decode cX8_init 88 = .ok (.putfield 46, 3) := by decide +kernel
theorem dX8_init_91 : decode cX8_init 91 = .ok (.aload_n 0, 1) := by decide +kernel
theorem dX8_init_92 : decode cX8_init 92 = .ok (.new 50, 3) := by decide +kernel
theorem dX8_init_95 : decode cX8_init 95 = .ok (.dup, 1) := by decide +kernel
theorem dX8_init_96 : decode cX8_init 96 = .ok (.invokespecial 52, 3) := by decide +kernel
theorem dX8_init_99 : decode cX8_init 99 = .ok (.putfield 53, 3) := by decide +kernel
theorem dX8_init_102 : decode cX8_init 102 = .ok (.aload_n 0, 1) := by decide +kernel
theorem dX8_init_103 : decode cX8_init 103 = .ok (.new 50, 3) := by decide +kernel
theorem dX8_init_106 : decode cX8_init 106 = .ok (.dup, 1) := by decide +kernel
theorem dX8_init_107 : decode cX8_init 107 = .ok (.invokespecial 52, 3) := by decide +kernel
theorem dX8_init_110 : decode cX8_init 110 = .ok (.putfield 57, 3) := by decide +kernel
theorem dX8_init_113 : decode cX8_init 113 = .ok (.aload_n 0, 1) := by decide +kernel
theorem dX8_init_114 : decode cX8_init 114 = .ok (.new 50, 3) := by decide +kernel
theorem dX8_init_117 : decode cX8_init 117 = .ok (.dup, 1) := by decide +kernel
theorem dX8_init_118 : decode cX8_init 118 = .ok (.invokespecial 52, 3) := by decide +kernel
theorem dX8_init_121 : decode cX8_init 121 = .ok (.putfield 60, 3) := by decide +kernel
theorem dX8_init_124 : decode cX8_init 124 = .ok (.aload_n 0, 1) := by decide +kernel
theorem dX8_init_125 : decode cX8_init 125 = .ok (.new 50, 3) := by decide +kernel
theorem dX8_init_128 : decode cX8_init 128 = .ok (.dup, 1) := by decide +kernel
theorem dX8_init_129 : decode cX8_init 129 = .ok (.invokespecial 52, 3) := by decide +kernel
theorem dX8_init_132 : decode cX8_init 132 = .ok (.putfield 63, 3) := by decide +kernel
theorem dX8_init_135 : decode cX8_init 135 = .ok (.aload_n 0, 1) := by decide +kernel
theorem dX8_init_136 : decode cX8_init 136 = .ok (.new 50, 3) := by decide +kernel
theorem dX8_init_139 : decode cX8_init 139 = .ok (.dup, 1) := by decide +kernel
theorem dX8_init_140 : decode cX8_init 140 = .ok (.invokespecial 52, 3) := by decide +kernel
theorem dX8_init_143 : decode cX8_init 143 = .ok (.putfield 66, 3) := by decide +kernel
theorem dX8_init_146 : decode cX8_init 146 = .ok (.return_, 1) := by decide +kernel
set_option maxRecDepth 20000 in
theorem ggX8_type_X5_append : GoodIn wsX8_type wsX5_append := goodIn_r _ [6, 7, 8, 20, 21] (by decide +kernel) (by decide +kernel)
set_option maxRecDepth 20000 in
theorem gX8_type_X5_append : GoodIn wsX8_type (wsV RX8 72 RX5 yX5_append wsX5_append) := goodIn_app (goodIn_of _ (by decide +kernel)) ggX8_type_X5_append
theorem dX8_type_0 : decode cX8_type 0 = .ok (.iload_n 3, 1) := by decide +kernel
theorem dX8_type_1 : decode cX8_type 1 = .ok (.iconst 1, 1) := by decide +kernel
theorem dX8_type_2 : decode cX8_type 2 = .ok (.if_icmp .lt 9, 3) := by decide +kernel
theorem dX8_type_5 : decode cX8_type 5 = .ok (.iload_n 3, 1) := by decide +kernel
theorem dX8_type_6 : decode cX8_type 6 = .ok (.bipush 8, 2) := by decide +kernel
theorem dX8_type_8 : decode cX8_type 8 = .ok (.if_icmp .le 5, 3) := by decide +kernel
theorem dX8_type_11 : decode cX8_type 11 = .ok (.iconst (-1), 1) := by decide +kernel
theorem dX8_type_12 : decode cX8_type 12 = .ok (.ireturn, 1) := by decide +kernel
theorem dX8_type_13 : decode cX8_type 13 = .ok (.aload_n 0, 1) := by decide +kernel
theorem dX8_type_14 : decode cX8_type 14 = .ok (.getfield 10, 3) := by decide +kernel
theorem dX8_type_17 : decode cX8_type 17 = .ok (.getfield 69, 3) := by decide +kernel
theorem dX8_type_20 : decode cX8_type 20 = .ok (.iload_n 3, 1) := by decide +kernel
theorem dX8_type_21 : decode cX8_type 21 = .ok (.iadd, 1) := by decide +kernel
theorem dX8_type_22 : decode cX8_type 22 = .ok (.sipush 200, 3) := by decide +kernel
theorem dX8_type_25 : decode cX8_type 25 = .ok (.if_icmp .le 6, 3) := by decide +kernel
theorem dX8_type_28 : decode cX8_type 28 = .ok (.bipush (-3), 2) := by decide +kernel
theorem dX8_type_30 : decode cX8_type 30 = .ok (.ireturn, 1) := by decide +kernel
theorem dX8_type_31 : decode cX8_type 31 = .ok (.bipush 8, 2) := by decide +kernel
theorem dX8_type_33 : decode cX8_type 33 = .ok (.iload_n 3, 1) := by decide +kernel
theorem dX8_type_34 : decode cX8_type 34 = .ok (.iconst 1, 1) := by decide +kernel
theorem dX8_type_35 : decode cX8_type 35 = .ok (.isub, 1) := by decide +kernel
theorem dX8_type_36 : decode cX8_type 36 = .ok (.imul, 1) := by decide +kernel
theorem dX8_type_37 : decode cX8_type 37 = .ok (.istore 4, 2) := by decide +kernel
theorem dX8_type_39 : decode cX8_type 39 = .ok (.iload 4, 2) := by decide +kernel
theorem dX8_type_41 : decode cX8_type 41 = .ok (.ifCond .lt 25, 3) := by decide +kernel
theorem dX8_type_44 : decode cX8_type 44 = .ok (.aload_n 0, 1) := by decide +kernel
theorem dX8_type_45 : decode cX8_type 45 = .ok (.getfield 10, 3) := by decide +kernel
theorem dX8_type_48 : decode cX8_type 48 = .ok (.lload_n 1, 1) := by decide +kernel
theorem dX8_type_49 : decode cX8_type 49 = .ok (.iload 4, 2) := by decide +kernel
theorem dX8_type_51 : decode cX8_type 51 = .ok (.lshr, 1) := by decide +kernel
theorem dX8_type_52 : decode cX8_type 52 = .ok (.l2i, 1) := by decide +kernel
theorem dX8_type_53 : decode cX8_type 53 = .ok (.sipush 255, 3) := by decide +kernel
theorem dX8_type_56 : decode cX8_type 56 = .ok (.iand, 1) := by decide +kernel
theorem dX8_type_57 : decode cX8_type 57 = .ok (.invokevirtual 72, 3) := by decide +kernel
theorem dX8_type_60 : decode cX8_type 60 = .ok (.iinc 4 (-8), 3) := by decide +kernel
theorem dX8_type_63 : decode cX8_type 63 = .ok (.goto (-24), 3) := by decide +kernel
theorem dX8_type_66 : decode cX8_type 66 = .ok (.aload_n 0, 1) := by decide +kernel
theorem dX8_type_67 : decode cX8_type 67 = .ok (.getfield 10, 3) := by decide +kernel
theorem dX8_type_70 : decode cX8_type 70 = .ok (.getfield 69, 3) := by decide +kernel
theorem dX8_type_73 : decode cX8_type 73 = .ok (.ireturn, 1) := by decide +kernel
theorem dX8_clear_0 : decode cX8_clear 0 = .ok (.aload_n 0, 1) := by decide +kernel
theorem dX8_clear_1 : decode cX8_clear 1 = .ok (.getfield 10, 3) := by decide +kernel
theorem dX8_clear_4 : decode cX8_clear 4 = .ok (.getfield 69, 3) := by decide +kernel
theorem dX8_clear_7 : decode cX8_clear 7 = .ok (.istore_n 1, 1) := by decide +kernel
theorem dX8_clear_8 : decode cX8_clear 8 = .ok (.aload_n 0, 1) := by decide +kernel
theorem dX8_clear_9 : decode cX8_clear 9 = .ok (.getfield 10, 3) := by decide +kernel
theorem dX8_clear_12 : decode cX8_clear 12 = .ok (.iconst 0, 1) := by decide +kernel
theorem dX8_clear_13 : decode cX8_clear 13 = .ok (.putfield 69, 3) := by decide +kernel
theorem dX8_clear_16 : decode cX8_clear 16 = .ok (.iload_n 1, 1) := by decide +kernel
theorem dX8_clear_17 : decode cX8_clear 17 = .ok (.ireturn, 1) := by decide +kernel
set_option maxRecDepth 20000 in
theorem ggX8_read_X3_start : GoodIn wsX8_read wsX3_start := goodIn_r _ [9, 10, 11, 12, 13, 14, 15, 16, 17, 18, 19, 20, 21, 22, 23, 24, 25, 26, 27, 28, 29, 30, 31, 32, 33, 34, 35, 36, 37, 38, 39, 40, 41, 42, 43, 44, 45, 46, 47, 48, 49, 50, 51, 52, 53, 54, 55, 56, 57, 58, 59, 60, 61, 62, 63, 64, 65, 66, 67, 68, 69, 70, 71, 72, 73, 74, 75, 76, 77, 78, 79, 80, 81, 82, 83, 84, 85, 86, 87, 88, 89, 90, 91, 92, 93, 94, 95, 96, 97, 98, 99, 100, 101, 102, 103, 104, 105, 106, 107, 108, 109, 110, 111, 112, 113, 114, 115, 116, 117, 118, 119, 120, 121, 122, 123, 124, 125, 126, 127, 128, 129, 130, 131, 132, 133, 134, 135, 136, 137, 138, 199, 200, 201, 202, 203, 206, 207, 208, 209, 210, 204, 205] (by decide +kernel) (by decide +kernel)
set_option maxRecDepth 20000 in
theorem gX8_read_X3_start : GoodIn wsX8_read (wsV RX8 76 RX3 yX3_start wsX3_start) := goodIn_app (goodIn_of _ (by decide +kernel)) ggX8_read_X3_start
set_option maxRecDepth 20000 in
theorem ggX8_read_X3_isMore : GoodIn wsX8_read wsX3_isMore := goodIn_r _ [142, 11, 12, 199, 200, 201, 202, 203, 206, 207, 208, 209, 210] (by decide +kernel) (by decide +kernel)
set_option maxRecDepth 20000 in
theorem gX8_read_X3_isMore : GoodIn wsX8_read (wsV RX8 79 RX3 yX3_isMore wsX3_isMore) := goodIn_app (goodIn_of _ (by decide +kernel)) ggX8_read_X3_isMore
set_option maxRecDepth 20000 in
theorem ggX8_read_X3_readSaying : GoodIn wsX8_read wsX3_readSaying := goodIn_r _ [146, 10, 147, 148, 12, 149, 150, 151, 8, 152, 11, 153, 154, 155, 156, 157, 158, 159, 160, 161, 162, 163, 164, 20, 21, 16, 22, 18, 23, 24, 25, 26, 27, 28, 29, 30, 31, 32, 33, 34, 35, 36, 37, 38, 39, 40, 41, 42, 43, 44, 45, 46, 47, 48, 49, 50, 51, 52, 53, 54, 55, 56, 57, 58, 59, 60, 61, 62, 63, 64, 65, 66, 67, 68, 69, 70, 71, 72, 73, 74, 75, 76, 77, 78, 79, 80, 81, 82, 83, 84, 85, 86, 87, 88, 89, 90, 91, 92, 93, 94, 95, 96, 97, 98, 99, 100, 101, 102, 103, 104, 105, 106, 107, 108, 109, 110, 111, 112, 113, 114, 115, 116, 117, 118, 119, 120, 121, 122, 123, 124, 125, 126, 127, 128, 129, 130, 131, 132, 133, 134, 135, 136, 137, 138, 165, 166, 167, 168, 169, 170, 171, 172, 173, 174, 175, 176, 177, 199, 200, 201, 202, 203, 211, 212, 213, 214, 215, 206, 207, 208, 209, 210, 204, 205] (by decide +kernel) (by decide +kernel)
set_option maxRecDepth 20000 in
theorem gX8_read_X3_readSaying : GoodIn wsX8_read (wsV RX8 83 RX3 yX3_readSaying wsX3_readSaying) := goodIn_app (goodIn_of _ (by decide +kernel)) ggX8_read_X3_readSaying
set_option maxRecDepth 20000 in
theorem ggX8_read_X4_take : GoodIn wsX8_read wsX4_take := goodIn_r _ [182, 183, 184, 185, 186, 187, 211, 212, 213, 214, 215] (by decide +kernel) (by decide +kernel)
set_option maxRecDepth 20000 in
theorem gX8_read_X4_take : GoodIn wsX8_read (wsV RX8 92 RX4 yX4_take wsX4_take) := goodIn_app (goodIn_of _ (by decide +kernel)) ggX8_read_X4_take
theorem dX8_read_0 : decode cX8_read 0 = .ok (.aload_n 0, 1) := by decide +kernel
theorem dX8_read_1 : decode cX8_read 1 = .ok (.getfield 21, 3) := by decide +kernel
theorem dX8_read_4 : decode cX8_read 4 = .ok (.invokevirtual 76, 3) := by decide +kernel
theorem dX8_read_7 : decode cX8_read 7 = .ok (.iconst 0, 1) := by decide +kernel
theorem dX8_read_8 : decode cX8_read 8 = .ok (.istore_n 1, 1) := by decide +kernel
theorem dX8_read_9 : decode cX8_read 9 = .ok (.iload_n 1, 1) := by decide +kernel
theorem dX8_read_10 : decode cX8_read 10 = .ok (.iconst 4, 1) := by decide +kernel
theorem dX8_read_11 : decode cX8_read 11 = .ok (.if_icmp .gt 26, 3) := by decide +kernel
theorem dX8_read_14 : decode cX8_read 14 = .ok (.aload_n 0, 1) := by decide +kernel
theorem dX8_read_15 : decode cX8_read 15 = .ok (.getfield 21, 3) := by decide +kernel
theorem dX8_read_18 : decode cX8_read 18 = .ok (.invokevirtual 79, 3) := by decide +kernel
theorem dX8_read_21 : decode cX8_read 21 = .ok (.ifCond .eq 16, 3) := by decide +kernel
theorem dX8_read_24 : decode cX8_read 24 = .ok (.aload_n 0, 1) := by decide +kernel
theorem dX8_read_25 : decode cX8_read 25 = .ok (.getfield 21, 3) := by decide +kernel
theorem dX8_read_28 : decode cX8_read 28 = .ok (.invokevirtual 83, 3) := by decide +kernel
theorem dX8_read_31 : decode cX8_read 31 = .ok (.iinc 1 1, 3) := by decide +kernel
theorem dX8_read_34 : decode cX8_read 34 = .ok (.goto (-25), 3) := by decide +kernel
theorem dX8_read_37 : decode cX8_read 37 = .ok (.aload_n 0, 1) := by decide +kernel
theorem dX8_read_38 : decode cX8_read 38 = .ok (.getfield 21, 3) := by decide +kernel
theorem dX8_read_41 : decode cX8_read 41 = .ok (.getfield 86, 3) := by decide +kernel
theorem dX8_read_44 : decode cX8_read 44 = .ok (.ifCond .lt 14, 3) := by decide +kernel
theorem dX8_read_47 : decode cX8_read 47 = .ok (.bipush (-10), 2) := by decide +kernel
theorem dX8_read_49 : decode cX8_read 49 = .ok (.aload_n 0, 1) := by decide +kernel
theorem dX8_read_50 : decode cX8_read 50 = .ok (.getfield 21, 3) := by decide +kernel
theorem dX8_read_53 : decode cX8_read 53 = .ok (.getfield 86, 3) := by decide +kernel
theorem dX8_read_56 : decode cX8_read 56 = .ok (.isub, 1) := by decide +kernel
theorem dX8_read_57 : decode cX8_read 57 = .ok (.ireturn, 1) := by decide +kernel
theorem dX8_read_58 : decode cX8_read 58 = .ok (.iconst 0, 1) := by decide +kernel
theorem dX8_read_59 : decode cX8_read 59 = .ok (.istore_n 1, 1) := by decide +kernel
theorem dX8_read_60 : decode cX8_read 60 = .ok (.iload_n 1, 1) := by decide +kernel
theorem dX8_read_61 : decode cX8_read 61 = .ok (.iconst 4, 1) := by decide +kernel
theorem dX8_read_62 : decode cX8_read 62 = .ok (.if_icmp .ge 27, 3) := by decide +kernel
theorem dX8_read_65 : decode cX8_read 65 = .ok (.aload_n 0, 1) := by decide +kernel
theorem dX8_read_66 : decode cX8_read 66 = .ok (.getfield 27, 3) := by decide +kernel
theorem dX8_read_69 : decode cX8_read 69 = .ok (.iload_n 1, 1) := by decide +kernel
theorem dX8_read_70 : decode cX8_read 70 = .ok (.aaload, 1) := by decide +kernel
theorem dX8_read_71 : decode cX8_read 71 = .ok (.aload_n 0, 1) := by decide +kernel
theorem dX8_read_72 : decode cX8_read 72 = .ok (.getfield 21, 3) := by decide +kernel
theorem dX8_read_75 : decode cX8_read 75 = .ok (.getfield 89, 3) := by decide +kernel
theorem dX8_read_78 : decode cX8_read 78 = .ok (.iload_n 1, 1) := by decide +kernel
theorem dX8_read_79 : decode cX8_read 79 = .ok (.aaload, 1) := by decide +kernel
theorem dX8_read_80 : decode cX8_read 80 = .ok (.invokevirtual 92, 3) := by decide +kernel
theorem dX8_read_83 : decode cX8_read 83 = .ok (.iinc 1 1, 3) := by decide +kernel
theorem dX8_read_86 : decode cX8_read 86 = .ok (.goto (-26), 3) := by decide +kernel
theorem dX8_read_89 : decode cX8_read 89 = .ok (.aload_n 0, 1) := by decide +kernel
theorem dX8_read_90 : decode cX8_read 90 = .ok (.aload_n 0, 1) := by decide +kernel
theorem dX8_read_91 : decode cX8_read 91 = .ok (.getfield 21, 3) := by decide +kernel
theorem dX8_read_94 : decode cX8_read 94 = .ok (.getfield 96, 3) := by decide +kernel
theorem dX8_read_97 : decode cX8_read 97 = .ok (.putfield 32, 3) := by decide +kernel
theorem dX8_read_100 : decode cX8_read 100 = .ok (.aload_n 0, 1) := by decide +kernel
theorem dX8_read_101 : decode cX8_read 101 = .ok (.getfield 10, 3) := by decide +kernel
theorem dX8_read_104 : decode cX8_read 104 = .ok (.iconst 0, 1) := by decide +kernel
theorem dX8_read_105 : decode cX8_read 105 = .ok (.putfield 69, 3) := by decide +kernel
theorem dX8_read_108 : decode cX8_read 108 = .ok (.aload_n 0, 1) := by decide +kernel
theorem dX8_read_109 : decode cX8_read 109 = .ok (.getfield 32, 3) := by decide +kernel
theorem dX8_read_112 : decode cX8_read 112 = .ok (.ireturn, 1) := by decide +kernel
set_option maxRecDepth 20000 in
theorem ggX8_saying_X8_isSaying : GoodIn wsX8_saying wsX8_isSaying := goodIn_r _ [6, 7, 8, 9, 10, 11, 12, 13, 14, 15, 16, 17, 18] (by decide +kernel) (by decide +kernel)
set_option maxRecDepth 20000 in
theorem gX8_saying_X8_isSaying : GoodIn wsX8_saying (wsV RX8 99 RX8 yX8_isSaying wsX8_isSaying) := goodIn_app (goodIn_of _ (by decide +kernel)) ggX8_saying_X8_isSaying
theorem dX8_saying_0 : decode cX8_saying 0 = .ok (.aload_n 0, 1) := by decide +kernel
theorem dX8_saying_1 : decode cX8_saying 1 = .ok (.iload_n 1, 1) := by decide +kernel
theorem dX8_saying_2 : decode cX8_saying 2 = .ok (.invokevirtual 99, 3) := by decide +kernel
theorem dX8_saying_5 : decode cX8_saying 5 = .ok (.ifCond .ne 5, 3) := by decide +kernel
theorem dX8_saying_8 : decode cX8_saying 8 = .ok (.iconst (-1), 1) := by decide +kernel
theorem dX8_saying_9 : decode cX8_saying 9 = .ok (.ireturn, 1) := by decide +kernel
theorem dX8_saying_10 : decode cX8_saying 10 = .ok (.iload_n 2, 1) := by decide +kernel
theorem dX8_saying_11 : decode cX8_saying 11 = .ok (.tableswitch 83 0 4 #[33, 43, 53, 63, 73], 33) := by decide +kernel
theorem dX8_saying_44 : decode cX8_saying 44 = .ok (.aload_n 0, 1) := by decide +kernel
theorem dX8_saying_45 : decode cX8_saying 45 = .ok (.getfield 27, 3) := by decide +kernel
theorem dX8_saying_48 : decode cX8_saying 48 = .ok (.iload_n 1, 1) := by decide +kernel
theorem dX8_saying_49 : decode cX8_saying 49 = .ok (.aaload, 1) := by decide +kernel
theorem dX8_saying_50 : decode cX8_saying 50 = .ok (.getfield 103, 3) := by decide +kernel
theorem dX8_saying_53 : decode cX8_saying 53 = .ok (.ireturn, 1) := by decide +kernel
theorem dX8_saying_54 : decode cX8_saying 54 = .ok (.aload_n 0, 1) := by decide +kernel
theorem dX8_saying_55 : decode cX8_saying 55 = .ok (.getfield 27, 3) := by decide +kernel
theorem dX8_saying_58 : decode cX8_saying 58 = .ok (.iload_n 1, 1) := by decide +kernel
theorem dX8_saying_59 : decode cX8_saying 59 = .ok (.aaload, 1) := by decide +kernel
theorem dX8_saying_60 : decode cX8_saying 60 = .ok (.getfield 106, 3) := by decide +kernel
theorem dX8_saying_63 : decode cX8_saying 63 = .ok (.ireturn, 1) := by decide +kernel
theorem dX8_saying_64 : decode cX8_saying 64 = .ok (.aload_n 0, 1) := by decide +kernel
theorem dX8_saying_65 : decode cX8_saying 65 = .ok (.getfield 27, 3) := by decide +kernel
theorem dX8_saying_68 : decode cX8_saying 68 = .ok (.iload_n 1, 1) := by decide +kernel
theorem dX8_saying_69 : decode cX8_saying 69 = .ok (.aaload, 1) := by decide +kernel
theorem dX8_saying_70 : decode cX8_saying 70 = .ok (.getfield 109, 3) := by decide +kernel
theorem dX8_saying_73 : decode cX8_saying 73 = .ok (.ireturn, 1) := by decide +kernel
theorem dX8_saying_74 : decode cX8_saying 74 = .ok (.aload_n 0, 1) := by decide +kernel
theorem dX8_saying_75 : decode cX8_saying 75 = .ok (.getfield 27, 3) := by decide +kernel
theorem dX8_saying_78 : decode cX8_saying 78 = .ok (.iload_n 1, 1) := by decide +kernel
theorem dX8_saying_79 : decode cX8_saying 79 = .ok (.aaload, 1) := by decide +kernel
theorem dX8_saying_80 : decode cX8_saying 80 = .ok (.getfield 112, 3) := by decide +kernel
theorem dX8_saying_83 : decode cX8_saying 83 = .ok (.ireturn, 1) := by decide +kernel
theorem dX8_saying_84 : decode cX8_saying 84 = .ok (.aload_n 0, 1) := by decide +kernel
theorem dX8_saying_85 : decode cX8_saying 85 = .ok (.getfield 27, 3) := by decide +kernel
theorem dX8_saying_88 : decode cX8_saying 88 = .ok (.iload_n 1, 1) := by decide +kernel
theorem dX8_saying_89 : decode cX8_saying 89 = .ok (.aaload, 1) := by decide +kernel
theorem dX8_saying_90 : decode cX8_saying 90 = .ok (.getfield 115, 3) := by decide +kernel
theorem dX8_saying_93 : decode cX8_saying 93 = .ok (.ireturn, 1) := by decide +kernel
theorem dX8_saying_94 : decode cX8_saying 94 = .ok (.iconst (-1), 1) := by decide +kernel
theorem dX8_saying_95 : decode cX8_saying 95 = .ok (.ireturn, 1) := by decide +kernel
set_option maxRecDepth 20000 in
theorem ggX8_on_X8_isSaying : GoodIn wsX8_on wsX8_isSaying := goodIn_r _ [6, 7, 11, 12, 13, 14, 15, 16, 17, 18, 19, 20, 21] (by decide +kernel) (by decide +kernel)
set_option maxRecDepth 20000 in
theorem gX8_on_X8_isSaying : GoodIn wsX8_on (wsV RX8 99 RX8 yX8_isSaying wsX8_isSaying) := goodIn_app (goodIn_of _ (by decide +kernel)) ggX8_on_X8_isSaying
set_option maxRecDepth 20000 in
theorem ggX8_on_X8_isZeroOrOne : GoodIn wsX8_on wsX8_isZeroOrOne := goodIn_r _ [10] (by decide +kernel) (by decide +kernel)
set_option maxRecDepth 20000 in
theorem gX8_on_X8_isZeroOrOne : GoodIn wsX8_on (va_wsS RX8 118 yX8_isZeroOrOne wsX8_isZeroOrOne) := goodIn_app (goodIn_of _ (by decide +kernel)) ggX8_on_X8_isZeroOrOne
theorem dX8_on_0 : decode cX8_on 0 = .ok (.aload_n 0, 1) := by decide +kernel
theorem dX8_on_1 : decode cX8_on 1 = .ok (.iload_n 1, 1) := by decide +kernel
theorem dX8_on_2 : decode cX8_on 2 = .ok (.invokevirtual 99, 3) := by decide +kernel
theorem dX8_on_5 : decode cX8_on 5 = .ok (.ifCond .eq 10, 3) := by decide +kernel
theorem dX8_on_8 : decode cX8_on 8 = .ok (.iload_n 2, 1) := by decide +kernel
theorem dX8_on_9 : decode cX8_on 9 = .ok (.invokestatic 118, 3) := by decide +kernel
theorem dX8_on_12 : decode cX8_on 12 = .ok (.ifCond .ne 5, 3) := by decide +kernel
theorem dX8_on_15 : decode cX8_on 15 = .ok (.iconst (-1), 1) := by decide +kernel
theorem dX8_on_16 : decode cX8_on 16 = .ok (.ireturn, 1) := by decide +kernel
theorem dX8_on_17 : decode cX8_on 17 = .ok (.aload_n 0, 1) := by decide +kernel
theorem dX8_on_18 : decode cX8_on 18 = .ok (.getfield 27, 3) := by decide +kernel
theorem dX8_on_21 : decode cX8_on 21 = .ok (.iload_n 1, 1) := by decide +kernel
theorem dX8_on_22 : decode cX8_on 22 = .ok (.aaload, 1) := by decide +kernel
theorem dX8_on_23 : decode cX8_on 23 = .ok (.getfield 115, 3) := by decide +kernel
theorem dX8_on_26 : decode cX8_on 26 = .ok (.istore_n 3, 1) := by decide +kernel
theorem dX8_on_27 : decode cX8_on 27 = .ok (.aload_n 0, 1) := by decide +kernel
theorem dX8_on_28 : decode cX8_on 28 = .ok (.getfield 27, 3) := by decide +kernel
theorem dX8_on_31 : decode cX8_on 31 = .ok (.iload_n 1, 1) := by decide +kernel
theorem dX8_on_32 : decode cX8_on 32 = .ok (.aaload, 1) := by decide +kernel
theorem dX8_on_33 : decode cX8_on 33 = .ok (.iload_n 2, 1) := by decide +kernel
theorem dX8_on_34 : decode cX8_on 34 = .ok (.putfield 115, 3) := by decide +kernel
theorem dX8_on_37 : decode cX8_on 37 = .ok (.iload_n 3, 1) := by decide +kernel
theorem dX8_on_38 : decode cX8_on 38 = .ok (.ireturn, 1) := by decide +kernel
set_option maxRecDepth 20000 in
theorem ggX8_move_X8_isSaying : GoodIn wsX8_move wsX8_isSaying := goodIn_r _ [6, 7, 17, 18, 19, 20, 21, 22, 23, 24, 25, 26, 27] (by decide +kernel) (by decide +kernel)
set_option maxRecDepth 20000 in
theorem gX8_move_X8_isSaying : GoodIn wsX8_move (wsV RX8 99 RX8 yX8_isSaying wsX8_isSaying) := goodIn_app (goodIn_of _ (by decide +kernel)) ggX8_move_X8_isSaying
set_option maxRecDepth 20000 in
theorem ggX8_move_X8_isZeroOrOne : GoodIn wsX8_move wsX8_isZeroOrOne := goodIn_r _ [10] (by decide +kernel) (by decide +kernel)
set_option maxRecDepth 20000 in
theorem gX8_move_X8_isZeroOrOne : GoodIn wsX8_move (va_wsS RX8 118 yX8_isZeroOrOne wsX8_isZeroOrOne) := goodIn_app (goodIn_of _ (by decide +kernel)) ggX8_move_X8_isZeroOrOne
set_option maxRecDepth 20000 in
theorem ggX8_move_X8_moveFrom : GoodIn wsX8_move wsX8_moveFrom := goodIn_r _ [13, 28, 29, 30, 31, 32] (by decide +kernel) (by decide +kernel)
set_option maxRecDepth 20000 in
theorem gX8_move_X8_moveFrom : GoodIn wsX8_move (va_wsS RX8 121 yX8_moveFrom wsX8_moveFrom) := goodIn_app (goodIn_of _ (by decide +kernel)) ggX8_move_X8_moveFrom
set_option maxRecDepth 20000 in
theorem ggX8_move_X8_moveTo : GoodIn wsX8_move wsX8_moveTo := goodIn_r _ [16, 28, 29, 30, 31, 32] (by decide +kernel) (by decide +kernel)
set_option maxRecDepth 20000 in
theorem gX8_move_X8_moveTo : GoodIn wsX8_move (va_wsS RX8 125 yX8_moveTo wsX8_moveTo) := goodIn_app (goodIn_of _ (by decide +kernel)) ggX8_move_X8_moveTo
theorem dX8_move_0 : decode cX8_move 0 = .ok (.aload_n 0, 1) := by decide +kernel
theorem dX8_move_1 : decode cX8_move 1 = .ok (.iload_n 1, 1) := by decide +kernel
theorem dX8_move_2 : decode cX8_move 2 = .ok (.invokevirtual 99, 3) := by decide +kernel
theorem dX8_move_5 : decode cX8_move 5 = .ok (.ifCond .eq 20, 3) := by decide +kernel
theorem dX8_move_8 : decode cX8_move 8 = .ok (.iload_n 2, 1) := by decide +kernel
theorem dX8_move_9 : decode cX8_move 9 = .ok (.invokestatic 118, 3) := by decide +kernel
theorem dX8_move_12 : decode cX8_move 12 = .ok (.ifCond .eq 13, 3) := by decide +kernel
theorem dX8_move_15 : decode cX8_move 15 = .ok (.iload_n 3, 1) := by decide +kernel
theorem dX8_move_16 : decode cX8_move 16 = .ok (.ifCond .lt 9, 3) := by decide +kernel
theorem dX8_move_19 : decode cX8_move 19 = .ok (.iload_n 3, 1) := by decide +kernel
theorem dX8_move_20 : decode cX8_move 20 = .ok (.bipush 100, 2) := by decide +kernel
theorem dX8_move_22 : decode cX8_move 22 = .ok (.if_icmp .le 5, 3) := by decide +kernel
theorem dX8_move_25 : decode cX8_move 25 = .ok (.iconst (-1), 1) := by decide +kernel
theorem dX8_move_26 : decode cX8_move 26 = .ok (.ireturn, 1) := by decide +kernel
theorem dX8_move_27 : decode cX8_move 27 = .ok (.iload_n 2, 1) := by decide +kernel
theorem dX8_move_28 : decode cX8_move 28 = .ok (.ifCond .ne 16, 3) := by decide +kernel
theorem dX8_move_31 : decode cX8_move 31 = .ok (.aload_n 0, 1) := by decide +kernel
theorem dX8_move_32 : decode cX8_move 32 = .ok (.getfield 27, 3) := by decide +kernel
theorem dX8_move_35 : decode cX8_move 35 = .ok (.iload_n 1, 1) := by decide +kernel
theorem dX8_move_36 : decode cX8_move 36 = .ok (.aaload, 1) := by decide +kernel
theorem dX8_move_37 : decode cX8_move 37 = .ok (.iload_n 3, 1) := by decide +kernel
theorem dX8_move_38 : decode cX8_move 38 = .ok (.invokestatic 121, 3) := by decide +kernel
theorem dX8_move_41 : decode cX8_move 41 = .ok (.goto 13, 3) := by decide +kernel
theorem dX8_move_44 : decode cX8_move 44 = .ok (.aload_n 0, 1) := by decide +kernel
theorem dX8_move_45 : decode cX8_move 45 = .ok (.getfield 27, 3) := by decide +kernel
theorem dX8_move_48 : decode cX8_move 48 = .ok (.iload_n 1, 1) := by decide +kernel
theorem dX8_move_49 : decode cX8_move 49 = .ok (.aaload, 1) := by decide +kernel
theorem dX8_move_50 : decode cX8_move 50 = .ok (.iload_n 3, 1) := by decide +kernel
theorem dX8_move_51 : decode cX8_move 51 = .ok (.invokestatic 125, 3) := by decide +kernel
theorem dX8_move_54 : decode cX8_move 54 = .ok (.ireturn, 1) := by decide +kernel
theorem dX8_moveFrom_0 : decode cX8_moveFrom 0 = .ok (.iload_n 1, 1) := by decide +kernel
theorem dX8_moveFrom_1 : decode cX8_moveFrom 1 = .ok (.aload_n 0, 1) := by decide +kernel
theorem dX8_moveFrom_2 : decode cX8_moveFrom 2 = .ok (.getfield 112, 3) := by decide +kernel
theorem dX8_moveFrom_5 : decode cX8_moveFrom 5 = .ok (.if_icmp .le 5, 3) := by decide +kernel
theorem dX8_moveFrom_8 : decode cX8_moveFrom 8 = .ok (.iconst (-1), 1) := by decide +kernel
theorem dX8_moveFrom_9 : decode cX8_moveFrom 9 = .ok (.ireturn, 1) := by decide +kernel
theorem dX8_moveFrom_10 : decode cX8_moveFrom 10 = .ok (.aload_n 0, 1) := by decide +kernel
theorem dX8_moveFrom_11 : decode cX8_moveFrom 11 = .ok (.getfield 109, 3) := by decide +kernel
theorem dX8_moveFrom_14 : decode cX8_moveFrom 14 = .ok (.istore_n 2, 1) := by decide +kernel
theorem dX8_moveFrom_15 : decode cX8_moveFrom 15 = .ok (.aload_n 0, 1) := by decide +kernel
theorem dX8_moveFrom_16 : decode cX8_moveFrom 16 = .ok (.iload_n 1, 1) := by decide +kernel
theorem dX8_moveFrom_17 : decode cX8_moveFrom 17 = .ok (.putfield 109, 3) := by decide +kernel
theorem dX8_moveFrom_20 : decode cX8_moveFrom 20 = .ok (.iload_n 2, 1) := by decide +kernel
theorem dX8_moveFrom_21 : decode cX8_moveFrom 21 = .ok (.ireturn, 1) := by decide +kernel
theorem dX8_moveTo_0 : decode cX8_moveTo 0 = .ok (.iload_n 1, 1) := by decide +kernel
theorem dX8_moveTo_1 : decode cX8_moveTo 1 = .ok (.aload_n 0, 1) := by decide +kernel
theorem dX8_moveTo_2 : decode cX8_moveTo 2 = .ok (.getfield 109, 3) := by decide +kernel
theorem dX8_moveTo_5 : decode cX8_moveTo 5 = .ok (.if_icmp .ge 5, 3) := by decide +kernel
theorem dX8_moveTo_8 : decode cX8_moveTo 8 = .ok (.iconst (-1), 1) := by decide +kernel
theorem dX8_moveTo_9 : decode cX8_moveTo 9 = .ok (.ireturn, 1) := by decide +kernel
theorem dX8_moveTo_10 : decode cX8_moveTo 10 = .ok (.aload_n 0, 1) := by decide +kernel
theorem dX8_moveTo_11 : decode cX8_moveTo 11 = .ok (.getfield 112, 3) := by decide +kernel
theorem dX8_moveTo_14 : decode cX8_moveTo 14 = .ok (.istore_n 2, 1) := by decide +kernel
theorem dX8_moveTo_15 : decode cX8_moveTo 15 = .ok (.aload_n 0, 1) := by decide +kernel
theorem dX8_moveTo_16 : decode cX8_moveTo 16 = .ok (.iload_n 1, 1) := by decide +kernel
theorem dX8_moveTo_17 : decode cX8_moveTo 17 = .ok (.putfield 112, 3) := by decide +kernel
theorem dX8_moveTo_20 : decode cX8_moveTo 20 = .ok (.iload_n 2, 1) := by decide +kernel
theorem dX8_moveTo_21 : decode cX8_moveTo 21 = .ok (.ireturn, 1) := by decide +kernel
set_option maxRecDepth 20000 in
theorem ggX8_could_X8_rowsByOn : GoodIn wsX8_could wsX8_rowsByOn := goodIn_r _ [5, 6, 7, 8, 9, 10, 4, 11, 12, 13, 14, 15, 16, 17, 18, 19, 20, 21, 22, 23, 24, 25, 26, 27, 28, 29, 30, 31, 32, 33, 34, 35, 36, 37, 38, 39, 40, 41, 42, 43, 44, 45, 46, 47, 48, 49, 50, 51, 52, 53, 54, 55, 56, 57, 58, 59, 60, 61, 62, 63, 64, 65, 66, 67, 68, 69, 70, 71, 72, 73, 74, 75, 76, 77, 78, 79, 80, 81, 82, 83, 84, 85, 86, 87, 88, 89, 90, 91, 92, 93, 94, 95, 96, 97, 98, 99, 100, 101, 102, 103, 104, 105, 106, 107, 108, 109, 114, 115, 116, 117, 118, 119, 120, 121, 122, 123, 124, 125, 126, 127, 128, 129, 130, 131, 132, 133, 134, 135, 136, 137, 138, 139, 140, 141, 142] (by decide +kernel) (by decide +kernel)
set_option maxRecDepth 20000 in
theorem gX8_could_X8_rowsByOn : GoodIn wsX8_could (wsV RX8 128 RX8 yX8_rowsByOn wsX8_rowsByOn) := goodIn_app (goodIn_of _ (by decide +kernel)) ggX8_could_X8_rowsByOn
set_option maxRecDepth 20000 in
theorem ggX8_could_X0_isEmpty : GoodIn wsX8_could wsX0_isEmpty := goodIn_r _ [113, 54, 133, 134, 135, 136, 137, 138, 139, 140, 141, 142] (by decide +kernel) (by decide +kernel)
set_option maxRecDepth 20000 in
theorem gX8_could_X0_isEmpty : GoodIn wsX8_could (wsV RX8 132 RX0 yX0_isEmpty wsX0_isEmpty) := goodIn_app (goodIn_of _ (by decide +kernel)) ggX8_could_X0_isEmpty
theorem dX8_could_0 : decode cX8_could 0 = .ok (.aload_n 0, 1) := by decide +kernel
theorem dX8_could_1 : decode cX8_could 1 = .ok (.invokevirtual 128, 3) := by decide +kernel
theorem dX8_could_4 : decode cX8_could 4 = .ok (.invokevirtual 132, 3) := by decide +kernel
theorem dX8_could_7 : decode cX8_could 7 = .ok (.ifCond .eq 7, 3) := by decide +kernel
theorem dX8_could_10 : decode cX8_could 10 = .ok (.iconst 0, 1) := by decide +kernel
theorem dX8_could_11 : decode cX8_could 11 = .ok (.goto 4, 3) := by decide +kernel
theorem dX8_could_14 : decode cX8_could 14 = .ok (.iconst 1, 1) := by decide +kernel
theorem dX8_could_15 : decode cX8_could 15 = .ok (.ireturn, 1) := by decide +kernel
set_option maxRecDepth 20000 in
theorem ggX8_bound_X8_isThing : GoodIn wsX8_bound wsX8_isThing := goodIn_r _ [6] (by decide +kernel) (by decide +kernel)
set_option maxRecDepth 20000 in
theorem gX8_bound_X8_isThing : GoodIn wsX8_bound (va_wsS RX8 137 yX8_isThing wsX8_isThing) := goodIn_app (goodIn_of _ (by decide +kernel)) ggX8_bound_X8_isThing
set_option maxRecDepth 20000 in
theorem ggX8_bound_X8_isZeroOrOne : GoodIn wsX8_bound wsX8_isZeroOrOne := goodIn_r _ [9] (by decide +kernel) (by decide +kernel)
set_option maxRecDepth 20000 in
theorem gX8_bound_X8_isZeroOrOne : GoodIn wsX8_bound (va_wsS RX8 118 yX8_isZeroOrOne wsX8_isZeroOrOne) := goodIn_app (goodIn_of _ (by decide +kernel)) ggX8_bound_X8_isZeroOrOne
set_option maxRecDepth 20000 in
theorem ggX8_bound_X8_rowsByOn : GoodIn wsX8_bound wsX8_rowsByOn := goodIn_r _ [13, 14, 15, 16, 17, 18, 5, 19, 20, 21, 22, 23, 24, 25, 26, 27, 28, 29, 30, 31, 32, 33, 34, 35, 36, 37, 38, 39, 40, 41, 42, 43, 44, 45, 46, 47, 48, 49, 50, 51, 52, 53, 54, 55, 56, 57, 58, 59, 60, 61, 62, 63, 64, 65, 66, 67, 68, 69, 70, 71, 72, 73, 74, 75, 76, 77, 78, 79, 80, 81, 82, 83, 84, 85, 86, 87, 88, 89, 90, 91, 92, 93, 94, 95, 96, 97, 98, 99, 100, 101, 102, 103, 104, 105, 106, 107, 108, 109, 110, 111, 112, 113, 114, 115, 116, 117, 145, 146, 147, 148, 149, 150, 151, 152, 153, 154, 155, 156, 157, 158, 159, 160, 161, 162, 163, 164, 165, 166, 167, 168, 169, 170, 171, 172, 173] (by decide +kernel) (by decide +kernel)
set_option maxRecDepth 20000 in
theorem gX8_bound_X8_rowsByOn : GoodIn wsX8_bound (wsV RX8 128 RX8 yX8_rowsByOn wsX8_rowsByOn) := goodIn_app (goodIn_of _ (by decide +kernel)) ggX8_bound_X8_rowsByOn
set_option maxRecDepth 20000 in
theorem ggX8_bound_X0_findShare : GoodIn wsX8_bound wsX0_findShare := goodIn_r _ [121, 62, 122, 123, 124, 125, 126, 127, 128, 72, 73, 74, 59, 75, 76, 29, 5, 30, 129, 130, 131, 132, 133, 134, 135, 136, 164, 165, 166, 167, 168, 169, 170, 171, 172, 173, 174, 175] (by decide +kernel) (by decide +kernel)
set_option maxRecDepth 20000 in
theorem gX8_bound_X0_findShare : GoodIn wsX8_bound (wsV RX8 142 RX0 yX0_findShare wsX0_findShare) := goodIn_app (goodIn_of _ (by decide +kernel)) ggX8_bound_X0_findShare
set_option maxRecDepth 20000 in
theorem ggX8_bound_X1_inLeastTerms : GoodIn wsX8_bound wsX1_inLeastTerms := goodIn_r _ [140, 127, 141, 142, 47, 143, 128, 144, 97, 5, 98, 174, 175] (by decide +kernel) (by decide +kernel)
set_option maxRecDepth 20000 in
theorem gX8_bound_X1_inLeastTerms : GoodIn wsX8_bound (wsV RX8 146 RX1 yX1_inLeastTerms wsX1_inLeastTerms) := goodIn_app (goodIn_of _ (by decide +kernel)) ggX8_bound_X1_inLeastTerms
theorem dX8_bound_0 : decode cX8_bound 0 = .ok (.iload_n 1, 1) := by decide +kernel
theorem dX8_bound_1 : decode cX8_bound 1 = .ok (.invokestatic 137, 3) := by decide +kernel
theorem dX8_bound_4 : decode cX8_bound 4 = .ok (.ifCond .eq 25, 3) := by decide +kernel
theorem dX8_bound_7 : decode cX8_bound 7 = .ok (.iload_n 2, 1) := by decide +kernel
theorem dX8_bound_8 : decode cX8_bound 8 = .ok (.invokestatic 137, 3) := by decide +kernel
theorem dX8_bound_11 : decode cX8_bound 11 = .ok (.ifCond .eq 18, 3) := by decide +kernel
theorem dX8_bound_14 : decode cX8_bound 14 = .ok (.iload_n 3, 1) := by decide +kernel
theorem dX8_bound_15 : decode cX8_bound 15 = .ok (.invokestatic 118, 3) := by decide +kernel
theorem dX8_bound_18 : decode cX8_bound 18 = .ok (.ifCond .eq 11, 3) := by decide +kernel
theorem dX8_bound_21 : decode cX8_bound 21 = .ok (.iload 4, 2) := by decide +kernel
theorem dX8_bound_23 : decode cX8_bound 23 = .ok (.invokestatic 118, 3) := by decide +kernel
theorem dX8_bound_26 : decode cX8_bound 26 = .ok (.ifCond .ne 7, 3) := by decide +kernel
theorem dX8_bound_29 : decode cX8_bound 29 = .ok (.ldc2_w 140, 3) := by decide +kernel
theorem dX8_bound_32 : decode cX8_bound 32 = .ok (.lreturn, 1) := by decide +kernel
theorem dX8_bound_33 : decode cX8_bound 33 = .ok (.aload_n 0, 1) := by decide +kernel
theorem dX8_bound_34 : decode cX8_bound 34 = .ok (.invokevirtual 128, 3) := by decide +kernel
theorem dX8_bound_37 : decode cX8_bound 37 = .ok (.iload_n 1, 1) := by decide +kernel
theorem dX8_bound_38 : decode cX8_bound 38 = .ok (.iload_n 2, 1) := by decide +kernel
theorem dX8_bound_39 : decode cX8_bound 39 = .ok (.iload_n 3, 1) := by decide +kernel
theorem dX8_bound_40 : decode cX8_bound 40 = .ok (.aload_n 0, 1) := by decide +kernel
theorem dX8_bound_41 : decode cX8_bound 41 = .ok (.getfield 53, 3) := by decide +kernel
theorem dX8_bound_44 : decode cX8_bound 44 = .ok (.invokevirtual 142, 3) := by decide +kernel
theorem dX8_bound_47 : decode cX8_bound 47 = .ok (.aload_n 0, 1) := by decide +kernel
theorem dX8_bound_48 : decode cX8_bound 48 = .ok (.getfield 53, 3) := by decide +kernel
theorem dX8_bound_51 : decode cX8_bound 51 = .ok (.iload 4, 2) := by decide +kernel
theorem dX8_bound_53 : decode cX8_bound 53 = .ok (.invokevirtual 146, 3) := by decide +kernel
theorem dX8_bound_56 : decode cX8_bound 56 = .ok (.lreturn, 1) := by decide +kernel
set_option maxRecDepth 20000 in
theorem ggX8_differ_X8_isThing : GoodIn wsX8_differ wsX8_isThing := goodIn_r _ [6] (by decide +kernel) (by decide +kernel)
set_option maxRecDepth 20000 in
theorem gX8_differ_X8_isThing : GoodIn wsX8_differ (va_wsS RX8 137 yX8_isThing wsX8_isThing) := goodIn_app (goodIn_of _ (by decide +kernel)) ggX8_differ_X8_isThing
set_option maxRecDepth 20000 in
theorem ggX8_differ_X8_isZeroOrOne : GoodIn wsX8_differ wsX8_isZeroOrOne := goodIn_r _ [9] (by decide +kernel) (by decide +kernel)
set_option maxRecDepth 20000 in
theorem gX8_differ_X8_isZeroOrOne : GoodIn wsX8_differ (va_wsS RX8 118 yX8_isZeroOrOne wsX8_isZeroOrOne) := goodIn_app (goodIn_of _ (by decide +kernel)) ggX8_differ_X8_isZeroOrOne
set_option maxRecDepth 20000 in
theorem ggX8_differ_X8_rowsByOn : GoodIn wsX8_differ wsX8_rowsByOn := goodIn_r _ [13, 14, 15, 16, 17, 18, 5, 19, 20, 21, 22, 23, 24, 25, 26, 27, 28, 29, 30, 31, 32, 33, 34, 35, 36, 37, 38, 39, 40, 41, 42, 43, 44, 45, 46, 47, 48, 49, 50, 51, 52, 53, 54, 55, 56, 57, 58, 59, 60, 61, 62, 63, 64, 65, 66, 67, 68, 69, 70, 71, 72, 73, 74, 75, 76, 77, 78, 79, 80, 81, 82, 83, 84, 85, 86, 87, 88, 89, 90, 91, 92, 93, 94, 95, 96, 97, 98, 99, 100, 101, 102, 103, 104, 105, 106, 107, 108, 109, 110, 111, 112, 113, 114, 115, 116, 117, 145, 146, 147, 148, 149, 150, 151, 152, 153, 154, 155, 156, 157, 158, 159, 160, 161, 162, 163, 164, 165, 166, 167, 168, 169, 170, 171, 172, 173] (by decide +kernel) (by decide +kernel)
set_option maxRecDepth 20000 in
theorem gX8_differ_X8_rowsByOn : GoodIn wsX8_differ (wsV RX8 128 RX8 yX8_rowsByOn wsX8_rowsByOn) := goodIn_app (goodIn_of _ (by decide +kernel)) ggX8_differ_X8_rowsByOn
set_option maxRecDepth 20000 in
theorem ggX8_differ_X0_findDifference : GoodIn wsX8_differ wsX0_findDifference := goodIn_r _ [121, 62, 122, 123, 124, 125, 126, 127, 128, 72, 73, 74, 59, 75, 76, 29, 5, 30, 129, 130, 131, 132, 133, 134, 135, 136, 164, 165, 166, 167, 168, 169, 170, 171, 172, 173, 174, 175] (by decide +kernel) (by decide +kernel)
set_option maxRecDepth 20000 in
theorem gX8_differ_X0_findDifference : GoodIn wsX8_differ (wsV RX8 150 RX0 yX0_findDifference wsX0_findDifference) := goodIn_app (goodIn_of _ (by decide +kernel)) ggX8_differ_X0_findDifference
set_option maxRecDepth 20000 in
theorem ggX8_differ_X1_inLeastTerms : GoodIn wsX8_differ wsX1_inLeastTerms := goodIn_r _ [140, 127, 141, 142, 47, 143, 128, 144, 97, 5, 98, 174, 175] (by decide +kernel) (by decide +kernel)
set_option maxRecDepth 20000 in
theorem gX8_differ_X1_inLeastTerms : GoodIn wsX8_differ (wsV RX8 146 RX1 yX1_inLeastTerms wsX1_inLeastTerms) := goodIn_app (goodIn_of _ (by decide +kernel)) ggX8_differ_X1_inLeastTerms
theorem dX8_differ_0 : decode cX8_differ 0 = .ok (.iload_n 1, 1) := by decide +kernel
theorem dX8_differ_1 : decode cX8_differ 1 = .ok (.invokestatic 137, 3) := by decide +kernel
theorem dX8_differ_4 : decode cX8_differ 4 = .ok (.ifCond .eq 25, 3) := by decide +kernel
theorem dX8_differ_7 : decode cX8_differ 7 = .ok (.iload_n 2, 1) := by decide +kernel
theorem dX8_differ_8 : decode cX8_differ 8 = .ok (.invokestatic 137, 3) := by decide +kernel
theorem dX8_differ_11 : decode cX8_differ 11 = .ok (.ifCond .eq 18, 3) := by decide +kernel
theorem dX8_differ_14 : decode cX8_differ 14 = .ok (.iload_n 3, 1) := by decide +kernel
theorem dX8_differ_15 : decode cX8_differ 15 = .ok (.invokestatic 118, 3) := by decide +kernel
theorem dX8_differ_18 : decode cX8_differ 18 = .ok (.ifCond .eq 11, 3) := by decide +kernel
theorem dX8_differ_21 : decode cX8_differ 21 = .ok (.iload 4, 2) := by decide +kernel
theorem dX8_differ_23 : decode cX8_differ 23 = .ok (.invokestatic 118, 3) := by decide +kernel
theorem dX8_differ_26 : decode cX8_differ 26 = .ok (.ifCond .ne 7, 3) := by decide +kernel
theorem dX8_differ_29 : decode cX8_differ 29 = .ok (.ldc2_w 140, 3) := by decide +kernel
theorem dX8_differ_32 : decode cX8_differ 32 = .ok (.lreturn, 1) := by decide +kernel
theorem dX8_differ_33 : decode cX8_differ 33 = .ok (.aload_n 0, 1) := by decide +kernel
theorem dX8_differ_34 : decode cX8_differ 34 = .ok (.invokevirtual 128, 3) := by decide +kernel
theorem dX8_differ_37 : decode cX8_differ 37 = .ok (.iload_n 1, 1) := by decide +kernel
