theorem dX9_read_51 : decode cX9_read 51 = .ok (.goto 112, 3) := by decide +kernel
theorem dX9_read_54 : decode cX9_read 54 = .ok (.aload_n 0, 1) := by decide +kernel
theorem dX9_read_55 : decode cX9_read 55 = .ok (.getfield 13, 3) := by decide +kernel
theorem dX9_read_58 : decode cX9_read 58 = .ok (.iload_n 2, 1) := by decide +kernel
theorem dX9_read_59 : decode cX9_read 59 = .ok (.aload_n 0, 1) := by decide +kernel
theorem dX9_read_60 : decode cX9_read 60 = .ok (.invokevirtual 110, 3) := by decide +kernel
theorem dX9_read_63 : decode cX9_read 63 = .ok (.iastore, 1) := by decide +kernel
theorem dX9_read_64 : decode cX9_read 64 = .ok (.aload_n 0, 1) := by decide +kernel
theorem dX9_read_65 : decode cX9_read 65 = .ok (.getfield 13, 3) := by decide +kernel
theorem dX9_read_68 : decode cX9_read 68 = .ok (.iload_n 2, 1) := by decide +kernel
theorem dX9_read_69 : decode cX9_read 69 = .ok (.iconst 1, 1) := by decide +kernel
theorem dX9_read_70 : decode cX9_read 70 = .ok (.iadd, 1) := by decide +kernel
theorem dX9_read_71 : decode cX9_read 71 = .ok (.sipush 255, 3) := by decide +kernel
theorem dX9_read_74 : decode cX9_read 74 = .ok (.iastore, 1) := by decide +kernel
theorem dX9_read_75 : decode cX9_read 75 = .ok (.aload_n 0, 1) := by decide +kernel
theorem dX9_read_76 : decode cX9_read 76 = .ok (.invokevirtual 80, 3) := by decide +kernel
theorem dX9_read_79 : decode cX9_read 79 = .ok (.ifCond .eq 27, 3) := by decide +kernel
theorem dX9_read_82 : decode cX9_read 82 = .ok (.aload_n 0, 1) := by decide +kernel
theorem dX9_read_83 : decode cX9_read 83 = .ok (.getfield 71, 3) := by decide +kernel
theorem dX9_read_86 : decode cX9_read 86 = .ok (.iconst 2, 1) := by decide +kernel
theorem dX9_read_87 : decode cX9_read 87 = .ok (.if_icmp .ne 19, 3) := by decide +kernel
theorem dX9_read_90 : decode cX9_read 90 = .ok (.aload_n 0, 1) := by decide +kernel
theorem dX9_read_91 : decode cX9_read 91 = .ok (.invokevirtual 93, 3) := by decide +kernel
theorem dX9_read_94 : decode cX9_read 94 = .ok (.aload_n 0, 1) := by decide +kernel
theorem dX9_read_95 : decode cX9_read 95 = .ok (.getfield 13, 3) := by decide +kernel
theorem dX9_read_98 : decode cX9_read 98 = .ok (.iload_n 2, 1) := by decide +kernel
theorem dX9_read_99 : decode cX9_read 99 = .ok (.iconst 1, 1) := by decide +kernel
theorem dX9_read_100 : decode cX9_read 100 = .ok (.iadd, 1) := by decide +kernel
theorem dX9_read_101 : decode cX9_read 101 = .ok (.aload_n 0, 1) := by decide +kernel
theorem dX9_read_102 : decode cX9_read 102 = .ok (.invokevirtual 110, 3) := by decide +kernel
theorem dX9_read_105 : decode cX9_read 105 = .ok (.iastore, 1) := by decide +kernel
theorem dX9_read_106 : decode cX9_read 106 = .ok (.aload_n 0, 1) := by decide +kernel
theorem dX9_read_107 : decode cX9_read 107 = .ok (.getfield 13, 3) := by decide +kernel
theorem dX9_read_110 : decode cX9_read 110 = .ok (.iload_n 2, 1) := by decide +kernel
theorem dX9_read_111 : decode cX9_read 111 = .ok (.iconst 2, 1) := by decide +kernel
theorem dX9_read_112 : decode cX9_read 112 = .ok (.iadd, 1) := by decide +kernel
theorem dX9_read_113 : decode cX9_read 113 = .ok (.aload_n 0, 1) := by decide +kernel
theorem dX9_read_114 : decode cX9_read 114 = .ok (.iconst 0, 1) := by decide +kernel
theorem dX9_read_115 : decode cX9_read 115 = .ok (.invokevirtual 113, 3) := by decide +kernel
theorem dX9_read_118 : decode cX9_read 118 = .ok (.iastore, 1) := by decide +kernel
theorem dX9_read_119 : decode cX9_read 119 = .ok (.aload_n 0, 1) := by decide +kernel
theorem dX9_read_120 : decode cX9_read 120 = .ok (.bipush 45, 2) := by decide +kernel
theorem dX9_read_122 : decode cX9_read 122 = .ok (.invokevirtual 116, 3) := by decide +kernel
theorem dX9_read_125 : decode cX9_read 125 = .ok (.aload_n 0, 1) := by decide +kernel
theorem dX9_read_126 : decode cX9_read 126 = .ok (.getfield 13, 3) := by decide +kernel
theorem dX9_read_129 : decode cX9_read 129 = .ok (.iload_n 2, 1) := by decide +kernel
theorem dX9_read_130 : decode cX9_read 130 = .ok (.iconst 3, 1) := by decide +kernel
theorem dX9_read_131 : decode cX9_read 131 = .ok (.iadd, 1) := by decide +kernel
theorem dX9_read_132 : decode cX9_read 132 = .ok (.aload_n 0, 1) := by decide +kernel
theorem dX9_read_133 : decode cX9_read 133 = .ok (.aload_n 0, 1) := by decide +kernel
theorem dX9_read_134 : decode cX9_read 134 = .ok (.getfield 13, 3) := by decide +kernel
theorem dX9_read_137 : decode cX9_read 137 = .ok (.iload_n 2, 1) := by decide +kernel
theorem dX9_read_138 : decode cX9_read 138 = .ok (.iconst 2, 1) := by decide +kernel
theorem dX9_read_139 : decode cX9_read 139 = .ok (.iadd, 1) := by decide +kernel
theorem dX9_read_140 : decode cX9_read 140 = .ok (.iaload, 1) := by decide +kernel
theorem dX9_read_141 : decode cX9_read 141 = .ok (.invokevirtual 113, 3) := by decide +kernel
theorem dX9_read_144 : decode cX9_read 144 = .ok (.iastore, 1) := by decide +kernel
theorem dX9_read_145 : decode cX9_read 145 = .ok (.aload_n 0, 1) := by decide +kernel
theorem dX9_read_146 : decode cX9_read 146 = .ok (.bipush 59, 2) := by decide +kernel
theorem dX9_read_148 : decode cX9_read 148 = .ok (.invokevirtual 116, 3) := by decide +kernel
theorem dX9_read_151 : decode cX9_read 151 = .ok (.aload_n 0, 1) := by decide +kernel
theorem dX9_read_152 : decode cX9_read 152 = .ok (.getfield 13, 3) := by decide +kernel
theorem dX9_read_155 : decode cX9_read 155 = .ok (.iload_n 2, 1) := by decide +kernel
theorem dX9_read_156 : decode cX9_read 156 = .ok (.iconst 4, 1) := by decide +kernel
theorem dX9_read_157 : decode cX9_read 157 = .ok (.iadd, 1) := by decide +kernel
theorem dX9_read_158 : decode cX9_read 158 = .ok (.iconst 1, 1) := by decide +kernel
theorem dX9_read_159 : decode cX9_read 159 = .ok (.iastore, 1) := by decide +kernel
theorem dX9_read_160 : decode cX9_read 160 = .ok (.iinc 1 1, 3) := by decide +kernel
theorem dX9_read_163 : decode cX9_read 163 = .ok (.goto (-142), 3) := by decide +kernel
theorem dX9_read_166 : decode cX9_read 166 = .ok (.aload_n 0, 1) := by decide +kernel
theorem dX9_read_167 : decode cX9_read 167 = .ok (.invokevirtual 80, 3) := by decide +kernel
theorem dX9_read_170 : decode cX9_read 170 = .ok (.ifCond .ne 11, 3) := by decide +kernel
theorem dX9_read_173 : decode cX9_read 173 = .ok (.bipush (-10), 2) := by decide +kernel
theorem dX9_read_175 : decode cX9_read 175 = .ok (.aload_n 0, 1) := by decide +kernel
theorem dX9_read_176 : decode cX9_read 176 = .ok (.getfield 77, 3) := by decide +kernel
theorem dX9_read_179 : decode cX9_read 179 = .ok (.isub, 1) := by decide +kernel
theorem dX9_read_180 : decode cX9_read 180 = .ok (.ireturn, 1) := by decide +kernel
theorem dX9_read_181 : decode cX9_read 181 = .ok (.iconst 0, 1) := by decide +kernel
theorem dX9_read_182 : decode cX9_read 182 = .ok (.istore_n 2, 1) := by decide +kernel
theorem dX9_read_183 : decode cX9_read 183 = .ok (.iload_n 2, 1) := by decide +kernel
theorem dX9_read_184 : decode cX9_read 184 = .ok (.bipush 20, 2) := by decide +kernel
theorem dX9_read_186 : decode cX9_read 186 = .ok (.if_icmp .ge 24, 3) := by decide +kernel
theorem dX9_read_189 : decode cX9_read 189 = .ok (.aload_n 0, 1) := by decide +kernel
theorem dX9_read_190 : decode cX9_read 190 = .ok (.getfield 13, 3) := by decide +kernel
theorem dX9_read_193 : decode cX9_read 193 = .ok (.iload_n 2, 1) := by decide +kernel
theorem dX9_read_194 : decode cX9_read 194 = .ok (.aload_n 0, 1) := by decide +kernel
theorem dX9_read_195 : decode cX9_read 195 = .ok (.getfield 13, 3) := by decide +kernel
theorem dX9_read_198 : decode cX9_read 198 = .ok (.bipush 20, 2) := by decide +kernel
theorem dX9_read_200 : decode cX9_read 200 = .ok (.iload_n 2, 1) := by decide +kernel
theorem dX9_read_201 : decode cX9_read 201 = .ok (.iadd, 1) := by decide +kernel
theorem dX9_read_202 : decode cX9_read 202 = .ok (.iaload, 1) := by decide +kernel
theorem dX9_read_203 : decode cX9_read 203 = .ok (.iastore, 1) := by decide +kernel
theorem dX9_read_204 : decode cX9_read 204 = .ok (.iinc 2 1, 3) := by decide +kernel
theorem dX9_read_207 : decode cX9_read 207 = .ok (.goto (-24), 3) := by decide +kernel
theorem dX9_read_210 : decode cX9_read 210 = .ok (.aload_n 0, 1) := by decide +kernel
theorem dX9_read_211 : decode cX9_read 211 = .ok (.iload_n 1, 1) := by decide +kernel
theorem dX9_read_212 : decode cX9_read 212 = .ok (.putfield 49, 3) := by decide +kernel
theorem dX9_read_215 : decode cX9_read 215 = .ok (.aload_n 0, 1) := by decide +kernel
theorem dX9_read_216 : decode cX9_read 216 = .ok (.iconst 0, 1) := by decide +kernel
theorem dX9_read_217 : decode cX9_read 217 = .ok (.putfield 120, 3) := by decide +kernel
theorem dX9_read_220 : decode cX9_read 220 = .ok (.aload_n 0, 1) := by decide +kernel
theorem dX9_read_221 : decode cX9_read 221 = .ok (.iconst 0, 1) := by decide +kernel
theorem dX9_read_222 : decode cX9_read 222 = .ok (.putfield 56, 3) := by decide +kernel
theorem dX9_read_225 : decode cX9_read 225 = .ok (.aload_n 0, 1) := by decide +kernel
theorem dX9_read_226 : decode cX9_read 226 = .ok (.getfield 49, 3) := by decide +kernel
theorem dX9_read_229 : decode cX9_read 229 = .ok (.ireturn, 1) := by decide +kernel
set_option maxRecDepth 20000 in
theorem ggX9_saying_X9_isSaying : GoodIn wsX9_saying wsX9_isSaying := goodIn_r _ [7, 8, 9, 10, 6, 11, 12, 13, 14, 15, 16, 17, 18, 19, 20, 21, 22, 23, 24, 25, 26, 27, 28, 29, 30, 31, 32, 33, 34, 35, 36, 37, 38, 39] rfl (by decide +kernel)
set_option maxRecDepth 20000 in
theorem gX9_saying_X9_isSaying : GoodIn wsX9_saying (wsV RX9 124 RX9 yX9_isSaying wsX9_isSaying) := goodIn_app (goodIn_of _ (by decide +kernel)) ggX9_saying_X9_isSaying
set_option maxRecDepth 20000 in
theorem ggX9_saying_X9_in : GoodIn wsX9_saying wsX9_in := goodIn_r _ [11] rfl (by decide +kernel)
set_option maxRecDepth 20000 in
theorem gX9_saying_X9_in : GoodIn wsX9_saying (va_wsS RX9 52 yX9_in wsX9_in) := goodIn_app (goodIn_of _ (by decide +kernel)) ggX9_saying_X9_in
theorem dX9_saying_0 : decode cX9_saying 0 = .ok (.aload_n 0, 1) := by decide +kernel
theorem dX9_saying_1 : decode cX9_saying 1 = .ok (.iconst 0, 1) := by decide +kernel
theorem dX9_saying_2 : decode cX9_saying 2 = .ok (.putfield 45, 3) := by decide +kernel
theorem dX9_saying_5 : decode cX9_saying 5 = .ok (.aload_n 0, 1) := by decide +kernel
theorem dX9_saying_6 : decode cX9_saying 6 = .ok (.iload_n 1, 1) := by decide +kernel
theorem dX9_saying_7 : decode cX9_saying 7 = .ok (.invokevirtual 124, 3) := by decide +kernel
theorem dX9_saying_10 : decode cX9_saying 10 = .ok (.ifCond .eq 25, 3) := by decide +kernel
theorem dX9_saying_13 : decode cX9_saying 13 = .ok (.iload_n 2, 1) := by decide +kernel
theorem dX9_saying_14 : decode cX9_saying 14 = .ok (.iconst 0, 1) := by decide +kernel
theorem dX9_saying_15 : decode cX9_saying 15 = .ok (.iconst 4, 1) := by decide +kernel
theorem dX9_saying_16 : decode cX9_saying 16 = .ok (.invokestatic 52, 3) := by decide +kernel
theorem dX9_saying_19 : decode cX9_saying 19 = .ok (.ifCond .eq 16, 3) := by decide +kernel
theorem dX9_saying_22 : decode cX9_saying 22 = .ok (.aload_n 0, 1) := by decide +kernel
theorem dX9_saying_23 : decode cX9_saying 23 = .ok (.getfield 13, 3) := by decide +kernel
theorem dX9_saying_26 : decode cX9_saying 26 = .ok (.iconst 5, 1) := by decide +kernel
theorem dX9_saying_27 : decode cX9_saying 27 = .ok (.iload_n 1, 1) := by decide +kernel
theorem dX9_saying_28 : decode cX9_saying 28 = .ok (.imul, 1) := by decide +kernel
theorem dX9_saying_29 : decode cX9_saying 29 = .ok (.iload_n 2, 1) := by decide +kernel
theorem dX9_saying_30 : decode cX9_saying 30 = .ok (.iadd, 1) := by decide +kernel
theorem dX9_saying_31 : decode cX9_saying 31 = .ok (.iaload, 1) := by decide +kernel
theorem dX9_saying_32 : decode cX9_saying 32 = .ok (.goto 4, 3) := by decide +kernel
theorem dX9_saying_35 : decode cX9_saying 35 = .ok (.iconst (-1), 1) := by decide +kernel
theorem dX9_saying_36 : decode cX9_saying 36 = .ok (.ireturn, 1) := by decide +kernel
set_option maxRecDepth 20000 in
theorem ggX9_on_X9_isSaying : GoodIn wsX9_on wsX9_isSaying := goodIn_r _ [7, 8, 9, 10, 6, 11, 15, 16, 17, 18, 19, 20, 21, 22, 23, 24, 25, 26, 27, 28, 29, 30, 31, 32, 33, 34, 35, 36, 37, 38, 39, 40, 41, 42] rfl (by decide +kernel)
set_option maxRecDepth 20000 in
theorem gX9_on_X9_isSaying : GoodIn wsX9_on (wsV RX9 124 RX9 yX9_isSaying wsX9_isSaying) := goodIn_app (goodIn_of _ (by decide +kernel)) ggX9_on_X9_isSaying
set_option maxRecDepth 20000 in
theorem ggX9_on_X9_isBit : GoodIn wsX9_on wsX9_isBit := goodIn_r _ [14] rfl (by decide +kernel)
set_option maxRecDepth 20000 in
theorem gX9_on_X9_isBit : GoodIn wsX9_on (va_wsS RX9 127 yX9_isBit wsX9_isBit) := goodIn_app (goodIn_of _ (by decide +kernel)) ggX9_on_X9_isBit
theorem dX9_on_0 : decode cX9_on 0 = .ok (.aload_n 0, 1) := by decide +kernel
theorem dX9_on_1 : decode cX9_on 1 = .ok (.iconst 0, 1) := by decide +kernel
theorem dX9_on_2 : decode cX9_on 2 = .ok (.putfield 45, 3) := by decide +kernel
theorem dX9_on_5 : decode cX9_on 5 = .ok (.aload_n 0, 1) := by decide +kernel
theorem dX9_on_6 : decode cX9_on 6 = .ok (.iload_n 1, 1) := by decide +kernel
theorem dX9_on_7 : decode cX9_on 7 = .ok (.invokevirtual 124, 3) := by decide +kernel
theorem dX9_on_10 : decode cX9_on 10 = .ok (.ifCond .eq 10, 3) := by decide +kernel
theorem dX9_on_13 : decode cX9_on 13 = .ok (.iload_n 2, 1) := by decide +kernel
theorem dX9_on_14 : decode cX9_on 14 = .ok (.invokestatic 127, 3) := by decide +kernel
theorem dX9_on_17 : decode cX9_on 17 = .ok (.ifCond .ne 5, 3) := by decide +kernel
theorem dX9_on_20 : decode cX9_on 20 = .ok (.iconst (-1), 1) := by decide +kernel
theorem dX9_on_21 : decode cX9_on 21 = .ok (.ireturn, 1) := by decide +kernel
theorem dX9_on_22 : decode cX9_on 22 = .ok (.aload_n 0, 1) := by decide +kernel
theorem dX9_on_23 : decode cX9_on 23 = .ok (.getfield 13, 3) := by decide +kernel
theorem dX9_on_26 : decode cX9_on 26 = .ok (.iconst 5, 1) := by decide +kernel
theorem dX9_on_27 : decode cX9_on 27 = .ok (.iload_n 1, 1) := by decide +kernel
theorem dX9_on_28 : decode cX9_on 28 = .ok (.imul, 1) := by decide +kernel
theorem dX9_on_29 : decode cX9_on 29 = .ok (.iconst 4, 1) := by decide +kernel
theorem dX9_on_30 : decode cX9_on 30 = .ok (.iadd, 1) := by decide +kernel
theorem dX9_on_31 : decode cX9_on 31 = .ok (.iaload, 1) := by decide +kernel
theorem dX9_on_32 : decode cX9_on 32 = .ok (.istore_n 3, 1) := by decide +kernel
theorem dX9_on_33 : decode cX9_on 33 = .ok (.aload_n 0, 1) := by decide +kernel
theorem dX9_on_34 : decode cX9_on 34 = .ok (.getfield 13, 3) := by decide +kernel
theorem dX9_on_37 : decode cX9_on 37 = .ok (.iconst 5, 1) := by decide +kernel
theorem dX9_on_38 : decode cX9_on 38 = .ok (.iload_n 1, 1) := by decide +kernel
theorem dX9_on_39 : decode cX9_on 39 = .ok (.imul, 1) := by decide +kernel
theorem dX9_on_40 : decode cX9_on 40 = .ok (.iconst 4, 1) := by decide +kernel
theorem dX9_on_41 : decode cX9_on 41 = .ok (.iadd, 1) := by decide +kernel
theorem dX9_on_42 : decode cX9_on 42 = .ok (.iload_n 2, 1) := by decide +kernel
theorem dX9_on_43 : decode cX9_on 43 = .ok (.iastore, 1) := by decide +kernel
theorem dX9_on_44 : decode cX9_on 44 = .ok (.iload_n 3, 1) := by decide +kernel
theorem dX9_on_45 : decode cX9_on 45 = .ok (.ireturn, 1) := by decide +kernel
set_option maxRecDepth 20000 in
theorem ggX9_move_X9_isSaying : GoodIn wsX9_move wsX9_isSaying := goodIn_r _ [8, 9, 10, 11, 7, 12, 16, 17, 18, 19, 20, 21, 22, 23, 24, 25, 26, 27, 28, 29, 30, 31, 32, 33, 34, 35, 36, 37, 38, 39, 40, 41, 42, 43] rfl (by decide +kernel)
set_option maxRecDepth 20000 in
theorem gX9_move_X9_isSaying : GoodIn wsX9_move (wsV RX9 124 RX9 yX9_isSaying wsX9_isSaying) := goodIn_app (goodIn_of _ (by decide +kernel)) ggX9_move_X9_isSaying
set_option maxRecDepth 20000 in
theorem ggX9_move_X9_isBit : GoodIn wsX9_move wsX9_isBit := goodIn_r _ [15] rfl (by decide +kernel)
set_option maxRecDepth 20000 in
theorem gX9_move_X9_isBit : GoodIn wsX9_move (va_wsS RX9 127 yX9_isBit wsX9_isBit) := goodIn_app (goodIn_of _ (by decide +kernel)) ggX9_move_X9_isBit
set_option maxRecDepth 20000 in
theorem ggX9_move_X9_in : GoodIn wsX9_move wsX9_in := goodIn_r _ [12] rfl (by decide +kernel)
set_option maxRecDepth 20000 in
theorem gX9_move_X9_in : GoodIn wsX9_move (va_wsS RX9 52 yX9_in wsX9_in) := goodIn_app (goodIn_of _ (by decide +kernel)) ggX9_move_X9_in
theorem dX9_move_0 : decode cX9_move 0 = .ok (.aload_n 0, 1) := by decide +kernel
theorem dX9_move_1 : decode cX9_move 1 = .ok (.iconst 0, 1) := by decide +kernel
theorem dX9_move_2 : decode cX9_move 2 = .ok (.putfield 45, 3) := by decide +kernel
theorem dX9_move_5 : decode cX9_move 5 = .ok (.aload_n 0, 1) := by decide +kernel
theorem dX9_move_6 : decode cX9_move 6 = .ok (.iload_n 1, 1) := by decide +kernel
theorem dX9_move_7 : decode cX9_move 7 = .ok (.invokevirtual 124, 3) := by decide +kernel
theorem dX9_move_10 : decode cX9_move 10 = .ok (.ifCond .eq 20, 3) := by decide +kernel
theorem dX9_move_13 : decode cX9_move 13 = .ok (.iload_n 2, 1) := by decide +kernel
theorem dX9_move_14 : decode cX9_move 14 = .ok (.invokestatic 127, 3) := by decide +kernel
theorem dX9_move_17 : decode cX9_move 17 = .ok (.ifCond .eq 13, 3) := by decide +kernel
theorem dX9_move_20 : decode cX9_move 20 = .ok (.iload_n 3, 1) := by decide +kernel
theorem dX9_move_21 : decode cX9_move 21 = .ok (.iconst 0, 1) := by decide +kernel
theorem dX9_move_22 : decode cX9_move 22 = .ok (.bipush 100, 2) := by decide +kernel
theorem dX9_move_24 : decode cX9_move 24 = .ok (.invokestatic 52, 3) := by decide +kernel
theorem dX9_move_27 : decode cX9_move 27 = .ok (.ifCond .ne 5, 3) := by decide +kernel
theorem dX9_move_30 : decode cX9_move 30 = .ok (.iconst (-1), 1) := by decide +kernel
theorem dX9_move_31 : decode cX9_move 31 = .ok (.ireturn, 1) := by decide +kernel
theorem dX9_move_32 : decode cX9_move 32 = .ok (.iconst 5, 1) := by decide +kernel
theorem dX9_move_33 : decode cX9_move 33 = .ok (.iload_n 1, 1) := by decide +kernel
theorem dX9_move_34 : decode cX9_move 34 = .ok (.imul, 1) := by decide +kernel
theorem dX9_move_35 : decode cX9_move 35 = .ok (.iconst 2, 1) := by decide +kernel
theorem dX9_move_36 : decode cX9_move 36 = .ok (.iadd, 1) := by decide +kernel
theorem dX9_move_37 : decode cX9_move 37 = .ok (.iload_n 2, 1) := by decide +kernel
theorem dX9_move_38 : decode cX9_move 38 = .ok (.iadd, 1) := by decide +kernel
theorem dX9_move_39 : decode cX9_move 39 = .ok (.istore 4, 2) := by decide +kernel
theorem dX9_move_41 : decode cX9_move 41 = .ok (.iload_n 2, 1) := by decide +kernel
theorem dX9_move_42 : decode cX9_move 42 = .ok (.ifCond .ne 19, 3) := by decide +kernel
theorem dX9_move_45 : decode cX9_move 45 = .ok (.iload_n 3, 1) := by decide +kernel
theorem dX9_move_46 : decode cX9_move 46 = .ok (.aload_n 0, 1) := by decide +kernel
theorem dX9_move_47 : decode cX9_move 47 = .ok (.getfield 13, 3) := by decide +kernel
theorem dX9_move_50 : decode cX9_move 50 = .ok (.iload 4, 2) := by decide +kernel
