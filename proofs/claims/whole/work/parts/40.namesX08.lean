theorem dX9_needed_49 : decode cX9_needed 49 = .ok (.aload_n 0, 1) := by decide +kernel
theorem dX9_needed_50 : decode cX9_needed 50 = .ok (.getfield 184, 3) := by decide +kernel
theorem dX9_needed_53 : decode cX9_needed 53 = .ok (.lstore 6, 2) := by decide +kernel
theorem dX9_needed_55 : decode cX9_needed 55 = .ok (.aload_n 0, 1) := by decide +kernel
theorem dX9_needed_56 : decode cX9_needed 56 = .ok (.getfield 176, 3) := by decide +kernel
theorem dX9_needed_59 : decode cX9_needed 59 = .ok (.lstore 8, 2) := by decide +kernel
theorem dX9_needed_61 : decode cX9_needed 61 = .ok (.aload_n 0, 1) := by decide +kernel
theorem dX9_needed_62 : decode cX9_needed 62 = .ok (.iload_n 1, 1) := by decide +kernel
theorem dX9_needed_63 : decode cX9_needed 63 = .ok (.iload_n 2, 1) := by decide +kernel
theorem dX9_needed_64 : decode cX9_needed 64 = .ok (.iconst 1, 1) := by decide +kernel
theorem dX9_needed_65 : decode cX9_needed 65 = .ok (.iconst 0, 1) := by decide +kernel
theorem dX9_needed_66 : decode cX9_needed 66 = .ok (.invokevirtual 192, 3) := by decide +kernel
theorem dX9_needed_69 : decode cX9_needed 69 = .ok (.pop, 1) := by decide +kernel
theorem dX9_needed_70 : decode cX9_needed 70 = .ok (.aload_n 0, 1) := by decide +kernel
theorem dX9_needed_71 : decode cX9_needed 71 = .ok (.getfield 184, 3) := by decide +kernel
theorem dX9_needed_74 : decode cX9_needed 74 = .ok (.lstore 10, 2) := by decide +kernel
theorem dX9_needed_76 : decode cX9_needed 76 = .ok (.aload_n 0, 1) := by decide +kernel
theorem dX9_needed_77 : decode cX9_needed 77 = .ok (.getfield 176, 3) := by decide +kernel
theorem dX9_needed_80 : decode cX9_needed 80 = .ok (.lstore 12, 2) := by decide +kernel
theorem dX9_needed_82 : decode cX9_needed 82 = .ok (.iload 4, 2) := by decide +kernel
theorem dX9_needed_84 : decode cX9_needed 84 = .ok (.istore 14, 2) := by decide +kernel
theorem dX9_needed_86 : decode cX9_needed 86 = .ok (.iconst 0, 1) := by decide +kernel
theorem dX9_needed_87 : decode cX9_needed 87 = .ok (.istore 15, 2) := by decide +kernel
theorem dX9_needed_89 : decode cX9_needed 89 = .ok (.iload 15, 2) := by decide +kernel
theorem dX9_needed_91 : decode cX9_needed 91 = .ok (.iload 4, 2) := by decide +kernel
theorem dX9_needed_93 : decode cX9_needed 93 = .ok (.if_icmp .ge 152, 3) := by decide +kernel
theorem dX9_needed_96 : decode cX9_needed 96 = .ok (.iload 15, 2) := by decide +kernel
theorem dX9_needed_98 : decode cX9_needed 98 = .ok (.iload 4, 2) := by decide +kernel
theorem dX9_needed_100 : decode cX9_needed 100 = .ok (.iconst (-1), 1) := by decide +kernel
theorem dX9_needed_101 : decode cX9_needed 101 = .ok (.ixor, 1) := by decide +kernel
theorem dX9_needed_102 : decode cX9_needed 102 = .ok (.iand, 1) := by decide +kernel
theorem dX9_needed_103 : decode cX9_needed 103 = .ok (.ifCond .ne 136, 3) := by decide +kernel
theorem dX9_needed_106 : decode cX9_needed 106 = .ok (.iload 15, 2) := by decide +kernel
theorem dX9_needed_108 : decode cX9_needed 108 = .ok (.invokestatic 156, 3) := by decide +kernel
theorem dX9_needed_111 : decode cX9_needed 111 = .ok (.iload 14, 2) := by decide +kernel
theorem dX9_needed_113 : decode cX9_needed 113 = .ok (.invokestatic 156, 3) := by decide +kernel
theorem dX9_needed_116 : decode cX9_needed 116 = .ok (.if_icmp .ge 123, 3) := by decide +kernel
theorem dX9_needed_119 : decode cX9_needed 119 = .ok (.aload_n 0, 1) := by decide +kernel
theorem dX9_needed_120 : decode cX9_needed 120 = .ok (.iload 15, 2) := by decide +kernel
theorem dX9_needed_122 : decode cX9_needed 122 = .ok (.invokevirtual 166, 3) := by decide +kernel
theorem dX9_needed_125 : decode cX9_needed 125 = .ok (.pop, 1) := by decide +kernel
theorem dX9_needed_126 : decode cX9_needed 126 = .ok (.aload_n 0, 1) := by decide +kernel
theorem dX9_needed_127 : decode cX9_needed 127 = .ok (.iload_n 1, 1) := by decide +kernel
theorem dX9_needed_128 : decode cX9_needed 128 = .ok (.iload_n 2, 1) := by decide +kernel
theorem dX9_needed_129 : decode cX9_needed 129 = .ok (.iconst 0, 1) := by decide +kernel
theorem dX9_needed_130 : decode cX9_needed 130 = .ok (.iconst 0, 1) := by decide +kernel
theorem dX9_needed_131 : decode cX9_needed 131 = .ok (.invokevirtual 192, 3) := by decide +kernel
theorem dX9_needed_134 : decode cX9_needed 134 = .ok (.iload 5, 2) := by decide +kernel
theorem dX9_needed_136 : decode cX9_needed 136 = .ok (.if_icmp .ne 7, 3) := by decide +kernel
theorem dX9_needed_139 : decode cX9_needed 139 = .ok (.iconst 1, 1) := by decide +kernel
theorem dX9_needed_140 : decode cX9_needed 140 = .ok (.goto 4, 3) := by decide +kernel
theorem dX9_needed_143 : decode cX9_needed 143 = .ok (.iconst 0, 1) := by decide +kernel
theorem dX9_needed_144 : decode cX9_needed 144 = .ok (.istore 16, 2) := by decide +kernel
theorem dX9_needed_146 : decode cX9_needed 146 = .ok (.iload 16, 2) := by decide +kernel
theorem dX9_needed_148 : decode cX9_needed 148 = .ok (.ifCond .eq 30, 3) := by decide +kernel
theorem dX9_needed_151 : decode cX9_needed 151 = .ok (.iload 5, 2) := by decide +kernel
theorem dX9_needed_153 : decode cX9_needed 153 = .ok (.ifCond .eq 21, 3) := by decide +kernel
theorem dX9_needed_156 : decode cX9_needed 156 = .ok (.aload_n 0, 1) := by decide +kernel
theorem dX9_needed_157 : decode cX9_needed 157 = .ok (.getfield 184, 3) := by decide +kernel
theorem dX9_needed_160 : decode cX9_needed 160 = .ok (.lload 8, 2) := by decide +kernel
theorem dX9_needed_162 : decode cX9_needed 162 = .ok (.lmul, 1) := by decide +kernel
theorem dX9_needed_163 : decode cX9_needed 163 = .ok (.lload 6, 2) := by decide +kernel
theorem dX9_needed_165 : decode cX9_needed 165 = .ok (.aload_n 0, 1) := by decide +kernel
theorem dX9_needed_166 : decode cX9_needed 166 = .ok (.getfield 176, 3) := by decide +kernel
theorem dX9_needed_169 : decode cX9_needed 169 = .ok (.lmul, 1) := by decide +kernel
theorem dX9_needed_170 : decode cX9_needed 170 = .ok (.lcmp, 1) := by decide +kernel
theorem dX9_needed_171 : decode cX9_needed 171 = .ok (.ifCond .ne 7, 3) := by decide +kernel
theorem dX9_needed_174 : decode cX9_needed 174 = .ok (.iconst 1, 1) := by decide +kernel
theorem dX9_needed_175 : decode cX9_needed 175 = .ok (.goto 4, 3) := by decide +kernel
theorem dX9_needed_178 : decode cX9_needed 178 = .ok (.iconst 0, 1) := by decide +kernel
theorem dX9_needed_179 : decode cX9_needed 179 = .ok (.istore 16, 2) := by decide +kernel
theorem dX9_needed_181 : decode cX9_needed 181 = .ok (.aload_n 0, 1) := by decide +kernel
theorem dX9_needed_182 : decode cX9_needed 182 = .ok (.iload_n 1, 1) := by decide +kernel
theorem dX9_needed_183 : decode cX9_needed 183 = .ok (.iload_n 2, 1) := by decide +kernel
theorem dX9_needed_184 : decode cX9_needed 184 = .ok (.iconst 1, 1) := by decide +kernel
theorem dX9_needed_185 : decode cX9_needed 185 = .ok (.iconst 0, 1) := by decide +kernel
theorem dX9_needed_186 : decode cX9_needed 186 = .ok (.invokevirtual 192, 3) := by decide +kernel
theorem dX9_needed_189 : decode cX9_needed 189 = .ok (.pop, 1) := by decide +kernel
theorem dX9_needed_190 : decode cX9_needed 190 = .ok (.iload 16, 2) := by decide +kernel
theorem dX9_needed_192 : decode cX9_needed 192 = .ok (.ifCond .eq 30, 3) := by decide +kernel
theorem dX9_needed_195 : decode cX9_needed 195 = .ok (.iload 5, 2) := by decide +kernel
theorem dX9_needed_197 : decode cX9_needed 197 = .ok (.ifCond .eq 21, 3) := by decide +kernel
theorem dX9_needed_200 : decode cX9_needed 200 = .ok (.aload_n 0, 1) := by decide +kernel
theorem dX9_needed_201 : decode cX9_needed 201 = .ok (.getfield 184, 3) := by decide +kernel
theorem dX9_needed_204 : decode cX9_needed 204 = .ok (.lload 12, 2) := by decide +kernel
theorem dX9_needed_206 : decode cX9_needed 206 = .ok (.lmul, 1) := by decide +kernel
theorem dX9_needed_207 : decode cX9_needed 207 = .ok (.lload 10, 2) := by decide +kernel
theorem dX9_needed_209 : decode cX9_needed 209 = .ok (.aload_n 0, 1) := by decide +kernel
theorem dX9_needed_210 : decode cX9_needed 210 = .ok (.getfield 176, 3) := by decide +kernel
theorem dX9_needed_213 : decode cX9_needed 213 = .ok (.lmul, 1) := by decide +kernel
theorem dX9_needed_214 : decode cX9_needed 214 = .ok (.lcmp, 1) := by decide +kernel
theorem dX9_needed_215 : decode cX9_needed 215 = .ok (.ifCond .ne 7, 3) := by decide +kernel
theorem dX9_needed_218 : decode cX9_needed 218 = .ok (.iconst 1, 1) := by decide +kernel
theorem dX9_needed_219 : decode cX9_needed 219 = .ok (.goto 4, 3) := by decide +kernel
theorem dX9_needed_222 : decode cX9_needed 222 = .ok (.iconst 0, 1) := by decide +kernel
theorem dX9_needed_223 : decode cX9_needed 223 = .ok (.istore 16, 2) := by decide +kernel
theorem dX9_needed_225 : decode cX9_needed 225 = .ok (.iload 16, 2) := by decide +kernel
theorem dX9_needed_227 : decode cX9_needed 227 = .ok (.ifCond .eq 8, 3) := by decide +kernel
theorem dX9_needed_230 : decode cX9_needed 230 = .ok (.iload 15, 2) := by decide +kernel
theorem dX9_needed_232 : decode cX9_needed 232 = .ok (.goto 5, 3) := by decide +kernel
theorem dX9_needed_235 : decode cX9_needed 235 = .ok (.iload 14, 2) := by decide +kernel
theorem dX9_needed_237 : decode cX9_needed 237 = .ok (.istore 14, 2) := by decide +kernel
theorem dX9_needed_239 : decode cX9_needed 239 = .ok (.iinc 15 1, 3) := by decide +kernel
theorem dX9_needed_242 : decode cX9_needed 242 = .ok (.goto (-153), 3) := by decide +kernel
theorem dX9_needed_245 : decode cX9_needed 245 = .ok (.iload_n 3, 1) := by decide +kernel
theorem dX9_needed_246 : decode cX9_needed 246 = .ok (.ifCond .ne 11, 3) := by decide +kernel
theorem dX9_needed_249 : decode cX9_needed 249 = .ok (.iload 14, 2) := by decide +kernel
theorem dX9_needed_251 : decode cX9_needed 251 = .ok (.invokestatic 156, 3) := by decide +kernel
theorem dX9_needed_254 : decode cX9_needed 254 = .ok (.goto 5, 3) := by decide +kernel
theorem dX9_needed_257 : decode cX9_needed 257 = .ok (.iload 14, 2) := by decide +kernel
theorem dX9_needed_259 : decode cX9_needed 259 = .ok (.ireturn, 1) := by decide +kernel
set_option maxRecDepth 20000 in
theorem ggX9_gives_X9_isSaying : GoodIn wsX9_gives wsX9_isSaying := goodIn_r _ [8, 9, 10, 11, 7, 12, 51, 52, 53, 54, 55, 56, 57, 58, 59, 60, 61, 62, 63, 64, 65, 66, 67, 68, 69, 70, 71, 72, 73, 74, 75, 76, 77, 78] rfl (by decide +kernel)
set_option maxRecDepth 20000 in
theorem gX9_gives_X9_isSaying : GoodIn wsX9_gives (wsV RX9 124 RX9 yX9_isSaying wsX9_isSaying) := goodIn_app (goodIn_of _ (by decide +kernel)) ggX9_gives_X9_isSaying
set_option maxRecDepth 20000 in
theorem ggX9_gives_X9_ons : GoodIn wsX9_gives wsX9_ons := goodIn_r _ [16, 9, 17, 51, 52, 53, 54, 55, 56, 57, 58, 59, 60, 61, 62, 63, 64, 65, 66, 67, 68, 69, 70, 71, 72, 73, 74, 75, 76, 77, 78] rfl (by decide +kernel)
set_option maxRecDepth 20000 in
theorem gX9_gives_X9_ons : GoodIn wsX9_gives (wsV RX9 163 RX9 yX9_ons wsX9_ons) := goodIn_app (goodIn_of _ (by decide +kernel)) ggX9_gives_X9_ons
set_option maxRecDepth 20000 in
theorem ggX9_gives_X9_loads : GoodIn wsX9_gives wsX9_loads := goodIn_r _ [21, 22, 23, 2, 24, 25, 9, 26, 27, 28, 7, 29, 30, 31, 32, 33, 34, 35, 36, 37, 38, 39, 40, 41, 42, 17, 43, 44, 45, 46, 3, 47, 48, 49, 50, 51, 52, 53, 54, 55, 56, 57, 58, 59, 60, 61, 62, 63, 64, 65, 66, 67, 68, 69, 70, 71, 72, 73, 74, 75, 76, 77, 78] rfl (by decide +kernel)
set_option maxRecDepth 20000 in
theorem gX9_gives_X9_loads : GoodIn wsX9_gives (wsV RX9 166 RX9 yX9_loads wsX9_loads) := goodIn_app (goodIn_of _ (by decide +kernel)) ggX9_gives_X9_loads
theorem dX9_gives_0 : decode cX9_gives 0 = .ok (.aload_n 0, 1) := by decide +kernel
theorem dX9_gives_1 : decode cX9_gives 1 = .ok (.iconst 0, 1) := by decide +kernel
theorem dX9_gives_2 : decode cX9_gives 2 = .ok (.putfield 45, 3) := by decide +kernel
theorem dX9_gives_5 : decode cX9_gives 5 = .ok (.iload_n 1, 1) := by decide +kernel
theorem dX9_gives_6 : decode cX9_gives 6 = .ok (.iconst (-1), 1) := by decide +kernel
theorem dX9_gives_7 : decode cX9_gives 7 = .ok (.if_icmp .eq 13, 3) := by decide +kernel
theorem dX9_gives_10 : decode cX9_gives 10 = .ok (.aload_n 0, 1) := by decide +kernel
theorem dX9_gives_11 : decode cX9_gives 11 = .ok (.iload_n 1, 1) := by decide +kernel
theorem dX9_gives_12 : decode cX9_gives 12 = .ok (.invokevirtual 124, 3) := by decide +kernel
theorem dX9_gives_15 : decode cX9_gives 15 = .ok (.ifCond .ne 5, 3) := by decide +kernel
theorem dX9_gives_18 : decode cX9_gives 18 = .ok (.iconst (-1), 1) := by decide +kernel
theorem dX9_gives_19 : decode cX9_gives 19 = .ok (.ireturn, 1) := by decide +kernel
theorem dX9_gives_20 : decode cX9_gives 20 = .ok (.aload_n 0, 1) := by decide +kernel
theorem dX9_gives_21 : decode cX9_gives 21 = .ok (.invokevirtual 163, 3) := by decide +kernel
theorem dX9_gives_24 : decode cX9_gives 24 = .ok (.istore_n 2, 1) := by decide +kernel
theorem dX9_gives_25 : decode cX9_gives 25 = .ok (.iload_n 1, 1) := by decide +kernel
theorem dX9_gives_26 : decode cX9_gives 26 = .ok (.iconst (-1), 1) := by decide +kernel
theorem dX9_gives_27 : decode cX9_gives 27 = .ok (.if_icmp .eq 14, 3) := by decide +kernel
theorem dX9_gives_30 : decode cX9_gives 30 = .ok (.iload_n 2, 1) := by decide +kernel
theorem dX9_gives_31 : decode cX9_gives 31 = .ok (.iload_n 1, 1) := by decide +kernel
theorem dX9_gives_32 : decode cX9_gives 32 = .ok (.ishr, 1) := by decide +kernel
theorem dX9_gives_33 : decode cX9_gives 33 = .ok (.iconst 1, 1) := by decide +kernel
theorem dX9_gives_34 : decode cX9_gives 34 = .ok (.iand, 1) := by decide +kernel
theorem dX9_gives_35 : decode cX9_gives 35 = .ok (.ifCond .ne 6, 3) := by decide +kernel
theorem dX9_gives_38 : decode cX9_gives 38 = .ok (.bipush (-9), 2) := by decide +kernel
theorem dX9_gives_40 : decode cX9_gives 40 = .ok (.ireturn, 1) := by decide +kernel
theorem dX9_gives_41 : decode cX9_gives 41 = .ok (.aload_n 0, 1) := by decide +kernel
theorem dX9_gives_42 : decode cX9_gives 42 = .ok (.iload_n 1, 1) := by decide +kernel
theorem dX9_gives_43 : decode cX9_gives 43 = .ok (.iconst (-1), 1) := by decide +kernel
theorem dX9_gives_44 : decode cX9_gives 44 = .ok (.if_icmp .ne 7, 3) := by decide +kernel
theorem dX9_gives_47 : decode cX9_gives 47 = .ok (.iload_n 2, 1) := by decide +kernel
theorem dX9_gives_48 : decode cX9_gives 48 = .ok (.goto 6, 3) := by decide +kernel
theorem dX9_gives_51 : decode cX9_gives 51 = .ok (.iconst 1, 1) := by decide +kernel
theorem dX9_gives_52 : decode cX9_gives 52 = .ok (.iload_n 1, 1) := by decide +kernel
theorem dX9_gives_53 : decode cX9_gives 53 = .ok (.ishl, 1) := by decide +kernel
theorem dX9_gives_54 : decode cX9_gives 54 = .ok (.putfield 130, 3) := by decide +kernel
theorem dX9_gives_57 : decode cX9_gives 57 = .ok (.bipush (-9), 2) := by decide +kernel
theorem dX9_gives_59 : decode cX9_gives 59 = .ok (.istore_n 3, 1) := by decide +kernel
theorem dX9_gives_60 : decode cX9_gives 60 = .ok (.iconst 0, 1) := by decide +kernel
theorem dX9_gives_61 : decode cX9_gives 61 = .ok (.istore 4, 2) := by decide +kernel
theorem dX9_gives_63 : decode cX9_gives 63 = .ok (.iload 4, 2) := by decide +kernel
theorem dX9_gives_65 : decode cX9_gives 65 = .ok (.bipush 100, 2) := by decide +kernel
theorem dX9_gives_67 : decode cX9_gives 67 = .ok (.if_icmp .gt 37, 3) := by decide +kernel
theorem dX9_gives_70 : decode cX9_gives 70 = .ok (.iload_n 3, 1) := by decide +kernel
theorem dX9_gives_71 : decode cX9_gives 71 = .ok (.bipush (-9), 2) := by decide +kernel
theorem dX9_gives_73 : decode cX9_gives 73 = .ok (.if_icmp .ne 31, 3) := by decide +kernel
theorem dX9_gives_76 : decode cX9_gives 76 = .ok (.aload_n 0, 1) := by decide +kernel
theorem dX9_gives_77 : decode cX9_gives 77 = .ok (.iload 4, 2) := by decide +kernel
theorem dX9_gives_79 : decode cX9_gives 79 = .ok (.putfield 133, 3) := by decide +kernel
theorem dX9_gives_82 : decode cX9_gives 82 = .ok (.aload_n 0, 1) := by decide +kernel
theorem dX9_gives_83 : decode cX9_gives 83 = .ok (.iload_n 2, 1) := by decide +kernel
theorem dX9_gives_84 : decode cX9_gives 84 = .ok (.invokevirtual 166, 3) := by decide +kernel
theorem dX9_gives_87 : decode cX9_gives 87 = .ok (.ifCond .eq 8, 3) := by decide +kernel
theorem dX9_gives_90 : decode cX9_gives 90 = .ok (.iload 4, 2) := by decide +kernel
theorem dX9_gives_92 : decode cX9_gives 92 = .ok (.goto 5, 3) := by decide +kernel
theorem dX9_gives_95 : decode cX9_gives 95 = .ok (.bipush (-9), 2) := by decide +kernel
theorem dX9_gives_97 : decode cX9_gives 97 = .ok (.istore_n 3, 1) := by decide +kernel
theorem dX9_gives_98 : decode cX9_gives 98 = .ok (.iinc 4 1, 3) := by decide +kernel
theorem dX9_gives_101 : decode cX9_gives 101 = .ok (.goto (-38), 3) := by decide +kernel
theorem dX9_gives_104 : decode cX9_gives 104 = .ok (.aload_n 0, 1) := by decide +kernel
theorem dX9_gives_105 : decode cX9_gives 105 = .ok (.iconst 0, 1) := by decide +kernel
theorem dX9_gives_106 : decode cX9_gives 106 = .ok (.putfield 130, 3) := by decide +kernel
theorem dX9_gives_109 : decode cX9_gives 109 = .ok (.iload_n 3, 1) := by decide +kernel
theorem dX9_gives_110 : decode cX9_gives 110 = .ok (.ireturn, 1) := by decide +kernel
set_option maxRecDepth 20000 in
theorem ggX9_tell_X9_in : GoodIn wsX9_tell wsX9_in := goodIn_r _ [6] rfl (by decide +kernel)
set_option maxRecDepth 20000 in
theorem gX9_tell_X9_in : GoodIn wsX9_tell (va_wsS RX9 52 yX9_in wsX9_in) := goodIn_app (goodIn_of _ (by decide +kernel)) ggX9_tell_X9_in
theorem dX9_tell_0 : decode cX9_tell 0 = .ok (.aload_n 0, 1) := by decide +kernel
theorem dX9_tell_1 : decode cX9_tell 1 = .ok (.iconst 0, 1) := by decide +kernel
theorem dX9_tell_2 : decode cX9_tell 2 = .ok (.putfield 45, 3) := by decide +kernel
theorem dX9_tell_5 : decode cX9_tell 5 = .ok (.iload_n 1, 1) := by decide +kernel
theorem dX9_tell_6 : decode cX9_tell 6 = .ok (.iconst 0, 1) := by decide +kernel
theorem dX9_tell_7 : decode cX9_tell 7 = .ok (.bipush 7, 2) := by decide +kernel
theorem dX9_tell_9 : decode cX9_tell 9 = .ok (.invokestatic 52, 3) := by decide +kernel
theorem dX9_tell_12 : decode cX9_tell 12 = .ok (.ifCond .eq 14, 3) := by decide +kernel
theorem dX9_tell_15 : decode cX9_tell 15 = .ok (.iload_n 2, 1) := by decide +kernel
theorem dX9_tell_16 : decode cX9_tell 16 = .ok (.iconst 0, 1) := by decide +kernel
theorem dX9_tell_17 : decode cX9_tell 17 = .ok (.sipush 1000, 3) := by decide +kernel
theorem dX9_tell_20 : decode cX9_tell 20 = .ok (.invokestatic 52, 3) := by decide +kernel
theorem dX9_tell_23 : decode cX9_tell 23 = .ok (.ifCond .ne 5, 3) := by decide +kernel
theorem dX9_tell_26 : decode cX9_tell 26 = .ok (.iconst (-1), 1) := by decide +kernel
theorem dX9_tell_27 : decode cX9_tell 27 = .ok (.ireturn, 1) := by decide +kernel
theorem dX9_tell_28 : decode cX9_tell 28 = .ok (.aload_n 0, 1) := by decide +kernel
theorem dX9_tell_29 : decode cX9_tell 29 = .ok (.getfield 22, 3) := by decide +kernel
theorem dX9_tell_32 : decode cX9_tell 32 = .ok (.iload_n 1, 1) := by decide +kernel
theorem dX9_tell_33 : decode cX9_tell 33 = .ok (.iaload, 1) := by decide +kernel
theorem dX9_tell_34 : decode cX9_tell 34 = .ok (.istore_n 3, 1) := by decide +kernel
theorem dX9_tell_35 : decode cX9_tell 35 = .ok (.aload_n 0, 1) := by decide +kernel
theorem dX9_tell_36 : decode cX9_tell 36 = .ok (.getfield 22, 3) := by decide +kernel
theorem dX9_tell_39 : decode cX9_tell 39 = .ok (.iload_n 1, 1) := by decide +kernel
theorem dX9_tell_40 : decode cX9_tell 40 = .ok (.iload_n 2, 1) := by decide +kernel
theorem dX9_tell_41 : decode cX9_tell 41 = .ok (.iastore, 1) := by decide +kernel
theorem dX9_tell_42 : decode cX9_tell 42 = .ok (.iload_n 3, 1) := by decide +kernel
theorem dX9_tell_43 : decode cX9_tell 43 = .ok (.ireturn, 1) := by decide +kernel
theorem dX9_toldOf_0 : decode cX9_toldOf 0 = .ok (.iconst 0, 1) := by decide +kernel
theorem dX9_toldOf_1 : decode cX9_toldOf 1 = .ok (.istore_n 2, 1) := by decide +kernel
