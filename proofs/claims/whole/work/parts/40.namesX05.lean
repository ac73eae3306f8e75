theorem dX9_loads_209 : decode cX9_loads 209 = .ok (.iload 7, 2) := by decide +kernel
theorem dX9_loads_211 : decode cX9_loads 211 = .ok (.iconst 1, 1) := by decide +kernel
theorem dX9_loads_212 : decode cX9_loads 212 = .ok (.iload_n 3, 1) := by decide +kernel
theorem dX9_loads_213 : decode cX9_loads 213 = .ok (.iconst 1, 1) := by decide +kernel
theorem dX9_loads_214 : decode cX9_loads 214 = .ok (.isub, 1) := by decide +kernel
theorem dX9_loads_215 : decode cX9_loads 215 = .ok (.ishl, 1) := by decide +kernel
theorem dX9_loads_216 : decode cX9_loads 216 = .ok (.if_icmp .ge 17, 3) := by decide +kernel
theorem dX9_loads_219 : decode cX9_loads 219 = .ok (.aload_n 0, 1) := by decide +kernel
theorem dX9_loads_220 : decode cX9_loads 220 = .ok (.iload_n 3, 1) := by decide +kernel
theorem dX9_loads_221 : decode cX9_loads 221 = .ok (.iload 7, 2) := by decide +kernel
theorem dX9_loads_223 : decode cX9_loads 223 = .ok (.iload_n 1, 1) := by decide +kernel
theorem dX9_loads_224 : decode cX9_loads 224 = .ok (.invokevirtual 159, 3) := by decide +kernel
theorem dX9_loads_227 : decode cX9_loads 227 = .ok (.iinc 7 1, 3) := by decide +kernel
theorem dX9_loads_230 : decode cX9_loads 230 = .ok (.goto (-21), 3) := by decide +kernel
theorem dX9_loads_233 : decode cX9_loads 233 = .ok (.iinc 5 1, 3) := by decide +kernel
theorem dX9_loads_236 : decode cX9_loads 236 = .ok (.goto (-111), 3) := by decide +kernel
theorem dX9_loads_239 : decode cX9_loads 239 = .ok (.iinc 2 1, 3) := by decide +kernel
theorem dX9_loads_242 : decode cX9_loads 242 = .ok (.goto (-179), 3) := by decide +kernel
theorem dX9_loads_245 : decode cX9_loads 245 = .ok (.aload_n 0, 1) := by decide +kernel
theorem dX9_loads_246 : decode cX9_loads 246 = .ok (.getfield 150, 3) := by decide +kernel
theorem dX9_loads_249 : decode cX9_loads 249 = .ok (.ifCond .le 7, 3) := by decide +kernel
theorem dX9_loads_252 : decode cX9_loads 252 = .ok (.iconst 1, 1) := by decide +kernel
theorem dX9_loads_253 : decode cX9_loads 253 = .ok (.goto 4, 3) := by decide +kernel
theorem dX9_loads_256 : decode cX9_loads 256 = .ok (.iconst 0, 1) := by decide +kernel
theorem dX9_loads_257 : decode cX9_loads 257 = .ok (.ireturn, 1) := by decide +kernel
set_option maxRecDepth 20000 in
theorem ggX9_loadsOn_X9_ons : GoodIn wsX9_loadsOn wsX9_ons := goodIn_r _ [6, 7, 8, 43, 44, 45, 46, 47, 48, 49, 50, 51, 52, 53, 54, 55, 56, 57, 58, 59, 60, 61, 62, 63, 64, 65, 66, 67, 68, 69, 70] rfl (by decide +kernel)
set_option maxRecDepth 20000 in
theorem gX9_loadsOn_X9_ons : GoodIn wsX9_loadsOn (wsV RX9 163 RX9 yX9_ons wsX9_ons) := goodIn_app (goodIn_of _ (by decide +kernel)) ggX9_loadsOn_X9_ons
set_option maxRecDepth 20000 in
theorem ggX9_loadsOn_X9_loads : GoodIn wsX9_loadsOn wsX9_loads := goodIn_r _ [12, 13, 14, 1, 15, 16, 7, 17, 18, 19, 5, 20, 21, 22, 23, 24, 25, 26, 27, 28, 29, 30, 31, 32, 33, 8, 34, 35, 36, 37, 38, 39, 40, 41, 42, 43, 44, 45, 46, 47, 48, 49, 50, 51, 52, 53, 54, 55, 56, 57, 58, 59, 60, 61, 62, 63, 64, 65, 66, 67, 68, 69, 70] rfl (by decide +kernel)
set_option maxRecDepth 20000 in
theorem gX9_loadsOn_X9_loads : GoodIn wsX9_loadsOn (wsV RX9 166 RX9 yX9_loads wsX9_loads) := goodIn_app (goodIn_of _ (by decide +kernel)) ggX9_loadsOn_X9_loads
theorem dX9_loadsOn_0 : decode cX9_loadsOn 0 = .ok (.aload_n 0, 1) := by decide +kernel
theorem dX9_loadsOn_1 : decode cX9_loadsOn 1 = .ok (.iconst 0, 1) := by decide +kernel
theorem dX9_loadsOn_2 : decode cX9_loadsOn 2 = .ok (.putfield 130, 3) := by decide +kernel
theorem dX9_loadsOn_5 : decode cX9_loadsOn 5 = .ok (.aload_n 0, 1) := by decide +kernel
theorem dX9_loadsOn_6 : decode cX9_loadsOn 6 = .ok (.aload_n 0, 1) := by decide +kernel
theorem dX9_loadsOn_7 : decode cX9_loadsOn 7 = .ok (.invokevirtual 163, 3) := by decide +kernel
theorem dX9_loadsOn_10 : decode cX9_loadsOn 10 = .ok (.invokevirtual 166, 3) := by decide +kernel
theorem dX9_loadsOn_13 : decode cX9_loadsOn 13 = .ok (.ireturn, 1) := by decide +kernel
theorem dX9_chance_0 : decode cX9_chance 0 = .ok (.lconst 0, 1) := by decide +kernel
theorem dX9_chance_1 : decode cX9_chance 1 = .ok (.lstore_n 3, 1) := by decide +kernel
theorem dX9_chance_2 : decode cX9_chance 2 = .ok (.iconst 0, 1) := by decide +kernel
theorem dX9_chance_3 : decode cX9_chance 3 = .ok (.istore 5, 2) := by decide +kernel
theorem dX9_chance_5 : decode cX9_chance 5 = .ok (.iload 5, 2) := by decide +kernel
theorem dX9_chance_7 : decode cX9_chance 7 = .ok (.bipush 8, 2) := by decide +kernel
theorem dX9_chance_9 : decode cX9_chance 9 = .ok (.if_icmp .ge 38, 3) := by decide +kernel
theorem dX9_chance_12 : decode cX9_chance 12 = .ok (.lload_n 3, 1) := by decide +kernel
theorem dX9_chance_13 : decode cX9_chance 13 = .ok (.iload_n 2, 1) := by decide +kernel
theorem dX9_chance_14 : decode cX9_chance 14 = .ok (.iload 5, 2) := by decide +kernel
theorem dX9_chance_16 : decode cX9_chance 16 = .ok (.ishr, 1) := by decide +kernel
theorem dX9_chance_17 : decode cX9_chance 17 = .ok (.iconst 1, 1) := by decide +kernel
theorem dX9_chance_18 : decode cX9_chance 18 = .ok (.iand, 1) := by decide +kernel
theorem dX9_chance_19 : decode cX9_chance 19 = .ok (.iconst 1, 1) := by decide +kernel
theorem dX9_chance_20 : decode cX9_chance 20 = .ok (.if_icmp .ne 18, 3) := by decide +kernel
theorem dX9_chance_23 : decode cX9_chance 23 = .ok (.aload_n 0, 1) := by decide +kernel
theorem dX9_chance_24 : decode cX9_chance 24 = .ok (.getfield 26, 3) := by decide +kernel
theorem dX9_chance_27 : decode cX9_chance 27 = .ok (.bipush 8, 2) := by decide +kernel
theorem dX9_chance_29 : decode cX9_chance 29 = .ok (.iload_n 1, 1) := by decide +kernel
theorem dX9_chance_30 : decode cX9_chance 30 = .ok (.imul, 1) := by decide +kernel
theorem dX9_chance_31 : decode cX9_chance 31 = .ok (.iload 5, 2) := by decide +kernel
theorem dX9_chance_33 : decode cX9_chance 33 = .ok (.iadd, 1) := by decide +kernel
theorem dX9_chance_34 : decode cX9_chance 34 = .ok (.laload, 1) := by decide +kernel
theorem dX9_chance_35 : decode cX9_chance 35 = .ok (.goto 4, 3) := by decide +kernel
theorem dX9_chance_38 : decode cX9_chance 38 = .ok (.lconst 0, 1) := by decide +kernel
theorem dX9_chance_39 : decode cX9_chance 39 = .ok (.ladd, 1) := by decide +kernel
theorem dX9_chance_40 : decode cX9_chance 40 = .ok (.lstore_n 3, 1) := by decide +kernel
theorem dX9_chance_41 : decode cX9_chance 41 = .ok (.iinc 5 1, 3) := by decide +kernel
theorem dX9_chance_44 : decode cX9_chance 44 = .ok (.goto (-39), 3) := by decide +kernel
theorem dX9_chance_47 : decode cX9_chance 47 = .ok (.lload_n 3, 1) := by decide +kernel
theorem dX9_chance_48 : decode cX9_chance 48 = .ok (.lreturn, 1) := by decide +kernel
theorem dX9_gcd_0 : decode cX9_gcd 0 = .ok (.lload_n 0, 1) := by decide +kernel
theorem dX9_gcd_1 : decode cX9_gcd 1 = .ok (.lconst 0, 1) := by decide +kernel
theorem dX9_gcd_2 : decode cX9_gcd 2 = .ok (.lcmp, 1) := by decide +kernel
theorem dX9_gcd_3 : decode cX9_gcd 3 = .ok (.ifCond .ge 8, 3) := by decide +kernel
theorem dX9_gcd_6 : decode cX9_gcd 6 = .ok (.lload_n 0, 1) := by decide +kernel
theorem dX9_gcd_7 : decode cX9_gcd 7 = .ok (.lneg, 1) := by decide +kernel
theorem dX9_gcd_8 : decode cX9_gcd 8 = .ok (.goto 4, 3) := by decide +kernel
theorem dX9_gcd_11 : decode cX9_gcd 11 = .ok (.lload_n 0, 1) := by decide +kernel
theorem dX9_gcd_12 : decode cX9_gcd 12 = .ok (.lstore 4, 2) := by decide +kernel
theorem dX9_gcd_14 : decode cX9_gcd 14 = .ok (.lload_n 2, 1) := by decide +kernel
theorem dX9_gcd_15 : decode cX9_gcd 15 = .ok (.lstore 6, 2) := by decide +kernel
theorem dX9_gcd_17 : decode cX9_gcd 17 = .ok (.lload 6, 2) := by decide +kernel
theorem dX9_gcd_19 : decode cX9_gcd 19 = .ok (.lconst 0, 1) := by decide +kernel
theorem dX9_gcd_20 : decode cX9_gcd 20 = .ok (.lcmp, 1) := by decide +kernel
theorem dX9_gcd_21 : decode cX9_gcd 21 = .ok (.ifCond .eq 21, 3) := by decide +kernel
theorem dX9_gcd_24 : decode cX9_gcd 24 = .ok (.lload 4, 2) := by decide +kernel
theorem dX9_gcd_26 : decode cX9_gcd 26 = .ok (.lload 6, 2) := by decide +kernel
theorem dX9_gcd_28 : decode cX9_gcd 28 = .ok (.lrem, 1) := by decide +kernel
theorem dX9_gcd_29 : decode cX9_gcd 29 = .ok (.lstore 8, 2) := by decide +kernel
theorem dX9_gcd_31 : decode cX9_gcd 31 = .ok (.lload 6, 2) := by decide +kernel
theorem dX9_gcd_33 : decode cX9_gcd 33 = .ok (.lstore 4, 2) := by decide +kernel
theorem dX9_gcd_35 : decode cX9_gcd 35 = .ok (.lload 8, 2) := by decide +kernel
theorem dX9_gcd_37 : decode cX9_gcd 37 = .ok (.lstore 6, 2) := by decide +kernel
theorem dX9_gcd_39 : decode cX9_gcd 39 = .ok (.goto (-22), 3) := by decide +kernel
theorem dX9_gcd_42 : decode cX9_gcd 42 = .ok (.lload 4, 2) := by decide +kernel
theorem dX9_gcd_44 : decode cX9_gcd 44 = .ok (.lreturn, 1) := by decide +kernel
set_option maxRecDepth 20000 in
theorem ggX9_tells_X9_gcd : GoodIn wsX9_tells wsX9_gcd := goodIn_r _ [4] rfl (by decide +kernel)
set_option maxRecDepth 20000 in
theorem gX9_tells_X9_gcd : GoodIn wsX9_tells (va_wsS RX9 169 yX9_gcd wsX9_gcd) := goodIn_app (goodIn_of _ (by decide +kernel)) ggX9_tells_X9_gcd
theorem dX9_tells_0 : decode cX9_tells 0 = .ok (.lload_n 0, 1) := by decide +kernel
theorem dX9_tells_1 : decode cX9_tells 1 = .ok (.lload_n 2, 1) := by decide +kernel
theorem dX9_tells_2 : decode cX9_tells 2 = .ok (.invokestatic 169, 3) := by decide +kernel
theorem dX9_tells_5 : decode cX9_tells 5 = .ok (.lstore 5, 2) := by decide +kernel
theorem dX9_tells_7 : decode cX9_tells 7 = .ok (.iload 4, 2) := by decide +kernel
theorem dX9_tells_9 : decode cX9_tells 9 = .ok (.ifCond .ne 10, 3) := by decide +kernel
theorem dX9_tells_12 : decode cX9_tells 12 = .ok (.lload_n 0, 1) := by decide +kernel
theorem dX9_tells_13 : decode cX9_tells 13 = .ok (.lload 5, 2) := by decide +kernel
theorem dX9_tells_15 : decode cX9_tells 15 = .ok (.ldiv, 1) := by decide +kernel
theorem dX9_tells_16 : decode cX9_tells 16 = .ok (.goto 7, 3) := by decide +kernel
theorem dX9_tells_19 : decode cX9_tells 19 = .ok (.lload_n 2, 1) := by decide +kernel
theorem dX9_tells_20 : decode cX9_tells 20 = .ok (.lload 5, 2) := by decide +kernel
theorem dX9_tells_22 : decode cX9_tells 22 = .ok (.ldiv, 1) := by decide +kernel
theorem dX9_tells_23 : decode cX9_tells 23 = .ok (.lreturn, 1) := by decide +kernel
set_option maxRecDepth 20000 in
theorem ggX9_could_X9_loadsOn : GoodIn wsX9_could wsX9_loadsOn := goodIn_r _ [6, 7, 8, 9, 10, 5, 11, 12, 13, 14, 15, 16, 17, 18, 19, 20, 21, 22, 23, 24, 25, 26, 27, 28, 29, 30, 31, 32, 33, 34, 35, 36, 37, 38, 39, 40, 41, 42, 43, 44, 45, 46, 47, 48, 49, 50, 51, 52, 53, 54, 55, 56, 57, 58, 59, 60, 61, 62, 63, 64, 65, 66, 67, 68, 69, 70, 71, 72, 73, 74, 75] rfl (by decide +kernel)
set_option maxRecDepth 20000 in
theorem gX9_could_X9_loadsOn : GoodIn wsX9_could (wsV RX9 173 RX9 yX9_loadsOn wsX9_loadsOn) := goodIn_app (goodIn_of _ (by decide +kernel)) ggX9_could_X9_loadsOn
theorem dX9_could_0 : decode cX9_could 0 = .ok (.aload_n 0, 1) := by decide +kernel
theorem dX9_could_1 : decode cX9_could 1 = .ok (.iconst 0, 1) := by decide +kernel
theorem dX9_could_2 : decode cX9_could 2 = .ok (.putfield 45, 3) := by decide +kernel
theorem dX9_could_5 : decode cX9_could 5 = .ok (.aload_n 0, 1) := by decide +kernel
theorem dX9_could_6 : decode cX9_could 6 = .ok (.invokevirtual 173, 3) := by decide +kernel
theorem dX9_could_9 : decode cX9_could 9 = .ok (.ifCond .eq 7, 3) := by decide +kernel
theorem dX9_could_12 : decode cX9_could 12 = .ok (.iconst 1, 1) := by decide +kernel
theorem dX9_could_13 : decode cX9_could 13 = .ok (.goto 4, 3) := by decide +kernel
theorem dX9_could_16 : decode cX9_could 16 = .ok (.iconst 0, 1) := by decide +kernel
theorem dX9_could_17 : decode cX9_could 17 = .ok (.ireturn, 1) := by decide +kernel
set_option maxRecDepth 20000 in
theorem ggX9_bounds_X9_chance : GoodIn wsX9_bounds wsX9_chance := goodIn_r _ [9, 10, 11, 12, 13, 14, 15, 16, 17, 18, 19, 20, 21, 22, 23, 24, 25, 26, 27, 28, 29, 30, 31, 32, 33, 34, 35, 36, 37, 38] rfl (by decide +kernel)
set_option maxRecDepth 20000 in
theorem gX9_bounds_X9_chance : GoodIn wsX9_bounds (wsV RX9 180 RX9 yX9_chance wsX9_chance) := goodIn_app (goodIn_of _ (by decide +kernel)) ggX9_bounds_X9_chance
theorem dX9_bounds_0 : decode cX9_bounds 0 = .ok (.aload_n 0, 1) := by decide +kernel
theorem dX9_bounds_1 : decode cX9_bounds 1 = .ok (.lconst 0, 1) := by decide +kernel
theorem dX9_bounds_2 : decode cX9_bounds 2 = .ok (.putfield 176, 3) := by decide +kernel
theorem dX9_bounds_5 : decode cX9_bounds 5 = .ok (.iconst 0, 1) := by decide +kernel
theorem dX9_bounds_6 : decode cX9_bounds 6 = .ok (.istore 5, 2) := by decide +kernel
theorem dX9_bounds_8 : decode cX9_bounds 8 = .ok (.iload 5, 2) := by decide +kernel
theorem dX9_bounds_10 : decode cX9_bounds 10 = .ok (.aload_n 0, 1) := by decide +kernel
theorem dX9_bounds_11 : decode cX9_bounds 11 = .ok (.getfield 150, 3) := by decide +kernel
theorem dX9_bounds_14 : decode cX9_bounds 14 = .ok (.if_icmp .ge 146, 3) := by decide +kernel
theorem dX9_bounds_17 : decode cX9_bounds 17 = .ok (.iload 4, 2) := by decide +kernel
theorem dX9_bounds_19 : decode cX9_bounds 19 = .ok (.ifCond .eq 21, 3) := by decide +kernel
theorem dX9_bounds_22 : decode cX9_bounds 22 = .ok (.aload_n 0, 1) := by decide +kernel
theorem dX9_bounds_23 : decode cX9_bounds 23 = .ok (.iload 5, 2) := by decide +kernel
theorem dX9_bounds_25 : decode cX9_bounds 25 = .ok (.iload_n 1, 1) := by decide +kernel
theorem dX9_bounds_26 : decode cX9_bounds 26 = .ok (.invokevirtual 180, 3) := by decide +kernel
theorem dX9_bounds_29 : decode cX9_bounds 29 = .ok (.aload_n 0, 1) := by decide +kernel
theorem dX9_bounds_30 : decode cX9_bounds 30 = .ok (.iload 5, 2) := by decide +kernel
theorem dX9_bounds_32 : decode cX9_bounds 32 = .ok (.iload_n 2, 1) := by decide +kernel
theorem dX9_bounds_33 : decode cX9_bounds 33 = .ok (.invokevirtual 180, 3) := by decide +kernel
theorem dX9_bounds_36 : decode cX9_bounds 36 = .ok (.lsub, 1) := by decide +kernel
theorem dX9_bounds_37 : decode cX9_bounds 37 = .ok (.goto 12, 3) := by decide +kernel
theorem dX9_bounds_40 : decode cX9_bounds 40 = .ok (.aload_n 0, 1) := by decide +kernel
theorem dX9_bounds_41 : decode cX9_bounds 41 = .ok (.iload 5, 2) := by decide +kernel
theorem dX9_bounds_43 : decode cX9_bounds 43 = .ok (.iload_n 1, 1) := by decide +kernel
theorem dX9_bounds_44 : decode cX9_bounds 44 = .ok (.iload_n 2, 1) := by decide +kernel
theorem dX9_bounds_45 : decode cX9_bounds 45 = .ok (.iand, 1) := by decide +kernel
theorem dX9_bounds_46 : decode cX9_bounds 46 = .ok (.invokevirtual 180, 3) := by decide +kernel
theorem dX9_bounds_49 : decode cX9_bounds 49 = .ok (.lstore 6, 2) := by decide +kernel
theorem dX9_bounds_51 : decode cX9_bounds 51 = .ok (.iload 4, 2) := by decide +kernel
theorem dX9_bounds_53 : decode cX9_bounds 53 = .ok (.ifCond .eq 13, 3) := by decide +kernel
theorem dX9_bounds_56 : decode cX9_bounds 56 = .ok (.aload_n 0, 1) := by decide +kernel
theorem dX9_bounds_57 : decode cX9_bounds 57 = .ok (.getfield 30, 3) := by decide +kernel
theorem dX9_bounds_60 : decode cX9_bounds 60 = .ok (.iload 5, 2) := by decide +kernel
theorem dX9_bounds_62 : decode cX9_bounds 62 = .ok (.laload, 1) := by decide +kernel
theorem dX9_bounds_63 : decode cX9_bounds 63 = .ok (.goto 10, 3) := by decide +kernel
theorem dX9_bounds_66 : decode cX9_bounds 66 = .ok (.aload_n 0, 1) := by decide +kernel
theorem dX9_bounds_67 : decode cX9_bounds 67 = .ok (.iload 5, 2) := by decide +kernel
theorem dX9_bounds_69 : decode cX9_bounds 69 = .ok (.iload_n 2, 1) := by decide +kernel
theorem dX9_bounds_70 : decode cX9_bounds 70 = .ok (.invokevirtual 180, 3) := by decide +kernel
theorem dX9_bounds_73 : decode cX9_bounds 73 = .ok (.lstore 8, 2) := by decide +kernel
theorem dX9_bounds_75 : decode cX9_bounds 75 = .ok (.lload 8, 2) := by decide +kernel
theorem dX9_bounds_77 : decode cX9_bounds 77 = .ok (.lconst 0, 1) := by decide +kernel
theorem dX9_bounds_78 : decode cX9_bounds 78 = .ok (.lcmp, 1) := by decide +kernel
theorem dX9_bounds_79 : decode cX9_bounds 79 = .ok (.ifCond .le 75, 3) := by decide +kernel
theorem dX9_bounds_82 : decode cX9_bounds 82 = .ok (.aload_n 0, 1) := by decide +kernel
theorem dX9_bounds_83 : decode cX9_bounds 83 = .ok (.getfield 176, 3) := by decide +kernel
theorem dX9_bounds_86 : decode cX9_bounds 86 = .ok (.lconst 0, 1) := by decide +kernel
theorem dX9_bounds_87 : decode cX9_bounds 87 = .ok (.lcmp, 1) := by decide +kernel
theorem dX9_bounds_88 : decode cX9_bounds 88 = .ok (.ifCond .ne 7, 3) := by decide +kernel
theorem dX9_bounds_91 : decode cX9_bounds 91 = .ok (.lconst 0, 1) := by decide +kernel
theorem dX9_bounds_92 : decode cX9_bounds 92 = .ok (.goto 18, 3) := by decide +kernel
theorem dX9_bounds_95 : decode cX9_bounds 95 = .ok (.lload 6, 2) := by decide +kernel
theorem dX9_bounds_97 : decode cX9_bounds 97 = .ok (.aload_n 0, 1) := by decide +kernel
theorem dX9_bounds_98 : decode cX9_bounds 98 = .ok (.getfield 176, 3) := by decide +kernel
theorem dX9_bounds_101 : decode cX9_bounds 101 = .ok (.lmul, 1) := by decide +kernel
theorem dX9_bounds_102 : decode cX9_bounds 102 = .ok (.aload_n 0, 1) := by decide +kernel
theorem dX9_bounds_103 : decode cX9_bounds 103 = .ok (.getfield 184, 3) := by decide +kernel
theorem dX9_bounds_106 : decode cX9_bounds 106 = .ok (.lload 8, 2) := by decide +kernel
theorem dX9_bounds_108 : decode cX9_bounds 108 = .ok (.lmul, 1) := by decide +kernel
theorem dX9_bounds_109 : decode cX9_bounds 109 = .ok (.lsub, 1) := by decide +kernel
theorem dX9_bounds_110 : decode cX9_bounds 110 = .ok (.lstore 10, 2) := by decide +kernel
theorem dX9_bounds_112 : decode cX9_bounds 112 = .ok (.aload_n 0, 1) := by decide +kernel
theorem dX9_bounds_113 : decode cX9_bounds 113 = .ok (.getfield 176, 3) := by decide +kernel
theorem dX9_bounds_116 : decode cX9_bounds 116 = .ok (.lconst 0, 1) := by decide +kernel
theorem dX9_bounds_117 : decode cX9_bounds 117 = .ok (.lcmp, 1) := by decide +kernel
theorem dX9_bounds_118 : decode cX9_bounds 118 = .ok (.ifCond .eq 24, 3) := by decide +kernel
theorem dX9_bounds_121 : decode cX9_bounds 121 = .ok (.iload_n 3, 1) := by decide +kernel
theorem dX9_bounds_122 : decode cX9_bounds 122 = .ok (.ifCond .ne 13, 3) := by decide +kernel
theorem dX9_bounds_125 : decode cX9_bounds 125 = .ok (.lload 10, 2) := by decide +kernel
theorem dX9_bounds_127 : decode cX9_bounds 127 = .ok (.lconst 0, 1) := by decide +kernel
theorem dX9_bounds_128 : decode cX9_bounds 128 = .ok (.lcmp, 1) := by decide +kernel
theorem dX9_bounds_129 : decode cX9_bounds 129 = .ok (.ifCond .ge 25, 3) := by decide +kernel
theorem dX9_bounds_132 : decode cX9_bounds 132 = .ok (.goto 10, 3) := by decide +kernel
theorem dX9_bounds_135 : decode cX9_bounds 135 = .ok (.lload 10, 2) := by decide +kernel
theorem dX9_bounds_137 : decode cX9_bounds 137 = .ok (.lconst 0, 1) := by decide +kernel
theorem dX9_bounds_138 : decode cX9_bounds 138 = .ok (.lcmp, 1) := by decide +kernel
theorem dX9_bounds_139 : decode cX9_bounds 139 = .ok (.ifCond .le 15, 3) := by decide +kernel
theorem dX9_bounds_142 : decode cX9_bounds 142 = .ok (.aload_n 0, 1) := by decide +kernel
theorem dX9_bounds_143 : decode cX9_bounds 143 = .ok (.lload 6, 2) := by decide +kernel
theorem dX9_bounds_145 : decode cX9_bounds 145 = .ok (.putfield 184, 3) := by decide +kernel
theorem dX9_bounds_148 : decode cX9_bounds 148 = .ok (.aload_n 0, 1) := by decide +kernel
theorem dX9_bounds_149 : decode cX9_bounds 149 = .ok (.lload 8, 2) := by decide +kernel
theorem dX9_bounds_151 : decode cX9_bounds 151 = .ok (.putfield 176, 3) := by decide +kernel
theorem dX9_bounds_154 : decode cX9_bounds 154 = .ok (.iinc 5 1, 3) := by decide +kernel
theorem dX9_bounds_157 : decode cX9_bounds 157 = .ok (.goto (-149), 3) := by decide +kernel
theorem dX9_bounds_160 : decode cX9_bounds 160 = .ok (.aload_n 0, 1) := by decide +kernel
