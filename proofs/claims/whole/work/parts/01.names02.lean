theorem dX0_addCrossings_25 : decode cX0_addCrossings 25 = .ok (.iload 4, 2) := by decide +kernel
theorem dX0_addCrossings_27 : decode cX0_addCrossings 27 = .ok (.laload, 1) := by decide +kernel
theorem dX0_addCrossings_28 : decode cX0_addCrossings 28 = .ok (.lconst 0, 1) := by decide +kernel
theorem dX0_addCrossings_29 : decode cX0_addCrossings 29 = .ok (.lcmp, 1) := by decide +kernel
theorem dX0_addCrossings_30 : decode cX0_addCrossings 30 = .ok (.ifCond .ge 68, 3) := by decide +kernel
theorem dX0_addCrossings_33 : decode cX0_addCrossings 33 = .ok (.aload_n 2, 1) := by decide +kernel
theorem dX0_addCrossings_34 : decode cX0_addCrossings 34 = .ok (.iload 5, 2) := by decide +kernel
theorem dX0_addCrossings_36 : decode cX0_addCrossings 36 = .ok (.laload, 1) := by decide +kernel
theorem dX0_addCrossings_37 : decode cX0_addCrossings 37 = .ok (.lconst 0, 1) := by decide +kernel
theorem dX0_addCrossings_38 : decode cX0_addCrossings 38 = .ok (.lcmp, 1) := by decide +kernel
theorem dX0_addCrossings_39 : decode cX0_addCrossings 39 = .ok (.ifCond .le 53, 3) := by decide +kernel
theorem dX0_addCrossings_42 : decode cX0_addCrossings 42 = .ok (.aload_n 1, 1) := by decide +kernel
theorem dX0_addCrossings_43 : decode cX0_addCrossings 43 = .ok (.iload 4, 2) := by decide +kernel
theorem dX0_addCrossings_45 : decode cX0_addCrossings 45 = .ok (.iload 5, 2) := by decide +kernel
theorem dX0_addCrossings_47 : decode cX0_addCrossings 47 = .ok (.invokevirtual 100, 3) := by decide +kernel
theorem dX0_addCrossings_50 : decode cX0_addCrossings 50 = .ok (.ifCond .eq 42, 3) := by decide +kernel
theorem dX0_addCrossings_53 : decode cX0_addCrossings 53 = .ok (.aload_n 0, 1) := by decide +kernel
theorem dX0_addCrossings_54 : decode cX0_addCrossings 54 = .ok (.aload_n 1, 1) := by decide +kernel
theorem dX0_addCrossings_55 : decode cX0_addCrossings 55 = .ok (.iload 4, 2) := by decide +kernel
theorem dX0_addCrossings_57 : decode cX0_addCrossings 57 = .ok (.aload_n 2, 1) := by decide +kernel
theorem dX0_addCrossings_58 : decode cX0_addCrossings 58 = .ok (.iload 5, 2) := by decide +kernel
theorem dX0_addCrossings_60 : decode cX0_addCrossings 60 = .ok (.laload, 1) := by decide +kernel
theorem dX0_addCrossings_61 : decode cX0_addCrossings 61 = .ok (.iload 5, 2) := by decide +kernel
theorem dX0_addCrossings_63 : decode cX0_addCrossings 63 = .ok (.aload_n 2, 1) := by decide +kernel
theorem dX0_addCrossings_64 : decode cX0_addCrossings 64 = .ok (.iload 4, 2) := by decide +kernel
theorem dX0_addCrossings_66 : decode cX0_addCrossings 66 = .ok (.laload, 1) := by decide +kernel
theorem dX0_addCrossings_67 : decode cX0_addCrossings 67 = .ok (.lneg, 1) := by decide +kernel
theorem dX0_addCrossings_68 : decode cX0_addCrossings 68 = .ok (.invokevirtual 104, 3) := by decide +kernel
theorem dX0_addCrossings_71 : decode cX0_addCrossings 71 = .ok (.aload_n 0, 1) := by decide +kernel
theorem dX0_addCrossings_72 : decode cX0_addCrossings 72 = .ok (.aload_n 1, 1) := by decide +kernel
theorem dX0_addCrossings_73 : decode cX0_addCrossings 73 = .ok (.getfield 35, 3) := by decide +kernel
theorem dX0_addCrossings_76 : decode cX0_addCrossings 76 = .ok (.iload 4, 2) := by decide +kernel
theorem dX0_addCrossings_78 : decode cX0_addCrossings 78 = .ok (.iaload, 1) := by decide +kernel
theorem dX0_addCrossings_79 : decode cX0_addCrossings 79 = .ok (.aload_n 1, 1) := by decide +kernel
theorem dX0_addCrossings_80 : decode cX0_addCrossings 80 = .ok (.getfield 35, 3) := by decide +kernel
theorem dX0_addCrossings_83 : decode cX0_addCrossings 83 = .ok (.iload 5, 2) := by decide +kernel
theorem dX0_addCrossings_85 : decode cX0_addCrossings 85 = .ok (.iaload, 1) := by decide +kernel
theorem dX0_addCrossings_86 : decode cX0_addCrossings 86 = .ok (.iand, 1) := by decide +kernel
theorem dX0_addCrossings_87 : decode cX0_addCrossings 87 = .ok (.iload_n 3, 1) := by decide +kernel
theorem dX0_addCrossings_88 : decode cX0_addCrossings 88 = .ok (.ior, 1) := by decide +kernel
theorem dX0_addCrossings_89 : decode cX0_addCrossings 89 = .ok (.invokevirtual 54, 3) := by decide +kernel
theorem dX0_addCrossings_92 : decode cX0_addCrossings 92 = .ok (.iinc 5 1, 3) := by decide +kernel
theorem dX0_addCrossings_95 : decode cX0_addCrossings 95 = .ok (.goto (-80), 3) := by decide +kernel
theorem dX0_addCrossings_98 : decode cX0_addCrossings 98 = .ok (.iinc 4 1, 3) := by decide +kernel
theorem dX0_addCrossings_101 : decode cX0_addCrossings 101 = .ok (.goto (-98), 3) := by decide +kernel
theorem dX0_addCrossings_104 : decode cX0_addCrossings 104 = .ok (.return_, 1) := by decide +kernel
theorem dX0_mix_0 : decode cX0_mix 0 = .ok (.iconst 0, 1) := by decide +kernel
theorem dX0_mix_1 : decode cX0_mix 1 = .ok (.istore 8, 2) := by decide +kernel
theorem dX0_mix_3 : decode cX0_mix 3 = .ok (.iload 8, 2) := by decide +kernel
theorem dX0_mix_5 : decode cX0_mix 5 = .ok (.bipush 8, 2) := by decide +kernel
theorem dX0_mix_7 : decode cX0_mix 7 = .ok (.if_icmp .ge 47, 3) := by decide +kernel
theorem dX0_mix_10 : decode cX0_mix 10 = .ok (.aload_n 0, 1) := by decide +kernel
theorem dX0_mix_11 : decode cX0_mix 11 = .ok (.getfield 9, 3) := by decide +kernel
theorem dX0_mix_14 : decode cX0_mix 14 = .ok (.iload 8, 2) := by decide +kernel
theorem dX0_mix_16 : decode cX0_mix 16 = .ok (.lload_n 3, 1) := by decide +kernel
theorem dX0_mix_17 : decode cX0_mix 17 = .ok (.aload_n 1, 1) := by decide +kernel
theorem dX0_mix_18 : decode cX0_mix 18 = .ok (.getfield 32, 3) := by decide +kernel
theorem dX0_mix_21 : decode cX0_mix 21 = .ok (.bipush 8, 2) := by decide +kernel
theorem dX0_mix_23 : decode cX0_mix 23 = .ok (.iload_n 2, 1) := by decide +kernel
theorem dX0_mix_24 : decode cX0_mix 24 = .ok (.imul, 1) := by decide +kernel
theorem dX0_mix_25 : decode cX0_mix 25 = .ok (.iload 8, 2) := by decide +kernel
theorem dX0_mix_27 : decode cX0_mix 27 = .ok (.iadd, 1) := by decide +kernel
theorem dX0_mix_28 : decode cX0_mix 28 = .ok (.laload, 1) := by decide +kernel
theorem dX0_mix_29 : decode cX0_mix 29 = .ok (.lmul, 1) := by decide +kernel
theorem dX0_mix_30 : decode cX0_mix 30 = .ok (.lload 6, 2) := by decide +kernel
theorem dX0_mix_32 : decode cX0_mix 32 = .ok (.aload_n 1, 1) := by decide +kernel
theorem dX0_mix_33 : decode cX0_mix 33 = .ok (.getfield 32, 3) := by decide +kernel
theorem dX0_mix_36 : decode cX0_mix 36 = .ok (.bipush 8, 2) := by decide +kernel
theorem dX0_mix_38 : decode cX0_mix 38 = .ok (.iload 5, 2) := by decide +kernel
theorem dX0_mix_40 : decode cX0_mix 40 = .ok (.imul, 1) := by decide +kernel
theorem dX0_mix_41 : decode cX0_mix 41 = .ok (.iload 8, 2) := by decide +kernel
theorem dX0_mix_43 : decode cX0_mix 43 = .ok (.iadd, 1) := by decide +kernel
theorem dX0_mix_44 : decode cX0_mix 44 = .ok (.laload, 1) := by decide +kernel
theorem dX0_mix_45 : decode cX0_mix 45 = .ok (.lmul, 1) := by decide +kernel
theorem dX0_mix_46 : decode cX0_mix 46 = .ok (.ladd, 1) := by decide +kernel
theorem dX0_mix_47 : decode cX0_mix 47 = .ok (.lastore, 1) := by decide +kernel
theorem dX0_mix_48 : decode cX0_mix 48 = .ok (.iinc 8 1, 3) := by decide +kernel
theorem dX0_mix_51 : decode cX0_mix 51 = .ok (.goto (-48), 3) := by decide +kernel
theorem dX0_mix_54 : decode cX0_mix 54 = .ok (.return_, 1) := by decide +kernel
set_option maxRecDepth 20000 in
theorem ggX0_add_X8_commonDivisor : GoodIn wsX0_add wsX8_commonDivisor := goodIn_r _ [8] (by decide +kernel) (by decide +kernel)
set_option maxRecDepth 20000 in
theorem gX0_add_X8_commonDivisor_n108 : GoodIn wsX0_add (wsX8_commonDivisor) := ggX0_add_X8_commonDivisor
theorem dX0_add_0 : decode cX0_add 0 = .ok (.lconst 0, 1) := by decide +kernel
theorem dX0_add_1 : decode cX0_add 1 = .ok (.lstore_n 2, 1) := by decide +kernel
theorem dX0_add_2 : decode cX0_add 2 = .ok (.iconst 0, 1) := by decide +kernel
theorem dX0_add_3 : decode cX0_add 3 = .ok (.istore 4, 2) := by decide +kernel
theorem dX0_add_5 : decode cX0_add 5 = .ok (.iload 4, 2) := by decide +kernel
theorem dX0_add_7 : decode cX0_add 7 = .ok (.bipush 8, 2) := by decide +kernel
theorem dX0_add_9 : decode cX0_add 9 = .ok (.if_icmp .ge 21, 3) := by decide +kernel
theorem dX0_add_12 : decode cX0_add 12 = .ok (.aload_n 0, 1) := by decide +kernel
theorem dX0_add_13 : decode cX0_add 13 = .ok (.getfield 9, 3) := by decide +kernel
theorem dX0_add_16 : decode cX0_add 16 = .ok (.iload 4, 2) := by decide +kernel
theorem dX0_add_18 : decode cX0_add 18 = .ok (.laload, 1) := by decide +kernel
theorem dX0_add_19 : decode cX0_add 19 = .ok (.lload_n 2, 1) := by decide +kernel
theorem dX0_add_20 : decode cX0_add 20 = .ok (.invokestatic 108, 3) := by decide +kernel
theorem dX0_add_23 : decode cX0_add 23 = .ok (.lstore_n 2, 1) := by decide +kernel
theorem dX0_add_24 : decode cX0_add 24 = .ok (.iinc 4 1, 3) := by decide +kernel
theorem dX0_add_27 : decode cX0_add 27 = .ok (.goto (-22), 3) := by decide +kernel
theorem dX0_add_30 : decode cX0_add 30 = .ok (.lload_n 2, 1) := by decide +kernel
theorem dX0_add_31 : decode cX0_add 31 = .ok (.lconst 0, 1) := by decide +kernel
theorem dX0_add_32 : decode cX0_add 32 = .ok (.lcmp, 1) := by decide +kernel
theorem dX0_add_33 : decode cX0_add 33 = .ok (.ifCond .eq 14, 3) := by decide +kernel
theorem dX0_add_36 : decode cX0_add 36 = .ok (.aload_n 0, 1) := by decide +kernel
theorem dX0_add_37 : decode cX0_add 37 = .ok (.getfield 51, 3) := by decide +kernel
theorem dX0_add_40 : decode cX0_add 40 = .ok (.aload_n 0, 1) := by decide +kernel
theorem dX0_add_41 : decode cX0_add 41 = .ok (.getfield 28, 3) := by decide +kernel
theorem dX0_add_44 : decode cX0_add 44 = .ok (.if_icmp .lt 4, 3) := by decide +kernel
theorem dX0_add_47 : decode cX0_add 47 = .ok (.return_, 1) := by decide +kernel
theorem dX0_add_48 : decode cX0_add 48 = .ok (.iconst 0, 1) := by decide +kernel
theorem dX0_add_49 : decode cX0_add 49 = .ok (.istore 4, 2) := by decide +kernel
theorem dX0_add_51 : decode cX0_add 51 = .ok (.iload 4, 2) := by decide +kernel
theorem dX0_add_53 : decode cX0_add 53 = .ok (.bipush 8, 2) := by decide +kernel
theorem dX0_add_55 : decode cX0_add 55 = .ok (.if_icmp .ge 33, 3) := by decide +kernel
theorem dX0_add_58 : decode cX0_add 58 = .ok (.aload_n 0, 1) := by decide +kernel
theorem dX0_add_59 : decode cX0_add 59 = .ok (.getfield 32, 3) := by decide +kernel
theorem dX0_add_62 : decode cX0_add 62 = .ok (.bipush 8, 2) := by decide +kernel
theorem dX0_add_64 : decode cX0_add 64 = .ok (.aload_n 0, 1) := by decide +kernel
theorem dX0_add_65 : decode cX0_add 65 = .ok (.getfield 51, 3) := by decide +kernel
theorem dX0_add_68 : decode cX0_add 68 = .ok (.imul, 1) := by decide +kernel
theorem dX0_add_69 : decode cX0_add 69 = .ok (.iload 4, 2) := by decide +kernel
theorem dX0_add_71 : decode cX0_add 71 = .ok (.iadd, 1) := by decide +kernel
theorem dX0_add_72 : decode cX0_add 72 = .ok (.aload_n 0, 1) := by decide +kernel
theorem dX0_add_73 : decode cX0_add 73 = .ok (.getfield 9, 3) := by decide +kernel
theorem dX0_add_76 : decode cX0_add 76 = .ok (.iload 4, 2) := by decide +kernel
theorem dX0_add_78 : decode cX0_add 78 = .ok (.laload, 1) := by decide +kernel
theorem dX0_add_79 : decode cX0_add 79 = .ok (.lload_n 2, 1) := by decide +kernel
theorem dX0_add_80 : decode cX0_add 80 = .ok (.ldiv, 1) := by decide +kernel
theorem dX0_add_81 : decode cX0_add 81 = .ok (.lastore, 1) := by decide +kernel
theorem dX0_add_82 : decode cX0_add 82 = .ok (.iinc 4 1, 3) := by decide +kernel
theorem dX0_add_85 : decode cX0_add 85 = .ok (.goto (-34), 3) := by decide +kernel
theorem dX0_add_88 : decode cX0_add 88 = .ok (.aload_n 0, 1) := by decide +kernel
theorem dX0_add_89 : decode cX0_add 89 = .ok (.getfield 35, 3) := by decide +kernel
theorem dX0_add_92 : decode cX0_add 92 = .ok (.aload_n 0, 1) := by decide +kernel
theorem dX0_add_93 : decode cX0_add 93 = .ok (.getfield 51, 3) := by decide +kernel
theorem dX0_add_96 : decode cX0_add 96 = .ok (.iload_n 1, 1) := by decide +kernel
theorem dX0_add_97 : decode cX0_add 97 = .ok (.iastore, 1) := by decide +kernel
theorem dX0_add_98 : decode cX0_add 98 = .ok (.aload_n 0, 1) := by decide +kernel
theorem dX0_add_99 : decode cX0_add 99 = .ok (.dup, 1) := by decide +kernel
theorem dX0_add_100 : decode cX0_add 100 = .ok (.getfield 51, 3) := by decide +kernel
theorem dX0_add_103 : decode cX0_add 103 = .ok (.iconst 1, 1) := by decide +kernel
theorem dX0_add_104 : decode cX0_add 104 = .ok (.iadd, 1) := by decide +kernel
theorem dX0_add_105 : decode cX0_add 105 = .ok (.putfield 51, 3) := by decide +kernel
theorem dX0_add_108 : decode cX0_add 108 = .ok (.return_, 1) := by decide +kernel
set_option maxRecDepth 20000 in
theorem ggX0_weight_X8_has : GoodIn wsX0_weight wsX8_has := goodIn_r _ [4] (by decide +kernel) (by decide +kernel)
set_option maxRecDepth 20000 in
theorem gX0_weight_X8_has_n111 : GoodIn wsX0_weight (wsX8_has) := ggX0_weight_X8_has
theorem dX0_weight_0 : decode cX0_weight 0 = .ok (.lconst 0, 1) := by decide +kernel
theorem dX0_weight_1 : decode cX0_weight 1 = .ok (.lstore_n 3, 1) := by decide +kernel
theorem dX0_weight_2 : decode cX0_weight 2 = .ok (.iconst 0, 1) := by decide +kernel
theorem dX0_weight_3 : decode cX0_weight 3 = .ok (.istore 5, 2) := by decide +kernel
theorem dX0_weight_5 : decode cX0_weight 5 = .ok (.iload 5, 2) := by decide +kernel
theorem dX0_weight_7 : decode cX0_weight 7 = .ok (.bipush 8, 2) := by decide +kernel
theorem dX0_weight_9 : decode cX0_weight 9 = .ok (.if_icmp .ge 33, 3) := by decide +kernel
theorem dX0_weight_12 : decode cX0_weight 12 = .ok (.iload_n 2, 1) := by decide +kernel
theorem dX0_weight_13 : decode cX0_weight 13 = .ok (.iload 5, 2) := by decide +kernel
theorem dX0_weight_15 : decode cX0_weight 15 = .ok (.invokestatic 111, 3) := by decide +kernel
theorem dX0_weight_18 : decode cX0_weight 18 = .ok (.ifCond .eq 18, 3) := by decide +kernel
theorem dX0_weight_21 : decode cX0_weight 21 = .ok (.lload_n 3, 1) := by decide +kernel
theorem dX0_weight_22 : decode cX0_weight 22 = .ok (.aload_n 0, 1) := by decide +kernel
theorem dX0_weight_23 : decode cX0_weight 23 = .ok (.getfield 32, 3) := by decide +kernel
theorem dX0_weight_26 : decode cX0_weight 26 = .ok (.bipush 8, 2) := by decide +kernel
theorem dX0_weight_28 : decode cX0_weight 28 = .ok (.iload_n 1, 1) := by decide +kernel
theorem dX0_weight_29 : decode cX0_weight 29 = .ok (.imul, 1) := by decide +kernel
theorem dX0_weight_30 : decode cX0_weight 30 = .ok (.iload 5, 2) := by decide +kernel
theorem dX0_weight_32 : decode cX0_weight 32 = .ok (.iadd, 1) := by decide +kernel
theorem dX0_weight_33 : decode cX0_weight 33 = .ok (.laload, 1) := by decide +kernel
theorem dX0_weight_34 : decode cX0_weight 34 = .ok (.ladd, 1) := by decide +kernel
theorem dX0_weight_35 : decode cX0_weight 35 = .ok (.lstore_n 3, 1) := by decide +kernel
theorem dX0_weight_36 : decode cX0_weight 36 = .ok (.iinc 5 1, 3) := by decide +kernel
theorem dX0_weight_39 : decode cX0_weight 39 = .ok (.goto (-34), 3) := by decide +kernel
theorem dX0_weight_42 : decode cX0_weight 42 = .ok (.lload_n 3, 1) := by decide +kernel
theorem dX0_weight_43 : decode cX0_weight 43 = .ok (.lreturn, 1) := by decide +kernel
theorem dX0_isEmpty_0 : decode cX0_isEmpty 0 = .ok (.aload_n 0, 1) := by decide +kernel
theorem dX0_isEmpty_1 : decode cX0_isEmpty 1 = .ok (.getfield 51, 3) := by decide +kernel
theorem dX0_isEmpty_4 : decode cX0_isEmpty 4 = .ok (.ifCond .ne 7, 3) := by decide +kernel
theorem dX0_isEmpty_7 : decode cX0_isEmpty 7 = .ok (.iconst 1, 1) := by decide +kernel
theorem dX0_isEmpty_8 : decode cX0_isEmpty 8 = .ok (.goto 4, 3) := by decide +kernel
theorem dX0_isEmpty_11 : decode cX0_isEmpty 11 = .ok (.iconst 0, 1) := by decide +kernel
theorem dX0_isEmpty_12 : decode cX0_isEmpty 12 = .ok (.ireturn, 1) := by decide +kernel
set_option maxRecDepth 20000 in
theorem ggX0_findShare_X1_forget : GoodIn wsX0_findShare wsX1_forget := goodIn_r _ [6, 7, 8, 36, 37] (by decide +kernel) (by decide +kernel)
set_option maxRecDepth 20000 in
theorem gX0_findShare_X1_forget : GoodIn wsX0_findShare (wsV RX0 114 RX1 yX1_forget wsX1_forget) := goodIn_app (goodIn_of _ (by decide +kernel)) ggX0_findShare_X1_forget
set_option maxRecDepth 20000 in
theorem ggX0_findShare_X0_weight : GoodIn wsX0_findShare wsX0_weight := goodIn_r _ [13, 14, 15, 16, 17, 26, 27, 28, 29, 30, 31, 32, 33, 34, 35] (by decide +kernel) (by decide +kernel)
set_option maxRecDepth 20000 in
theorem gX0_findShare_X0_weight : GoodIn wsX0_findShare (wsV RX0 85 RX0 yX0_weight wsX0_weight) := goodIn_app (goodIn_of _ (by decide +kernel)) ggX0_findShare_X0_weight
set_option maxRecDepth 20000 in
theorem ggX0_findShare_X1_improve : GoodIn wsX0_findShare wsX1_improve := goodIn_r _ [21, 8, 7, 22, 23, 24, 5, 25, 36, 37] (by decide +kernel) (by decide +kernel)
set_option maxRecDepth 20000 in
theorem gX0_findShare_X1_improve : GoodIn wsX0_findShare (wsV RX0 119 RX1 yX1_improve wsX1_improve) := goodIn_app (goodIn_of _ (by decide +kernel)) ggX0_findShare_X1_improve
theorem dX0_findShare_0 : decode cX0_findShare 0 = .ok (.aload 4, 2) := by decide +kernel
theorem dX0_findShare_2 : decode cX0_findShare 2 = .ok (.invokevirtual 114, 3) := by decide +kernel
theorem dX0_findShare_5 : decode cX0_findShare 5 = .ok (.iconst 0, 1) := by decide +kernel
theorem dX0_findShare_6 : decode cX0_findShare 6 = .ok (.istore 5, 2) := by decide +kernel
theorem dX0_findShare_8 : decode cX0_findShare 8 = .ok (.iload 5, 2) := by decide +kernel
theorem dX0_findShare_10 : decode cX0_findShare 10 = .ok (.aload_n 0, 1) := by decide +kernel
theorem dX0_findShare_11 : decode cX0_findShare 11 = .ok (.getfield 51, 3) := by decide +kernel
theorem dX0_findShare_14 : decode cX0_findShare 14 = .ok (.if_icmp .ge 42, 3) := by decide +kernel
theorem dX0_findShare_17 : decode cX0_findShare 17 = .ok (.aload_n 0, 1) := by decide +kernel
theorem dX0_findShare_18 : decode cX0_findShare 18 = .ok (.iload 5, 2) := by decide +kernel
theorem dX0_findShare_20 : decode cX0_findShare 20 = .ok (.iload_n 2, 1) := by decide +kernel
theorem dX0_findShare_21 : decode cX0_findShare 21 = .ok (.invokevirtual 85, 3) := by decide +kernel
theorem dX0_findShare_24 : decode cX0_findShare 24 = .ok (.lstore 6, 2) := by decide +kernel
theorem dX0_findShare_26 : decode cX0_findShare 26 = .ok (.lload 6, 2) := by decide +kernel
theorem dX0_findShare_28 : decode cX0_findShare 28 = .ok (.lconst 0, 1) := by decide +kernel
theorem dX0_findShare_29 : decode cX0_findShare 29 = .ok (.lcmp, 1) := by decide +kernel
theorem dX0_findShare_30 : decode cX0_findShare 30 = .ok (.ifCond .le 20, 3) := by decide +kernel
theorem dX0_findShare_33 : decode cX0_findShare 33 = .ok (.aload 4, 2) := by decide +kernel
theorem dX0_findShare_35 : decode cX0_findShare 35 = .ok (.aload_n 0, 1) := by decide +kernel
theorem dX0_findShare_36 : decode cX0_findShare 36 = .ok (.iload 5, 2) := by decide +kernel
theorem dX0_findShare_38 : decode cX0_findShare 38 = .ok (.iload_n 1, 1) := by decide +kernel
theorem dX0_findShare_39 : decode cX0_findShare 39 = .ok (.iload_n 2, 1) := by decide +kernel
theorem dX0_findShare_40 : decode cX0_findShare 40 = .ok (.iand, 1) := by decide +kernel
theorem dX0_findShare_41 : decode cX0_findShare 41 = .ok (.invokevirtual 85, 3) := by decide +kernel
theorem dX0_findShare_44 : decode cX0_findShare 44 = .ok (.lload 6, 2) := by decide +kernel
theorem dX0_findShare_46 : decode cX0_findShare 46 = .ok (.iload_n 3, 1) := by decide +kernel
theorem dX0_findShare_47 : decode cX0_findShare 47 = .ok (.invokevirtual 119, 3) := by decide +kernel
theorem dX0_findShare_50 : decode cX0_findShare 50 = .ok (.iinc 5 1, 3) := by decide +kernel
theorem dX0_findShare_53 : decode cX0_findShare 53 = .ok (.goto (-45), 3) := by decide +kernel
theorem dX0_findShare_56 : decode cX0_findShare 56 = .ok (.return_, 1) := by decide +kernel
set_option maxRecDepth 20000 in
theorem ggX0_findDifference_X1_forget : GoodIn wsX0_findDifference wsX1_forget := goodIn_r _ [6, 7, 8, 36, 37] (by decide +kernel) (by decide +kernel)
set_option maxRecDepth 20000 in
theorem gX0_findDifference_X1_forget : GoodIn wsX0_findDifference (wsV RX0 114 RX1 yX1_forget wsX1_forget) := goodIn_app (goodIn_of _ (by decide +kernel)) ggX0_findDifference_X1_forget
set_option maxRecDepth 20000 in
theorem ggX0_findDifference_X0_weight : GoodIn wsX0_findDifference wsX0_weight := goodIn_r _ [13, 14, 15, 16, 17, 26, 27, 28, 29, 30, 31, 32, 33, 34, 35] (by decide +kernel) (by decide +kernel)
set_option maxRecDepth 20000 in
theorem gX0_findDifference_X0_weight : GoodIn wsX0_findDifference (wsV RX0 85 RX0 yX0_weight wsX0_weight) := goodIn_app (goodIn_of _ (by decide +kernel)) ggX0_findDifference_X0_weight
set_option maxRecDepth 20000 in
theorem ggX0_findDifference_X1_improve : GoodIn wsX0_findDifference wsX1_improve := goodIn_r _ [21, 8, 7, 22, 23, 24, 5, 25, 36, 37] (by decide +kernel) (by decide +kernel)
set_option maxRecDepth 20000 in
theorem gX0_findDifference_X1_improve : GoodIn wsX0_findDifference (wsV RX0 119 RX1 yX1_improve wsX1_improve) := goodIn_app (goodIn_of _ (by decide +kernel)) ggX0_findDifference_X1_improve
theorem dX0_findDifference_0 : decode cX0_findDifference 0 = .ok (.aload 4, 2) := by decide +kernel
theorem dX0_findDifference_2 : decode cX0_findDifference 2 = .ok (.invokevirtual 114, 3) := by decide +kernel
theorem dX0_findDifference_5 : decode cX0_findDifference 5 = .ok (.iconst 0, 1) := by decide +kernel
theorem dX0_findDifference_6 : decode cX0_findDifference 6 = .ok (.istore 5, 2) := by decide +kernel
theorem dX0_findDifference_8 : decode cX0_findDifference 8 = .ok (.iload 5, 2) := by decide +kernel
theorem dX0_findDifference_10 : decode cX0_findDifference 10 = .ok (.aload_n 0, 1) := by decide +kernel
theorem dX0_findDifference_11 : decode cX0_findDifference 11 = .ok (.getfield 51, 3) := by decide +kernel
theorem dX0_findDifference_14 : decode cX0_findDifference 14 = .ok (.if_icmp .ge 43, 3) := by decide +kernel
theorem dX0_findDifference_17 : decode cX0_findDifference 17 = .ok (.aload_n 0, 1) := by decide +kernel
theorem dX0_findDifference_18 : decode cX0_findDifference 18 = .ok (.iload 5, 2) := by decide +kernel
theorem dX0_findDifference_20 : decode cX0_findDifference 20 = .ok (.iload_n 1, 1) := by decide +kernel
theorem dX0_findDifference_21 : decode cX0_findDifference 21 = .ok (.invokevirtual 85, 3) := by decide +kernel
theorem dX0_findDifference_24 : decode cX0_findDifference 24 = .ok (.aload_n 0, 1) := by decide +kernel
theorem dX0_findDifference_25 : decode cX0_findDifference 25 = .ok (.iload 5, 2) := by decide +kernel
theorem dX0_findDifference_27 : decode cX0_findDifference 27 = .ok (.iload_n 2, 1) := by decide +kernel
theorem dX0_findDifference_28 : decode cX0_findDifference 28 = .ok (.invokevirtual 85, 3) := by decide +kernel
theorem dX0_findDifference_31 : decode cX0_findDifference 31 = .ok (.lsub, 1) := by decide +kernel
theorem dX0_findDifference_32 : decode cX0_findDifference 32 = .ok (.lstore 6, 2) := by decide +kernel
theorem dX0_findDifference_34 : decode cX0_findDifference 34 = .ok (.aload 4, 2) := by decide +kernel
theorem dX0_findDifference_36 : decode cX0_findDifference 36 = .ok (.lload 6, 2) := by decide +kernel
theorem dX0_findDifference_38 : decode cX0_findDifference 38 = .ok (.aload_n 0, 1) := by decide +kernel
theorem dX0_findDifference_39 : decode cX0_findDifference 39 = .ok (.iload 5, 2) := by decide +kernel
theorem dX0_findDifference_41 : decode cX0_findDifference 41 = .ok (.sipush 255, 3) := by decide +kernel
theorem dX0_findDifference_44 : decode cX0_findDifference 44 = .ok (.invokevirtual 85, 3) := by decide +kernel
theorem dX0_findDifference_47 : decode cX0_findDifference 47 = .ok (.iload_n 3, 1) := by decide +kernel
theorem dX0_findDifference_48 : decode cX0_findDifference 48 = .ok (.invokevirtual 119, 3) := by decide +kernel
theorem dX0_findDifference_51 : decode cX0_findDifference 51 = .ok (.iinc 5 1, 3) := by decide +kernel
theorem dX0_findDifference_54 : decode cX0_findDifference 54 = .ok (.goto (-46), 3) := by decide +kernel
theorem dX0_findDifference_57 : decode cX0_findDifference 57 = .ok (.return_, 1) := by decide +kernel
set_option maxRecDepth 20000 in
theorem ggX0_findInFirstRow_X1_forget : GoodIn wsX0_findInFirstRow wsX1_forget := goodIn_r _ [6, 7, 8, 36, 37] (by decide +kernel) (by decide +kernel)
set_option maxRecDepth 20000 in
theorem gX0_findInFirstRow_X1_forget : GoodIn wsX0_findInFirstRow (wsV RX0 114 RX1 yX1_forget wsX1_forget) := goodIn_app (goodIn_of _ (by decide +kernel)) ggX0_findInFirstRow_X1_forget
set_option maxRecDepth 20000 in
theorem ggX0_findInFirstRow_X0_isAhead : GoodIn wsX0_findInFirstRow wsX0_isAhead := goodIn_r _ [13, 14, 15, 16, 17, 12, 18, 19, 20, 21, 26, 27, 28, 29, 30, 31, 32, 33, 34, 35] (by decide +kernel) (by decide +kernel)
set_option maxRecDepth 20000 in
theorem gX0_findInFirstRow_X0_isAhead : GoodIn wsX0_findInFirstRow (wsV RX0 123 RX0 yX0_isAhead wsX0_isAhead) := goodIn_app (goodIn_of _ (by decide +kernel)) ggX0_findInFirstRow_X0_isAhead
set_option maxRecDepth 20000 in
theorem ggX0_findInFirstRow_X0_weight : GoodIn wsX0_findInFirstRow wsX0_weight := goodIn_r _ [18, 14, 19, 20, 21, 26, 27, 28, 29, 30, 31, 32, 33, 34, 35] (by decide +kernel) (by decide +kernel)
set_option maxRecDepth 20000 in
theorem gX0_findInFirstRow_X0_weight : GoodIn wsX0_findInFirstRow (wsV RX0 85 RX0 yX0_weight wsX0_weight) := goodIn_app (goodIn_of _ (by decide +kernel)) ggX0_findInFirstRow_X0_weight
set_option maxRecDepth 20000 in
theorem ggX0_findInFirstRow_X1_set : GoodIn wsX0_findInFirstRow wsX1_set := goodIn_r _ [25, 7, 8, 36, 37] (by decide +kernel) (by decide +kernel)
set_option maxRecDepth 20000 in
theorem gX0_findInFirstRow_X1_set : GoodIn wsX0_findInFirstRow (wsV RX0 126 RX1 yX1_set wsX1_set) := goodIn_app (goodIn_of _ (by decide +kernel)) ggX0_findInFirstRow_X1_set
theorem dX0_findInFirstRow_0 : decode cX0_findInFirstRow 0 = .ok (.aload_n 2, 1) := by decide +kernel
theorem dX0_findInFirstRow_1 : decode cX0_findInFirstRow 1 = .ok (.invokevirtual 114, 3) := by decide +kernel
theorem dX0_findInFirstRow_4 : decode cX0_findInFirstRow 4 = .ok (.aload_n 0, 1) := by decide +kernel
theorem dX0_findInFirstRow_5 : decode cX0_findInFirstRow 5 = .ok (.getfield 51, 3) := by decide +kernel
theorem dX0_findInFirstRow_8 : decode cX0_findInFirstRow 8 = .ok (.ifCond .ne 4, 3) := by decide +kernel
theorem dX0_findInFirstRow_11 : decode cX0_findInFirstRow 11 = .ok (.return_, 1) := by decide +kernel
theorem dX0_findInFirstRow_12 : decode cX0_findInFirstRow 12 = .ok (.iconst 0, 1) := by decide +kernel
theorem dX0_findInFirstRow_13 : decode cX0_findInFirstRow 13 = .ok (.istore_n 3, 1) := by decide +kernel
theorem dX0_findInFirstRow_14 : decode cX0_findInFirstRow 14 = .ok (.iconst 1, 1) := by decide +kernel
theorem dX0_findInFirstRow_15 : decode cX0_findInFirstRow 15 = .ok (.istore 4, 2) := by decide +kernel
theorem dX0_findInFirstRow_17 : decode cX0_findInFirstRow 17 = .ok (.iload 4, 2) := by decide +kernel
theorem dX0_findInFirstRow_19 : decode cX0_findInFirstRow 19 = .ok (.aload_n 0, 1) := by decide +kernel
theorem dX0_findInFirstRow_20 : decode cX0_findInFirstRow 20 = .ok (.getfield 51, 3) := by decide +kernel
theorem dX0_findInFirstRow_23 : decode cX0_findInFirstRow 23 = .ok (.if_icmp .ge 22, 3) := by decide +kernel
theorem dX0_findInFirstRow_26 : decode cX0_findInFirstRow 26 = .ok (.aload_n 0, 1) := by decide +kernel
theorem dX0_findInFirstRow_27 : decode cX0_findInFirstRow 27 = .ok (.iload 4, 2) := by decide +kernel
theorem dX0_findInFirstRow_29 : decode cX0_findInFirstRow 29 = .ok (.iload_n 3, 1) := by decide +kernel
theorem dX0_findInFirstRow_30 : decode cX0_findInFirstRow 30 = .ok (.invokevirtual 123, 3) := by decide +kernel
theorem dX0_findInFirstRow_33 : decode cX0_findInFirstRow 33 = .ok (.ifCond .eq 6, 3) := by decide +kernel
theorem dX0_findInFirstRow_36 : decode cX0_findInFirstRow 36 = .ok (.iload 4, 2) := by decide +kernel
theorem dX0_findInFirstRow_38 : decode cX0_findInFirstRow 38 = .ok (.istore_n 3, 1) := by decide +kernel
theorem dX0_findInFirstRow_39 : decode cX0_findInFirstRow 39 = .ok (.iinc 4 1, 3) := by decide +kernel
theorem dX0_findInFirstRow_42 : decode cX0_findInFirstRow 42 = .ok (.goto (-25), 3) := by decide +kernel
theorem dX0_findInFirstRow_45 : decode cX0_findInFirstRow 45 = .ok (.aload_n 2, 1) := by decide +kernel
theorem dX0_findInFirstRow_46 : decode cX0_findInFirstRow 46 = .ok (.aload_n 0, 1) := by decide +kernel
theorem dX0_findInFirstRow_47 : decode cX0_findInFirstRow 47 = .ok (.iload_n 3, 1) := by decide +kernel
theorem dX0_findInFirstRow_48 : decode cX0_findInFirstRow 48 = .ok (.iconst 1, 1) := by decide +kernel
theorem dX0_findInFirstRow_49 : decode cX0_findInFirstRow 49 = .ok (.iload_n 1, 1) := by decide +kernel
theorem dX0_findInFirstRow_50 : decode cX0_findInFirstRow 50 = .ok (.ishl, 1) := by decide +kernel
theorem dX0_findInFirstRow_51 : decode cX0_findInFirstRow 51 = .ok (.invokevirtual 85, 3) := by decide +kernel
theorem dX0_findInFirstRow_54 : decode cX0_findInFirstRow 54 = .ok (.aload_n 0, 1) := by decide +kernel
theorem dX0_findInFirstRow_55 : decode cX0_findInFirstRow 55 = .ok (.iload_n 3, 1) := by decide +kernel
theorem dX0_findInFirstRow_56 : decode cX0_findInFirstRow 56 = .ok (.sipush 255, 3) := by decide +kernel
theorem dX0_findInFirstRow_59 : decode cX0_findInFirstRow 59 = .ok (.invokevirtual 85, 3) := by decide +kernel
theorem dX0_findInFirstRow_62 : decode cX0_findInFirstRow 62 = .ok (.invokevirtual 126, 3) := by decide +kernel
theorem dX0_findInFirstRow_65 : decode cX0_findInFirstRow 65 = .ok (.return_, 1) := by decide +kernel
set_option maxRecDepth 20000 in
theorem ggX0_isAhead_X0_weight : GoodIn wsX0_isAhead wsX0_weight := goodIn_r _ [6, 1, 7, 8, 9, 10, 11, 12, 13, 14, 15, 16, 17, 18, 19] (by decide +kernel) (by decide +kernel)
set_option maxRecDepth 20000 in
theorem gX0_isAhead_X0_weight : GoodIn wsX0_isAhead (wsV RX0 85 RX0 yX0_weight wsX0_weight) := goodIn_app (goodIn_of _ (by decide +kernel)) ggX0_isAhead_X0_weight
theorem dX0_isAhead_0 : decode cX0_isAhead 0 = .ok (.aload_n 0, 1) := by decide +kernel
theorem dX0_isAhead_1 : decode cX0_isAhead 1 = .ok (.iload_n 1, 1) := by decide +kernel
theorem dX0_isAhead_2 : decode cX0_isAhead 2 = .ok (.sipush 255, 3) := by decide +kernel
theorem dX0_isAhead_5 : decode cX0_isAhead 5 = .ok (.invokevirtual 85, 3) := by decide +kernel
theorem dX0_isAhead_8 : decode cX0_isAhead 8 = .ok (.lstore_n 3, 1) := by decide +kernel
theorem dX0_isAhead_9 : decode cX0_isAhead 9 = .ok (.aload_n 0, 1) := by decide +kernel
theorem dX0_isAhead_10 : decode cX0_isAhead 10 = .ok (.iload_n 2, 1) := by decide +kernel
theorem dX0_isAhead_11 : decode cX0_isAhead 11 = .ok (.sipush 255, 3) := by decide +kernel
theorem dX0_isAhead_14 : decode cX0_isAhead 14 = .ok (.invokevirtual 85, 3) := by decide +kernel
theorem dX0_isAhead_17 : decode cX0_isAhead 17 = .ok (.lstore 5, 2) := by decide +kernel
theorem dX0_isAhead_19 : decode cX0_isAhead 19 = .ok (.iconst 0, 1) := by decide +kernel
theorem dX0_isAhead_20 : decode cX0_isAhead 20 = .ok (.istore 7, 2) := by decide +kernel
theorem dX0_isAhead_22 : decode cX0_isAhead 22 = .ok (.iload 7, 2) := by decide +kernel
theorem dX0_isAhead_24 : decode cX0_isAhead 24 = .ok (.bipush 8, 2) := by decide +kernel
theorem dX0_isAhead_26 : decode cX0_isAhead 26 = .ok (.if_icmp .ge 64, 3) := by decide +kernel
theorem dX0_isAhead_29 : decode cX0_isAhead 29 = .ok (.aload_n 0, 1) := by decide +kernel
theorem dX0_isAhead_30 : decode cX0_isAhead 30 = .ok (.getfield 32, 3) := by decide +kernel
theorem dX0_isAhead_33 : decode cX0_isAhead 33 = .ok (.bipush 8, 2) := by decide +kernel
theorem dX0_isAhead_35 : decode cX0_isAhead 35 = .ok (.iload_n 1, 1) := by decide +kernel
theorem dX0_isAhead_36 : decode cX0_isAhead 36 = .ok (.imul, 1) := by decide +kernel
theorem dX0_isAhead_37 : decode cX0_isAhead 37 = .ok (.iload 7, 2) := by decide +kernel
theorem dX0_isAhead_39 : decode cX0_isAhead 39 = .ok (.iadd, 1) := by decide +kernel
theorem dX0_isAhead_40 : decode cX0_isAhead 40 = .ok (.laload, 1) := by decide +kernel
theorem dX0_isAhead_41 : decode cX0_isAhead 41 = .ok (.lload 5, 2) := by decide +kernel
theorem dX0_isAhead_43 : decode cX0_isAhead 43 = .ok (.lmul, 1) := by decide +kernel
theorem dX0_isAhead_44 : decode cX0_isAhead 44 = .ok (.lstore 8, 2) := by decide +kernel
theorem dX0_isAhead_46 : decode cX0_isAhead 46 = .ok (.aload_n 0, 1) := by decide +kernel
theorem dX0_isAhead_47 : decode cX0_isAhead 47 = .ok (.getfield 32, 3) := by decide +kernel
theorem dX0_isAhead_50 : decode cX0_isAhead 50 = .ok (.bipush 8, 2) := by decide +kernel
theorem dX0_isAhead_52 : decode cX0_isAhead 52 = .ok (.iload_n 2, 1) := by decide +kernel
theorem dX0_isAhead_53 : decode cX0_isAhead 53 = .ok (.imul, 1) := by decide +kernel
theorem dX0_isAhead_54 : decode cX0_isAhead 54 = .ok (.iload 7, 2) := by decide +kernel
theorem dX0_isAhead_56 : decode cX0_isAhead 56 = .ok (.iadd, 1) := by decide +kernel
theorem dX0_isAhead_57 : decode cX0_isAhead 57 = .ok (.laload, 1) := by decide +kernel
theorem dX0_isAhead_58 : decode cX0_isAhead 58 = .ok (.lload_n 3, 1) := by decide +kernel
theorem dX0_isAhead_59 : decode cX0_isAhead 59 = .ok (.lmul, 1) := by decide +kernel
theorem dX0_isAhead_60 : decode cX0_isAhead 60 = .ok (.lstore 10, 2) := by decide +kernel
theorem dX0_isAhead_62 : decode cX0_isAhead 62 = .ok (.lload 8, 2) := by decide +kernel
theorem dX0_isAhead_64 : decode cX0_isAhead 64 = .ok (.lload 10, 2) := by decide +kernel
theorem dX0_isAhead_66 : decode cX0_isAhead 66 = .ok (.lcmp, 1) := by decide +kernel
theorem dX0_isAhead_67 : decode cX0_isAhead 67 = .ok (.ifCond .eq 17, 3) := by decide +kernel
theorem dX0_isAhead_70 : decode cX0_isAhead 70 = .ok (.lload 8, 2) := by decide +kernel
theorem dX0_isAhead_72 : decode cX0_isAhead 72 = .ok (.lload 10, 2) := by decide +kernel
theorem dX0_isAhead_74 : decode cX0_isAhead 74 = .ok (.lcmp, 1) := by decide +kernel
theorem dX0_isAhead_75 : decode cX0_isAhead 75 = .ok (.ifCond .ge 7, 3) := by decide +kernel
theorem dX0_isAhead_78 : decode cX0_isAhead 78 = .ok (.iconst 1, 1) := by decide +kernel
theorem dX0_isAhead_79 : decode cX0_isAhead 79 = .ok (.goto 4, 3) := by decide +kernel
theorem dX0_isAhead_82 : decode cX0_isAhead 82 = .ok (.iconst 0, 1) := by decide +kernel
theorem dX0_isAhead_83 : decode cX0_isAhead 83 = .ok (.ireturn, 1) := by decide +kernel
theorem dX0_isAhead_84 : decode cX0_isAhead 84 = .ok (.iinc 7 1, 3) := by decide +kernel
theorem dX0_isAhead_87 : decode cX0_isAhead 87 = .ok (.goto (-65), 3) := by decide +kernel
theorem dX0_isAhead_90 : decode cX0_isAhead 90 = .ok (.iconst 0, 1) := by decide +kernel
theorem dX0_isAhead_91 : decode cX0_isAhead 91 = .ok (.ireturn, 1) := by decide +kernel
theorem dX0_worldsWithoutChance_0 : decode cX0_worldsWithoutChance 0 = .ok (.sipush 255, 3) := by decide +kernel
theorem dX0_worldsWithoutChance_3 : decode cX0_worldsWithoutChance 3 = .ok (.istore_n 1, 1) := by decide +kernel
theorem dX0_worldsWithoutChance_4 : decode cX0_worldsWithoutChance 4 = .ok (.iconst 0, 1) := by decide +kernel
theorem dX0_worldsWithoutChance_5 : decode cX0_worldsWithoutChance 5 = .ok (.istore_n 2, 1) := by decide +kernel
theorem dX0_worldsWithoutChance_6 : decode cX0_worldsWithoutChance 6 = .ok (.iload_n 2, 1) := by decide +kernel
theorem dX0_worldsWithoutChance_7 : decode cX0_worldsWithoutChance 7 = .ok (.aload_n 0, 1) := by decide +kernel
theorem dX0_worldsWithoutChance_8 : decode cX0_worldsWithoutChance 8 = .ok (.getfield 51, 3) := by decide +kernel
theorem dX0_worldsWithoutChance_11 : decode cX0_worldsWithoutChance 11 = .ok (.if_icmp .ge 18, 3) := by decide +kernel
theorem dX0_worldsWithoutChance_14 : decode cX0_worldsWithoutChance 14 = .ok (.iload_n 1, 1) := by decide +kernel
theorem dX0_worldsWithoutChance_15 : decode cX0_worldsWithoutChance 15 = .ok (.aload_n 0, 1) := by decide +kernel
theorem dX0_worldsWithoutChance_16 : decode cX0_worldsWithoutChance 16 = .ok (.getfield 35, 3) := by decide +kernel
theorem dX0_worldsWithoutChance_19 : decode cX0_worldsWithoutChance 19 = .ok (.iload_n 2, 1) := by decide +kernel
theorem dX0_worldsWithoutChance_20 : decode cX0_worldsWithoutChance 20 = .ok (.iaload, 1) := by decide +kernel
theorem dX0_worldsWithoutChance_21 : decode cX0_worldsWithoutChance 21 = .ok (.iand, 1) := by decide +kernel
theorem dX0_worldsWithoutChance_22 : decode cX0_worldsWithoutChance 22 = .ok (.istore_n 1, 1) := by decide +kernel
theorem dX0_worldsWithoutChance_23 : decode cX0_worldsWithoutChance 23 = .ok (.iinc 2 1, 3) := by decide +kernel
theorem dX0_worldsWithoutChance_26 : decode cX0_worldsWithoutChance 26 = .ok (.goto (-20), 3) := by decide +kernel
theorem dX0_worldsWithoutChance_29 : decode cX0_worldsWithoutChance 29 = .ok (.iload_n 1, 1) := by decide +kernel
theorem dX0_worldsWithoutChance_30 : decode cX0_worldsWithoutChance 30 = .ok (.ireturn, 1) := by decide +kernel
set_option maxRecDepth 20000 in
theorem ggX0_allKeep_X0_weight : GoodIn wsX0_allKeep wsX0_weight := goodIn_r _ [6, 7, 8, 9, 10, 27, 28, 29, 30, 31, 32, 33, 34, 35, 36] (by decide +kernel) (by decide +kernel)
set_option maxRecDepth 20000 in
theorem gX0_allKeep_X0_weight : GoodIn wsX0_allKeep (wsV RX0 85 RX0 yX0_weight wsX0_weight) := goodIn_app (goodIn_of _ (by decide +kernel)) ggX0_allKeep_X0_weight
set_option maxRecDepth 20000 in
theorem ggX0_allKeep_X4_isKeptBy : GoodIn wsX0_allKeep wsX4_isKeptBy := goodIn_r _ [15, 16, 17, 18, 14, 19, 20, 21, 22, 23, 24, 25, 26, 37, 38, 39, 40, 41] (by decide +kernel) (by decide +kernel)
set_option maxRecDepth 20000 in
theorem gX0_allKeep_X4_isKeptBy : GoodIn wsX0_allKeep (wsV RX0 130 RX4 yX4_isKeptBy wsX4_isKeptBy) := goodIn_app (goodIn_of _ (by decide +kernel)) ggX0_allKeep_X4_isKeptBy
theorem dX0_allKeep_0 : decode cX0_allKeep 0 = .ok (.iconst 0, 1) := by decide +kernel
theorem dX0_allKeep_1 : decode cX0_allKeep 1 = .ok (.istore_n 2, 1) := by decide +kernel
theorem dX0_allKeep_2 : decode cX0_allKeep 2 = .ok (.iload_n 2, 1) := by decide +kernel
theorem dX0_allKeep_3 : decode cX0_allKeep 3 = .ok (.aload_n 0, 1) := by decide +kernel
theorem dX0_allKeep_4 : decode cX0_allKeep 4 = .ok (.getfield 51, 3) := by decide +kernel
theorem dX0_allKeep_7 : decode cX0_allKeep 7 = .ok (.if_icmp .ge 43, 3) := by decide +kernel
theorem dX0_allKeep_10 : decode cX0_allKeep 10 = .ok (.aload_n 0, 1) := by decide +kernel
theorem dX0_allKeep_11 : decode cX0_allKeep 11 = .ok (.iload_n 2, 1) := by decide +kernel
theorem dX0_allKeep_12 : decode cX0_allKeep 12 = .ok (.aload_n 1, 1) := by decide +kernel
theorem dX0_allKeep_13 : decode cX0_allKeep 13 = .ok (.getfield 79, 3) := by decide +kernel
theorem dX0_allKeep_16 : decode cX0_allKeep 16 = .ok (.aload_n 1, 1) := by decide +kernel
theorem dX0_allKeep_17 : decode cX0_allKeep 17 = .ok (.getfield 82, 3) := by decide +kernel
theorem dX0_allKeep_20 : decode cX0_allKeep 20 = .ok (.iand, 1) := by decide +kernel
theorem dX0_allKeep_21 : decode cX0_allKeep 21 = .ok (.invokevirtual 85, 3) := by decide +kernel
theorem dX0_allKeep_24 : decode cX0_allKeep 24 = .ok (.lstore_n 3, 1) := by decide +kernel
theorem dX0_allKeep_25 : decode cX0_allKeep 25 = .ok (.aload_n 1, 1) := by decide +kernel
theorem dX0_allKeep_26 : decode cX0_allKeep 26 = .ok (.lload_n 3, 1) := by decide +kernel
theorem dX0_allKeep_27 : decode cX0_allKeep 27 = .ok (.aload_n 0, 1) := by decide +kernel
theorem dX0_allKeep_28 : decode cX0_allKeep 28 = .ok (.iload_n 2, 1) := by decide +kernel
theorem dX0_allKeep_29 : decode cX0_allKeep 29 = .ok (.aload_n 1, 1) := by decide +kernel
theorem dX0_allKeep_30 : decode cX0_allKeep 30 = .ok (.getfield 82, 3) := by decide +kernel
theorem dX0_allKeep_33 : decode cX0_allKeep 33 = .ok (.invokevirtual 85, 3) := by decide +kernel
theorem dX0_allKeep_36 : decode cX0_allKeep 36 = .ok (.invokevirtual 130, 3) := by decide +kernel
theorem dX0_allKeep_39 : decode cX0_allKeep 39 = .ok (.ifCond .ne 5, 3) := by decide +kernel
theorem dX0_allKeep_42 : decode cX0_allKeep 42 = .ok (.iconst 0, 1) := by decide +kernel
theorem dX0_allKeep_43 : decode cX0_allKeep 43 = .ok (.ireturn, 1) := by decide +kernel
theorem dX0_allKeep_44 : decode cX0_allKeep 44 = .ok (.iinc 2 1, 3) := by decide +kernel
theorem dX0_allKeep_47 : decode cX0_allKeep 47 = .ok (.goto (-45), 3) := by decide +kernel
theorem dX0_allKeep_50 : decode cX0_allKeep 50 = .ok (.iconst 1, 1) := by decide +kernel
theorem dX0_allKeep_51 : decode cX0_allKeep 51 = .ok (.ireturn, 1) := by decide +kernel
theorem dX1_init_0 : decode cX1_init 0 = .ok (.aload_n 0, 1) := by decide +kernel
theorem dX1_init_1 : decode cX1_init 1 = .ok (.invokespecial 3, 3) := by decide +kernel
theorem dX1_init_4 : decode cX1_init 4 = .ok (.return_, 1) := by decide +kernel
theorem dX1_forget_0 : decode cX1_forget 0 = .ok (.aload_n 0, 1) := by decide +kernel
theorem dX1_forget_1 : decode cX1_forget 1 = .ok (.lconst 0, 1) := by decide +kernel
theorem dX1_forget_2 : decode cX1_forget 2 = .ok (.putfield 9, 3) := by decide +kernel
theorem dX1_forget_5 : decode cX1_forget 5 = .ok (.aload_n 0, 1) := by decide +kernel
theorem dX1_forget_6 : decode cX1_forget 6 = .ok (.lconst 0, 1) := by decide +kernel
theorem dX1_forget_7 : decode cX1_forget 7 = .ok (.putfield 15, 3) := by decide +kernel
theorem dX1_forget_10 : decode cX1_forget 10 = .ok (.return_, 1) := by decide +kernel
theorem dX1_set_0 : decode cX1_set 0 = .ok (.aload_n 0, 1) := by decide +kernel
theorem dX1_set_1 : decode cX1_set 1 = .ok (.lload_n 3, 1) := by decide +kernel
theorem dX1_set_2 : decode cX1_set 2 = .ok (.lconst 0, 1) := by decide +kernel
theorem dX1_set_3 : decode cX1_set 3 = .ok (.lcmp, 1) := by decide +kernel
theorem dX1_set_4 : decode cX1_set 4 = .ok (.ifCond .le 7, 3) := by decide +kernel
theorem dX1_set_7 : decode cX1_set 7 = .ok (.lload_n 1, 1) := by decide +kernel
theorem dX1_set_8 : decode cX1_set 8 = .ok (.goto 4, 3) := by decide +kernel
theorem dX1_set_11 : decode cX1_set 11 = .ok (.lconst 0, 1) := by decide +kernel
theorem dX1_set_12 : decode cX1_set 12 = .ok (.putfield 9, 3) := by decide +kernel
theorem dX1_set_15 : decode cX1_set 15 = .ok (.aload_n 0, 1) := by decide +kernel
theorem dX1_set_16 : decode cX1_set 16 = .ok (.lload_n 3, 1) := by decide +kernel
theorem dX1_set_17 : decode cX1_set 17 = .ok (.lconst 0, 1) := by decide +kernel
theorem dX1_set_18 : decode cX1_set 18 = .ok (.lcmp, 1) := by decide +kernel
theorem dX1_set_19 : decode cX1_set 19 = .ok (.ifCond .le 7, 3) := by decide +kernel
theorem dX1_set_22 : decode cX1_set 22 = .ok (.lload_n 3, 1) := by decide +kernel
theorem dX1_set_23 : decode cX1_set 23 = .ok (.goto 4, 3) := by decide +kernel
theorem dX1_set_26 : decode cX1_set 26 = .ok (.lconst 0, 1) := by decide +kernel
theorem dX1_set_27 : decode cX1_set 27 = .ok (.putfield 15, 3) := by decide +kernel
theorem dX1_set_30 : decode cX1_set 30 = .ok (.return_, 1) := by decide +kernel
set_option maxRecDepth 20000 in
theorem ggX1_improve_X1_set : GoodIn wsX1_improve wsX1_set := goodIn_r _ [7, 2, 1, 8, 9] (by decide +kernel) (by decide +kernel)
set_option maxRecDepth 20000 in
theorem gX1_improve_X1_set : GoodIn wsX1_improve (wsV RX1 18 RX1 yX1_set wsX1_set) := goodIn_app (goodIn_of _ (by decide +kernel)) ggX1_improve_X1_set
theorem dX1_improve_0 : decode cX1_improve 0 = .ok (.lload_n 1, 1) := by decide +kernel
theorem dX1_improve_1 : decode cX1_improve 1 = .ok (.aload_n 0, 1) := by decide +kernel
theorem dX1_improve_2 : decode cX1_improve 2 = .ok (.getfield 15, 3) := by decide +kernel
theorem dX1_improve_5 : decode cX1_improve 5 = .ok (.lmul, 1) := by decide +kernel
theorem dX1_improve_6 : decode cX1_improve 6 = .ok (.aload_n 0, 1) := by decide +kernel
theorem dX1_improve_7 : decode cX1_improve 7 = .ok (.getfield 9, 3) := by decide +kernel
theorem dX1_improve_10 : decode cX1_improve 10 = .ok (.lload_n 3, 1) := by decide +kernel
theorem dX1_improve_11 : decode cX1_improve 11 = .ok (.lmul, 1) := by decide +kernel
theorem dX1_improve_12 : decode cX1_improve 12 = .ok (.lsub, 1) := by decide +kernel
theorem dX1_improve_13 : decode cX1_improve 13 = .ok (.lstore 6, 2) := by decide +kernel
theorem dX1_improve_15 : decode cX1_improve 15 = .ok (.aload_n 0, 1) := by decide +kernel
theorem dX1_improve_16 : decode cX1_improve 16 = .ok (.getfield 15, 3) := by decide +kernel
theorem dX1_improve_19 : decode cX1_improve 19 = .ok (.lconst 0, 1) := by decide +kernel
theorem dX1_improve_20 : decode cX1_improve 20 = .ok (.lcmp, 1) := by decide +kernel
theorem dX1_improve_21 : decode cX1_improve 21 = .ok (.ifCond .eq 25, 3) := by decide +kernel
theorem dX1_improve_24 : decode cX1_improve 24 = .ok (.iload 5, 2) := by decide +kernel
theorem dX1_improve_26 : decode cX1_improve 26 = .ok (.ifCond .ne 13, 3) := by decide +kernel
theorem dX1_improve_29 : decode cX1_improve 29 = .ok (.lload 6, 2) := by decide +kernel
theorem dX1_improve_31 : decode cX1_improve 31 = .ok (.lconst 0, 1) := by decide +kernel
theorem dX1_improve_32 : decode cX1_improve 32 = .ok (.lcmp, 1) := by decide +kernel
theorem dX1_improve_33 : decode cX1_improve 33 = .ok (.ifCond .ge 19, 3) := by decide +kernel
theorem dX1_improve_36 : decode cX1_improve 36 = .ok (.goto 10, 3) := by decide +kernel
theorem dX1_improve_39 : decode cX1_improve 39 = .ok (.lload 6, 2) := by decide +kernel
theorem dX1_improve_41 : decode cX1_improve 41 = .ok (.lconst 0, 1) := by decide +kernel
theorem dX1_improve_42 : decode cX1_improve 42 = .ok (.lcmp, 1) := by decide +kernel
theorem dX1_improve_43 : decode cX1_improve 43 = .ok (.ifCond .le 9, 3) := by decide +kernel
theorem dX1_improve_46 : decode cX1_improve 46 = .ok (.aload_n 0, 1) := by decide +kernel
theorem dX1_improve_47 : decode cX1_improve 47 = .ok (.lload_n 1, 1) := by decide +kernel
theorem dX1_improve_48 : decode cX1_improve 48 = .ok (.lload_n 3, 1) := by decide +kernel
theorem dX1_improve_49 : decode cX1_improve 49 = .ok (.invokevirtual 18, 3) := by decide +kernel
theorem dX1_improve_52 : decode cX1_improve 52 = .ok (.return_, 1) := by decide +kernel
theorem dX1_isSameAs_0 : decode cX1_isSameAs 0 = .ok (.aload_n 0, 1) := by decide +kernel
theorem dX1_isSameAs_1 : decode cX1_isSameAs 1 = .ok (.getfield 15, 3) := by decide +kernel
theorem dX1_isSameAs_4 : decode cX1_isSameAs 4 = .ok (.lconst 0, 1) := by decide +kernel
theorem dX1_isSameAs_5 : decode cX1_isSameAs 5 = .ok (.lcmp, 1) := by decide +kernel
theorem dX1_isSameAs_6 : decode cX1_isSameAs 6 = .ok (.ifCond .eq 12, 3) := by decide +kernel
theorem dX1_isSameAs_9 : decode cX1_isSameAs 9 = .ok (.aload_n 1, 1) := by decide +kernel
theorem dX1_isSameAs_10 : decode cX1_isSameAs 10 = .ok (.getfield 15, 3) := by decide +kernel
theorem dX1_isSameAs_13 : decode cX1_isSameAs 13 = .ok (.lconst 0, 1) := by decide +kernel
theorem dX1_isSameAs_14 : decode cX1_isSameAs 14 = .ok (.lcmp, 1) := by decide +kernel
theorem dX1_isSameAs_15 : decode cX1_isSameAs 15 = .ok (.ifCond .ne 21, 3) := by decide +kernel
theorem dX1_isSameAs_18 : decode cX1_isSameAs 18 = .ok (.aload_n 0, 1) := by decide +kernel
theorem dX1_isSameAs_19 : decode cX1_isSameAs 19 = .ok (.getfield 15, 3) := by decide +kernel
theorem dX1_isSameAs_22 : decode cX1_isSameAs 22 = .ok (.aload_n 1, 1) := by decide +kernel
theorem dX1_isSameAs_23 : decode cX1_isSameAs 23 = .ok (.getfield 15, 3) := by decide +kernel
theorem dX1_isSameAs_26 : decode cX1_isSameAs 26 = .ok (.lcmp, 1) := by decide +kernel
theorem dX1_isSameAs_27 : decode cX1_isSameAs 27 = .ok (.ifCond .ne 7, 3) := by decide +kernel
theorem dX1_isSameAs_30 : decode cX1_isSameAs 30 = .ok (.iconst 1, 1) := by decide +kernel
theorem dX1_isSameAs_31 : decode cX1_isSameAs 31 = .ok (.goto 4, 3) := by decide +kernel
theorem dX1_isSameAs_34 : decode cX1_isSameAs 34 = .ok (.iconst 0, 1) := by decide +kernel
theorem dX1_isSameAs_35 : decode cX1_isSameAs 35 = .ok (.ireturn, 1) := by decide +kernel
theorem dX1_isSameAs_36 : decode cX1_isSameAs 36 = .ok (.aload_n 0, 1) := by decide +kernel
theorem dX1_isSameAs_37 : decode cX1_isSameAs 37 = .ok (.getfield 9, 3) := by decide +kernel
theorem dX1_isSameAs_40 : decode cX1_isSameAs 40 = .ok (.aload_n 1, 1) := by decide +kernel
theorem dX1_isSameAs_41 : decode cX1_isSameAs 41 = .ok (.getfield 15, 3) := by decide +kernel
theorem dX1_isSameAs_44 : decode cX1_isSameAs 44 = .ok (.lmul, 1) := by decide +kernel
theorem dX1_isSameAs_45 : decode cX1_isSameAs 45 = .ok (.aload_n 1, 1) := by decide +kernel
theorem dX1_isSameAs_46 : decode cX1_isSameAs 46 = .ok (.getfield 9, 3) := by decide +kernel
theorem dX1_isSameAs_49 : decode cX1_isSameAs 49 = .ok (.aload_n 0, 1) := by decide +kernel
theorem dX1_isSameAs_50 : decode cX1_isSameAs 50 = .ok (.getfield 15, 3) := by decide +kernel
theorem dX1_isSameAs_53 : decode cX1_isSameAs 53 = .ok (.lmul, 1) := by decide +kernel
theorem dX1_isSameAs_54 : decode cX1_isSameAs 54 = .ok (.lcmp, 1) := by decide +kernel
theorem dX1_isSameAs_55 : decode cX1_isSameAs 55 = .ok (.ifCond .ne 7, 3) := by decide +kernel
theorem dX1_isSameAs_58 : decode cX1_isSameAs 58 = .ok (.iconst 1, 1) := by decide +kernel
theorem dX1_isSameAs_59 : decode cX1_isSameAs 59 = .ok (.goto 4, 3) := by decide +kernel
theorem dX1_isSameAs_62 : decode cX1_isSameAs 62 = .ok (.iconst 0, 1) := by decide +kernel
theorem dX1_isSameAs_63 : decode cX1_isSameAs 63 = .ok (.ireturn, 1) := by decide +kernel
set_option maxRecDepth 20000 in
theorem ggX1_inLeastTerms_X8_commonDivisor : GoodIn wsX1_inLeastTerms wsX8_commonDivisor := goodIn_r _ [10] (by decide +kernel) (by decide +kernel)
set_option maxRecDepth 20000 in
theorem gX1_inLeastTerms_X8_commonDivisor_n28 : GoodIn wsX1_inLeastTerms (wsX8_commonDivisor) := ggX1_inLeastTerms_X8_commonDivisor
theorem dX1_inLeastTerms_0 : decode cX1_inLeastTerms 0 = .ok (.aload_n 0, 1) := by decide +kernel
theorem dX1_inLeastTerms_1 : decode cX1_inLeastTerms 1 = .ok (.getfield 9, 3) := by decide +kernel
theorem dX1_inLeastTerms_4 : decode cX1_inLeastTerms 4 = .ok (.invokestatic 22, 3) := by decide +kernel
theorem dX1_inLeastTerms_7 : decode cX1_inLeastTerms 7 = .ok (.aload_n 0, 1) := by decide +kernel
theorem dX1_inLeastTerms_8 : decode cX1_inLeastTerms 8 = .ok (.getfield 15, 3) := by decide +kernel
theorem dX1_inLeastTerms_11 : decode cX1_inLeastTerms 11 = .ok (.invokestatic 28, 3) := by decide +kernel
theorem dX1_inLeastTerms_14 : decode cX1_inLeastTerms 14 = .ok (.lstore_n 2, 1) := by decide +kernel
theorem dX1_inLeastTerms_15 : decode cX1_inLeastTerms 15 = .ok (.aload_n 0, 1) := by decide +kernel
theorem dX1_inLeastTerms_16 : decode cX1_inLeastTerms 16 = .ok (.getfield 15, 3) := by decide +kernel
theorem dX1_inLeastTerms_19 : decode cX1_inLeastTerms 19 = .ok (.lconst 0, 1) := by decide +kernel
theorem dX1_inLeastTerms_20 : decode cX1_inLeastTerms 20 = .ok (.lcmp, 1) := by decide +kernel
theorem dX1_inLeastTerms_21 : decode cX1_inLeastTerms 21 = .ok (.ifCond .eq 9, 3) := by decide +kernel
theorem dX1_inLeastTerms_24 : decode cX1_inLeastTerms 24 = .ok (.lload_n 2, 1) := by decide +kernel
theorem dX1_inLeastTerms_25 : decode cX1_inLeastTerms 25 = .ok (.lconst 0, 1) := by decide +kernel
theorem dX1_inLeastTerms_26 : decode cX1_inLeastTerms 26 = .ok (.lcmp, 1) := by decide +kernel
theorem dX1_inLeastTerms_27 : decode cX1_inLeastTerms 27 = .ok (.ifCond .ne 7, 3) := by decide +kernel
theorem dX1_inLeastTerms_30 : decode cX1_inLeastTerms 30 = .ok (.ldc2_w 32, 3) := by decide +kernel
theorem dX1_inLeastTerms_33 : decode cX1_inLeastTerms 33 = .ok (.lreturn, 1) := by decide +kernel
theorem dX1_inLeastTerms_34 : decode cX1_inLeastTerms 34 = .ok (.iload_n 1, 1) := by decide +kernel
theorem dX1_inLeastTerms_35 : decode cX1_inLeastTerms 35 = .ok (.ifCond .ne 10, 3) := by decide +kernel
theorem dX1_inLeastTerms_38 : decode cX1_inLeastTerms 38 = .ok (.aload_n 0, 1) := by decide +kernel
theorem dX1_inLeastTerms_39 : decode cX1_inLeastTerms 39 = .ok (.getfield 9, 3) := by decide +kernel
theorem dX1_inLeastTerms_42 : decode cX1_inLeastTerms 42 = .ok (.goto 7, 3) := by decide +kernel
theorem dX1_inLeastTerms_45 : decode cX1_inLeastTerms 45 = .ok (.aload_n 0, 1) := by decide +kernel
theorem dX1_inLeastTerms_46 : decode cX1_inLeastTerms 46 = .ok (.getfield 15, 3) := by decide +kernel
theorem dX1_inLeastTerms_49 : decode cX1_inLeastTerms 49 = .ok (.lload_n 2, 1) := by decide +kernel
theorem dX1_inLeastTerms_50 : decode cX1_inLeastTerms 50 = .ok (.ldiv, 1) := by decide +kernel
theorem dX1_inLeastTerms_51 : decode cX1_inLeastTerms 51 = .ok (.lreturn, 1) := by decide +kernel
set_option maxRecDepth 20000 in
theorem ggX2_init_X0_init : GoodIn wsX2_init wsX0_init := goodIn_r _ [15, 16, 2, 3, 17, 18, 19, 10, 11, 20, 21, 22, 23, 24, 25, 26, 27, 28, 29, 30, 31, 32, 33, 34, 35, 51, 52, 53, 54, 55, 56, 57, 58, 59, 60, 61, 62, 63, 64, 65] (by decide +kernel) (by decide +kernel)
set_option maxRecDepth 20000 in
theorem gX2_init_X0_init : GoodIn wsX2_init (wsX0_init) := ggX2_init_X0_init
set_option maxRecDepth 20000 in
theorem ggX2_init_X0_startWithWorlds : GoodIn wsX2_init wsX0_startWithWorlds := goodIn_r _ [39, 40, 18, 41, 42, 43, 8, 44, 25, 26, 28, 45, 46, 47, 51, 52, 53, 54, 55, 56, 57, 58, 59, 60] (by decide +kernel) (by decide +kernel)
set_option maxRecDepth 20000 in
theorem gX2_init_X0_startWithWorlds : GoodIn wsX2_init (wsV RX2 22 RX0 yX0_startWithWorlds wsX0_startWithWorlds) := goodIn_app (goodIn_of _ (by decide +kernel)) ggX2_init_X0_startWithWorlds
set_option maxRecDepth 20000 in
theorem ggX2_init_X4_init : GoodIn wsX2_init wsX4_init := goodIn_r _ [34, 35, 2, 3] (by decide +kernel) (by decide +kernel)
set_option maxRecDepth 20000 in
theorem gX2_init_X4_init_n27 : GoodIn wsX2_init (wsX4_init) := ggX2_init_X4_init
theorem dX2_init_0 : decode cX2_init 0 = .ok (.aload_n 0, 1) := by decide +kernel
theorem dX2_init_1 : decode cX2_init 1 = .ok (.invokespecial 1, 3) := by decide +kernel
theorem dX2_init_4 : decode cX2_init 4 = .ok (.aload_n 0, 1) := by decide +kernel
theorem dX2_init_5 : decode cX2_init 5 = .ok (.getstatic 7, 3) := by decide +kernel
theorem dX2_init_8 : decode cX2_init 8 = .ok (.arraylength, 1) := by decide +kernel
theorem dX2_init_9 : decode cX2_init 9 = .ok (.anewarray 13, 3) := by decide +kernel
theorem dX2_init_12 : decode cX2_init 12 = .ok (.putfield 15, 3) := by decide +kernel
theorem dX2_init_15 : decode cX2_init 15 = .ok (.iconst 0, 1) := by decide +kernel
theorem dX2_init_16 : decode cX2_init 16 = .ok (.istore_n 1, 1) := by decide +kernel
theorem dX2_init_17 : decode cX2_init 17 = .ok (.iload_n 1, 1) := by decide +kernel
theorem dX2_init_18 : decode cX2_init 18 = .ok (.aload_n 0, 1) := by decide +kernel
theorem dX2_init_19 : decode cX2_init 19 = .ok (.getfield 15, 3) := by decide +kernel
theorem dX2_init_22 : decode cX2_init 22 = .ok (.arraylength, 1) := by decide +kernel
theorem dX2_init_23 : decode cX2_init 23 = .ok (.if_icmp .ge 28, 3) := by decide +kernel
theorem dX2_init_26 : decode cX2_init 26 = .ok (.aload_n 0, 1) := by decide +kernel
theorem dX2_init_27 : decode cX2_init 27 = .ok (.getfield 15, 3) := by decide +kernel
theorem dX2_init_30 : decode cX2_init 30 = .ok (.iload_n 1, 1) := by decide +kernel
theorem dX2_init_31 : decode cX2_init 31 = .ok (.new 13, 3) := by decide +kernel
theorem dX2_init_34 : decode cX2_init 34 = .ok (.dup, 1) := by decide +kernel
theorem dX2_init_35 : decode cX2_init 35 = .ok (.iload_n 1, 1) := by decide +kernel
theorem dX2_init_36 : decode cX2_init 36 = .ok (.getstatic 7, 3) := by decide +kernel
theorem dX2_init_39 : decode cX2_init 39 = .ok (.iload_n 1, 1) := by decide +kernel
theorem dX2_init_40 : decode cX2_init 40 = .ok (.iaload, 1) := by decide +kernel
theorem dX2_init_41 : decode cX2_init 41 = .ok (.invokespecial 19, 3) := by decide +kernel
theorem dX2_init_44 : decode cX2_init 44 = .ok (.aastore, 1) := by decide +kernel
theorem dX2_init_45 : decode cX2_init 45 = .ok (.iinc 1 1, 3) := by decide +kernel
theorem dX2_init_48 : decode cX2_init 48 = .ok (.goto (-31), 3) := by decide +kernel
theorem dX2_init_51 : decode cX2_init 51 = .ok (.aload_n 0, 1) := by decide +kernel
theorem dX2_init_52 : decode cX2_init 52 = .ok (.getfield 15, 3) := by decide +kernel
theorem dX2_init_55 : decode cX2_init 55 = .ok (.iconst 0, 1) := by decide +kernel
theorem dX2_init_56 : decode cX2_init 56 = .ok (.aaload, 1) := by decide +kernel
theorem dX2_init_57 : decode cX2_init 57 = .ok (.invokevirtual 22, 3) := by decide +kernel
theorem dX2_init_60 : decode cX2_init 60 = .ok (.aload_n 0, 1) := by decide +kernel
theorem dX2_init_61 : decode cX2_init 61 = .ok (.new 25, 3) := by decide +kernel
theorem dX2_init_64 : decode cX2_init 64 = .ok (.dup, 1) := by decide +kernel
theorem dX2_init_65 : decode cX2_init 65 = .ok (.invokespecial 27, 3) := by decide +kernel
theorem dX2_init_68 : decode cX2_init 68 = .ok (.putfield 28, 3) := by decide +kernel
theorem dX2_init_71 : decode cX2_init 71 = .ok (.return_, 1) := by decide +kernel
set_option maxRecDepth 20000 in
theorem ggX2_rowsBy_X8_has : GoodIn wsX2_rowsBy wsX8_has := goodIn_r _ [6] (by decide +kernel) (by decide +kernel)
set_option maxRecDepth 20000 in
theorem gX2_rowsBy_X8_has_n32 : GoodIn wsX2_rowsBy (wsX8_has) := ggX2_rowsBy_X8_has
set_option maxRecDepth 20000 in
theorem ggX2_rowsBy_X4_take : GoodIn wsX2_rowsBy wsX4_take := goodIn_r _ [11, 12, 13, 14, 15, 16, 107, 108, 109, 110, 111] (by decide +kernel) (by decide +kernel)
set_option maxRecDepth 20000 in
theorem gX2_rowsBy_X4_take : GoodIn wsX2_rowsBy (wsV RX2 38 RX4 yX4_take wsX4_take) := goodIn_app (goodIn_of _ (by decide +kernel)) ggX2_rowsBy_X4_take
set_option maxRecDepth 20000 in
theorem ggX2_rowsBy_X4_loosen : GoodIn wsX2_rowsBy wsX4_loosen := goodIn_r _ [20, 14, 21, 22, 23, 24, 15, 25, 26, 27, 107, 108, 109, 110, 111] (by decide +kernel) (by decide +kernel)
set_option maxRecDepth 20000 in
theorem gX2_rowsBy_X4_loosen : GoodIn wsX2_rowsBy (wsV RX2 42 RX4 yX4_loosen wsX4_loosen) := goodIn_app (goodIn_of _ (by decide +kernel)) ggX2_rowsBy_X4_loosen
set_option maxRecDepth 20000 in
theorem ggX2_rowsBy_X4_saysSameAs : GoodIn wsX2_rowsBy wsX4_saysSameAs := goodIn_r _ [31, 12, 13, 14, 15, 107, 108, 109, 110, 111] (by decide +kernel) (by decide +kernel)
set_option maxRecDepth 20000 in
theorem gX2_rowsBy_X4_saysSameAs : GoodIn wsX2_rowsBy (wsV RX2 53 RX4 yX4_saysSameAs wsX4_saysSameAs) := goodIn_app (goodIn_of _ (by decide +kernel)) ggX2_rowsBy_X4_saysSameAs
set_option maxRecDepth 20000 in
theorem ggX2_rowsBy_X0_cut : GoodIn wsX2_rowsBy wsX0_cut := goodIn_r _ [36, 37, 38, 39, 40, 41, 42, 43, 8, 9, 10, 11, 12, 13, 14, 15, 16, 44, 45, 46, 35, 47, 48, 49, 50, 51, 52, 4, 5, 6, 53, 54, 55, 56, 57, 58, 59, 60, 61, 62, 63, 64, 65, 66, 67, 68, 69, 70, 71, 72, 73, 74, 75, 76, 77, 78, 79, 80, 81, 82, 83, 84, 85, 86, 87, 88, 89, 90, 91, 92, 93, 97, 98, 99, 100, 101, 102, 103, 104, 105, 106, 107, 108, 109, 110, 111] (by decide +kernel) (by decide +kernel)
set_option maxRecDepth 20000 in
theorem gX2_rowsBy_X0_cut : GoodIn wsX2_rowsBy (wsV RX2 57 RX0 yX0_cut wsX0_cut) := goodIn_app (goodIn_of _ (by decide +kernel)) ggX2_rowsBy_X0_cut
theorem dX2_rowsBy_0 : decode cX2_rowsBy 0 = .ok (.iconst 0, 1) := by decide +kernel
theorem dX2_rowsBy_1 : decode cX2_rowsBy 1 = .ok (.istore 5, 2) := by decide +kernel
theorem dX2_rowsBy_3 : decode cX2_rowsBy 3 = .ok (.aload_n 1, 1) := by decide +kernel
theorem dX2_rowsBy_4 : decode cX2_rowsBy 4 = .ok (.arraylength, 1) := by decide +kernel
theorem dX2_rowsBy_5 : decode cX2_rowsBy 5 = .ok (.iconst 1, 1) := by decide +kernel
theorem dX2_rowsBy_6 : decode cX2_rowsBy 6 = .ok (.isub, 1) := by decide +kernel
theorem dX2_rowsBy_7 : decode cX2_rowsBy 7 = .ok (.istore 6, 2) := by decide +kernel
theorem dX2_rowsBy_9 : decode cX2_rowsBy 9 = .ok (.iload 6, 2) := by decide +kernel
theorem dX2_rowsBy_11 : decode cX2_rowsBy 11 = .ok (.ifCond .lt 124, 3) := by decide +kernel
theorem dX2_rowsBy_14 : decode cX2_rowsBy 14 = .ok (.iload_n 2, 1) := by decide +kernel
theorem dX2_rowsBy_15 : decode cX2_rowsBy 15 = .ok (.iload 6, 2) := by decide +kernel
theorem dX2_rowsBy_17 : decode cX2_rowsBy 17 = .ok (.invokestatic 32, 3) := by decide +kernel
theorem dX2_rowsBy_20 : decode cX2_rowsBy 20 = .ok (.ifCond .eq 109, 3) := by decide +kernel
theorem dX2_rowsBy_23 : decode cX2_rowsBy 23 = .ok (.iload 5, 2) := by decide +kernel
theorem dX2_rowsBy_25 : decode cX2_rowsBy 25 = .ok (.iconst 1, 1) := by decide +kernel
theorem dX2_rowsBy_26 : decode cX2_rowsBy 26 = .ok (.iadd, 1) := by decide +kernel
theorem dX2_rowsBy_27 : decode cX2_rowsBy 27 = .ok (.aload_n 0, 1) := by decide +kernel
theorem dX2_rowsBy_28 : decode cX2_rowsBy 28 = .ok (.getfield 15, 3) := by decide +kernel
theorem dX2_rowsBy_31 : decode cX2_rowsBy 31 = .ok (.arraylength, 1) := by decide +kernel
theorem dX2_rowsBy_32 : decode cX2_rowsBy 32 = .ok (.if_icmp .ge 97, 3) := by decide +kernel
theorem dX2_rowsBy_35 : decode cX2_rowsBy 35 = .ok (.iinc 5 1, 3) := by decide +kernel
theorem dX2_rowsBy_38 : decode cX2_rowsBy 38 = .ok (.aload_n 0, 1) := by decide +kernel
theorem dX2_rowsBy_39 : decode cX2_rowsBy 39 = .ok (.getfield 28, 3) := by decide +kernel
theorem dX2_rowsBy_42 : decode cX2_rowsBy 42 = .ok (.aload_n 1, 1) := by decide +kernel
theorem dX2_rowsBy_43 : decode cX2_rowsBy 43 = .ok (.iload 6, 2) := by decide +kernel
theorem dX2_rowsBy_45 : decode cX2_rowsBy 45 = .ok (.aaload, 1) := by decide +kernel
theorem dX2_rowsBy_46 : decode cX2_rowsBy 46 = .ok (.invokevirtual 38, 3) := by decide +kernel
theorem dX2_rowsBy_49 : decode cX2_rowsBy 49 = .ok (.aload_n 0, 1) := by decide +kernel
theorem dX2_rowsBy_50 : decode cX2_rowsBy 50 = .ok (.getfield 28, 3) := by decide +kernel
theorem dX2_rowsBy_53 : decode cX2_rowsBy 53 = .ok (.iload_n 3, 1) := by decide +kernel
theorem dX2_rowsBy_54 : decode cX2_rowsBy 54 = .ok (.iload 6, 2) := by decide +kernel
theorem dX2_rowsBy_56 : decode cX2_rowsBy 56 = .ok (.invokestatic 32, 3) := by decide +kernel
theorem dX2_rowsBy_59 : decode cX2_rowsBy 59 = .ok (.ifCond .eq 8, 3) := by decide +kernel
theorem dX2_rowsBy_62 : decode cX2_rowsBy 62 = .ok (.iload 4, 2) := by decide +kernel
theorem dX2_rowsBy_64 : decode cX2_rowsBy 64 = .ok (.goto 4, 3) := by decide +kernel
theorem dX2_rowsBy_67 : decode cX2_rowsBy 67 = .ok (.iconst 0, 1) := by decide +kernel
theorem dX2_rowsBy_68 : decode cX2_rowsBy 68 = .ok (.invokevirtual 42, 3) := by decide +kernel
theorem dX2_rowsBy_71 : decode cX2_rowsBy 71 = .ok (.iload 5, 2) := by decide +kernel
theorem dX2_rowsBy_73 : decode cX2_rowsBy 73 = .ok (.aload_n 0, 1) := by decide +kernel
theorem dX2_rowsBy_74 : decode cX2_rowsBy 74 = .ok (.getfield 46, 3) := by decide +kernel
theorem dX2_rowsBy_77 : decode cX2_rowsBy 77 = .ok (.if_icmp .gt 23, 3) := by decide +kernel
theorem dX2_rowsBy_80 : decode cX2_rowsBy 80 = .ok (.aload_n 0, 1) := by decide +kernel
theorem dX2_rowsBy_81 : decode cX2_rowsBy 81 = .ok (.getfield 15, 3) := by decide +kernel
theorem dX2_rowsBy_84 : decode cX2_rowsBy 84 = .ok (.iload 5, 2) := by decide +kernel
theorem dX2_rowsBy_86 : decode cX2_rowsBy 86 = .ok (.aaload, 1) := by decide +kernel
theorem dX2_rowsBy_87 : decode cX2_rowsBy 87 = .ok (.getfield 50, 3) := by decide +kernel
theorem dX2_rowsBy_90 : decode cX2_rowsBy 90 = .ok (.aload_n 0, 1) := by decide +kernel
theorem dX2_rowsBy_91 : decode cX2_rowsBy 91 = .ok (.getfield 28, 3) := by decide +kernel
theorem dX2_rowsBy_94 : decode cX2_rowsBy 94 = .ok (.invokevirtual 53, 3) := by decide +kernel
theorem dX2_rowsBy_97 : decode cX2_rowsBy 97 = .ok (.ifCond .ne 32, 3) := by decide +kernel
theorem dX2_rowsBy_100 : decode cX2_rowsBy 100 = .ok (.aload_n 0, 1) := by decide +kernel
theorem dX2_rowsBy_101 : decode cX2_rowsBy 101 = .ok (.getfield 15, 3) := by decide +kernel
theorem dX2_rowsBy_104 : decode cX2_rowsBy 104 = .ok (.iload 5, 2) := by decide +kernel
theorem dX2_rowsBy_106 : decode cX2_rowsBy 106 = .ok (.aaload, 1) := by decide +kernel
theorem dX2_rowsBy_107 : decode cX2_rowsBy 107 = .ok (.aload_n 0, 1) := by decide +kernel
theorem dX2_rowsBy_108 : decode cX2_rowsBy 108 = .ok (.getfield 15, 3) := by decide +kernel
theorem dX2_rowsBy_111 : decode cX2_rowsBy 111 = .ok (.iload 5, 2) := by decide +kernel
theorem dX2_rowsBy_113 : decode cX2_rowsBy 113 = .ok (.iconst 1, 1) := by decide +kernel
theorem dX2_rowsBy_114 : decode cX2_rowsBy 114 = .ok (.isub, 1) := by decide +kernel
theorem dX2_rowsBy_115 : decode cX2_rowsBy 115 = .ok (.aaload, 1) := by decide +kernel
theorem dX2_rowsBy_116 : decode cX2_rowsBy 116 = .ok (.aload_n 0, 1) := by decide +kernel
theorem dX2_rowsBy_117 : decode cX2_rowsBy 117 = .ok (.getfield 28, 3) := by decide +kernel
theorem dX2_rowsBy_120 : decode cX2_rowsBy 120 = .ok (.invokevirtual 57, 3) := by decide +kernel
theorem dX2_rowsBy_123 : decode cX2_rowsBy 123 = .ok (.aload_n 0, 1) := by decide +kernel
theorem dX2_rowsBy_124 : decode cX2_rowsBy 124 = .ok (.iload 5, 2) := by decide +kernel
theorem dX2_rowsBy_126 : decode cX2_rowsBy 126 = .ok (.putfield 46, 3) := by decide +kernel
theorem dX2_rowsBy_129 : decode cX2_rowsBy 129 = .ok (.iinc 6 (-1), 3) := by decide +kernel
theorem dX2_rowsBy_132 : decode cX2_rowsBy 132 = .ok (.goto (-123), 3) := by decide +kernel
