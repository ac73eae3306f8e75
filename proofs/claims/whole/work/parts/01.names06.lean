theorem dX8_isWorld_14 : decode cX8_isWorld 14 = .ok (.iconst 0, 1) := by decide +kernel
theorem dX8_isWorld_15 : decode cX8_isWorld 15 = .ok (.ireturn, 1) := by decide +kernel
theorem dX8_isZeroOrOne_0 : decode cX8_isZeroOrOne 0 = .ok (.iload_n 0, 1) := by decide +kernel
theorem dX8_isZeroOrOne_1 : decode cX8_isZeroOrOne 1 = .ok (.ifCond .eq 8, 3) := by decide +kernel
theorem dX8_isZeroOrOne_4 : decode cX8_isZeroOrOne 4 = .ok (.iload_n 0, 1) := by decide +kernel
theorem dX8_isZeroOrOne_5 : decode cX8_isZeroOrOne 5 = .ok (.iconst 1, 1) := by decide +kernel
theorem dX8_isZeroOrOne_6 : decode cX8_isZeroOrOne 6 = .ok (.if_icmp .ne 7, 3) := by decide +kernel
theorem dX8_isZeroOrOne_9 : decode cX8_isZeroOrOne 9 = .ok (.iconst 1, 1) := by decide +kernel
theorem dX8_isZeroOrOne_10 : decode cX8_isZeroOrOne 10 = .ok (.goto 4, 3) := by decide +kernel
theorem dX8_isZeroOrOne_13 : decode cX8_isZeroOrOne 13 = .ok (.iconst 0, 1) := by decide +kernel
theorem dX8_isZeroOrOne_14 : decode cX8_isZeroOrOne 14 = .ok (.ireturn, 1) := by decide +kernel
theorem dX8_has_0 : decode cX8_has 0 = .ok (.iload_n 0, 1) := by decide +kernel
theorem dX8_has_1 : decode cX8_has 1 = .ok (.iload_n 1, 1) := by decide +kernel
theorem dX8_has_2 : decode cX8_has 2 = .ok (.ishr, 1) := by decide +kernel
theorem dX8_has_3 : decode cX8_has 3 = .ok (.iconst 1, 1) := by decide +kernel
theorem dX8_has_4 : decode cX8_has 4 = .ok (.iand, 1) := by decide +kernel
theorem dX8_has_5 : decode cX8_has 5 = .ok (.iconst 1, 1) := by decide +kernel
theorem dX8_has_6 : decode cX8_has 6 = .ok (.if_icmp .ne 7, 3) := by decide +kernel
theorem dX8_has_9 : decode cX8_has 9 = .ok (.iconst 1, 1) := by decide +kernel
theorem dX8_has_10 : decode cX8_has 10 = .ok (.goto 4, 3) := by decide +kernel
theorem dX8_has_13 : decode cX8_has 13 = .ok (.iconst 0, 1) := by decide +kernel
theorem dX8_has_14 : decode cX8_has 14 = .ok (.ireturn, 1) := by decide +kernel
theorem dX8_commonDivisor_0 : decode cX8_commonDivisor 0 = .ok (.lload_n 0, 1) := by decide +kernel
theorem dX8_commonDivisor_1 : decode cX8_commonDivisor 1 = .ok (.lstore 4, 2) := by decide +kernel
theorem dX8_commonDivisor_3 : decode cX8_commonDivisor 3 = .ok (.lload_n 2, 1) := by decide +kernel
theorem dX8_commonDivisor_4 : decode cX8_commonDivisor 4 = .ok (.lstore 6, 2) := by decide +kernel
theorem dX8_commonDivisor_6 : decode cX8_commonDivisor 6 = .ok (.iconst 0, 1) := by decide +kernel
theorem dX8_commonDivisor_7 : decode cX8_commonDivisor 7 = .ok (.istore 8, 2) := by decide +kernel
theorem dX8_commonDivisor_9 : decode cX8_commonDivisor 9 = .ok (.iload 8, 2) := by decide +kernel
theorem dX8_commonDivisor_11 : decode cX8_commonDivisor 11 = .ok (.bipush 100, 2) := by decide +kernel
theorem dX8_commonDivisor_13 : decode cX8_commonDivisor 13 = .ok (.if_icmp .ge 31, 3) := by decide +kernel
theorem dX8_commonDivisor_16 : decode cX8_commonDivisor 16 = .ok (.lload 6, 2) := by decide +kernel
theorem dX8_commonDivisor_18 : decode cX8_commonDivisor 18 = .ok (.lconst 0, 1) := by decide +kernel
theorem dX8_commonDivisor_19 : decode cX8_commonDivisor 19 = .ok (.lcmp, 1) := by decide +kernel
theorem dX8_commonDivisor_20 : decode cX8_commonDivisor 20 = .ok (.ifCond .eq 24, 3) := by decide +kernel
theorem dX8_commonDivisor_23 : decode cX8_commonDivisor 23 = .ok (.lload 4, 2) := by decide +kernel
theorem dX8_commonDivisor_25 : decode cX8_commonDivisor 25 = .ok (.lload 6, 2) := by decide +kernel
theorem dX8_commonDivisor_27 : decode cX8_commonDivisor 27 = .ok (.lrem, 1) := by decide +kernel
theorem dX8_commonDivisor_28 : decode cX8_commonDivisor 28 = .ok (.lstore 9, 2) := by decide +kernel
theorem dX8_commonDivisor_30 : decode cX8_commonDivisor 30 = .ok (.lload 6, 2) := by decide +kernel
theorem dX8_commonDivisor_32 : decode cX8_commonDivisor 32 = .ok (.lstore 4, 2) := by decide +kernel
theorem dX8_commonDivisor_34 : decode cX8_commonDivisor 34 = .ok (.lload 9, 2) := by decide +kernel
theorem dX8_commonDivisor_36 : decode cX8_commonDivisor 36 = .ok (.lstore 6, 2) := by decide +kernel
theorem dX8_commonDivisor_38 : decode cX8_commonDivisor 38 = .ok (.iinc 8 1, 3) := by decide +kernel
theorem dX8_commonDivisor_41 : decode cX8_commonDivisor 41 = .ok (.goto (-32), 3) := by decide +kernel
theorem dX8_commonDivisor_44 : decode cX8_commonDivisor 44 = .ok (.lload 4, 2) := by decide +kernel
theorem dX8_commonDivisor_46 : decode cX8_commonDivisor 46 = .ok (.lreturn, 1) := by decide +kernel
theorem dX9_init_0 : decode cX9_init 0 = .ok (.aload_n 0, 1) := by decide +kernel
theorem dX9_init_1 : decode cX9_init 1 = .ok (.invokespecial 1, 3) := by decide +kernel
theorem dX9_init_4 : decode cX9_init 4 = .ok (.aload_n 0, 1) := by decide +kernel
theorem dX9_init_5 : decode cX9_init 5 = .ok (.sipush 200, 3) := by decide +kernel
theorem dX9_init_8 : decode cX9_init 8 = .ok (.newarray .int, 2) := by decide +kernel
theorem dX9_init_10 : decode cX9_init 10 = .ok (.putfield 7, 3) := by decide +kernel
theorem dX9_init_13 : decode cX9_init 13 = .ok (.aload_n 0, 1) := by decide +kernel
theorem dX9_init_14 : decode cX9_init 14 = .ok (.bipush 40, 2) := by decide +kernel
theorem dX9_init_16 : decode cX9_init 16 = .ok (.newarray .int, 2) := by decide +kernel
theorem dX9_init_18 : decode cX9_init 18 = .ok (.putfield 13, 3) := by decide +kernel
theorem dX9_init_21 : decode cX9_init 21 = .ok (.aload_n 0, 1) := by decide +kernel
theorem dX9_init_22 : decode cX9_init 22 = .ok (.bipush 24, 2) := by decide +kernel
theorem dX9_init_24 : decode cX9_init 24 = .ok (.newarray .int, 2) := by decide +kernel
theorem dX9_init_26 : decode cX9_init 26 = .ok (.putfield 16, 3) := by decide +kernel
theorem dX9_init_29 : decode cX9_init 29 = .ok (.aload_n 0, 1) := by decide +kernel
theorem dX9_init_30 : decode cX9_init 30 = .ok (.bipush 24, 2) := by decide +kernel
theorem dX9_init_32 : decode cX9_init 32 = .ok (.newarray .int, 2) := by decide +kernel
theorem dX9_init_34 : decode cX9_init 34 = .ok (.putfield 19, 3) := by decide +kernel
theorem dX9_init_37 : decode cX9_init 37 = .ok (.aload_n 0, 1) := by decide +kernel
theorem dX9_init_38 : decode cX9_init 38 = .ok (.bipush 8, 2) := by decide +kernel
theorem dX9_init_40 : decode cX9_init 40 = .ok (.newarray .int, 2) := by decide +kernel
theorem dX9_init_42 : decode cX9_init 42 = .ok (.putfield 22, 3) := by decide +kernel
theorem dX9_init_45 : decode cX9_init 45 = .ok (.aload_n 0, 1) := by decide +kernel
theorem dX9_init_46 : decode cX9_init 46 = .ok (.ldc 25, 2) := by decide +kernel
theorem dX9_init_48 : decode cX9_init 48 = .ok (.newarray .long, 2) := by decide +kernel
theorem dX9_init_50 : decode cX9_init 50 = .ok (.putfield 26, 3) := by decide +kernel
theorem dX9_init_53 : decode cX9_init 53 = .ok (.aload_n 0, 1) := by decide +kernel
theorem dX9_init_54 : decode cX9_init 54 = .ok (.sipush 4800, 3) := by decide +kernel
theorem dX9_init_57 : decode cX9_init 57 = .ok (.newarray .long, 2) := by decide +kernel
theorem dX9_init_59 : decode cX9_init 59 = .ok (.putfield 30, 3) := by decide +kernel
theorem dX9_init_62 : decode cX9_init 62 = .ok (.aload_n 0, 1) := by decide +kernel
theorem dX9_init_63 : decode cX9_init 63 = .ok (.iconst 5, 1) := by decide +kernel
theorem dX9_init_64 : decode cX9_init 64 = .ok (.newarray .int, 2) := by decide +kernel
theorem dX9_init_66 : decode cX9_init 66 = .ok (.putfield 33, 3) := by decide +kernel
theorem dX9_init_69 : decode cX9_init 69 = .ok (.aload_n 0, 1) := by decide +kernel
theorem dX9_init_70 : decode cX9_init 70 = .ok (.iconst 4, 1) := by decide +kernel
theorem dX9_init_71 : decode cX9_init 71 = .ok (.newarray .int, 2) := by decide +kernel
theorem dX9_init_73 : decode cX9_init 73 = .ok (.putfield 36, 3) := by decide +kernel
theorem dX9_init_76 : decode cX9_init 76 = .ok (.aload_n 0, 1) := by decide +kernel
theorem dX9_init_77 : decode cX9_init 77 = .ok (.bipush 30, 2) := by decide +kernel
theorem dX9_init_79 : decode cX9_init 79 = .ok (.newarray .long, 2) := by decide +kernel
theorem dX9_init_81 : decode cX9_init 81 = .ok (.putfield 39, 3) := by decide +kernel
theorem dX9_init_84 : decode cX9_init 84 = .ok (.aload_n 0, 1) := by decide +kernel
theorem dX9_init_85 : decode cX9_init 85 = .ok (.bipush 8, 2) := by decide +kernel
theorem dX9_init_87 : decode cX9_init 87 = .ok (.newarray .long, 2) := by decide +kernel
theorem dX9_init_89 : decode cX9_init 89 = .ok (.putfield 42, 3) := by decide +kernel
theorem dX9_init_92 : decode cX9_init 92 = .ok (.iconst 0, 1) := by decide +kernel
theorem dX9_init_93 : decode cX9_init 93 = .ok (.istore_n 1, 1) := by decide +kernel
theorem dX9_init_94 : decode cX9_init 94 = .ok (.iload_n 1, 1) := by decide +kernel
theorem dX9_init_95 : decode cX9_init 95 = .ok (.bipush 8, 2) := by decide +kernel
theorem dX9_init_97 : decode cX9_init 97 = .ok (.if_icmp .ge 17, 3) := by decide +kernel
theorem dX9_init_100 : decode cX9_init 100 = .ok (.aload_n 0, 1) := by decide +kernel
theorem dX9_init_101 : decode cX9_init 101 = .ok (.getfield 22, 3) := by decide +kernel
theorem dX9_init_104 : decode cX9_init 104 = .ok (.iload_n 1, 1) := by decide +kernel
theorem dX9_init_105 : decode cX9_init 105 = .ok (.bipush 125, 2) := by decide +kernel
theorem dX9_init_107 : decode cX9_init 107 = .ok (.iastore, 1) := by decide +kernel
theorem dX9_init_108 : decode cX9_init 108 = .ok (.iinc 1 1, 3) := by decide +kernel
theorem dX9_init_111 : decode cX9_init 111 = .ok (.goto (-17), 3) := by decide +kernel
theorem dX9_init_114 : decode cX9_init 114 = .ok (.return_, 1) := by decide +kernel
theorem dX9_in_0 : decode cX9_in 0 = .ok (.iload_n 0, 1) := by decide +kernel
theorem dX9_in_1 : decode cX9_in 1 = .ok (.iload_n 1, 1) := by decide +kernel
theorem dX9_in_2 : decode cX9_in 2 = .ok (.if_icmp .lt 12, 3) := by decide +kernel
theorem dX9_in_5 : decode cX9_in 5 = .ok (.iload_n 0, 1) := by decide +kernel
theorem dX9_in_6 : decode cX9_in 6 = .ok (.iload_n 2, 1) := by decide +kernel
theorem dX9_in_7 : decode cX9_in 7 = .ok (.if_icmp .gt 7, 3) := by decide +kernel
theorem dX9_in_10 : decode cX9_in 10 = .ok (.iconst 1, 1) := by decide +kernel
theorem dX9_in_11 : decode cX9_in 11 = .ok (.goto 4, 3) := by decide +kernel
theorem dX9_in_14 : decode cX9_in 14 = .ok (.iconst 0, 1) := by decide +kernel
theorem dX9_in_15 : decode cX9_in 15 = .ok (.ireturn, 1) := by decide +kernel
set_option maxRecDepth 20000 in
theorem ggX9_isSaying_X9_in : GoodIn wsX9_isSaying wsX9_in := goodIn_r _ [5] (by decide +kernel) (by decide +kernel)
set_option maxRecDepth 20000 in
theorem gX9_isSaying_X9_in : GoodIn wsX9_isSaying (va_wsS RX9 52 yX9_in wsX9_in) := goodIn_app (goodIn_of _ (by decide +kernel)) ggX9_isSaying_X9_in
theorem dX9_isSaying_0 : decode cX9_isSaying 0 = .ok (.iload_n 1, 1) := by decide +kernel
theorem dX9_isSaying_1 : decode cX9_isSaying 1 = .ok (.iconst 0, 1) := by decide +kernel
theorem dX9_isSaying_2 : decode cX9_isSaying 2 = .ok (.aload_n 0, 1) := by decide +kernel
theorem dX9_isSaying_3 : decode cX9_isSaying 3 = .ok (.getfield 49, 3) := by decide +kernel
theorem dX9_isSaying_6 : decode cX9_isSaying 6 = .ok (.iconst 1, 1) := by decide +kernel
theorem dX9_isSaying_7 : decode cX9_isSaying 7 = .ok (.isub, 1) := by decide +kernel
theorem dX9_isSaying_8 : decode cX9_isSaying 8 = .ok (.invokestatic 52, 3) := by decide +kernel
theorem dX9_isSaying_11 : decode cX9_isSaying 11 = .ok (.ireturn, 1) := by decide +kernel
theorem dX9_isBit_0 : decode cX9_isBit 0 = .ok (.iload_n 0, 1) := by decide +kernel
theorem dX9_isBit_1 : decode cX9_isBit 1 = .ok (.ifCond .eq 8, 3) := by decide +kernel
theorem dX9_isBit_4 : decode cX9_isBit 4 = .ok (.iload_n 0, 1) := by decide +kernel
theorem dX9_isBit_5 : decode cX9_isBit 5 = .ok (.iconst 1, 1) := by decide +kernel
theorem dX9_isBit_6 : decode cX9_isBit 6 = .ok (.if_icmp .ne 7, 3) := by decide +kernel
theorem dX9_isBit_9 : decode cX9_isBit 9 = .ok (.iconst 1, 1) := by decide +kernel
theorem dX9_isBit_10 : decode cX9_isBit 10 = .ok (.goto 4, 3) := by decide +kernel
theorem dX9_isBit_13 : decode cX9_isBit 13 = .ok (.iconst 0, 1) := by decide +kernel
theorem dX9_isBit_14 : decode cX9_isBit 14 = .ok (.ireturn, 1) := by decide +kernel
set_option maxRecDepth 20000 in
theorem ggX9_isThing_X9_in : GoodIn wsX9_isThing wsX9_in := goodIn_r _ [4] (by decide +kernel) (by decide +kernel)
set_option maxRecDepth 20000 in
theorem gX9_isThing_X9_in : GoodIn wsX9_isThing (va_wsS RX9 52 yX9_in wsX9_in) := goodIn_app (goodIn_of _ (by decide +kernel)) ggX9_isThing_X9_in
theorem dX9_isThing_0 : decode cX9_isThing 0 = .ok (.iload_n 0, 1) := by decide +kernel
theorem dX9_isThing_1 : decode cX9_isThing 1 = .ok (.iconst 0, 1) := by decide +kernel
theorem dX9_isThing_2 : decode cX9_isThing 2 = .ok (.sipush 255, 3) := by decide +kernel
theorem dX9_isThing_5 : decode cX9_isThing 5 = .ok (.invokestatic 52, 3) := by decide +kernel
theorem dX9_isThing_8 : decode cX9_isThing 8 = .ok (.ireturn, 1) := by decide +kernel
set_option maxRecDepth 20000 in
theorem ggX9_type_X9_in : GoodIn wsX9_type wsX9_in := goodIn_r _ [8] (by decide +kernel) (by decide +kernel)
set_option maxRecDepth 20000 in
theorem gX9_type_X9_in : GoodIn wsX9_type (va_wsS RX9 52 yX9_in wsX9_in) := goodIn_app (goodIn_of _ (by decide +kernel)) ggX9_type_X9_in
theorem dX9_type_0 : decode cX9_type 0 = .ok (.aload_n 0, 1) := by decide +kernel
theorem dX9_type_1 : decode cX9_type 1 = .ok (.iconst 0, 1) := by decide +kernel
theorem dX9_type_2 : decode cX9_type 2 = .ok (.putfield 45, 3) := by decide +kernel
theorem dX9_type_5 : decode cX9_type 5 = .ok (.iload_n 3, 1) := by decide +kernel
theorem dX9_type_6 : decode cX9_type 6 = .ok (.iconst 1, 1) := by decide +kernel
theorem dX9_type_7 : decode cX9_type 7 = .ok (.bipush 8, 2) := by decide +kernel
theorem dX9_type_9 : decode cX9_type 9 = .ok (.invokestatic 52, 3) := by decide +kernel
theorem dX9_type_12 : decode cX9_type 12 = .ok (.ifCond .ne 5, 3) := by decide +kernel
theorem dX9_type_15 : decode cX9_type 15 = .ok (.iconst (-1), 1) := by decide +kernel
theorem dX9_type_16 : decode cX9_type 16 = .ok (.ireturn, 1) := by decide +kernel
theorem dX9_type_17 : decode cX9_type 17 = .ok (.aload_n 0, 1) := by decide +kernel
theorem dX9_type_18 : decode cX9_type 18 = .ok (.getfield 56, 3) := by decide +kernel
theorem dX9_type_21 : decode cX9_type 21 = .ok (.iload_n 3, 1) := by decide +kernel
theorem dX9_type_22 : decode cX9_type 22 = .ok (.iadd, 1) := by decide +kernel
theorem dX9_type_23 : decode cX9_type 23 = .ok (.sipush 200, 3) := by decide +kernel
theorem dX9_type_26 : decode cX9_type 26 = .ok (.if_icmp .le 6, 3) := by decide +kernel
theorem dX9_type_29 : decode cX9_type 29 = .ok (.bipush (-3), 2) := by decide +kernel
theorem dX9_type_31 : decode cX9_type 31 = .ok (.ireturn, 1) := by decide +kernel
theorem dX9_type_32 : decode cX9_type 32 = .ok (.iload_n 3, 1) := by decide +kernel
theorem dX9_type_33 : decode cX9_type 33 = .ok (.iconst 1, 1) := by decide +kernel
theorem dX9_type_34 : decode cX9_type 34 = .ok (.isub, 1) := by decide +kernel
theorem dX9_type_35 : decode cX9_type 35 = .ok (.istore 4, 2) := by decide +kernel
theorem dX9_type_37 : decode cX9_type 37 = .ok (.iload 4, 2) := by decide +kernel
theorem dX9_type_39 : decode cX9_type 39 = .ok (.ifCond .lt 40, 3) := by decide +kernel
theorem dX9_type_42 : decode cX9_type 42 = .ok (.aload_n 0, 1) := by decide +kernel
theorem dX9_type_43 : decode cX9_type 43 = .ok (.getfield 7, 3) := by decide +kernel
theorem dX9_type_46 : decode cX9_type 46 = .ok (.aload_n 0, 1) := by decide +kernel
theorem dX9_type_47 : decode cX9_type 47 = .ok (.getfield 56, 3) := by decide +kernel
theorem dX9_type_50 : decode cX9_type 50 = .ok (.lload_n 1, 1) := by decide +kernel
theorem dX9_type_51 : decode cX9_type 51 = .ok (.bipush 8, 2) := by decide +kernel
theorem dX9_type_53 : decode cX9_type 53 = .ok (.iload 4, 2) := by decide +kernel
theorem dX9_type_55 : decode cX9_type 55 = .ok (.imul, 1) := by decide +kernel
theorem dX9_type_56 : decode cX9_type 56 = .ok (.lshr, 1) := by decide +kernel
theorem dX9_type_57 : decode cX9_type 57 = .ok (.ldc2_w 59, 3) := by decide +kernel
theorem dX9_type_60 : decode cX9_type 60 = .ok (.land, 1) := by decide +kernel
theorem dX9_type_61 : decode cX9_type 61 = .ok (.l2i, 1) := by decide +kernel
theorem dX9_type_62 : decode cX9_type 62 = .ok (.iastore, 1) := by decide +kernel
theorem dX9_type_63 : decode cX9_type 63 = .ok (.aload_n 0, 1) := by decide +kernel
theorem dX9_type_64 : decode cX9_type 64 = .ok (.dup, 1) := by decide +kernel
theorem dX9_type_65 : decode cX9_type 65 = .ok (.getfield 56, 3) := by decide +kernel
theorem dX9_type_68 : decode cX9_type 68 = .ok (.iconst 1, 1) := by decide +kernel
theorem dX9_type_69 : decode cX9_type 69 = .ok (.iadd, 1) := by decide +kernel
theorem dX9_type_70 : decode cX9_type 70 = .ok (.putfield 56, 3) := by decide +kernel
theorem dX9_type_73 : decode cX9_type 73 = .ok (.iinc 4 (-1), 3) := by decide +kernel
theorem dX9_type_76 : decode cX9_type 76 = .ok (.goto (-39), 3) := by decide +kernel
theorem dX9_type_79 : decode cX9_type 79 = .ok (.aload_n 0, 1) := by decide +kernel
theorem dX9_type_80 : decode cX9_type 80 = .ok (.getfield 56, 3) := by decide +kernel
theorem dX9_type_83 : decode cX9_type 83 = .ok (.ireturn, 1) := by decide +kernel
theorem dX9_clear_0 : decode cX9_clear 0 = .ok (.aload_n 0, 1) := by decide +kernel
theorem dX9_clear_1 : decode cX9_clear 1 = .ok (.iconst 0, 1) := by decide +kernel
theorem dX9_clear_2 : decode cX9_clear 2 = .ok (.putfield 45, 3) := by decide +kernel
theorem dX9_clear_5 : decode cX9_clear 5 = .ok (.aload_n 0, 1) := by decide +kernel
theorem dX9_clear_6 : decode cX9_clear 6 = .ok (.getfield 56, 3) := by decide +kernel
theorem dX9_clear_9 : decode cX9_clear 9 = .ok (.istore_n 1, 1) := by decide +kernel
theorem dX9_clear_10 : decode cX9_clear 10 = .ok (.aload_n 0, 1) := by decide +kernel
theorem dX9_clear_11 : decode cX9_clear 11 = .ok (.iconst 0, 1) := by decide +kernel
theorem dX9_clear_12 : decode cX9_clear 12 = .ok (.putfield 56, 3) := by decide +kernel
theorem dX9_clear_15 : decode cX9_clear 15 = .ok (.iload_n 1, 1) := by decide +kernel
theorem dX9_clear_16 : decode cX9_clear 16 = .ok (.ireturn, 1) := by decide +kernel
theorem dX9_byteAt_0 : decode cX9_byteAt 0 = .ok (.iload_n 1, 1) := by decide +kernel
theorem dX9_byteAt_1 : decode cX9_byteAt 1 = .ok (.aload_n 0, 1) := by decide +kernel
theorem dX9_byteAt_2 : decode cX9_byteAt 2 = .ok (.getfield 56, 3) := by decide +kernel
theorem dX9_byteAt_5 : decode cX9_byteAt 5 = .ok (.if_icmp .ge 12, 3) := by decide +kernel
theorem dX9_byteAt_8 : decode cX9_byteAt 8 = .ok (.aload_n 0, 1) := by decide +kernel
theorem dX9_byteAt_9 : decode cX9_byteAt 9 = .ok (.getfield 7, 3) := by decide +kernel
theorem dX9_byteAt_12 : decode cX9_byteAt 12 = .ok (.iload_n 1, 1) := by decide +kernel
theorem dX9_byteAt_13 : decode cX9_byteAt 13 = .ok (.iaload, 1) := by decide +kernel
theorem dX9_byteAt_14 : decode cX9_byteAt 14 = .ok (.goto 4, 3) := by decide +kernel
theorem dX9_byteAt_17 : decode cX9_byteAt 17 = .ok (.iconst (-1), 1) := by decide +kernel
theorem dX9_byteAt_18 : decode cX9_byteAt 18 = .ok (.ireturn, 1) := by decide +kernel
set_option maxRecDepth 20000 in
theorem ggX9_advances_X9_byteAt : GoodIn wsX9_advances wsX9_byteAt := goodIn_r _ [10, 11, 5, 15, 16, 17, 18, 19, 20, 21, 22, 23, 24, 25, 26, 27, 28, 29, 30, 31, 32, 33, 34, 35, 36, 37, 38, 39, 40, 41, 42] (by decide +kernel) (by decide +kernel)
set_option maxRecDepth 20000 in
theorem gX9_advances_X9_byteAt : GoodIn wsX9_advances (wsV RX9 64 RX9 yX9_byteAt wsX9_byteAt) := goodIn_app (goodIn_of _ (by decide +kernel)) ggX9_advances_X9_byteAt
set_option maxRecDepth 20000 in
theorem ggX9_advances_X9_in : GoodIn wsX9_advances wsX9_in := goodIn_r _ [14] (by decide +kernel) (by decide +kernel)
set_option maxRecDepth 20000 in
theorem gX9_advances_X9_in : GoodIn wsX9_advances (va_wsS RX9 52 yX9_in wsX9_in) := goodIn_app (goodIn_of _ (by decide +kernel)) ggX9_advances_X9_in
theorem dX9_advances_0 : decode cX9_advances 0 = .ok (.aload_n 0, 1) := by decide +kernel
theorem dX9_advances_1 : decode cX9_advances 1 = .ok (.aload_n 0, 1) := by decide +kernel
theorem dX9_advances_2 : decode cX9_advances 2 = .ok (.getfield 61, 3) := by decide +kernel
theorem dX9_advances_5 : decode cX9_advances 5 = .ok (.invokevirtual 64, 3) := by decide +kernel
theorem dX9_advances_8 : decode cX9_advances 8 = .ok (.bipush 32, 2) := by decide +kernel
theorem dX9_advances_10 : decode cX9_advances 10 = .ok (.if_icmp .ne 16, 3) := by decide +kernel
theorem dX9_advances_13 : decode cX9_advances 13 = .ok (.aload_n 0, 1) := by decide +kernel
theorem dX9_advances_14 : decode cX9_advances 14 = .ok (.dup, 1) := by decide +kernel
theorem dX9_advances_15 : decode cX9_advances 15 = .ok (.getfield 61, 3) := by decide +kernel
theorem dX9_advances_18 : decode cX9_advances 18 = .ok (.iconst 1, 1) := by decide +kernel
theorem dX9_advances_19 : decode cX9_advances 19 = .ok (.iadd, 1) := by decide +kernel
theorem dX9_advances_20 : decode cX9_advances 20 = .ok (.putfield 61, 3) := by decide +kernel
theorem dX9_advances_23 : decode cX9_advances 23 = .ok (.goto (-23), 3) := by decide +kernel
theorem dX9_advances_26 : decode cX9_advances 26 = .ok (.aload_n 0, 1) := by decide +kernel
theorem dX9_advances_27 : decode cX9_advances 27 = .ok (.aload_n 0, 1) := by decide +kernel
theorem dX9_advances_28 : decode cX9_advances 28 = .ok (.getfield 61, 3) := by decide +kernel
theorem dX9_advances_31 : decode cX9_advances 31 = .ok (.putfield 68, 3) := by decide +kernel
theorem dX9_advances_34 : decode cX9_advances 34 = .ok (.aload_n 0, 1) := by decide +kernel
theorem dX9_advances_35 : decode cX9_advances 35 = .ok (.aload_n 0, 1) := by decide +kernel
theorem dX9_advances_36 : decode cX9_advances 36 = .ok (.getfield 61, 3) := by decide +kernel
theorem dX9_advances_39 : decode cX9_advances 39 = .ok (.invokevirtual 64, 3) := by decide +kernel
theorem dX9_advances_42 : decode cX9_advances 42 = .ok (.istore_n 1, 1) := by decide +kernel
theorem dX9_advances_43 : decode cX9_advances 43 = .ok (.iload_n 1, 1) := by decide +kernel
theorem dX9_advances_44 : decode cX9_advances 44 = .ok (.ifCond .ge 11, 3) := by decide +kernel
theorem dX9_advances_47 : decode cX9_advances 47 = .ok (.aload_n 0, 1) := by decide +kernel
theorem dX9_advances_48 : decode cX9_advances 48 = .ok (.iconst 0, 1) := by decide +kernel
theorem dX9_advances_49 : decode cX9_advances 49 = .ok (.putfield 71, 3) := by decide +kernel
theorem dX9_advances_52 : decode cX9_advances 52 = .ok (.goto 321, 3) := by decide +kernel
theorem dX9_advances_55 : decode cX9_advances 55 = .ok (.iload_n 1, 1) := by decide +kernel
theorem dX9_advances_56 : decode cX9_advances 56 = .ok (.bipush 97, 2) := by decide +kernel
theorem dX9_advances_58 : decode cX9_advances 58 = .ok (.bipush 122, 2) := by decide +kernel
theorem dX9_advances_60 : decode cX9_advances 60 = .ok (.invokestatic 52, 3) := by decide +kernel
theorem dX9_advances_63 : decode cX9_advances 63 = .ok (.ifCond .eq 106, 3) := by decide +kernel
theorem dX9_advances_66 : decode cX9_advances 66 = .ok (.aload_n 0, 1) := by decide +kernel
theorem dX9_advances_67 : decode cX9_advances 67 = .ok (.aload_n 0, 1) := by decide +kernel
theorem dX9_advances_68 : decode cX9_advances 68 = .ok (.getfield 61, 3) := by decide +kernel
theorem dX9_advances_71 : decode cX9_advances 71 = .ok (.invokevirtual 64, 3) := by decide +kernel
theorem dX9_advances_74 : decode cX9_advances 74 = .ok (.bipush 97, 2) := by decide +kernel
theorem dX9_advances_76 : decode cX9_advances 76 = .ok (.bipush 122, 2) := by decide +kernel
theorem dX9_advances_78 : decode cX9_advances 78 = .ok (.invokestatic 52, 3) := by decide +kernel
theorem dX9_advances_81 : decode cX9_advances 81 = .ok (.ifCond .eq 16, 3) := by decide +kernel
theorem dX9_advances_84 : decode cX9_advances 84 = .ok (.aload_n 0, 1) := by decide +kernel
theorem dX9_advances_85 : decode cX9_advances 85 = .ok (.dup, 1) := by decide +kernel
theorem dX9_advances_86 : decode cX9_advances 86 = .ok (.getfield 61, 3) := by decide +kernel
theorem dX9_advances_89 : decode cX9_advances 89 = .ok (.iconst 1, 1) := by decide +kernel
theorem dX9_advances_90 : decode cX9_advances 90 = .ok (.iadd, 1) := by decide +kernel
theorem dX9_advances_91 : decode cX9_advances 91 = .ok (.putfield 61, 3) := by decide +kernel
theorem dX9_advances_94 : decode cX9_advances 94 = .ok (.goto (-28), 3) := by decide +kernel
theorem dX9_advances_97 : decode cX9_advances 97 = .ok (.aload_n 0, 1) := by decide +kernel
theorem dX9_advances_98 : decode cX9_advances 98 = .ok (.getfield 61, 3) := by decide +kernel
theorem dX9_advances_101 : decode cX9_advances 101 = .ok (.aload_n 0, 1) := by decide +kernel
theorem dX9_advances_102 : decode cX9_advances 102 = .ok (.getfield 68, 3) := by decide +kernel
theorem dX9_advances_105 : decode cX9_advances 105 = .ok (.isub, 1) := by decide +kernel
theorem dX9_advances_106 : decode cX9_advances 106 = .ok (.istore_n 2, 1) := by decide +kernel
theorem dX9_advances_107 : decode cX9_advances 107 = .ok (.aload_n 0, 1) := by decide +kernel
theorem dX9_advances_108 : decode cX9_advances 108 = .ok (.iload_n 1, 1) := by decide +kernel
theorem dX9_advances_109 : decode cX9_advances 109 = .ok (.bipush 97, 2) := by decide +kernel
theorem dX9_advances_111 : decode cX9_advances 111 = .ok (.isub, 1) := by decide +kernel
theorem dX9_advances_112 : decode cX9_advances 112 = .ok (.putfield 74, 3) := by decide +kernel
theorem dX9_advances_115 : decode cX9_advances 115 = .ok (.aload_n 0, 1) := by decide +kernel
theorem dX9_advances_116 : decode cX9_advances 116 = .ok (.iload_n 2, 1) := by decide +kernel
theorem dX9_advances_117 : decode cX9_advances 117 = .ok (.iconst 1, 1) := by decide +kernel
theorem dX9_advances_118 : decode cX9_advances 118 = .ok (.if_icmp .ne 13, 3) := by decide +kernel
theorem dX9_advances_121 : decode cX9_advances 121 = .ok (.iload_n 1, 1) := by decide +kernel
theorem dX9_advances_122 : decode cX9_advances 122 = .ok (.bipush 100, 2) := by decide +kernel
theorem dX9_advances_124 : decode cX9_advances 124 = .ok (.if_icmp .ge 7, 3) := by decide +kernel
theorem dX9_advances_127 : decode cX9_advances 127 = .ok (.iconst 1, 1) := by decide +kernel
theorem dX9_advances_128 : decode cX9_advances 128 = .ok (.goto 35, 3) := by decide +kernel
theorem dX9_advances_131 : decode cX9_advances 131 = .ok (.iload_n 2, 1) := by decide +kernel
theorem dX9_advances_132 : decode cX9_advances 132 = .ok (.iconst 2, 1) := by decide +kernel
theorem dX9_advances_133 : decode cX9_advances 133 = .ok (.if_icmp .ne 29, 3) := by decide +kernel
theorem dX9_advances_136 : decode cX9_advances 136 = .ok (.iload_n 1, 1) := by decide +kernel
theorem dX9_advances_137 : decode cX9_advances 137 = .ok (.bipush 105, 2) := by decide +kernel
theorem dX9_advances_139 : decode cX9_advances 139 = .ok (.if_icmp .ne 23, 3) := by decide +kernel
theorem dX9_advances_142 : decode cX9_advances 142 = .ok (.aload_n 0, 1) := by decide +kernel
theorem dX9_advances_143 : decode cX9_advances 143 = .ok (.getfield 7, 3) := by decide +kernel
theorem dX9_advances_146 : decode cX9_advances 146 = .ok (.aload_n 0, 1) := by decide +kernel
theorem dX9_advances_147 : decode cX9_advances 147 = .ok (.getfield 68, 3) := by decide +kernel
theorem dX9_advances_150 : decode cX9_advances 150 = .ok (.iconst 1, 1) := by decide +kernel
theorem dX9_advances_151 : decode cX9_advances 151 = .ok (.iadd, 1) := by decide +kernel
theorem dX9_advances_152 : decode cX9_advances 152 = .ok (.iaload, 1) := by decide +kernel
theorem dX9_advances_153 : decode cX9_advances 153 = .ok (.bipush 102, 2) := by decide +kernel
theorem dX9_advances_155 : decode cX9_advances 155 = .ok (.if_icmp .ne 7, 3) := by decide +kernel
theorem dX9_advances_158 : decode cX9_advances 158 = .ok (.iconst 2, 1) := by decide +kernel
theorem dX9_advances_159 : decode cX9_advances 159 = .ok (.goto 4, 3) := by decide +kernel
theorem dX9_advances_162 : decode cX9_advances 162 = .ok (.iconst 5, 1) := by decide +kernel
theorem dX9_advances_163 : decode cX9_advances 163 = .ok (.putfield 71, 3) := by decide +kernel
theorem dX9_advances_166 : decode cX9_advances 166 = .ok (.goto 207, 3) := by decide +kernel
theorem dX9_advances_169 : decode cX9_advances 169 = .ok (.iload_n 1, 1) := by decide +kernel
theorem dX9_advances_170 : decode cX9_advances 170 = .ok (.bipush 48, 2) := by decide +kernel
theorem dX9_advances_172 : decode cX9_advances 172 = .ok (.bipush 57, 2) := by decide +kernel
theorem dX9_advances_174 : decode cX9_advances 174 = .ok (.invokestatic 52, 3) := by decide +kernel
theorem dX9_advances_177 : decode cX9_advances 177 = .ok (.ifCond .eq 120, 3) := by decide +kernel
theorem dX9_advances_180 : decode cX9_advances 180 = .ok (.aload_n 0, 1) := by decide +kernel
theorem dX9_advances_181 : decode cX9_advances 181 = .ok (.iconst 0, 1) := by decide +kernel
theorem dX9_advances_182 : decode cX9_advances 182 = .ok (.putfield 74, 3) := by decide +kernel
theorem dX9_advances_185 : decode cX9_advances 185 = .ok (.aload_n 0, 1) := by decide +kernel
theorem dX9_advances_186 : decode cX9_advances 186 = .ok (.aload_n 0, 1) := by decide +kernel
theorem dX9_advances_187 : decode cX9_advances 187 = .ok (.getfield 61, 3) := by decide +kernel
theorem dX9_advances_190 : decode cX9_advances 190 = .ok (.invokevirtual 64, 3) := by decide +kernel
theorem dX9_advances_193 : decode cX9_advances 193 = .ok (.bipush 48, 2) := by decide +kernel
theorem dX9_advances_195 : decode cX9_advances 195 = .ok (.bipush 57, 2) := by decide +kernel
theorem dX9_advances_197 : decode cX9_advances 197 = .ok (.invokestatic 52, 3) := by decide +kernel
theorem dX9_advances_200 : decode cX9_advances 200 = .ok (.ifCond .eq 56, 3) := by decide +kernel
theorem dX9_advances_203 : decode cX9_advances 203 = .ok (.aload_n 0, 1) := by decide +kernel
theorem dX9_advances_204 : decode cX9_advances 204 = .ok (.aload_n 0, 1) := by decide +kernel
theorem dX9_advances_205 : decode cX9_advances 205 = .ok (.getfield 74, 3) := by decide +kernel
theorem dX9_advances_208 : decode cX9_advances 208 = .ok (.sipush 999, 3) := by decide +kernel
theorem dX9_advances_211 : decode cX9_advances 211 = .ok (.if_icmp .le 10, 3) := by decide +kernel
theorem dX9_advances_214 : decode cX9_advances 214 = .ok (.aload_n 0, 1) := by decide +kernel
theorem dX9_advances_215 : decode cX9_advances 215 = .ok (.getfield 74, 3) := by decide +kernel
theorem dX9_advances_218 : decode cX9_advances 218 = .ok (.goto 22, 3) := by decide +kernel
theorem dX9_advances_221 : decode cX9_advances 221 = .ok (.bipush 10, 2) := by decide +kernel
theorem dX9_advances_223 : decode cX9_advances 223 = .ok (.aload_n 0, 1) := by decide +kernel
theorem dX9_advances_224 : decode cX9_advances 224 = .ok (.getfield 74, 3) := by decide +kernel
theorem dX9_advances_227 : decode cX9_advances 227 = .ok (.imul, 1) := by decide +kernel
theorem dX9_advances_228 : decode cX9_advances 228 = .ok (.aload_n 0, 1) := by decide +kernel
theorem dX9_advances_229 : decode cX9_advances 229 = .ok (.aload_n 0, 1) := by decide +kernel
theorem dX9_advances_230 : decode cX9_advances 230 = .ok (.getfield 61, 3) := by decide +kernel
theorem dX9_advances_233 : decode cX9_advances 233 = .ok (.invokevirtual 64, 3) := by decide +kernel
theorem dX9_advances_236 : decode cX9_advances 236 = .ok (.iadd, 1) := by decide +kernel
theorem dX9_advances_237 : decode cX9_advances 237 = .ok (.bipush 48, 2) := by decide +kernel
theorem dX9_advances_239 : decode cX9_advances 239 = .ok (.isub, 1) := by decide +kernel
theorem dX9_advances_240 : decode cX9_advances 240 = .ok (.putfield 74, 3) := by decide +kernel
theorem dX9_advances_243 : decode cX9_advances 243 = .ok (.aload_n 0, 1) := by decide +kernel
theorem dX9_advances_244 : decode cX9_advances 244 = .ok (.dup, 1) := by decide +kernel
theorem dX9_advances_245 : decode cX9_advances 245 = .ok (.getfield 61, 3) := by decide +kernel
theorem dX9_advances_248 : decode cX9_advances 248 = .ok (.iconst 1, 1) := by decide +kernel
theorem dX9_advances_249 : decode cX9_advances 249 = .ok (.iadd, 1) := by decide +kernel
theorem dX9_advances_250 : decode cX9_advances 250 = .ok (.putfield 61, 3) := by decide +kernel
theorem dX9_advances_253 : decode cX9_advances 253 = .ok (.goto (-68), 3) := by decide +kernel
theorem dX9_advances_256 : decode cX9_advances 256 = .ok (.aload_n 0, 1) := by decide +kernel
theorem dX9_advances_257 : decode cX9_advances 257 = .ok (.aload_n 0, 1) := by decide +kernel
theorem dX9_advances_258 : decode cX9_advances 258 = .ok (.getfield 74, 3) := by decide +kernel
theorem dX9_advances_261 : decode cX9_advances 261 = .ok (.sipush 999, 3) := by decide +kernel
theorem dX9_advances_264 : decode cX9_advances 264 = .ok (.if_icmp .gt 22, 3) := by decide +kernel
theorem dX9_advances_267 : decode cX9_advances 267 = .ok (.iload_n 1, 1) := by decide +kernel
theorem dX9_advances_268 : decode cX9_advances 268 = .ok (.bipush 48, 2) := by decide +kernel
theorem dX9_advances_270 : decode cX9_advances 270 = .ok (.if_icmp .ne 20, 3) := by decide +kernel
theorem dX9_advances_273 : decode cX9_advances 273 = .ok (.aload_n 0, 1) := by decide +kernel
theorem dX9_advances_274 : decode cX9_advances 274 = .ok (.getfield 61, 3) := by decide +kernel
theorem dX9_advances_277 : decode cX9_advances 277 = .ok (.aload_n 0, 1) := by decide +kernel
theorem dX9_advances_278 : decode cX9_advances 278 = .ok (.getfield 68, 3) := by decide +kernel
theorem dX9_advances_281 : decode cX9_advances 281 = .ok (.isub, 1) := by decide +kernel
theorem dX9_advances_282 : decode cX9_advances 282 = .ok (.iconst 1, 1) := by decide +kernel
theorem dX9_advances_283 : decode cX9_advances 283 = .ok (.if_icmp .le 7, 3) := by decide +kernel
theorem dX9_advances_286 : decode cX9_advances 286 = .ok (.iconst 5, 1) := by decide +kernel
theorem dX9_advances_287 : decode cX9_advances 287 = .ok (.goto 4, 3) := by decide +kernel
theorem dX9_advances_290 : decode cX9_advances 290 = .ok (.iconst 3, 1) := by decide +kernel
theorem dX9_advances_291 : decode cX9_advances 291 = .ok (.putfield 71, 3) := by decide +kernel
theorem dX9_advances_294 : decode cX9_advances 294 = .ok (.goto 79, 3) := by decide +kernel
theorem dX9_advances_297 : decode cX9_advances 297 = .ok (.aload_n 0, 1) := by decide +kernel
theorem dX9_advances_298 : decode cX9_advances 298 = .ok (.iload_n 1, 1) := by decide +kernel
theorem dX9_advances_299 : decode cX9_advances 299 = .ok (.putfield 74, 3) := by decide +kernel
theorem dX9_advances_302 : decode cX9_advances 302 = .ok (.aload_n 0, 1) := by decide +kernel
theorem dX9_advances_303 : decode cX9_advances 303 = .ok (.dup, 1) := by decide +kernel
theorem dX9_advances_304 : decode cX9_advances 304 = .ok (.getfield 61, 3) := by decide +kernel
theorem dX9_advances_307 : decode cX9_advances 307 = .ok (.iconst 1, 1) := by decide +kernel
theorem dX9_advances_308 : decode cX9_advances 308 = .ok (.iadd, 1) := by decide +kernel
theorem dX9_advances_309 : decode cX9_advances 309 = .ok (.putfield 61, 3) := by decide +kernel
theorem dX9_advances_312 : decode cX9_advances 312 = .ok (.iload_n 1, 1) := by decide +kernel
theorem dX9_advances_313 : decode cX9_advances 313 = .ok (.bipush 33, 2) := by decide +kernel
theorem dX9_advances_315 : decode cX9_advances 315 = .ok (.if_icmp .eq 39, 3) := by decide +kernel
theorem dX9_advances_318 : decode cX9_advances 318 = .ok (.iload_n 1, 1) := by decide +kernel
theorem dX9_advances_319 : decode cX9_advances 319 = .ok (.bipush 38, 2) := by decide +kernel
theorem dX9_advances_321 : decode cX9_advances 321 = .ok (.if_icmp .eq 33, 3) := by decide +kernel
theorem dX9_advances_324 : decode cX9_advances 324 = .ok (.iload_n 1, 1) := by decide +kernel
theorem dX9_advances_325 : decode cX9_advances 325 = .ok (.bipush 124, 2) := by decide +kernel
theorem dX9_advances_327 : decode cX9_advances 327 = .ok (.if_icmp .eq 27, 3) := by decide +kernel
theorem dX9_advances_330 : decode cX9_advances 330 = .ok (.iload_n 1, 1) := by decide +kernel
theorem dX9_advances_331 : decode cX9_advances 331 = .ok (.bipush 40, 2) := by decide +kernel
theorem dX9_advances_333 : decode cX9_advances 333 = .ok (.if_icmp .eq 21, 3) := by decide +kernel
theorem dX9_advances_336 : decode cX9_advances 336 = .ok (.iload_n 1, 1) := by decide +kernel
theorem dX9_advances_337 : decode cX9_advances 337 = .ok (.bipush 41, 2) := by decide +kernel
theorem dX9_advances_339 : decode cX9_advances 339 = .ok (.if_icmp .eq 15, 3) := by decide +kernel
theorem dX9_advances_342 : decode cX9_advances 342 = .ok (.iload_n 1, 1) := by decide +kernel
theorem dX9_advances_343 : decode cX9_advances 343 = .ok (.bipush 45, 2) := by decide +kernel
theorem dX9_advances_345 : decode cX9_advances 345 = .ok (.if_icmp .eq 9, 3) := by decide +kernel
theorem dX9_advances_348 : decode cX9_advances 348 = .ok (.iload_n 1, 1) := by decide +kernel
theorem dX9_advances_349 : decode cX9_advances 349 = .ok (.bipush 59, 2) := by decide +kernel
theorem dX9_advances_351 : decode cX9_advances 351 = .ok (.if_icmp .ne 7, 3) := by decide +kernel
theorem dX9_advances_354 : decode cX9_advances 354 = .ok (.iconst 1, 1) := by decide +kernel
theorem dX9_advances_355 : decode cX9_advances 355 = .ok (.goto 4, 3) := by decide +kernel
theorem dX9_advances_358 : decode cX9_advances 358 = .ok (.iconst 0, 1) := by decide +kernel
theorem dX9_advances_359 : decode cX9_advances 359 = .ok (.istore_n 2, 1) := by decide +kernel
theorem dX9_advances_360 : decode cX9_advances 360 = .ok (.aload_n 0, 1) := by decide +kernel
theorem dX9_advances_361 : decode cX9_advances 361 = .ok (.iload_n 2, 1) := by decide +kernel
theorem dX9_advances_362 : decode cX9_advances 362 = .ok (.ifCond .eq 7, 3) := by decide +kernel
theorem dX9_advances_365 : decode cX9_advances 365 = .ok (.iconst 4, 1) := by decide +kernel
theorem dX9_advances_366 : decode cX9_advances 366 = .ok (.goto 4, 3) := by decide +kernel
theorem dX9_advances_369 : decode cX9_advances 369 = .ok (.iconst 5, 1) := by decide +kernel
theorem dX9_advances_370 : decode cX9_advances 370 = .ok (.putfield 71, 3) := by decide +kernel
theorem dX9_advances_373 : decode cX9_advances 373 = .ok (.return_, 1) := by decide +kernel
theorem dX9_isWell_0 : decode cX9_isWell 0 = .ok (.aload_n 0, 1) := by decide +kernel
theorem dX9_isWell_1 : decode cX9_isWell 1 = .ok (.getfield 77, 3) := by decide +kernel
theorem dX9_isWell_4 : decode cX9_isWell 4 = .ok (.ifCond .ge 7, 3) := by decide +kernel
theorem dX9_isWell_7 : decode cX9_isWell 7 = .ok (.iconst 1, 1) := by decide +kernel
theorem dX9_isWell_8 : decode cX9_isWell 8 = .ok (.goto 4, 3) := by decide +kernel
theorem dX9_isWell_11 : decode cX9_isWell 11 = .ok (.iconst 0, 1) := by decide +kernel
theorem dX9_isWell_12 : decode cX9_isWell 12 = .ok (.ireturn, 1) := by decide +kernel
theorem dX9_fails_0 : decode cX9_fails 0 = .ok (.aload_n 0, 1) := by decide +kernel
theorem dX9_fails_1 : decode cX9_fails 1 = .ok (.aload_n 0, 1) := by decide +kernel
theorem dX9_fails_2 : decode cX9_fails 2 = .ok (.getfield 77, 3) := by decide +kernel
theorem dX9_fails_5 : decode cX9_fails 5 = .ok (.ifCond .ge 10, 3) := by decide +kernel
theorem dX9_fails_8 : decode cX9_fails 8 = .ok (.aload_n 0, 1) := by decide +kernel
theorem dX9_fails_9 : decode cX9_fails 9 = .ok (.getfield 68, 3) := by decide +kernel
theorem dX9_fails_12 : decode cX9_fails 12 = .ok (.goto 7, 3) := by decide +kernel
theorem dX9_fails_15 : decode cX9_fails 15 = .ok (.aload_n 0, 1) := by decide +kernel
theorem dX9_fails_16 : decode cX9_fails 16 = .ok (.getfield 77, 3) := by decide +kernel
theorem dX9_fails_19 : decode cX9_fails 19 = .ok (.putfield 77, 3) := by decide +kernel
theorem dX9_fails_22 : decode cX9_fails 22 = .ok (.return_, 1) := by decide +kernel
set_option maxRecDepth 20000 in
theorem ggX9_isSign_X9_isWell : GoodIn wsX9_isSign wsX9_isWell := goodIn_r _ [7, 8, 9, 10, 11, 12, 13, 14, 15, 16, 17, 18, 19, 20, 21, 22, 23, 24, 25, 26, 27, 28, 29, 30, 31, 32, 33, 34, 35, 36] (by decide +kernel) (by decide +kernel)
set_option maxRecDepth 20000 in
theorem gX9_isSign_X9_isWell : GoodIn wsX9_isSign (wsV RX9 80 RX9 yX9_isWell wsX9_isWell) := goodIn_app (goodIn_of _ (by decide +kernel)) ggX9_isSign_X9_isWell
theorem dX9_isSign_0 : decode cX9_isSign 0 = .ok (.aload_n 0, 1) := by decide +kernel
theorem dX9_isSign_1 : decode cX9_isSign 1 = .ok (.invokevirtual 80, 3) := by decide +kernel
theorem dX9_isSign_4 : decode cX9_isSign 4 = .ok (.ifCond .eq 23, 3) := by decide +kernel
theorem dX9_isSign_7 : decode cX9_isSign 7 = .ok (.aload_n 0, 1) := by decide +kernel
theorem dX9_isSign_8 : decode cX9_isSign 8 = .ok (.getfield 71, 3) := by decide +kernel
theorem dX9_isSign_11 : decode cX9_isSign 11 = .ok (.iconst 4, 1) := by decide +kernel
theorem dX9_isSign_12 : decode cX9_isSign 12 = .ok (.if_icmp .ne 15, 3) := by decide +kernel
theorem dX9_isSign_15 : decode cX9_isSign 15 = .ok (.aload_n 0, 1) := by decide +kernel
theorem dX9_isSign_16 : decode cX9_isSign 16 = .ok (.getfield 74, 3) := by decide +kernel
theorem dX9_isSign_19 : decode cX9_isSign 19 = .ok (.iload_n 1, 1) := by decide +kernel
theorem dX9_isSign_20 : decode cX9_isSign 20 = .ok (.if_icmp .ne 7, 3) := by decide +kernel
theorem dX9_isSign_23 : decode cX9_isSign 23 = .ok (.iconst 1, 1) := by decide +kernel
theorem dX9_isSign_24 : decode cX9_isSign 24 = .ok (.goto 4, 3) := by decide +kernel
theorem dX9_isSign_27 : decode cX9_isSign 27 = .ok (.iconst 0, 1) := by decide +kernel
theorem dX9_isSign_28 : decode cX9_isSign 28 = .ok (.ireturn, 1) := by decide +kernel
theorem dX9_letter_0 : decode cX9_letter 0 = .ok (.iload_n 0, 1) := by decide +kernel
theorem dX9_letter_1 : decode cX9_letter 1 = .ok (.ifCond .ne 9, 3) := by decide +kernel
theorem dX9_letter_4 : decode cX9_letter 4 = .ok (.sipush 170, 3) := by decide +kernel
theorem dX9_letter_7 : decode cX9_letter 7 = .ok (.goto 17, 3) := by decide +kernel
theorem dX9_letter_10 : decode cX9_letter 10 = .ok (.iload_n 0, 1) := by decide +kernel
theorem dX9_letter_11 : decode cX9_letter 11 = .ok (.iconst 1, 1) := by decide +kernel
theorem dX9_letter_12 : decode cX9_letter 12 = .ok (.if_icmp .ne 9, 3) := by decide +kernel
theorem dX9_letter_15 : decode cX9_letter 15 = .ok (.sipush 204, 3) := by decide +kernel
theorem dX9_letter_18 : decode cX9_letter 18 = .ok (.goto 6, 3) := by decide +kernel
theorem dX9_letter_21 : decode cX9_letter 21 = .ok (.sipush 240, 3) := by decide +kernel
theorem dX9_letter_24 : decode cX9_letter 24 = .ok (.ireturn, 1) := by decide +kernel
theorem dX9_joins_0 : decode cX9_joins 0 = .ok (.aload_n 0, 1) := by decide +kernel
theorem dX9_joins_1 : decode cX9_joins 1 = .ok (.dup, 1) := by decide +kernel
theorem dX9_joins_2 : decode cX9_joins 2 = .ok (.getfield 84, 3) := by decide +kernel
theorem dX9_joins_5 : decode cX9_joins 5 = .ok (.iconst 1, 1) := by decide +kernel
theorem dX9_joins_6 : decode cX9_joins 6 = .ok (.isub, 1) := by decide +kernel
theorem dX9_joins_7 : decode cX9_joins 7 = .ok (.putfield 84, 3) := by decide +kernel
theorem dX9_joins_10 : decode cX9_joins 10 = .ok (.aload_n 0, 1) := by decide +kernel
theorem dX9_joins_11 : decode cX9_joins 11 = .ok (.dup, 1) := by decide +kernel
theorem dX9_joins_12 : decode cX9_joins 12 = .ok (.getfield 87, 3) := by decide +kernel
theorem dX9_joins_15 : decode cX9_joins 15 = .ok (.iconst 1, 1) := by decide +kernel
theorem dX9_joins_16 : decode cX9_joins 16 = .ok (.isub, 1) := by decide +kernel
theorem dX9_joins_17 : decode cX9_joins 17 = .ok (.putfield 87, 3) := by decide +kernel
theorem dX9_joins_20 : decode cX9_joins 20 = .ok (.aload_n 0, 1) := by decide +kernel
theorem dX9_joins_21 : decode cX9_joins 21 = .ok (.getfield 19, 3) := by decide +kernel
theorem dX9_joins_24 : decode cX9_joins 24 = .ok (.aload_n 0, 1) := by decide +kernel
theorem dX9_joins_25 : decode cX9_joins 25 = .ok (.getfield 87, 3) := by decide +kernel
theorem dX9_joins_28 : decode cX9_joins 28 = .ok (.iconst 1, 1) := by decide +kernel
theorem dX9_joins_29 : decode cX9_joins 29 = .ok (.isub, 1) := by decide +kernel
theorem dX9_joins_30 : decode cX9_joins 30 = .ok (.iaload, 1) := by decide +kernel
theorem dX9_joins_31 : decode cX9_joins 31 = .ok (.istore_n 1, 1) := by decide +kernel
theorem dX9_joins_32 : decode cX9_joins 32 = .ok (.aload_n 0, 1) := by decide +kernel
theorem dX9_joins_33 : decode cX9_joins 33 = .ok (.getfield 19, 3) := by decide +kernel
theorem dX9_joins_36 : decode cX9_joins 36 = .ok (.aload_n 0, 1) := by decide +kernel
theorem dX9_joins_37 : decode cX9_joins 37 = .ok (.getfield 87, 3) := by decide +kernel
theorem dX9_joins_40 : decode cX9_joins 40 = .ok (.iaload, 1) := by decide +kernel
theorem dX9_joins_41 : decode cX9_joins 41 = .ok (.istore_n 2, 1) := by decide +kernel
theorem dX9_joins_42 : decode cX9_joins 42 = .ok (.aload_n 0, 1) := by decide +kernel
theorem dX9_joins_43 : decode cX9_joins 43 = .ok (.getfield 19, 3) := by decide +kernel
theorem dX9_joins_46 : decode cX9_joins 46 = .ok (.aload_n 0, 1) := by decide +kernel
theorem dX9_joins_47 : decode cX9_joins 47 = .ok (.getfield 87, 3) := by decide +kernel
theorem dX9_joins_50 : decode cX9_joins 50 = .ok (.iconst 1, 1) := by decide +kernel
theorem dX9_joins_51 : decode cX9_joins 51 = .ok (.isub, 1) := by decide +kernel
theorem dX9_joins_52 : decode cX9_joins 52 = .ok (.aload_n 0, 1) := by decide +kernel
theorem dX9_joins_53 : decode cX9_joins 53 = .ok (.getfield 16, 3) := by decide +kernel
theorem dX9_joins_56 : decode cX9_joins 56 = .ok (.aload_n 0, 1) := by decide +kernel
theorem dX9_joins_57 : decode cX9_joins 57 = .ok (.getfield 84, 3) := by decide +kernel
theorem dX9_joins_60 : decode cX9_joins 60 = .ok (.iaload, 1) := by decide +kernel
theorem dX9_joins_61 : decode cX9_joins 61 = .ok (.bipush 38, 2) := by decide +kernel
theorem dX9_joins_63 : decode cX9_joins 63 = .ok (.if_icmp .ne 9, 3) := by decide +kernel
theorem dX9_joins_66 : decode cX9_joins 66 = .ok (.iload_n 1, 1) := by decide +kernel
theorem dX9_joins_67 : decode cX9_joins 67 = .ok (.iload_n 2, 1) := by decide +kernel
theorem dX9_joins_68 : decode cX9_joins 68 = .ok (.iand, 1) := by decide +kernel
theorem dX9_joins_69 : decode cX9_joins 69 = .ok (.goto 6, 3) := by decide +kernel
theorem dX9_joins_72 : decode cX9_joins 72 = .ok (.iload_n 1, 1) := by decide +kernel
theorem dX9_joins_73 : decode cX9_joins 73 = .ok (.iload_n 2, 1) := by decide +kernel
theorem dX9_joins_74 : decode cX9_joins 74 = .ok (.ior, 1) := by decide +kernel
theorem dX9_joins_75 : decode cX9_joins 75 = .ok (.iastore, 1) := by decide +kernel
theorem dX9_joins_76 : decode cX9_joins 76 = .ok (.return_, 1) := by decide +kernel
theorem dX9_bracket_0 : decode cX9_bracket 0 = .ok (.bipush (-9), 2) := by decide +kernel
theorem dX9_bracket_2 : decode cX9_bracket 2 = .ok (.istore_n 1, 1) := by decide +kernel
theorem dX9_bracket_3 : decode cX9_bracket 3 = .ok (.iconst 0, 1) := by decide +kernel
theorem dX9_bracket_4 : decode cX9_bracket 4 = .ok (.istore_n 2, 1) := by decide +kernel
theorem dX9_bracket_5 : decode cX9_bracket 5 = .ok (.iload_n 2, 1) := by decide +kernel
theorem dX9_bracket_6 : decode cX9_bracket 6 = .ok (.aload_n 0, 1) := by decide +kernel
theorem dX9_bracket_7 : decode cX9_bracket 7 = .ok (.getfield 84, 3) := by decide +kernel
theorem dX9_bracket_10 : decode cX9_bracket 10 = .ok (.if_icmp .ge 26, 3) := by decide +kernel
theorem dX9_bracket_13 : decode cX9_bracket 13 = .ok (.aload_n 0, 1) := by decide +kernel
theorem dX9_bracket_14 : decode cX9_bracket 14 = .ok (.getfield 16, 3) := by decide +kernel
theorem dX9_bracket_17 : decode cX9_bracket 17 = .ok (.iload_n 2, 1) := by decide +kernel
theorem dX9_bracket_18 : decode cX9_bracket 18 = .ok (.iaload, 1) := by decide +kernel
theorem dX9_bracket_19 : decode cX9_bracket 19 = .ok (.bipush 40, 2) := by decide +kernel
theorem dX9_bracket_21 : decode cX9_bracket 21 = .ok (.if_icmp .ne 7, 3) := by decide +kernel
theorem dX9_bracket_24 : decode cX9_bracket 24 = .ok (.iload_n 2, 1) := by decide +kernel
theorem dX9_bracket_25 : decode cX9_bracket 25 = .ok (.goto 4, 3) := by decide +kernel
theorem dX9_bracket_28 : decode cX9_bracket 28 = .ok (.iload_n 1, 1) := by decide +kernel
theorem dX9_bracket_29 : decode cX9_bracket 29 = .ok (.istore_n 1, 1) := by decide +kernel
theorem dX9_bracket_30 : decode cX9_bracket 30 = .ok (.iinc 2 1, 3) := by decide +kernel
theorem dX9_bracket_33 : decode cX9_bracket 33 = .ok (.goto (-28), 3) := by decide +kernel
theorem dX9_bracket_36 : decode cX9_bracket 36 = .ok (.iload_n 1, 1) := by decide +kernel
theorem dX9_bracket_37 : decode cX9_bracket 37 = .ok (.ireturn, 1) := by decide +kernel
set_option maxRecDepth 20000 in
theorem ggX9_formula_X9_isWell : GoodIn wsX9_formula wsX9_isWell := goodIn_r _ [11, 12, 47, 48, 49, 50, 51, 52, 53, 54, 55, 56, 57, 58, 59, 60, 61, 62, 63, 64, 65, 66, 67, 68, 69, 70, 71, 72, 73, 74] (by decide +kernel) (by decide +kernel)
set_option maxRecDepth 20000 in
theorem gX9_formula_X9_isWell : GoodIn wsX9_formula (wsV RX9 80 RX9 yX9_isWell wsX9_isWell) := goodIn_app (goodIn_of _ (by decide +kernel)) ggX9_formula_X9_isWell
set_option maxRecDepth 20000 in
theorem ggX9_formula_X9_letter : GoodIn wsX9_formula wsX9_letter := goodIn_r _ [15] (by decide +kernel) (by decide +kernel)
set_option maxRecDepth 20000 in
theorem gX9_formula_X9_letter : GoodIn wsX9_formula (va_wsS RX9 90 yX9_letter wsX9_letter) := goodIn_app (goodIn_of _ (by decide +kernel)) ggX9_formula_X9_letter
set_option maxRecDepth 20000 in
theorem ggX9_formula_X9_advances : GoodIn wsX9_formula wsX9_advances := goodIn_r _ [19, 20, 21, 3, 5, 22, 23, 24, 25, 10, 26, 27, 28, 29, 30, 47, 48, 49, 50, 51, 52, 53, 54, 55, 56, 57, 58, 59, 60, 61, 62, 63, 64, 65, 66, 67, 68, 69, 70, 71, 72, 73, 74] (by decide +kernel) (by decide +kernel)
set_option maxRecDepth 20000 in
theorem gX9_formula_X9_advances : GoodIn wsX9_formula (wsV RX9 93 RX9 yX9_advances wsX9_advances) := goodIn_app (goodIn_of _ (by decide +kernel)) ggX9_formula_X9_advances
set_option maxRecDepth 20000 in
theorem ggX9_formula_X9_isSign : GoodIn wsX9_formula wsX9_isSign := goodIn_r _ [34, 3, 5, 7, 8, 9, 10, 11, 12, 47, 48, 49, 50, 51, 52, 53, 54, 55, 56, 57, 58, 59, 60, 61, 62, 63, 64, 65, 66, 67, 68, 69, 70, 71, 72, 73, 74] (by decide +kernel) (by decide +kernel)
set_option maxRecDepth 20000 in
theorem gX9_formula_X9_isSign : GoodIn wsX9_formula (wsV RX9 96 RX9 yX9_isSign wsX9_isSign) := goodIn_app (goodIn_of _ (by decide +kernel)) ggX9_formula_X9_isSign
set_option maxRecDepth 20000 in
theorem ggX9_formula_X9_fails : GoodIn wsX9_formula wsX9_fails := goodIn_r _ [38, 12, 21, 47, 48, 49, 50, 51, 52, 53, 54, 55, 56, 57, 58, 59, 60, 61, 62, 63, 64, 65, 66, 67, 68, 69, 70, 71, 72, 73, 74] (by decide +kernel) (by decide +kernel)
set_option maxRecDepth 20000 in
theorem gX9_formula_X9_fails : GoodIn wsX9_formula (wsV RX9 100 RX9 yX9_fails wsX9_fails) := goodIn_app (goodIn_of _ (by decide +kernel)) ggX9_formula_X9_fails
set_option maxRecDepth 20000 in
theorem ggX9_formula_X9_joins : GoodIn wsX9_formula wsX9_joins := goodIn_r _ [42, 1, 2, 4, 6, 47, 48, 49, 50, 51, 52, 53, 54, 55, 56, 57, 58, 59, 60, 61, 62, 63, 64, 65, 66, 67, 68, 69, 70, 71, 72, 73, 74] (by decide +kernel) (by decide +kernel)
set_option maxRecDepth 20000 in
theorem gX9_formula_X9_joins : GoodIn wsX9_formula (wsV RX9 103 RX9 yX9_joins wsX9_joins) := goodIn_app (goodIn_of _ (by decide +kernel)) ggX9_formula_X9_joins
set_option maxRecDepth 20000 in
theorem ggX9_formula_X9_bracket : GoodIn wsX9_formula wsX9_bracket := goodIn_r _ [46, 1, 6, 47, 48, 49, 50, 51, 52, 53, 54, 55, 56, 57, 58, 59, 60, 61, 62, 63, 64, 65, 66, 67, 68, 69, 70, 71, 72, 73, 74] (by decide +kernel) (by decide +kernel)
set_option maxRecDepth 20000 in
theorem gX9_formula_X9_bracket : GoodIn wsX9_formula (wsV RX9 106 RX9 yX9_bracket wsX9_bracket) := goodIn_app (goodIn_of _ (by decide +kernel)) ggX9_formula_X9_bracket
theorem dX9_formula_0 : decode cX9_formula 0 = .ok (.aload_n 0, 1) := by decide +kernel
theorem dX9_formula_1 : decode cX9_formula 1 = .ok (.iconst 0, 1) := by decide +kernel
theorem dX9_formula_2 : decode cX9_formula 2 = .ok (.putfield 84, 3) := by decide +kernel
theorem dX9_formula_5 : decode cX9_formula 5 = .ok (.aload_n 0, 1) := by decide +kernel
theorem dX9_formula_6 : decode cX9_formula 6 = .ok (.iconst 0, 1) := by decide +kernel
theorem dX9_formula_7 : decode cX9_formula 7 = .ok (.putfield 87, 3) := by decide +kernel
theorem dX9_formula_10 : decode cX9_formula 10 = .ok (.iconst 0, 1) := by decide +kernel
theorem dX9_formula_11 : decode cX9_formula 11 = .ok (.istore_n 1, 1) := by decide +kernel
theorem dX9_formula_12 : decode cX9_formula 12 = .ok (.iconst 0, 1) := by decide +kernel
theorem dX9_formula_13 : decode cX9_formula 13 = .ok (.istore_n 2, 1) := by decide +kernel
theorem dX9_formula_14 : decode cX9_formula 14 = .ok (.iconst 1, 1) := by decide +kernel
theorem dX9_formula_15 : decode cX9_formula 15 = .ok (.istore_n 3, 1) := by decide +kernel
theorem dX9_formula_16 : decode cX9_formula 16 = .ok (.iconst 1, 1) := by decide +kernel
theorem dX9_formula_17 : decode cX9_formula 17 = .ok (.istore 4, 2) := by decide +kernel
theorem dX9_formula_19 : decode cX9_formula 19 = .ok (.iload 4, 2) := by decide +kernel
theorem dX9_formula_21 : decode cX9_formula 21 = .ok (.ifCond .eq 379, 3) := by decide +kernel
theorem dX9_formula_24 : decode cX9_formula 24 = .ok (.aload_n 0, 1) := by decide +kernel
theorem dX9_formula_25 : decode cX9_formula 25 = .ok (.invokevirtual 80, 3) := by decide +kernel
theorem dX9_formula_28 : decode cX9_formula 28 = .ok (.ifCond .eq 372, 3) := by decide +kernel
theorem dX9_formula_31 : decode cX9_formula 31 = .ok (.iload_n 3, 1) := by decide +kernel
theorem dX9_formula_32 : decode cX9_formula 32 = .ok (.ifCond .eq 126, 3) := by decide +kernel
theorem dX9_formula_35 : decode cX9_formula 35 = .ok (.aload_n 0, 1) := by decide +kernel
theorem dX9_formula_36 : decode cX9_formula 36 = .ok (.invokevirtual 80, 3) := by decide +kernel
theorem dX9_formula_39 : decode cX9_formula 39 = .ok (.ifCond .eq 55, 3) := by decide +kernel
theorem dX9_formula_42 : decode cX9_formula 42 = .ok (.aload_n 0, 1) := by decide +kernel
theorem dX9_formula_43 : decode cX9_formula 43 = .ok (.getfield 71, 3) := by decide +kernel
theorem dX9_formula_46 : decode cX9_formula 46 = .ok (.iconst 1, 1) := by decide +kernel
theorem dX9_formula_47 : decode cX9_formula 47 = .ok (.if_icmp .ne 47, 3) := by decide +kernel
theorem dX9_formula_50 : decode cX9_formula 50 = .ok (.iload_n 1, 1) := by decide +kernel
theorem dX9_formula_51 : decode cX9_formula 51 = .ok (.bipush 12, 2) := by decide +kernel
theorem dX9_formula_53 : decode cX9_formula 53 = .ok (.if_icmp .ge 41, 3) := by decide +kernel
theorem dX9_formula_56 : decode cX9_formula 56 = .ok (.aload_n 0, 1) := by decide +kernel
theorem dX9_formula_57 : decode cX9_formula 57 = .ok (.getfield 19, 3) := by decide +kernel
theorem dX9_formula_60 : decode cX9_formula 60 = .ok (.aload_n 0, 1) := by decide +kernel
theorem dX9_formula_61 : decode cX9_formula 61 = .ok (.getfield 87, 3) := by decide +kernel
theorem dX9_formula_64 : decode cX9_formula 64 = .ok (.aload_n 0, 1) := by decide +kernel
theorem dX9_formula_65 : decode cX9_formula 65 = .ok (.getfield 74, 3) := by decide +kernel
theorem dX9_formula_68 : decode cX9_formula 68 = .ok (.invokestatic 90, 3) := by decide +kernel
theorem dX9_formula_71 : decode cX9_formula 71 = .ok (.iastore, 1) := by decide +kernel
theorem dX9_formula_72 : decode cX9_formula 72 = .ok (.aload_n 0, 1) := by decide +kernel
theorem dX9_formula_73 : decode cX9_formula 73 = .ok (.dup, 1) := by decide +kernel
theorem dX9_formula_74 : decode cX9_formula 74 = .ok (.getfield 87, 3) := by decide +kernel
theorem dX9_formula_77 : decode cX9_formula 77 = .ok (.iconst 1, 1) := by decide +kernel
theorem dX9_formula_78 : decode cX9_formula 78 = .ok (.iadd, 1) := by decide +kernel
theorem dX9_formula_79 : decode cX9_formula 79 = .ok (.putfield 87, 3) := by decide +kernel
theorem dX9_formula_82 : decode cX9_formula 82 = .ok (.iinc 1 1, 3) := by decide +kernel
theorem dX9_formula_85 : decode cX9_formula 85 = .ok (.iconst 0, 1) := by decide +kernel
theorem dX9_formula_86 : decode cX9_formula 86 = .ok (.istore_n 3, 1) := by decide +kernel
theorem dX9_formula_87 : decode cX9_formula 87 = .ok (.aload_n 0, 1) := by decide +kernel
theorem dX9_formula_88 : decode cX9_formula 88 = .ok (.invokevirtual 93, 3) := by decide +kernel
theorem dX9_formula_91 : decode cX9_formula 91 = .ok (.goto 238, 3) := by decide +kernel
theorem dX9_formula_94 : decode cX9_formula 94 = .ok (.aload_n 0, 1) := by decide +kernel
theorem dX9_formula_95 : decode cX9_formula 95 = .ok (.bipush 33, 2) := by decide +kernel
theorem dX9_formula_97 : decode cX9_formula 97 = .ok (.invokevirtual 96, 3) := by decide +kernel
theorem dX9_formula_100 : decode cX9_formula 100 = .ok (.ifCond .ne 12, 3) := by decide +kernel
theorem dX9_formula_103 : decode cX9_formula 103 = .ok (.aload_n 0, 1) := by decide +kernel
theorem dX9_formula_104 : decode cX9_formula 104 = .ok (.bipush 40, 2) := by decide +kernel
theorem dX9_formula_106 : decode cX9_formula 106 = .ok (.invokevirtual 96, 3) := by decide +kernel
theorem dX9_formula_109 : decode cX9_formula 109 = .ok (.ifCond .eq 42, 3) := by decide +kernel
theorem dX9_formula_112 : decode cX9_formula 112 = .ok (.iload_n 2, 1) := by decide +kernel
theorem dX9_formula_113 : decode cX9_formula 113 = .ok (.bipush 6, 2) := by decide +kernel
theorem dX9_formula_115 : decode cX9_formula 115 = .ok (.if_icmp .ge 36, 3) := by decide +kernel
theorem dX9_formula_118 : decode cX9_formula 118 = .ok (.aload_n 0, 1) := by decide +kernel
theorem dX9_formula_119 : decode cX9_formula 119 = .ok (.getfield 16, 3) := by decide +kernel
theorem dX9_formula_122 : decode cX9_formula 122 = .ok (.aload_n 0, 1) := by decide +kernel
theorem dX9_formula_123 : decode cX9_formula 123 = .ok (.getfield 84, 3) := by decide +kernel
theorem dX9_formula_126 : decode cX9_formula 126 = .ok (.aload_n 0, 1) := by decide +kernel
theorem dX9_formula_127 : decode cX9_formula 127 = .ok (.getfield 74, 3) := by decide +kernel
theorem dX9_formula_130 : decode cX9_formula 130 = .ok (.iastore, 1) := by decide +kernel
theorem dX9_formula_131 : decode cX9_formula 131 = .ok (.aload_n 0, 1) := by decide +kernel
theorem dX9_formula_132 : decode cX9_formula 132 = .ok (.dup, 1) := by decide +kernel
theorem dX9_formula_133 : decode cX9_formula 133 = .ok (.getfield 84, 3) := by decide +kernel
theorem dX9_formula_136 : decode cX9_formula 136 = .ok (.iconst 1, 1) := by decide +kernel
theorem dX9_formula_137 : decode cX9_formula 137 = .ok (.iadd, 1) := by decide +kernel
theorem dX9_formula_138 : decode cX9_formula 138 = .ok (.putfield 84, 3) := by decide +kernel
theorem dX9_formula_141 : decode cX9_formula 141 = .ok (.iinc 2 1, 3) := by decide +kernel
theorem dX9_formula_144 : decode cX9_formula 144 = .ok (.aload_n 0, 1) := by decide +kernel
theorem dX9_formula_145 : decode cX9_formula 145 = .ok (.invokevirtual 93, 3) := by decide +kernel
theorem dX9_formula_148 : decode cX9_formula 148 = .ok (.goto 181, 3) := by decide +kernel
theorem dX9_formula_151 : decode cX9_formula 151 = .ok (.aload_n 0, 1) := by decide +kernel
theorem dX9_formula_152 : decode cX9_formula 152 = .ok (.invokevirtual 100, 3) := by decide +kernel
theorem dX9_formula_155 : decode cX9_formula 155 = .ok (.goto 174, 3) := by decide +kernel
theorem dX9_formula_158 : decode cX9_formula 158 = .ok (.aload_n 0, 1) := by decide +kernel
theorem dX9_formula_159 : decode cX9_formula 159 = .ok (.bipush 38, 2) := by decide +kernel
theorem dX9_formula_161 : decode cX9_formula 161 = .ok (.invokevirtual 96, 3) := by decide +kernel
theorem dX9_formula_164 : decode cX9_formula 164 = .ok (.ifCond .ne 12, 3) := by decide +kernel
theorem dX9_formula_167 : decode cX9_formula 167 = .ok (.aload_n 0, 1) := by decide +kernel
theorem dX9_formula_168 : decode cX9_formula 168 = .ok (.bipush 124, 2) := by decide +kernel
theorem dX9_formula_170 : decode cX9_formula 170 = .ok (.invokevirtual 96, 3) := by decide +kernel
theorem dX9_formula_173 : decode cX9_formula 173 = .ok (.ifCond .eq 92, 3) := by decide +kernel
theorem dX9_formula_176 : decode cX9_formula 176 = .ok (.aload_n 0, 1) := by decide +kernel
theorem dX9_formula_177 : decode cX9_formula 177 = .ok (.getfield 74, 3) := by decide +kernel
theorem dX9_formula_180 : decode cX9_formula 180 = .ok (.istore 5, 2) := by decide +kernel
theorem dX9_formula_182 : decode cX9_formula 182 = .ok (.aload_n 0, 1) := by decide +kernel
theorem dX9_formula_183 : decode cX9_formula 183 = .ok (.getfield 84, 3) := by decide +kernel
theorem dX9_formula_186 : decode cX9_formula 186 = .ok (.ifCond .le 49, 3) := by decide +kernel
theorem dX9_formula_189 : decode cX9_formula 189 = .ok (.aload_n 0, 1) := by decide +kernel
theorem dX9_formula_190 : decode cX9_formula 190 = .ok (.getfield 16, 3) := by decide +kernel
theorem dX9_formula_193 : decode cX9_formula 193 = .ok (.aload_n 0, 1) := by decide +kernel
theorem dX9_formula_194 : decode cX9_formula 194 = .ok (.getfield 84, 3) := by decide +kernel
theorem dX9_formula_197 : decode cX9_formula 197 = .ok (.iconst 1, 1) := by decide +kernel
theorem dX9_formula_198 : decode cX9_formula 198 = .ok (.isub, 1) := by decide +kernel
theorem dX9_formula_199 : decode cX9_formula 199 = .ok (.iaload, 1) := by decide +kernel
theorem dX9_formula_200 : decode cX9_formula 200 = .ok (.bipush 38, 2) := by decide +kernel
theorem dX9_formula_202 : decode cX9_formula 202 = .ok (.if_icmp .eq 26, 3) := by decide +kernel
theorem dX9_formula_205 : decode cX9_formula 205 = .ok (.aload_n 0, 1) := by decide +kernel
theorem dX9_formula_206 : decode cX9_formula 206 = .ok (.getfield 16, 3) := by decide +kernel
theorem dX9_formula_209 : decode cX9_formula 209 = .ok (.aload_n 0, 1) := by decide +kernel
theorem dX9_formula_210 : decode cX9_formula 210 = .ok (.getfield 84, 3) := by decide +kernel
theorem dX9_formula_213 : decode cX9_formula 213 = .ok (.iconst 1, 1) := by decide +kernel
theorem dX9_formula_214 : decode cX9_formula 214 = .ok (.isub, 1) := by decide +kernel
theorem dX9_formula_215 : decode cX9_formula 215 = .ok (.iaload, 1) := by decide +kernel
theorem dX9_formula_216 : decode cX9_formula 216 = .ok (.bipush 124, 2) := by decide +kernel
theorem dX9_formula_218 : decode cX9_formula 218 = .ok (.if_icmp .ne 17, 3) := by decide +kernel
theorem dX9_formula_221 : decode cX9_formula 221 = .ok (.iload 5, 2) := by decide +kernel
theorem dX9_formula_223 : decode cX9_formula 223 = .ok (.bipush 124, 2) := by decide +kernel
theorem dX9_formula_225 : decode cX9_formula 225 = .ok (.if_icmp .ne 10, 3) := by decide +kernel
theorem dX9_formula_228 : decode cX9_formula 228 = .ok (.aload_n 0, 1) := by decide +kernel
theorem dX9_formula_229 : decode cX9_formula 229 = .ok (.invokevirtual 103, 3) := by decide +kernel
theorem dX9_formula_232 : decode cX9_formula 232 = .ok (.goto (-50), 3) := by decide +kernel
theorem dX9_formula_235 : decode cX9_formula 235 = .ok (.aload_n 0, 1) := by decide +kernel
theorem dX9_formula_236 : decode cX9_formula 236 = .ok (.getfield 16, 3) := by decide +kernel
theorem dX9_formula_239 : decode cX9_formula 239 = .ok (.aload_n 0, 1) := by decide +kernel
theorem dX9_formula_240 : decode cX9_formula 240 = .ok (.getfield 84, 3) := by decide +kernel
theorem dX9_formula_243 : decode cX9_formula 243 = .ok (.iload 5, 2) := by decide +kernel
theorem dX9_formula_245 : decode cX9_formula 245 = .ok (.iastore, 1) := by decide +kernel
theorem dX9_formula_246 : decode cX9_formula 246 = .ok (.aload_n 0, 1) := by decide +kernel
theorem dX9_formula_247 : decode cX9_formula 247 = .ok (.dup, 1) := by decide +kernel
theorem dX9_formula_248 : decode cX9_formula 248 = .ok (.getfield 84, 3) := by decide +kernel
theorem dX9_formula_251 : decode cX9_formula 251 = .ok (.iconst 1, 1) := by decide +kernel
theorem dX9_formula_252 : decode cX9_formula 252 = .ok (.iadd, 1) := by decide +kernel
theorem dX9_formula_253 : decode cX9_formula 253 = .ok (.putfield 84, 3) := by decide +kernel
theorem dX9_formula_256 : decode cX9_formula 256 = .ok (.iconst 1, 1) := by decide +kernel
