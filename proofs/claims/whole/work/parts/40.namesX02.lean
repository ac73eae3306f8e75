theorem dX9_move_52 : decode cX9_move 52 = .ok (.iconst 1, 1) := by decide +kernel
theorem dX9_move_53 : decode cX9_move 53 = .ok (.iadd, 1) := by decide +kernel
theorem dX9_move_54 : decode cX9_move 54 = .ok (.iaload, 1) := by decide +kernel
theorem dX9_move_55 : decode cX9_move 55 = .ok (.if_icmp .le 21, 3) := by decide +kernel
theorem dX9_move_58 : decode cX9_move 58 = .ok (.goto 16, 3) := by decide +kernel
theorem dX9_move_61 : decode cX9_move 61 = .ok (.iload_n 3, 1) := by decide +kernel
theorem dX9_move_62 : decode cX9_move 62 = .ok (.aload_n 0, 1) := by decide +kernel
theorem dX9_move_63 : decode cX9_move 63 = .ok (.getfield 13, 3) := by decide +kernel
theorem dX9_move_66 : decode cX9_move 66 = .ok (.iload 4, 2) := by decide +kernel
theorem dX9_move_68 : decode cX9_move 68 = .ok (.iconst 1, 1) := by decide +kernel
theorem dX9_move_69 : decode cX9_move 69 = .ok (.isub, 1) := by decide +kernel
theorem dX9_move_70 : decode cX9_move 70 = .ok (.iaload, 1) := by decide +kernel
theorem dX9_move_71 : decode cX9_move 71 = .ok (.if_icmp .ge 5, 3) := by decide +kernel
theorem dX9_move_74 : decode cX9_move 74 = .ok (.iconst (-1), 1) := by decide +kernel
theorem dX9_move_75 : decode cX9_move 75 = .ok (.ireturn, 1) := by decide +kernel
theorem dX9_move_76 : decode cX9_move 76 = .ok (.aload_n 0, 1) := by decide +kernel
theorem dX9_move_77 : decode cX9_move 77 = .ok (.getfield 13, 3) := by decide +kernel
theorem dX9_move_80 : decode cX9_move 80 = .ok (.iload 4, 2) := by decide +kernel
theorem dX9_move_82 : decode cX9_move 82 = .ok (.iaload, 1) := by decide +kernel
theorem dX9_move_83 : decode cX9_move 83 = .ok (.istore 5, 2) := by decide +kernel
theorem dX9_move_85 : decode cX9_move 85 = .ok (.aload_n 0, 1) := by decide +kernel
theorem dX9_move_86 : decode cX9_move 86 = .ok (.getfield 13, 3) := by decide +kernel
theorem dX9_move_89 : decode cX9_move 89 = .ok (.iload 4, 2) := by decide +kernel
theorem dX9_move_91 : decode cX9_move 91 = .ok (.iload_n 3, 1) := by decide +kernel
theorem dX9_move_92 : decode cX9_move 92 = .ok (.iastore, 1) := by decide +kernel
theorem dX9_move_93 : decode cX9_move 93 = .ok (.aload_n 0, 1) := by decide +kernel
theorem dX9_move_94 : decode cX9_move 94 = .ok (.iconst 0, 1) := by decide +kernel
theorem dX9_move_95 : decode cX9_move 95 = .ok (.putfield 120, 3) := by decide +kernel
theorem dX9_move_98 : decode cX9_move 98 = .ok (.iload 5, 2) := by decide +kernel
theorem dX9_move_100 : decode cX9_move 100 = .ok (.ireturn, 1) := by decide +kernel
theorem dX9_ons_0 : decode cX9_ons 0 = .ok (.iconst 0, 1) := by decide +kernel
theorem dX9_ons_1 : decode cX9_ons 1 = .ok (.istore_n 1, 1) := by decide +kernel
theorem dX9_ons_2 : decode cX9_ons 2 = .ok (.iconst 0, 1) := by decide +kernel
theorem dX9_ons_3 : decode cX9_ons 3 = .ok (.istore_n 2, 1) := by decide +kernel
theorem dX9_ons_4 : decode cX9_ons 4 = .ok (.iload_n 2, 1) := by decide +kernel
theorem dX9_ons_5 : decode cX9_ons 5 = .ok (.aload_n 0, 1) := by decide +kernel
theorem dX9_ons_6 : decode cX9_ons 6 = .ok (.getfield 49, 3) := by decide +kernel
theorem dX9_ons_9 : decode cX9_ons 9 = .ok (.if_icmp .ge 24, 3) := by decide +kernel
theorem dX9_ons_12 : decode cX9_ons 12 = .ok (.iload_n 1, 1) := by decide +kernel
theorem dX9_ons_13 : decode cX9_ons 13 = .ok (.aload_n 0, 1) := by decide +kernel
theorem dX9_ons_14 : decode cX9_ons 14 = .ok (.getfield 13, 3) := by decide +kernel
theorem dX9_ons_17 : decode cX9_ons 17 = .ok (.iconst 5, 1) := by decide +kernel
theorem dX9_ons_18 : decode cX9_ons 18 = .ok (.iload_n 2, 1) := by decide +kernel
theorem dX9_ons_19 : decode cX9_ons 19 = .ok (.imul, 1) := by decide +kernel
theorem dX9_ons_20 : decode cX9_ons 20 = .ok (.iconst 4, 1) := by decide +kernel
theorem dX9_ons_21 : decode cX9_ons 21 = .ok (.iadd, 1) := by decide +kernel
theorem dX9_ons_22 : decode cX9_ons 22 = .ok (.iaload, 1) := by decide +kernel
theorem dX9_ons_23 : decode cX9_ons 23 = .ok (.iload_n 2, 1) := by decide +kernel
theorem dX9_ons_24 : decode cX9_ons 24 = .ok (.ishl, 1) := by decide +kernel
theorem dX9_ons_25 : decode cX9_ons 25 = .ok (.ior, 1) := by decide +kernel
theorem dX9_ons_26 : decode cX9_ons 26 = .ok (.istore_n 1, 1) := by decide +kernel
theorem dX9_ons_27 : decode cX9_ons 27 = .ok (.iinc 2 1, 3) := by decide +kernel
theorem dX9_ons_30 : decode cX9_ons 30 = .ok (.goto (-26), 3) := by decide +kernel
theorem dX9_ons_33 : decode cX9_ons 33 = .ok (.iload_n 1, 1) := by decide +kernel
theorem dX9_ons_34 : decode cX9_ons 34 = .ok (.ireturn, 1) := by decide +kernel
theorem dX9_end_0 : decode cX9_end 0 = .ok (.aload_n 0, 1) := by decide +kernel
theorem dX9_end_1 : decode cX9_end 1 = .ok (.getfield 13, 3) := by decide +kernel
theorem dX9_end_4 : decode cX9_end 4 = .ok (.iconst 5, 1) := by decide +kernel
theorem dX9_end_5 : decode cX9_end 5 = .ok (.iload_n 1, 1) := by decide +kernel
theorem dX9_end_6 : decode cX9_end 6 = .ok (.imul, 1) := by decide +kernel
theorem dX9_end_7 : decode cX9_end 7 = .ok (.iconst 2, 1) := by decide +kernel
theorem dX9_end_8 : decode cX9_end 8 = .ok (.iadd, 1) := by decide +kernel
theorem dX9_end_9 : decode cX9_end 9 = .ok (.iload_n 2, 1) := by decide +kernel
theorem dX9_end_10 : decode cX9_end 10 = .ok (.iadd, 1) := by decide +kernel
theorem dX9_end_11 : decode cX9_end 11 = .ok (.iaload, 1) := by decide +kernel
theorem dX9_end_12 : decode cX9_end 12 = .ok (.istore_n 3, 1) := by decide +kernel
theorem dX9_end_13 : decode cX9_end 13 = .ok (.aload_n 0, 1) := by decide +kernel
theorem dX9_end_14 : decode cX9_end 14 = .ok (.getfield 130, 3) := by decide +kernel
theorem dX9_end_17 : decode cX9_end 17 = .ok (.iload_n 1, 1) := by decide +kernel
theorem dX9_end_18 : decode cX9_end 18 = .ok (.ishr, 1) := by decide +kernel
theorem dX9_end_19 : decode cX9_end 19 = .ok (.iconst 1, 1) := by decide +kernel
theorem dX9_end_20 : decode cX9_end 20 = .ok (.iand, 1) := by decide +kernel
theorem dX9_end_21 : decode cX9_end 21 = .ok (.iconst 1, 1) := by decide +kernel
theorem dX9_end_22 : decode cX9_end 22 = .ok (.if_icmp .ne 10, 3) := by decide +kernel
theorem dX9_end_25 : decode cX9_end 25 = .ok (.aload_n 0, 1) := by decide +kernel
theorem dX9_end_26 : decode cX9_end 26 = .ok (.getfield 133, 3) := by decide +kernel
theorem dX9_end_29 : decode cX9_end 29 = .ok (.goto 4, 3) := by decide +kernel
theorem dX9_end_32 : decode cX9_end 32 = .ok (.iconst 0, 1) := by decide +kernel
theorem dX9_end_33 : decode cX9_end 33 = .ok (.istore 4, 2) := by decide +kernel
theorem dX9_end_35 : decode cX9_end 35 = .ok (.iload_n 3, 1) := by decide +kernel
theorem dX9_end_36 : decode cX9_end 36 = .ok (.iload_n 2, 1) := by decide +kernel
theorem dX9_end_37 : decode cX9_end 37 = .ok (.ifCond .ne 9, 3) := by decide +kernel
theorem dX9_end_40 : decode cX9_end 40 = .ok (.iload 4, 2) := by decide +kernel
theorem dX9_end_42 : decode cX9_end 42 = .ok (.ineg, 1) := by decide +kernel
theorem dX9_end_43 : decode cX9_end 43 = .ok (.goto 5, 3) := by decide +kernel
theorem dX9_end_46 : decode cX9_end 46 = .ok (.iload 4, 2) := by decide +kernel
theorem dX9_end_48 : decode cX9_end 48 = .ok (.iadd, 1) := by decide +kernel
theorem dX9_end_49 : decode cX9_end 49 = .ok (.istore_n 3, 1) := by decide +kernel
theorem dX9_end_50 : decode cX9_end 50 = .ok (.iload_n 3, 1) := by decide +kernel
theorem dX9_end_51 : decode cX9_end 51 = .ok (.ifCond .ge 7, 3) := by decide +kernel
theorem dX9_end_54 : decode cX9_end 54 = .ok (.iconst 0, 1) := by decide +kernel
theorem dX9_end_55 : decode cX9_end 55 = .ok (.goto 15, 3) := by decide +kernel
theorem dX9_end_58 : decode cX9_end 58 = .ok (.iload_n 3, 1) := by decide +kernel
theorem dX9_end_59 : decode cX9_end 59 = .ok (.bipush 100, 2) := by decide +kernel
theorem dX9_end_61 : decode cX9_end 61 = .ok (.if_icmp .le 8, 3) := by decide +kernel
theorem dX9_end_64 : decode cX9_end 64 = .ok (.bipush 100, 2) := by decide +kernel
theorem dX9_end_66 : decode cX9_end 66 = .ok (.goto 4, 3) := by decide +kernel
theorem dX9_end_69 : decode cX9_end 69 = .ok (.iload_n 3, 1) := by decide +kernel
theorem dX9_end_70 : decode cX9_end 70 = .ok (.ireturn, 1) := by decide +kernel
set_option maxRecDepth 20000 in
theorem ggX9_part_X9_end : GoodIn wsX9_part wsX9_end := goodIn_r _ [6, 1, 7, 8, 9, 10, 11, 12, 13, 14, 15, 16, 17, 18, 19, 20, 21, 22, 23, 24, 25, 26, 27, 28, 29, 30, 31, 32, 33, 34, 35, 36] rfl (by decide +kernel)
set_option maxRecDepth 20000 in
theorem gX9_part_X9_end : GoodIn wsX9_part (wsV RX9 136 RX9 yX9_end wsX9_end) := goodIn_app (goodIn_of _ (by decide +kernel)) ggX9_part_X9_end
theorem dX9_part_0 : decode cX9_part 0 = .ok (.aload_n 0, 1) := by decide +kernel
theorem dX9_part_1 : decode cX9_part 1 = .ok (.getfield 13, 3) := by decide +kernel
theorem dX9_part_4 : decode cX9_part 4 = .ok (.iconst 5, 1) := by decide +kernel
theorem dX9_part_5 : decode cX9_part 5 = .ok (.iload_n 1, 1) := by decide +kernel
theorem dX9_part_6 : decode cX9_part 6 = .ok (.imul, 1) := by decide +kernel
theorem dX9_part_7 : decode cX9_part 7 = .ok (.iconst 1, 1) := by decide +kernel
theorem dX9_part_8 : decode cX9_part 8 = .ok (.iadd, 1) := by decide +kernel
theorem dX9_part_9 : decode cX9_part 9 = .ok (.iaload, 1) := by decide +kernel
theorem dX9_part_10 : decode cX9_part 10 = .ok (.iload_n 3, 1) := by decide +kernel
theorem dX9_part_11 : decode cX9_part 11 = .ok (.ishr, 1) := by decide +kernel
theorem dX9_part_12 : decode cX9_part 12 = .ok (.iconst 1, 1) := by decide +kernel
theorem dX9_part_13 : decode cX9_part 13 = .ok (.iand, 1) := by decide +kernel
theorem dX9_part_14 : decode cX9_part 14 = .ok (.istore 4, 2) := by decide +kernel
theorem dX9_part_16 : decode cX9_part 16 = .ok (.iload 4, 2) := by decide +kernel
theorem dX9_part_18 : decode cX9_part 18 = .ok (.aload_n 0, 1) := by decide +kernel
theorem dX9_part_19 : decode cX9_part 19 = .ok (.getfield 13, 3) := by decide +kernel
theorem dX9_part_22 : decode cX9_part 22 = .ok (.iconst 5, 1) := by decide +kernel
theorem dX9_part_23 : decode cX9_part 23 = .ok (.iload_n 1, 1) := by decide +kernel
theorem dX9_part_24 : decode cX9_part 24 = .ok (.imul, 1) := by decide +kernel
theorem dX9_part_25 : decode cX9_part 25 = .ok (.iaload, 1) := by decide +kernel
theorem dX9_part_26 : decode cX9_part 26 = .ok (.iload_n 3, 1) := by decide +kernel
theorem dX9_part_27 : decode cX9_part 27 = .ok (.ishr, 1) := by decide +kernel
theorem dX9_part_28 : decode cX9_part 28 = .ok (.iand, 1) := by decide +kernel
theorem dX9_part_29 : decode cX9_part 29 = .ok (.istore 5, 2) := by decide +kernel
theorem dX9_part_31 : decode cX9_part 31 = .ok (.bipush 100, 2) := by decide +kernel
theorem dX9_part_33 : decode cX9_part 33 = .ok (.iload 5, 2) := by decide +kernel
theorem dX9_part_35 : decode cX9_part 35 = .ok (.imul, 1) := by decide +kernel
theorem dX9_part_36 : decode cX9_part 36 = .ok (.aload_n 0, 1) := by decide +kernel
theorem dX9_part_37 : decode cX9_part 37 = .ok (.iload_n 1, 1) := by decide +kernel
theorem dX9_part_38 : decode cX9_part 38 = .ok (.iload_n 2, 1) := by decide +kernel
theorem dX9_part_39 : decode cX9_part 39 = .ok (.invokevirtual 136, 3) := by decide +kernel
theorem dX9_part_42 : decode cX9_part 42 = .ok (.iload 4, 2) := by decide +kernel
theorem dX9_part_44 : decode cX9_part 44 = .ok (.imul, 1) := by decide +kernel
theorem dX9_part_45 : decode cX9_part 45 = .ok (.isub, 1) := by decide +kernel
theorem dX9_part_46 : decode cX9_part 46 = .ok (.ireturn, 1) := by decide +kernel
set_option maxRecDepth 20000 in
theorem ggX9_isHeld_X9_part : GoodIn wsX9_isHeld wsX9_part := goodIn_r _ [5, 6, 7, 8, 9, 4, 10, 11, 12, 13, 14, 15, 16, 17, 18, 19, 20, 21, 22, 23, 24, 25, 26, 27, 28, 29, 30, 31, 32, 33, 34, 35, 36, 37, 38, 39, 40] rfl (by decide +kernel)
set_option maxRecDepth 20000 in
theorem gX9_isHeld_X9_part : GoodIn wsX9_isHeld (wsV RX9 140 RX9 yX9_part wsX9_part) := goodIn_app (goodIn_of _ (by decide +kernel)) ggX9_isHeld_X9_part
theorem dX9_isHeld_0 : decode cX9_isHeld 0 = .ok (.lconst 0, 1) := by decide +kernel
theorem dX9_isHeld_1 : decode cX9_isHeld 1 = .ok (.lstore 4, 2) := by decide +kernel
theorem dX9_isHeld_3 : decode cX9_isHeld 3 = .ok (.lconst 0, 1) := by decide +kernel
theorem dX9_isHeld_4 : decode cX9_isHeld 4 = .ok (.lstore 6, 2) := by decide +kernel
theorem dX9_isHeld_6 : decode cX9_isHeld 6 = .ok (.iconst 0, 1) := by decide +kernel
theorem dX9_isHeld_7 : decode cX9_isHeld 7 = .ok (.istore 8, 2) := by decide +kernel
theorem dX9_isHeld_9 : decode cX9_isHeld 9 = .ok (.iload 8, 2) := by decide +kernel
theorem dX9_isHeld_11 : decode cX9_isHeld 11 = .ok (.bipush 8, 2) := by decide +kernel
theorem dX9_isHeld_13 : decode cX9_isHeld 13 = .ok (.if_icmp .ge 51, 3) := by decide +kernel
theorem dX9_isHeld_16 : decode cX9_isHeld 16 = .ok (.lload 4, 2) := by decide +kernel
theorem dX9_isHeld_18 : decode cX9_isHeld 18 = .ok (.aload_n 0, 1) := by decide +kernel
theorem dX9_isHeld_19 : decode cX9_isHeld 19 = .ok (.iload_n 1, 1) := by decide +kernel
theorem dX9_isHeld_20 : decode cX9_isHeld 20 = .ok (.iconst 0, 1) := by decide +kernel
theorem dX9_isHeld_21 : decode cX9_isHeld 21 = .ok (.iload 8, 2) := by decide +kernel
theorem dX9_isHeld_23 : decode cX9_isHeld 23 = .ok (.invokevirtual 140, 3) := by decide +kernel
theorem dX9_isHeld_26 : decode cX9_isHeld 26 = .ok (.i2l, 1) := by decide +kernel
theorem dX9_isHeld_27 : decode cX9_isHeld 27 = .ok (.aload_n 2, 1) := by decide +kernel
theorem dX9_isHeld_28 : decode cX9_isHeld 28 = .ok (.iload_n 3, 1) := by decide +kernel
theorem dX9_isHeld_29 : decode cX9_isHeld 29 = .ok (.iload 8, 2) := by decide +kernel
theorem dX9_isHeld_31 : decode cX9_isHeld 31 = .ok (.iadd, 1) := by decide +kernel
theorem dX9_isHeld_32 : decode cX9_isHeld 32 = .ok (.laload, 1) := by decide +kernel
theorem dX9_isHeld_33 : decode cX9_isHeld 33 = .ok (.lmul, 1) := by decide +kernel
theorem dX9_isHeld_34 : decode cX9_isHeld 34 = .ok (.ladd, 1) := by decide +kernel
theorem dX9_isHeld_35 : decode cX9_isHeld 35 = .ok (.lstore 4, 2) := by decide +kernel
theorem dX9_isHeld_37 : decode cX9_isHeld 37 = .ok (.lload 6, 2) := by decide +kernel
theorem dX9_isHeld_39 : decode cX9_isHeld 39 = .ok (.aload_n 0, 1) := by decide +kernel
theorem dX9_isHeld_40 : decode cX9_isHeld 40 = .ok (.iload_n 1, 1) := by decide +kernel
theorem dX9_isHeld_41 : decode cX9_isHeld 41 = .ok (.iconst 1, 1) := by decide +kernel
theorem dX9_isHeld_42 : decode cX9_isHeld 42 = .ok (.iload 8, 2) := by decide +kernel
theorem dX9_isHeld_44 : decode cX9_isHeld 44 = .ok (.invokevirtual 140, 3) := by decide +kernel
theorem dX9_isHeld_47 : decode cX9_isHeld 47 = .ok (.i2l, 1) := by decide +kernel
theorem dX9_isHeld_48 : decode cX9_isHeld 48 = .ok (.aload_n 2, 1) := by decide +kernel
theorem dX9_isHeld_49 : decode cX9_isHeld 49 = .ok (.iload_n 3, 1) := by decide +kernel
theorem dX9_isHeld_50 : decode cX9_isHeld 50 = .ok (.iload 8, 2) := by decide +kernel
theorem dX9_isHeld_52 : decode cX9_isHeld 52 = .ok (.iadd, 1) := by decide +kernel
theorem dX9_isHeld_53 : decode cX9_isHeld 53 = .ok (.laload, 1) := by decide +kernel
theorem dX9_isHeld_54 : decode cX9_isHeld 54 = .ok (.lmul, 1) := by decide +kernel
theorem dX9_isHeld_55 : decode cX9_isHeld 55 = .ok (.ladd, 1) := by decide +kernel
theorem dX9_isHeld_56 : decode cX9_isHeld 56 = .ok (.lstore 6, 2) := by decide +kernel
theorem dX9_isHeld_58 : decode cX9_isHeld 58 = .ok (.iinc 8 1, 3) := by decide +kernel
theorem dX9_isHeld_61 : decode cX9_isHeld 61 = .ok (.goto (-52), 3) := by decide +kernel
theorem dX9_isHeld_64 : decode cX9_isHeld 64 = .ok (.lload 4, 2) := by decide +kernel
theorem dX9_isHeld_66 : decode cX9_isHeld 66 = .ok (.lconst 0, 1) := by decide +kernel
theorem dX9_isHeld_67 : decode cX9_isHeld 67 = .ok (.lcmp, 1) := by decide +kernel
theorem dX9_isHeld_68 : decode cX9_isHeld 68 = .ok (.ifCond .lt 14, 3) := by decide +kernel
theorem dX9_isHeld_71 : decode cX9_isHeld 71 = .ok (.lload 6, 2) := by decide +kernel
theorem dX9_isHeld_73 : decode cX9_isHeld 73 = .ok (.lconst 0, 1) := by decide +kernel
theorem dX9_isHeld_74 : decode cX9_isHeld 74 = .ok (.lcmp, 1) := by decide +kernel
theorem dX9_isHeld_75 : decode cX9_isHeld 75 = .ok (.ifCond .gt 7, 3) := by decide +kernel
theorem dX9_isHeld_78 : decode cX9_isHeld 78 = .ok (.iconst 1, 1) := by decide +kernel
theorem dX9_isHeld_79 : decode cX9_isHeld 79 = .ok (.goto 4, 3) := by decide +kernel
theorem dX9_isHeld_82 : decode cX9_isHeld 82 = .ok (.iconst 0, 1) := by decide +kernel
theorem dX9_isHeld_83 : decode cX9_isHeld 83 = .ok (.ireturn, 1) := by decide +kernel
set_option maxRecDepth 20000 in
theorem ggX9_corner_X9_part : GoodIn wsX9_corner wsX9_part := goodIn_r _ [14, 15, 16, 17, 18, 13, 19, 20, 21, 26, 27, 28, 29, 30, 31, 32, 33, 34, 35, 36, 37, 38, 39, 40, 41, 42, 43, 44, 45, 46, 47, 48, 49, 50, 51, 52, 53] rfl (by decide +kernel)
set_option maxRecDepth 20000 in
theorem gX9_corner_X9_part : GoodIn wsX9_corner (wsV RX9 140 RX9 yX9_part wsX9_part) := goodIn_app (goodIn_of _ (by decide +kernel)) ggX9_corner_X9_part
set_option maxRecDepth 20000 in
theorem ggX9_corner_X9_isHeld : GoodIn wsX9_corner wsX9_isHeld := goodIn_r _ [25, 10, 11, 12, 13, 14, 15, 16, 17, 18, 19, 20, 21, 26, 27, 28, 29, 30, 31, 32, 33, 34, 35, 36, 37, 38, 39, 40, 41, 42, 43, 44, 45, 46, 47, 48, 49, 50, 51, 52, 53] rfl (by decide +kernel)
set_option maxRecDepth 20000 in
theorem gX9_corner_X9_isHeld : GoodIn wsX9_corner (wsV RX9 146 RX9 yX9_isHeld wsX9_isHeld) := goodIn_app (goodIn_of _ (by decide +kernel)) ggX9_corner_X9_isHeld
theorem dX9_corner_0 : decode cX9_corner 0 = .ok (.iload_n 1, 1) := by decide +kernel
theorem dX9_corner_1 : decode cX9_corner 1 = .ok (.iconst 1, 1) := by decide +kernel
theorem dX9_corner_2 : decode cX9_corner 2 = .ok (.iadd, 1) := by decide +kernel
theorem dX9_corner_3 : decode cX9_corner 3 = .ok (.istore 4, 2) := by decide +kernel
theorem dX9_corner_5 : decode cX9_corner 5 = .ok (.iconst 0, 1) := by decide +kernel
theorem dX9_corner_6 : decode cX9_corner 6 = .ok (.istore 5, 2) := by decide +kernel
theorem dX9_corner_8 : decode cX9_corner 8 = .ok (.iload 5, 2) := by decide +kernel
theorem dX9_corner_10 : decode cX9_corner 10 = .ok (.iload_n 1, 1) := by decide +kernel
theorem dX9_corner_11 : decode cX9_corner 11 = .ok (.if_icmp .ge 99, 3) := by decide +kernel
theorem dX9_corner_14 : decode cX9_corner 14 = .ok (.iconst 0, 1) := by decide +kernel
theorem dX9_corner_15 : decode cX9_corner 15 = .ok (.istore 6, 2) := by decide +kernel
theorem dX9_corner_17 : decode cX9_corner 17 = .ok (.iload 6, 2) := by decide +kernel
theorem dX9_corner_19 : decode cX9_corner 19 = .ok (.iload_n 1, 1) := by decide +kernel
theorem dX9_corner_20 : decode cX9_corner 20 = .ok (.if_icmp .ge 59, 3) := by decide +kernel
theorem dX9_corner_23 : decode cX9_corner 23 = .ok (.aload_n 0, 1) := by decide +kernel
theorem dX9_corner_24 : decode cX9_corner 24 = .ok (.getfield 39, 3) := by decide +kernel
theorem dX9_corner_27 : decode cX9_corner 27 = .ok (.iload 4, 2) := by decide +kernel
