theorem dX9_corner_422 : decode cX9_corner 422 = .ok (.aload_n 0, 1) := by decide +kernel
theorem dX9_corner_423 : decode cX9_corner 423 = .ok (.getfield 39, 3) := by decide +kernel
theorem dX9_corner_426 : decode cX9_corner 426 = .ok (.iload 4, 2) := by decide +kernel
theorem dX9_corner_428 : decode cX9_corner 428 = .ok (.iload 9, 2) := by decide +kernel
theorem dX9_corner_430 : decode cX9_corner 430 = .ok (.imul, 1) := by decide +kernel
theorem dX9_corner_431 : decode cX9_corner 431 = .ok (.iload_n 1, 1) := by decide +kernel
theorem dX9_corner_432 : decode cX9_corner 432 = .ok (.iadd, 1) := by decide +kernel
theorem dX9_corner_433 : decode cX9_corner 433 = .ok (.laload, 1) := by decide +kernel
theorem dX9_corner_434 : decode cX9_corner 434 = .ok (.lmul, 1) := by decide +kernel
theorem dX9_corner_435 : decode cX9_corner 435 = .ok (.lastore, 1) := by decide +kernel
theorem dX9_corner_436 : decode cX9_corner 436 = .ok (.aload_n 0, 1) := by decide +kernel
theorem dX9_corner_437 : decode cX9_corner 437 = .ok (.getfield 42, 3) := by decide +kernel
theorem dX9_corner_440 : decode cX9_corner 440 = .ok (.aload_n 0, 1) := by decide +kernel
theorem dX9_corner_441 : decode cX9_corner 441 = .ok (.getfield 33, 3) := by decide +kernel
theorem dX9_corner_444 : decode cX9_corner 444 = .ok (.iload 9, 2) := by decide +kernel
theorem dX9_corner_446 : decode cX9_corner 446 = .ok (.iaload, 1) := by decide +kernel
theorem dX9_corner_447 : decode cX9_corner 447 = .ok (.laload, 1) := by decide +kernel
theorem dX9_corner_448 : decode cX9_corner 448 = .ok (.lconst 0, 1) := by decide +kernel
theorem dX9_corner_449 : decode cX9_corner 449 = .ok (.lcmp, 1) := by decide +kernel
theorem dX9_corner_450 : decode cX9_corner 450 = .ok (.ifCond .ge 4, 3) := by decide +kernel
theorem dX9_corner_453 : decode cX9_corner 453 = .ok (.return_, 1) := by decide +kernel
theorem dX9_corner_454 : decode cX9_corner 454 = .ok (.iinc 9 1, 3) := by decide +kernel
theorem dX9_corner_457 : decode cX9_corner 457 = .ok (.goto (-54), 3) := by decide +kernel
theorem dX9_corner_460 : decode cX9_corner 460 = .ok (.iconst 0, 1) := by decide +kernel
theorem dX9_corner_461 : decode cX9_corner 461 = .ok (.istore 9, 2) := by decide +kernel
theorem dX9_corner_463 : decode cX9_corner 463 = .ok (.iload 9, 2) := by decide +kernel
theorem dX9_corner_465 : decode cX9_corner 465 = .ok (.aload_n 0, 1) := by decide +kernel
theorem dX9_corner_466 : decode cX9_corner 466 = .ok (.getfield 49, 3) := by decide +kernel
theorem dX9_corner_469 : decode cX9_corner 469 = .ok (.if_icmp .ge 34, 3) := by decide +kernel
theorem dX9_corner_472 : decode cX9_corner 472 = .ok (.iload_n 3, 1) := by decide +kernel
theorem dX9_corner_473 : decode cX9_corner 473 = .ok (.iload 9, 2) := by decide +kernel
theorem dX9_corner_475 : decode cX9_corner 475 = .ok (.ishr, 1) := by decide +kernel
theorem dX9_corner_476 : decode cX9_corner 476 = .ok (.iconst 1, 1) := by decide +kernel
theorem dX9_corner_477 : decode cX9_corner 477 = .ok (.iand, 1) := by decide +kernel
theorem dX9_corner_478 : decode cX9_corner 478 = .ok (.iconst 1, 1) := by decide +kernel
theorem dX9_corner_479 : decode cX9_corner 479 = .ok (.if_icmp .ne 18, 3) := by decide +kernel
theorem dX9_corner_482 : decode cX9_corner 482 = .ok (.aload_n 0, 1) := by decide +kernel
theorem dX9_corner_483 : decode cX9_corner 483 = .ok (.iload 9, 2) := by decide +kernel
theorem dX9_corner_485 : decode cX9_corner 485 = .ok (.aload_n 0, 1) := by decide +kernel
theorem dX9_corner_486 : decode cX9_corner 486 = .ok (.getfield 42, 3) := by decide +kernel
theorem dX9_corner_489 : decode cX9_corner 489 = .ok (.iconst 0, 1) := by decide +kernel
theorem dX9_corner_490 : decode cX9_corner 490 = .ok (.invokevirtual 146, 3) := by decide +kernel
theorem dX9_corner_493 : decode cX9_corner 493 = .ok (.ifCond .ne 4, 3) := by decide +kernel
theorem dX9_corner_496 : decode cX9_corner 496 = .ok (.return_, 1) := by decide +kernel
theorem dX9_corner_497 : decode cX9_corner 497 = .ok (.iinc 9 1, 3) := by decide +kernel
theorem dX9_corner_500 : decode cX9_corner 500 = .ok (.goto (-37), 3) := by decide +kernel
theorem dX9_corner_503 : decode cX9_corner 503 = .ok (.iconst 0, 1) := by decide +kernel
theorem dX9_corner_504 : decode cX9_corner 504 = .ok (.istore 9, 2) := by decide +kernel
theorem dX9_corner_506 : decode cX9_corner 506 = .ok (.iload 9, 2) := by decide +kernel
theorem dX9_corner_508 : decode cX9_corner 508 = .ok (.bipush 8, 2) := by decide +kernel
theorem dX9_corner_510 : decode cX9_corner 510 = .ok (.if_icmp .ge 31, 3) := by decide +kernel
theorem dX9_corner_513 : decode cX9_corner 513 = .ok (.aload_n 0, 1) := by decide +kernel
theorem dX9_corner_514 : decode cX9_corner 514 = .ok (.getfield 26, 3) := by decide +kernel
theorem dX9_corner_517 : decode cX9_corner 517 = .ok (.bipush 8, 2) := by decide +kernel
theorem dX9_corner_519 : decode cX9_corner 519 = .ok (.aload_n 0, 1) := by decide +kernel
theorem dX9_corner_520 : decode cX9_corner 520 = .ok (.getfield 150, 3) := by decide +kernel
theorem dX9_corner_523 : decode cX9_corner 523 = .ok (.imul, 1) := by decide +kernel
theorem dX9_corner_524 : decode cX9_corner 524 = .ok (.iload 9, 2) := by decide +kernel
theorem dX9_corner_526 : decode cX9_corner 526 = .ok (.iadd, 1) := by decide +kernel
theorem dX9_corner_527 : decode cX9_corner 527 = .ok (.aload_n 0, 1) := by decide +kernel
theorem dX9_corner_528 : decode cX9_corner 528 = .ok (.getfield 42, 3) := by decide +kernel
theorem dX9_corner_531 : decode cX9_corner 531 = .ok (.iload 9, 2) := by decide +kernel
theorem dX9_corner_533 : decode cX9_corner 533 = .ok (.laload, 1) := by decide +kernel
theorem dX9_corner_534 : decode cX9_corner 534 = .ok (.lastore, 1) := by decide +kernel
theorem dX9_corner_535 : decode cX9_corner 535 = .ok (.iinc 9 1, 3) := by decide +kernel
theorem dX9_corner_538 : decode cX9_corner 538 = .ok (.goto (-32), 3) := by decide +kernel
theorem dX9_corner_541 : decode cX9_corner 541 = .ok (.aload_n 0, 1) := by decide +kernel
theorem dX9_corner_542 : decode cX9_corner 542 = .ok (.getfield 30, 3) := by decide +kernel
theorem dX9_corner_545 : decode cX9_corner 545 = .ok (.aload_n 0, 1) := by decide +kernel
theorem dX9_corner_546 : decode cX9_corner 546 = .ok (.getfield 150, 3) := by decide +kernel
theorem dX9_corner_549 : decode cX9_corner 549 = .ok (.lload 7, 2) := by decide +kernel
theorem dX9_corner_551 : decode cX9_corner 551 = .ok (.lload 5, 2) := by decide +kernel
theorem dX9_corner_553 : decode cX9_corner 553 = .ok (.lmul, 1) := by decide +kernel
theorem dX9_corner_554 : decode cX9_corner 554 = .ok (.lastore, 1) := by decide +kernel
theorem dX9_corner_555 : decode cX9_corner 555 = .ok (.aload_n 0, 1) := by decide +kernel
theorem dX9_corner_556 : decode cX9_corner 556 = .ok (.dup, 1) := by decide +kernel
theorem dX9_corner_557 : decode cX9_corner 557 = .ok (.getfield 150, 3) := by decide +kernel
theorem dX9_corner_560 : decode cX9_corner 560 = .ok (.iconst 1, 1) := by decide +kernel
theorem dX9_corner_561 : decode cX9_corner 561 = .ok (.iadd, 1) := by decide +kernel
theorem dX9_corner_562 : decode cX9_corner 562 = .ok (.putfield 150, 3) := by decide +kernel
theorem dX9_corner_565 : decode cX9_corner 565 = .ok (.return_, 1) := by decide +kernel
theorem dX9_ones_0 : decode cX9_ones 0 = .ok (.iconst 0, 1) := by decide +kernel
theorem dX9_ones_1 : decode cX9_ones 1 = .ok (.istore_n 1, 1) := by decide +kernel
theorem dX9_ones_2 : decode cX9_ones 2 = .ok (.iconst 0, 1) := by decide +kernel
theorem dX9_ones_3 : decode cX9_ones 3 = .ok (.istore_n 2, 1) := by decide +kernel
theorem dX9_ones_4 : decode cX9_ones 4 = .ok (.iload_n 2, 1) := by decide +kernel
theorem dX9_ones_5 : decode cX9_ones 5 = .ok (.bipush 8, 2) := by decide +kernel
theorem dX9_ones_7 : decode cX9_ones 7 = .ok (.if_icmp .ge 17, 3) := by decide +kernel
theorem dX9_ones_10 : decode cX9_ones 10 = .ok (.iload_n 1, 1) := by decide +kernel
theorem dX9_ones_11 : decode cX9_ones 11 = .ok (.iload_n 0, 1) := by decide +kernel
theorem dX9_ones_12 : decode cX9_ones 12 = .ok (.iload_n 2, 1) := by decide +kernel
theorem dX9_ones_13 : decode cX9_ones 13 = .ok (.ishr, 1) := by decide +kernel
theorem dX9_ones_14 : decode cX9_ones 14 = .ok (.iconst 1, 1) := by decide +kernel
theorem dX9_ones_15 : decode cX9_ones 15 = .ok (.iand, 1) := by decide +kernel
theorem dX9_ones_16 : decode cX9_ones 16 = .ok (.iadd, 1) := by decide +kernel
theorem dX9_ones_17 : decode cX9_ones 17 = .ok (.istore_n 1, 1) := by decide +kernel
theorem dX9_ones_18 : decode cX9_ones 18 = .ok (.iinc 2 1, 3) := by decide +kernel
theorem dX9_ones_21 : decode cX9_ones 21 = .ok (.goto (-17), 3) := by decide +kernel
theorem dX9_ones_24 : decode cX9_ones 24 = .ok (.iload_n 1, 1) := by decide +kernel
theorem dX9_ones_25 : decode cX9_ones 25 = .ok (.ireturn, 1) := by decide +kernel
set_option maxRecDepth 20000 in
theorem ggX9_loads_X9_ones : GoodIn wsX9_loads wsX9_ones := goodIn_r _ [11] rfl (by decide +kernel)
set_option maxRecDepth 20000 in
theorem gX9_loads_X9_ones : GoodIn wsX9_loads (va_wsS RX9 156 yX9_ones wsX9_ones) := goodIn_app (goodIn_of _ (by decide +kernel)) ggX9_loads_X9_ones
set_option maxRecDepth 20000 in
theorem ggX9_loads_X9_corner : GoodIn wsX9_loads wsX9_corner := goodIn_r _ [15, 16, 7, 5, 17, 18, 6, 19, 4, 20, 21, 22, 23, 10, 24, 25, 26, 27, 28, 29, 3, 30, 31, 32, 33, 34, 35, 36, 37, 38, 39, 40, 41, 42, 43, 44, 45, 46, 47, 48, 49, 50, 51, 52, 53, 54, 55, 56, 57, 58, 59, 60, 61, 62] rfl (by decide +kernel)
set_option maxRecDepth 20000 in
theorem gX9_loads_X9_corner : GoodIn wsX9_loads (wsV RX9 159 RX9 yX9_corner wsX9_corner) := goodIn_app (goodIn_of _ (by decide +kernel)) ggX9_loads_X9_corner
theorem dX9_loads_0 : decode cX9_loads 0 = .ok (.aload_n 0, 1) := by decide +kernel
theorem dX9_loads_1 : decode cX9_loads 1 = .ok (.getfield 120, 3) := by decide +kernel
theorem dX9_loads_4 : decode cX9_loads 4 = .ok (.ifCond .eq 31, 3) := by decide +kernel
theorem dX9_loads_7 : decode cX9_loads 7 = .ok (.aload_n 0, 1) := by decide +kernel
theorem dX9_loads_8 : decode cX9_loads 8 = .ok (.getfield 153, 3) := by decide +kernel
theorem dX9_loads_11 : decode cX9_loads 11 = .ok (.iload_n 1, 1) := by decide +kernel
theorem dX9_loads_12 : decode cX9_loads 12 = .ok (.if_icmp .ne 23, 3) := by decide +kernel
theorem dX9_loads_15 : decode cX9_loads 15 = .ok (.aload_n 0, 1) := by decide +kernel
theorem dX9_loads_16 : decode cX9_loads 16 = .ok (.getfield 130, 3) := by decide +kernel
theorem dX9_loads_19 : decode cX9_loads 19 = .ok (.ifCond .ne 16, 3) := by decide +kernel
theorem dX9_loads_22 : decode cX9_loads 22 = .ok (.aload_n 0, 1) := by decide +kernel
theorem dX9_loads_23 : decode cX9_loads 23 = .ok (.getfield 150, 3) := by decide +kernel
theorem dX9_loads_26 : decode cX9_loads 26 = .ok (.ifCond .le 7, 3) := by decide +kernel
theorem dX9_loads_29 : decode cX9_loads 29 = .ok (.iconst 1, 1) := by decide +kernel
theorem dX9_loads_30 : decode cX9_loads 30 = .ok (.goto 4, 3) := by decide +kernel
theorem dX9_loads_33 : decode cX9_loads 33 = .ok (.iconst 0, 1) := by decide +kernel
theorem dX9_loads_34 : decode cX9_loads 34 = .ok (.ireturn, 1) := by decide +kernel
theorem dX9_loads_35 : decode cX9_loads 35 = .ok (.aload_n 0, 1) := by decide +kernel
theorem dX9_loads_36 : decode cX9_loads 36 = .ok (.aload_n 0, 1) := by decide +kernel
theorem dX9_loads_37 : decode cX9_loads 37 = .ok (.getfield 130, 3) := by decide +kernel
theorem dX9_loads_40 : decode cX9_loads 40 = .ok (.ifCond .ne 7, 3) := by decide +kernel
theorem dX9_loads_43 : decode cX9_loads 43 = .ok (.iconst 1, 1) := by decide +kernel
theorem dX9_loads_44 : decode cX9_loads 44 = .ok (.goto 4, 3) := by decide +kernel
theorem dX9_loads_47 : decode cX9_loads 47 = .ok (.iconst 0, 1) := by decide +kernel
theorem dX9_loads_48 : decode cX9_loads 48 = .ok (.putfield 120, 3) := by decide +kernel
theorem dX9_loads_51 : decode cX9_loads 51 = .ok (.aload_n 0, 1) := by decide +kernel
theorem dX9_loads_52 : decode cX9_loads 52 = .ok (.iload_n 1, 1) := by decide +kernel
theorem dX9_loads_53 : decode cX9_loads 53 = .ok (.putfield 153, 3) := by decide +kernel
theorem dX9_loads_56 : decode cX9_loads 56 = .ok (.aload_n 0, 1) := by decide +kernel
theorem dX9_loads_57 : decode cX9_loads 57 = .ok (.iconst 0, 1) := by decide +kernel
theorem dX9_loads_58 : decode cX9_loads 58 = .ok (.putfield 150, 3) := by decide +kernel
theorem dX9_loads_61 : decode cX9_loads 61 = .ok (.iconst 1, 1) := by decide +kernel
theorem dX9_loads_62 : decode cX9_loads 62 = .ok (.istore_n 2, 1) := by decide +kernel
theorem dX9_loads_63 : decode cX9_loads 63 = .ok (.iload_n 2, 1) := by decide +kernel
theorem dX9_loads_64 : decode cX9_loads 64 = .ok (.sipush 256, 3) := by decide +kernel
theorem dX9_loads_67 : decode cX9_loads 67 = .ok (.if_icmp .ge 178, 3) := by decide +kernel
theorem dX9_loads_70 : decode cX9_loads 70 = .ok (.iload_n 2, 1) := by decide +kernel
theorem dX9_loads_71 : decode cX9_loads 71 = .ok (.invokestatic 156, 3) := by decide +kernel
theorem dX9_loads_74 : decode cX9_loads 74 = .ok (.istore_n 3, 1) := by decide +kernel
theorem dX9_loads_75 : decode cX9_loads 75 = .ok (.iconst 0, 1) := by decide +kernel
theorem dX9_loads_76 : decode cX9_loads 76 = .ok (.istore 4, 2) := by decide +kernel
theorem dX9_loads_78 : decode cX9_loads 78 = .ok (.iconst 0, 1) := by decide +kernel
theorem dX9_loads_79 : decode cX9_loads 79 = .ok (.istore 5, 2) := by decide +kernel
theorem dX9_loads_81 : decode cX9_loads 81 = .ok (.iload 5, 2) := by decide +kernel
theorem dX9_loads_83 : decode cX9_loads 83 = .ok (.bipush 8, 2) := by decide +kernel
theorem dX9_loads_85 : decode cX9_loads 85 = .ok (.if_icmp .ge 37, 3) := by decide +kernel
theorem dX9_loads_88 : decode cX9_loads 88 = .ok (.iload_n 3, 1) := by decide +kernel
theorem dX9_loads_89 : decode cX9_loads 89 = .ok (.bipush 6, 2) := by decide +kernel
theorem dX9_loads_91 : decode cX9_loads 91 = .ok (.if_icmp .ge 31, 3) := by decide +kernel
theorem dX9_loads_94 : decode cX9_loads 94 = .ok (.iload_n 2, 1) := by decide +kernel
theorem dX9_loads_95 : decode cX9_loads 95 = .ok (.iload 5, 2) := by decide +kernel
theorem dX9_loads_97 : decode cX9_loads 97 = .ok (.ishr, 1) := by decide +kernel
theorem dX9_loads_98 : decode cX9_loads 98 = .ok (.iconst 1, 1) := by decide +kernel
theorem dX9_loads_99 : decode cX9_loads 99 = .ok (.iand, 1) := by decide +kernel
theorem dX9_loads_100 : decode cX9_loads 100 = .ok (.iconst 1, 1) := by decide +kernel
theorem dX9_loads_101 : decode cX9_loads 101 = .ok (.if_icmp .ne 15, 3) := by decide +kernel
theorem dX9_loads_104 : decode cX9_loads 104 = .ok (.aload_n 0, 1) := by decide +kernel
theorem dX9_loads_105 : decode cX9_loads 105 = .ok (.getfield 33, 3) := by decide +kernel
theorem dX9_loads_108 : decode cX9_loads 108 = .ok (.iload 4, 2) := by decide +kernel
theorem dX9_loads_110 : decode cX9_loads 110 = .ok (.iload 5, 2) := by decide +kernel
theorem dX9_loads_112 : decode cX9_loads 112 = .ok (.iastore, 1) := by decide +kernel
theorem dX9_loads_113 : decode cX9_loads 113 = .ok (.iinc 4 1, 3) := by decide +kernel
theorem dX9_loads_116 : decode cX9_loads 116 = .ok (.iinc 5 1, 3) := by decide +kernel
theorem dX9_loads_119 : decode cX9_loads 119 = .ok (.goto (-38), 3) := by decide +kernel
theorem dX9_loads_122 : decode cX9_loads 122 = .ok (.iconst 0, 1) := by decide +kernel
theorem dX9_loads_123 : decode cX9_loads 123 = .ok (.istore 5, 2) := by decide +kernel
theorem dX9_loads_125 : decode cX9_loads 125 = .ok (.iload 5, 2) := by decide +kernel
theorem dX9_loads_127 : decode cX9_loads 127 = .ok (.iconst 1, 1) := by decide +kernel
theorem dX9_loads_128 : decode cX9_loads 128 = .ok (.aload_n 0, 1) := by decide +kernel
theorem dX9_loads_129 : decode cX9_loads 129 = .ok (.getfield 49, 3) := by decide +kernel
theorem dX9_loads_132 : decode cX9_loads 132 = .ok (.ishl, 1) := by decide +kernel
theorem dX9_loads_133 : decode cX9_loads 133 = .ok (.if_icmp .ge 106, 3) := by decide +kernel
theorem dX9_loads_136 : decode cX9_loads 136 = .ok (.iload_n 3, 1) := by decide +kernel
theorem dX9_loads_137 : decode cX9_loads 137 = .ok (.bipush 6, 2) := by decide +kernel
theorem dX9_loads_139 : decode cX9_loads 139 = .ok (.if_icmp .ge 100, 3) := by decide +kernel
theorem dX9_loads_142 : decode cX9_loads 142 = .ok (.iload 5, 2) := by decide +kernel
theorem dX9_loads_144 : decode cX9_loads 144 = .ok (.iload_n 1, 1) := by decide +kernel
theorem dX9_loads_145 : decode cX9_loads 145 = .ok (.iconst (-1), 1) := by decide +kernel
theorem dX9_loads_146 : decode cX9_loads 146 = .ok (.ixor, 1) := by decide +kernel
theorem dX9_loads_147 : decode cX9_loads 147 = .ok (.iand, 1) := by decide +kernel
theorem dX9_loads_148 : decode cX9_loads 148 = .ok (.ifCond .ne 85, 3) := by decide +kernel
theorem dX9_loads_151 : decode cX9_loads 151 = .ok (.iload 5, 2) := by decide +kernel
theorem dX9_loads_153 : decode cX9_loads 153 = .ok (.invokestatic 156, 3) := by decide +kernel
theorem dX9_loads_156 : decode cX9_loads 156 = .ok (.iload_n 3, 1) := by decide +kernel
theorem dX9_loads_157 : decode cX9_loads 157 = .ok (.iconst 1, 1) := by decide +kernel
theorem dX9_loads_158 : decode cX9_loads 158 = .ok (.isub, 1) := by decide +kernel
theorem dX9_loads_159 : decode cX9_loads 159 = .ok (.if_icmp .ne 74, 3) := by decide +kernel
theorem dX9_loads_162 : decode cX9_loads 162 = .ok (.iconst 0, 1) := by decide +kernel
theorem dX9_loads_163 : decode cX9_loads 163 = .ok (.istore 6, 2) := by decide +kernel
theorem dX9_loads_165 : decode cX9_loads 165 = .ok (.iconst 0, 1) := by decide +kernel
theorem dX9_loads_166 : decode cX9_loads 166 = .ok (.istore 7, 2) := by decide +kernel
theorem dX9_loads_168 : decode cX9_loads 168 = .ok (.iload 7, 2) := by decide +kernel
theorem dX9_loads_170 : decode cX9_loads 170 = .ok (.aload_n 0, 1) := by decide +kernel
theorem dX9_loads_171 : decode cX9_loads 171 = .ok (.getfield 49, 3) := by decide +kernel
theorem dX9_loads_174 : decode cX9_loads 174 = .ok (.if_icmp .ge 32, 3) := by decide +kernel
theorem dX9_loads_177 : decode cX9_loads 177 = .ok (.iload 5, 2) := by decide +kernel
theorem dX9_loads_179 : decode cX9_loads 179 = .ok (.iload 7, 2) := by decide +kernel
theorem dX9_loads_181 : decode cX9_loads 181 = .ok (.ishr, 1) := by decide +kernel
theorem dX9_loads_182 : decode cX9_loads 182 = .ok (.iconst 1, 1) := by decide +kernel
theorem dX9_loads_183 : decode cX9_loads 183 = .ok (.iand, 1) := by decide +kernel
theorem dX9_loads_184 : decode cX9_loads 184 = .ok (.iconst 1, 1) := by decide +kernel
theorem dX9_loads_185 : decode cX9_loads 185 = .ok (.if_icmp .ne 15, 3) := by decide +kernel
theorem dX9_loads_188 : decode cX9_loads 188 = .ok (.aload_n 0, 1) := by decide +kernel
theorem dX9_loads_189 : decode cX9_loads 189 = .ok (.getfield 36, 3) := by decide +kernel
theorem dX9_loads_192 : decode cX9_loads 192 = .ok (.iload 6, 2) := by decide +kernel
theorem dX9_loads_194 : decode cX9_loads 194 = .ok (.iload 7, 2) := by decide +kernel
theorem dX9_loads_196 : decode cX9_loads 196 = .ok (.iastore, 1) := by decide +kernel
theorem dX9_loads_197 : decode cX9_loads 197 = .ok (.iinc 6 1, 3) := by decide +kernel
theorem dX9_loads_200 : decode cX9_loads 200 = .ok (.iinc 7 1, 3) := by decide +kernel
theorem dX9_loads_203 : decode cX9_loads 203 = .ok (.goto (-35), 3) := by decide +kernel
theorem dX9_loads_206 : decode cX9_loads 206 = .ok (.iconst 0, 1) := by decide +kernel
theorem dX9_loads_207 : decode cX9_loads 207 = .ok (.istore 7, 2) := by decide +kernel
