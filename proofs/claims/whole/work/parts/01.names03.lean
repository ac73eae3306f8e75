theorem dX2_rowsBy_135 : decode cX2_rowsBy 135 = .ok (.aload_n 0, 1) := by decide +kernel
theorem dX2_rowsBy_136 : decode cX2_rowsBy 136 = .ok (.getfield 15, 3) := by decide +kernel
theorem dX2_rowsBy_139 : decode cX2_rowsBy 139 = .ok (.iload 5, 2) := by decide +kernel
theorem dX2_rowsBy_141 : decode cX2_rowsBy 141 = .ok (.aaload, 1) := by decide +kernel
theorem dX2_rowsBy_142 : decode cX2_rowsBy 142 = .ok (.areturn, 1) := by decide +kernel
set_option maxRecDepth 20000 in
theorem ggX3_init_X6_init : GoodIn wsX3_init wsX6_init := goodIn_r _ [14, 15, 2, 3, 16, 20, 21, 22, 23, 24] (by decide +kernel) (by decide +kernel)
set_option maxRecDepth 20000 in
theorem gX3_init_X6_init : GoodIn wsX3_init (wsX6_init) := ggX3_init_X6_init
set_option maxRecDepth 20000 in
theorem ggX3_init_X4_init : GoodIn wsX3_init wsX4_init := goodIn_r _ [18, 19, 2, 3] (by decide +kernel) (by decide +kernel)
set_option maxRecDepth 20000 in
theorem gX3_init_X4_init_n26 : GoodIn wsX3_init (wsX4_init) := ggX3_init_X4_init
theorem dX3_init_0 : decode cX3_init 0 = .ok (.aload_n 0, 1) := by decide +kernel
theorem dX3_init_1 : decode cX3_init 1 = .ok (.invokespecial 3, 3) := by decide +kernel
theorem dX3_init_4 : decode cX3_init 4 = .ok (.aload_n 0, 1) := by decide +kernel
theorem dX3_init_5 : decode cX3_init 5 = .ok (.new 9, 3) := by decide +kernel
theorem dX3_init_8 : decode cX3_init 8 = .ok (.dup, 1) := by decide +kernel
theorem dX3_init_9 : decode cX3_init 9 = .ok (.aload_n 1, 1) := by decide +kernel
theorem dX3_init_10 : decode cX3_init 10 = .ok (.invokespecial 11, 3) := by decide +kernel
theorem dX3_init_13 : decode cX3_init 13 = .ok (.putfield 14, 3) := by decide +kernel
theorem dX3_init_16 : decode cX3_init 16 = .ok (.aload_n 0, 1) := by decide +kernel
theorem dX3_init_17 : decode cX3_init 17 = .ok (.iconst 4, 1) := by decide +kernel
theorem dX3_init_18 : decode cX3_init 18 = .ok (.anewarray 20, 3) := by decide +kernel
theorem dX3_init_21 : decode cX3_init 21 = .ok (.putfield 22, 3) := by decide +kernel
theorem dX3_init_24 : decode cX3_init 24 = .ok (.iconst 0, 1) := by decide +kernel
theorem dX3_init_25 : decode cX3_init 25 = .ok (.istore_n 2, 1) := by decide +kernel
theorem dX3_init_26 : decode cX3_init 26 = .ok (.iload_n 2, 1) := by decide +kernel
theorem dX3_init_27 : decode cX3_init 27 = .ok (.iconst 4, 1) := by decide +kernel
theorem dX3_init_28 : decode cX3_init 28 = .ok (.if_icmp .ge 22, 3) := by decide +kernel
theorem dX3_init_31 : decode cX3_init 31 = .ok (.aload_n 0, 1) := by decide +kernel
theorem dX3_init_32 : decode cX3_init 32 = .ok (.getfield 22, 3) := by decide +kernel
theorem dX3_init_35 : decode cX3_init 35 = .ok (.iload_n 2, 1) := by decide +kernel
theorem dX3_init_36 : decode cX3_init 36 = .ok (.new 20, 3) := by decide +kernel
theorem dX3_init_39 : decode cX3_init 39 = .ok (.dup, 1) := by decide +kernel
theorem dX3_init_40 : decode cX3_init 40 = .ok (.invokespecial 26, 3) := by decide +kernel
theorem dX3_init_43 : decode cX3_init 43 = .ok (.aastore, 1) := by decide +kernel
theorem dX3_init_44 : decode cX3_init 44 = .ok (.iinc 2 1, 3) := by decide +kernel
theorem dX3_init_47 : decode cX3_init 47 = .ok (.goto (-21), 3) := by decide +kernel
theorem dX3_init_50 : decode cX3_init 50 = .ok (.return_, 1) := by decide +kernel
set_option maxRecDepth 20000 in
theorem ggX3_start_X6_restart : GoodIn wsX3_start wsX6_restart := goodIn_r _ [8, 9, 10, 11, 12, 7, 13, 14, 15, 16, 17, 18, 19, 20, 21, 22, 23, 24, 25, 26, 27, 28, 29, 30, 31, 32, 33, 34, 35, 36, 37, 38, 39, 40, 41, 42, 43, 44, 45, 46, 47, 48, 49, 50, 51, 52, 53, 54, 55, 56, 57, 58, 59, 60, 61, 62, 63, 64, 65, 66, 67, 68, 69, 70, 71, 72, 73, 74, 75, 76, 77, 78, 79, 80, 81, 82, 83, 84, 85, 86, 87, 88, 89, 90, 91, 92, 93, 94, 95, 96, 97, 98, 99, 100, 101, 102, 103, 104, 105, 106, 107, 108, 109, 110, 111, 112, 113, 114, 115, 116, 117, 118, 119, 120, 121, 122, 123, 124, 125, 126, 127, 128, 129, 135, 136, 137, 138, 139, 140, 141] (by decide +kernel) (by decide +kernel)
set_option maxRecDepth 20000 in
theorem gX3_start_X6_restart : GoodIn wsX3_start (wsV RX3 34 RX6 yX6_restart wsX6_restart) := goodIn_app (goodIn_of _ (by decide +kernel)) ggX3_start_X6_restart
theorem dX3_start_0 : decode cX3_start 0 = .ok (.aload_n 0, 1) := by decide +kernel
theorem dX3_start_1 : decode cX3_start 1 = .ok (.iconst 0, 1) := by decide +kernel
theorem dX3_start_2 : decode cX3_start 2 = .ok (.putfield 27, 3) := by decide +kernel
theorem dX3_start_5 : decode cX3_start 5 = .ok (.aload_n 0, 1) := by decide +kernel
theorem dX3_start_6 : decode cX3_start 6 = .ok (.iconst (-1), 1) := by decide +kernel
theorem dX3_start_7 : decode cX3_start 7 = .ok (.putfield 31, 3) := by decide +kernel
theorem dX3_start_10 : decode cX3_start 10 = .ok (.aload_n 0, 1) := by decide +kernel
theorem dX3_start_11 : decode cX3_start 11 = .ok (.getfield 14, 3) := by decide +kernel
theorem dX3_start_14 : decode cX3_start 14 = .ok (.invokevirtual 34, 3) := by decide +kernel
theorem dX3_start_17 : decode cX3_start 17 = .ok (.return_, 1) := by decide +kernel
theorem dX3_isMore_0 : decode cX3_isMore 0 = .ok (.aload_n 0, 1) := by decide +kernel
theorem dX3_isMore_1 : decode cX3_isMore 1 = .ok (.getfield 31, 3) := by decide +kernel
theorem dX3_isMore_4 : decode cX3_isMore 4 = .ok (.ifCond .ge 17, 3) := by decide +kernel
theorem dX3_isMore_7 : decode cX3_isMore 7 = .ok (.aload_n 0, 1) := by decide +kernel
theorem dX3_isMore_8 : decode cX3_isMore 8 = .ok (.getfield 14, 3) := by decide +kernel
theorem dX3_isMore_11 : decode cX3_isMore 11 = .ok (.getfield 37, 3) := by decide +kernel
theorem dX3_isMore_14 : decode cX3_isMore 14 = .ok (.ifCond .eq 7, 3) := by decide +kernel
theorem dX3_isMore_17 : decode cX3_isMore 17 = .ok (.iconst 1, 1) := by decide +kernel
theorem dX3_isMore_18 : decode cX3_isMore 18 = .ok (.goto 4, 3) := by decide +kernel
theorem dX3_isMore_21 : decode cX3_isMore 21 = .ok (.iconst 0, 1) := by decide +kernel
theorem dX3_isMore_22 : decode cX3_isMore 22 = .ok (.ireturn, 1) := by decide +kernel
set_option maxRecDepth 20000 in
theorem ggX3_readSaying_X3_fail : GoodIn wsX3_readSaying wsX3_fail := goodIn_r _ [9, 10, 4, 157, 158, 159, 160, 161, 167, 168, 169, 170, 171] (by decide +kernel) (by decide +kernel)
set_option maxRecDepth 20000 in
theorem gX3_readSaying_X3_fail : GoodIn wsX3_readSaying (wsV RX3 40 RX3 yX3_fail wsX3_fail) := goodIn_app (goodIn_of _ (by decide +kernel)) ggX3_readSaying_X3_fail
set_option maxRecDepth 20000 in
theorem ggX3_readSaying_X3_readFormula : GoodIn wsX3_readSaying wsX3_readFormula := goodIn_r _ [14, 4, 15, 16, 17, 8, 18, 19, 20, 21, 10, 22, 23, 24, 25, 26, 27, 28, 29, 30, 31, 32, 33, 34, 35, 36, 37, 38, 39, 40, 41, 42, 43, 44, 45, 46, 47, 48, 49, 50, 51, 52, 53, 54, 55, 56, 57, 58, 59, 60, 61, 62, 63, 64, 65, 66, 67, 68, 69, 70, 71, 72, 73, 74, 75, 76, 77, 78, 79, 80, 81, 82, 83, 84, 85, 86, 87, 88, 89, 90, 91, 92, 93, 94, 95, 96, 97, 98, 99, 100, 101, 102, 103, 104, 105, 106, 107, 108, 109, 110, 111, 112, 113, 114, 115, 116, 117, 118, 119, 120, 121, 122, 123, 124, 125, 126, 127, 128, 129, 130, 131, 132, 133, 134, 135, 136, 137, 138, 139, 140, 141, 142, 143, 144, 3, 145, 146, 147, 11, 12, 13, 5, 6, 7, 9, 148, 157, 158, 159, 160, 161, 167, 168, 169, 170, 171, 172, 173] (by decide +kernel) (by decide +kernel)
set_option maxRecDepth 20000 in
theorem gX3_readSaying_X3_readFormula : GoodIn wsX3_readSaying (wsV RX3 46 RX3 yX3_readFormula wsX3_readFormula) := goodIn_app (goodIn_of _ (by decide +kernel)) ggX3_readSaying_X3_readFormula
set_option maxRecDepth 20000 in
theorem ggX3_readSaying_X3_isAt : GoodIn wsX3_readSaying wsX3_isAt := goodIn_r _ [21, 10, 4, 157, 158, 159, 160, 161, 167, 168, 169, 170, 171] (by decide +kernel) (by decide +kernel)
set_option maxRecDepth 20000 in
theorem gX3_readSaying_X3_isAt : GoodIn wsX3_readSaying (wsV RX3 56 RX3 yX3_isAt wsX3_isAt) := goodIn_app (goodIn_of _ (by decide +kernel)) ggX3_readSaying_X3_isAt
set_option maxRecDepth 20000 in
theorem ggX3_readSaying_X6_step : GoodIn wsX3_readSaying wsX6_step := goodIn_r _ [26, 27, 28, 29, 30, 31, 32, 33, 34, 35, 36, 37, 38, 39, 25, 40, 41, 42, 43, 44, 45, 46, 47, 48, 49, 50, 51, 52, 53, 54, 55, 56, 57, 58, 59, 60, 61, 62, 63, 64, 65, 66, 67, 68, 69, 70, 71, 72, 73, 74, 75, 76, 77, 78, 79, 80, 81, 82, 83, 84, 85, 86, 87, 88, 89, 90, 91, 92, 93, 94, 95, 96, 97, 98, 99, 100, 101, 102, 103, 104, 105, 106, 107, 108, 109, 110, 111, 112, 113, 114, 115, 116, 117, 118, 119, 120, 121, 122, 123, 124, 125, 126, 127, 128, 129, 130, 131, 132, 133, 134, 135, 136, 137, 138, 139, 140, 141, 142, 143, 167, 168, 169, 170, 171, 172, 173] (by decide +kernel) (by decide +kernel)
set_option maxRecDepth 20000 in
theorem gX3_readSaying_X6_step : GoodIn wsX3_readSaying (wsV RX3 60 RX6 yX6_step wsX6_step) := goodIn_app (goodIn_of _ (by decide +kernel)) ggX3_readSaying_X6_step
set_option maxRecDepth 20000 in
theorem ggX3_readSaying_X3_readHundredths : GoodIn wsX3_readSaying wsX3_readHundredths := goodIn_r _ [152, 4, 18, 19, 20, 8, 21, 10, 22, 23, 24, 25, 26, 27, 28, 29, 30, 31, 32, 33, 34, 35, 36, 37, 38, 39, 40, 41, 42, 43, 44, 45, 46, 47, 48, 49, 50, 51, 52, 53, 54, 55, 56, 57, 58, 59, 60, 61, 62, 63, 64, 65, 66, 67, 68, 69, 70, 71, 72, 73, 74, 75, 76, 77, 78, 79, 80, 81, 82, 83, 84, 85, 86, 87, 88, 89, 90, 91, 92, 93, 94, 95, 96, 97, 98, 99, 100, 101, 102, 103, 104, 105, 106, 107, 108, 109, 110, 111, 112, 113, 114, 115, 116, 117, 118, 119, 120, 121, 122, 123, 124, 125, 126, 127, 128, 129, 130, 131, 132, 133, 134, 135, 136, 137, 138, 139, 140, 141, 142, 143, 5, 6, 7, 9, 157, 158, 159, 160, 161, 167, 168, 169, 170, 171, 172, 173] (by decide +kernel) (by decide +kernel)
set_option maxRecDepth 20000 in
theorem gX3_readSaying_X3_readHundredths : GoodIn wsX3_readSaying (wsV RX3 63 RX3 yX3_readHundredths wsX3_readHundredths) := goodIn_app (goodIn_of _ (by decide +kernel)) ggX3_readSaying_X3_readHundredths
set_option maxRecDepth 20000 in
theorem ggX3_readSaying_X3_expect : GoodIn wsX3_readSaying wsX3_expect := goodIn_r _ [156, 4, 18, 19, 20, 8, 21, 10, 22, 23, 24, 25, 26, 27, 28, 29, 30, 31, 32, 33, 34, 35, 36, 37, 38, 39, 40, 41, 42, 43, 44, 45, 46, 47, 48, 49, 50, 51, 52, 53, 54, 55, 56, 57, 58, 59, 60, 61, 62, 63, 64, 65, 66, 67, 68, 69, 70, 71, 72, 73, 74, 75, 76, 77, 78, 79, 80, 81, 82, 83, 84, 85, 86, 87, 88, 89, 90, 91, 92, 93, 94, 95, 96, 97, 98, 99, 100, 101, 102, 103, 104, 105, 106, 107, 108, 109, 110, 111, 112, 113, 114, 115, 116, 117, 118, 119, 120, 121, 122, 123, 124, 125, 126, 127, 128, 129, 130, 131, 132, 133, 134, 135, 136, 137, 138, 139, 140, 141, 142, 143, 5, 6, 7, 9, 157, 158, 159, 160, 161, 167, 168, 169, 170, 171, 172, 173] (by decide +kernel) (by decide +kernel)
set_option maxRecDepth 20000 in
theorem gX3_readSaying_X3_expect : GoodIn wsX3_readSaying (wsV RX3 69 RX3 yX3_expect wsX3_expect) := goodIn_app (goodIn_of _ (by decide +kernel)) ggX3_readSaying_X3_expect
theorem dX3_readSaying_0 : decode cX3_readSaying 0 = .ok (.aload_n 0, 1) := by decide +kernel
theorem dX3_readSaying_1 : decode cX3_readSaying 1 = .ok (.getfield 27, 3) := by decide +kernel
theorem dX3_readSaying_4 : decode cX3_readSaying 4 = .ok (.iconst 4, 1) := by decide +kernel
theorem dX3_readSaying_5 : decode cX3_readSaying 5 = .ok (.if_icmp .lt 8, 3) := by decide +kernel
theorem dX3_readSaying_8 : decode cX3_readSaying 8 = .ok (.aload_n 0, 1) := by decide +kernel
theorem dX3_readSaying_9 : decode cX3_readSaying 9 = .ok (.invokevirtual 40, 3) := by decide +kernel
theorem dX3_readSaying_12 : decode cX3_readSaying 12 = .ok (.return_, 1) := by decide +kernel
theorem dX3_readSaying_13 : decode cX3_readSaying 13 = .ok (.aload_n 0, 1) := by decide +kernel
theorem dX3_readSaying_14 : decode cX3_readSaying 14 = .ok (.getfield 22, 3) := by decide +kernel
theorem dX3_readSaying_17 : decode cX3_readSaying 17 = .ok (.aload_n 0, 1) := by decide +kernel
theorem dX3_readSaying_18 : decode cX3_readSaying 18 = .ok (.getfield 27, 3) := by decide +kernel
theorem dX3_readSaying_21 : decode cX3_readSaying 21 = .ok (.aaload, 1) := by decide +kernel
theorem dX3_readSaying_22 : decode cX3_readSaying 22 = .ok (.astore_n 1, 1) := by decide +kernel
theorem dX3_readSaying_23 : decode cX3_readSaying 23 = .ok (.aload_n 0, 1) := by decide +kernel
theorem dX3_readSaying_24 : decode cX3_readSaying 24 = .ok (.iconst 0, 1) := by decide +kernel
theorem dX3_readSaying_25 : decode cX3_readSaying 25 = .ok (.putfield 43, 3) := by decide +kernel
theorem dX3_readSaying_28 : decode cX3_readSaying 28 = .ok (.aload_n 1, 1) := by decide +kernel
theorem dX3_readSaying_29 : decode cX3_readSaying 29 = .ok (.aload_n 0, 1) := by decide +kernel
theorem dX3_readSaying_30 : decode cX3_readSaying 30 = .ok (.iconst 0, 1) := by decide +kernel
theorem dX3_readSaying_31 : decode cX3_readSaying 31 = .ok (.invokevirtual 46, 3) := by decide +kernel
theorem dX3_readSaying_34 : decode cX3_readSaying 34 = .ok (.putfield 50, 3) := by decide +kernel
theorem dX3_readSaying_37 : decode cX3_readSaying 37 = .ok (.aload_n 1, 1) := by decide +kernel
theorem dX3_readSaying_38 : decode cX3_readSaying 38 = .ok (.sipush 255, 3) := by decide +kernel
theorem dX3_readSaying_41 : decode cX3_readSaying 41 = .ok (.putfield 53, 3) := by decide +kernel
theorem dX3_readSaying_44 : decode cX3_readSaying 44 = .ok (.aload_n 0, 1) := by decide +kernel
theorem dX3_readSaying_45 : decode cX3_readSaying 45 = .ok (.iconst 2, 1) := by decide +kernel
theorem dX3_readSaying_46 : decode cX3_readSaying 46 = .ok (.invokevirtual 56, 3) := by decide +kernel
theorem dX3_readSaying_49 : decode cX3_readSaying 49 = .ok (.ifCond .eq 24, 3) := by decide +kernel
theorem dX3_readSaying_52 : decode cX3_readSaying 52 = .ok (.aload_n 0, 1) := by decide +kernel
theorem dX3_readSaying_53 : decode cX3_readSaying 53 = .ok (.getfield 14, 3) := by decide +kernel
theorem dX3_readSaying_56 : decode cX3_readSaying 56 = .ok (.invokevirtual 60, 3) := by decide +kernel
theorem dX3_readSaying_59 : decode cX3_readSaying 59 = .ok (.aload_n 0, 1) := by decide +kernel
theorem dX3_readSaying_60 : decode cX3_readSaying 60 = .ok (.iconst 0, 1) := by decide +kernel
theorem dX3_readSaying_61 : decode cX3_readSaying 61 = .ok (.putfield 43, 3) := by decide +kernel
theorem dX3_readSaying_64 : decode cX3_readSaying 64 = .ok (.aload_n 1, 1) := by decide +kernel
theorem dX3_readSaying_65 : decode cX3_readSaying 65 = .ok (.aload_n 0, 1) := by decide +kernel
theorem dX3_readSaying_66 : decode cX3_readSaying 66 = .ok (.iconst 0, 1) := by decide +kernel
theorem dX3_readSaying_67 : decode cX3_readSaying 67 = .ok (.invokevirtual 46, 3) := by decide +kernel
theorem dX3_readSaying_70 : decode cX3_readSaying 70 = .ok (.putfield 53, 3) := by decide +kernel
theorem dX3_readSaying_73 : decode cX3_readSaying 73 = .ok (.aload_n 1, 1) := by decide +kernel
theorem dX3_readSaying_74 : decode cX3_readSaying 74 = .ok (.aload_n 0, 1) := by decide +kernel
theorem dX3_readSaying_75 : decode cX3_readSaying 75 = .ok (.iconst 0, 1) := by decide +kernel
theorem dX3_readSaying_76 : decode cX3_readSaying 76 = .ok (.invokevirtual 63, 3) := by decide +kernel
theorem dX3_readSaying_79 : decode cX3_readSaying 79 = .ok (.putfield 66, 3) := by decide +kernel
theorem dX3_readSaying_82 : decode cX3_readSaying 82 = .ok (.aload_n 0, 1) := by decide +kernel
theorem dX3_readSaying_83 : decode cX3_readSaying 83 = .ok (.bipush 45, 2) := by decide +kernel
theorem dX3_readSaying_85 : decode cX3_readSaying 85 = .ok (.invokevirtual 69, 3) := by decide +kernel
theorem dX3_readSaying_88 : decode cX3_readSaying 88 = .ok (.aload_n 1, 1) := by decide +kernel
theorem dX3_readSaying_89 : decode cX3_readSaying 89 = .ok (.aload_n 0, 1) := by decide +kernel
theorem dX3_readSaying_90 : decode cX3_readSaying 90 = .ok (.aload_n 1, 1) := by decide +kernel
theorem dX3_readSaying_91 : decode cX3_readSaying 91 = .ok (.getfield 66, 3) := by decide +kernel
theorem dX3_readSaying_94 : decode cX3_readSaying 94 = .ok (.invokevirtual 63, 3) := by decide +kernel
theorem dX3_readSaying_97 : decode cX3_readSaying 97 = .ok (.putfield 73, 3) := by decide +kernel
theorem dX3_readSaying_100 : decode cX3_readSaying 100 = .ok (.aload_n 0, 1) := by decide +kernel
theorem dX3_readSaying_101 : decode cX3_readSaying 101 = .ok (.bipush 59, 2) := by decide +kernel
theorem dX3_readSaying_103 : decode cX3_readSaying 103 = .ok (.invokevirtual 69, 3) := by decide +kernel
theorem dX3_readSaying_106 : decode cX3_readSaying 106 = .ok (.aload_n 1, 1) := by decide +kernel
theorem dX3_readSaying_107 : decode cX3_readSaying 107 = .ok (.iconst 1, 1) := by decide +kernel
theorem dX3_readSaying_108 : decode cX3_readSaying 108 = .ok (.putfield 76, 3) := by decide +kernel
theorem dX3_readSaying_111 : decode cX3_readSaying 111 = .ok (.aload_n 0, 1) := by decide +kernel
theorem dX3_readSaying_112 : decode cX3_readSaying 112 = .ok (.dup, 1) := by decide +kernel
theorem dX3_readSaying_113 : decode cX3_readSaying 113 = .ok (.getfield 27, 3) := by decide +kernel
theorem dX3_readSaying_116 : decode cX3_readSaying 116 = .ok (.iconst 1, 1) := by decide +kernel
theorem dX3_readSaying_117 : decode cX3_readSaying 117 = .ok (.iadd, 1) := by decide +kernel
theorem dX3_readSaying_118 : decode cX3_readSaying 118 = .ok (.putfield 27, 3) := by decide +kernel
theorem dX3_readSaying_121 : decode cX3_readSaying 121 = .ok (.return_, 1) := by decide +kernel
set_option maxRecDepth 20000 in
theorem ggX3_readFormula_X3_readPart : GoodIn wsX3_readFormula wsX3_readPart := goodIn_r _ [145, 1, 135, 136, 137, 5, 6, 7, 8, 9, 10, 11, 12, 13, 14, 15, 16, 17, 18, 19, 20, 21, 22, 23, 24, 25, 26, 27, 28, 29, 30, 31, 32, 33, 34, 35, 36, 37, 38, 39, 40, 41, 42, 43, 44, 45, 46, 47, 48, 49, 50, 51, 52, 53, 54, 55, 56, 57, 58, 59, 60, 61, 62, 63, 64, 65, 66, 67, 68, 69, 70, 71, 72, 73, 74, 75, 76, 77, 78, 79, 80, 81, 82, 83, 84, 85, 86, 87, 88, 89, 90, 91, 92, 93, 94, 95, 96, 97, 98, 99, 100, 101, 102, 103, 104, 105, 106, 107, 108, 109, 110, 111, 112, 113, 114, 115, 116, 117, 118, 119, 120, 121, 122, 123, 124, 125, 126, 127, 128, 129, 130, 131, 132, 133, 134, 138, 139, 140, 141, 142, 143, 144, 0, 2, 3, 4, 146, 147, 148, 149, 150, 151, 152, 153, 154, 155, 156, 157] (by decide +kernel) (by decide +kernel)
set_option maxRecDepth 20000 in
theorem gX3_readFormula_X3_readPart : GoodIn wsX3_readFormula (wsV RX3 79 RX3 yX3_readPart wsX3_readPart) := goodIn_app (goodIn_of _ (by decide +kernel)) ggX3_readFormula_X3_readPart
set_option maxRecDepth 20000 in
theorem ggX3_readFormula_X3_isAt : GoodIn wsX3_readFormula wsX3_isAt := goodIn_r _ [9, 10, 1, 146, 147, 148, 149, 150, 151, 152, 153, 154, 155] (by decide +kernel) (by decide +kernel)
set_option maxRecDepth 20000 in
theorem gX3_readFormula_X3_isAt : GoodIn wsX3_readFormula (wsV RX3 56 RX3 yX3_isAt wsX3_isAt) := goodIn_app (goodIn_of _ (by decide +kernel)) ggX3_readFormula_X3_isAt
set_option maxRecDepth 20000 in
theorem ggX3_readFormula_X6_step : GoodIn wsX3_readFormula wsX6_step := goodIn_r _ [15, 16, 17, 18, 19, 20, 21, 22, 23, 24, 25, 26, 27, 28, 14, 29, 30, 31, 32, 33, 34, 35, 36, 37, 38, 39, 40, 41, 42, 43, 44, 45, 46, 47, 48, 49, 50, 51, 52, 53, 54, 55, 56, 57, 58, 59, 60, 61, 62, 63, 64, 65, 66, 67, 68, 69, 70, 71, 72, 73, 74, 75, 76, 77, 78, 79, 80, 81, 82, 83, 84, 85, 86, 87, 88, 89, 90, 91, 92, 93, 94, 95, 96, 97, 98, 99, 100, 101, 102, 103, 104, 105, 106, 107, 108, 109, 110, 111, 112, 113, 114, 115, 116, 117, 118, 119, 120, 121, 122, 123, 124, 125, 126, 127, 128, 129, 130, 131, 132, 151, 152, 153, 154, 155, 156, 157] (by decide +kernel) (by decide +kernel)
set_option maxRecDepth 20000 in
theorem gX3_readFormula_X6_step : GoodIn wsX3_readFormula (wsV RX3 60 RX6 yX6_step wsX6_step) := goodIn_app (goodIn_of _ (by decide +kernel)) ggX3_readFormula_X6_step
theorem dX3_readFormula_0 : decode cX3_readFormula 0 = .ok (.aload_n 0, 1) := by decide +kernel
theorem dX3_readFormula_1 : decode cX3_readFormula 1 = .ok (.iload_n 1, 1) := by decide +kernel
theorem dX3_readFormula_2 : decode cX3_readFormula 2 = .ok (.invokevirtual 79, 3) := by decide +kernel
theorem dX3_readFormula_5 : decode cX3_readFormula 5 = .ok (.istore_n 2, 1) := by decide +kernel
theorem dX3_readFormula_6 : decode cX3_readFormula 6 = .ok (.iconst 0, 1) := by decide +kernel
theorem dX3_readFormula_7 : decode cX3_readFormula 7 = .ok (.istore_n 3, 1) := by decide +kernel
theorem dX3_readFormula_8 : decode cX3_readFormula 8 = .ok (.iload_n 3, 1) := by decide +kernel
theorem dX3_readFormula_9 : decode cX3_readFormula 9 = .ok (.sipush 200, 3) := by decide +kernel
theorem dX3_readFormula_12 : decode cX3_readFormula 12 = .ok (.if_icmp .ge 33, 3) := by decide +kernel
theorem dX3_readFormula_15 : decode cX3_readFormula 15 = .ok (.aload_n 0, 1) := by decide +kernel
theorem dX3_readFormula_16 : decode cX3_readFormula 16 = .ok (.bipush 124, 2) := by decide +kernel
theorem dX3_readFormula_18 : decode cX3_readFormula 18 = .ok (.invokevirtual 56, 3) := by decide +kernel
theorem dX3_readFormula_21 : decode cX3_readFormula 21 = .ok (.ifCond .eq 24, 3) := by decide +kernel
theorem dX3_readFormula_24 : decode cX3_readFormula 24 = .ok (.aload_n 0, 1) := by decide +kernel
theorem dX3_readFormula_25 : decode cX3_readFormula 25 = .ok (.getfield 14, 3) := by decide +kernel
theorem dX3_readFormula_28 : decode cX3_readFormula 28 = .ok (.invokevirtual 60, 3) := by decide +kernel
theorem dX3_readFormula_31 : decode cX3_readFormula 31 = .ok (.iload_n 2, 1) := by decide +kernel
theorem dX3_readFormula_32 : decode cX3_readFormula 32 = .ok (.aload_n 0, 1) := by decide +kernel
theorem dX3_readFormula_33 : decode cX3_readFormula 33 = .ok (.iload_n 1, 1) := by decide +kernel
theorem dX3_readFormula_34 : decode cX3_readFormula 34 = .ok (.invokevirtual 79, 3) := by decide +kernel
theorem dX3_readFormula_37 : decode cX3_readFormula 37 = .ok (.ior, 1) := by decide +kernel
theorem dX3_readFormula_38 : decode cX3_readFormula 38 = .ok (.istore_n 2, 1) := by decide +kernel
theorem dX3_readFormula_39 : decode cX3_readFormula 39 = .ok (.iinc 3 1, 3) := by decide +kernel
theorem dX3_readFormula_42 : decode cX3_readFormula 42 = .ok (.goto (-34), 3) := by decide +kernel
theorem dX3_readFormula_45 : decode cX3_readFormula 45 = .ok (.iload_n 2, 1) := by decide +kernel
theorem dX3_readFormula_46 : decode cX3_readFormula 46 = .ok (.ireturn, 1) := by decide +kernel
set_option maxRecDepth 20000 in
theorem ggX3_readPart_X3_readFactor : GoodIn wsX3_readPart wsX3_readFactor := goodIn_r _ [133, 134, 1, 6, 7, 8, 5, 9, 10, 11, 12, 13, 14, 15, 16, 17, 18, 19, 20, 21, 22, 23, 24, 25, 26, 27, 28, 29, 30, 31, 32, 33, 34, 35, 36, 37, 38, 39, 40, 41, 42, 43, 44, 45, 46, 47, 48, 49, 50, 51, 52, 53, 54, 55, 56, 57, 58, 59, 60, 61, 62, 63, 64, 65, 66, 67, 68, 69, 70, 71, 72, 73, 74, 75, 76, 77, 78, 79, 80, 81, 82, 83, 84, 85, 86, 87, 88, 89, 90, 91, 92, 93, 94, 95, 96, 97, 98, 99, 100, 101, 102, 103, 104, 105, 106, 107, 108, 109, 110, 111, 112, 113, 114, 115, 116, 117, 118, 119, 120, 121, 122, 123, 124, 125, 126, 127, 128, 129, 130, 131, 132, 2, 3, 4, 135, 136, 137, 138, 139, 140, 141, 142, 143, 144, 145, 0, 146, 147, 148, 149, 150, 151, 152, 153, 154, 155, 156, 157] (by decide +kernel) (by decide +kernel)
set_option maxRecDepth 20000 in
theorem gX3_readPart_X3_readFactor : GoodIn wsX3_readPart (wsV RX3 84 RX3 yX3_readFactor wsX3_readFactor) := goodIn_app (goodIn_of _ (by decide +kernel)) ggX3_readPart_X3_readFactor
set_option maxRecDepth 20000 in
theorem ggX3_readPart_X3_isAt : GoodIn wsX3_readPart wsX3_isAt := goodIn_r _ [9, 10, 1, 146, 147, 148, 149, 150, 151, 152, 153, 154, 155] (by decide +kernel) (by decide +kernel)
set_option maxRecDepth 20000 in
theorem gX3_readPart_X3_isAt : GoodIn wsX3_readPart (wsV RX3 56 RX3 yX3_isAt wsX3_isAt) := goodIn_app (goodIn_of _ (by decide +kernel)) ggX3_readPart_X3_isAt
set_option maxRecDepth 20000 in
theorem ggX3_readPart_X6_step : GoodIn wsX3_readPart wsX6_step := goodIn_r _ [15, 16, 17, 18, 19, 20, 21, 22, 23, 24, 25, 26, 27, 28, 14, 29, 30, 31, 32, 33, 34, 35, 36, 37, 38, 39, 40, 41, 42, 43, 44, 45, 46, 47, 48, 49, 50, 51, 52, 53, 54, 55, 56, 57, 58, 59, 60, 61, 62, 63, 64, 65, 66, 67, 68, 69, 70, 71, 72, 73, 74, 75, 76, 77, 78, 79, 80, 81, 82, 83, 84, 85, 86, 87, 88, 89, 90, 91, 92, 93, 94, 95, 96, 97, 98, 99, 100, 101, 102, 103, 104, 105, 106, 107, 108, 109, 110, 111, 112, 113, 114, 115, 116, 117, 118, 119, 120, 121, 122, 123, 124, 125, 126, 127, 128, 129, 130, 131, 132, 151, 152, 153, 154, 155, 156, 157] (by decide +kernel) (by decide +kernel)
set_option maxRecDepth 20000 in
theorem gX3_readPart_X6_step : GoodIn wsX3_readPart (wsV RX3 60 RX6 yX6_step wsX6_step) := goodIn_app (goodIn_of _ (by decide +kernel)) ggX3_readPart_X6_step
theorem dX3_readPart_0 : decode cX3_readPart 0 = .ok (.aload_n 0, 1) := by decide +kernel
theorem dX3_readPart_1 : decode cX3_readPart 1 = .ok (.iload_n 1, 1) := by decide +kernel
theorem dX3_readPart_2 : decode cX3_readPart 2 = .ok (.invokevirtual 84, 3) := by decide +kernel
theorem dX3_readPart_5 : decode cX3_readPart 5 = .ok (.istore_n 2, 1) := by decide +kernel
theorem dX3_readPart_6 : decode cX3_readPart 6 = .ok (.iconst 0, 1) := by decide +kernel
theorem dX3_readPart_7 : decode cX3_readPart 7 = .ok (.istore_n 3, 1) := by decide +kernel
theorem dX3_readPart_8 : decode cX3_readPart 8 = .ok (.iload_n 3, 1) := by decide +kernel
theorem dX3_readPart_9 : decode cX3_readPart 9 = .ok (.sipush 200, 3) := by decide +kernel
theorem dX3_readPart_12 : decode cX3_readPart 12 = .ok (.if_icmp .ge 33, 3) := by decide +kernel
theorem dX3_readPart_15 : decode cX3_readPart 15 = .ok (.aload_n 0, 1) := by decide +kernel
theorem dX3_readPart_16 : decode cX3_readPart 16 = .ok (.bipush 38, 2) := by decide +kernel
theorem dX3_readPart_18 : decode cX3_readPart 18 = .ok (.invokevirtual 56, 3) := by decide +kernel
theorem dX3_readPart_21 : decode cX3_readPart 21 = .ok (.ifCond .eq 24, 3) := by decide +kernel
theorem dX3_readPart_24 : decode cX3_readPart 24 = .ok (.aload_n 0, 1) := by decide +kernel
theorem dX3_readPart_25 : decode cX3_readPart 25 = .ok (.getfield 14, 3) := by decide +kernel
theorem dX3_readPart_28 : decode cX3_readPart 28 = .ok (.invokevirtual 60, 3) := by decide +kernel
theorem dX3_readPart_31 : decode cX3_readPart 31 = .ok (.iload_n 2, 1) := by decide +kernel
theorem dX3_readPart_32 : decode cX3_readPart 32 = .ok (.aload_n 0, 1) := by decide +kernel
theorem dX3_readPart_33 : decode cX3_readPart 33 = .ok (.iload_n 1, 1) := by decide +kernel
theorem dX3_readPart_34 : decode cX3_readPart 34 = .ok (.invokevirtual 84, 3) := by decide +kernel
theorem dX3_readPart_37 : decode cX3_readPart 37 = .ok (.iand, 1) := by decide +kernel
theorem dX3_readPart_38 : decode cX3_readPart 38 = .ok (.istore_n 2, 1) := by decide +kernel
theorem dX3_readPart_39 : decode cX3_readPart 39 = .ok (.iinc 3 1, 3) := by decide +kernel
theorem dX3_readPart_42 : decode cX3_readPart 42 = .ok (.goto (-34), 3) := by decide +kernel
theorem dX3_readPart_45 : decode cX3_readPart 45 = .ok (.iload_n 2, 1) := by decide +kernel
theorem dX3_readPart_46 : decode cX3_readPart 46 = .ok (.ireturn, 1) := by decide +kernel
set_option maxRecDepth 20000 in
theorem ggX3_readFactor_X3_isAt : GoodIn wsX3_readFactor wsX3_isAt := goodIn_r _ [7, 8, 2, 146, 147, 148, 149, 150, 151, 152, 153, 154, 155] (by decide +kernel) (by decide +kernel)
set_option maxRecDepth 20000 in
theorem gX3_readFactor_X3_isAt : GoodIn wsX3_readFactor (wsV RX3 56 RX3 yX3_isAt wsX3_isAt) := goodIn_app (goodIn_of _ (by decide +kernel)) ggX3_readFactor_X3_isAt
set_option maxRecDepth 20000 in
theorem ggX3_readFactor_X6_step : GoodIn wsX3_readFactor wsX6_step := goodIn_r _ [13, 14, 15, 16, 17, 18, 19, 20, 21, 22, 23, 24, 25, 26, 12, 27, 28, 29, 30, 31, 32, 33, 34, 35, 36, 37, 38, 39, 40, 41, 42, 43, 44, 45, 46, 47, 48, 49, 50, 51, 52, 53, 54, 55, 56, 57, 58, 59, 60, 61, 62, 63, 64, 65, 66, 67, 68, 69, 70, 71, 72, 73, 74, 75, 76, 77, 78, 79, 80, 81, 82, 83, 84, 85, 86, 87, 88, 89, 90, 91, 92, 93, 94, 95, 96, 97, 98, 99, 100, 101, 102, 103, 104, 105, 106, 107, 108, 109, 110, 111, 112, 113, 114, 115, 116, 117, 118, 119, 120, 121, 122, 123, 124, 125, 126, 127, 128, 129, 130, 151, 152, 153, 154, 155, 156, 157] (by decide +kernel) (by decide +kernel)
set_option maxRecDepth 20000 in
theorem gX3_readFactor_X6_step : GoodIn wsX3_readFactor (wsV RX3 60 RX6 yX6_step wsX6_step) := goodIn_app (goodIn_of _ (by decide +kernel)) ggX3_readFactor_X6_step
set_option maxRecDepth 20000 in
theorem ggX3_readFactor_X3_readFactor : GoodIn wsX3_readFactor wsX3_readFactor := goodIn_r _ [0, 1, 2, 3, 4, 5, 6, 7, 8, 9, 10, 11, 12, 13, 14, 15, 16, 17, 18, 19, 20, 21, 22, 23, 24, 25, 26, 27, 28, 29, 30, 31, 32, 33, 34, 35, 36, 37, 38, 39, 40, 41, 42, 43, 44, 45, 46, 47, 48, 49, 50, 51, 52, 53, 54, 55, 56, 57, 58, 59, 60, 61, 62, 63, 64, 65, 66, 67, 68, 69, 70, 71, 72, 73, 74, 75, 76, 77, 78, 79, 80, 81, 82, 83, 84, 85, 86, 87, 88, 89, 90, 91, 92, 93, 94, 95, 96, 97, 98, 99, 100, 101, 102, 103, 104, 105, 106, 107, 108, 109, 110, 111, 112, 113, 114, 115, 116, 117, 118, 119, 120, 121, 122, 123, 124, 125, 126, 127, 128, 129, 130, 131, 132, 133, 134, 135, 136, 137, 138, 139, 140, 141, 142, 143, 144, 145, 146, 147, 148, 149, 150, 151, 152, 153, 154, 155, 156, 157] (by decide +kernel) (by decide +kernel)
set_option maxRecDepth 20000 in
theorem gX3_readFactor_X3_readFactor : GoodIn wsX3_readFactor (wsV RX3 84 RX3 yX3_readFactor wsX3_readFactor) := goodIn_app (goodIn_of _ (by decide +kernel)) ggX3_readFactor_X3_readFactor
set_option maxRecDepth 20000 in
theorem ggX3_readFactor_X3_readFormula : GoodIn wsX3_readFactor wsX3_readFormula := goodIn_r _ [141, 2, 142, 143, 144, 6, 3, 4, 5, 7, 8, 9, 10, 11, 12, 13, 14, 15, 16, 17, 18, 19, 20, 21, 22, 23, 24, 25, 26, 27, 28, 29, 30, 31, 32, 33, 34, 35, 36, 37, 38, 39, 40, 41, 42, 43, 44, 45, 46, 47, 48, 49, 50, 51, 52, 53, 54, 55, 56, 57, 58, 59, 60, 61, 62, 63, 64, 65, 66, 67, 68, 69, 70, 71, 72, 73, 74, 75, 76, 77, 78, 79, 80, 81, 82, 83, 84, 85, 86, 87, 88, 89, 90, 91, 92, 93, 94, 95, 96, 97, 98, 99, 100, 101, 102, 103, 104, 105, 106, 107, 108, 109, 110, 111, 112, 113, 114, 115, 116, 117, 118, 119, 120, 121, 122, 123, 124, 125, 126, 127, 128, 129, 130, 0, 1, 131, 132, 133, 134, 135, 136, 137, 138, 139, 140, 145, 146, 147, 148, 149, 150, 151, 152, 153, 154, 155, 156, 157] (by decide +kernel) (by decide +kernel)
set_option maxRecDepth 20000 in
theorem gX3_readFactor_X3_readFormula : GoodIn wsX3_readFactor (wsV RX3 46 RX3 yX3_readFormula wsX3_readFormula) := goodIn_app (goodIn_of _ (by decide +kernel)) ggX3_readFactor_X3_readFormula
set_option maxRecDepth 20000 in
theorem ggX3_readFactor_X3_fail : GoodIn wsX3_readFactor wsX3_fail := goodIn_r _ [140, 8, 2, 146, 147, 148, 149, 150, 151, 152, 153, 154, 155] (by decide +kernel) (by decide +kernel)
set_option maxRecDepth 20000 in
theorem gX3_readFactor_X3_fail : GoodIn wsX3_readFactor (wsV RX3 40 RX3 yX3_fail wsX3_fail) := goodIn_app (goodIn_of _ (by decide +kernel)) ggX3_readFactor_X3_fail
theorem dX3_readFactor_0 : decode cX3_readFactor 0 = .ok (.aload_n 0, 1) := by decide +kernel
theorem dX3_readFactor_1 : decode cX3_readFactor 1 = .ok (.iconst 1, 1) := by decide +kernel
theorem dX3_readFactor_2 : decode cX3_readFactor 2 = .ok (.invokevirtual 56, 3) := by decide +kernel
theorem dX3_readFactor_5 : decode cX3_readFactor 5 = .ok (.ifCond .eq 39, 3) := by decide +kernel
theorem dX3_readFactor_8 : decode cX3_readFactor 8 = .ok (.aload_n 0, 1) := by decide +kernel
theorem dX3_readFactor_9 : decode cX3_readFactor 9 = .ok (.getfield 43, 3) := by decide +kernel
theorem dX3_readFactor_12 : decode cX3_readFactor 12 = .ok (.bipush 12, 2) := by decide +kernel
theorem dX3_readFactor_14 : decode cX3_readFactor 14 = .ok (.if_icmp .ge 30, 3) := by decide +kernel
theorem dX3_readFactor_17 : decode cX3_readFactor 17 = .ok (.aload_n 0, 1) := by decide +kernel
theorem dX3_readFactor_18 : decode cX3_readFactor 18 = .ok (.getfield 14, 3) := by decide +kernel
theorem dX3_readFactor_21 : decode cX3_readFactor 21 = .ok (.getfield 87, 3) := by decide +kernel
theorem dX3_readFactor_24 : decode cX3_readFactor 24 = .ok (.istore_n 2, 1) := by decide +kernel
theorem dX3_readFactor_25 : decode cX3_readFactor 25 = .ok (.aload_n 0, 1) := by decide +kernel
theorem dX3_readFactor_26 : decode cX3_readFactor 26 = .ok (.dup, 1) := by decide +kernel
theorem dX3_readFactor_27 : decode cX3_readFactor 27 = .ok (.getfield 43, 3) := by decide +kernel
theorem dX3_readFactor_30 : decode cX3_readFactor 30 = .ok (.iconst 1, 1) := by decide +kernel
theorem dX3_readFactor_31 : decode cX3_readFactor 31 = .ok (.iadd, 1) := by decide +kernel
theorem dX3_readFactor_32 : decode cX3_readFactor 32 = .ok (.putfield 43, 3) := by decide +kernel
theorem dX3_readFactor_35 : decode cX3_readFactor 35 = .ok (.aload_n 0, 1) := by decide +kernel
theorem dX3_readFactor_36 : decode cX3_readFactor 36 = .ok (.getfield 14, 3) := by decide +kernel
theorem dX3_readFactor_39 : decode cX3_readFactor 39 = .ok (.invokevirtual 60, 3) := by decide +kernel
theorem dX3_readFactor_42 : decode cX3_readFactor 42 = .ok (.iload_n 2, 1) := by decide +kernel
theorem dX3_readFactor_43 : decode cX3_readFactor 43 = .ok (.ireturn, 1) := by decide +kernel
theorem dX3_readFactor_44 : decode cX3_readFactor 44 = .ok (.aload_n 0, 1) := by decide +kernel
theorem dX3_readFactor_45 : decode cX3_readFactor 45 = .ok (.bipush 33, 2) := by decide +kernel
theorem dX3_readFactor_47 : decode cX3_readFactor 47 = .ok (.invokevirtual 56, 3) := by decide +kernel
theorem dX3_readFactor_50 : decode cX3_readFactor 50 = .ok (.ifCond .eq 30, 3) := by decide +kernel
theorem dX3_readFactor_53 : decode cX3_readFactor 53 = .ok (.iload_n 1, 1) := by decide +kernel
theorem dX3_readFactor_54 : decode cX3_readFactor 54 = .ok (.bipush 6, 2) := by decide +kernel
theorem dX3_readFactor_56 : decode cX3_readFactor 56 = .ok (.if_icmp .ge 24, 3) := by decide +kernel
theorem dX3_readFactor_59 : decode cX3_readFactor 59 = .ok (.aload_n 0, 1) := by decide +kernel
theorem dX3_readFactor_60 : decode cX3_readFactor 60 = .ok (.getfield 14, 3) := by decide +kernel
theorem dX3_readFactor_63 : decode cX3_readFactor 63 = .ok (.invokevirtual 60, 3) := by decide +kernel
theorem dX3_readFactor_66 : decode cX3_readFactor 66 = .ok (.sipush 255, 3) := by decide +kernel
theorem dX3_readFactor_69 : decode cX3_readFactor 69 = .ok (.aload_n 0, 1) := by decide +kernel
theorem dX3_readFactor_70 : decode cX3_readFactor 70 = .ok (.iload_n 1, 1) := by decide +kernel
theorem dX3_readFactor_71 : decode cX3_readFactor 71 = .ok (.iconst 1, 1) := by decide +kernel
theorem dX3_readFactor_72 : decode cX3_readFactor 72 = .ok (.iadd, 1) := by decide +kernel
theorem dX3_readFactor_73 : decode cX3_readFactor 73 = .ok (.invokevirtual 84, 3) := by decide +kernel
theorem dX3_readFactor_76 : decode cX3_readFactor 76 = .ok (.iconst (-1), 1) := by decide +kernel
theorem dX3_readFactor_77 : decode cX3_readFactor 77 = .ok (.ixor, 1) := by decide +kernel
theorem dX3_readFactor_78 : decode cX3_readFactor 78 = .ok (.iand, 1) := by decide +kernel
theorem dX3_readFactor_79 : decode cX3_readFactor 79 = .ok (.ireturn, 1) := by decide +kernel
theorem dX3_readFactor_80 : decode cX3_readFactor 80 = .ok (.aload_n 0, 1) := by decide +kernel
theorem dX3_readFactor_81 : decode cX3_readFactor 81 = .ok (.bipush 40, 2) := by decide +kernel
theorem dX3_readFactor_83 : decode cX3_readFactor 83 = .ok (.invokevirtual 56, 3) := by decide +kernel
theorem dX3_readFactor_86 : decode cX3_readFactor 86 = .ok (.ifCond .eq 42, 3) := by decide +kernel
theorem dX3_readFactor_89 : decode cX3_readFactor 89 = .ok (.iload_n 1, 1) := by decide +kernel
theorem dX3_readFactor_90 : decode cX3_readFactor 90 = .ok (.bipush 6, 2) := by decide +kernel
theorem dX3_readFactor_92 : decode cX3_readFactor 92 = .ok (.if_icmp .ge 36, 3) := by decide +kernel
theorem dX3_readFactor_95 : decode cX3_readFactor 95 = .ok (.aload_n 0, 1) := by decide +kernel
theorem dX3_readFactor_96 : decode cX3_readFactor 96 = .ok (.getfield 14, 3) := by decide +kernel
theorem dX3_readFactor_99 : decode cX3_readFactor 99 = .ok (.invokevirtual 60, 3) := by decide +kernel
theorem dX3_readFactor_102 : decode cX3_readFactor 102 = .ok (.aload_n 0, 1) := by decide +kernel
theorem dX3_readFactor_103 : decode cX3_readFactor 103 = .ok (.iload_n 1, 1) := by decide +kernel
theorem dX3_readFactor_104 : decode cX3_readFactor 104 = .ok (.iconst 1, 1) := by decide +kernel
theorem dX3_readFactor_105 : decode cX3_readFactor 105 = .ok (.iadd, 1) := by decide +kernel
theorem dX3_readFactor_106 : decode cX3_readFactor 106 = .ok (.invokevirtual 46, 3) := by decide +kernel
theorem dX3_readFactor_109 : decode cX3_readFactor 109 = .ok (.istore_n 2, 1) := by decide +kernel
theorem dX3_readFactor_110 : decode cX3_readFactor 110 = .ok (.aload_n 0, 1) := by decide +kernel
theorem dX3_readFactor_111 : decode cX3_readFactor 111 = .ok (.bipush 41, 2) := by decide +kernel
theorem dX3_readFactor_113 : decode cX3_readFactor 113 = .ok (.invokevirtual 56, 3) := by decide +kernel
theorem dX3_readFactor_116 : decode cX3_readFactor 116 = .ok (.ifCond .eq 12, 3) := by decide +kernel
theorem dX3_readFactor_119 : decode cX3_readFactor 119 = .ok (.aload_n 0, 1) := by decide +kernel
theorem dX3_readFactor_120 : decode cX3_readFactor 120 = .ok (.getfield 14, 3) := by decide +kernel
theorem dX3_readFactor_123 : decode cX3_readFactor 123 = .ok (.invokevirtual 60, 3) := by decide +kernel
theorem dX3_readFactor_126 : decode cX3_readFactor 126 = .ok (.iload_n 2, 1) := by decide +kernel
theorem dX3_readFactor_127 : decode cX3_readFactor 127 = .ok (.ireturn, 1) := by decide +kernel
theorem dX3_readFactor_128 : decode cX3_readFactor 128 = .ok (.aload_n 0, 1) := by decide +kernel
theorem dX3_readFactor_129 : decode cX3_readFactor 129 = .ok (.invokevirtual 40, 3) := by decide +kernel
theorem dX3_readFactor_132 : decode cX3_readFactor 132 = .ok (.iconst 0, 1) := by decide +kernel
theorem dX3_readFactor_133 : decode cX3_readFactor 133 = .ok (.ireturn, 1) := by decide +kernel
set_option maxRecDepth 20000 in
theorem ggX3_readHundredths_X3_isAt : GoodIn wsX3_readHundredths wsX3_isAt := goodIn_r _ [6, 7, 1, 134, 135, 136, 137, 138, 139, 140, 141, 142, 143] (by decide +kernel) (by decide +kernel)
set_option maxRecDepth 20000 in
theorem gX3_readHundredths_X3_isAt : GoodIn wsX3_readHundredths (wsV RX3 56 RX3 yX3_isAt wsX3_isAt) := goodIn_app (goodIn_of _ (by decide +kernel)) ggX3_readHundredths_X3_isAt
set_option maxRecDepth 20000 in
theorem ggX3_readHundredths_X6_step : GoodIn wsX3_readHundredths wsX6_step := goodIn_r _ [12, 13, 14, 15, 16, 17, 18, 19, 20, 21, 22, 23, 24, 25, 11, 26, 27, 28, 29, 30, 31, 32, 33, 34, 35, 36, 37, 38, 39, 40, 41, 42, 43, 44, 45, 46, 47, 48, 49, 50, 51, 52, 53, 54, 55, 56, 57, 58, 59, 60, 61, 62, 63, 64, 65, 66, 67, 68, 69, 70, 71, 72, 73, 74, 75, 76, 77, 78, 79, 80, 81, 82, 83, 84, 85, 86, 87, 88, 89, 90, 91, 92, 93, 94, 95, 96, 97, 98, 99, 100, 101, 102, 103, 104, 105, 106, 107, 108, 109, 110, 111, 112, 113, 114, 115, 116, 117, 118, 119, 120, 121, 122, 123, 124, 125, 126, 127, 128, 129, 139, 140, 141, 142, 143, 144, 145] (by decide +kernel) (by decide +kernel)
set_option maxRecDepth 20000 in
theorem gX3_readHundredths_X6_step : GoodIn wsX3_readHundredths (wsV RX3 60 RX6 yX6_step wsX6_step) := goodIn_app (goodIn_of _ (by decide +kernel)) ggX3_readHundredths_X6_step
set_option maxRecDepth 20000 in
theorem ggX3_readHundredths_X3_fail : GoodIn wsX3_readHundredths wsX3_fail := goodIn_r _ [133, 7, 1, 134, 135, 136, 137, 138, 139, 140, 141, 142, 143] (by decide +kernel) (by decide +kernel)
set_option maxRecDepth 20000 in
theorem gX3_readHundredths_X3_fail : GoodIn wsX3_readHundredths (wsV RX3 40 RX3 yX3_fail wsX3_fail) := goodIn_app (goodIn_of _ (by decide +kernel)) ggX3_readHundredths_X3_fail
theorem dX3_readHundredths_0 : decode cX3_readHundredths 0 = .ok (.aload_n 0, 1) := by decide +kernel
theorem dX3_readHundredths_1 : decode cX3_readHundredths 1 = .ok (.iconst 3, 1) := by decide +kernel
theorem dX3_readHundredths_2 : decode cX3_readHundredths 2 = .ok (.invokevirtual 56, 3) := by decide +kernel
theorem dX3_readHundredths_5 : decode cX3_readHundredths 5 = .ok (.ifCond .eq 43, 3) := by decide +kernel
theorem dX3_readHundredths_8 : decode cX3_readHundredths 8 = .ok (.aload_n 0, 1) := by decide +kernel
theorem dX3_readHundredths_9 : decode cX3_readHundredths 9 = .ok (.getfield 14, 3) := by decide +kernel
theorem dX3_readHundredths_12 : decode cX3_readHundredths 12 = .ok (.getfield 87, 3) := by decide +kernel
theorem dX3_readHundredths_15 : decode cX3_readHundredths 15 = .ok (.iload_n 1, 1) := by decide +kernel
theorem dX3_readHundredths_16 : decode cX3_readHundredths 16 = .ok (.if_icmp .lt 32, 3) := by decide +kernel
theorem dX3_readHundredths_19 : decode cX3_readHundredths 19 = .ok (.aload_n 0, 1) := by decide +kernel
theorem dX3_readHundredths_20 : decode cX3_readHundredths 20 = .ok (.getfield 14, 3) := by decide +kernel
theorem dX3_readHundredths_23 : decode cX3_readHundredths 23 = .ok (.getfield 87, 3) := by decide +kernel
theorem dX3_readHundredths_26 : decode cX3_readHundredths 26 = .ok (.bipush 100, 2) := by decide +kernel
theorem dX3_readHundredths_28 : decode cX3_readHundredths 28 = .ok (.if_icmp .gt 20, 3) := by decide +kernel
theorem dX3_readHundredths_31 : decode cX3_readHundredths 31 = .ok (.aload_n 0, 1) := by decide +kernel
theorem dX3_readHundredths_32 : decode cX3_readHundredths 32 = .ok (.getfield 14, 3) := by decide +kernel
theorem dX3_readHundredths_35 : decode cX3_readHundredths 35 = .ok (.getfield 87, 3) := by decide +kernel
theorem dX3_readHundredths_38 : decode cX3_readHundredths 38 = .ok (.istore_n 2, 1) := by decide +kernel
theorem dX3_readHundredths_39 : decode cX3_readHundredths 39 = .ok (.aload_n 0, 1) := by decide +kernel
theorem dX3_readHundredths_40 : decode cX3_readHundredths 40 = .ok (.getfield 14, 3) := by decide +kernel
theorem dX3_readHundredths_43 : decode cX3_readHundredths 43 = .ok (.invokevirtual 60, 3) := by decide +kernel
theorem dX3_readHundredths_46 : decode cX3_readHundredths 46 = .ok (.iload_n 2, 1) := by decide +kernel
theorem dX3_readHundredths_47 : decode cX3_readHundredths 47 = .ok (.ireturn, 1) := by decide +kernel
theorem dX3_readHundredths_48 : decode cX3_readHundredths 48 = .ok (.aload_n 0, 1) := by decide +kernel
theorem dX3_readHundredths_49 : decode cX3_readHundredths 49 = .ok (.invokevirtual 40, 3) := by decide +kernel
theorem dX3_readHundredths_52 : decode cX3_readHundredths 52 = .ok (.iconst 0, 1) := by decide +kernel
theorem dX3_readHundredths_53 : decode cX3_readHundredths 53 = .ok (.ireturn, 1) := by decide +kernel
set_option maxRecDepth 20000 in
theorem ggX3_expect_X3_isAt : GoodIn wsX3_expect wsX3_isAt := goodIn_r _ [6, 7, 1, 134, 135, 136, 137, 138, 139, 140, 141, 142, 143] (by decide +kernel) (by decide +kernel)
set_option maxRecDepth 20000 in
theorem gX3_expect_X3_isAt : GoodIn wsX3_expect (wsV RX3 56 RX3 yX3_isAt wsX3_isAt) := goodIn_app (goodIn_of _ (by decide +kernel)) ggX3_expect_X3_isAt
set_option maxRecDepth 20000 in
theorem ggX3_expect_X6_step : GoodIn wsX3_expect wsX6_step := goodIn_r _ [12, 13, 14, 15, 16, 17, 18, 19, 20, 21, 22, 23, 24, 25, 11, 26, 27, 28, 29, 30, 31, 32, 33, 34, 35, 36, 37, 38, 39, 40, 41, 42, 43, 44, 45, 46, 47, 48, 49, 50, 51, 52, 53, 54, 55, 56, 57, 58, 59, 60, 61, 62, 63, 64, 65, 66, 67, 68, 69, 70, 71, 72, 73, 74, 75, 76, 77, 78, 79, 80, 81, 82, 83, 84, 85, 86, 87, 88, 89, 90, 91, 92, 93, 94, 95, 96, 97, 98, 99, 100, 101, 102, 103, 104, 105, 106, 107, 108, 109, 110, 111, 112, 113, 114, 115, 116, 117, 118, 119, 120, 121, 122, 123, 124, 125, 126, 127, 128, 129, 139, 140, 141, 142, 143, 144, 145] (by decide +kernel) (by decide +kernel)
set_option maxRecDepth 20000 in
theorem gX3_expect_X6_step : GoodIn wsX3_expect (wsV RX3 60 RX6 yX6_step wsX6_step) := goodIn_app (goodIn_of _ (by decide +kernel)) ggX3_expect_X6_step
set_option maxRecDepth 20000 in
theorem ggX3_expect_X3_fail : GoodIn wsX3_expect wsX3_fail := goodIn_r _ [133, 7, 1, 134, 135, 136, 137, 138, 139, 140, 141, 142, 143] (by decide +kernel) (by decide +kernel)
set_option maxRecDepth 20000 in
theorem gX3_expect_X3_fail : GoodIn wsX3_expect (wsV RX3 40 RX3 yX3_fail wsX3_fail) := goodIn_app (goodIn_of _ (by decide +kernel)) ggX3_expect_X3_fail
theorem dX3_expect_0 : decode cX3_expect 0 = .ok (.aload_n 0, 1) := by decide +kernel
theorem dX3_expect_1 : decode cX3_expect 1 = .ok (.iload_n 1, 1) := by decide +kernel
theorem dX3_expect_2 : decode cX3_expect 2 = .ok (.invokevirtual 56, 3) := by decide +kernel
theorem dX3_expect_5 : decode cX3_expect 5 = .ok (.ifCond .eq 13, 3) := by decide +kernel
theorem dX3_expect_8 : decode cX3_expect 8 = .ok (.aload_n 0, 1) := by decide +kernel
theorem dX3_expect_9 : decode cX3_expect 9 = .ok (.getfield 14, 3) := by decide +kernel
theorem dX3_expect_12 : decode cX3_expect 12 = .ok (.invokevirtual 60, 3) := by decide +kernel
theorem dX3_expect_15 : decode cX3_expect 15 = .ok (.goto 7, 3) := by decide +kernel
theorem dX3_expect_18 : decode cX3_expect 18 = .ok (.aload_n 0, 1) := by decide +kernel
theorem dX3_expect_19 : decode cX3_expect 19 = .ok (.invokevirtual 40, 3) := by decide +kernel
theorem dX3_expect_22 : decode cX3_expect 22 = .ok (.return_, 1) := by decide +kernel
theorem dX3_isAt_0 : decode cX3_isAt 0 = .ok (.aload_n 0, 1) := by decide +kernel
theorem dX3_isAt_1 : decode cX3_isAt 1 = .ok (.getfield 31, 3) := by decide +kernel
theorem dX3_isAt_4 : decode cX3_isAt 4 = .ok (.ifCond .ge 18, 3) := by decide +kernel
theorem dX3_isAt_7 : decode cX3_isAt 7 = .ok (.aload_n 0, 1) := by decide +kernel
theorem dX3_isAt_8 : decode cX3_isAt 8 = .ok (.getfield 14, 3) := by decide +kernel
theorem dX3_isAt_11 : decode cX3_isAt 11 = .ok (.getfield 37, 3) := by decide +kernel
theorem dX3_isAt_14 : decode cX3_isAt 14 = .ok (.iload_n 1, 1) := by decide +kernel
theorem dX3_isAt_15 : decode cX3_isAt 15 = .ok (.if_icmp .ne 7, 3) := by decide +kernel
theorem dX3_isAt_18 : decode cX3_isAt 18 = .ok (.iconst 1, 1) := by decide +kernel
theorem dX3_isAt_19 : decode cX3_isAt 19 = .ok (.goto 4, 3) := by decide +kernel
theorem dX3_isAt_22 : decode cX3_isAt 22 = .ok (.iconst 0, 1) := by decide +kernel
theorem dX3_isAt_23 : decode cX3_isAt 23 = .ok (.ireturn, 1) := by decide +kernel
theorem dX3_fail_0 : decode cX3_fail 0 = .ok (.aload_n 0, 1) := by decide +kernel
theorem dX3_fail_1 : decode cX3_fail 1 = .ok (.getfield 31, 3) := by decide +kernel
theorem dX3_fail_4 : decode cX3_fail 4 = .ok (.ifCond .ge 14, 3) := by decide +kernel
theorem dX3_fail_7 : decode cX3_fail 7 = .ok (.aload_n 0, 1) := by decide +kernel
theorem dX3_fail_8 : decode cX3_fail 8 = .ok (.aload_n 0, 1) := by decide +kernel
theorem dX3_fail_9 : decode cX3_fail 9 = .ok (.getfield 14, 3) := by decide +kernel
theorem dX3_fail_12 : decode cX3_fail 12 = .ok (.getfield 90, 3) := by decide +kernel
theorem dX3_fail_15 : decode cX3_fail 15 = .ok (.putfield 31, 3) := by decide +kernel
theorem dX3_fail_18 : decode cX3_fail 18 = .ok (.return_, 1) := by decide +kernel
theorem dX4_init_0 : decode cX4_init 0 = .ok (.aload_n 0, 1) := by decide +kernel
theorem dX4_init_1 : decode cX4_init 1 = .ok (.invokespecial 3, 3) := by decide +kernel
theorem dX4_init_4 : decode cX4_init 4 = .ok (.return_, 1) := by decide +kernel
theorem dX4_take_0 : decode cX4_take 0 = .ok (.aload_n 0, 1) := by decide +kernel
theorem dX4_take_1 : decode cX4_take 1 = .ok (.aload_n 1, 1) := by decide +kernel
theorem dX4_take_2 : decode cX4_take 2 = .ok (.getfield 9, 3) := by decide +kernel
theorem dX4_take_5 : decode cX4_take 5 = .ok (.putfield 9, 3) := by decide +kernel
theorem dX4_take_8 : decode cX4_take 8 = .ok (.aload_n 0, 1) := by decide +kernel
theorem dX4_take_9 : decode cX4_take 9 = .ok (.aload_n 1, 1) := by decide +kernel
theorem dX4_take_10 : decode cX4_take 10 = .ok (.getfield 15, 3) := by decide +kernel
theorem dX4_take_13 : decode cX4_take 13 = .ok (.putfield 15, 3) := by decide +kernel
theorem dX4_take_16 : decode cX4_take 16 = .ok (.aload_n 0, 1) := by decide +kernel
theorem dX4_take_17 : decode cX4_take 17 = .ok (.aload_n 1, 1) := by decide +kernel
theorem dX4_take_18 : decode cX4_take 18 = .ok (.getfield 18, 3) := by decide +kernel
theorem dX4_take_21 : decode cX4_take 21 = .ok (.putfield 18, 3) := by decide +kernel
theorem dX4_take_24 : decode cX4_take 24 = .ok (.aload_n 0, 1) := by decide +kernel
theorem dX4_take_25 : decode cX4_take 25 = .ok (.aload_n 1, 1) := by decide +kernel
theorem dX4_take_26 : decode cX4_take 26 = .ok (.getfield 21, 3) := by decide +kernel
theorem dX4_take_29 : decode cX4_take 29 = .ok (.putfield 21, 3) := by decide +kernel
theorem dX4_take_32 : decode cX4_take 32 = .ok (.aload_n 0, 1) := by decide +kernel
theorem dX4_take_33 : decode cX4_take 33 = .ok (.aload_n 1, 1) := by decide +kernel
theorem dX4_take_34 : decode cX4_take 34 = .ok (.getfield 24, 3) := by decide +kernel
theorem dX4_take_37 : decode cX4_take 37 = .ok (.putfield 24, 3) := by decide +kernel
theorem dX4_take_40 : decode cX4_take 40 = .ok (.return_, 1) := by decide +kernel
theorem dX4_loosen_0 : decode cX4_loosen 0 = .ok (.aload_n 0, 1) := by decide +kernel
theorem dX4_loosen_1 : decode cX4_loosen 1 = .ok (.aload_n 0, 1) := by decide +kernel
theorem dX4_loosen_2 : decode cX4_loosen 2 = .ok (.getfield 18, 3) := by decide +kernel
theorem dX4_loosen_5 : decode cX4_loosen 5 = .ok (.iload_n 1, 1) := by decide +kernel
theorem dX4_loosen_6 : decode cX4_loosen 6 = .ok (.isub, 1) := by decide +kernel
theorem dX4_loosen_7 : decode cX4_loosen 7 = .ok (.iconst 0, 1) := by decide +kernel
theorem dX4_loosen_8 : decode cX4_loosen 8 = .ok (.invokestatic 27, 3) := by decide +kernel
theorem dX4_loosen_11 : decode cX4_loosen 11 = .ok (.putfield 18, 3) := by decide +kernel
theorem dX4_loosen_14 : decode cX4_loosen 14 = .ok (.aload_n 0, 1) := by decide +kernel
theorem dX4_loosen_15 : decode cX4_loosen 15 = .ok (.aload_n 0, 1) := by decide +kernel
theorem dX4_loosen_16 : decode cX4_loosen 16 = .ok (.getfield 21, 3) := by decide +kernel
theorem dX4_loosen_19 : decode cX4_loosen 19 = .ok (.iload_n 1, 1) := by decide +kernel
theorem dX4_loosen_20 : decode cX4_loosen 20 = .ok (.iadd, 1) := by decide +kernel
theorem dX4_loosen_21 : decode cX4_loosen 21 = .ok (.bipush 100, 2) := by decide +kernel
theorem dX4_loosen_23 : decode cX4_loosen 23 = .ok (.invokestatic 33, 3) := by decide +kernel
theorem dX4_loosen_26 : decode cX4_loosen 26 = .ok (.putfield 21, 3) := by decide +kernel
theorem dX4_loosen_29 : decode cX4_loosen 29 = .ok (.return_, 1) := by decide +kernel
theorem dX4_saysSameAs_0 : decode cX4_saysSameAs 0 = .ok (.aload_n 0, 1) := by decide +kernel
theorem dX4_saysSameAs_1 : decode cX4_saysSameAs 1 = .ok (.getfield 9, 3) := by decide +kernel
theorem dX4_saysSameAs_4 : decode cX4_saysSameAs 4 = .ok (.aload_n 1, 1) := by decide +kernel
theorem dX4_saysSameAs_5 : decode cX4_saysSameAs 5 = .ok (.getfield 9, 3) := by decide +kernel
theorem dX4_saysSameAs_8 : decode cX4_saysSameAs 8 = .ok (.if_icmp .ne 40, 3) := by decide +kernel
theorem dX4_saysSameAs_11 : decode cX4_saysSameAs 11 = .ok (.aload_n 0, 1) := by decide +kernel
theorem dX4_saysSameAs_12 : decode cX4_saysSameAs 12 = .ok (.getfield 15, 3) := by decide +kernel
theorem dX4_saysSameAs_15 : decode cX4_saysSameAs 15 = .ok (.aload_n 1, 1) := by decide +kernel
theorem dX4_saysSameAs_16 : decode cX4_saysSameAs 16 = .ok (.getfield 15, 3) := by decide +kernel
theorem dX4_saysSameAs_19 : decode cX4_saysSameAs 19 = .ok (.if_icmp .ne 29, 3) := by decide +kernel
theorem dX4_saysSameAs_22 : decode cX4_saysSameAs 22 = .ok (.aload_n 0, 1) := by decide +kernel
theorem dX4_saysSameAs_23 : decode cX4_saysSameAs 23 = .ok (.getfield 18, 3) := by decide +kernel
theorem dX4_saysSameAs_26 : decode cX4_saysSameAs 26 = .ok (.aload_n 1, 1) := by decide +kernel
theorem dX4_saysSameAs_27 : decode cX4_saysSameAs 27 = .ok (.getfield 18, 3) := by decide +kernel
theorem dX4_saysSameAs_30 : decode cX4_saysSameAs 30 = .ok (.if_icmp .ne 18, 3) := by decide +kernel
theorem dX4_saysSameAs_33 : decode cX4_saysSameAs 33 = .ok (.aload_n 0, 1) := by decide +kernel
theorem dX4_saysSameAs_34 : decode cX4_saysSameAs 34 = .ok (.getfield 21, 3) := by decide +kernel
theorem dX4_saysSameAs_37 : decode cX4_saysSameAs 37 = .ok (.aload_n 1, 1) := by decide +kernel
theorem dX4_saysSameAs_38 : decode cX4_saysSameAs 38 = .ok (.getfield 21, 3) := by decide +kernel
theorem dX4_saysSameAs_41 : decode cX4_saysSameAs 41 = .ok (.if_icmp .ne 7, 3) := by decide +kernel
theorem dX4_saysSameAs_44 : decode cX4_saysSameAs 44 = .ok (.iconst 1, 1) := by decide +kernel
theorem dX4_saysSameAs_45 : decode cX4_saysSameAs 45 = .ok (.goto 4, 3) := by decide +kernel
theorem dX4_saysSameAs_48 : decode cX4_saysSameAs 48 = .ok (.iconst 0, 1) := by decide +kernel
theorem dX4_saysSameAs_49 : decode cX4_saysSameAs 49 = .ok (.ireturn, 1) := by decide +kernel
theorem dX4_overFrom_0 : decode cX4_overFrom 0 = .ok (.ldc2_w 36, 3) := by decide +kernel
theorem dX4_overFrom_3 : decode cX4_overFrom 3 = .ok (.lload_n 1, 1) := by decide +kernel
theorem dX4_overFrom_4 : decode cX4_overFrom 4 = .ok (.lmul, 1) := by decide +kernel
theorem dX4_overFrom_5 : decode cX4_overFrom 5 = .ok (.aload_n 0, 1) := by decide +kernel
theorem dX4_overFrom_6 : decode cX4_overFrom 6 = .ok (.getfield 18, 3) := by decide +kernel
theorem dX4_overFrom_9 : decode cX4_overFrom 9 = .ok (.i2l, 1) := by decide +kernel
theorem dX4_overFrom_10 : decode cX4_overFrom 10 = .ok (.lload_n 3, 1) := by decide +kernel
theorem dX4_overFrom_11 : decode cX4_overFrom 11 = .ok (.lmul, 1) := by decide +kernel
theorem dX4_overFrom_12 : decode cX4_overFrom 12 = .ok (.lsub, 1) := by decide +kernel
theorem dX4_overFrom_13 : decode cX4_overFrom 13 = .ok (.lreturn, 1) := by decide +kernel
theorem dX4_underTo_0 : decode cX4_underTo 0 = .ok (.aload_n 0, 1) := by decide +kernel
theorem dX4_underTo_1 : decode cX4_underTo 1 = .ok (.getfield 21, 3) := by decide +kernel
theorem dX4_underTo_4 : decode cX4_underTo 4 = .ok (.i2l, 1) := by decide +kernel
theorem dX4_underTo_5 : decode cX4_underTo 5 = .ok (.lload_n 3, 1) := by decide +kernel
theorem dX4_underTo_6 : decode cX4_underTo 6 = .ok (.lmul, 1) := by decide +kernel
theorem dX4_underTo_7 : decode cX4_underTo 7 = .ok (.ldc2_w 36, 3) := by decide +kernel
theorem dX4_underTo_10 : decode cX4_underTo 10 = .ok (.lload_n 1, 1) := by decide +kernel
theorem dX4_underTo_11 : decode cX4_underTo 11 = .ok (.lmul, 1) := by decide +kernel
theorem dX4_underTo_12 : decode cX4_underTo 12 = .ok (.lsub, 1) := by decide +kernel
theorem dX4_underTo_13 : decode cX4_underTo 13 = .ok (.lreturn, 1) := by decide +kernel
set_option maxRecDepth 20000 in
theorem ggX4_isKeptBy_X4_overFrom : GoodIn wsX4_isKeptBy wsX4_overFrom := goodIn_r _ [5, 6, 7, 13, 14, 15, 16, 17] (by decide +kernel) (by decide +kernel)
set_option maxRecDepth 20000 in
theorem gX4_isKeptBy_X4_overFrom : GoodIn wsX4_isKeptBy (wsV RX4 38 RX4 yX4_overFrom wsX4_overFrom) := goodIn_app (goodIn_of _ (by decide +kernel)) ggX4_isKeptBy_X4_overFrom
set_option maxRecDepth 20000 in
theorem ggX4_isKeptBy_X4_underTo : GoodIn wsX4_isKeptBy wsX4_underTo := goodIn_r _ [11, 12, 6, 13, 14, 15, 16, 17] (by decide +kernel) (by decide +kernel)
set_option maxRecDepth 20000 in
theorem gX4_isKeptBy_X4_underTo : GoodIn wsX4_isKeptBy (wsV RX4 42 RX4 yX4_underTo wsX4_underTo) := goodIn_app (goodIn_of _ (by decide +kernel)) ggX4_isKeptBy_X4_underTo
theorem dX4_isKeptBy_0 : decode cX4_isKeptBy 0 = .ok (.aload_n 0, 1) := by decide +kernel
theorem dX4_isKeptBy_1 : decode cX4_isKeptBy 1 = .ok (.lload_n 1, 1) := by decide +kernel
theorem dX4_isKeptBy_2 : decode cX4_isKeptBy 2 = .ok (.lload_n 3, 1) := by decide +kernel
theorem dX4_isKeptBy_3 : decode cX4_isKeptBy 3 = .ok (.invokevirtual 38, 3) := by decide +kernel
theorem dX4_isKeptBy_6 : decode cX4_isKeptBy 6 = .ok (.lconst 0, 1) := by decide +kernel
theorem dX4_isKeptBy_7 : decode cX4_isKeptBy 7 = .ok (.lcmp, 1) := by decide +kernel
theorem dX4_isKeptBy_8 : decode cX4_isKeptBy 8 = .ok (.ifCond .lt 18, 3) := by decide +kernel
theorem dX4_isKeptBy_11 : decode cX4_isKeptBy 11 = .ok (.aload_n 0, 1) := by decide +kernel
theorem dX4_isKeptBy_12 : decode cX4_isKeptBy 12 = .ok (.lload_n 1, 1) := by decide +kernel
theorem dX4_isKeptBy_13 : decode cX4_isKeptBy 13 = .ok (.lload_n 3, 1) := by decide +kernel
theorem dX4_isKeptBy_14 : decode cX4_isKeptBy 14 = .ok (.invokevirtual 42, 3) := by decide +kernel
theorem dX4_isKeptBy_17 : decode cX4_isKeptBy 17 = .ok (.lconst 0, 1) := by decide +kernel
theorem dX4_isKeptBy_18 : decode cX4_isKeptBy 18 = .ok (.lcmp, 1) := by decide +kernel
theorem dX4_isKeptBy_19 : decode cX4_isKeptBy 19 = .ok (.ifCond .lt 7, 3) := by decide +kernel
theorem dX4_isKeptBy_22 : decode cX4_isKeptBy 22 = .ok (.iconst 1, 1) := by decide +kernel
theorem dX4_isKeptBy_23 : decode cX4_isKeptBy 23 = .ok (.goto 4, 3) := by decide +kernel
theorem dX4_isKeptBy_26 : decode cX4_isKeptBy 26 = .ok (.iconst 0, 1) := by decide +kernel
theorem dX4_isKeptBy_27 : decode cX4_isKeptBy 27 = .ok (.ireturn, 1) := by decide +kernel
theorem dX5_init_0 : decode cX5_init 0 = .ok (.aload_n 0, 1) := by decide +kernel
theorem dX5_init_1 : decode cX5_init 1 = .ok (.invokespecial 1, 3) := by decide +kernel
theorem dX5_init_4 : decode cX5_init 4 = .ok (.aload_n 0, 1) := by decide +kernel
theorem dX5_init_5 : decode cX5_init 5 = .ok (.sipush 200, 3) := by decide +kernel
theorem dX5_init_8 : decode cX5_init 8 = .ok (.newarray .int, 2) := by decide +kernel
theorem dX5_init_10 : decode cX5_init 10 = .ok (.putfield 9, 3) := by decide +kernel
theorem dX5_init_13 : decode cX5_init 13 = .ok (.return_, 1) := by decide +kernel
theorem dX5_append_0 : decode cX5_append 0 = .ok (.aload_n 0, 1) := by decide +kernel
theorem dX5_append_1 : decode cX5_append 1 = .ok (.getfield 13, 3) := by decide +kernel
theorem dX5_append_4 : decode cX5_append 4 = .ok (.sipush 200, 3) := by decide +kernel
theorem dX5_append_7 : decode cX5_append 7 = .ok (.if_icmp .ge 23, 3) := by decide +kernel
theorem dX5_append_10 : decode cX5_append 10 = .ok (.aload_n 0, 1) := by decide +kernel
theorem dX5_append_11 : decode cX5_append 11 = .ok (.getfield 9, 3) := by decide +kernel
theorem dX5_append_14 : decode cX5_append 14 = .ok (.aload_n 0, 1) := by decide +kernel
theorem dX5_append_15 : decode cX5_append 15 = .ok (.getfield 13, 3) := by decide +kernel
theorem dX5_append_18 : decode cX5_append 18 = .ok (.iload_n 1, 1) := by decide +kernel
theorem dX5_append_19 : decode cX5_append 19 = .ok (.iastore, 1) := by decide +kernel
theorem dX5_append_20 : decode cX5_append 20 = .ok (.aload_n 0, 1) := by decide +kernel
theorem dX5_append_21 : decode cX5_append 21 = .ok (.dup, 1) := by decide +kernel
theorem dX5_append_22 : decode cX5_append 22 = .ok (.getfield 13, 3) := by decide +kernel
theorem dX5_append_25 : decode cX5_append 25 = .ok (.iconst 1, 1) := by decide +kernel
theorem dX5_append_26 : decode cX5_append 26 = .ok (.iadd, 1) := by decide +kernel
theorem dX5_append_27 : decode cX5_append 27 = .ok (.putfield 13, 3) := by decide +kernel
theorem dX5_append_30 : decode cX5_append 30 = .ok (.return_, 1) := by decide +kernel
theorem dX5_at_0 : decode cX5_at 0 = .ok (.iload_n 1, 1) := by decide +kernel
theorem dX5_at_1 : decode cX5_at 1 = .ok (.ifCond .lt 27, 3) := by decide +kernel
theorem dX5_at_4 : decode cX5_at 4 = .ok (.iload_n 1, 1) := by decide +kernel
theorem dX5_at_5 : decode cX5_at 5 = .ok (.aload_n 0, 1) := by decide +kernel
theorem dX5_at_6 : decode cX5_at 6 = .ok (.getfield 13, 3) := by decide +kernel
theorem dX5_at_9 : decode cX5_at 9 = .ok (.if_icmp .ge 19, 3) := by decide +kernel
theorem dX5_at_12 : decode cX5_at 12 = .ok (.iload_n 1, 1) := by decide +kernel
theorem dX5_at_13 : decode cX5_at 13 = .ok (.sipush 200, 3) := by decide +kernel
theorem dX5_at_16 : decode cX5_at 16 = .ok (.if_icmp .ge 12, 3) := by decide +kernel
theorem dX5_at_19 : decode cX5_at 19 = .ok (.aload_n 0, 1) := by decide +kernel
theorem dX5_at_20 : decode cX5_at 20 = .ok (.getfield 9, 3) := by decide +kernel
theorem dX5_at_23 : decode cX5_at 23 = .ok (.iload_n 1, 1) := by decide +kernel
theorem dX5_at_24 : decode cX5_at 24 = .ok (.iaload, 1) := by decide +kernel
theorem dX5_at_25 : decode cX5_at 25 = .ok (.goto 4, 3) := by decide +kernel
theorem dX5_at_28 : decode cX5_at 28 = .ok (.iconst (-1), 1) := by decide +kernel
theorem dX5_at_29 : decode cX5_at 29 = .ok (.ireturn, 1) := by decide +kernel
theorem dX6_init_0 : decode cX6_init 0 = .ok (.aload_n 0, 1) := by decide +kernel
theorem dX6_init_1 : decode cX6_init 1 = .ok (.invokespecial 1, 3) := by decide +kernel
theorem dX6_init_4 : decode cX6_init 4 = .ok (.aload_n 0, 1) := by decide +kernel
theorem dX6_init_5 : decode cX6_init 5 = .ok (.aload_n 1, 1) := by decide +kernel
theorem dX6_init_6 : decode cX6_init 6 = .ok (.putfield 7, 3) := by decide +kernel
theorem dX6_init_9 : decode cX6_init 9 = .ok (.return_, 1) := by decide +kernel
set_option maxRecDepth 20000 in
theorem ggX6_restart_X6_step : GoodIn wsX6_restart wsX6_step := goodIn_r _ [6, 1, 7, 8, 9, 10, 11, 12, 13, 14, 15, 16, 17, 18, 5, 19, 20, 21, 22, 23, 24, 25, 26, 27, 28, 29, 30, 31, 32, 33, 34, 35, 36, 37, 38, 39, 40, 41, 42, 43, 44, 45, 46, 47, 48, 49, 50, 51, 52, 53, 54, 55, 56, 57, 58, 59, 60, 61, 62, 63, 64, 65, 66, 67, 68, 69, 70, 71, 72, 73, 74, 75, 76, 77, 78, 79, 80, 81, 82, 83, 84, 85, 86, 87, 88, 89, 90, 91, 92, 93, 94, 95, 96, 97, 98, 99, 100, 101, 102, 103, 104, 105, 106, 107, 108, 109, 110, 111, 112, 113, 114, 115, 116, 117, 118, 119, 120, 121, 122, 123, 124, 125, 126, 127, 128, 129] (by decide +kernel) (by decide +kernel)
set_option maxRecDepth 20000 in
theorem gX6_restart_X6_step : GoodIn wsX6_restart (wsV RX6 17 RX6 yX6_step wsX6_step) := goodIn_app (goodIn_of _ (by decide +kernel)) ggX6_restart_X6_step
theorem dX6_restart_0 : decode cX6_restart 0 = .ok (.aload_n 0, 1) := by decide +kernel
theorem dX6_restart_1 : decode cX6_restart 1 = .ok (.iconst 0, 1) := by decide +kernel
theorem dX6_restart_2 : decode cX6_restart 2 = .ok (.putfield 13, 3) := by decide +kernel
theorem dX6_restart_5 : decode cX6_restart 5 = .ok (.aload_n 0, 1) := by decide +kernel
theorem dX6_restart_6 : decode cX6_restart 6 = .ok (.invokevirtual 17, 3) := by decide +kernel
theorem dX6_restart_9 : decode cX6_restart 9 = .ok (.return_, 1) := by decide +kernel
set_option maxRecDepth 20000 in
theorem ggX6_step_X5_at : GoodIn wsX6_step wsX5_at := goodIn_r _ [9, 10, 11, 124, 125] (by decide +kernel) (by decide +kernel)
set_option maxRecDepth 20000 in
theorem gX6_step_X5_at : GoodIn wsX6_step (wsV RX6 25 RX5 yX5_at wsX5_at) := goodIn_app (goodIn_of _ (by decide +kernel)) ggX6_step_X5_at
set_option maxRecDepth 20000 in
theorem ggX6_step_X6_isLetter : GoodIn wsX6_step wsX6_isLetter := goodIn_r _ [15] (by decide +kernel) (by decide +kernel)
set_option maxRecDepth 20000 in
theorem gX6_step_X6_isLetter : GoodIn wsX6_step (va_wsS RX6 35 yX6_isLetter wsX6_isLetter) := goodIn_app (goodIn_of _ (by decide +kernel)) ggX6_step_X6_isLetter
set_option maxRecDepth 20000 in
theorem ggX6_step_X6_stepOverWord : GoodIn wsX6_step wsX6_stepOverWord := goodIn_r _ [19, 1, 2, 3, 20, 4, 21, 5, 6, 7, 8, 9, 10, 11, 12, 13, 14, 15, 119, 120, 121, 122, 123, 124, 125] (by decide +kernel) (by decide +kernel)
set_option maxRecDepth 20000 in
theorem gX6_step_X6_stepOverWord : GoodIn wsX6_step (wsV RX6 39 RX6 yX6_stepOverWord wsX6_stepOverWord) := goodIn_app (goodIn_of _ (by decide +kernel)) ggX6_step_X6_stepOverWord
set_option maxRecDepth 20000 in
theorem ggX6_step_X6_isDigit : GoodIn wsX6_step wsX6_isDigit := goodIn_r _ [24] (by decide +kernel) (by decide +kernel)
set_option maxRecDepth 20000 in
theorem gX6_step_X6_isDigit : GoodIn wsX6_step (va_wsS RX6 42 yX6_isDigit wsX6_isDigit) := goodIn_app (goodIn_of _ (by decide +kernel)) ggX6_step_X6_isDigit
set_option maxRecDepth 20000 in
theorem ggX6_step_X6_stepOverNumber : GoodIn wsX6_step wsX6_stepOverNumber := goodIn_r _ [28, 21, 1, 2, 29, 30, 31, 32, 3, 4, 5, 6, 7, 8, 9, 10, 11, 22, 23, 14, 24, 119, 120, 121, 122, 123, 124, 125] (by decide +kernel) (by decide +kernel)
set_option maxRecDepth 20000 in
theorem gX6_step_X6_stepOverNumber : GoodIn wsX6_step (wsV RX6 45 RX6 yX6_stepOverNumber wsX6_stepOverNumber) := goodIn_app (goodIn_of _ (by decide +kernel)) ggX6_step_X6_stepOverNumber
set_option maxRecDepth 20000 in
theorem ggX6_step_J0_indexOf_0f7a4 : GoodIn wsX6_step wsJ0_indexOf_0f7a4 := goodIn_r _ [37, 38, 39, 40, 36, 41, 42, 43, 44, 45, 46, 47, 48, 49, 50, 51, 52, 53, 54, 55, 56, 57, 58, 59, 60, 61, 62, 31, 63, 64, 30, 32, 65, 66, 67, 68, 69, 70, 71, 72, 73, 74, 75, 76, 77, 78, 79, 80, 81, 82, 83, 84, 85, 86, 87, 88, 89, 90, 91, 92, 93, 94, 95, 96, 97, 98, 99, 100, 101, 102, 103, 104, 105, 106, 107, 108, 109, 110, 111, 112, 113, 114, 115, 116, 117, 118] (by decide +kernel) (by decide +kernel)
set_option maxRecDepth 20000 in
theorem gX6_step_J0_indexOf_0f7a4 : GoodIn wsX6_step (wsV RX6 50 RJ0 yJ0_indexOf_0f7a4 wsJ0_indexOf_0f7a4) := goodIn_app (goodIn_of _ (by decide +kernel)) ggX6_step_J0_indexOf_0f7a4
theorem dX6_step_0 : decode cX6_step 0 = .ok (.aload_n 0, 1) := by decide +kernel
theorem dX6_step_1 : decode cX6_step 1 = .ok (.getfield 13, 3) := by decide +kernel
theorem dX6_step_4 : decode cX6_step 4 = .ok (.aload_n 0, 1) := by decide +kernel
theorem dX6_step_5 : decode cX6_step 5 = .ok (.getfield 7, 3) := by decide +kernel
theorem dX6_step_8 : decode cX6_step 8 = .ok (.getfield 20, 3) := by decide +kernel
theorem dX6_step_11 : decode cX6_step 11 = .ok (.if_icmp .ge 32, 3) := by decide +kernel
theorem dX6_step_14 : decode cX6_step 14 = .ok (.aload_n 0, 1) := by decide +kernel
theorem dX6_step_15 : decode cX6_step 15 = .ok (.getfield 7, 3) := by decide +kernel
theorem dX6_step_18 : decode cX6_step 18 = .ok (.aload_n 0, 1) := by decide +kernel
theorem dX6_step_19 : decode cX6_step 19 = .ok (.getfield 13, 3) := by decide +kernel
theorem dX6_step_22 : decode cX6_step 22 = .ok (.invokevirtual 25, 3) := by decide +kernel
theorem dX6_step_25 : decode cX6_step 25 = .ok (.bipush 32, 2) := by decide +kernel
theorem dX6_step_27 : decode cX6_step 27 = .ok (.if_icmp .ne 16, 3) := by decide +kernel
theorem dX6_step_30 : decode cX6_step 30 = .ok (.aload_n 0, 1) := by decide +kernel
theorem dX6_step_31 : decode cX6_step 31 = .ok (.dup, 1) := by decide +kernel
theorem dX6_step_32 : decode cX6_step 32 = .ok (.getfield 13, 3) := by decide +kernel
theorem dX6_step_35 : decode cX6_step 35 = .ok (.iconst 1, 1) := by decide +kernel
theorem dX6_step_36 : decode cX6_step 36 = .ok (.iadd, 1) := by decide +kernel
theorem dX6_step_37 : decode cX6_step 37 = .ok (.putfield 13, 3) := by decide +kernel
theorem dX6_step_40 : decode cX6_step 40 = .ok (.goto (-40), 3) := by decide +kernel
theorem dX6_step_43 : decode cX6_step 43 = .ok (.aload_n 0, 1) := by decide +kernel
theorem dX6_step_44 : decode cX6_step 44 = .ok (.aload_n 0, 1) := by decide +kernel
theorem dX6_step_45 : decode cX6_step 45 = .ok (.getfield 13, 3) := by decide +kernel
theorem dX6_step_48 : decode cX6_step 48 = .ok (.putfield 29, 3) := by decide +kernel
theorem dX6_step_51 : decode cX6_step 51 = .ok (.aload_n 0, 1) := by decide +kernel
theorem dX6_step_52 : decode cX6_step 52 = .ok (.getfield 7, 3) := by decide +kernel
theorem dX6_step_55 : decode cX6_step 55 = .ok (.aload_n 0, 1) := by decide +kernel
theorem dX6_step_56 : decode cX6_step 56 = .ok (.getfield 13, 3) := by decide +kernel
theorem dX6_step_59 : decode cX6_step 59 = .ok (.invokevirtual 25, 3) := by decide +kernel
theorem dX6_step_62 : decode cX6_step 62 = .ok (.istore_n 1, 1) := by decide +kernel
theorem dX6_step_63 : decode cX6_step 63 = .ok (.iload_n 1, 1) := by decide +kernel
theorem dX6_step_64 : decode cX6_step 64 = .ok (.ifCond .ge 11, 3) := by decide +kernel
theorem dX6_step_67 : decode cX6_step 67 = .ok (.aload_n 0, 1) := by decide +kernel
theorem dX6_step_68 : decode cX6_step 68 = .ok (.iconst 0, 1) := by decide +kernel
theorem dX6_step_69 : decode cX6_step 69 = .ok (.putfield 32, 3) := by decide +kernel
theorem dX6_step_72 : decode cX6_step 72 = .ok (.goto 60, 3) := by decide +kernel
theorem dX6_step_75 : decode cX6_step 75 = .ok (.iload_n 1, 1) := by decide +kernel
theorem dX6_step_76 : decode cX6_step 76 = .ok (.invokestatic 35, 3) := by decide +kernel
theorem dX6_step_79 : decode cX6_step 79 = .ok (.ifCond .eq 10, 3) := by decide +kernel
theorem dX6_step_82 : decode cX6_step 82 = .ok (.aload_n 0, 1) := by decide +kernel
theorem dX6_step_83 : decode cX6_step 83 = .ok (.invokevirtual 39, 3) := by decide +kernel
theorem dX6_step_86 : decode cX6_step 86 = .ok (.goto 46, 3) := by decide +kernel
theorem dX6_step_89 : decode cX6_step 89 = .ok (.iload_n 1, 1) := by decide +kernel
theorem dX6_step_90 : decode cX6_step 90 = .ok (.invokestatic 42, 3) := by decide +kernel
theorem dX6_step_93 : decode cX6_step 93 = .ok (.ifCond .eq 10, 3) := by decide +kernel
theorem dX6_step_96 : decode cX6_step 96 = .ok (.aload_n 0, 1) := by decide +kernel
theorem dX6_step_97 : decode cX6_step 97 = .ok (.invokevirtual 45, 3) := by decide +kernel
theorem dX6_step_100 : decode cX6_step 100 = .ok (.goto 32, 3) := by decide +kernel
theorem dX6_step_103 : decode cX6_step 103 = .ok (.aload_n 0, 1) := by decide +kernel
theorem dX6_step_104 : decode cX6_step 104 = .ok (.ldc 48, 2) := by decide +kernel
theorem dX6_step_106 : decode cX6_step 106 = .ok (.iload_n 1, 1) := by decide +kernel
theorem dX6_step_107 : decode cX6_step 107 = .ok (.i2c, 1) := by decide +kernel
theorem dX6_step_108 : decode cX6_step 108 = .ok (.invokevirtual 50, 3) := by decide +kernel
theorem dX6_step_111 : decode cX6_step 111 = .ok (.ifCond .lt 7, 3) := by decide +kernel
theorem dX6_step_114 : decode cX6_step 114 = .ok (.iload_n 1, 1) := by decide +kernel
theorem dX6_step_115 : decode cX6_step 115 = .ok (.goto 4, 3) := by decide +kernel
theorem dX6_step_118 : decode cX6_step 118 = .ok (.iconst 4, 1) := by decide +kernel
theorem dX6_step_119 : decode cX6_step 119 = .ok (.putfield 32, 3) := by decide +kernel
theorem dX6_step_122 : decode cX6_step 122 = .ok (.aload_n 0, 1) := by decide +kernel
theorem dX6_step_123 : decode cX6_step 123 = .ok (.dup, 1) := by decide +kernel
theorem dX6_step_124 : decode cX6_step 124 = .ok (.getfield 13, 3) := by decide +kernel
theorem dX6_step_127 : decode cX6_step 127 = .ok (.iconst 1, 1) := by decide +kernel
theorem dX6_step_128 : decode cX6_step 128 = .ok (.iadd, 1) := by decide +kernel
theorem dX6_step_129 : decode cX6_step 129 = .ok (.putfield 13, 3) := by decide +kernel
theorem dX6_step_132 : decode cX6_step 132 = .ok (.return_, 1) := by decide +kernel
set_option maxRecDepth 20000 in
theorem ggX6_stepOverWord_X5_at : GoodIn wsX6_stepOverWord wsX5_at := goodIn_r _ [11, 12, 13, 23, 24] (by decide +kernel) (by decide +kernel)
set_option maxRecDepth 20000 in
theorem gX6_stepOverWord_X5_at : GoodIn wsX6_stepOverWord (wsV RX6 25 RX5 yX5_at wsX5_at) := goodIn_app (goodIn_of _ (by decide +kernel)) ggX6_stepOverWord_X5_at
set_option maxRecDepth 20000 in
theorem ggX6_stepOverWord_X6_isLetter : GoodIn wsX6_stepOverWord wsX6_isLetter := goodIn_r _ [17] (by decide +kernel) (by decide +kernel)
set_option maxRecDepth 20000 in
theorem gX6_stepOverWord_X6_isLetter : GoodIn wsX6_stepOverWord (va_wsS RX6 35 yX6_isLetter wsX6_isLetter) := goodIn_app (goodIn_of _ (by decide +kernel)) ggX6_stepOverWord_X6_isLetter
theorem dX6_stepOverWord_0 : decode cX6_stepOverWord 0 = .ok (.aload_n 0, 1) := by decide +kernel
theorem dX6_stepOverWord_1 : decode cX6_stepOverWord 1 = .ok (.getfield 13, 3) := by decide +kernel
theorem dX6_stepOverWord_4 : decode cX6_stepOverWord 4 = .ok (.aload_n 0, 1) := by decide +kernel
theorem dX6_stepOverWord_5 : decode cX6_stepOverWord 5 = .ok (.getfield 7, 3) := by decide +kernel
theorem dX6_stepOverWord_8 : decode cX6_stepOverWord 8 = .ok (.getfield 20, 3) := by decide +kernel
theorem dX6_stepOverWord_11 : decode cX6_stepOverWord 11 = .ok (.if_icmp .ge 33, 3) := by decide +kernel
theorem dX6_stepOverWord_14 : decode cX6_stepOverWord 14 = .ok (.aload_n 0, 1) := by decide +kernel
theorem dX6_stepOverWord_15 : decode cX6_stepOverWord 15 = .ok (.getfield 7, 3) := by decide +kernel
theorem dX6_stepOverWord_18 : decode cX6_stepOverWord 18 = .ok (.aload_n 0, 1) := by decide +kernel
theorem dX6_stepOverWord_19 : decode cX6_stepOverWord 19 = .ok (.getfield 13, 3) := by decide +kernel
theorem dX6_stepOverWord_22 : decode cX6_stepOverWord 22 = .ok (.invokevirtual 25, 3) := by decide +kernel
theorem dX6_stepOverWord_25 : decode cX6_stepOverWord 25 = .ok (.invokestatic 35, 3) := by decide +kernel
theorem dX6_stepOverWord_28 : decode cX6_stepOverWord 28 = .ok (.ifCond .eq 16, 3) := by decide +kernel
theorem dX6_stepOverWord_31 : decode cX6_stepOverWord 31 = .ok (.aload_n 0, 1) := by decide +kernel
theorem dX6_stepOverWord_32 : decode cX6_stepOverWord 32 = .ok (.dup, 1) := by decide +kernel
theorem dX6_stepOverWord_33 : decode cX6_stepOverWord 33 = .ok (.getfield 13, 3) := by decide +kernel
theorem dX6_stepOverWord_36 : decode cX6_stepOverWord 36 = .ok (.iconst 1, 1) := by decide +kernel
theorem dX6_stepOverWord_37 : decode cX6_stepOverWord 37 = .ok (.iadd, 1) := by decide +kernel
theorem dX6_stepOverWord_38 : decode cX6_stepOverWord 38 = .ok (.putfield 13, 3) := by decide +kernel
theorem dX6_stepOverWord_41 : decode cX6_stepOverWord 41 = .ok (.goto (-41), 3) := by decide +kernel
theorem dX6_stepOverWord_44 : decode cX6_stepOverWord 44 = .ok (.aload_n 0, 1) := by decide +kernel
theorem dX6_stepOverWord_45 : decode cX6_stepOverWord 45 = .ok (.getfield 7, 3) := by decide +kernel
theorem dX6_stepOverWord_48 : decode cX6_stepOverWord 48 = .ok (.aload_n 0, 1) := by decide +kernel
theorem dX6_stepOverWord_49 : decode cX6_stepOverWord 49 = .ok (.getfield 29, 3) := by decide +kernel
theorem dX6_stepOverWord_52 : decode cX6_stepOverWord 52 = .ok (.invokevirtual 25, 3) := by decide +kernel
theorem dX6_stepOverWord_55 : decode cX6_stepOverWord 55 = .ok (.bipush 97, 2) := by decide +kernel
theorem dX6_stepOverWord_57 : decode cX6_stepOverWord 57 = .ok (.isub, 1) := by decide +kernel
theorem dX6_stepOverWord_58 : decode cX6_stepOverWord 58 = .ok (.istore_n 1, 1) := by decide +kernel
theorem dX6_stepOverWord_59 : decode cX6_stepOverWord 59 = .ok (.aload_n 0, 1) := by decide +kernel
theorem dX6_stepOverWord_60 : decode cX6_stepOverWord 60 = .ok (.getfield 13, 3) := by decide +kernel
