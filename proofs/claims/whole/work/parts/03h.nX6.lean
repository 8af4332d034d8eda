set_option maxRecDepth 20000 in
theorem ggX6_init_X4_init : GoodIn wsX6_init wsX4_init := goodIn_r _ [18, 19, 2, 3, 12, 20, 21, 27, 28] (by decide +kernel) (by decide +kernel)
set_option maxRecDepth 20000 in
theorem gX6_init_X4_init : GoodIn wsX6_init (wsX4_init) := ggX6_init_X4_init
set_option maxRecDepth 20000 in
theorem ggX6_init_X2_init : GoodIn wsX6_init wsX2_init := goodIn_r _ [24, 25, 2, 3, 12, 26, 34] (by decide +kernel) (by decide +kernel)
set_option maxRecDepth 20000 in
theorem gX6_init_X2_init : GoodIn wsX6_init (wsX2_init) := ggX6_init_X2_init
theorem dX6_init_0 : decode cX6_init 0 = .ok (.aload_n 0, 1) := by decide +kernel
theorem dX6_init_1 : decode cX6_init 1 = .ok (.invokespecial 3, 3) := by decide +kernel
theorem dX6_init_4 : decode cX6_init 4 = .ok (.aload_n 0, 1) := by decide +kernel
theorem dX6_init_5 : decode cX6_init 5 = .ok (.new 9, 3) := by decide +kernel
theorem dX6_init_8 : decode cX6_init 8 = .ok (.dup, 1) := by decide +kernel
theorem dX6_init_9 : decode cX6_init 9 = .ok (.invokespecial 11, 3) := by decide +kernel
theorem dX6_init_12 : decode cX6_init 12 = .ok (.putfield 12, 3) := by decide +kernel
theorem dX6_init_15 : decode cX6_init 15 = .ok (.aload_n 0, 1) := by decide +kernel
theorem dX6_init_16 : decode cX6_init 16 = .ok (.new 18, 3) := by decide +kernel
theorem dX6_init_19 : decode cX6_init 19 = .ok (.dup, 1) := by decide +kernel
theorem dX6_init_20 : decode cX6_init 20 = .ok (.invokespecial 20, 3) := by decide +kernel
theorem dX6_init_23 : decode cX6_init 23 = .ok (.putfield 21, 3) := by decide +kernel
theorem dX6_init_26 : decode cX6_init 26 = .ok (.aload_n 0, 1) := by decide +kernel
theorem dX6_init_27 : decode cX6_init 27 = .ok (.bipush 49, 2) := by decide +kernel
theorem dX6_init_29 : decode cX6_init 29 = .ok (.newarray .int, 2) := by decide +kernel
theorem dX6_init_31 : decode cX6_init 31 = .ok (.putfield 25, 3) := by decide +kernel
theorem dX6_init_34 : decode cX6_init 34 = .ok (.aload_n 0, 1) := by decide +kernel
theorem dX6_init_35 : decode cX6_init 35 = .ok (.bipush 49, 2) := by decide +kernel
theorem dX6_init_37 : decode cX6_init 37 = .ok (.newarray .int, 2) := by decide +kernel
theorem dX6_init_39 : decode cX6_init 39 = .ok (.putfield 29, 3) := by decide +kernel
theorem dX6_init_42 : decode cX6_init 42 = .ok (.aload_n 0, 1) := by decide +kernel
theorem dX6_init_43 : decode cX6_init 43 = .ok (.iconst 0, 1) := by decide +kernel
theorem dX6_init_44 : decode cX6_init 44 = .ok (.putfield 32, 3) := by decide +kernel
theorem dX6_init_47 : decode cX6_init 47 = .ok (.return_, 1) := by decide +kernel
theorem dX6_count_0 : decode cX6_count 0 = .ok (.aload_n 0, 1) := by decide +kernel
theorem dX6_count_1 : decode cX6_count 1 = .ok (.getfield 32, 3) := by decide +kernel
theorem dX6_count_4 : decode cX6_count 4 = .ok (.ireturn, 1) := by decide +kernel
theorem dX6_diagonal_0 : decode cX6_diagonal 0 = .ok (.iload_n 1, 1) := by decide +kernel
theorem dX6_diagonal_1 : decode cX6_diagonal 1 = .ok (.ifCond .lt 26, 3) := by decide +kernel
theorem dX6_diagonal_4 : decode cX6_diagonal 4 = .ok (.iload_n 1, 1) := by decide +kernel
theorem dX6_diagonal_5 : decode cX6_diagonal 5 = .ok (.aload_n 0, 1) := by decide +kernel
theorem dX6_diagonal_6 : decode cX6_diagonal 6 = .ok (.getfield 32, 3) := by decide +kernel
theorem dX6_diagonal_9 : decode cX6_diagonal 9 = .ok (.if_icmp .ge 18, 3) := by decide +kernel
theorem dX6_diagonal_12 : decode cX6_diagonal 12 = .ok (.iload_n 1, 1) := by decide +kernel
theorem dX6_diagonal_13 : decode cX6_diagonal 13 = .ok (.bipush 49, 2) := by decide +kernel
theorem dX6_diagonal_15 : decode cX6_diagonal 15 = .ok (.if_icmp .ge 12, 3) := by decide +kernel
theorem dX6_diagonal_18 : decode cX6_diagonal 18 = .ok (.aload_n 0, 1) := by decide +kernel
theorem dX6_diagonal_19 : decode cX6_diagonal 19 = .ok (.getfield 25, 3) := by decide +kernel
theorem dX6_diagonal_22 : decode cX6_diagonal 22 = .ok (.iload_n 1, 1) := by decide +kernel
theorem dX6_diagonal_23 : decode cX6_diagonal 23 = .ok (.iaload, 1) := by decide +kernel
theorem dX6_diagonal_24 : decode cX6_diagonal 24 = .ok (.goto 4, 3) := by decide +kernel
theorem dX6_diagonal_27 : decode cX6_diagonal 27 = .ok (.iconst 0, 1) := by decide +kernel
theorem dX6_diagonal_28 : decode cX6_diagonal 28 = .ok (.ireturn, 1) := by decide +kernel
theorem dX6_weight_0 : decode cX6_weight 0 = .ok (.iload_n 1, 1) := by decide +kernel
theorem dX6_weight_1 : decode cX6_weight 1 = .ok (.ifCond .lt 26, 3) := by decide +kernel
theorem dX6_weight_4 : decode cX6_weight 4 = .ok (.iload_n 1, 1) := by decide +kernel
theorem dX6_weight_5 : decode cX6_weight 5 = .ok (.aload_n 0, 1) := by decide +kernel
theorem dX6_weight_6 : decode cX6_weight 6 = .ok (.getfield 32, 3) := by decide +kernel
theorem dX6_weight_9 : decode cX6_weight 9 = .ok (.if_icmp .ge 18, 3) := by decide +kernel
theorem dX6_weight_12 : decode cX6_weight 12 = .ok (.iload_n 1, 1) := by decide +kernel
theorem dX6_weight_13 : decode cX6_weight 13 = .ok (.bipush 49, 2) := by decide +kernel
theorem dX6_weight_15 : decode cX6_weight 15 = .ok (.if_icmp .ge 12, 3) := by decide +kernel
theorem dX6_weight_18 : decode cX6_weight 18 = .ok (.aload_n 0, 1) := by decide +kernel
theorem dX6_weight_19 : decode cX6_weight 19 = .ok (.getfield 29, 3) := by decide +kernel
theorem dX6_weight_22 : decode cX6_weight 22 = .ok (.iload_n 1, 1) := by decide +kernel
theorem dX6_weight_23 : decode cX6_weight 23 = .ok (.iaload, 1) := by decide +kernel
theorem dX6_weight_24 : decode cX6_weight 24 = .ok (.goto 4, 3) := by decide +kernel
theorem dX6_weight_27 : decode cX6_weight 27 = .ok (.iconst 0, 1) := by decide +kernel
theorem dX6_weight_28 : decode cX6_weight 28 = .ok (.ireturn, 1) := by decide +kernel
set_option maxRecDepth 20000 in
theorem ggX6_takeApart_X4_copyFrom : GoodIn wsX6_takeApart wsX4_copyFrom := goodIn_r _ [10, 11, 12, 13, 14, 15, 16, 93, 94] (by decide +kernel) (by decide +kernel)
set_option maxRecDepth 20000 in
theorem gX6_takeApart_X4_copyFrom : GoodIn wsX6_takeApart (wsV RX6 36 RX4 yX4_copyFrom wsX4_copyFrom) := goodIn_app (goodIn_of _ (by decide +kernel)) ggX6_takeApart_X4_copyFrom
set_option maxRecDepth 20000 in
theorem ggX6_takeApart_X4_countNotZero : GoodIn wsX6_takeApart wsX4_countNotZero := goodIn_r _ [20, 16, 21, 22, 23, 9, 24, 25, 26, 27, 28, 11, 29, 30, 31, 32, 33, 34, 35, 36, 37, 38, 39, 93, 94] (by decide +kernel) (by decide +kernel)
set_option maxRecDepth 20000 in
theorem gX6_takeApart_X4_countNotZero : GoodIn wsX6_takeApart (wsV RX6 40 RX4 yX4_countNotZero wsX4_countNotZero) := goodIn_app (goodIn_of _ (by decide +kernel)) ggX6_takeApart_X4_countNotZero
set_option maxRecDepth 20000 in
theorem ggX6_takeApart_X2_countWhole : GoodIn wsX6_takeApart wsX2_countWhole := goodIn_r _ [44, 45, 46, 47, 9, 48, 16, 49, 50, 51, 43, 52, 53, 54, 34, 35, 36, 37, 38, 39, 55, 56, 57, 58, 59, 60, 61, 62, 63, 26, 27, 28, 11, 29, 30, 31, 32, 64, 65, 66, 67, 93, 94, 95] (by decide +kernel) (by decide +kernel)
set_option maxRecDepth 20000 in
theorem gX6_takeApart_X2_countWhole : GoodIn wsX6_takeApart (wsV RX6 44 RX2 yX2_countWhole wsX2_countWhole) := goodIn_app (goodIn_of _ (by decide +kernel)) ggX6_takeApart_X2_countWhole
set_option maxRecDepth 20000 in
theorem ggX6_takeApart_X2_diagonalOfRank : GoodIn wsX6_takeApart wsX2_diagonalOfRank := goodIn_r _ [71, 55, 56, 57, 9, 58, 16, 59, 60, 61, 43, 62, 63, 26, 27, 28, 11, 29, 30, 31, 32, 64, 65, 66, 67, 53, 93, 94, 95] (by decide +kernel) (by decide +kernel)
set_option maxRecDepth 20000 in
theorem gX6_takeApart_X2_diagonalOfRank : GoodIn wsX6_takeApart (wsV RX6 47 RX2 yX2_diagonalOfRank wsX2_diagonalOfRank) := goodIn_app (goodIn_of _ (by decide +kernel)) ggX6_takeApart_X2_diagonalOfRank
set_option maxRecDepth 20000 in
theorem ggX6_takeApart_X4_leastOn : GoodIn wsX6_takeApart wsX4_leastOn := goodIn_r _ [75, 16, 76, 77, 78, 79, 25, 26, 27, 9, 28, 11, 29, 30, 31, 32, 93, 94] (by decide +kernel) (by decide +kernel)
set_option maxRecDepth 20000 in
theorem gX6_takeApart_X4_leastOn : GoodIn wsX6_takeApart (wsV RX6 51 RX4 yX4_leastOn wsX4_leastOn) := goodIn_app (goodIn_of _ (by decide +kernel)) ggX6_takeApart_X4_leastOn
set_option maxRecDepth 20000 in
theorem ggX6_takeApart_X4_increaseOn : GoodIn wsX6_takeApart wsX4_increaseOn := goodIn_r _ [83, 16, 25, 26, 27, 9, 28, 11, 29, 30, 31, 32, 84, 85, 86, 87, 93, 94] (by decide +kernel) (by decide +kernel)
set_option maxRecDepth 20000 in
theorem gX6_takeApart_X4_increaseOn : GoodIn wsX6_takeApart (wsV RX6 55 RX4 yX4_increaseOn wsX4_increaseOn) := goodIn_app (goodIn_of _ (by decide +kernel)) ggX6_takeApart_X4_increaseOn
theorem dX6_takeApart_0 : decode cX6_takeApart 0 = .ok (.aload_n 0, 1) := by decide +kernel
theorem dX6_takeApart_1 : decode cX6_takeApart 1 = .ok (.getfield 12, 3) := by decide +kernel
theorem dX6_takeApart_4 : decode cX6_takeApart 4 = .ok (.aload_n 1, 1) := by decide +kernel
theorem dX6_takeApart_5 : decode cX6_takeApart 5 = .ok (.invokevirtual 36, 3) := by decide +kernel
theorem dX6_takeApart_8 : decode cX6_takeApart 8 = .ok (.aload_n 0, 1) := by decide +kernel
theorem dX6_takeApart_9 : decode cX6_takeApart 9 = .ok (.iconst 0, 1) := by decide +kernel
theorem dX6_takeApart_10 : decode cX6_takeApart 10 = .ok (.putfield 32, 3) := by decide +kernel
theorem dX6_takeApart_13 : decode cX6_takeApart 13 = .ok (.iconst 0, 1) := by decide +kernel
theorem dX6_takeApart_14 : decode cX6_takeApart 14 = .ok (.istore_n 2, 1) := by decide +kernel
theorem dX6_takeApart_15 : decode cX6_takeApart 15 = .ok (.iload_n 2, 1) := by decide +kernel
theorem dX6_takeApart_16 : decode cX6_takeApart 16 = .ok (.bipush 49, 2) := by decide +kernel
theorem dX6_takeApart_18 : decode cX6_takeApart 18 = .ok (.if_icmp .ge 86, 3) := by decide +kernel
theorem dX6_takeApart_21 : decode cX6_takeApart 21 = .ok (.aload_n 0, 1) := by decide +kernel
theorem dX6_takeApart_22 : decode cX6_takeApart 22 = .ok (.getfield 12, 3) := by decide +kernel
theorem dX6_takeApart_25 : decode cX6_takeApart 25 = .ok (.invokevirtual 40, 3) := by decide +kernel
theorem dX6_takeApart_28 : decode cX6_takeApart 28 = .ok (.ifCond .le 76, 3) := by decide +kernel
theorem dX6_takeApart_31 : decode cX6_takeApart 31 = .ok (.aload_n 0, 1) := by decide +kernel
theorem dX6_takeApart_32 : decode cX6_takeApart 32 = .ok (.getfield 21, 3) := by decide +kernel
theorem dX6_takeApart_35 : decode cX6_takeApart 35 = .ok (.aload_n 0, 1) := by decide +kernel
theorem dX6_takeApart_36 : decode cX6_takeApart 36 = .ok (.getfield 12, 3) := by decide +kernel
theorem dX6_takeApart_39 : decode cX6_takeApart 39 = .ok (.invokevirtual 44, 3) := by decide +kernel
theorem dX6_takeApart_42 : decode cX6_takeApart 42 = .ok (.aload_n 0, 1) := by decide +kernel
theorem dX6_takeApart_43 : decode cX6_takeApart 43 = .ok (.getfield 21, 3) := by decide +kernel
theorem dX6_takeApart_46 : decode cX6_takeApart 46 = .ok (.aload_n 0, 1) := by decide +kernel
theorem dX6_takeApart_47 : decode cX6_takeApart 47 = .ok (.getfield 12, 3) := by decide +kernel
theorem dX6_takeApart_50 : decode cX6_takeApart 50 = .ok (.iconst 0, 1) := by decide +kernel
theorem dX6_takeApart_51 : decode cX6_takeApart 51 = .ok (.invokevirtual 47, 3) := by decide +kernel
theorem dX6_takeApart_54 : decode cX6_takeApart 54 = .ok (.istore_n 3, 1) := by decide +kernel
theorem dX6_takeApart_55 : decode cX6_takeApart 55 = .ok (.aload_n 0, 1) := by decide +kernel
theorem dX6_takeApart_56 : decode cX6_takeApart 56 = .ok (.getfield 12, 3) := by decide +kernel
theorem dX6_takeApart_59 : decode cX6_takeApart 59 = .ok (.iload_n 3, 1) := by decide +kernel
theorem dX6_takeApart_60 : decode cX6_takeApart 60 = .ok (.invokevirtual 51, 3) := by decide +kernel
theorem dX6_takeApart_63 : decode cX6_takeApart 63 = .ok (.istore 4, 2) := by decide +kernel
theorem dX6_takeApart_65 : decode cX6_takeApart 65 = .ok (.aload_n 0, 1) := by decide +kernel
theorem dX6_takeApart_66 : decode cX6_takeApart 66 = .ok (.getfield 12, 3) := by decide +kernel
theorem dX6_takeApart_69 : decode cX6_takeApart 69 = .ok (.iload_n 3, 1) := by decide +kernel
theorem dX6_takeApart_70 : decode cX6_takeApart 70 = .ok (.iload 4, 2) := by decide +kernel
theorem dX6_takeApart_72 : decode cX6_takeApart 72 = .ok (.ineg, 1) := by decide +kernel
theorem dX6_takeApart_73 : decode cX6_takeApart 73 = .ok (.invokevirtual 55, 3) := by decide +kernel
theorem dX6_takeApart_76 : decode cX6_takeApart 76 = .ok (.aload_n 0, 1) := by decide +kernel
theorem dX6_takeApart_77 : decode cX6_takeApart 77 = .ok (.getfield 25, 3) := by decide +kernel
theorem dX6_takeApart_80 : decode cX6_takeApart 80 = .ok (.iload_n 2, 1) := by decide +kernel
theorem dX6_takeApart_81 : decode cX6_takeApart 81 = .ok (.iload_n 3, 1) := by decide +kernel
theorem dX6_takeApart_82 : decode cX6_takeApart 82 = .ok (.iastore, 1) := by decide +kernel
theorem dX6_takeApart_83 : decode cX6_takeApart 83 = .ok (.aload_n 0, 1) := by decide +kernel
theorem dX6_takeApart_84 : decode cX6_takeApart 84 = .ok (.getfield 29, 3) := by decide +kernel
theorem dX6_takeApart_87 : decode cX6_takeApart 87 = .ok (.iload_n 2, 1) := by decide +kernel
theorem dX6_takeApart_88 : decode cX6_takeApart 88 = .ok (.iload 4, 2) := by decide +kernel
theorem dX6_takeApart_90 : decode cX6_takeApart 90 = .ok (.iastore, 1) := by decide +kernel
theorem dX6_takeApart_91 : decode cX6_takeApart 91 = .ok (.aload_n 0, 1) := by decide +kernel
theorem dX6_takeApart_92 : decode cX6_takeApart 92 = .ok (.iload_n 2, 1) := by decide +kernel
theorem dX6_takeApart_93 : decode cX6_takeApart 93 = .ok (.iconst 1, 1) := by decide +kernel
theorem dX6_takeApart_94 : decode cX6_takeApart 94 = .ok (.iadd, 1) := by decide +kernel
theorem dX6_takeApart_95 : decode cX6_takeApart 95 = .ok (.putfield 32, 3) := by decide +kernel
theorem dX6_takeApart_98 : decode cX6_takeApart 98 = .ok (.iinc 2 1, 3) := by decide +kernel
theorem dX6_takeApart_101 : decode cX6_takeApart 101 = .ok (.goto (-86), 3) := by decide +kernel
theorem dX6_takeApart_104 : decode cX6_takeApart 104 = .ok (.return_, 1) := by decide +kernel
