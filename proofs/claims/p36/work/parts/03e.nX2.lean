theorem dX2_init_0 : decode cX2_init 0 = .ok (.aload_n 0, 1) := by decide +kernel
theorem dX2_init_1 : decode cX2_init 1 = .ok (.invokespecial 3, 3) := by decide +kernel
theorem dX2_init_4 : decode cX2_init 4 = .ok (.aload_n 0, 1) := by decide +kernel
theorem dX2_init_5 : decode cX2_init 5 = .ok (.sipush 128, 3) := by decide +kernel
theorem dX2_init_8 : decode cX2_init 8 = .ok (.newarray .int, 2) := by decide +kernel
theorem dX2_init_10 : decode cX2_init 10 = .ok (.putfield 9, 3) := by decide +kernel
theorem dX2_init_13 : decode cX2_init 13 = .ok (.return_, 1) := by decide +kernel
theorem dX2_of_0 : decode cX2_of 0 = .ok (.iload_n 1, 1) := by decide +kernel
theorem dX2_of_1 : decode cX2_of 1 = .ok (.ifCond .lt 19, 3) := by decide +kernel
theorem dX2_of_4 : decode cX2_of 4 = .ok (.iload_n 1, 1) := by decide +kernel
theorem dX2_of_5 : decode cX2_of 5 = .ok (.sipush 128, 3) := by decide +kernel
theorem dX2_of_8 : decode cX2_of 8 = .ok (.if_icmp .ge 12, 3) := by decide +kernel
theorem dX2_of_11 : decode cX2_of 11 = .ok (.aload_n 0, 1) := by decide +kernel
theorem dX2_of_12 : decode cX2_of 12 = .ok (.getfield 9, 3) := by decide +kernel
theorem dX2_of_15 : decode cX2_of 15 = .ok (.iload_n 1, 1) := by decide +kernel
theorem dX2_of_16 : decode cX2_of 16 = .ok (.iaload, 1) := by decide +kernel
theorem dX2_of_17 : decode cX2_of 17 = .ok (.goto 4, 3) := by decide +kernel
theorem dX2_of_20 : decode cX2_of 20 = .ok (.iconst 0, 1) := by decide +kernel
theorem dX2_of_21 : decode cX2_of 21 = .ok (.ireturn, 1) := by decide +kernel
theorem dX2_put_0 : decode cX2_put 0 = .ok (.iload_n 1, 1) := by decide +kernel
theorem dX2_put_1 : decode cX2_put 1 = .ok (.ifCond .lt 17, 3) := by decide +kernel
theorem dX2_put_4 : decode cX2_put 4 = .ok (.iload_n 1, 1) := by decide +kernel
theorem dX2_put_5 : decode cX2_put 5 = .ok (.sipush 128, 3) := by decide +kernel
theorem dX2_put_8 : decode cX2_put 8 = .ok (.if_icmp .ge 10, 3) := by decide +kernel
theorem dX2_put_11 : decode cX2_put 11 = .ok (.aload_n 0, 1) := by decide +kernel
theorem dX2_put_12 : decode cX2_put 12 = .ok (.getfield 9, 3) := by decide +kernel
theorem dX2_put_15 : decode cX2_put 15 = .ok (.iload_n 1, 1) := by decide +kernel
theorem dX2_put_16 : decode cX2_put 16 = .ok (.iload_n 2, 1) := by decide +kernel
theorem dX2_put_17 : decode cX2_put 17 = .ok (.iastore, 1) := by decide +kernel
theorem dX2_put_18 : decode cX2_put 18 = .ok (.return_, 1) := by decide +kernel
set_option maxRecDepth 20000 in
theorem ggX2_countWhole_X4_allLines : GoodIn wsX2_countWhole wsX4_allLines := goodIn_r _ [5, 6, 41, 42] (by decide +kernel) (by decide +kernel)
set_option maxRecDepth 20000 in
theorem gX2_countWhole_X4_allLines : GoodIn wsX2_countWhole (wsV RX2 15 RX4 yX4_allLines wsX4_allLines) := goodIn_app (goodIn_of _ (by decide +kernel)) ggX2_countWhole_X4_allLines
set_option maxRecDepth 20000 in
theorem ggX2_countWhole_X2_put : GoodIn wsX2_countWhole wsX2_put := goodIn_r _ [11, 12, 43] (by decide +kernel) (by decide +kernel)
set_option maxRecDepth 20000 in
theorem gX2_countWhole_X2_put : GoodIn wsX2_countWhole (wsV RX2 21 RX2 yX2_put wsX2_put) := goodIn_app (goodIn_of _ (by decide +kernel)) ggX2_countWhole_X2_put
set_option maxRecDepth 20000 in
theorem ggX2_countWhole_J6_bitCount_0f7a4 : GoodIn wsX2_countWhole wsJ6_bitCount_0f7a4 := goodIn_r _ [16, 17, 18, 19] (by decide +kernel) (by decide +kernel)
set_option maxRecDepth 20000 in
theorem gX2_countWhole_J6_bitCount_0f7a4 : GoodIn wsX2_countWhole (va_wsS RX2 25 yJ6_bitCount_0f7a4 wsJ6_bitCount_0f7a4) := goodIn_app (goodIn_of _ (by decide +kernel)) ggX2_countWhole_J6_bitCount_0f7a4
set_option maxRecDepth 20000 in
theorem ggX2_countWhole_X4_size : GoodIn wsX2_countWhole wsX4_size := goodIn_r _ [23, 6, 41, 42] (by decide +kernel) (by decide +kernel)
set_option maxRecDepth 20000 in
theorem gX2_countWhole_X4_size : GoodIn wsX2_countWhole (wsV RX2 31 RX4 yX4_size wsX4_size) := goodIn_app (goodIn_of _ (by decide +kernel)) ggX2_countWhole_X4_size
set_option maxRecDepth 20000 in
theorem ggX2_countWhole_X2_countThrough : GoodIn wsX2_countWhole wsX2_countThrough := goodIn_r _ [27, 28, 29, 30, 4, 31, 32, 33, 34, 35, 36, 6, 37, 38, 39, 10, 40, 12, 41, 42, 43] (by decide +kernel) (by decide +kernel)
set_option maxRecDepth 20000 in
theorem gX2_countWhole_X2_countThrough : GoodIn wsX2_countWhole (wsV RX2 34 RX2 yX2_countThrough wsX2_countThrough) := goodIn_app (goodIn_of _ (by decide +kernel)) ggX2_countWhole_X2_countThrough
theorem dX2_countWhole_0 : decode cX2_countWhole 0 = .ok (.aload_n 1, 1) := by decide +kernel
theorem dX2_countWhole_1 : decode cX2_countWhole 1 = .ok (.invokevirtual 15, 3) := by decide +kernel
theorem dX2_countWhole_4 : decode cX2_countWhole 4 = .ok (.istore_n 2, 1) := by decide +kernel
theorem dX2_countWhole_5 : decode cX2_countWhole 5 = .ok (.aload_n 0, 1) := by decide +kernel
theorem dX2_countWhole_6 : decode cX2_countWhole 6 = .ok (.iload_n 2, 1) := by decide +kernel
theorem dX2_countWhole_7 : decode cX2_countWhole 7 = .ok (.iconst 1, 1) := by decide +kernel
theorem dX2_countWhole_8 : decode cX2_countWhole 8 = .ok (.invokevirtual 21, 3) := by decide +kernel
theorem dX2_countWhole_11 : decode cX2_countWhole 11 = .ok (.iload_n 2, 1) := by decide +kernel
theorem dX2_countWhole_12 : decode cX2_countWhole 12 = .ok (.iconst 1, 1) := by decide +kernel
theorem dX2_countWhole_13 : decode cX2_countWhole 13 = .ok (.isub, 1) := by decide +kernel
theorem dX2_countWhole_14 : decode cX2_countWhole 14 = .ok (.istore_n 3, 1) := by decide +kernel
theorem dX2_countWhole_15 : decode cX2_countWhole 15 = .ok (.iload_n 3, 1) := by decide +kernel
theorem dX2_countWhole_16 : decode cX2_countWhole 16 = .ok (.ifCond .lt 58, 3) := by decide +kernel
theorem dX2_countWhole_19 : decode cX2_countWhole 19 = .ok (.iload_n 3, 1) := by decide +kernel
theorem dX2_countWhole_20 : decode cX2_countWhole 20 = .ok (.invokestatic 25, 3) := by decide +kernel
theorem dX2_countWhole_23 : decode cX2_countWhole 23 = .ok (.istore 4, 2) := by decide +kernel
theorem dX2_countWhole_25 : decode cX2_countWhole 25 = .ok (.iconst 0, 1) := by decide +kernel
theorem dX2_countWhole_26 : decode cX2_countWhole 26 = .ok (.istore 5, 2) := by decide +kernel
theorem dX2_countWhole_28 : decode cX2_countWhole 28 = .ok (.iconst 0, 1) := by decide +kernel
theorem dX2_countWhole_29 : decode cX2_countWhole 29 = .ok (.istore 6, 2) := by decide +kernel
theorem dX2_countWhole_31 : decode cX2_countWhole 31 = .ok (.iload 6, 2) := by decide +kernel
theorem dX2_countWhole_33 : decode cX2_countWhole 33 = .ok (.aload_n 1, 1) := by decide +kernel
theorem dX2_countWhole_34 : decode cX2_countWhole 34 = .ok (.invokevirtual 31, 3) := by decide +kernel
theorem dX2_countWhole_37 : decode cX2_countWhole 37 = .ok (.if_icmp .ge 24, 3) := by decide +kernel
theorem dX2_countWhole_40 : decode cX2_countWhole 40 = .ok (.iload 5, 2) := by decide +kernel
theorem dX2_countWhole_42 : decode cX2_countWhole 42 = .ok (.aload_n 0, 1) := by decide +kernel
theorem dX2_countWhole_43 : decode cX2_countWhole 43 = .ok (.aload_n 1, 1) := by decide +kernel
theorem dX2_countWhole_44 : decode cX2_countWhole 44 = .ok (.iload 4, 2) := by decide +kernel
theorem dX2_countWhole_46 : decode cX2_countWhole 46 = .ok (.iload 6, 2) := by decide +kernel
theorem dX2_countWhole_48 : decode cX2_countWhole 48 = .ok (.iload_n 3, 1) := by decide +kernel
theorem dX2_countWhole_49 : decode cX2_countWhole 49 = .ok (.invokevirtual 34, 3) := by decide +kernel
theorem dX2_countWhole_52 : decode cX2_countWhole 52 = .ok (.iadd, 1) := by decide +kernel
theorem dX2_countWhole_53 : decode cX2_countWhole 53 = .ok (.istore 5, 2) := by decide +kernel
theorem dX2_countWhole_55 : decode cX2_countWhole 55 = .ok (.iinc 6 1, 3) := by decide +kernel
theorem dX2_countWhole_58 : decode cX2_countWhole 58 = .ok (.goto (-27), 3) := by decide +kernel
theorem dX2_countWhole_61 : decode cX2_countWhole 61 = .ok (.aload_n 0, 1) := by decide +kernel
theorem dX2_countWhole_62 : decode cX2_countWhole 62 = .ok (.iload_n 3, 1) := by decide +kernel
theorem dX2_countWhole_63 : decode cX2_countWhole 63 = .ok (.iload 5, 2) := by decide +kernel
theorem dX2_countWhole_65 : decode cX2_countWhole 65 = .ok (.invokevirtual 21, 3) := by decide +kernel
theorem dX2_countWhole_68 : decode cX2_countWhole 68 = .ok (.iinc 3 (-1), 3) := by decide +kernel
theorem dX2_countWhole_71 : decode cX2_countWhole 71 = .ok (.goto (-56), 3) := by decide +kernel
theorem dX2_countWhole_74 : decode cX2_countWhole 74 = .ok (.return_, 1) := by decide +kernel
set_option maxRecDepth 20000 in
theorem ggX2_countThrough_X4_at : GoodIn wsX2_countThrough wsX4_at := goodIn_r _ [5, 6, 7, 8, 9, 4, 10, 11, 18, 19] (by decide +kernel) (by decide +kernel)
set_option maxRecDepth 20000 in
theorem gX2_countThrough_X4_at : GoodIn wsX2_countThrough (wsV RX2 38 RX4 yX4_at wsX4_at) := goodIn_app (goodIn_of _ (by decide +kernel)) ggX2_countThrough_X4_at
set_option maxRecDepth 20000 in
theorem ggX2_countThrough_X2_of : GoodIn wsX2_countThrough wsX2_of := goodIn_r _ [16, 17, 20] (by decide +kernel) (by decide +kernel)
set_option maxRecDepth 20000 in
theorem gX2_countThrough_X2_of : GoodIn wsX2_countThrough (wsV RX2 42 RX2 yX2_of wsX2_of) := goodIn_app (goodIn_of _ (by decide +kernel)) ggX2_countThrough_X2_of
theorem dX2_countThrough_0 : decode cX2_countThrough 0 = .ok (.iload 4, 2) := by decide +kernel
theorem dX2_countThrough_2 : decode cX2_countThrough 2 = .ok (.iconst 1, 1) := by decide +kernel
theorem dX2_countThrough_3 : decode cX2_countThrough 3 = .ok (.iload_n 3, 1) := by decide +kernel
theorem dX2_countThrough_4 : decode cX2_countThrough 4 = .ok (.ishl, 1) := by decide +kernel
theorem dX2_countThrough_5 : decode cX2_countThrough 5 = .ok (.ior, 1) := by decide +kernel
theorem dX2_countThrough_6 : decode cX2_countThrough 6 = .ok (.istore 5, 2) := by decide +kernel
theorem dX2_countThrough_8 : decode cX2_countThrough 8 = .ok (.iload 5, 2) := by decide +kernel
theorem dX2_countThrough_10 : decode cX2_countThrough 10 = .ok (.iload 4, 2) := by decide +kernel
theorem dX2_countThrough_12 : decode cX2_countThrough 12 = .ok (.if_icmp .eq 12, 3) := by decide +kernel
theorem dX2_countThrough_15 : decode cX2_countThrough 15 = .ok (.aload_n 1, 1) := by decide +kernel
theorem dX2_countThrough_16 : decode cX2_countThrough 16 = .ok (.iload_n 2, 1) := by decide +kernel
theorem dX2_countThrough_17 : decode cX2_countThrough 17 = .ok (.iload_n 3, 1) := by decide +kernel
theorem dX2_countThrough_18 : decode cX2_countThrough 18 = .ok (.invokevirtual 38, 3) := by decide +kernel
theorem dX2_countThrough_21 : decode cX2_countThrough 21 = .ok (.ifCond .ne 7, 3) := by decide +kernel
theorem dX2_countThrough_24 : decode cX2_countThrough 24 = .ok (.iconst 0, 1) := by decide +kernel
theorem dX2_countThrough_25 : decode cX2_countThrough 25 = .ok (.goto 9, 3) := by decide +kernel
theorem dX2_countThrough_28 : decode cX2_countThrough 28 = .ok (.aload_n 0, 1) := by decide +kernel
theorem dX2_countThrough_29 : decode cX2_countThrough 29 = .ok (.iload 5, 2) := by decide +kernel
theorem dX2_countThrough_31 : decode cX2_countThrough 31 = .ok (.invokevirtual 42, 3) := by decide +kernel
theorem dX2_countThrough_34 : decode cX2_countThrough 34 = .ok (.ireturn, 1) := by decide +kernel
set_option maxRecDepth 20000 in
theorem ggX2_diagonalOfRank_X4_size : GoodIn wsX2_diagonalOfRank wsX4_size := goodIn_r _ [5, 6, 26, 27] (by decide +kernel) (by decide +kernel)
set_option maxRecDepth 20000 in
theorem gX2_diagonalOfRank_X4_size : GoodIn wsX2_diagonalOfRank (wsV RX2 31 RX4 yX4_size wsX4_size) := goodIn_app (goodIn_of _ (by decide +kernel)) ggX2_diagonalOfRank_X4_size
set_option maxRecDepth 20000 in
theorem ggX2_diagonalOfRank_X2_countThrough : GoodIn wsX2_diagonalOfRank wsX2_countThrough := goodIn_r _ [11, 12, 13, 14, 4, 15, 16, 17, 18, 19, 20, 6, 21, 22, 23, 10, 24, 25, 26, 27, 28] (by decide +kernel) (by decide +kernel)
set_option maxRecDepth 20000 in
theorem gX2_diagonalOfRank_X2_countThrough : GoodIn wsX2_diagonalOfRank (wsV RX2 34 RX2 yX2_countThrough wsX2_countThrough) := goodIn_app (goodIn_of _ (by decide +kernel)) ggX2_diagonalOfRank_X2_countThrough
theorem dX2_diagonalOfRank_0 : decode cX2_diagonalOfRank 0 = .ok (.iconst 0, 1) := by decide +kernel
theorem dX2_diagonalOfRank_1 : decode cX2_diagonalOfRank 1 = .ok (.istore_n 3, 1) := by decide +kernel
theorem dX2_diagonalOfRank_2 : decode cX2_diagonalOfRank 2 = .ok (.iconst 0, 1) := by decide +kernel
theorem dX2_diagonalOfRank_3 : decode cX2_diagonalOfRank 3 = .ok (.istore 4, 2) := by decide +kernel
theorem dX2_diagonalOfRank_5 : decode cX2_diagonalOfRank 5 = .ok (.iload_n 2, 1) := by decide +kernel
theorem dX2_diagonalOfRank_6 : decode cX2_diagonalOfRank 6 = .ok (.istore 5, 2) := by decide +kernel
theorem dX2_diagonalOfRank_8 : decode cX2_diagonalOfRank 8 = .ok (.iconst 0, 1) := by decide +kernel
theorem dX2_diagonalOfRank_9 : decode cX2_diagonalOfRank 9 = .ok (.istore 6, 2) := by decide +kernel
theorem dX2_diagonalOfRank_11 : decode cX2_diagonalOfRank 11 = .ok (.iload 6, 2) := by decide +kernel
theorem dX2_diagonalOfRank_13 : decode cX2_diagonalOfRank 13 = .ok (.aload_n 1, 1) := by decide +kernel
theorem dX2_diagonalOfRank_14 : decode cX2_diagonalOfRank 14 = .ok (.invokevirtual 31, 3) := by decide +kernel
theorem dX2_diagonalOfRank_17 : decode cX2_diagonalOfRank 17 = .ok (.if_icmp .ge 86, 3) := by decide +kernel
theorem dX2_diagonalOfRank_20 : decode cX2_diagonalOfRank 20 = .ok (.iconst 0, 1) := by decide +kernel
theorem dX2_diagonalOfRank_21 : decode cX2_diagonalOfRank 21 = .ok (.istore 7, 2) := by decide +kernel
theorem dX2_diagonalOfRank_23 : decode cX2_diagonalOfRank 23 = .ok (.aload_n 0, 1) := by decide +kernel
theorem dX2_diagonalOfRank_24 : decode cX2_diagonalOfRank 24 = .ok (.aload_n 1, 1) := by decide +kernel
theorem dX2_diagonalOfRank_25 : decode cX2_diagonalOfRank 25 = .ok (.iload 6, 2) := by decide +kernel
theorem dX2_diagonalOfRank_27 : decode cX2_diagonalOfRank 27 = .ok (.iload 7, 2) := by decide +kernel
theorem dX2_diagonalOfRank_29 : decode cX2_diagonalOfRank 29 = .ok (.iload 4, 2) := by decide +kernel
theorem dX2_diagonalOfRank_31 : decode cX2_diagonalOfRank 31 = .ok (.invokevirtual 34, 3) := by decide +kernel
theorem dX2_diagonalOfRank_34 : decode cX2_diagonalOfRank 34 = .ok (.istore 8, 2) := by decide +kernel
theorem dX2_diagonalOfRank_36 : decode cX2_diagonalOfRank 36 = .ok (.iload 7, 2) := by decide +kernel
theorem dX2_diagonalOfRank_38 : decode cX2_diagonalOfRank 38 = .ok (.aload_n 1, 1) := by decide +kernel
theorem dX2_diagonalOfRank_39 : decode cX2_diagonalOfRank 39 = .ok (.invokevirtual 31, 3) := by decide +kernel
theorem dX2_diagonalOfRank_42 : decode cX2_diagonalOfRank 42 = .ok (.iconst 1, 1) := by decide +kernel
theorem dX2_diagonalOfRank_43 : decode cX2_diagonalOfRank 43 = .ok (.isub, 1) := by decide +kernel
theorem dX2_diagonalOfRank_44 : decode cX2_diagonalOfRank 44 = .ok (.if_icmp .ge 36, 3) := by decide +kernel
theorem dX2_diagonalOfRank_47 : decode cX2_diagonalOfRank 47 = .ok (.iload 5, 2) := by decide +kernel
theorem dX2_diagonalOfRank_49 : decode cX2_diagonalOfRank 49 = .ok (.iload 8, 2) := by decide +kernel
theorem dX2_diagonalOfRank_51 : decode cX2_diagonalOfRank 51 = .ok (.if_icmp .lt 29, 3) := by decide +kernel
theorem dX2_diagonalOfRank_54 : decode cX2_diagonalOfRank 54 = .ok (.iload 5, 2) := by decide +kernel
theorem dX2_diagonalOfRank_56 : decode cX2_diagonalOfRank 56 = .ok (.iload 8, 2) := by decide +kernel
theorem dX2_diagonalOfRank_58 : decode cX2_diagonalOfRank 58 = .ok (.isub, 1) := by decide +kernel
theorem dX2_diagonalOfRank_59 : decode cX2_diagonalOfRank 59 = .ok (.istore 5, 2) := by decide +kernel
theorem dX2_diagonalOfRank_61 : decode cX2_diagonalOfRank 61 = .ok (.iinc 7 1, 3) := by decide +kernel
theorem dX2_diagonalOfRank_64 : decode cX2_diagonalOfRank 64 = .ok (.aload_n 0, 1) := by decide +kernel
theorem dX2_diagonalOfRank_65 : decode cX2_diagonalOfRank 65 = .ok (.aload_n 1, 1) := by decide +kernel
theorem dX2_diagonalOfRank_66 : decode cX2_diagonalOfRank 66 = .ok (.iload 6, 2) := by decide +kernel
theorem dX2_diagonalOfRank_68 : decode cX2_diagonalOfRank 68 = .ok (.iload 7, 2) := by decide +kernel
theorem dX2_diagonalOfRank_70 : decode cX2_diagonalOfRank 70 = .ok (.iload 4, 2) := by decide +kernel
theorem dX2_diagonalOfRank_72 : decode cX2_diagonalOfRank 72 = .ok (.invokevirtual 34, 3) := by decide +kernel
theorem dX2_diagonalOfRank_75 : decode cX2_diagonalOfRank 75 = .ok (.istore 8, 2) := by decide +kernel
theorem dX2_diagonalOfRank_77 : decode cX2_diagonalOfRank 77 = .ok (.goto (-41), 3) := by decide +kernel
theorem dX2_diagonalOfRank_80 : decode cX2_diagonalOfRank 80 = .ok (.iload_n 3, 1) := by decide +kernel
theorem dX2_diagonalOfRank_81 : decode cX2_diagonalOfRank 81 = .ok (.bipush 10, 2) := by decide +kernel
theorem dX2_diagonalOfRank_83 : decode cX2_diagonalOfRank 83 = .ok (.imul, 1) := by decide +kernel
theorem dX2_diagonalOfRank_84 : decode cX2_diagonalOfRank 84 = .ok (.iload 7, 2) := by decide +kernel
theorem dX2_diagonalOfRank_86 : decode cX2_diagonalOfRank 86 = .ok (.iadd, 1) := by decide +kernel
theorem dX2_diagonalOfRank_87 : decode cX2_diagonalOfRank 87 = .ok (.istore_n 3, 1) := by decide +kernel
theorem dX2_diagonalOfRank_88 : decode cX2_diagonalOfRank 88 = .ok (.iload 4, 2) := by decide +kernel
theorem dX2_diagonalOfRank_90 : decode cX2_diagonalOfRank 90 = .ok (.iconst 1, 1) := by decide +kernel
theorem dX2_diagonalOfRank_91 : decode cX2_diagonalOfRank 91 = .ok (.iload 7, 2) := by decide +kernel
theorem dX2_diagonalOfRank_93 : decode cX2_diagonalOfRank 93 = .ok (.ishl, 1) := by decide +kernel
theorem dX2_diagonalOfRank_94 : decode cX2_diagonalOfRank 94 = .ok (.ior, 1) := by decide +kernel
theorem dX2_diagonalOfRank_95 : decode cX2_diagonalOfRank 95 = .ok (.istore 4, 2) := by decide +kernel
theorem dX2_diagonalOfRank_97 : decode cX2_diagonalOfRank 97 = .ok (.iinc 6 1, 3) := by decide +kernel
theorem dX2_diagonalOfRank_100 : decode cX2_diagonalOfRank 100 = .ok (.goto (-89), 3) := by decide +kernel
theorem dX2_diagonalOfRank_103 : decode cX2_diagonalOfRank 103 = .ok (.iload_n 3, 1) := by decide +kernel
theorem dX2_diagonalOfRank_104 : decode cX2_diagonalOfRank 104 = .ok (.ireturn, 1) := by decide +kernel
set_option maxRecDepth 20000 in
theorem ggX2_findGreatestSums_X4_allLines : GoodIn wsX2_findGreatestSums wsX4_allLines := goodIn_r _ [9, 10, 45, 46] (by decide +kernel) (by decide +kernel)
set_option maxRecDepth 20000 in
theorem gX2_findGreatestSums_X4_allLines : GoodIn wsX2_findGreatestSums (wsV RX2 15 RX4 yX4_allLines wsX4_allLines) := goodIn_app (goodIn_of _ (by decide +kernel)) ggX2_findGreatestSums_X4_allLines
set_option maxRecDepth 20000 in
theorem ggX2_findGreatestSums_X2_put : GoodIn wsX2_findGreatestSums wsX2_put := goodIn_r _ [15, 16, 47] (by decide +kernel) (by decide +kernel)
set_option maxRecDepth 20000 in
theorem gX2_findGreatestSums_X2_put : GoodIn wsX2_findGreatestSums (wsV RX2 21 RX2 yX2_put wsX2_put) := goodIn_app (goodIn_of _ (by decide +kernel)) ggX2_findGreatestSums_X2_put
set_option maxRecDepth 20000 in
theorem ggX2_findGreatestSums_J6_bitCount_0f7a4 : GoodIn wsX2_findGreatestSums wsJ6_bitCount_0f7a4 := goodIn_r _ [20, 21, 22, 23] (by decide +kernel) (by decide +kernel)
set_option maxRecDepth 20000 in
theorem gX2_findGreatestSums_J6_bitCount_0f7a4 : GoodIn wsX2_findGreatestSums (va_wsS RX2 25 yJ6_bitCount_0f7a4 wsJ6_bitCount_0f7a4) := goodIn_app (goodIn_of _ (by decide +kernel)) ggX2_findGreatestSums_J6_bitCount_0f7a4
set_option maxRecDepth 20000 in
theorem ggX2_findGreatestSums_X4_size : GoodIn wsX2_findGreatestSums wsX4_size := goodIn_r _ [27, 10, 45, 46] (by decide +kernel) (by decide +kernel)
set_option maxRecDepth 20000 in
theorem gX2_findGreatestSums_X4_size : GoodIn wsX2_findGreatestSums (wsV RX2 31 RX4 yX4_size wsX4_size) := goodIn_app (goodIn_of _ (by decide +kernel)) ggX2_findGreatestSums_X4_size
set_option maxRecDepth 20000 in
theorem ggX2_findGreatestSums_X2_sumThrough : GoodIn wsX2_findGreatestSums wsX2_sumThrough := goodIn_r _ [31, 32, 33, 34, 8, 35, 36, 37, 38, 39, 40, 10, 41, 42, 43, 14, 44, 16, 45, 46, 47] (by decide +kernel) (by decide +kernel)
set_option maxRecDepth 20000 in
theorem gX2_findGreatestSums_X2_sumThrough : GoodIn wsX2_findGreatestSums (wsV RX2 45 RX2 yX2_sumThrough wsX2_sumThrough) := goodIn_app (goodIn_of _ (by decide +kernel)) ggX2_findGreatestSums_X2_sumThrough
theorem dX2_findGreatestSums_0 : decode cX2_findGreatestSums 0 = .ok (.aload_n 1, 1) := by decide +kernel
theorem dX2_findGreatestSums_1 : decode cX2_findGreatestSums 1 = .ok (.invokevirtual 15, 3) := by decide +kernel
theorem dX2_findGreatestSums_4 : decode cX2_findGreatestSums 4 = .ok (.istore_n 2, 1) := by decide +kernel
theorem dX2_findGreatestSums_5 : decode cX2_findGreatestSums 5 = .ok (.aload_n 0, 1) := by decide +kernel
theorem dX2_findGreatestSums_6 : decode cX2_findGreatestSums 6 = .ok (.iload_n 2, 1) := by decide +kernel
theorem dX2_findGreatestSums_7 : decode cX2_findGreatestSums 7 = .ok (.iconst 0, 1) := by decide +kernel
theorem dX2_findGreatestSums_8 : decode cX2_findGreatestSums 8 = .ok (.invokevirtual 21, 3) := by decide +kernel
theorem dX2_findGreatestSums_11 : decode cX2_findGreatestSums 11 = .ok (.iload_n 2, 1) := by decide +kernel
theorem dX2_findGreatestSums_12 : decode cX2_findGreatestSums 12 = .ok (.iconst 1, 1) := by decide +kernel
theorem dX2_findGreatestSums_13 : decode cX2_findGreatestSums 13 = .ok (.isub, 1) := by decide +kernel
theorem dX2_findGreatestSums_14 : decode cX2_findGreatestSums 14 = .ok (.istore_n 3, 1) := by decide +kernel
theorem dX2_findGreatestSums_15 : decode cX2_findGreatestSums 15 = .ok (.iload_n 3, 1) := by decide +kernel
theorem dX2_findGreatestSums_16 : decode cX2_findGreatestSums 16 = .ok (.ifCond .lt 62, 3) := by decide +kernel
theorem dX2_findGreatestSums_19 : decode cX2_findGreatestSums 19 = .ok (.iload_n 3, 1) := by decide +kernel
theorem dX2_findGreatestSums_20 : decode cX2_findGreatestSums 20 = .ok (.invokestatic 25, 3) := by decide +kernel
theorem dX2_findGreatestSums_23 : decode cX2_findGreatestSums 23 = .ok (.istore 4, 2) := by decide +kernel
theorem dX2_findGreatestSums_25 : decode cX2_findGreatestSums 25 = .ok (.sipush (-1000), 3) := by decide +kernel
theorem dX2_findGreatestSums_28 : decode cX2_findGreatestSums 28 = .ok (.istore 5, 2) := by decide +kernel
theorem dX2_findGreatestSums_30 : decode cX2_findGreatestSums 30 = .ok (.iconst 0, 1) := by decide +kernel
theorem dX2_findGreatestSums_31 : decode cX2_findGreatestSums 31 = .ok (.istore 6, 2) := by decide +kernel
theorem dX2_findGreatestSums_33 : decode cX2_findGreatestSums 33 = .ok (.iload 6, 2) := by decide +kernel
theorem dX2_findGreatestSums_35 : decode cX2_findGreatestSums 35 = .ok (.aload_n 1, 1) := by decide +kernel
theorem dX2_findGreatestSums_36 : decode cX2_findGreatestSums 36 = .ok (.invokevirtual 31, 3) := by decide +kernel
theorem dX2_findGreatestSums_39 : decode cX2_findGreatestSums 39 = .ok (.if_icmp .ge 26, 3) := by decide +kernel
theorem dX2_findGreatestSums_42 : decode cX2_findGreatestSums 42 = .ok (.iload 5, 2) := by decide +kernel
theorem dX2_findGreatestSums_44 : decode cX2_findGreatestSums 44 = .ok (.aload_n 0, 1) := by decide +kernel
theorem dX2_findGreatestSums_45 : decode cX2_findGreatestSums 45 = .ok (.aload_n 1, 1) := by decide +kernel
theorem dX2_findGreatestSums_46 : decode cX2_findGreatestSums 46 = .ok (.iload 4, 2) := by decide +kernel
theorem dX2_findGreatestSums_48 : decode cX2_findGreatestSums 48 = .ok (.iload 6, 2) := by decide +kernel
theorem dX2_findGreatestSums_50 : decode cX2_findGreatestSums 50 = .ok (.iload_n 3, 1) := by decide +kernel
theorem dX2_findGreatestSums_51 : decode cX2_findGreatestSums 51 = .ok (.invokevirtual 45, 3) := by decide +kernel
theorem dX2_findGreatestSums_54 : decode cX2_findGreatestSums 54 = .ok (.invokestatic 48, 3) := by decide +kernel
theorem dX2_findGreatestSums_57 : decode cX2_findGreatestSums 57 = .ok (.istore 5, 2) := by decide +kernel
theorem dX2_findGreatestSums_59 : decode cX2_findGreatestSums 59 = .ok (.iinc 6 1, 3) := by decide +kernel
theorem dX2_findGreatestSums_62 : decode cX2_findGreatestSums 62 = .ok (.goto (-29), 3) := by decide +kernel
theorem dX2_findGreatestSums_65 : decode cX2_findGreatestSums 65 = .ok (.aload_n 0, 1) := by decide +kernel
theorem dX2_findGreatestSums_66 : decode cX2_findGreatestSums 66 = .ok (.iload_n 3, 1) := by decide +kernel
theorem dX2_findGreatestSums_67 : decode cX2_findGreatestSums 67 = .ok (.iload 5, 2) := by decide +kernel
theorem dX2_findGreatestSums_69 : decode cX2_findGreatestSums 69 = .ok (.invokevirtual 21, 3) := by decide +kernel
theorem dX2_findGreatestSums_72 : decode cX2_findGreatestSums 72 = .ok (.iinc 3 (-1), 3) := by decide +kernel
theorem dX2_findGreatestSums_75 : decode cX2_findGreatestSums 75 = .ok (.goto (-60), 3) := by decide +kernel
theorem dX2_findGreatestSums_78 : decode cX2_findGreatestSums 78 = .ok (.return_, 1) := by decide +kernel
set_option maxRecDepth 20000 in
theorem ggX2_sumThrough_X4_at : GoodIn wsX2_sumThrough wsX4_at := goodIn_r _ [5, 6, 7, 8, 9, 4, 10, 11, 18, 19] (by decide +kernel) (by decide +kernel)
set_option maxRecDepth 20000 in
theorem gX2_sumThrough_X4_at : GoodIn wsX2_sumThrough (wsV RX2 38 RX4 yX4_at wsX4_at) := goodIn_app (goodIn_of _ (by decide +kernel)) ggX2_sumThrough_X4_at
set_option maxRecDepth 20000 in
theorem ggX2_sumThrough_X2_of : GoodIn wsX2_sumThrough wsX2_of := goodIn_r _ [16, 17, 20] (by decide +kernel) (by decide +kernel)
set_option maxRecDepth 20000 in
theorem gX2_sumThrough_X2_of : GoodIn wsX2_sumThrough (wsV RX2 42 RX2 yX2_of wsX2_of) := goodIn_app (goodIn_of _ (by decide +kernel)) ggX2_sumThrough_X2_of
theorem dX2_sumThrough_0 : decode cX2_sumThrough 0 = .ok (.iload 4, 2) := by decide +kernel
theorem dX2_sumThrough_2 : decode cX2_sumThrough 2 = .ok (.iconst 1, 1) := by decide +kernel
theorem dX2_sumThrough_3 : decode cX2_sumThrough 3 = .ok (.iload_n 3, 1) := by decide +kernel
theorem dX2_sumThrough_4 : decode cX2_sumThrough 4 = .ok (.ishl, 1) := by decide +kernel
theorem dX2_sumThrough_5 : decode cX2_sumThrough 5 = .ok (.ior, 1) := by decide +kernel
theorem dX2_sumThrough_6 : decode cX2_sumThrough 6 = .ok (.istore 5, 2) := by decide +kernel
theorem dX2_sumThrough_8 : decode cX2_sumThrough 8 = .ok (.iload 5, 2) := by decide +kernel
theorem dX2_sumThrough_10 : decode cX2_sumThrough 10 = .ok (.iload 4, 2) := by decide +kernel
theorem dX2_sumThrough_12 : decode cX2_sumThrough 12 = .ok (.if_icmp .ne 9, 3) := by decide +kernel
theorem dX2_sumThrough_15 : decode cX2_sumThrough 15 = .ok (.sipush (-1000), 3) := by decide +kernel
theorem dX2_sumThrough_18 : decode cX2_sumThrough 18 = .ok (.goto 16, 3) := by decide +kernel
theorem dX2_sumThrough_21 : decode cX2_sumThrough 21 = .ok (.aload_n 1, 1) := by decide +kernel
theorem dX2_sumThrough_22 : decode cX2_sumThrough 22 = .ok (.iload_n 2, 1) := by decide +kernel
theorem dX2_sumThrough_23 : decode cX2_sumThrough 23 = .ok (.iload_n 3, 1) := by decide +kernel
theorem dX2_sumThrough_24 : decode cX2_sumThrough 24 = .ok (.invokevirtual 38, 3) := by decide +kernel
theorem dX2_sumThrough_27 : decode cX2_sumThrough 27 = .ok (.aload_n 0, 1) := by decide +kernel
theorem dX2_sumThrough_28 : decode cX2_sumThrough 28 = .ok (.iload 5, 2) := by decide +kernel
theorem dX2_sumThrough_30 : decode cX2_sumThrough 30 = .ok (.invokevirtual 42, 3) := by decide +kernel
theorem dX2_sumThrough_33 : decode cX2_sumThrough 33 = .ok (.iadd, 1) := by decide +kernel
theorem dX2_sumThrough_34 : decode cX2_sumThrough 34 = .ok (.ireturn, 1) := by decide +kernel
set_option maxRecDepth 20000 in
theorem ggX2_diagonalOfGreatestSum_X4_size : GoodIn wsX2_diagonalOfGreatestSum wsX4_size := goodIn_r _ [5, 6, 26, 27] (by decide +kernel) (by decide +kernel)
set_option maxRecDepth 20000 in
theorem gX2_diagonalOfGreatestSum_X4_size : GoodIn wsX2_diagonalOfGreatestSum (wsV RX2 31 RX4 yX4_size wsX4_size) := goodIn_app (goodIn_of _ (by decide +kernel)) ggX2_diagonalOfGreatestSum_X4_size
set_option maxRecDepth 20000 in
theorem ggX2_diagonalOfGreatestSum_X2_sumThrough : GoodIn wsX2_diagonalOfGreatestSum wsX2_sumThrough := goodIn_r _ [11, 12, 13, 14, 4, 15, 16, 17, 18, 19, 20, 6, 21, 22, 23, 10, 24, 25, 26, 27, 28] (by decide +kernel) (by decide +kernel)
set_option maxRecDepth 20000 in
theorem gX2_diagonalOfGreatestSum_X2_sumThrough : GoodIn wsX2_diagonalOfGreatestSum (wsV RX2 45 RX2 yX2_sumThrough wsX2_sumThrough) := goodIn_app (goodIn_of _ (by decide +kernel)) ggX2_diagonalOfGreatestSum_X2_sumThrough
set_option maxRecDepth 20000 in
theorem ggX2_diagonalOfGreatestSum_X2_of : GoodIn wsX2_diagonalOfGreatestSum wsX2_of := goodIn_r _ [24, 25, 28] (by decide +kernel) (by decide +kernel)
set_option maxRecDepth 20000 in
theorem gX2_diagonalOfGreatestSum_X2_of : GoodIn wsX2_diagonalOfGreatestSum (wsV RX2 42 RX2 yX2_of wsX2_of) := goodIn_app (goodIn_of _ (by decide +kernel)) ggX2_diagonalOfGreatestSum_X2_of
theorem dX2_diagonalOfGreatestSum_0 : decode cX2_diagonalOfGreatestSum 0 = .ok (.iconst 0, 1) := by decide +kernel
theorem dX2_diagonalOfGreatestSum_1 : decode cX2_diagonalOfGreatestSum 1 = .ok (.istore_n 2, 1) := by decide +kernel
theorem dX2_diagonalOfGreatestSum_2 : decode cX2_diagonalOfGreatestSum 2 = .ok (.iconst 0, 1) := by decide +kernel
theorem dX2_diagonalOfGreatestSum_3 : decode cX2_diagonalOfGreatestSum 3 = .ok (.istore_n 3, 1) := by decide +kernel
theorem dX2_diagonalOfGreatestSum_4 : decode cX2_diagonalOfGreatestSum 4 = .ok (.iconst 0, 1) := by decide +kernel
theorem dX2_diagonalOfGreatestSum_5 : decode cX2_diagonalOfGreatestSum 5 = .ok (.istore 4, 2) := by decide +kernel
theorem dX2_diagonalOfGreatestSum_7 : decode cX2_diagonalOfGreatestSum 7 = .ok (.iload 4, 2) := by decide +kernel
theorem dX2_diagonalOfGreatestSum_9 : decode cX2_diagonalOfGreatestSum 9 = .ok (.aload_n 1, 1) := by decide +kernel
theorem dX2_diagonalOfGreatestSum_10 : decode cX2_diagonalOfGreatestSum 10 = .ok (.invokevirtual 31, 3) := by decide +kernel
theorem dX2_diagonalOfGreatestSum_13 : decode cX2_diagonalOfGreatestSum 13 = .ok (.if_icmp .ge 62, 3) := by decide +kernel
theorem dX2_diagonalOfGreatestSum_16 : decode cX2_diagonalOfGreatestSum 16 = .ok (.iconst 0, 1) := by decide +kernel
theorem dX2_diagonalOfGreatestSum_17 : decode cX2_diagonalOfGreatestSum 17 = .ok (.istore 5, 2) := by decide +kernel
theorem dX2_diagonalOfGreatestSum_19 : decode cX2_diagonalOfGreatestSum 19 = .ok (.iload 5, 2) := by decide +kernel
theorem dX2_diagonalOfGreatestSum_21 : decode cX2_diagonalOfGreatestSum 21 = .ok (.aload_n 1, 1) := by decide +kernel
theorem dX2_diagonalOfGreatestSum_22 : decode cX2_diagonalOfGreatestSum 22 = .ok (.invokevirtual 31, 3) := by decide +kernel
theorem dX2_diagonalOfGreatestSum_25 : decode cX2_diagonalOfGreatestSum 25 = .ok (.iconst 1, 1) := by decide +kernel
theorem dX2_diagonalOfGreatestSum_26 : decode cX2_diagonalOfGreatestSum 26 = .ok (.isub, 1) := by decide +kernel
theorem dX2_diagonalOfGreatestSum_27 : decode cX2_diagonalOfGreatestSum 27 = .ok (.if_icmp .ge 27, 3) := by decide +kernel
theorem dX2_diagonalOfGreatestSum_30 : decode cX2_diagonalOfGreatestSum 30 = .ok (.aload_n 0, 1) := by decide +kernel
theorem dX2_diagonalOfGreatestSum_31 : decode cX2_diagonalOfGreatestSum 31 = .ok (.aload_n 1, 1) := by decide +kernel
theorem dX2_diagonalOfGreatestSum_32 : decode cX2_diagonalOfGreatestSum 32 = .ok (.iload 4, 2) := by decide +kernel
theorem dX2_diagonalOfGreatestSum_34 : decode cX2_diagonalOfGreatestSum 34 = .ok (.iload 5, 2) := by decide +kernel
theorem dX2_diagonalOfGreatestSum_36 : decode cX2_diagonalOfGreatestSum 36 = .ok (.iload_n 3, 1) := by decide +kernel
theorem dX2_diagonalOfGreatestSum_37 : decode cX2_diagonalOfGreatestSum 37 = .ok (.invokevirtual 45, 3) := by decide +kernel
theorem dX2_diagonalOfGreatestSum_40 : decode cX2_diagonalOfGreatestSum 40 = .ok (.aload_n 0, 1) := by decide +kernel
theorem dX2_diagonalOfGreatestSum_41 : decode cX2_diagonalOfGreatestSum 41 = .ok (.iload_n 3, 1) := by decide +kernel
theorem dX2_diagonalOfGreatestSum_42 : decode cX2_diagonalOfGreatestSum 42 = .ok (.invokevirtual 42, 3) := by decide +kernel
theorem dX2_diagonalOfGreatestSum_45 : decode cX2_diagonalOfGreatestSum 45 = .ok (.if_icmp .ge 9, 3) := by decide +kernel
theorem dX2_diagonalOfGreatestSum_48 : decode cX2_diagonalOfGreatestSum 48 = .ok (.iinc 5 1, 3) := by decide +kernel
theorem dX2_diagonalOfGreatestSum_51 : decode cX2_diagonalOfGreatestSum 51 = .ok (.goto (-32), 3) := by decide +kernel
theorem dX2_diagonalOfGreatestSum_54 : decode cX2_diagonalOfGreatestSum 54 = .ok (.iload_n 2, 1) := by decide +kernel
theorem dX2_diagonalOfGreatestSum_55 : decode cX2_diagonalOfGreatestSum 55 = .ok (.bipush 10, 2) := by decide +kernel
theorem dX2_diagonalOfGreatestSum_57 : decode cX2_diagonalOfGreatestSum 57 = .ok (.imul, 1) := by decide +kernel
theorem dX2_diagonalOfGreatestSum_58 : decode cX2_diagonalOfGreatestSum 58 = .ok (.iload 5, 2) := by decide +kernel
theorem dX2_diagonalOfGreatestSum_60 : decode cX2_diagonalOfGreatestSum 60 = .ok (.iadd, 1) := by decide +kernel
theorem dX2_diagonalOfGreatestSum_61 : decode cX2_diagonalOfGreatestSum 61 = .ok (.istore_n 2, 1) := by decide +kernel
theorem dX2_diagonalOfGreatestSum_62 : decode cX2_diagonalOfGreatestSum 62 = .ok (.iload_n 3, 1) := by decide +kernel
theorem dX2_diagonalOfGreatestSum_63 : decode cX2_diagonalOfGreatestSum 63 = .ok (.iconst 1, 1) := by decide +kernel
theorem dX2_diagonalOfGreatestSum_64 : decode cX2_diagonalOfGreatestSum 64 = .ok (.iload 5, 2) := by decide +kernel
theorem dX2_diagonalOfGreatestSum_66 : decode cX2_diagonalOfGreatestSum 66 = .ok (.ishl, 1) := by decide +kernel
theorem dX2_diagonalOfGreatestSum_67 : decode cX2_diagonalOfGreatestSum 67 = .ok (.ior, 1) := by decide +kernel
theorem dX2_diagonalOfGreatestSum_68 : decode cX2_diagonalOfGreatestSum 68 = .ok (.istore_n 3, 1) := by decide +kernel
theorem dX2_diagonalOfGreatestSum_69 : decode cX2_diagonalOfGreatestSum 69 = .ok (.iinc 4 1, 3) := by decide +kernel
theorem dX2_diagonalOfGreatestSum_72 : decode cX2_diagonalOfGreatestSum 72 = .ok (.goto (-65), 3) := by decide +kernel
theorem dX2_diagonalOfGreatestSum_75 : decode cX2_diagonalOfGreatestSum 75 = .ok (.iload_n 2, 1) := by decide +kernel
theorem dX2_diagonalOfGreatestSum_76 : decode cX2_diagonalOfGreatestSum 76 = .ok (.ireturn, 1) := by decide +kernel
