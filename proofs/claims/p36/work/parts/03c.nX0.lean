theorem dX0_init_0 : decode cX0_init 0 = .ok (.aload_n 0, 1) := by decide +kernel
theorem dX0_init_1 : decode cX0_init 1 = .ok (.invokespecial 3, 3) := by decide +kernel
theorem dX0_init_4 : decode cX0_init 4 = .ok (.aload_n 0, 1) := by decide +kernel
theorem dX0_init_5 : decode cX0_init 5 = .ok (.sipush 128, 3) := by decide +kernel
theorem dX0_init_8 : decode cX0_init 8 = .ok (.newarray .long, 2) := by decide +kernel
theorem dX0_init_10 : decode cX0_init 10 = .ok (.putfield 9, 3) := by decide +kernel
theorem dX0_init_13 : decode cX0_init 13 = .ok (.return_, 1) := by decide +kernel
theorem dX0_begin_0 : decode cX0_begin 0 = .ok (.iconst 0, 1) := by decide +kernel
theorem dX0_begin_1 : decode cX0_begin 1 = .ok (.istore_n 1, 1) := by decide +kernel
theorem dX0_begin_2 : decode cX0_begin 2 = .ok (.iload_n 1, 1) := by decide +kernel
theorem dX0_begin_3 : decode cX0_begin 3 = .ok (.sipush 128, 3) := by decide +kernel
theorem dX0_begin_6 : decode cX0_begin 6 = .ok (.if_icmp .ge 16, 3) := by decide +kernel
theorem dX0_begin_9 : decode cX0_begin 9 = .ok (.aload_n 0, 1) := by decide +kernel
theorem dX0_begin_10 : decode cX0_begin 10 = .ok (.getfield 9, 3) := by decide +kernel
theorem dX0_begin_13 : decode cX0_begin 13 = .ok (.iload_n 1, 1) := by decide +kernel
theorem dX0_begin_14 : decode cX0_begin 14 = .ok (.lconst 0, 1) := by decide +kernel
theorem dX0_begin_15 : decode cX0_begin 15 = .ok (.lastore, 1) := by decide +kernel
theorem dX0_begin_16 : decode cX0_begin 16 = .ok (.iinc 1 1, 3) := by decide +kernel
theorem dX0_begin_19 : decode cX0_begin 19 = .ok (.goto (-17), 3) := by decide +kernel
theorem dX0_begin_22 : decode cX0_begin 22 = .ok (.aload_n 0, 1) := by decide +kernel
theorem dX0_begin_23 : decode cX0_begin 23 = .ok (.getfield 9, 3) := by decide +kernel
theorem dX0_begin_26 : decode cX0_begin 26 = .ok (.iconst 0, 1) := by decide +kernel
theorem dX0_begin_27 : decode cX0_begin 27 = .ok (.lconst 1, 1) := by decide +kernel
theorem dX0_begin_28 : decode cX0_begin 28 = .ok (.lastore, 1) := by decide +kernel
theorem dX0_begin_29 : decode cX0_begin 29 = .ok (.return_, 1) := by decide +kernel
theorem dX0_of_0 : decode cX0_of 0 = .ok (.iload_n 1, 1) := by decide +kernel
theorem dX0_of_1 : decode cX0_of 1 = .ok (.ifCond .lt 19, 3) := by decide +kernel
theorem dX0_of_4 : decode cX0_of 4 = .ok (.iload_n 1, 1) := by decide +kernel
theorem dX0_of_5 : decode cX0_of 5 = .ok (.sipush 128, 3) := by decide +kernel
theorem dX0_of_8 : decode cX0_of 8 = .ok (.if_icmp .ge 12, 3) := by decide +kernel
theorem dX0_of_11 : decode cX0_of 11 = .ok (.aload_n 0, 1) := by decide +kernel
theorem dX0_of_12 : decode cX0_of 12 = .ok (.getfield 9, 3) := by decide +kernel
theorem dX0_of_15 : decode cX0_of 15 = .ok (.iload_n 1, 1) := by decide +kernel
theorem dX0_of_16 : decode cX0_of 16 = .ok (.laload, 1) := by decide +kernel
theorem dX0_of_17 : decode cX0_of 17 = .ok (.goto 4, 3) := by decide +kernel
theorem dX0_of_20 : decode cX0_of 20 = .ok (.lconst 0, 1) := by decide +kernel
theorem dX0_of_21 : decode cX0_of 21 = .ok (.lreturn, 1) := by decide +kernel
theorem dX0_put_0 : decode cX0_put 0 = .ok (.iload_n 1, 1) := by decide +kernel
theorem dX0_put_1 : decode cX0_put 1 = .ok (.ifCond .lt 17, 3) := by decide +kernel
theorem dX0_put_4 : decode cX0_put 4 = .ok (.iload_n 1, 1) := by decide +kernel
theorem dX0_put_5 : decode cX0_put 5 = .ok (.sipush 128, 3) := by decide +kernel
theorem dX0_put_8 : decode cX0_put 8 = .ok (.if_icmp .ge 10, 3) := by decide +kernel
theorem dX0_put_11 : decode cX0_put 11 = .ok (.aload_n 0, 1) := by decide +kernel
theorem dX0_put_12 : decode cX0_put 12 = .ok (.getfield 9, 3) := by decide +kernel
theorem dX0_put_15 : decode cX0_put 15 = .ok (.iload_n 1, 1) := by decide +kernel
theorem dX0_put_16 : decode cX0_put 16 = .ok (.lload_n 2, 1) := by decide +kernel
theorem dX0_put_17 : decode cX0_put 17 = .ok (.lastore, 1) := by decide +kernel
theorem dX0_put_18 : decode cX0_put 18 = .ok (.return_, 1) := by decide +kernel
set_option maxRecDepth 20000 in
theorem ggX0_takeRow_X4_allLines : GoodIn wsX0_takeRow wsX4_allLines := goodIn_r _ [5, 6, 41, 42] (by decide +kernel) (by decide +kernel)
set_option maxRecDepth 20000 in
theorem gX0_takeRow_X4_allLines : GoodIn wsX0_takeRow (wsV RX0 15 RX4 yX4_allLines wsX4_allLines) := goodIn_app (goodIn_of _ (by decide +kernel)) ggX0_takeRow_X4_allLines
set_option maxRecDepth 20000 in
theorem ggX0_takeRow_X0_sumWithRow : GoodIn wsX0_takeRow wsX0_sumWithRow := goodIn_r _ [11, 12, 13, 14, 4, 15, 6, 16, 17, 18, 10, 19, 20, 21, 22, 23, 24, 25, 26, 27, 28, 29, 30, 31, 32, 33, 34, 35, 36, 41, 42, 43] (by decide +kernel) (by decide +kernel)
set_option maxRecDepth 20000 in
theorem gX0_takeRow_X0_sumWithRow : GoodIn wsX0_takeRow (wsV RX0 21 RX0 yX0_sumWithRow wsX0_sumWithRow) := goodIn_app (goodIn_of _ (by decide +kernel)) ggX0_takeRow_X0_sumWithRow
set_option maxRecDepth 20000 in
theorem ggX0_takeRow_X0_put : GoodIn wsX0_takeRow wsX0_put := goodIn_r _ [40, 20, 43] (by decide +kernel) (by decide +kernel)
set_option maxRecDepth 20000 in
theorem gX0_takeRow_X0_put : GoodIn wsX0_takeRow (wsV RX0 25 RX0 yX0_put wsX0_put) := goodIn_app (goodIn_of _ (by decide +kernel)) ggX0_takeRow_X0_put
theorem dX0_takeRow_0 : decode cX0_takeRow 0 = .ok (.aload_n 1, 1) := by decide +kernel
theorem dX0_takeRow_1 : decode cX0_takeRow 1 = .ok (.invokevirtual 15, 3) := by decide +kernel
theorem dX0_takeRow_4 : decode cX0_takeRow 4 = .ok (.istore 4, 2) := by decide +kernel
theorem dX0_takeRow_6 : decode cX0_takeRow 6 = .ok (.iload 4, 2) := by decide +kernel
theorem dX0_takeRow_8 : decode cX0_takeRow 8 = .ok (.ifCond .lt 24, 3) := by decide +kernel
theorem dX0_takeRow_11 : decode cX0_takeRow 11 = .ok (.aload_n 0, 1) := by decide +kernel
theorem dX0_takeRow_12 : decode cX0_takeRow 12 = .ok (.iload 4, 2) := by decide +kernel
theorem dX0_takeRow_14 : decode cX0_takeRow 14 = .ok (.aload_n 0, 1) := by decide +kernel
theorem dX0_takeRow_15 : decode cX0_takeRow 15 = .ok (.aload_n 1, 1) := by decide +kernel
theorem dX0_takeRow_16 : decode cX0_takeRow 16 = .ok (.iload_n 2, 1) := by decide +kernel
theorem dX0_takeRow_17 : decode cX0_takeRow 17 = .ok (.iload 4, 2) := by decide +kernel
theorem dX0_takeRow_19 : decode cX0_takeRow 19 = .ok (.iload_n 3, 1) := by decide +kernel
theorem dX0_takeRow_20 : decode cX0_takeRow 20 = .ok (.invokevirtual 21, 3) := by decide +kernel
theorem dX0_takeRow_23 : decode cX0_takeRow 23 = .ok (.invokevirtual 25, 3) := by decide +kernel
theorem dX0_takeRow_26 : decode cX0_takeRow 26 = .ok (.iinc 4 (-1), 3) := by decide +kernel
theorem dX0_takeRow_29 : decode cX0_takeRow 29 = .ok (.goto (-23), 3) := by decide +kernel
theorem dX0_takeRow_32 : decode cX0_takeRow 32 = .ok (.return_, 1) := by decide +kernel
set_option maxRecDepth 20000 in
theorem ggX0_takeRowOrNot_X4_allLines : GoodIn wsX0_takeRowOrNot wsX4_allLines := goodIn_r _ [5, 6, 41, 42] (by decide +kernel) (by decide +kernel)
set_option maxRecDepth 20000 in
theorem gX0_takeRowOrNot_X4_allLines : GoodIn wsX0_takeRowOrNot (wsV RX0 15 RX4 yX4_allLines wsX4_allLines) := goodIn_app (goodIn_of _ (by decide +kernel)) ggX0_takeRowOrNot_X4_allLines
set_option maxRecDepth 20000 in
theorem ggX0_takeRowOrNot_X0_of : GoodIn wsX0_takeRowOrNot wsX0_of := goodIn_r _ [11, 12, 43] (by decide +kernel) (by decide +kernel)
set_option maxRecDepth 20000 in
theorem gX0_takeRowOrNot_X0_of : GoodIn wsX0_takeRowOrNot (wsV RX0 29 RX0 yX0_of wsX0_of) := goodIn_app (goodIn_of _ (by decide +kernel)) ggX0_takeRowOrNot_X0_of
set_option maxRecDepth 20000 in
theorem ggX0_takeRowOrNot_X0_sumWithRow : GoodIn wsX0_takeRowOrNot wsX0_sumWithRow := goodIn_r _ [16, 17, 18, 19, 4, 20, 6, 7, 8, 9, 10, 11, 12, 21, 22, 23, 24, 25, 26, 27, 28, 29, 30, 31, 32, 33, 34, 35, 36, 41, 42, 43] (by decide +kernel) (by decide +kernel)
set_option maxRecDepth 20000 in
theorem gX0_takeRowOrNot_X0_sumWithRow : GoodIn wsX0_takeRowOrNot (wsV RX0 21 RX0 yX0_sumWithRow wsX0_sumWithRow) := goodIn_app (goodIn_of _ (by decide +kernel)) ggX0_takeRowOrNot_X0_sumWithRow
set_option maxRecDepth 20000 in
theorem ggX0_takeRowOrNot_X0_put : GoodIn wsX0_takeRowOrNot wsX0_put := goodIn_r _ [40, 12, 43] (by decide +kernel) (by decide +kernel)
set_option maxRecDepth 20000 in
theorem gX0_takeRowOrNot_X0_put : GoodIn wsX0_takeRowOrNot (wsV RX0 25 RX0 yX0_put wsX0_put) := goodIn_app (goodIn_of _ (by decide +kernel)) ggX0_takeRowOrNot_X0_put
theorem dX0_takeRowOrNot_0 : decode cX0_takeRowOrNot 0 = .ok (.aload_n 1, 1) := by decide +kernel
theorem dX0_takeRowOrNot_1 : decode cX0_takeRowOrNot 1 = .ok (.invokevirtual 15, 3) := by decide +kernel
theorem dX0_takeRowOrNot_4 : decode cX0_takeRowOrNot 4 = .ok (.istore_n 3, 1) := by decide +kernel
theorem dX0_takeRowOrNot_5 : decode cX0_takeRowOrNot 5 = .ok (.iload_n 3, 1) := by decide +kernel
theorem dX0_takeRowOrNot_6 : decode cX0_takeRowOrNot 6 = .ok (.ifCond .lt 28, 3) := by decide +kernel
theorem dX0_takeRowOrNot_9 : decode cX0_takeRowOrNot 9 = .ok (.aload_n 0, 1) := by decide +kernel
theorem dX0_takeRowOrNot_10 : decode cX0_takeRowOrNot 10 = .ok (.iload_n 3, 1) := by decide +kernel
theorem dX0_takeRowOrNot_11 : decode cX0_takeRowOrNot 11 = .ok (.aload_n 0, 1) := by decide +kernel
theorem dX0_takeRowOrNot_12 : decode cX0_takeRowOrNot 12 = .ok (.iload_n 3, 1) := by decide +kernel
theorem dX0_takeRowOrNot_13 : decode cX0_takeRowOrNot 13 = .ok (.invokevirtual 29, 3) := by decide +kernel
theorem dX0_takeRowOrNot_16 : decode cX0_takeRowOrNot 16 = .ok (.aload_n 0, 1) := by decide +kernel
theorem dX0_takeRowOrNot_17 : decode cX0_takeRowOrNot 17 = .ok (.aload_n 1, 1) := by decide +kernel
theorem dX0_takeRowOrNot_18 : decode cX0_takeRowOrNot 18 = .ok (.iload_n 2, 1) := by decide +kernel
theorem dX0_takeRowOrNot_19 : decode cX0_takeRowOrNot 19 = .ok (.iload_n 3, 1) := by decide +kernel
theorem dX0_takeRowOrNot_20 : decode cX0_takeRowOrNot 20 = .ok (.iconst 0, 1) := by decide +kernel
theorem dX0_takeRowOrNot_21 : decode cX0_takeRowOrNot 21 = .ok (.invokevirtual 21, 3) := by decide +kernel
theorem dX0_takeRowOrNot_24 : decode cX0_takeRowOrNot 24 = .ok (.ladd, 1) := by decide +kernel
theorem dX0_takeRowOrNot_25 : decode cX0_takeRowOrNot 25 = .ok (.invokevirtual 25, 3) := by decide +kernel
theorem dX0_takeRowOrNot_28 : decode cX0_takeRowOrNot 28 = .ok (.iinc 3 (-1), 3) := by decide +kernel
theorem dX0_takeRowOrNot_31 : decode cX0_takeRowOrNot 31 = .ok (.goto (-26), 3) := by decide +kernel
theorem dX0_takeRowOrNot_34 : decode cX0_takeRowOrNot 34 = .ok (.return_, 1) := by decide +kernel
set_option maxRecDepth 20000 in
theorem ggX0_sumWithRow_X4_size : GoodIn wsX0_sumWithRow wsX4_size := goodIn_r _ [5, 6, 29, 30] (by decide +kernel) (by decide +kernel)
set_option maxRecDepth 20000 in
theorem gX0_sumWithRow_X4_size : GoodIn wsX0_sumWithRow (wsV RX0 33 RX4 yX4_size wsX4_size) := goodIn_app (goodIn_of _ (by decide +kernel)) ggX0_sumWithRow_X4_size
set_option maxRecDepth 20000 in
theorem ggX0_sumWithRow_X0_of : GoodIn wsX0_sumWithRow wsX0_of := goodIn_r _ [11, 12, 31] (by decide +kernel) (by decide +kernel)
set_option maxRecDepth 20000 in
theorem gX0_sumWithRow_X0_of : GoodIn wsX0_sumWithRow (wsV RX0 29 RX0 yX0_of wsX0_of) := goodIn_app (goodIn_of _ (by decide +kernel)) ggX0_sumWithRow_X0_of
set_option maxRecDepth 20000 in
theorem ggX0_sumWithRow_X4_at : GoodIn wsX0_sumWithRow wsX4_at := goodIn_r _ [16, 17, 18, 19, 20, 4, 21, 6, 29, 30] (by decide +kernel) (by decide +kernel)
set_option maxRecDepth 20000 in
theorem gX0_sumWithRow_X4_at : GoodIn wsX0_sumWithRow (wsV RX0 36 RX4 yX4_at wsX4_at) := goodIn_app (goodIn_of _ (by decide +kernel)) ggX0_sumWithRow_X4_at
set_option maxRecDepth 20000 in
theorem ggX0_sumWithRow_J6_bitCount_0f7a4 : GoodIn wsX0_sumWithRow wsJ6_bitCount_0f7a4 := goodIn_r _ [25, 26, 27, 28] (by decide +kernel) (by decide +kernel)
set_option maxRecDepth 20000 in
theorem gX0_sumWithRow_J6_bitCount_0f7a4 : GoodIn wsX0_sumWithRow (va_wsS RX0 40 yJ6_bitCount_0f7a4 wsJ6_bitCount_0f7a4) := goodIn_app (goodIn_of _ (by decide +kernel)) ggX0_sumWithRow_J6_bitCount_0f7a4
theorem dX0_sumWithRow_0 : decode cX0_sumWithRow 0 = .ok (.lconst 0, 1) := by decide +kernel
theorem dX0_sumWithRow_1 : decode cX0_sumWithRow 1 = .ok (.lstore 5, 2) := by decide +kernel
theorem dX0_sumWithRow_3 : decode cX0_sumWithRow 3 = .ok (.iconst 0, 1) := by decide +kernel
theorem dX0_sumWithRow_4 : decode cX0_sumWithRow 4 = .ok (.istore 7, 2) := by decide +kernel
theorem dX0_sumWithRow_6 : decode cX0_sumWithRow 6 = .ok (.iload 7, 2) := by decide +kernel
theorem dX0_sumWithRow_8 : decode cX0_sumWithRow 8 = .ok (.aload_n 1, 1) := by decide +kernel
theorem dX0_sumWithRow_9 : decode cX0_sumWithRow 9 = .ok (.invokevirtual 33, 3) := by decide +kernel
theorem dX0_sumWithRow_12 : decode cX0_sumWithRow 12 = .ok (.if_icmp .ge 85, 3) := by decide +kernel
theorem dX0_sumWithRow_15 : decode cX0_sumWithRow 15 = .ok (.iload_n 3, 1) := by decide +kernel
theorem dX0_sumWithRow_16 : decode cX0_sumWithRow 16 = .ok (.iconst 1, 1) := by decide +kernel
theorem dX0_sumWithRow_17 : decode cX0_sumWithRow 17 = .ok (.iload 7, 2) := by decide +kernel
theorem dX0_sumWithRow_19 : decode cX0_sumWithRow 19 = .ok (.ishl, 1) := by decide +kernel
theorem dX0_sumWithRow_20 : decode cX0_sumWithRow 20 = .ok (.iconst (-1), 1) := by decide +kernel
theorem dX0_sumWithRow_21 : decode cX0_sumWithRow 21 = .ok (.ixor, 1) := by decide +kernel
theorem dX0_sumWithRow_22 : decode cX0_sumWithRow 22 = .ok (.iand, 1) := by decide +kernel
theorem dX0_sumWithRow_23 : decode cX0_sumWithRow 23 = .ok (.istore 8, 2) := by decide +kernel
theorem dX0_sumWithRow_25 : decode cX0_sumWithRow 25 = .ok (.iload 8, 2) := by decide +kernel
theorem dX0_sumWithRow_27 : decode cX0_sumWithRow 27 = .ok (.iload_n 3, 1) := by decide +kernel
theorem dX0_sumWithRow_28 : decode cX0_sumWithRow 28 = .ok (.if_icmp .eq 63, 3) := by decide +kernel
theorem dX0_sumWithRow_31 : decode cX0_sumWithRow 31 = .ok (.aload_n 0, 1) := by decide +kernel
theorem dX0_sumWithRow_32 : decode cX0_sumWithRow 32 = .ok (.iload 8, 2) := by decide +kernel
theorem dX0_sumWithRow_34 : decode cX0_sumWithRow 34 = .ok (.invokevirtual 29, 3) := by decide +kernel
theorem dX0_sumWithRow_37 : decode cX0_sumWithRow 37 = .ok (.aload_n 1, 1) := by decide +kernel
theorem dX0_sumWithRow_38 : decode cX0_sumWithRow 38 = .ok (.iload_n 2, 1) := by decide +kernel
theorem dX0_sumWithRow_39 : decode cX0_sumWithRow 39 = .ok (.iload 7, 2) := by decide +kernel
theorem dX0_sumWithRow_41 : decode cX0_sumWithRow 41 = .ok (.invokevirtual 36, 3) := by decide +kernel
theorem dX0_sumWithRow_44 : decode cX0_sumWithRow 44 = .ok (.i2l, 1) := by decide +kernel
theorem dX0_sumWithRow_45 : decode cX0_sumWithRow 45 = .ok (.lmul, 1) := by decide +kernel
theorem dX0_sumWithRow_46 : decode cX0_sumWithRow 46 = .ok (.lstore 9, 2) := by decide +kernel
theorem dX0_sumWithRow_48 : decode cX0_sumWithRow 48 = .ok (.iload 8, 2) := by decide +kernel
theorem dX0_sumWithRow_50 : decode cX0_sumWithRow 50 = .ok (.iload 7, 2) := by decide +kernel
theorem dX0_sumWithRow_52 : decode cX0_sumWithRow 52 = .ok (.ishr, 1) := by decide +kernel
theorem dX0_sumWithRow_53 : decode cX0_sumWithRow 53 = .ok (.invokestatic 40, 3) := by decide +kernel
theorem dX0_sumWithRow_56 : decode cX0_sumWithRow 56 = .ok (.iconst 1, 1) := by decide +kernel
theorem dX0_sumWithRow_57 : decode cX0_sumWithRow 57 = .ok (.iand, 1) := by decide +kernel
theorem dX0_sumWithRow_58 : decode cX0_sumWithRow 58 = .ok (.ifCond .eq 7, 3) := by decide +kernel
theorem dX0_sumWithRow_61 : decode cX0_sumWithRow 61 = .ok (.iconst 1, 1) := by decide +kernel
theorem dX0_sumWithRow_62 : decode cX0_sumWithRow 62 = .ok (.goto 4, 3) := by decide +kernel
theorem dX0_sumWithRow_65 : decode cX0_sumWithRow 65 = .ok (.iconst 0, 1) := by decide +kernel
theorem dX0_sumWithRow_66 : decode cX0_sumWithRow 66 = .ok (.istore 11, 2) := by decide +kernel
theorem dX0_sumWithRow_68 : decode cX0_sumWithRow 68 = .ok (.lload 5, 2) := by decide +kernel
theorem dX0_sumWithRow_70 : decode cX0_sumWithRow 70 = .ok (.iload 4, 2) := by decide +kernel
theorem dX0_sumWithRow_72 : decode cX0_sumWithRow 72 = .ok (.ifCond .eq 14, 3) := by decide +kernel
theorem dX0_sumWithRow_75 : decode cX0_sumWithRow 75 = .ok (.iload 11, 2) := by decide +kernel
theorem dX0_sumWithRow_77 : decode cX0_sumWithRow 77 = .ok (.ifCond .eq 9, 3) := by decide +kernel
theorem dX0_sumWithRow_80 : decode cX0_sumWithRow 80 = .ok (.lload 9, 2) := by decide +kernel
theorem dX0_sumWithRow_82 : decode cX0_sumWithRow 82 = .ok (.lneg, 1) := by decide +kernel
theorem dX0_sumWithRow_83 : decode cX0_sumWithRow 83 = .ok (.goto 5, 3) := by decide +kernel
theorem dX0_sumWithRow_86 : decode cX0_sumWithRow 86 = .ok (.lload 9, 2) := by decide +kernel
theorem dX0_sumWithRow_88 : decode cX0_sumWithRow 88 = .ok (.ladd, 1) := by decide +kernel
theorem dX0_sumWithRow_89 : decode cX0_sumWithRow 89 = .ok (.lstore 5, 2) := by decide +kernel
theorem dX0_sumWithRow_91 : decode cX0_sumWithRow 91 = .ok (.iinc 7 1, 3) := by decide +kernel
theorem dX0_sumWithRow_94 : decode cX0_sumWithRow 94 = .ok (.goto (-88), 3) := by decide +kernel
theorem dX0_sumWithRow_97 : decode cX0_sumWithRow 97 = .ok (.lload 5, 2) := by decide +kernel
theorem dX0_sumWithRow_99 : decode cX0_sumWithRow 99 = .ok (.lreturn, 1) := by decide +kernel
set_option maxRecDepth 20000 in
theorem ggX0_sumOfSize_J6_bitCount_0f7a4 : GoodIn wsX0_sumOfSize wsJ6_bitCount_0f7a4 := goodIn_r _ [5, 6, 7, 8] (by decide +kernel) (by decide +kernel)
set_option maxRecDepth 20000 in
theorem gX0_sumOfSize_J6_bitCount_0f7a4 : GoodIn wsX0_sumOfSize (va_wsS RX0 40 yJ6_bitCount_0f7a4 wsJ6_bitCount_0f7a4) := goodIn_app (goodIn_of _ (by decide +kernel)) ggX0_sumOfSize_J6_bitCount_0f7a4
theorem dX0_sumOfSize_0 : decode cX0_sumOfSize 0 = .ok (.lconst 0, 1) := by decide +kernel
theorem dX0_sumOfSize_1 : decode cX0_sumOfSize 1 = .ok (.lstore_n 2, 1) := by decide +kernel
theorem dX0_sumOfSize_2 : decode cX0_sumOfSize 2 = .ok (.iconst 0, 1) := by decide +kernel
theorem dX0_sumOfSize_3 : decode cX0_sumOfSize 3 = .ok (.istore 4, 2) := by decide +kernel
theorem dX0_sumOfSize_5 : decode cX0_sumOfSize 5 = .ok (.iload 4, 2) := by decide +kernel
theorem dX0_sumOfSize_7 : decode cX0_sumOfSize 7 = .ok (.sipush 128, 3) := by decide +kernel
theorem dX0_sumOfSize_10 : decode cX0_sumOfSize 10 = .ok (.if_icmp .ge 28, 3) := by decide +kernel
theorem dX0_sumOfSize_13 : decode cX0_sumOfSize 13 = .ok (.iload 4, 2) := by decide +kernel
theorem dX0_sumOfSize_15 : decode cX0_sumOfSize 15 = .ok (.invokestatic 40, 3) := by decide +kernel
theorem dX0_sumOfSize_18 : decode cX0_sumOfSize 18 = .ok (.iload_n 1, 1) := by decide +kernel
theorem dX0_sumOfSize_19 : decode cX0_sumOfSize 19 = .ok (.if_icmp .ne 13, 3) := by decide +kernel
theorem dX0_sumOfSize_22 : decode cX0_sumOfSize 22 = .ok (.lload_n 2, 1) := by decide +kernel
theorem dX0_sumOfSize_23 : decode cX0_sumOfSize 23 = .ok (.aload_n 0, 1) := by decide +kernel
theorem dX0_sumOfSize_24 : decode cX0_sumOfSize 24 = .ok (.getfield 9, 3) := by decide +kernel
theorem dX0_sumOfSize_27 : decode cX0_sumOfSize 27 = .ok (.iload 4, 2) := by decide +kernel
theorem dX0_sumOfSize_29 : decode cX0_sumOfSize 29 = .ok (.laload, 1) := by decide +kernel
theorem dX0_sumOfSize_30 : decode cX0_sumOfSize 30 = .ok (.ladd, 1) := by decide +kernel
theorem dX0_sumOfSize_31 : decode cX0_sumOfSize 31 = .ok (.lstore_n 2, 1) := by decide +kernel
theorem dX0_sumOfSize_32 : decode cX0_sumOfSize 32 = .ok (.iinc 4 1, 3) := by decide +kernel
theorem dX0_sumOfSize_35 : decode cX0_sumOfSize 35 = .ok (.goto (-30), 3) := by decide +kernel
theorem dX0_sumOfSize_38 : decode cX0_sumOfSize 38 = .ok (.lload_n 2, 1) := by decide +kernel
theorem dX0_sumOfSize_39 : decode cX0_sumOfSize 39 = .ok (.lreturn, 1) := by decide +kernel
theorem dX0_sumOfAll_0 : decode cX0_sumOfAll 0 = .ok (.lconst 0, 1) := by decide +kernel
theorem dX0_sumOfAll_1 : decode cX0_sumOfAll 1 = .ok (.lstore_n 1, 1) := by decide +kernel
theorem dX0_sumOfAll_2 : decode cX0_sumOfAll 2 = .ok (.iconst 0, 1) := by decide +kernel
theorem dX0_sumOfAll_3 : decode cX0_sumOfAll 3 = .ok (.istore_n 3, 1) := by decide +kernel
theorem dX0_sumOfAll_4 : decode cX0_sumOfAll 4 = .ok (.iload_n 3, 1) := by decide +kernel
theorem dX0_sumOfAll_5 : decode cX0_sumOfAll 5 = .ok (.sipush 128, 3) := by decide +kernel
theorem dX0_sumOfAll_8 : decode cX0_sumOfAll 8 = .ok (.if_icmp .ge 18, 3) := by decide +kernel
theorem dX0_sumOfAll_11 : decode cX0_sumOfAll 11 = .ok (.lload_n 1, 1) := by decide +kernel
theorem dX0_sumOfAll_12 : decode cX0_sumOfAll 12 = .ok (.aload_n 0, 1) := by decide +kernel
theorem dX0_sumOfAll_13 : decode cX0_sumOfAll 13 = .ok (.getfield 9, 3) := by decide +kernel
theorem dX0_sumOfAll_16 : decode cX0_sumOfAll 16 = .ok (.iload_n 3, 1) := by decide +kernel
theorem dX0_sumOfAll_17 : decode cX0_sumOfAll 17 = .ok (.laload, 1) := by decide +kernel
theorem dX0_sumOfAll_18 : decode cX0_sumOfAll 18 = .ok (.ladd, 1) := by decide +kernel
theorem dX0_sumOfAll_19 : decode cX0_sumOfAll 19 = .ok (.lstore_n 1, 1) := by decide +kernel
theorem dX0_sumOfAll_20 : decode cX0_sumOfAll 20 = .ok (.iinc 3 1, 3) := by decide +kernel
theorem dX0_sumOfAll_23 : decode cX0_sumOfAll 23 = .ok (.goto (-19), 3) := by decide +kernel
theorem dX0_sumOfAll_26 : decode cX0_sumOfAll 26 = .ok (.lload_n 1, 1) := by decide +kernel
theorem dX0_sumOfAll_27 : decode cX0_sumOfAll 27 = .ok (.lreturn, 1) := by decide +kernel
theorem dX0_countNotZero_0 : decode cX0_countNotZero 0 = .ok (.iconst 0, 1) := by decide +kernel
theorem dX0_countNotZero_1 : decode cX0_countNotZero 1 = .ok (.istore_n 1, 1) := by decide +kernel
theorem dX0_countNotZero_2 : decode cX0_countNotZero 2 = .ok (.iconst 0, 1) := by decide +kernel
theorem dX0_countNotZero_3 : decode cX0_countNotZero 3 = .ok (.istore_n 2, 1) := by decide +kernel
theorem dX0_countNotZero_4 : decode cX0_countNotZero 4 = .ok (.iload_n 2, 1) := by decide +kernel
theorem dX0_countNotZero_5 : decode cX0_countNotZero 5 = .ok (.sipush 128, 3) := by decide +kernel
theorem dX0_countNotZero_8 : decode cX0_countNotZero 8 = .ok (.if_icmp .ge 23, 3) := by decide +kernel
theorem dX0_countNotZero_11 : decode cX0_countNotZero 11 = .ok (.aload_n 0, 1) := by decide +kernel
theorem dX0_countNotZero_12 : decode cX0_countNotZero 12 = .ok (.getfield 9, 3) := by decide +kernel
theorem dX0_countNotZero_15 : decode cX0_countNotZero 15 = .ok (.iload_n 2, 1) := by decide +kernel
theorem dX0_countNotZero_16 : decode cX0_countNotZero 16 = .ok (.laload, 1) := by decide +kernel
theorem dX0_countNotZero_17 : decode cX0_countNotZero 17 = .ok (.lconst 0, 1) := by decide +kernel
theorem dX0_countNotZero_18 : decode cX0_countNotZero 18 = .ok (.lcmp, 1) := by decide +kernel
theorem dX0_countNotZero_19 : decode cX0_countNotZero 19 = .ok (.ifCond .eq 6, 3) := by decide +kernel
theorem dX0_countNotZero_22 : decode cX0_countNotZero 22 = .ok (.iinc 1 1, 3) := by decide +kernel
theorem dX0_countNotZero_25 : decode cX0_countNotZero 25 = .ok (.iinc 2 1, 3) := by decide +kernel
theorem dX0_countNotZero_28 : decode cX0_countNotZero 28 = .ok (.goto (-24), 3) := by decide +kernel
theorem dX0_countNotZero_31 : decode cX0_countNotZero 31 = .ok (.iload_n 1, 1) := by decide +kernel
theorem dX0_countNotZero_32 : decode cX0_countNotZero 32 = .ok (.ireturn, 1) := by decide +kernel
