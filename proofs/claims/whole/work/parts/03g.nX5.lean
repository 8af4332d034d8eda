theorem dX5_init_0 : decode cX5_init 0 = .ok (.aload_n 0, 1) := by decide +kernel
theorem dX5_init_1 : decode cX5_init 1 = .ok (.invokespecial 3, 3) := by decide +kernel
theorem dX5_init_4 : decode cX5_init 4 = .ok (.aload_n 0, 1) := by decide +kernel
theorem dX5_init_5 : decode cX5_init 5 = .ok (.bipush 49, 2) := by decide +kernel
theorem dX5_init_7 : decode cX5_init 7 = .ok (.newarray .double, 2) := by decide +kernel
theorem dX5_init_9 : decode cX5_init 9 = .ok (.putfield 9, 3) := by decide +kernel
theorem dX5_init_12 : decode cX5_init 12 = .ok (.aload_n 0, 1) := by decide +kernel
theorem dX5_init_13 : decode cX5_init 13 = .ok (.bipush 7, 2) := by decide +kernel
theorem dX5_init_15 : decode cX5_init 15 = .ok (.newarray .double, 2) := by decide +kernel
theorem dX5_init_17 : decode cX5_init 17 = .ok (.putfield 15, 3) := by decide +kernel
theorem dX5_init_20 : decode cX5_init 20 = .ok (.aload_n 0, 1) := by decide +kernel
theorem dX5_init_21 : decode cX5_init 21 = .ok (.bipush 7, 2) := by decide +kernel
theorem dX5_init_23 : decode cX5_init 23 = .ok (.newarray .double, 2) := by decide +kernel
theorem dX5_init_25 : decode cX5_init 25 = .ok (.putfield 18, 3) := by decide +kernel
theorem dX5_init_28 : decode cX5_init 28 = .ok (.aload_n 0, 1) := by decide +kernel
theorem dX5_init_29 : decode cX5_init 29 = .ok (.iconst 0, 1) := by decide +kernel
theorem dX5_init_30 : decode cX5_init 30 = .ok (.putfield 21, 3) := by decide +kernel
theorem dX5_init_33 : decode cX5_init 33 = .ok (.return_, 1) := by decide +kernel
set_option maxRecDepth 20000 in
theorem ggX5_begin_X4_size : GoodIn wsX5_begin wsX4_size := goodIn_r _ [13, 14, 28, 29] (by decide +kernel) (by decide +kernel)
set_option maxRecDepth 20000 in
theorem gX5_begin_X4_size : GoodIn wsX5_begin (wsV RX5 25 RX4 yX4_size wsX4_size) := goodIn_app (goodIn_of _ (by decide +kernel)) ggX5_begin_X4_size
set_option maxRecDepth 20000 in
theorem ggX5_begin_X4_at : GoodIn wsX5_begin wsX4_at := goodIn_r _ [18, 19, 20, 21, 22, 12, 23, 14, 28, 29] (by decide +kernel) (by decide +kernel)
set_option maxRecDepth 20000 in
theorem gX5_begin_X4_at : GoodIn wsX5_begin (wsV RX5 36 RX4 yX4_at wsX4_at) := goodIn_app (goodIn_of _ (by decide +kernel)) ggX5_begin_X4_at
theorem dX5_begin_0 : decode cX5_begin 0 = .ok (.aload_n 0, 1) := by decide +kernel
theorem dX5_begin_1 : decode cX5_begin 1 = .ok (.aload_n 1, 1) := by decide +kernel
theorem dX5_begin_2 : decode cX5_begin 2 = .ok (.invokevirtual 25, 3) := by decide +kernel
theorem dX5_begin_5 : decode cX5_begin 5 = .ok (.bipush 7, 2) := by decide +kernel
theorem dX5_begin_7 : decode cX5_begin 7 = .ok (.invokestatic 30, 3) := by decide +kernel
theorem dX5_begin_10 : decode cX5_begin 10 = .ok (.putfield 21, 3) := by decide +kernel
theorem dX5_begin_13 : decode cX5_begin 13 = .ok (.iconst 0, 1) := by decide +kernel
theorem dX5_begin_14 : decode cX5_begin 14 = .ok (.istore_n 2, 1) := by decide +kernel
theorem dX5_begin_15 : decode cX5_begin 15 = .ok (.iload_n 2, 1) := by decide +kernel
theorem dX5_begin_16 : decode cX5_begin 16 = .ok (.aload_n 0, 1) := by decide +kernel
theorem dX5_begin_17 : decode cX5_begin 17 = .ok (.getfield 21, 3) := by decide +kernel
theorem dX5_begin_20 : decode cX5_begin 20 = .ok (.if_icmp .ge 57, 3) := by decide +kernel
theorem dX5_begin_23 : decode cX5_begin 23 = .ok (.aload_n 0, 1) := by decide +kernel
theorem dX5_begin_24 : decode cX5_begin 24 = .ok (.getfield 15, 3) := by decide +kernel
theorem dX5_begin_27 : decode cX5_begin 27 = .ok (.iload_n 2, 1) := by decide +kernel
theorem dX5_begin_28 : decode cX5_begin 28 = .ok (.dconst 1, 1) := by decide +kernel
theorem dX5_begin_29 : decode cX5_begin 29 = .ok (.dastore, 1) := by decide +kernel
theorem dX5_begin_30 : decode cX5_begin 30 = .ok (.aload_n 0, 1) := by decide +kernel
theorem dX5_begin_31 : decode cX5_begin 31 = .ok (.getfield 18, 3) := by decide +kernel
theorem dX5_begin_34 : decode cX5_begin 34 = .ok (.iload_n 2, 1) := by decide +kernel
theorem dX5_begin_35 : decode cX5_begin 35 = .ok (.dconst 1, 1) := by decide +kernel
theorem dX5_begin_36 : decode cX5_begin 36 = .ok (.dastore, 1) := by decide +kernel
theorem dX5_begin_37 : decode cX5_begin 37 = .ok (.iconst 0, 1) := by decide +kernel
theorem dX5_begin_38 : decode cX5_begin 38 = .ok (.istore_n 3, 1) := by decide +kernel
theorem dX5_begin_39 : decode cX5_begin 39 = .ok (.iload_n 3, 1) := by decide +kernel
theorem dX5_begin_40 : decode cX5_begin 40 = .ok (.aload_n 0, 1) := by decide +kernel
theorem dX5_begin_41 : decode cX5_begin 41 = .ok (.getfield 21, 3) := by decide +kernel
theorem dX5_begin_44 : decode cX5_begin 44 = .ok (.if_icmp .ge 27, 3) := by decide +kernel
theorem dX5_begin_47 : decode cX5_begin 47 = .ok (.aload_n 0, 1) := by decide +kernel
theorem dX5_begin_48 : decode cX5_begin 48 = .ok (.getfield 9, 3) := by decide +kernel
theorem dX5_begin_51 : decode cX5_begin 51 = .ok (.iload_n 2, 1) := by decide +kernel
theorem dX5_begin_52 : decode cX5_begin 52 = .ok (.bipush 7, 2) := by decide +kernel
theorem dX5_begin_54 : decode cX5_begin 54 = .ok (.imul, 1) := by decide +kernel
theorem dX5_begin_55 : decode cX5_begin 55 = .ok (.iload_n 3, 1) := by decide +kernel
theorem dX5_begin_56 : decode cX5_begin 56 = .ok (.iadd, 1) := by decide +kernel
theorem dX5_begin_57 : decode cX5_begin 57 = .ok (.aload_n 1, 1) := by decide +kernel
theorem dX5_begin_58 : decode cX5_begin 58 = .ok (.iload_n 2, 1) := by decide +kernel
theorem dX5_begin_59 : decode cX5_begin 59 = .ok (.iload_n 3, 1) := by decide +kernel
theorem dX5_begin_60 : decode cX5_begin 60 = .ok (.invokevirtual 36, 3) := by decide +kernel
theorem dX5_begin_63 : decode cX5_begin 63 = .ok (.i2d, 1) := by decide +kernel
theorem dX5_begin_64 : decode cX5_begin 64 = .ok (.dastore, 1) := by decide +kernel
theorem dX5_begin_65 : decode cX5_begin 65 = .ok (.iinc 3 1, 3) := by decide +kernel
theorem dX5_begin_68 : decode cX5_begin 68 = .ok (.goto (-29), 3) := by decide +kernel
theorem dX5_begin_71 : decode cX5_begin 71 = .ok (.iinc 2 1, 3) := by decide +kernel
theorem dX5_begin_74 : decode cX5_begin 74 = .ok (.goto (-59), 3) := by decide +kernel
theorem dX5_begin_77 : decode cX5_begin 77 = .ok (.return_, 1) := by decide +kernel
theorem dX5_at_0 : decode cX5_at 0 = .ok (.iload_n 1, 1) := by decide +kernel
theorem dX5_at_1 : decode cX5_at 1 = .ok (.ifCond .lt 27, 3) := by decide +kernel
theorem dX5_at_4 : decode cX5_at 4 = .ok (.iload_n 1, 1) := by decide +kernel
theorem dX5_at_5 : decode cX5_at 5 = .ok (.aload_n 0, 1) := by decide +kernel
theorem dX5_at_6 : decode cX5_at 6 = .ok (.getfield 21, 3) := by decide +kernel
theorem dX5_at_9 : decode cX5_at 9 = .ok (.if_icmp .ge 19, 3) := by decide +kernel
theorem dX5_at_12 : decode cX5_at 12 = .ok (.iload_n 2, 1) := by decide +kernel
theorem dX5_at_13 : decode cX5_at 13 = .ok (.ifCond .lt 15, 3) := by decide +kernel
theorem dX5_at_16 : decode cX5_at 16 = .ok (.iload_n 2, 1) := by decide +kernel
theorem dX5_at_17 : decode cX5_at 17 = .ok (.aload_n 0, 1) := by decide +kernel
theorem dX5_at_18 : decode cX5_at 18 = .ok (.getfield 21, 3) := by decide +kernel
theorem dX5_at_21 : decode cX5_at 21 = .ok (.if_icmp .ge 7, 3) := by decide +kernel
theorem dX5_at_24 : decode cX5_at 24 = .ok (.iconst 1, 1) := by decide +kernel
theorem dX5_at_25 : decode cX5_at 25 = .ok (.goto 4, 3) := by decide +kernel
theorem dX5_at_28 : decode cX5_at 28 = .ok (.iconst 0, 1) := by decide +kernel
theorem dX5_at_29 : decode cX5_at 29 = .ok (.istore_n 3, 1) := by decide +kernel
theorem dX5_at_30 : decode cX5_at 30 = .ok (.iload_n 3, 1) := by decide +kernel
theorem dX5_at_31 : decode cX5_at 31 = .ok (.ifCond .eq 17, 3) := by decide +kernel
theorem dX5_at_34 : decode cX5_at 34 = .ok (.aload_n 0, 1) := by decide +kernel
theorem dX5_at_35 : decode cX5_at 35 = .ok (.getfield 9, 3) := by decide +kernel
theorem dX5_at_38 : decode cX5_at 38 = .ok (.iload_n 1, 1) := by decide +kernel
theorem dX5_at_39 : decode cX5_at 39 = .ok (.bipush 7, 2) := by decide +kernel
theorem dX5_at_41 : decode cX5_at 41 = .ok (.imul, 1) := by decide +kernel
theorem dX5_at_42 : decode cX5_at 42 = .ok (.iload_n 2, 1) := by decide +kernel
theorem dX5_at_43 : decode cX5_at 43 = .ok (.iadd, 1) := by decide +kernel
theorem dX5_at_44 : decode cX5_at 44 = .ok (.daload, 1) := by decide +kernel
theorem dX5_at_45 : decode cX5_at 45 = .ok (.goto 4, 3) := by decide +kernel
theorem dX5_at_48 : decode cX5_at 48 = .ok (.dconst 0, 1) := by decide +kernel
theorem dX5_at_49 : decode cX5_at 49 = .ok (.dreturn, 1) := by decide +kernel
set_option maxRecDepth 20000 in
theorem ggX5_sweep_X5_sumOfRow : GoodIn wsX5_sweep wsX5_sumOfRow := goodIn_r _ [8, 1, 9, 10, 11, 7, 12, 13, 30, 31, 32, 33] (by decide +kernel) (by decide +kernel)
set_option maxRecDepth 20000 in
theorem gX5_sweep_X5_sumOfRow : GoodIn wsX5_sweep (wsV RX5 39 RX5 yX5_sumOfRow wsX5_sumOfRow) := goodIn_app (goodIn_of _ (by decide +kernel)) ggX5_sweep_X5_sumOfRow
set_option maxRecDepth 20000 in
theorem ggX5_sweep_X5_divideRow : GoodIn wsX5_sweep wsX5_divideRow := goodIn_r _ [17, 1, 18, 19, 20, 7, 21, 13, 30, 31, 32, 33] (by decide +kernel) (by decide +kernel)
set_option maxRecDepth 20000 in
theorem gX5_sweep_X5_divideRow : GoodIn wsX5_sweep (wsV RX5 43 RX5 yX5_divideRow wsX5_divideRow) := goodIn_app (goodIn_of _ (by decide +kernel)) ggX5_sweep_X5_divideRow
set_option maxRecDepth 20000 in
theorem ggX5_sweep_X5_sumOfColumn : GoodIn wsX5_sweep wsX5_sumOfColumn := goodIn_r _ [25, 1, 9, 10, 11, 7, 12, 13, 30, 31, 32, 33] (by decide +kernel) (by decide +kernel)
set_option maxRecDepth 20000 in
theorem gX5_sweep_X5_sumOfColumn : GoodIn wsX5_sweep (wsV RX5 47 RX5 yX5_sumOfColumn wsX5_sumOfColumn) := goodIn_app (goodIn_of _ (by decide +kernel)) ggX5_sweep_X5_sumOfColumn
set_option maxRecDepth 20000 in
theorem ggX5_sweep_X5_divideColumn : GoodIn wsX5_sweep wsX5_divideColumn := goodIn_r _ [29, 1, 18, 19, 20, 7, 21, 13, 30, 31, 32, 33] (by decide +kernel) (by decide +kernel)
set_option maxRecDepth 20000 in
theorem gX5_sweep_X5_divideColumn : GoodIn wsX5_sweep (wsV RX5 50 RX5 yX5_divideColumn wsX5_divideColumn) := goodIn_app (goodIn_of _ (by decide +kernel)) ggX5_sweep_X5_divideColumn
theorem dX5_sweep_0 : decode cX5_sweep 0 = .ok (.iconst 0, 1) := by decide +kernel
theorem dX5_sweep_1 : decode cX5_sweep 1 = .ok (.istore_n 1, 1) := by decide +kernel
theorem dX5_sweep_2 : decode cX5_sweep 2 = .ok (.iload_n 1, 1) := by decide +kernel
theorem dX5_sweep_3 : decode cX5_sweep 3 = .ok (.aload_n 0, 1) := by decide +kernel
theorem dX5_sweep_4 : decode cX5_sweep 4 = .ok (.getfield 21, 3) := by decide +kernel
theorem dX5_sweep_7 : decode cX5_sweep 7 = .ok (.if_icmp .ge 35, 3) := by decide +kernel
theorem dX5_sweep_10 : decode cX5_sweep 10 = .ok (.aload_n 0, 1) := by decide +kernel
theorem dX5_sweep_11 : decode cX5_sweep 11 = .ok (.iload_n 1, 1) := by decide +kernel
theorem dX5_sweep_12 : decode cX5_sweep 12 = .ok (.invokevirtual 39, 3) := by decide +kernel
theorem dX5_sweep_15 : decode cX5_sweep 15 = .ok (.dstore_n 2, 1) := by decide +kernel
theorem dX5_sweep_16 : decode cX5_sweep 16 = .ok (.aload_n 0, 1) := by decide +kernel
theorem dX5_sweep_17 : decode cX5_sweep 17 = .ok (.iload_n 1, 1) := by decide +kernel
theorem dX5_sweep_18 : decode cX5_sweep 18 = .ok (.dload_n 2, 1) := by decide +kernel
theorem dX5_sweep_19 : decode cX5_sweep 19 = .ok (.invokevirtual 43, 3) := by decide +kernel
theorem dX5_sweep_22 : decode cX5_sweep 22 = .ok (.aload_n 0, 1) := by decide +kernel
theorem dX5_sweep_23 : decode cX5_sweep 23 = .ok (.getfield 15, 3) := by decide +kernel
theorem dX5_sweep_26 : decode cX5_sweep 26 = .ok (.iload_n 1, 1) := by decide +kernel
theorem dX5_sweep_27 : decode cX5_sweep 27 = .ok (.aload_n 0, 1) := by decide +kernel
theorem dX5_sweep_28 : decode cX5_sweep 28 = .ok (.getfield 15, 3) := by decide +kernel
theorem dX5_sweep_31 : decode cX5_sweep 31 = .ok (.iload_n 1, 1) := by decide +kernel
theorem dX5_sweep_32 : decode cX5_sweep 32 = .ok (.daload, 1) := by decide +kernel
theorem dX5_sweep_33 : decode cX5_sweep 33 = .ok (.dload_n 2, 1) := by decide +kernel
theorem dX5_sweep_34 : decode cX5_sweep 34 = .ok (.dmul, 1) := by decide +kernel
theorem dX5_sweep_35 : decode cX5_sweep 35 = .ok (.dastore, 1) := by decide +kernel
theorem dX5_sweep_36 : decode cX5_sweep 36 = .ok (.iinc 1 1, 3) := by decide +kernel
theorem dX5_sweep_39 : decode cX5_sweep 39 = .ok (.goto (-37), 3) := by decide +kernel
theorem dX5_sweep_42 : decode cX5_sweep 42 = .ok (.iconst 0, 1) := by decide +kernel
theorem dX5_sweep_43 : decode cX5_sweep 43 = .ok (.istore_n 1, 1) := by decide +kernel
theorem dX5_sweep_44 : decode cX5_sweep 44 = .ok (.iload_n 1, 1) := by decide +kernel
theorem dX5_sweep_45 : decode cX5_sweep 45 = .ok (.aload_n 0, 1) := by decide +kernel
theorem dX5_sweep_46 : decode cX5_sweep 46 = .ok (.getfield 21, 3) := by decide +kernel
theorem dX5_sweep_49 : decode cX5_sweep 49 = .ok (.if_icmp .ge 35, 3) := by decide +kernel
theorem dX5_sweep_52 : decode cX5_sweep 52 = .ok (.aload_n 0, 1) := by decide +kernel
theorem dX5_sweep_53 : decode cX5_sweep 53 = .ok (.iload_n 1, 1) := by decide +kernel
theorem dX5_sweep_54 : decode cX5_sweep 54 = .ok (.invokevirtual 47, 3) := by decide +kernel
theorem dX5_sweep_57 : decode cX5_sweep 57 = .ok (.dstore_n 2, 1) := by decide +kernel
theorem dX5_sweep_58 : decode cX5_sweep 58 = .ok (.aload_n 0, 1) := by decide +kernel
theorem dX5_sweep_59 : decode cX5_sweep 59 = .ok (.iload_n 1, 1) := by decide +kernel
theorem dX5_sweep_60 : decode cX5_sweep 60 = .ok (.dload_n 2, 1) := by decide +kernel
theorem dX5_sweep_61 : decode cX5_sweep 61 = .ok (.invokevirtual 50, 3) := by decide +kernel
theorem dX5_sweep_64 : decode cX5_sweep 64 = .ok (.aload_n 0, 1) := by decide +kernel
theorem dX5_sweep_65 : decode cX5_sweep 65 = .ok (.getfield 18, 3) := by decide +kernel
theorem dX5_sweep_68 : decode cX5_sweep 68 = .ok (.iload_n 1, 1) := by decide +kernel
theorem dX5_sweep_69 : decode cX5_sweep 69 = .ok (.aload_n 0, 1) := by decide +kernel
theorem dX5_sweep_70 : decode cX5_sweep 70 = .ok (.getfield 18, 3) := by decide +kernel
theorem dX5_sweep_73 : decode cX5_sweep 73 = .ok (.iload_n 1, 1) := by decide +kernel
theorem dX5_sweep_74 : decode cX5_sweep 74 = .ok (.daload, 1) := by decide +kernel
theorem dX5_sweep_75 : decode cX5_sweep 75 = .ok (.dload_n 2, 1) := by decide +kernel
theorem dX5_sweep_76 : decode cX5_sweep 76 = .ok (.dmul, 1) := by decide +kernel
theorem dX5_sweep_77 : decode cX5_sweep 77 = .ok (.dastore, 1) := by decide +kernel
theorem dX5_sweep_78 : decode cX5_sweep 78 = .ok (.iinc 1 1, 3) := by decide +kernel
theorem dX5_sweep_81 : decode cX5_sweep 81 = .ok (.goto (-37), 3) := by decide +kernel
theorem dX5_sweep_84 : decode cX5_sweep 84 = .ok (.return_, 1) := by decide +kernel
set_option maxRecDepth 20000 in
theorem ggX5_sumOfRow_X5_at : GoodIn wsX5_sumOfRow wsX5_at := goodIn_r _ [6, 1, 7, 8, 9, 10, 11] (by decide +kernel) (by decide +kernel)
set_option maxRecDepth 20000 in
theorem gX5_sumOfRow_X5_at : GoodIn wsX5_sumOfRow (wsV RX5 53 RX5 yX5_at wsX5_at) := goodIn_app (goodIn_of _ (by decide +kernel)) ggX5_sumOfRow_X5_at
theorem dX5_sumOfRow_0 : decode cX5_sumOfRow 0 = .ok (.dconst 0, 1) := by decide +kernel
theorem dX5_sumOfRow_1 : decode cX5_sumOfRow 1 = .ok (.dstore_n 2, 1) := by decide +kernel
theorem dX5_sumOfRow_2 : decode cX5_sumOfRow 2 = .ok (.iconst 0, 1) := by decide +kernel
theorem dX5_sumOfRow_3 : decode cX5_sumOfRow 3 = .ok (.istore 4, 2) := by decide +kernel
theorem dX5_sumOfRow_5 : decode cX5_sumOfRow 5 = .ok (.iload 4, 2) := by decide +kernel
theorem dX5_sumOfRow_7 : decode cX5_sumOfRow 7 = .ok (.aload_n 0, 1) := by decide +kernel
theorem dX5_sumOfRow_8 : decode cX5_sumOfRow 8 = .ok (.getfield 21, 3) := by decide +kernel
theorem dX5_sumOfRow_11 : decode cX5_sumOfRow 11 = .ok (.if_icmp .ge 19, 3) := by decide +kernel
theorem dX5_sumOfRow_14 : decode cX5_sumOfRow 14 = .ok (.dload_n 2, 1) := by decide +kernel
theorem dX5_sumOfRow_15 : decode cX5_sumOfRow 15 = .ok (.aload_n 0, 1) := by decide +kernel
theorem dX5_sumOfRow_16 : decode cX5_sumOfRow 16 = .ok (.iload_n 1, 1) := by decide +kernel
theorem dX5_sumOfRow_17 : decode cX5_sumOfRow 17 = .ok (.iload 4, 2) := by decide +kernel
theorem dX5_sumOfRow_19 : decode cX5_sumOfRow 19 = .ok (.invokevirtual 53, 3) := by decide +kernel
theorem dX5_sumOfRow_22 : decode cX5_sumOfRow 22 = .ok (.dadd, 1) := by decide +kernel
theorem dX5_sumOfRow_23 : decode cX5_sumOfRow 23 = .ok (.dstore_n 2, 1) := by decide +kernel
theorem dX5_sumOfRow_24 : decode cX5_sumOfRow 24 = .ok (.iinc 4 1, 3) := by decide +kernel
theorem dX5_sumOfRow_27 : decode cX5_sumOfRow 27 = .ok (.goto (-22), 3) := by decide +kernel
theorem dX5_sumOfRow_30 : decode cX5_sumOfRow 30 = .ok (.dload_n 2, 1) := by decide +kernel
theorem dX5_sumOfRow_31 : decode cX5_sumOfRow 31 = .ok (.dreturn, 1) := by decide +kernel
set_option maxRecDepth 20000 in
theorem ggX5_sumOfColumn_X5_at : GoodIn wsX5_sumOfColumn wsX5_at := goodIn_r _ [6, 1, 7, 8, 9, 10, 11] (by decide +kernel) (by decide +kernel)
set_option maxRecDepth 20000 in
theorem gX5_sumOfColumn_X5_at : GoodIn wsX5_sumOfColumn (wsV RX5 53 RX5 yX5_at wsX5_at) := goodIn_app (goodIn_of _ (by decide +kernel)) ggX5_sumOfColumn_X5_at
theorem dX5_sumOfColumn_0 : decode cX5_sumOfColumn 0 = .ok (.dconst 0, 1) := by decide +kernel
theorem dX5_sumOfColumn_1 : decode cX5_sumOfColumn 1 = .ok (.dstore_n 2, 1) := by decide +kernel
theorem dX5_sumOfColumn_2 : decode cX5_sumOfColumn 2 = .ok (.iconst 0, 1) := by decide +kernel
theorem dX5_sumOfColumn_3 : decode cX5_sumOfColumn 3 = .ok (.istore 4, 2) := by decide +kernel
theorem dX5_sumOfColumn_5 : decode cX5_sumOfColumn 5 = .ok (.iload 4, 2) := by decide +kernel
theorem dX5_sumOfColumn_7 : decode cX5_sumOfColumn 7 = .ok (.aload_n 0, 1) := by decide +kernel
theorem dX5_sumOfColumn_8 : decode cX5_sumOfColumn 8 = .ok (.getfield 21, 3) := by decide +kernel
theorem dX5_sumOfColumn_11 : decode cX5_sumOfColumn 11 = .ok (.if_icmp .ge 19, 3) := by decide +kernel
theorem dX5_sumOfColumn_14 : decode cX5_sumOfColumn 14 = .ok (.dload_n 2, 1) := by decide +kernel
theorem dX5_sumOfColumn_15 : decode cX5_sumOfColumn 15 = .ok (.aload_n 0, 1) := by decide +kernel
theorem dX5_sumOfColumn_16 : decode cX5_sumOfColumn 16 = .ok (.iload 4, 2) := by decide +kernel
theorem dX5_sumOfColumn_18 : decode cX5_sumOfColumn 18 = .ok (.iload_n 1, 1) := by decide +kernel
theorem dX5_sumOfColumn_19 : decode cX5_sumOfColumn 19 = .ok (.invokevirtual 53, 3) := by decide +kernel
theorem dX5_sumOfColumn_22 : decode cX5_sumOfColumn 22 = .ok (.dadd, 1) := by decide +kernel
theorem dX5_sumOfColumn_23 : decode cX5_sumOfColumn 23 = .ok (.dstore_n 2, 1) := by decide +kernel
theorem dX5_sumOfColumn_24 : decode cX5_sumOfColumn 24 = .ok (.iinc 4 1, 3) := by decide +kernel
theorem dX5_sumOfColumn_27 : decode cX5_sumOfColumn 27 = .ok (.goto (-22), 3) := by decide +kernel
theorem dX5_sumOfColumn_30 : decode cX5_sumOfColumn 30 = .ok (.dload_n 2, 1) := by decide +kernel
theorem dX5_sumOfColumn_31 : decode cX5_sumOfColumn 31 = .ok (.dreturn, 1) := by decide +kernel
set_option maxRecDepth 20000 in
theorem ggX5_divideRow_X5_divide : GoodIn wsX5_divideRow wsX5_divide := goodIn_r _ [6, 1, 7, 8, 9, 10, 11] (by decide +kernel) (by decide +kernel)
set_option maxRecDepth 20000 in
theorem gX5_divideRow_X5_divide : GoodIn wsX5_divideRow (wsV RX5 56 RX5 yX5_divide wsX5_divide) := goodIn_app (goodIn_of _ (by decide +kernel)) ggX5_divideRow_X5_divide
theorem dX5_divideRow_0 : decode cX5_divideRow 0 = .ok (.iconst 0, 1) := by decide +kernel
theorem dX5_divideRow_1 : decode cX5_divideRow 1 = .ok (.istore 4, 2) := by decide +kernel
theorem dX5_divideRow_3 : decode cX5_divideRow 3 = .ok (.iload 4, 2) := by decide +kernel
theorem dX5_divideRow_5 : decode cX5_divideRow 5 = .ok (.aload_n 0, 1) := by decide +kernel
theorem dX5_divideRow_6 : decode cX5_divideRow 6 = .ok (.getfield 21, 3) := by decide +kernel
theorem dX5_divideRow_9 : decode cX5_divideRow 9 = .ok (.if_icmp .ge 17, 3) := by decide +kernel
theorem dX5_divideRow_12 : decode cX5_divideRow 12 = .ok (.aload_n 0, 1) := by decide +kernel
theorem dX5_divideRow_13 : decode cX5_divideRow 13 = .ok (.iload_n 1, 1) := by decide +kernel
theorem dX5_divideRow_14 : decode cX5_divideRow 14 = .ok (.iload 4, 2) := by decide +kernel
theorem dX5_divideRow_16 : decode cX5_divideRow 16 = .ok (.dload_n 2, 1) := by decide +kernel
theorem dX5_divideRow_17 : decode cX5_divideRow 17 = .ok (.invokevirtual 56, 3) := by decide +kernel
theorem dX5_divideRow_20 : decode cX5_divideRow 20 = .ok (.iinc 4 1, 3) := by decide +kernel
theorem dX5_divideRow_23 : decode cX5_divideRow 23 = .ok (.goto (-20), 3) := by decide +kernel
theorem dX5_divideRow_26 : decode cX5_divideRow 26 = .ok (.return_, 1) := by decide +kernel
set_option maxRecDepth 20000 in
theorem ggX5_divideColumn_X5_divide : GoodIn wsX5_divideColumn wsX5_divide := goodIn_r _ [6, 1, 7, 8, 9, 10, 11] (by decide +kernel) (by decide +kernel)
set_option maxRecDepth 20000 in
theorem gX5_divideColumn_X5_divide : GoodIn wsX5_divideColumn (wsV RX5 56 RX5 yX5_divide wsX5_divide) := goodIn_app (goodIn_of _ (by decide +kernel)) ggX5_divideColumn_X5_divide
theorem dX5_divideColumn_0 : decode cX5_divideColumn 0 = .ok (.iconst 0, 1) := by decide +kernel
theorem dX5_divideColumn_1 : decode cX5_divideColumn 1 = .ok (.istore 4, 2) := by decide +kernel
theorem dX5_divideColumn_3 : decode cX5_divideColumn 3 = .ok (.iload 4, 2) := by decide +kernel
theorem dX5_divideColumn_5 : decode cX5_divideColumn 5 = .ok (.aload_n 0, 1) := by decide +kernel
theorem dX5_divideColumn_6 : decode cX5_divideColumn 6 = .ok (.getfield 21, 3) := by decide +kernel
theorem dX5_divideColumn_9 : decode cX5_divideColumn 9 = .ok (.if_icmp .ge 17, 3) := by decide +kernel
theorem dX5_divideColumn_12 : decode cX5_divideColumn 12 = .ok (.aload_n 0, 1) := by decide +kernel
theorem dX5_divideColumn_13 : decode cX5_divideColumn 13 = .ok (.iload 4, 2) := by decide +kernel
theorem dX5_divideColumn_15 : decode cX5_divideColumn 15 = .ok (.iload_n 1, 1) := by decide +kernel
theorem dX5_divideColumn_16 : decode cX5_divideColumn 16 = .ok (.dload_n 2, 1) := by decide +kernel
theorem dX5_divideColumn_17 : decode cX5_divideColumn 17 = .ok (.invokevirtual 56, 3) := by decide +kernel
theorem dX5_divideColumn_20 : decode cX5_divideColumn 20 = .ok (.iinc 4 1, 3) := by decide +kernel
theorem dX5_divideColumn_23 : decode cX5_divideColumn 23 = .ok (.goto (-20), 3) := by decide +kernel
theorem dX5_divideColumn_26 : decode cX5_divideColumn 26 = .ok (.return_, 1) := by decide +kernel
theorem dX5_divide_0 : decode cX5_divide 0 = .ok (.dload_n 3, 1) := by decide +kernel
theorem dX5_divide_1 : decode cX5_divide 1 = .ok (.dconst 0, 1) := by decide +kernel
theorem dX5_divide_2 : decode cX5_divide 2 = .ok (.dcmp .l, 1) := by decide +kernel
theorem dX5_divide_3 : decode cX5_divide 3 = .ok (.ifCond .le 51, 3) := by decide +kernel
theorem dX5_divide_6 : decode cX5_divide 6 = .ok (.iload_n 1, 1) := by decide +kernel
theorem dX5_divide_7 : decode cX5_divide 7 = .ok (.ifCond .lt 47, 3) := by decide +kernel
theorem dX5_divide_10 : decode cX5_divide 10 = .ok (.iload_n 1, 1) := by decide +kernel
theorem dX5_divide_11 : decode cX5_divide 11 = .ok (.aload_n 0, 1) := by decide +kernel
theorem dX5_divide_12 : decode cX5_divide 12 = .ok (.getfield 21, 3) := by decide +kernel
theorem dX5_divide_15 : decode cX5_divide 15 = .ok (.if_icmp .ge 39, 3) := by decide +kernel
theorem dX5_divide_18 : decode cX5_divide 18 = .ok (.iload_n 2, 1) := by decide +kernel
theorem dX5_divide_19 : decode cX5_divide 19 = .ok (.ifCond .lt 35, 3) := by decide +kernel
theorem dX5_divide_22 : decode cX5_divide 22 = .ok (.iload_n 2, 1) := by decide +kernel
theorem dX5_divide_23 : decode cX5_divide 23 = .ok (.aload_n 0, 1) := by decide +kernel
theorem dX5_divide_24 : decode cX5_divide 24 = .ok (.getfield 21, 3) := by decide +kernel
theorem dX5_divide_27 : decode cX5_divide 27 = .ok (.if_icmp .ge 27, 3) := by decide +kernel
theorem dX5_divide_30 : decode cX5_divide 30 = .ok (.aload_n 0, 1) := by decide +kernel
theorem dX5_divide_31 : decode cX5_divide 31 = .ok (.getfield 9, 3) := by decide +kernel
theorem dX5_divide_34 : decode cX5_divide 34 = .ok (.iload_n 1, 1) := by decide +kernel
theorem dX5_divide_35 : decode cX5_divide 35 = .ok (.bipush 7, 2) := by decide +kernel
theorem dX5_divide_37 : decode cX5_divide 37 = .ok (.imul, 1) := by decide +kernel
theorem dX5_divide_38 : decode cX5_divide 38 = .ok (.iload_n 2, 1) := by decide +kernel
theorem dX5_divide_39 : decode cX5_divide 39 = .ok (.iadd, 1) := by decide +kernel
theorem dX5_divide_40 : decode cX5_divide 40 = .ok (.aload_n 0, 1) := by decide +kernel
theorem dX5_divide_41 : decode cX5_divide 41 = .ok (.getfield 9, 3) := by decide +kernel
theorem dX5_divide_44 : decode cX5_divide 44 = .ok (.iload_n 1, 1) := by decide +kernel
theorem dX5_divide_45 : decode cX5_divide 45 = .ok (.bipush 7, 2) := by decide +kernel
theorem dX5_divide_47 : decode cX5_divide 47 = .ok (.imul, 1) := by decide +kernel
theorem dX5_divide_48 : decode cX5_divide 48 = .ok (.iload_n 2, 1) := by decide +kernel
theorem dX5_divide_49 : decode cX5_divide 49 = .ok (.iadd, 1) := by decide +kernel
theorem dX5_divide_50 : decode cX5_divide 50 = .ok (.daload, 1) := by decide +kernel
theorem dX5_divide_51 : decode cX5_divide 51 = .ok (.dload_n 3, 1) := by decide +kernel
theorem dX5_divide_52 : decode cX5_divide 52 = .ok (.ddiv, 1) := by decide +kernel
theorem dX5_divide_53 : decode cX5_divide 53 = .ok (.dastore, 1) := by decide +kernel
theorem dX5_divide_54 : decode cX5_divide 54 = .ok (.return_, 1) := by decide +kernel
set_option maxRecDepth 20000 in
theorem ggX5_greatestGap_X5_sumOfRow : GoodIn wsX5_greatestGap wsX5_sumOfRow := goodIn_r _ [6, 1, 7, 8, 9, 5, 10, 11, 12, 13, 14, 15] (by decide +kernel) (by decide +kernel)
set_option maxRecDepth 20000 in
theorem gX5_greatestGap_X5_sumOfRow : GoodIn wsX5_greatestGap (wsV RX5 39 RX5 yX5_sumOfRow wsX5_sumOfRow) := goodIn_app (goodIn_of _ (by decide +kernel)) ggX5_greatestGap_X5_sumOfRow
theorem dX5_greatestGap_0 : decode cX5_greatestGap 0 = .ok (.dconst 0, 1) := by decide +kernel
theorem dX5_greatestGap_1 : decode cX5_greatestGap 1 = .ok (.dstore_n 1, 1) := by decide +kernel
theorem dX5_greatestGap_2 : decode cX5_greatestGap 2 = .ok (.iconst 0, 1) := by decide +kernel
theorem dX5_greatestGap_3 : decode cX5_greatestGap 3 = .ok (.istore_n 3, 1) := by decide +kernel
theorem dX5_greatestGap_4 : decode cX5_greatestGap 4 = .ok (.iload_n 3, 1) := by decide +kernel
theorem dX5_greatestGap_5 : decode cX5_greatestGap 5 = .ok (.aload_n 0, 1) := by decide +kernel
theorem dX5_greatestGap_6 : decode cX5_greatestGap 6 = .ok (.getfield 21, 3) := by decide +kernel
theorem dX5_greatestGap_9 : decode cX5_greatestGap 9 = .ok (.if_icmp .ge 49, 3) := by decide +kernel
theorem dX5_greatestGap_12 : decode cX5_greatestGap 12 = .ok (.aload_n 0, 1) := by decide +kernel
theorem dX5_greatestGap_13 : decode cX5_greatestGap 13 = .ok (.iload_n 3, 1) := by decide +kernel
theorem dX5_greatestGap_14 : decode cX5_greatestGap 14 = .ok (.invokevirtual 39, 3) := by decide +kernel
theorem dX5_greatestGap_17 : decode cX5_greatestGap 17 = .ok (.dconst 1, 1) := by decide +kernel
theorem dX5_greatestGap_18 : decode cX5_greatestGap 18 = .ok (.dsub, 1) := by decide +kernel
theorem dX5_greatestGap_19 : decode cX5_greatestGap 19 = .ok (.dstore 4, 2) := by decide +kernel
theorem dX5_greatestGap_21 : decode cX5_greatestGap 21 = .ok (.dload 4, 2) := by decide +kernel
theorem dX5_greatestGap_23 : decode cX5_greatestGap 23 = .ok (.dconst 0, 1) := by decide +kernel
theorem dX5_greatestGap_24 : decode cX5_greatestGap 24 = .ok (.dcmp .g, 1) := by decide +kernel
theorem dX5_greatestGap_25 : decode cX5_greatestGap 25 = .ok (.ifCond .ge 9, 3) := by decide +kernel
theorem dX5_greatestGap_28 : decode cX5_greatestGap 28 = .ok (.dload 4, 2) := by decide +kernel
theorem dX5_greatestGap_30 : decode cX5_greatestGap 30 = .ok (.dneg, 1) := by decide +kernel
theorem dX5_greatestGap_31 : decode cX5_greatestGap 31 = .ok (.goto 5, 3) := by decide +kernel
theorem dX5_greatestGap_34 : decode cX5_greatestGap 34 = .ok (.dload 4, 2) := by decide +kernel
theorem dX5_greatestGap_36 : decode cX5_greatestGap 36 = .ok (.dstore 6, 2) := by decide +kernel
theorem dX5_greatestGap_38 : decode cX5_greatestGap 38 = .ok (.dload 6, 2) := by decide +kernel
theorem dX5_greatestGap_40 : decode cX5_greatestGap 40 = .ok (.dload_n 1, 1) := by decide +kernel
theorem dX5_greatestGap_41 : decode cX5_greatestGap 41 = .ok (.dcmp .l, 1) := by decide +kernel
theorem dX5_greatestGap_42 : decode cX5_greatestGap 42 = .ok (.ifCond .le 8, 3) := by decide +kernel
theorem dX5_greatestGap_45 : decode cX5_greatestGap 45 = .ok (.dload 6, 2) := by decide +kernel
theorem dX5_greatestGap_47 : decode cX5_greatestGap 47 = .ok (.goto 4, 3) := by decide +kernel
theorem dX5_greatestGap_50 : decode cX5_greatestGap 50 = .ok (.dload_n 1, 1) := by decide +kernel
theorem dX5_greatestGap_51 : decode cX5_greatestGap 51 = .ok (.dstore_n 1, 1) := by decide +kernel
theorem dX5_greatestGap_52 : decode cX5_greatestGap 52 = .ok (.iinc 3 1, 3) := by decide +kernel
theorem dX5_greatestGap_55 : decode cX5_greatestGap 55 = .ok (.goto (-51), 3) := by decide +kernel
theorem dX5_greatestGap_58 : decode cX5_greatestGap 58 = .ok (.dload_n 1, 1) := by decide +kernel
theorem dX5_greatestGap_59 : decode cX5_greatestGap 59 = .ok (.dreturn, 1) := by decide +kernel
theorem dX5_bound_0 : decode cX5_bound 0 = .ok (.dconst 1, 1) := by decide +kernel
theorem dX5_bound_1 : decode cX5_bound 1 = .ok (.dstore_n 1, 1) := by decide +kernel
theorem dX5_bound_2 : decode cX5_bound 2 = .ok (.iconst 1, 1) := by decide +kernel
theorem dX5_bound_3 : decode cX5_bound 3 = .ok (.istore_n 3, 1) := by decide +kernel
theorem dX5_bound_4 : decode cX5_bound 4 = .ok (.iload_n 3, 1) := by decide +kernel
theorem dX5_bound_5 : decode cX5_bound 5 = .ok (.aload_n 0, 1) := by decide +kernel
theorem dX5_bound_6 : decode cX5_bound 6 = .ok (.getfield 21, 3) := by decide +kernel
theorem dX5_bound_9 : decode cX5_bound 9 = .ok (.if_icmp .gt 22, 3) := by decide +kernel
theorem dX5_bound_12 : decode cX5_bound 12 = .ok (.dload_n 1, 1) := by decide +kernel
theorem dX5_bound_13 : decode cX5_bound 13 = .ok (.iload_n 3, 1) := by decide +kernel
theorem dX5_bound_14 : decode cX5_bound 14 = .ok (.i2d, 1) := by decide +kernel
theorem dX5_bound_15 : decode cX5_bound 15 = .ok (.dmul, 1) := by decide +kernel
theorem dX5_bound_16 : decode cX5_bound 16 = .ok (.dstore_n 1, 1) := by decide +kernel
theorem dX5_bound_17 : decode cX5_bound 17 = .ok (.dload_n 1, 1) := by decide +kernel
theorem dX5_bound_18 : decode cX5_bound 18 = .ok (.aload_n 0, 1) := by decide +kernel
theorem dX5_bound_19 : decode cX5_bound 19 = .ok (.getfield 21, 3) := by decide +kernel
theorem dX5_bound_22 : decode cX5_bound 22 = .ok (.i2d, 1) := by decide +kernel
theorem dX5_bound_23 : decode cX5_bound 23 = .ok (.ddiv, 1) := by decide +kernel
theorem dX5_bound_24 : decode cX5_bound 24 = .ok (.dstore_n 1, 1) := by decide +kernel
theorem dX5_bound_25 : decode cX5_bound 25 = .ok (.iinc 3 1, 3) := by decide +kernel
theorem dX5_bound_28 : decode cX5_bound 28 = .ok (.goto (-24), 3) := by decide +kernel
theorem dX5_bound_31 : decode cX5_bound 31 = .ok (.iconst 0, 1) := by decide +kernel
theorem dX5_bound_32 : decode cX5_bound 32 = .ok (.istore_n 3, 1) := by decide +kernel
theorem dX5_bound_33 : decode cX5_bound 33 = .ok (.iload_n 3, 1) := by decide +kernel
theorem dX5_bound_34 : decode cX5_bound 34 = .ok (.aload_n 0, 1) := by decide +kernel
theorem dX5_bound_35 : decode cX5_bound 35 = .ok (.getfield 21, 3) := by decide +kernel
theorem dX5_bound_38 : decode cX5_bound 38 = .ok (.if_icmp .ge 18, 3) := by decide +kernel
theorem dX5_bound_41 : decode cX5_bound 41 = .ok (.dload_n 1, 1) := by decide +kernel
theorem dX5_bound_42 : decode cX5_bound 42 = .ok (.aload_n 0, 1) := by decide +kernel
theorem dX5_bound_43 : decode cX5_bound 43 = .ok (.getfield 15, 3) := by decide +kernel
theorem dX5_bound_46 : decode cX5_bound 46 = .ok (.iload_n 3, 1) := by decide +kernel
theorem dX5_bound_47 : decode cX5_bound 47 = .ok (.daload, 1) := by decide +kernel
theorem dX5_bound_48 : decode cX5_bound 48 = .ok (.dmul, 1) := by decide +kernel
theorem dX5_bound_49 : decode cX5_bound 49 = .ok (.dstore_n 1, 1) := by decide +kernel
theorem dX5_bound_50 : decode cX5_bound 50 = .ok (.iinc 3 1, 3) := by decide +kernel
theorem dX5_bound_53 : decode cX5_bound 53 = .ok (.goto (-20), 3) := by decide +kernel
theorem dX5_bound_56 : decode cX5_bound 56 = .ok (.iconst 0, 1) := by decide +kernel
theorem dX5_bound_57 : decode cX5_bound 57 = .ok (.istore_n 3, 1) := by decide +kernel
theorem dX5_bound_58 : decode cX5_bound 58 = .ok (.iload_n 3, 1) := by decide +kernel
theorem dX5_bound_59 : decode cX5_bound 59 = .ok (.aload_n 0, 1) := by decide +kernel
theorem dX5_bound_60 : decode cX5_bound 60 = .ok (.getfield 21, 3) := by decide +kernel
theorem dX5_bound_63 : decode cX5_bound 63 = .ok (.if_icmp .ge 18, 3) := by decide +kernel
theorem dX5_bound_66 : decode cX5_bound 66 = .ok (.dload_n 1, 1) := by decide +kernel
theorem dX5_bound_67 : decode cX5_bound 67 = .ok (.aload_n 0, 1) := by decide +kernel
theorem dX5_bound_68 : decode cX5_bound 68 = .ok (.getfield 18, 3) := by decide +kernel
theorem dX5_bound_71 : decode cX5_bound 71 = .ok (.iload_n 3, 1) := by decide +kernel
theorem dX5_bound_72 : decode cX5_bound 72 = .ok (.daload, 1) := by decide +kernel
theorem dX5_bound_73 : decode cX5_bound 73 = .ok (.dmul, 1) := by decide +kernel
theorem dX5_bound_74 : decode cX5_bound 74 = .ok (.dstore_n 1, 1) := by decide +kernel
theorem dX5_bound_75 : decode cX5_bound 75 = .ok (.iinc 3 1, 3) := by decide +kernel
theorem dX5_bound_78 : decode cX5_bound 78 = .ok (.goto (-20), 3) := by decide +kernel
theorem dX5_bound_81 : decode cX5_bound 81 = .ok (.dload_n 1, 1) := by decide +kernel
theorem dX5_bound_82 : decode cX5_bound 82 = .ok (.dreturn, 1) := by decide +kernel
