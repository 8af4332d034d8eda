set_option maxRecDepth 20000 in
theorem ggX8_init_X8_start : GoodIn wsX8_init wsX8_start := goodIn_r _ [8, 9, 10, 11, 12, 13, 14, 15, 16, 17, 18] (by decide +kernel) (by decide +kernel)
set_option maxRecDepth 20000 in
theorem gX8_init_X8_start : GoodIn wsX8_init (wsV RX8 9 RX8 yX8_start wsX8_start) := goodIn_app (goodIn_of _ (by decide +kernel)) ggX8_init_X8_start
theorem dX8_init_0 : decode cX8_init 0 = .ok (.aload_n 0, 1) := by decide +kernel
theorem dX8_init_1 : decode cX8_init 1 = .ok (.invokespecial 3, 3) := by decide +kernel
theorem dX8_init_4 : decode cX8_init 4 = .ok (.aload_n 0, 1) := by decide +kernel
theorem dX8_init_5 : decode cX8_init 5 = .ok (.invokevirtual 9, 3) := by decide +kernel
theorem dX8_init_8 : decode cX8_init 8 = .ok (.return_, 1) := by decide +kernel
theorem dX8_start_0 : decode cX8_start 0 = .ok (.aload_n 0, 1) := by decide +kernel
theorem dX8_start_1 : decode cX8_start 1 = .ok (.iconst 0, 1) := by decide +kernel
theorem dX8_start_2 : decode cX8_start 2 = .ok (.putfield 14, 3) := by decide +kernel
theorem dX8_start_5 : decode cX8_start 5 = .ok (.aload_n 0, 1) := by decide +kernel
theorem dX8_start_6 : decode cX8_start 6 = .ok (.iconst 0, 1) := by decide +kernel
theorem dX8_start_7 : decode cX8_start 7 = .ok (.putfield 18, 3) := by decide +kernel
theorem dX8_start_10 : decode cX8_start 10 = .ok (.aload_n 0, 1) := by decide +kernel
theorem dX8_start_11 : decode cX8_start 11 = .ok (.iconst 0, 1) := by decide +kernel
theorem dX8_start_12 : decode cX8_start 12 = .ok (.putfield 21, 3) := by decide +kernel
theorem dX8_start_15 : decode cX8_start 15 = .ok (.aload_n 0, 1) := by decide +kernel
theorem dX8_start_16 : decode cX8_start 16 = .ok (.iconst 0, 1) := by decide +kernel
theorem dX8_start_17 : decode cX8_start 17 = .ok (.putfield 24, 3) := by decide +kernel
theorem dX8_start_20 : decode cX8_start 20 = .ok (.aload_n 0, 1) := by decide +kernel
theorem dX8_start_21 : decode cX8_start 21 = .ok (.iconst 0, 1) := by decide +kernel
theorem dX8_start_22 : decode cX8_start 22 = .ok (.putfield 27, 3) := by decide +kernel
theorem dX8_start_25 : decode cX8_start 25 = .ok (.return_, 1) := by decide +kernel
set_option maxRecDepth 20000 in
theorem ggX8_readInto_X8_start : GoodIn wsX8_readInto wsX8_start := goodIn_r _ [9, 1, 2, 3, 10, 4, 65, 66, 67, 68, 69] (by decide +kernel) (by decide +kernel)
set_option maxRecDepth 20000 in
theorem gX8_readInto_X8_start : GoodIn wsX8_readInto (wsV RX8 9 RX8 yX8_start wsX8_start) := goodIn_app (goodIn_of _ (by decide +kernel)) ggX8_readInto_X8_start
set_option maxRecDepth 20000 in
theorem ggX8_readInto_X4_fillWithZeros : GoodIn wsX8_readInto wsX4_fillWithZeros := goodIn_r _ [15, 16, 17, 18, 19, 14, 20, 21, 70, 71] (by decide +kernel) (by decide +kernel)
set_option maxRecDepth 20000 in
theorem gX8_readInto_X4_fillWithZeros : GoodIn wsX8_readInto (wsV RX8 30 RX4 yX4_fillWithZeros wsX4_fillWithZeros) := goodIn_app (goodIn_of _ (by decide +kernel)) ggX8_readInto_X4_fillWithZeros
set_option maxRecDepth 20000 in
theorem ggX8_readInto_X8_takeEntry : GoodIn wsX8_readInto wsX8_takeEntry := goodIn_r _ [25, 1, 4, 26, 27, 28, 29, 30, 31, 32, 33, 34, 8, 35, 36, 37, 38, 39, 65, 66, 67, 68, 69, 72, 73] (by decide +kernel) (by decide +kernel)
set_option maxRecDepth 20000 in
theorem gX8_readInto_X8_takeEntry : GoodIn wsX8_readInto (wsV RX8 36 RX8 yX8_takeEntry wsX8_takeEntry) := goodIn_app (goodIn_of _ (by decide +kernel)) ggX8_readInto_X8_takeEntry
set_option maxRecDepth 20000 in
theorem ggX8_readInto_X4_put : GoodIn wsX8_readInto wsX4_put := goodIn_r _ [43, 16, 44, 45, 46, 14, 47, 21, 70, 71] (by decide +kernel) (by decide +kernel)
set_option maxRecDepth 20000 in
theorem gX8_readInto_X4_put : GoodIn wsX8_readInto (wsV RX8 40 RX4 yX4_put wsX4_put) := goodIn_app (goodIn_of _ (by decide +kernel)) ggX8_readInto_X4_put
set_option maxRecDepth 20000 in
theorem ggX8_readInto_X7_length : GoodIn wsX8_readInto wsX7_length := goodIn_r _ [39, 31, 72, 73] (by decide +kernel) (by decide +kernel)
set_option maxRecDepth 20000 in
theorem gX8_readInto_X7_length : GoodIn wsX8_readInto (wsV RX8 44 RX7 yX7_length wsX7_length) := goodIn_app (goodIn_of _ (by decide +kernel)) ggX8_readInto_X7_length
set_option maxRecDepth 20000 in
theorem ggX8_readInto_X8_endWith : GoodIn wsX8_readInto wsX8_endWith := goodIn_r _ [51, 10, 3, 2, 1, 52, 18, 19, 14, 20, 21, 65, 66, 67, 68, 69, 70, 71] (by decide +kernel) (by decide +kernel)
set_option maxRecDepth 20000 in
theorem gX8_readInto_X8_endWith : GoodIn wsX8_readInto (wsV RX8 50 RX8 yX8_endWith wsX8_endWith) := goodIn_app (goodIn_of _ (by decide +kernel)) ggX8_readInto_X8_endWith
set_option maxRecDepth 20000 in
theorem ggX8_readInto_X8_takeSeparator : GoodIn wsX8_readInto wsX8_takeSeparator := goodIn_r _ [56, 1, 26, 27, 28, 29, 30, 31, 32, 57, 58, 59, 8, 60, 10, 3, 61, 62, 63, 64, 2, 65, 66, 67, 68, 69, 72, 73] (by decide +kernel) (by decide +kernel)
set_option maxRecDepth 20000 in
theorem gX8_readInto_X8_takeSeparator : GoodIn wsX8_readInto (wsV RX8 54 RX8 yX8_takeSeparator wsX8_takeSeparator) := goodIn_app (goodIn_of _ (by decide +kernel)) ggX8_readInto_X8_takeSeparator
theorem dX8_readInto_0 : decode cX8_readInto 0 = .ok (.aload_n 0, 1) := by decide +kernel
theorem dX8_readInto_1 : decode cX8_readInto 1 = .ok (.invokevirtual 9, 3) := by decide +kernel
theorem dX8_readInto_4 : decode cX8_readInto 4 = .ok (.aload_n 1, 1) := by decide +kernel
theorem dX8_readInto_5 : decode cX8_readInto 5 = .ok (.bipush 7, 2) := by decide +kernel
theorem dX8_readInto_7 : decode cX8_readInto 7 = .ok (.invokevirtual 30, 3) := by decide +kernel
theorem dX8_readInto_10 : decode cX8_readInto 10 = .ok (.iconst 0, 1) := by decide +kernel
theorem dX8_readInto_11 : decode cX8_readInto 11 = .ok (.istore_n 3, 1) := by decide +kernel
theorem dX8_readInto_12 : decode cX8_readInto 12 = .ok (.iload_n 3, 1) := by decide +kernel
theorem dX8_readInto_13 : decode cX8_readInto 13 = .ok (.bipush 49, 2) := by decide +kernel
theorem dX8_readInto_15 : decode cX8_readInto 15 = .ok (.if_icmp .ge 68, 3) := by decide +kernel
theorem dX8_readInto_18 : decode cX8_readInto 18 = .ok (.aload_n 0, 1) := by decide +kernel
theorem dX8_readInto_19 : decode cX8_readInto 19 = .ok (.aload_n 2, 1) := by decide +kernel
theorem dX8_readInto_20 : decode cX8_readInto 20 = .ok (.invokevirtual 36, 3) := by decide +kernel
theorem dX8_readInto_23 : decode cX8_readInto 23 = .ok (.ifCond .ne 8, 3) := by decide +kernel
theorem dX8_readInto_26 : decode cX8_readInto 26 = .ok (.aload_n 0, 1) := by decide +kernel
theorem dX8_readInto_27 : decode cX8_readInto 27 = .ok (.getfield 14, 3) := by decide +kernel
theorem dX8_readInto_30 : decode cX8_readInto 30 = .ok (.ireturn, 1) := by decide +kernel
theorem dX8_readInto_31 : decode cX8_readInto 31 = .ok (.aload_n 1, 1) := by decide +kernel
theorem dX8_readInto_32 : decode cX8_readInto 32 = .ok (.aload_n 0, 1) := by decide +kernel
theorem dX8_readInto_33 : decode cX8_readInto 33 = .ok (.getfield 18, 3) := by decide +kernel
theorem dX8_readInto_36 : decode cX8_readInto 36 = .ok (.aload_n 0, 1) := by decide +kernel
theorem dX8_readInto_37 : decode cX8_readInto 37 = .ok (.getfield 21, 3) := by decide +kernel
theorem dX8_readInto_40 : decode cX8_readInto 40 = .ok (.aload_n 0, 1) := by decide +kernel
theorem dX8_readInto_41 : decode cX8_readInto 41 = .ok (.getfield 27, 3) := by decide +kernel
theorem dX8_readInto_44 : decode cX8_readInto 44 = .ok (.invokevirtual 40, 3) := by decide +kernel
theorem dX8_readInto_47 : decode cX8_readInto 47 = .ok (.aload_n 0, 1) := by decide +kernel
theorem dX8_readInto_48 : decode cX8_readInto 48 = .ok (.getfield 14, 3) := by decide +kernel
theorem dX8_readInto_51 : decode cX8_readInto 51 = .ok (.aload_n 2, 1) := by decide +kernel
theorem dX8_readInto_52 : decode cX8_readInto 52 = .ok (.invokevirtual 44, 3) := by decide +kernel
theorem dX8_readInto_55 : decode cX8_readInto 55 = .ok (.if_icmp .lt 9, 3) := by decide +kernel
theorem dX8_readInto_58 : decode cX8_readInto 58 = .ok (.aload_n 0, 1) := by decide +kernel
theorem dX8_readInto_59 : decode cX8_readInto 59 = .ok (.aload_n 1, 1) := by decide +kernel
theorem dX8_readInto_60 : decode cX8_readInto 60 = .ok (.invokevirtual 50, 3) := by decide +kernel
theorem dX8_readInto_63 : decode cX8_readInto 63 = .ok (.ireturn, 1) := by decide +kernel
theorem dX8_readInto_64 : decode cX8_readInto 64 = .ok (.aload_n 0, 1) := by decide +kernel
theorem dX8_readInto_65 : decode cX8_readInto 65 = .ok (.aload_n 2, 1) := by decide +kernel
theorem dX8_readInto_66 : decode cX8_readInto 66 = .ok (.invokevirtual 54, 3) := by decide +kernel
theorem dX8_readInto_69 : decode cX8_readInto 69 = .ok (.ifCond .ne 8, 3) := by decide +kernel
theorem dX8_readInto_72 : decode cX8_readInto 72 = .ok (.aload_n 0, 1) := by decide +kernel
theorem dX8_readInto_73 : decode cX8_readInto 73 = .ok (.getfield 14, 3) := by decide +kernel
theorem dX8_readInto_76 : decode cX8_readInto 76 = .ok (.ireturn, 1) := by decide +kernel
theorem dX8_readInto_77 : decode cX8_readInto 77 = .ok (.iinc 3 1, 3) := by decide +kernel
theorem dX8_readInto_80 : decode cX8_readInto 80 = .ok (.goto (-68), 3) := by decide +kernel
theorem dX8_readInto_83 : decode cX8_readInto 83 = .ok (.aload_n 0, 1) := by decide +kernel
theorem dX8_readInto_84 : decode cX8_readInto 84 = .ok (.getfield 14, 3) := by decide +kernel
theorem dX8_readInto_87 : decode cX8_readInto 87 = .ok (.ireturn, 1) := by decide +kernel
set_option maxRecDepth 20000 in
theorem ggX8_endWith_X4_resize : GoodIn wsX8_endWith wsX4_resize := goodIn_r _ [9, 10, 16, 17] (by decide +kernel) (by decide +kernel)
set_option maxRecDepth 20000 in
theorem gX8_endWith_X4_resize : GoodIn wsX8_endWith (wsV RX8 57 RX4 yX4_resize wsX4_resize) := goodIn_app (goodIn_of _ (by decide +kernel)) ggX8_endWith_X4_resize
theorem dX8_endWith_0 : decode cX8_endWith 0 = .ok (.aload_n 0, 1) := by decide +kernel
theorem dX8_endWith_1 : decode cX8_endWith 1 = .ok (.getfield 24, 3) := by decide +kernel
theorem dX8_endWith_4 : decode cX8_endWith 4 = .ok (.ifCond .ne 12, 3) := by decide +kernel
theorem dX8_endWith_7 : decode cX8_endWith 7 = .ok (.aload_n 0, 1) := by decide +kernel
theorem dX8_endWith_8 : decode cX8_endWith 8 = .ok (.getfield 21, 3) := by decide +kernel
theorem dX8_endWith_11 : decode cX8_endWith 11 = .ok (.iconst 1, 1) := by decide +kernel
theorem dX8_endWith_12 : decode cX8_endWith 12 = .ok (.iadd, 1) := by decide +kernel
theorem dX8_endWith_13 : decode cX8_endWith 13 = .ok (.goto 7, 3) := by decide +kernel
theorem dX8_endWith_16 : decode cX8_endWith 16 = .ok (.aload_n 0, 1) := by decide +kernel
theorem dX8_endWith_17 : decode cX8_endWith 17 = .ok (.getfield 24, 3) := by decide +kernel
theorem dX8_endWith_20 : decode cX8_endWith 20 = .ok (.istore_n 2, 1) := by decide +kernel
theorem dX8_endWith_21 : decode cX8_endWith 21 = .ok (.aload_n 0, 1) := by decide +kernel
theorem dX8_endWith_22 : decode cX8_endWith 22 = .ok (.getfield 21, 3) := by decide +kernel
theorem dX8_endWith_25 : decode cX8_endWith 25 = .ok (.iconst 1, 1) := by decide +kernel
theorem dX8_endWith_26 : decode cX8_endWith 26 = .ok (.iadd, 1) := by decide +kernel
theorem dX8_endWith_27 : decode cX8_endWith 27 = .ok (.iload_n 2, 1) := by decide +kernel
theorem dX8_endWith_28 : decode cX8_endWith 28 = .ok (.if_icmp .ne 13, 3) := by decide +kernel
theorem dX8_endWith_31 : decode cX8_endWith 31 = .ok (.aload_n 0, 1) := by decide +kernel
theorem dX8_endWith_32 : decode cX8_endWith 32 = .ok (.getfield 18, 3) := by decide +kernel
theorem dX8_endWith_35 : decode cX8_endWith 35 = .ok (.iconst 1, 1) := by decide +kernel
theorem dX8_endWith_36 : decode cX8_endWith 36 = .ok (.iadd, 1) := by decide +kernel
theorem dX8_endWith_37 : decode cX8_endWith 37 = .ok (.iload_n 2, 1) := by decide +kernel
theorem dX8_endWith_38 : decode cX8_endWith 38 = .ok (.if_icmp .eq 8, 3) := by decide +kernel
theorem dX8_endWith_41 : decode cX8_endWith 41 = .ok (.aload_n 0, 1) := by decide +kernel
theorem dX8_endWith_42 : decode cX8_endWith 42 = .ok (.getfield 14, 3) := by decide +kernel
theorem dX8_endWith_45 : decode cX8_endWith 45 = .ok (.ireturn, 1) := by decide +kernel
theorem dX8_endWith_46 : decode cX8_endWith 46 = .ok (.aload_n 1, 1) := by decide +kernel
theorem dX8_endWith_47 : decode cX8_endWith 47 = .ok (.iload_n 2, 1) := by decide +kernel
theorem dX8_endWith_48 : decode cX8_endWith 48 = .ok (.invokevirtual 57, 3) := by decide +kernel
theorem dX8_endWith_51 : decode cX8_endWith 51 = .ok (.iconst (-1), 1) := by decide +kernel
theorem dX8_endWith_52 : decode cX8_endWith 52 = .ok (.ireturn, 1) := by decide +kernel
set_option maxRecDepth 20000 in
theorem ggX8_takeEntry_X7_at : GoodIn wsX8_takeEntry wsX7_at := goodIn_r _ [7, 8, 9, 23, 24] (by decide +kernel) (by decide +kernel)
set_option maxRecDepth 20000 in
theorem gX8_takeEntry_X7_at : GoodIn wsX8_takeEntry (wsV RX8 60 RX7 yX7_at wsX7_at) := goodIn_app (goodIn_of _ (by decide +kernel)) ggX8_takeEntry_X7_at
set_option maxRecDepth 20000 in
theorem ggX8_takeEntry_X8_isDigit : GoodIn wsX8_takeEntry wsX8_isDigit := goodIn_r _ [13] (by decide +kernel) (by decide +kernel)
set_option maxRecDepth 20000 in
theorem gX8_takeEntry_X8_isDigit : GoodIn wsX8_takeEntry (va_wsS RX8 64 yX8_isDigit wsX8_isDigit) := goodIn_app (goodIn_of _ (by decide +kernel)) ggX8_takeEntry_X8_isDigit
set_option maxRecDepth 20000 in
theorem ggX8_takeEntry_X7_length : GoodIn wsX8_takeEntry wsX7_length := goodIn_r _ [17, 8, 23, 24] (by decide +kernel) (by decide +kernel)
set_option maxRecDepth 20000 in
theorem gX8_takeEntry_X7_length : GoodIn wsX8_takeEntry (wsV RX8 44 RX7 yX7_length wsX7_length) := goodIn_app (goodIn_of _ (by decide +kernel)) ggX8_takeEntry_X7_length
theorem dX8_takeEntry_0 : decode cX8_takeEntry 0 = .ok (.aload_n 1, 1) := by decide +kernel
theorem dX8_takeEntry_1 : decode cX8_takeEntry 1 = .ok (.aload_n 0, 1) := by decide +kernel
theorem dX8_takeEntry_2 : decode cX8_takeEntry 2 = .ok (.getfield 14, 3) := by decide +kernel
theorem dX8_takeEntry_5 : decode cX8_takeEntry 5 = .ok (.invokevirtual 60, 3) := by decide +kernel
theorem dX8_takeEntry_8 : decode cX8_takeEntry 8 = .ok (.bipush 45, 2) := by decide +kernel
theorem dX8_takeEntry_10 : decode cX8_takeEntry 10 = .ok (.if_icmp .ne 7, 3) := by decide +kernel
theorem dX8_takeEntry_13 : decode cX8_takeEntry 13 = .ok (.iconst 1, 1) := by decide +kernel
theorem dX8_takeEntry_14 : decode cX8_takeEntry 14 = .ok (.goto 4, 3) := by decide +kernel
theorem dX8_takeEntry_17 : decode cX8_takeEntry 17 = .ok (.iconst 0, 1) := by decide +kernel
theorem dX8_takeEntry_18 : decode cX8_takeEntry 18 = .ok (.istore_n 2, 1) := by decide +kernel
theorem dX8_takeEntry_19 : decode cX8_takeEntry 19 = .ok (.iload_n 2, 1) := by decide +kernel
theorem dX8_takeEntry_20 : decode cX8_takeEntry 20 = .ok (.ifCond .eq 13, 3) := by decide +kernel
theorem dX8_takeEntry_23 : decode cX8_takeEntry 23 = .ok (.aload_n 0, 1) := by decide +kernel
theorem dX8_takeEntry_24 : decode cX8_takeEntry 24 = .ok (.dup, 1) := by decide +kernel
theorem dX8_takeEntry_25 : decode cX8_takeEntry 25 = .ok (.getfield 14, 3) := by decide +kernel
theorem dX8_takeEntry_28 : decode cX8_takeEntry 28 = .ok (.iconst 1, 1) := by decide +kernel
theorem dX8_takeEntry_29 : decode cX8_takeEntry 29 = .ok (.iadd, 1) := by decide +kernel
theorem dX8_takeEntry_30 : decode cX8_takeEntry 30 = .ok (.putfield 14, 3) := by decide +kernel
theorem dX8_takeEntry_33 : decode cX8_takeEntry 33 = .ok (.aload_n 1, 1) := by decide +kernel
theorem dX8_takeEntry_34 : decode cX8_takeEntry 34 = .ok (.aload_n 0, 1) := by decide +kernel
theorem dX8_takeEntry_35 : decode cX8_takeEntry 35 = .ok (.getfield 14, 3) := by decide +kernel
theorem dX8_takeEntry_38 : decode cX8_takeEntry 38 = .ok (.invokevirtual 60, 3) := by decide +kernel
theorem dX8_takeEntry_41 : decode cX8_takeEntry 41 = .ok (.istore_n 3, 1) := by decide +kernel
theorem dX8_takeEntry_42 : decode cX8_takeEntry 42 = .ok (.iload_n 3, 1) := by decide +kernel
theorem dX8_takeEntry_43 : decode cX8_takeEntry 43 = .ok (.invokestatic 64, 3) := by decide +kernel
theorem dX8_takeEntry_46 : decode cX8_takeEntry 46 = .ok (.ifCond .eq 13, 3) := by decide +kernel
theorem dX8_takeEntry_49 : decode cX8_takeEntry 49 = .ok (.iload_n 2, 1) := by decide +kernel
theorem dX8_takeEntry_50 : decode cX8_takeEntry 50 = .ok (.ifCond .eq 11, 3) := by decide +kernel
theorem dX8_takeEntry_53 : decode cX8_takeEntry 53 = .ok (.iload_n 3, 1) := by decide +kernel
theorem dX8_takeEntry_54 : decode cX8_takeEntry 54 = .ok (.bipush 48, 2) := by decide +kernel
theorem dX8_takeEntry_56 : decode cX8_takeEntry 56 = .ok (.if_icmp .ne 5, 3) := by decide +kernel
theorem dX8_takeEntry_59 : decode cX8_takeEntry 59 = .ok (.iconst 0, 1) := by decide +kernel
theorem dX8_takeEntry_60 : decode cX8_takeEntry 60 = .ok (.ireturn, 1) := by decide +kernel
theorem dX8_takeEntry_61 : decode cX8_takeEntry 61 = .ok (.iload_n 3, 1) := by decide +kernel
theorem dX8_takeEntry_62 : decode cX8_takeEntry 62 = .ok (.bipush 48, 2) := by decide +kernel
theorem dX8_takeEntry_64 : decode cX8_takeEntry 64 = .ok (.isub, 1) := by decide +kernel
theorem dX8_takeEntry_65 : decode cX8_takeEntry 65 = .ok (.istore 4, 2) := by decide +kernel
theorem dX8_takeEntry_67 : decode cX8_takeEntry 67 = .ok (.aload_n 0, 1) := by decide +kernel
theorem dX8_takeEntry_68 : decode cX8_takeEntry 68 = .ok (.dup, 1) := by decide +kernel
theorem dX8_takeEntry_69 : decode cX8_takeEntry 69 = .ok (.getfield 14, 3) := by decide +kernel
theorem dX8_takeEntry_72 : decode cX8_takeEntry 72 = .ok (.iconst 1, 1) := by decide +kernel
theorem dX8_takeEntry_73 : decode cX8_takeEntry 73 = .ok (.iadd, 1) := by decide +kernel
theorem dX8_takeEntry_74 : decode cX8_takeEntry 74 = .ok (.putfield 14, 3) := by decide +kernel
theorem dX8_takeEntry_77 : decode cX8_takeEntry 77 = .ok (.aload_n 0, 1) := by decide +kernel
theorem dX8_takeEntry_78 : decode cX8_takeEntry 78 = .ok (.getfield 14, 3) := by decide +kernel
theorem dX8_takeEntry_81 : decode cX8_takeEntry 81 = .ok (.aload_n 1, 1) := by decide +kernel
theorem dX8_takeEntry_82 : decode cX8_takeEntry 82 = .ok (.invokevirtual 44, 3) := by decide +kernel
theorem dX8_takeEntry_85 : decode cX8_takeEntry 85 = .ok (.if_icmp .ge 67, 3) := by decide +kernel
theorem dX8_takeEntry_88 : decode cX8_takeEntry 88 = .ok (.aload_n 1, 1) := by decide +kernel
theorem dX8_takeEntry_89 : decode cX8_takeEntry 89 = .ok (.aload_n 0, 1) := by decide +kernel
theorem dX8_takeEntry_90 : decode cX8_takeEntry 90 = .ok (.getfield 14, 3) := by decide +kernel
theorem dX8_takeEntry_93 : decode cX8_takeEntry 93 = .ok (.invokevirtual 60, 3) := by decide +kernel
theorem dX8_takeEntry_96 : decode cX8_takeEntry 96 = .ok (.invokestatic 64, 3) := by decide +kernel
theorem dX8_takeEntry_99 : decode cX8_takeEntry 99 = .ok (.ifCond .eq 53, 3) := by decide +kernel
theorem dX8_takeEntry_102 : decode cX8_takeEntry 102 = .ok (.iload 4, 2) := by decide +kernel
theorem dX8_takeEntry_104 : decode cX8_takeEntry 104 = .ok (.bipush 10, 2) := by decide +kernel
theorem dX8_takeEntry_106 : decode cX8_takeEntry 106 = .ok (.imul, 1) := by decide +kernel
theorem dX8_takeEntry_107 : decode cX8_takeEntry 107 = .ok (.aload_n 1, 1) := by decide +kernel
theorem dX8_takeEntry_108 : decode cX8_takeEntry 108 = .ok (.aload_n 0, 1) := by decide +kernel
theorem dX8_takeEntry_109 : decode cX8_takeEntry 109 = .ok (.getfield 14, 3) := by decide +kernel
theorem dX8_takeEntry_112 : decode cX8_takeEntry 112 = .ok (.invokevirtual 60, 3) := by decide +kernel
theorem dX8_takeEntry_115 : decode cX8_takeEntry 115 = .ok (.iadd, 1) := by decide +kernel
theorem dX8_takeEntry_116 : decode cX8_takeEntry 116 = .ok (.bipush 48, 2) := by decide +kernel
theorem dX8_takeEntry_118 : decode cX8_takeEntry 118 = .ok (.isub, 1) := by decide +kernel
theorem dX8_takeEntry_119 : decode cX8_takeEntry 119 = .ok (.istore 5, 2) := by decide +kernel
theorem dX8_takeEntry_121 : decode cX8_takeEntry 121 = .ok (.iload 4, 2) := by decide +kernel
theorem dX8_takeEntry_123 : decode cX8_takeEntry 123 = .ok (.ifCond .eq 10, 3) := by decide +kernel
theorem dX8_takeEntry_126 : decode cX8_takeEntry 126 = .ok (.iload 5, 2) := by decide +kernel
theorem dX8_takeEntry_128 : decode cX8_takeEntry 128 = .ok (.bipush 20, 2) := by decide +kernel
theorem dX8_takeEntry_130 : decode cX8_takeEntry 130 = .ok (.if_icmp .le 5, 3) := by decide +kernel
theorem dX8_takeEntry_133 : decode cX8_takeEntry 133 = .ok (.iconst 0, 1) := by decide +kernel
theorem dX8_takeEntry_134 : decode cX8_takeEntry 134 = .ok (.ireturn, 1) := by decide +kernel
theorem dX8_takeEntry_135 : decode cX8_takeEntry 135 = .ok (.iload 5, 2) := by decide +kernel
theorem dX8_takeEntry_137 : decode cX8_takeEntry 137 = .ok (.istore 4, 2) := by decide +kernel
theorem dX8_takeEntry_139 : decode cX8_takeEntry 139 = .ok (.aload_n 0, 1) := by decide +kernel
theorem dX8_takeEntry_140 : decode cX8_takeEntry 140 = .ok (.dup, 1) := by decide +kernel
theorem dX8_takeEntry_141 : decode cX8_takeEntry 141 = .ok (.getfield 14, 3) := by decide +kernel
theorem dX8_takeEntry_144 : decode cX8_takeEntry 144 = .ok (.iconst 1, 1) := by decide +kernel
theorem dX8_takeEntry_145 : decode cX8_takeEntry 145 = .ok (.iadd, 1) := by decide +kernel
theorem dX8_takeEntry_146 : decode cX8_takeEntry 146 = .ok (.putfield 14, 3) := by decide +kernel
theorem dX8_takeEntry_149 : decode cX8_takeEntry 149 = .ok (.goto (-72), 3) := by decide +kernel
theorem dX8_takeEntry_152 : decode cX8_takeEntry 152 = .ok (.aload_n 0, 1) := by decide +kernel
theorem dX8_takeEntry_153 : decode cX8_takeEntry 153 = .ok (.iload_n 2, 1) := by decide +kernel
theorem dX8_takeEntry_154 : decode cX8_takeEntry 154 = .ok (.ifCond .eq 9, 3) := by decide +kernel
theorem dX8_takeEntry_157 : decode cX8_takeEntry 157 = .ok (.iload 4, 2) := by decide +kernel
theorem dX8_takeEntry_159 : decode cX8_takeEntry 159 = .ok (.ineg, 1) := by decide +kernel
theorem dX8_takeEntry_160 : decode cX8_takeEntry 160 = .ok (.goto 5, 3) := by decide +kernel
theorem dX8_takeEntry_163 : decode cX8_takeEntry 163 = .ok (.iload 4, 2) := by decide +kernel
theorem dX8_takeEntry_165 : decode cX8_takeEntry 165 = .ok (.putfield 27, 3) := by decide +kernel
theorem dX8_takeEntry_168 : decode cX8_takeEntry 168 = .ok (.iconst 1, 1) := by decide +kernel
theorem dX8_takeEntry_169 : decode cX8_takeEntry 169 = .ok (.ireturn, 1) := by decide +kernel
set_option maxRecDepth 20000 in
theorem ggX8_takeSeparator_X7_at : GoodIn wsX8_takeSeparator wsX7_at := goodIn_r _ [6, 7, 8, 26, 27] (by decide +kernel) (by decide +kernel)
set_option maxRecDepth 20000 in
theorem gX8_takeSeparator_X7_at : GoodIn wsX8_takeSeparator (wsV RX8 60 RX7 yX7_at wsX7_at) := goodIn_app (goodIn_of _ (by decide +kernel)) ggX8_takeSeparator_X7_at
set_option maxRecDepth 20000 in
theorem ggX8_takeSeparator_X8_takeComma : GoodIn wsX8_takeSeparator wsX8_takeComma := goodIn_r _ [13, 14, 15, 1, 21, 22, 23, 24, 25] (by decide +kernel) (by decide +kernel)
set_option maxRecDepth 20000 in
theorem gX8_takeSeparator_X8_takeComma : GoodIn wsX8_takeSeparator (wsV RX8 68 RX8 yX8_takeComma wsX8_takeComma) := goodIn_app (goodIn_of _ (by decide +kernel)) ggX8_takeSeparator_X8_takeComma
set_option maxRecDepth 20000 in
theorem ggX8_takeSeparator_X8_takeSlash : GoodIn wsX8_takeSeparator wsX8_takeSlash := goodIn_r _ [19, 14, 15, 20, 1, 21, 22, 23, 24, 25] (by decide +kernel) (by decide +kernel)
set_option maxRecDepth 20000 in
theorem gX8_takeSeparator_X8_takeSlash : GoodIn wsX8_takeSeparator (wsV RX8 72 RX8 yX8_takeSlash wsX8_takeSlash) := goodIn_app (goodIn_of _ (by decide +kernel)) ggX8_takeSeparator_X8_takeSlash
theorem dX8_takeSeparator_0 : decode cX8_takeSeparator 0 = .ok (.aload_n 1, 1) := by decide +kernel
theorem dX8_takeSeparator_1 : decode cX8_takeSeparator 1 = .ok (.aload_n 0, 1) := by decide +kernel
theorem dX8_takeSeparator_2 : decode cX8_takeSeparator 2 = .ok (.getfield 14, 3) := by decide +kernel
theorem dX8_takeSeparator_5 : decode cX8_takeSeparator 5 = .ok (.invokevirtual 60, 3) := by decide +kernel
theorem dX8_takeSeparator_8 : decode cX8_takeSeparator 8 = .ok (.istore_n 2, 1) := by decide +kernel
theorem dX8_takeSeparator_9 : decode cX8_takeSeparator 9 = .ok (.iload_n 2, 1) := by decide +kernel
theorem dX8_takeSeparator_10 : decode cX8_takeSeparator 10 = .ok (.bipush 44, 2) := by decide +kernel
theorem dX8_takeSeparator_12 : decode cX8_takeSeparator 12 = .ok (.if_icmp .ne 8, 3) := by decide +kernel
theorem dX8_takeSeparator_15 : decode cX8_takeSeparator 15 = .ok (.aload_n 0, 1) := by decide +kernel
theorem dX8_takeSeparator_16 : decode cX8_takeSeparator 16 = .ok (.invokevirtual 68, 3) := by decide +kernel
theorem dX8_takeSeparator_19 : decode cX8_takeSeparator 19 = .ok (.ireturn, 1) := by decide +kernel
theorem dX8_takeSeparator_20 : decode cX8_takeSeparator 20 = .ok (.iload_n 2, 1) := by decide +kernel
theorem dX8_takeSeparator_21 : decode cX8_takeSeparator 21 = .ok (.bipush 47, 2) := by decide +kernel
theorem dX8_takeSeparator_23 : decode cX8_takeSeparator 23 = .ok (.if_icmp .ne 14, 3) := by decide +kernel
theorem dX8_takeSeparator_26 : decode cX8_takeSeparator 26 = .ok (.aload_n 0, 1) := by decide +kernel
theorem dX8_takeSeparator_27 : decode cX8_takeSeparator 27 = .ok (.invokevirtual 72, 3) := by decide +kernel
theorem dX8_takeSeparator_30 : decode cX8_takeSeparator 30 = .ok (.ifCond .eq 7, 3) := by decide +kernel
theorem dX8_takeSeparator_33 : decode cX8_takeSeparator 33 = .ok (.iconst 1, 1) := by decide +kernel
theorem dX8_takeSeparator_34 : decode cX8_takeSeparator 34 = .ok (.goto 4, 3) := by decide +kernel
theorem dX8_takeSeparator_37 : decode cX8_takeSeparator 37 = .ok (.iconst 0, 1) := by decide +kernel
theorem dX8_takeSeparator_38 : decode cX8_takeSeparator 38 = .ok (.ireturn, 1) := by decide +kernel
theorem dX8_takeComma_0 : decode cX8_takeComma 0 = .ok (.aload_n 0, 1) := by decide +kernel
theorem dX8_takeComma_1 : decode cX8_takeComma 1 = .ok (.getfield 24, 3) := by decide +kernel
theorem dX8_takeComma_4 : decode cX8_takeComma 4 = .ok (.ifCond .ne 8, 3) := by decide +kernel
theorem dX8_takeComma_7 : decode cX8_takeComma 7 = .ok (.bipush 7, 2) := by decide +kernel
theorem dX8_takeComma_9 : decode cX8_takeComma 9 = .ok (.goto 7, 3) := by decide +kernel
theorem dX8_takeComma_12 : decode cX8_takeComma 12 = .ok (.aload_n 0, 1) := by decide +kernel
theorem dX8_takeComma_13 : decode cX8_takeComma 13 = .ok (.getfield 24, 3) := by decide +kernel
theorem dX8_takeComma_16 : decode cX8_takeComma 16 = .ok (.istore_n 1, 1) := by decide +kernel
theorem dX8_takeComma_17 : decode cX8_takeComma 17 = .ok (.aload_n 0, 1) := by decide +kernel
theorem dX8_takeComma_18 : decode cX8_takeComma 18 = .ok (.getfield 21, 3) := by decide +kernel
theorem dX8_takeComma_21 : decode cX8_takeComma 21 = .ok (.iconst 1, 1) := by decide +kernel
theorem dX8_takeComma_22 : decode cX8_takeComma 22 = .ok (.iadd, 1) := by decide +kernel
theorem dX8_takeComma_23 : decode cX8_takeComma 23 = .ok (.iload_n 1, 1) := by decide +kernel
theorem dX8_takeComma_24 : decode cX8_takeComma 24 = .ok (.if_icmp .lt 5, 3) := by decide +kernel
theorem dX8_takeComma_27 : decode cX8_takeComma 27 = .ok (.iconst 0, 1) := by decide +kernel
theorem dX8_takeComma_28 : decode cX8_takeComma 28 = .ok (.ireturn, 1) := by decide +kernel
theorem dX8_takeComma_29 : decode cX8_takeComma 29 = .ok (.aload_n 0, 1) := by decide +kernel
theorem dX8_takeComma_30 : decode cX8_takeComma 30 = .ok (.dup, 1) := by decide +kernel
theorem dX8_takeComma_31 : decode cX8_takeComma 31 = .ok (.getfield 21, 3) := by decide +kernel
theorem dX8_takeComma_34 : decode cX8_takeComma 34 = .ok (.iconst 1, 1) := by decide +kernel
theorem dX8_takeComma_35 : decode cX8_takeComma 35 = .ok (.iadd, 1) := by decide +kernel
theorem dX8_takeComma_36 : decode cX8_takeComma 36 = .ok (.putfield 21, 3) := by decide +kernel
theorem dX8_takeComma_39 : decode cX8_takeComma 39 = .ok (.aload_n 0, 1) := by decide +kernel
theorem dX8_takeComma_40 : decode cX8_takeComma 40 = .ok (.dup, 1) := by decide +kernel
theorem dX8_takeComma_41 : decode cX8_takeComma 41 = .ok (.getfield 14, 3) := by decide +kernel
theorem dX8_takeComma_44 : decode cX8_takeComma 44 = .ok (.iconst 1, 1) := by decide +kernel
theorem dX8_takeComma_45 : decode cX8_takeComma 45 = .ok (.iadd, 1) := by decide +kernel
theorem dX8_takeComma_46 : decode cX8_takeComma 46 = .ok (.putfield 14, 3) := by decide +kernel
theorem dX8_takeComma_49 : decode cX8_takeComma 49 = .ok (.iconst 1, 1) := by decide +kernel
theorem dX8_takeComma_50 : decode cX8_takeComma 50 = .ok (.ireturn, 1) := by decide +kernel
theorem dX8_takeSlash_0 : decode cX8_takeSlash 0 = .ok (.aload_n 0, 1) := by decide +kernel
theorem dX8_takeSlash_1 : decode cX8_takeSlash 1 = .ok (.getfield 24, 3) := by decide +kernel
theorem dX8_takeSlash_4 : decode cX8_takeSlash 4 = .ok (.ifCond .ne 12, 3) := by decide +kernel
theorem dX8_takeSlash_7 : decode cX8_takeSlash 7 = .ok (.aload_n 0, 1) := by decide +kernel
theorem dX8_takeSlash_8 : decode cX8_takeSlash 8 = .ok (.getfield 21, 3) := by decide +kernel
theorem dX8_takeSlash_11 : decode cX8_takeSlash 11 = .ok (.iconst 1, 1) := by decide +kernel
theorem dX8_takeSlash_12 : decode cX8_takeSlash 12 = .ok (.iadd, 1) := by decide +kernel
theorem dX8_takeSlash_13 : decode cX8_takeSlash 13 = .ok (.goto 7, 3) := by decide +kernel
theorem dX8_takeSlash_16 : decode cX8_takeSlash 16 = .ok (.aload_n 0, 1) := by decide +kernel
theorem dX8_takeSlash_17 : decode cX8_takeSlash 17 = .ok (.getfield 24, 3) := by decide +kernel
theorem dX8_takeSlash_20 : decode cX8_takeSlash 20 = .ok (.istore_n 1, 1) := by decide +kernel
theorem dX8_takeSlash_21 : decode cX8_takeSlash 21 = .ok (.aload_n 0, 1) := by decide +kernel
theorem dX8_takeSlash_22 : decode cX8_takeSlash 22 = .ok (.getfield 21, 3) := by decide +kernel
theorem dX8_takeSlash_25 : decode cX8_takeSlash 25 = .ok (.iconst 1, 1) := by decide +kernel
theorem dX8_takeSlash_26 : decode cX8_takeSlash 26 = .ok (.iadd, 1) := by decide +kernel
theorem dX8_takeSlash_27 : decode cX8_takeSlash 27 = .ok (.iload_n 1, 1) := by decide +kernel
theorem dX8_takeSlash_28 : decode cX8_takeSlash 28 = .ok (.if_icmp .ne 13, 3) := by decide +kernel
theorem dX8_takeSlash_31 : decode cX8_takeSlash 31 = .ok (.aload_n 0, 1) := by decide +kernel
theorem dX8_takeSlash_32 : decode cX8_takeSlash 32 = .ok (.getfield 18, 3) := by decide +kernel
theorem dX8_takeSlash_35 : decode cX8_takeSlash 35 = .ok (.iconst 1, 1) := by decide +kernel
theorem dX8_takeSlash_36 : decode cX8_takeSlash 36 = .ok (.iadd, 1) := by decide +kernel
theorem dX8_takeSlash_37 : decode cX8_takeSlash 37 = .ok (.iload_n 1, 1) := by decide +kernel
theorem dX8_takeSlash_38 : decode cX8_takeSlash 38 = .ok (.if_icmp .lt 5, 3) := by decide +kernel
theorem dX8_takeSlash_41 : decode cX8_takeSlash 41 = .ok (.iconst 0, 1) := by decide +kernel
theorem dX8_takeSlash_42 : decode cX8_takeSlash 42 = .ok (.ireturn, 1) := by decide +kernel
theorem dX8_takeSlash_43 : decode cX8_takeSlash 43 = .ok (.aload_n 0, 1) := by decide +kernel
theorem dX8_takeSlash_44 : decode cX8_takeSlash 44 = .ok (.iload_n 1, 1) := by decide +kernel
theorem dX8_takeSlash_45 : decode cX8_takeSlash 45 = .ok (.putfield 24, 3) := by decide +kernel
theorem dX8_takeSlash_48 : decode cX8_takeSlash 48 = .ok (.aload_n 0, 1) := by decide +kernel
theorem dX8_takeSlash_49 : decode cX8_takeSlash 49 = .ok (.dup, 1) := by decide +kernel
theorem dX8_takeSlash_50 : decode cX8_takeSlash 50 = .ok (.getfield 18, 3) := by decide +kernel
theorem dX8_takeSlash_53 : decode cX8_takeSlash 53 = .ok (.iconst 1, 1) := by decide +kernel
theorem dX8_takeSlash_54 : decode cX8_takeSlash 54 = .ok (.iadd, 1) := by decide +kernel
theorem dX8_takeSlash_55 : decode cX8_takeSlash 55 = .ok (.putfield 18, 3) := by decide +kernel
theorem dX8_takeSlash_58 : decode cX8_takeSlash 58 = .ok (.aload_n 0, 1) := by decide +kernel
theorem dX8_takeSlash_59 : decode cX8_takeSlash 59 = .ok (.iconst 0, 1) := by decide +kernel
theorem dX8_takeSlash_60 : decode cX8_takeSlash 60 = .ok (.putfield 21, 3) := by decide +kernel
theorem dX8_takeSlash_63 : decode cX8_takeSlash 63 = .ok (.aload_n 0, 1) := by decide +kernel
theorem dX8_takeSlash_64 : decode cX8_takeSlash 64 = .ok (.dup, 1) := by decide +kernel
theorem dX8_takeSlash_65 : decode cX8_takeSlash 65 = .ok (.getfield 14, 3) := by decide +kernel
theorem dX8_takeSlash_68 : decode cX8_takeSlash 68 = .ok (.iconst 1, 1) := by decide +kernel
theorem dX8_takeSlash_69 : decode cX8_takeSlash 69 = .ok (.iadd, 1) := by decide +kernel
theorem dX8_takeSlash_70 : decode cX8_takeSlash 70 = .ok (.putfield 14, 3) := by decide +kernel
theorem dX8_takeSlash_73 : decode cX8_takeSlash 73 = .ok (.iconst 1, 1) := by decide +kernel
theorem dX8_takeSlash_74 : decode cX8_takeSlash 74 = .ok (.ireturn, 1) := by decide +kernel
theorem dX8_isDigit_0 : decode cX8_isDigit 0 = .ok (.iload_n 0, 1) := by decide +kernel
theorem dX8_isDigit_1 : decode cX8_isDigit 1 = .ok (.bipush 48, 2) := by decide +kernel
theorem dX8_isDigit_3 : decode cX8_isDigit 3 = .ok (.if_icmp .lt 13, 3) := by decide +kernel
theorem dX8_isDigit_6 : decode cX8_isDigit 6 = .ok (.iload_n 0, 1) := by decide +kernel
theorem dX8_isDigit_7 : decode cX8_isDigit 7 = .ok (.bipush 57, 2) := by decide +kernel
theorem dX8_isDigit_9 : decode cX8_isDigit 9 = .ok (.if_icmp .gt 7, 3) := by decide +kernel
theorem dX8_isDigit_12 : decode cX8_isDigit 12 = .ok (.iconst 1, 1) := by decide +kernel
theorem dX8_isDigit_13 : decode cX8_isDigit 13 = .ok (.goto 4, 3) := by decide +kernel
theorem dX8_isDigit_16 : decode cX8_isDigit 16 = .ok (.iconst 0, 1) := by decide +kernel
theorem dX8_isDigit_17 : decode cX8_isDigit 17 = .ok (.ireturn, 1) := by decide +kernel
