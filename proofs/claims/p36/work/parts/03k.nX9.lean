set_option maxRecDepth 20000 in
theorem ggX9_init_X4_init : GoodIn wsX9_init wsX4_init := goodIn_r _ [42, 43, 2, 3, 44, 45, 46, 109, 110] (by decide +kernel) (by decide +kernel)
set_option maxRecDepth 20000 in
theorem gX9_init_X4_init : GoodIn wsX9_init (wsX4_init) := ggX9_init_X4_init
set_option maxRecDepth 20000 in
theorem ggX9_init_X3_init : GoodIn wsX9_init wsX3_init := goodIn_r _ [49, 50, 2, 3, 51, 52, 5, 6, 53, 54, 55, 41, 42, 43, 44, 45, 46, 123, 124, 125, 109, 110] (by decide +kernel) (by decide +kernel)
set_option maxRecDepth 20000 in
theorem gX9_init_X3_init : GoodIn wsX9_init (wsX3_init) := ggX9_init_X3_init
set_option maxRecDepth 20000 in
theorem ggX9_init_X7_init : GoodIn wsX9_init wsX7_init := goodIn_r _ [58, 59, 2, 3, 60, 61, 62, 126, 127] (by decide +kernel) (by decide +kernel)
set_option maxRecDepth 20000 in
theorem gX9_init_X7_init : GoodIn wsX9_init (wsX7_init) := ggX9_init_X7_init
set_option maxRecDepth 20000 in
theorem ggX9_init_X8_init : GoodIn wsX9_init wsX8_init := goodIn_r _ [65, 66, 2, 3, 67, 68, 69, 22, 70, 71, 72, 73, 74, 75, 128, 129, 130, 131, 132] (by decide +kernel) (by decide +kernel)
set_option maxRecDepth 20000 in
theorem gX9_init_X8_init : GoodIn wsX9_init (wsX8_init) := ggX9_init_X8_init
set_option maxRecDepth 20000 in
theorem ggX9_init_X0_init : GoodIn wsX9_init wsX0_init := goodIn_r _ [78, 79, 2, 3, 80, 81, 133] (by decide +kernel) (by decide +kernel)
set_option maxRecDepth 20000 in
theorem gX9_init_X0_init : GoodIn wsX9_init (wsX0_init) := ggX9_init_X0_init
set_option maxRecDepth 20000 in
theorem ggX9_init_X2_init : GoodIn wsX9_init wsX2_init := goodIn_r _ [84, 85, 2, 3, 44, 86, 134] (by decide +kernel) (by decide +kernel)
set_option maxRecDepth 20000 in
theorem gX9_init_X2_init : GoodIn wsX9_init (wsX2_init) := ggX9_init_X2_init
set_option maxRecDepth 20000 in
theorem ggX9_init_X5_init : GoodIn wsX9_init wsX5_init := goodIn_r _ [89, 90, 2, 3, 91, 92, 93, 94, 95, 135, 136, 137, 138] (by decide +kernel) (by decide +kernel)
set_option maxRecDepth 20000 in
theorem gX9_init_X5_init : GoodIn wsX9_init (wsX5_init) := ggX9_init_X5_init
set_option maxRecDepth 20000 in
theorem ggX9_init_X6_init : GoodIn wsX9_init wsX6_init := goodIn_r _ [98, 99, 2, 3, 100, 5, 6, 101, 102, 29, 30, 103, 44, 104, 105, 106, 107, 41, 42, 43, 45, 46, 108, 83, 84, 85, 86, 109, 110, 139, 140, 141, 142, 143, 134] (by decide +kernel) (by decide +kernel)
set_option maxRecDepth 20000 in
theorem gX9_init_X6_init : GoodIn wsX9_init (wsX6_init) := ggX9_init_X6_init
theorem dX9_init_0 : decode cX9_init 0 = .ok (.aload_n 0, 1) := by decide +kernel
theorem dX9_init_1 : decode cX9_init 1 = .ok (.invokespecial 1, 3) := by decide +kernel
theorem dX9_init_4 : decode cX9_init 4 = .ok (.aload_n 0, 1) := by decide +kernel
theorem dX9_init_5 : decode cX9_init 5 = .ok (.new 7, 3) := by decide +kernel
theorem dX9_init_8 : decode cX9_init 8 = .ok (.dup, 1) := by decide +kernel
theorem dX9_init_9 : decode cX9_init 9 = .ok (.invokespecial 9, 3) := by decide +kernel
theorem dX9_init_12 : decode cX9_init 12 = .ok (.putfield 10, 3) := by decide +kernel
theorem dX9_init_15 : decode cX9_init 15 = .ok (.aload_n 0, 1) := by decide +kernel
theorem dX9_init_16 : decode cX9_init 16 = .ok (.new 7, 3) := by decide +kernel
theorem dX9_init_19 : decode cX9_init 19 = .ok (.dup, 1) := by decide +kernel
theorem dX9_init_20 : decode cX9_init 20 = .ok (.invokespecial 9, 3) := by decide +kernel
theorem dX9_init_23 : decode cX9_init 23 = .ok (.putfield 16, 3) := by decide +kernel
theorem dX9_init_26 : decode cX9_init 26 = .ok (.aload_n 0, 1) := by decide +kernel
theorem dX9_init_27 : decode cX9_init 27 = .ok (.new 7, 3) := by decide +kernel
theorem dX9_init_30 : decode cX9_init 30 = .ok (.dup, 1) := by decide +kernel
theorem dX9_init_31 : decode cX9_init 31 = .ok (.invokespecial 9, 3) := by decide +kernel
theorem dX9_init_34 : decode cX9_init 34 = .ok (.putfield 19, 3) := by decide +kernel
theorem dX9_init_37 : decode cX9_init 37 = .ok (.aload_n 0, 1) := by decide +kernel
theorem dX9_init_38 : decode cX9_init 38 = .ok (.new 7, 3) := by decide +kernel
theorem dX9_init_41 : decode cX9_init 41 = .ok (.dup, 1) := by decide +kernel
theorem dX9_init_42 : decode cX9_init 42 = .ok (.invokespecial 9, 3) := by decide +kernel
theorem dX9_init_45 : decode cX9_init 45 = .ok (.putfield 22, 3) := by decide +kernel
theorem dX9_init_48 : decode cX9_init 48 = .ok (.aload_n 0, 1) := by decide +kernel
theorem dX9_init_49 : decode cX9_init 49 = .ok (.iconst 0, 1) := by decide +kernel
theorem dX9_init_50 : decode cX9_init 50 = .ok (.putfield 25, 3) := by decide +kernel
theorem dX9_init_53 : decode cX9_init 53 = .ok (.aload_n 0, 1) := by decide +kernel
theorem dX9_init_54 : decode cX9_init 54 = .ok (.new 29, 3) := by decide +kernel
theorem dX9_init_57 : decode cX9_init 57 = .ok (.dup, 1) := by decide +kernel
theorem dX9_init_58 : decode cX9_init 58 = .ok (.invokespecial 31, 3) := by decide +kernel
theorem dX9_init_61 : decode cX9_init 61 = .ok (.putfield 32, 3) := by decide +kernel
theorem dX9_init_64 : decode cX9_init 64 = .ok (.aload_n 0, 1) := by decide +kernel
theorem dX9_init_65 : decode cX9_init 65 = .ok (.new 36, 3) := by decide +kernel
theorem dX9_init_68 : decode cX9_init 68 = .ok (.dup, 1) := by decide +kernel
theorem dX9_init_69 : decode cX9_init 69 = .ok (.invokespecial 38, 3) := by decide +kernel
theorem dX9_init_72 : decode cX9_init 72 = .ok (.putfield 39, 3) := by decide +kernel
theorem dX9_init_75 : decode cX9_init 75 = .ok (.aload_n 0, 1) := by decide +kernel
theorem dX9_init_76 : decode cX9_init 76 = .ok (.new 43, 3) := by decide +kernel
theorem dX9_init_79 : decode cX9_init 79 = .ok (.dup, 1) := by decide +kernel
theorem dX9_init_80 : decode cX9_init 80 = .ok (.invokespecial 45, 3) := by decide +kernel
theorem dX9_init_83 : decode cX9_init 83 = .ok (.putfield 46, 3) := by decide +kernel
theorem dX9_init_86 : decode cX9_init 86 = .ok (.aload_n 0, 1) := by decide +kernel
theorem dX9_init_87 : decode cX9_init 87 = .ok (.new 50, 3) := by decide +kernel
theorem dX9_init_90 : decode cX9_init 90 = .ok (.dup, 1) := by decide +kernel
theorem dX9_init_91 : decode cX9_init 91 = .ok (.invokespecial 52, 3) := by decide +kernel
theorem dX9_init_94 : decode cX9_init 94 = .ok (.putfield 53, 3) := by decide +kernel
theorem dX9_init_97 : decode cX9_init 97 = .ok (.aload_n 0, 1) := by decide +kernel
theorem dX9_init_98 : decode cX9_init 98 = .ok (.new 57, 3) := by decide +kernel
theorem dX9_init_101 : decode cX9_init 101 = .ok (.dup, 1) := by decide +kernel
theorem dX9_init_102 : decode cX9_init 102 = .ok (.invokespecial 59, 3) := by decide +kernel
theorem dX9_init_105 : decode cX9_init 105 = .ok (.putfield 60, 3) := by decide +kernel
theorem dX9_init_108 : decode cX9_init 108 = .ok (.aload_n 0, 1) := by decide +kernel
theorem dX9_init_109 : decode cX9_init 109 = .ok (.new 64, 3) := by decide +kernel
theorem dX9_init_112 : decode cX9_init 112 = .ok (.dup, 1) := by decide +kernel
theorem dX9_init_113 : decode cX9_init 113 = .ok (.invokespecial 66, 3) := by decide +kernel
theorem dX9_init_116 : decode cX9_init 116 = .ok (.putfield 67, 3) := by decide +kernel
theorem dX9_init_119 : decode cX9_init 119 = .ok (.aload_n 0, 1) := by decide +kernel
theorem dX9_init_120 : decode cX9_init 120 = .ok (.new 71, 3) := by decide +kernel
theorem dX9_init_123 : decode cX9_init 123 = .ok (.dup, 1) := by decide +kernel
theorem dX9_init_124 : decode cX9_init 124 = .ok (.invokespecial 73, 3) := by decide +kernel
theorem dX9_init_127 : decode cX9_init 127 = .ok (.putfield 74, 3) := by decide +kernel
theorem dX9_init_130 : decode cX9_init 130 = .ok (.return_, 1) := by decide +kernel
set_option maxRecDepth 20000 in
theorem ggX9_clear_X4_size : GoodIn wsX9_clear wsX4_size := goodIn_r _ [8, 9, 58, 59] (by decide +kernel) (by decide +kernel)
set_option maxRecDepth 20000 in
theorem gX9_clear_X4_size : GoodIn wsX9_clear (wsV RX9 79 RX4 yX4_size wsX4_size) := goodIn_app (goodIn_of _ (by decide +kernel)) ggX9_clear_X4_size
set_option maxRecDepth 20000 in
theorem ggX9_clear_X4_fillWithZeros : GoodIn wsX9_clear wsX4_fillWithZeros := goodIn_r _ [13, 14, 15, 16, 17, 7, 18, 9, 58, 59] (by decide +kernel) (by decide +kernel)
set_option maxRecDepth 20000 in
theorem gX9_clear_X4_fillWithZeros : GoodIn wsX9_clear (wsV RX9 83 RX4 yX4_fillWithZeros wsX4_fillWithZeros) := goodIn_app (goodIn_of _ (by decide +kernel)) ggX9_clear_X4_fillWithZeros
set_option maxRecDepth 20000 in
theorem ggX9_clear_X9_changeToNext : GoodIn wsX9_clear wsX9_changeToNext := goodIn_r _ [23, 24, 2, 3, 25, 26, 27, 28, 29, 30, 31, 32, 33, 34, 35, 36, 37, 38, 39, 7, 40, 14, 41, 42, 43, 44, 9, 45, 46, 47, 48, 49, 50, 51, 52, 53, 54, 55, 56, 57, 60, 61, 62, 58, 59] (by decide +kernel) (by decide +kernel)
set_option maxRecDepth 20000 in
theorem gX9_clear_X9_changeToNext : GoodIn wsX9_clear (wsV RX9 87 RX9 yX9_changeToNext wsX9_changeToNext) := goodIn_app (goodIn_of _ (by decide +kernel)) ggX9_clear_X9_changeToNext
theorem dX9_clear_0 : decode cX9_clear 0 = .ok (.iload_n 1, 1) := by decide +kernel
theorem dX9_clear_1 : decode cX9_clear 1 = .ok (.iconst 1, 1) := by decide +kernel
theorem dX9_clear_2 : decode cX9_clear 2 = .ok (.if_icmp .lt 9, 3) := by decide +kernel
theorem dX9_clear_5 : decode cX9_clear 5 = .ok (.iload_n 1, 1) := by decide +kernel
theorem dX9_clear_6 : decode cX9_clear 6 = .ok (.bipush 7, 2) := by decide +kernel
theorem dX9_clear_8 : decode cX9_clear 8 = .ok (.if_icmp .le 6, 3) := by decide +kernel
theorem dX9_clear_11 : decode cX9_clear 11 = .ok (.ldc 78, 2) := by decide +kernel
theorem dX9_clear_13 : decode cX9_clear 13 = .ok (.ireturn, 1) := by decide +kernel
theorem dX9_clear_14 : decode cX9_clear 14 = .ok (.aload_n 0, 1) := by decide +kernel
theorem dX9_clear_15 : decode cX9_clear 15 = .ok (.getfield 10, 3) := by decide +kernel
theorem dX9_clear_18 : decode cX9_clear 18 = .ok (.invokevirtual 79, 3) := by decide +kernel
theorem dX9_clear_21 : decode cX9_clear 21 = .ok (.istore_n 2, 1) := by decide +kernel
theorem dX9_clear_22 : decode cX9_clear 22 = .ok (.aload_n 0, 1) := by decide +kernel
theorem dX9_clear_23 : decode cX9_clear 23 = .ok (.getfield 16, 3) := by decide +kernel
theorem dX9_clear_26 : decode cX9_clear 26 = .ok (.iload_n 1, 1) := by decide +kernel
theorem dX9_clear_27 : decode cX9_clear 27 = .ok (.invokevirtual 83, 3) := by decide +kernel
theorem dX9_clear_30 : decode cX9_clear 30 = .ok (.aload_n 0, 1) := by decide +kernel
theorem dX9_clear_31 : decode cX9_clear 31 = .ok (.invokevirtual 87, 3) := by decide +kernel
theorem dX9_clear_34 : decode cX9_clear 34 = .ok (.iload_n 2, 1) := by decide +kernel
theorem dX9_clear_35 : decode cX9_clear 35 = .ok (.ireturn, 1) := by decide +kernel
set_option maxRecDepth 20000 in
theorem ggX9_set_X4_has : GoodIn wsX9_set wsX4_has := goodIn_r _ [10, 11, 64, 65] (by decide +kernel) (by decide +kernel)
set_option maxRecDepth 20000 in
theorem gX9_set_X4_has : GoodIn wsX9_set (wsV RX9 90 RX4 yX4_has wsX4_has) := goodIn_app (goodIn_of _ (by decide +kernel)) ggX9_set_X4_has
set_option maxRecDepth 20000 in
theorem ggX9_set_X9_isEntry : GoodIn wsX9_set wsX9_isEntry := goodIn_r _ [15] (by decide +kernel) (by decide +kernel)
set_option maxRecDepth 20000 in
theorem gX9_set_X9_isEntry : GoodIn wsX9_set (va_wsS RX9 95 yX9_isEntry wsX9_isEntry) := goodIn_app (goodIn_of _ (by decide +kernel)) ggX9_set_X9_isEntry
set_option maxRecDepth 20000 in
theorem ggX9_set_X4_at : GoodIn wsX9_set wsX4_at := goodIn_r _ [19, 20, 21, 7, 8, 9, 10, 11, 64, 65] (by decide +kernel) (by decide +kernel)
set_option maxRecDepth 20000 in
theorem gX9_set_X4_at : GoodIn wsX9_set (wsV RX9 98 RX4 yX4_at wsX4_at) := goodIn_app (goodIn_of _ (by decide +kernel)) ggX9_set_X4_at
set_option maxRecDepth 20000 in
theorem ggX9_set_X4_copyFrom : GoodIn wsX9_set wsX4_copyFrom := goodIn_r _ [25, 20, 26, 27, 28, 29, 11, 64, 65] (by decide +kernel) (by decide +kernel)
set_option maxRecDepth 20000 in
theorem gX9_set_X4_copyFrom : GoodIn wsX9_set (wsV RX9 103 RX4 yX4_copyFrom wsX4_copyFrom) := goodIn_app (goodIn_of _ (by decide +kernel)) ggX9_set_X4_copyFrom
set_option maxRecDepth 20000 in
theorem ggX9_set_X4_put : GoodIn wsX9_set wsX4_put := goodIn_r _ [33, 20, 21, 7, 8, 9, 10, 11, 64, 65] (by decide +kernel) (by decide +kernel)
set_option maxRecDepth 20000 in
theorem gX9_set_X4_put : GoodIn wsX9_set (wsV RX9 107 RX4 yX4_put wsX4_put) := goodIn_app (goodIn_of _ (by decide +kernel)) ggX9_set_X4_put
set_option maxRecDepth 20000 in
theorem ggX9_set_X9_changeToNext : GoodIn wsX9_set wsX9_changeToNext := goodIn_r _ [37, 38, 1, 5, 39, 40, 41, 42, 43, 44, 45, 46, 47, 48, 49, 50, 51, 23, 24, 9, 25, 20, 26, 27, 28, 29, 11, 22, 52, 53, 54, 55, 56, 57, 58, 59, 60, 61, 62, 63, 66, 67, 68, 64, 65] (by decide +kernel) (by decide +kernel)
set_option maxRecDepth 20000 in
theorem gX9_set_X9_changeToNext : GoodIn wsX9_set (wsV RX9 87 RX9 yX9_changeToNext wsX9_changeToNext) := goodIn_app (goodIn_of _ (by decide +kernel)) ggX9_set_X9_changeToNext
theorem dX9_set_0 : decode cX9_set 0 = .ok (.aload_n 0, 1) := by decide +kernel
theorem dX9_set_1 : decode cX9_set 1 = .ok (.getfield 10, 3) := by decide +kernel
theorem dX9_set_4 : decode cX9_set 4 = .ok (.iload_n 1, 1) := by decide +kernel
theorem dX9_set_5 : decode cX9_set 5 = .ok (.invokevirtual 90, 3) := by decide +kernel
theorem dX9_set_8 : decode cX9_set 8 = .ok (.ifCond .eq 14, 3) := by decide +kernel
theorem dX9_set_11 : decode cX9_set 11 = .ok (.aload_n 0, 1) := by decide +kernel
theorem dX9_set_12 : decode cX9_set 12 = .ok (.getfield 10, 3) := by decide +kernel
theorem dX9_set_15 : decode cX9_set 15 = .ok (.iload_n 2, 1) := by decide +kernel
theorem dX9_set_16 : decode cX9_set 16 = .ok (.invokevirtual 90, 3) := by decide +kernel
theorem dX9_set_19 : decode cX9_set 19 = .ok (.ifCond .ne 6, 3) := by decide +kernel
theorem dX9_set_22 : decode cX9_set 22 = .ok (.ldc 94, 2) := by decide +kernel
theorem dX9_set_24 : decode cX9_set 24 = .ok (.ireturn, 1) := by decide +kernel
theorem dX9_set_25 : decode cX9_set 25 = .ok (.iload_n 3, 1) := by decide +kernel
theorem dX9_set_26 : decode cX9_set 26 = .ok (.invokestatic 95, 3) := by decide +kernel
theorem dX9_set_29 : decode cX9_set 29 = .ok (.ifCond .ne 6, 3) := by decide +kernel
theorem dX9_set_32 : decode cX9_set 32 = .ok (.ldc 78, 2) := by decide +kernel
theorem dX9_set_34 : decode cX9_set 34 = .ok (.ireturn, 1) := by decide +kernel
theorem dX9_set_35 : decode cX9_set 35 = .ok (.aload_n 0, 1) := by decide +kernel
theorem dX9_set_36 : decode cX9_set 36 = .ok (.getfield 10, 3) := by decide +kernel
theorem dX9_set_39 : decode cX9_set 39 = .ok (.iload_n 1, 1) := by decide +kernel
theorem dX9_set_40 : decode cX9_set 40 = .ok (.iload_n 2, 1) := by decide +kernel
theorem dX9_set_41 : decode cX9_set 41 = .ok (.invokevirtual 98, 3) := by decide +kernel
theorem dX9_set_44 : decode cX9_set 44 = .ok (.istore 4, 2) := by decide +kernel
theorem dX9_set_46 : decode cX9_set 46 = .ok (.iload 4, 2) := by decide +kernel
theorem dX9_set_48 : decode cX9_set 48 = .ok (.iload_n 3, 1) := by decide +kernel
theorem dX9_set_49 : decode cX9_set 49 = .ok (.if_icmp .ne 6, 3) := by decide +kernel
theorem dX9_set_52 : decode cX9_set 52 = .ok (.ldc 102, 2) := by decide +kernel
theorem dX9_set_54 : decode cX9_set 54 = .ok (.ireturn, 1) := by decide +kernel
theorem dX9_set_55 : decode cX9_set 55 = .ok (.aload_n 0, 1) := by decide +kernel
theorem dX9_set_56 : decode cX9_set 56 = .ok (.getfield 16, 3) := by decide +kernel
theorem dX9_set_59 : decode cX9_set 59 = .ok (.aload_n 0, 1) := by decide +kernel
theorem dX9_set_60 : decode cX9_set 60 = .ok (.getfield 10, 3) := by decide +kernel
theorem dX9_set_63 : decode cX9_set 63 = .ok (.invokevirtual 103, 3) := by decide +kernel
theorem dX9_set_66 : decode cX9_set 66 = .ok (.aload_n 0, 1) := by decide +kernel
theorem dX9_set_67 : decode cX9_set 67 = .ok (.getfield 16, 3) := by decide +kernel
theorem dX9_set_70 : decode cX9_set 70 = .ok (.iload_n 1, 1) := by decide +kernel
theorem dX9_set_71 : decode cX9_set 71 = .ok (.iload_n 2, 1) := by decide +kernel
theorem dX9_set_72 : decode cX9_set 72 = .ok (.iload_n 3, 1) := by decide +kernel
theorem dX9_set_73 : decode cX9_set 73 = .ok (.invokevirtual 107, 3) := by decide +kernel
theorem dX9_set_76 : decode cX9_set 76 = .ok (.aload_n 0, 1) := by decide +kernel
theorem dX9_set_77 : decode cX9_set 77 = .ok (.invokevirtual 87, 3) := by decide +kernel
theorem dX9_set_80 : decode cX9_set 80 = .ok (.iload 4, 2) := by decide +kernel
theorem dX9_set_82 : decode cX9_set 82 = .ok (.ireturn, 1) := by decide +kernel
set_option maxRecDepth 20000 in
theorem ggX9_swapRows_X4_has : GoodIn wsX9_swapRows wsX4_has := goodIn_r _ [8, 9, 73, 74] (by decide +kernel) (by decide +kernel)
set_option maxRecDepth 20000 in
theorem gX9_swapRows_X4_has : GoodIn wsX9_swapRows (wsV RX9 90 RX4 yX4_has wsX4_has) := goodIn_app (goodIn_of _ (by decide +kernel)) ggX9_swapRows_X4_has
set_option maxRecDepth 20000 in
theorem ggX9_swapRows_X4_copyFrom : GoodIn wsX9_swapRows wsX4_copyFrom := goodIn_r _ [13, 14, 15, 16, 17, 18, 9, 73, 74] (by decide +kernel) (by decide +kernel)
set_option maxRecDepth 20000 in
theorem gX9_swapRows_X4_copyFrom : GoodIn wsX9_swapRows (wsV RX9 103 RX4 yX4_copyFrom wsX4_copyFrom) := goodIn_app (goodIn_of _ (by decide +kernel)) ggX9_swapRows_X4_copyFrom
set_option maxRecDepth 20000 in
theorem ggX9_swapRows_X4_size : GoodIn wsX9_swapRows wsX4_size := goodIn_r _ [22, 9, 73, 74] (by decide +kernel) (by decide +kernel)
set_option maxRecDepth 20000 in
theorem gX9_swapRows_X4_size : GoodIn wsX9_swapRows (wsV RX9 79 RX4 yX4_size wsX4_size) := goodIn_app (goodIn_of _ (by decide +kernel)) ggX9_swapRows_X4_size
set_option maxRecDepth 20000 in
theorem ggX9_swapRows_X4_at : GoodIn wsX9_swapRows wsX4_at := goodIn_r _ [26, 14, 27, 5, 6, 7, 8, 9, 73, 74] (by decide +kernel) (by decide +kernel)
set_option maxRecDepth 20000 in
theorem gX9_swapRows_X4_at : GoodIn wsX9_swapRows (wsV RX9 98 RX4 yX4_at wsX4_at) := goodIn_app (goodIn_of _ (by decide +kernel)) ggX9_swapRows_X4_at
set_option maxRecDepth 20000 in
theorem ggX9_swapRows_X4_put : GoodIn wsX9_swapRows wsX4_put := goodIn_r _ [31, 14, 27, 5, 6, 7, 8, 9, 73, 74] (by decide +kernel) (by decide +kernel)
set_option maxRecDepth 20000 in
theorem gX9_swapRows_X4_put : GoodIn wsX9_swapRows (wsV RX9 107 RX4 yX4_put wsX4_put) := goodIn_app (goodIn_of _ (by decide +kernel)) ggX9_swapRows_X4_put
set_option maxRecDepth 20000 in
theorem ggX9_swapRows_X9_changeIfUnlike : GoodIn wsX9_swapRows wsX9_changeIfUnlike := goodIn_r _ [36, 3, 1, 37, 38, 39, 40, 7, 41, 9, 42, 24, 25, 26, 14, 27, 5, 6, 8, 43, 44, 45, 35, 46, 47, 48, 49, 50, 51, 52, 53, 54, 55, 56, 57, 58, 59, 60, 11, 12, 13, 15, 16, 17, 18, 10, 61, 62, 63, 64, 65, 66, 67, 68, 69, 70, 71, 72, 73, 74, 75, 76, 77] (by decide +kernel) (by decide +kernel)
set_option maxRecDepth 20000 in
theorem gX9_swapRows_X9_changeIfUnlike : GoodIn wsX9_swapRows (wsV RX9 111 RX9 yX9_changeIfUnlike wsX9_changeIfUnlike) := goodIn_app (goodIn_of _ (by decide +kernel)) ggX9_swapRows_X9_changeIfUnlike
theorem dX9_swapRows_0 : decode cX9_swapRows 0 = .ok (.aload_n 0, 1) := by decide +kernel
theorem dX9_swapRows_1 : decode cX9_swapRows 1 = .ok (.getfield 10, 3) := by decide +kernel
theorem dX9_swapRows_4 : decode cX9_swapRows 4 = .ok (.iload_n 1, 1) := by decide +kernel
theorem dX9_swapRows_5 : decode cX9_swapRows 5 = .ok (.invokevirtual 90, 3) := by decide +kernel
theorem dX9_swapRows_8 : decode cX9_swapRows 8 = .ok (.ifCond .eq 14, 3) := by decide +kernel
theorem dX9_swapRows_11 : decode cX9_swapRows 11 = .ok (.aload_n 0, 1) := by decide +kernel
theorem dX9_swapRows_12 : decode cX9_swapRows 12 = .ok (.getfield 10, 3) := by decide +kernel
theorem dX9_swapRows_15 : decode cX9_swapRows 15 = .ok (.iload_n 2, 1) := by decide +kernel
theorem dX9_swapRows_16 : decode cX9_swapRows 16 = .ok (.invokevirtual 90, 3) := by decide +kernel
theorem dX9_swapRows_19 : decode cX9_swapRows 19 = .ok (.ifCond .ne 6, 3) := by decide +kernel
theorem dX9_swapRows_22 : decode cX9_swapRows 22 = .ok (.ldc 94, 2) := by decide +kernel
theorem dX9_swapRows_24 : decode cX9_swapRows 24 = .ok (.ireturn, 1) := by decide +kernel
theorem dX9_swapRows_25 : decode cX9_swapRows 25 = .ok (.aload_n 0, 1) := by decide +kernel
theorem dX9_swapRows_26 : decode cX9_swapRows 26 = .ok (.getfield 16, 3) := by decide +kernel
theorem dX9_swapRows_29 : decode cX9_swapRows 29 = .ok (.aload_n 0, 1) := by decide +kernel
theorem dX9_swapRows_30 : decode cX9_swapRows 30 = .ok (.getfield 10, 3) := by decide +kernel
theorem dX9_swapRows_33 : decode cX9_swapRows 33 = .ok (.invokevirtual 103, 3) := by decide +kernel
theorem dX9_swapRows_36 : decode cX9_swapRows 36 = .ok (.iconst 0, 1) := by decide +kernel
theorem dX9_swapRows_37 : decode cX9_swapRows 37 = .ok (.istore_n 3, 1) := by decide +kernel
theorem dX9_swapRows_38 : decode cX9_swapRows 38 = .ok (.iload_n 3, 1) := by decide +kernel
theorem dX9_swapRows_39 : decode cX9_swapRows 39 = .ok (.aload_n 0, 1) := by decide +kernel
theorem dX9_swapRows_40 : decode cX9_swapRows 40 = .ok (.getfield 10, 3) := by decide +kernel
theorem dX9_swapRows_43 : decode cX9_swapRows 43 = .ok (.invokevirtual 79, 3) := by decide +kernel
theorem dX9_swapRows_46 : decode cX9_swapRows 46 = .ok (.if_icmp .ge 45, 3) := by decide +kernel
theorem dX9_swapRows_49 : decode cX9_swapRows 49 = .ok (.aload_n 0, 1) := by decide +kernel
theorem dX9_swapRows_50 : decode cX9_swapRows 50 = .ok (.getfield 16, 3) := by decide +kernel
theorem dX9_swapRows_53 : decode cX9_swapRows 53 = .ok (.iload_n 1, 1) := by decide +kernel
theorem dX9_swapRows_54 : decode cX9_swapRows 54 = .ok (.iload_n 3, 1) := by decide +kernel
theorem dX9_swapRows_55 : decode cX9_swapRows 55 = .ok (.aload_n 0, 1) := by decide +kernel
theorem dX9_swapRows_56 : decode cX9_swapRows 56 = .ok (.getfield 10, 3) := by decide +kernel
theorem dX9_swapRows_59 : decode cX9_swapRows 59 = .ok (.iload_n 2, 1) := by decide +kernel
theorem dX9_swapRows_60 : decode cX9_swapRows 60 = .ok (.iload_n 3, 1) := by decide +kernel
theorem dX9_swapRows_61 : decode cX9_swapRows 61 = .ok (.invokevirtual 98, 3) := by decide +kernel
theorem dX9_swapRows_64 : decode cX9_swapRows 64 = .ok (.invokevirtual 107, 3) := by decide +kernel
theorem dX9_swapRows_67 : decode cX9_swapRows 67 = .ok (.aload_n 0, 1) := by decide +kernel
theorem dX9_swapRows_68 : decode cX9_swapRows 68 = .ok (.getfield 16, 3) := by decide +kernel
theorem dX9_swapRows_71 : decode cX9_swapRows 71 = .ok (.iload_n 2, 1) := by decide +kernel
theorem dX9_swapRows_72 : decode cX9_swapRows 72 = .ok (.iload_n 3, 1) := by decide +kernel
theorem dX9_swapRows_73 : decode cX9_swapRows 73 = .ok (.aload_n 0, 1) := by decide +kernel
theorem dX9_swapRows_74 : decode cX9_swapRows 74 = .ok (.getfield 10, 3) := by decide +kernel
theorem dX9_swapRows_77 : decode cX9_swapRows 77 = .ok (.iload_n 1, 1) := by decide +kernel
theorem dX9_swapRows_78 : decode cX9_swapRows 78 = .ok (.iload_n 3, 1) := by decide +kernel
theorem dX9_swapRows_79 : decode cX9_swapRows 79 = .ok (.invokevirtual 98, 3) := by decide +kernel
theorem dX9_swapRows_82 : decode cX9_swapRows 82 = .ok (.invokevirtual 107, 3) := by decide +kernel
theorem dX9_swapRows_85 : decode cX9_swapRows 85 = .ok (.iinc 3 1, 3) := by decide +kernel
theorem dX9_swapRows_88 : decode cX9_swapRows 88 = .ok (.goto (-50), 3) := by decide +kernel
theorem dX9_swapRows_91 : decode cX9_swapRows 91 = .ok (.aload_n 0, 1) := by decide +kernel
theorem dX9_swapRows_92 : decode cX9_swapRows 92 = .ok (.invokevirtual 111, 3) := by decide +kernel
theorem dX9_swapRows_95 : decode cX9_swapRows 95 = .ok (.ireturn, 1) := by decide +kernel
set_option maxRecDepth 20000 in
theorem ggX9_swapColumns_X4_has : GoodIn wsX9_swapColumns wsX4_has := goodIn_r _ [8, 9, 73, 74] (by decide +kernel) (by decide +kernel)
set_option maxRecDepth 20000 in
theorem gX9_swapColumns_X4_has : GoodIn wsX9_swapColumns (wsV RX9 90 RX4 yX4_has wsX4_has) := goodIn_app (goodIn_of _ (by decide +kernel)) ggX9_swapColumns_X4_has
set_option maxRecDepth 20000 in
theorem ggX9_swapColumns_X4_copyFrom : GoodIn wsX9_swapColumns wsX4_copyFrom := goodIn_r _ [13, 14, 15, 16, 17, 18, 9, 73, 74] (by decide +kernel) (by decide +kernel)
set_option maxRecDepth 20000 in
theorem gX9_swapColumns_X4_copyFrom : GoodIn wsX9_swapColumns (wsV RX9 103 RX4 yX4_copyFrom wsX4_copyFrom) := goodIn_app (goodIn_of _ (by decide +kernel)) ggX9_swapColumns_X4_copyFrom
set_option maxRecDepth 20000 in
theorem ggX9_swapColumns_X4_size : GoodIn wsX9_swapColumns wsX4_size := goodIn_r _ [22, 9, 73, 74] (by decide +kernel) (by decide +kernel)
set_option maxRecDepth 20000 in
theorem gX9_swapColumns_X4_size : GoodIn wsX9_swapColumns (wsV RX9 79 RX4 yX4_size wsX4_size) := goodIn_app (goodIn_of _ (by decide +kernel)) ggX9_swapColumns_X4_size
set_option maxRecDepth 20000 in
theorem ggX9_swapColumns_X4_at : GoodIn wsX9_swapColumns wsX4_at := goodIn_r _ [26, 14, 27, 5, 6, 7, 8, 9, 73, 74] (by decide +kernel) (by decide +kernel)
set_option maxRecDepth 20000 in
theorem gX9_swapColumns_X4_at : GoodIn wsX9_swapColumns (wsV RX9 98 RX4 yX4_at wsX4_at) := goodIn_app (goodIn_of _ (by decide +kernel)) ggX9_swapColumns_X4_at
set_option maxRecDepth 20000 in
theorem ggX9_swapColumns_X4_put : GoodIn wsX9_swapColumns wsX4_put := goodIn_r _ [31, 14, 27, 5, 6, 7, 8, 9, 73, 74] (by decide +kernel) (by decide +kernel)
set_option maxRecDepth 20000 in
theorem gX9_swapColumns_X4_put : GoodIn wsX9_swapColumns (wsV RX9 107 RX4 yX4_put wsX4_put) := goodIn_app (goodIn_of _ (by decide +kernel)) ggX9_swapColumns_X4_put
set_option maxRecDepth 20000 in
theorem ggX9_swapColumns_X9_changeIfUnlike : GoodIn wsX9_swapColumns wsX9_changeIfUnlike := goodIn_r _ [36, 3, 1, 37, 38, 39, 40, 7, 41, 9, 42, 24, 25, 26, 14, 27, 5, 6, 8, 43, 44, 45, 35, 46, 47, 48, 49, 50, 51, 52, 53, 54, 55, 56, 57, 58, 59, 60, 11, 12, 13, 15, 16, 17, 18, 10, 61, 62, 63, 64, 65, 66, 67, 68, 69, 70, 71, 72, 73, 74, 75, 76, 77] (by decide +kernel) (by decide +kernel)
set_option maxRecDepth 20000 in
theorem gX9_swapColumns_X9_changeIfUnlike : GoodIn wsX9_swapColumns (wsV RX9 111 RX9 yX9_changeIfUnlike wsX9_changeIfUnlike) := goodIn_app (goodIn_of _ (by decide +kernel)) ggX9_swapColumns_X9_changeIfUnlike
theorem dX9_swapColumns_0 : decode cX9_swapColumns 0 = .ok (.aload_n 0, 1) := by decide +kernel
theorem dX9_swapColumns_1 : decode cX9_swapColumns 1 = .ok (.getfield 10, 3) := by decide +kernel
theorem dX9_swapColumns_4 : decode cX9_swapColumns 4 = .ok (.iload_n 1, 1) := by decide +kernel
theorem dX9_swapColumns_5 : decode cX9_swapColumns 5 = .ok (.invokevirtual 90, 3) := by decide +kernel
theorem dX9_swapColumns_8 : decode cX9_swapColumns 8 = .ok (.ifCond .eq 14, 3) := by decide +kernel
theorem dX9_swapColumns_11 : decode cX9_swapColumns 11 = .ok (.aload_n 0, 1) := by decide +kernel
theorem dX9_swapColumns_12 : decode cX9_swapColumns 12 = .ok (.getfield 10, 3) := by decide +kernel
theorem dX9_swapColumns_15 : decode cX9_swapColumns 15 = .ok (.iload_n 2, 1) := by decide +kernel
theorem dX9_swapColumns_16 : decode cX9_swapColumns 16 = .ok (.invokevirtual 90, 3) := by decide +kernel
theorem dX9_swapColumns_19 : decode cX9_swapColumns 19 = .ok (.ifCond .ne 6, 3) := by decide +kernel
theorem dX9_swapColumns_22 : decode cX9_swapColumns 22 = .ok (.ldc 94, 2) := by decide +kernel
theorem dX9_swapColumns_24 : decode cX9_swapColumns 24 = .ok (.ireturn, 1) := by decide +kernel
theorem dX9_swapColumns_25 : decode cX9_swapColumns 25 = .ok (.aload_n 0, 1) := by decide +kernel
theorem dX9_swapColumns_26 : decode cX9_swapColumns 26 = .ok (.getfield 16, 3) := by decide +kernel
theorem dX9_swapColumns_29 : decode cX9_swapColumns 29 = .ok (.aload_n 0, 1) := by decide +kernel
theorem dX9_swapColumns_30 : decode cX9_swapColumns 30 = .ok (.getfield 10, 3) := by decide +kernel
theorem dX9_swapColumns_33 : decode cX9_swapColumns 33 = .ok (.invokevirtual 103, 3) := by decide +kernel
theorem dX9_swapColumns_36 : decode cX9_swapColumns 36 = .ok (.iconst 0, 1) := by decide +kernel
theorem dX9_swapColumns_37 : decode cX9_swapColumns 37 = .ok (.istore_n 3, 1) := by decide +kernel
theorem dX9_swapColumns_38 : decode cX9_swapColumns 38 = .ok (.iload_n 3, 1) := by decide +kernel
theorem dX9_swapColumns_39 : decode cX9_swapColumns 39 = .ok (.aload_n 0, 1) := by decide +kernel
theorem dX9_swapColumns_40 : decode cX9_swapColumns 40 = .ok (.getfield 10, 3) := by decide +kernel
theorem dX9_swapColumns_43 : decode cX9_swapColumns 43 = .ok (.invokevirtual 79, 3) := by decide +kernel
theorem dX9_swapColumns_46 : decode cX9_swapColumns 46 = .ok (.if_icmp .ge 45, 3) := by decide +kernel
theorem dX9_swapColumns_49 : decode cX9_swapColumns 49 = .ok (.aload_n 0, 1) := by decide +kernel
theorem dX9_swapColumns_50 : decode cX9_swapColumns 50 = .ok (.getfield 16, 3) := by decide +kernel
theorem dX9_swapColumns_53 : decode cX9_swapColumns 53 = .ok (.iload_n 3, 1) := by decide +kernel
theorem dX9_swapColumns_54 : decode cX9_swapColumns 54 = .ok (.iload_n 1, 1) := by decide +kernel
theorem dX9_swapColumns_55 : decode cX9_swapColumns 55 = .ok (.aload_n 0, 1) := by decide +kernel
theorem dX9_swapColumns_56 : decode cX9_swapColumns 56 = .ok (.getfield 10, 3) := by decide +kernel
theorem dX9_swapColumns_59 : decode cX9_swapColumns 59 = .ok (.iload_n 3, 1) := by decide +kernel
theorem dX9_swapColumns_60 : decode cX9_swapColumns 60 = .ok (.iload_n 2, 1) := by decide +kernel
theorem dX9_swapColumns_61 : decode cX9_swapColumns 61 = .ok (.invokevirtual 98, 3) := by decide +kernel
theorem dX9_swapColumns_64 : decode cX9_swapColumns 64 = .ok (.invokevirtual 107, 3) := by decide +kernel
theorem dX9_swapColumns_67 : decode cX9_swapColumns 67 = .ok (.aload_n 0, 1) := by decide +kernel
theorem dX9_swapColumns_68 : decode cX9_swapColumns 68 = .ok (.getfield 16, 3) := by decide +kernel
theorem dX9_swapColumns_71 : decode cX9_swapColumns 71 = .ok (.iload_n 3, 1) := by decide +kernel
theorem dX9_swapColumns_72 : decode cX9_swapColumns 72 = .ok (.iload_n 2, 1) := by decide +kernel
theorem dX9_swapColumns_73 : decode cX9_swapColumns 73 = .ok (.aload_n 0, 1) := by decide +kernel
theorem dX9_swapColumns_74 : decode cX9_swapColumns 74 = .ok (.getfield 10, 3) := by decide +kernel
theorem dX9_swapColumns_77 : decode cX9_swapColumns 77 = .ok (.iload_n 3, 1) := by decide +kernel
theorem dX9_swapColumns_78 : decode cX9_swapColumns 78 = .ok (.iload_n 1, 1) := by decide +kernel
theorem dX9_swapColumns_79 : decode cX9_swapColumns 79 = .ok (.invokevirtual 98, 3) := by decide +kernel
theorem dX9_swapColumns_82 : decode cX9_swapColumns 82 = .ok (.invokevirtual 107, 3) := by decide +kernel
theorem dX9_swapColumns_85 : decode cX9_swapColumns 85 = .ok (.iinc 3 1, 3) := by decide +kernel
theorem dX9_swapColumns_88 : decode cX9_swapColumns 88 = .ok (.goto (-50), 3) := by decide +kernel
theorem dX9_swapColumns_91 : decode cX9_swapColumns 91 = .ok (.aload_n 0, 1) := by decide +kernel
theorem dX9_swapColumns_92 : decode cX9_swapColumns 92 = .ok (.invokevirtual 111, 3) := by decide +kernel
theorem dX9_swapColumns_95 : decode cX9_swapColumns 95 = .ok (.ireturn, 1) := by decide +kernel
set_option maxRecDepth 20000 in
theorem ggX9_transpose_X4_copyFrom : GoodIn wsX9_transpose wsX4_copyFrom := goodIn_r _ [7, 8, 9, 10, 11, 12, 13, 71, 72] (by decide +kernel) (by decide +kernel)
set_option maxRecDepth 20000 in
theorem gX9_transpose_X4_copyFrom : GoodIn wsX9_transpose (wsV RX9 103 RX4 yX4_copyFrom wsX4_copyFrom) := goodIn_app (goodIn_of _ (by decide +kernel)) ggX9_transpose_X4_copyFrom
set_option maxRecDepth 20000 in
theorem ggX9_transpose_X4_size : GoodIn wsX9_transpose wsX4_size := goodIn_r _ [17, 13, 71, 72] (by decide +kernel) (by decide +kernel)
set_option maxRecDepth 20000 in
theorem gX9_transpose_X4_size : GoodIn wsX9_transpose (wsV RX9 79 RX4 yX4_size wsX4_size) := goodIn_app (goodIn_of _ (by decide +kernel)) ggX9_transpose_X4_size
set_option maxRecDepth 20000 in
theorem ggX9_transpose_X4_at : GoodIn wsX9_transpose wsX4_at := goodIn_r _ [21, 8, 22, 23, 24, 6, 25, 13, 71, 72] (by decide +kernel) (by decide +kernel)
set_option maxRecDepth 20000 in
theorem gX9_transpose_X4_at : GoodIn wsX9_transpose (wsV RX9 98 RX4 yX4_at wsX4_at) := goodIn_app (goodIn_of _ (by decide +kernel)) ggX9_transpose_X4_at
set_option maxRecDepth 20000 in
theorem ggX9_transpose_X4_put : GoodIn wsX9_transpose wsX4_put := goodIn_r _ [29, 8, 22, 23, 24, 6, 25, 13, 71, 72] (by decide +kernel) (by decide +kernel)
set_option maxRecDepth 20000 in
theorem gX9_transpose_X4_put : GoodIn wsX9_transpose (wsV RX9 107 RX4 yX4_put wsX4_put) := goodIn_app (goodIn_of _ (by decide +kernel)) ggX9_transpose_X4_put
set_option maxRecDepth 20000 in
theorem ggX9_transpose_X9_changeIfUnlike : GoodIn wsX9_transpose wsX9_changeIfUnlike := goodIn_r _ [34, 1, 2, 35, 36, 37, 38, 6, 39, 13, 40, 19, 20, 21, 8, 22, 23, 24, 25, 41, 42, 43, 33, 44, 45, 46, 47, 48, 49, 50, 51, 52, 53, 54, 55, 56, 57, 58, 4, 5, 7, 9, 10, 11, 12, 3, 59, 60, 61, 62, 63, 64, 65, 66, 67, 68, 69, 70, 71, 72, 73, 74, 75] (by decide +kernel) (by decide +kernel)
set_option maxRecDepth 20000 in
theorem gX9_transpose_X9_changeIfUnlike : GoodIn wsX9_transpose (wsV RX9 111 RX9 yX9_changeIfUnlike wsX9_changeIfUnlike) := goodIn_app (goodIn_of _ (by decide +kernel)) ggX9_transpose_X9_changeIfUnlike
theorem dX9_transpose_0 : decode cX9_transpose 0 = .ok (.aload_n 0, 1) := by decide +kernel
theorem dX9_transpose_1 : decode cX9_transpose 1 = .ok (.getfield 16, 3) := by decide +kernel
theorem dX9_transpose_4 : decode cX9_transpose 4 = .ok (.aload_n 0, 1) := by decide +kernel
theorem dX9_transpose_5 : decode cX9_transpose 5 = .ok (.getfield 10, 3) := by decide +kernel
theorem dX9_transpose_8 : decode cX9_transpose 8 = .ok (.invokevirtual 103, 3) := by decide +kernel
theorem dX9_transpose_11 : decode cX9_transpose 11 = .ok (.iconst 0, 1) := by decide +kernel
theorem dX9_transpose_12 : decode cX9_transpose 12 = .ok (.istore_n 1, 1) := by decide +kernel
theorem dX9_transpose_13 : decode cX9_transpose 13 = .ok (.iload_n 1, 1) := by decide +kernel
theorem dX9_transpose_14 : decode cX9_transpose 14 = .ok (.aload_n 0, 1) := by decide +kernel
theorem dX9_transpose_15 : decode cX9_transpose 15 = .ok (.getfield 10, 3) := by decide +kernel
theorem dX9_transpose_18 : decode cX9_transpose 18 = .ok (.invokevirtual 79, 3) := by decide +kernel
theorem dX9_transpose_21 : decode cX9_transpose 21 = .ok (.if_icmp .ge 46, 3) := by decide +kernel
theorem dX9_transpose_24 : decode cX9_transpose 24 = .ok (.iconst 0, 1) := by decide +kernel
theorem dX9_transpose_25 : decode cX9_transpose 25 = .ok (.istore_n 2, 1) := by decide +kernel
theorem dX9_transpose_26 : decode cX9_transpose 26 = .ok (.iload_n 2, 1) := by decide +kernel
theorem dX9_transpose_27 : decode cX9_transpose 27 = .ok (.aload_n 0, 1) := by decide +kernel
theorem dX9_transpose_28 : decode cX9_transpose 28 = .ok (.getfield 10, 3) := by decide +kernel
theorem dX9_transpose_31 : decode cX9_transpose 31 = .ok (.invokevirtual 79, 3) := by decide +kernel
theorem dX9_transpose_34 : decode cX9_transpose 34 = .ok (.if_icmp .ge 27, 3) := by decide +kernel
theorem dX9_transpose_37 : decode cX9_transpose 37 = .ok (.aload_n 0, 1) := by decide +kernel
theorem dX9_transpose_38 : decode cX9_transpose 38 = .ok (.getfield 16, 3) := by decide +kernel
theorem dX9_transpose_41 : decode cX9_transpose 41 = .ok (.iload_n 1, 1) := by decide +kernel
theorem dX9_transpose_42 : decode cX9_transpose 42 = .ok (.iload_n 2, 1) := by decide +kernel
theorem dX9_transpose_43 : decode cX9_transpose 43 = .ok (.aload_n 0, 1) := by decide +kernel
theorem dX9_transpose_44 : decode cX9_transpose 44 = .ok (.getfield 10, 3) := by decide +kernel
theorem dX9_transpose_47 : decode cX9_transpose 47 = .ok (.iload_n 2, 1) := by decide +kernel
theorem dX9_transpose_48 : decode cX9_transpose 48 = .ok (.iload_n 1, 1) := by decide +kernel
theorem dX9_transpose_49 : decode cX9_transpose 49 = .ok (.invokevirtual 98, 3) := by decide +kernel
theorem dX9_transpose_52 : decode cX9_transpose 52 = .ok (.invokevirtual 107, 3) := by decide +kernel
theorem dX9_transpose_55 : decode cX9_transpose 55 = .ok (.iinc 2 1, 3) := by decide +kernel
theorem dX9_transpose_58 : decode cX9_transpose 58 = .ok (.goto (-32), 3) := by decide +kernel
theorem dX9_transpose_61 : decode cX9_transpose 61 = .ok (.iinc 1 1, 3) := by decide +kernel
theorem dX9_transpose_64 : decode cX9_transpose 64 = .ok (.goto (-51), 3) := by decide +kernel
theorem dX9_transpose_67 : decode cX9_transpose 67 = .ok (.aload_n 0, 1) := by decide +kernel
theorem dX9_transpose_68 : decode cX9_transpose 68 = .ok (.invokevirtual 111, 3) := by decide +kernel
theorem dX9_transpose_71 : decode cX9_transpose 71 = .ok (.ireturn, 1) := by decide +kernel
set_option maxRecDepth 20000 in
theorem ggX9_multiply_X4_has : GoodIn wsX9_multiply wsX4_has := goodIn_r _ [10, 11, 78, 79] (by decide +kernel) (by decide +kernel)
set_option maxRecDepth 20000 in
theorem gX9_multiply_X4_has : GoodIn wsX9_multiply (wsV RX9 90 RX4 yX4_has wsX4_has) := goodIn_app (goodIn_of _ (by decide +kernel)) ggX9_multiply_X4_has
set_option maxRecDepth 20000 in
theorem ggX9_multiply_X4_copyFrom : GoodIn wsX9_multiply wsX4_copyFrom := goodIn_r _ [15, 16, 17, 18, 19, 20, 11, 78, 79] (by decide +kernel) (by decide +kernel)
set_option maxRecDepth 20000 in
theorem gX9_multiply_X4_copyFrom : GoodIn wsX9_multiply (wsV RX9 103 RX4 yX4_copyFrom wsX4_copyFrom) := goodIn_app (goodIn_of _ (by decide +kernel)) ggX9_multiply_X4_copyFrom
set_option maxRecDepth 20000 in
theorem ggX9_multiply_X4_size : GoodIn wsX9_multiply wsX4_size := goodIn_r _ [24, 11, 78, 79] (by decide +kernel) (by decide +kernel)
set_option maxRecDepth 20000 in
theorem gX9_multiply_X4_size : GoodIn wsX9_multiply (wsV RX9 79 RX4 yX4_size wsX4_size) := goodIn_app (goodIn_of _ (by decide +kernel)) ggX9_multiply_X4_size
set_option maxRecDepth 20000 in
theorem ggX9_multiply_X4_at : GoodIn wsX9_multiply wsX4_at := goodIn_r _ [28, 16, 29, 7, 8, 9, 10, 11, 78, 79] (by decide +kernel) (by decide +kernel)
set_option maxRecDepth 20000 in
theorem gX9_multiply_X4_at : GoodIn wsX9_multiply (wsV RX9 98 RX4 yX4_at wsX4_at) := goodIn_app (goodIn_of _ (by decide +kernel)) ggX9_multiply_X4_at
set_option maxRecDepth 20000 in
theorem ggX9_multiply_X9_isEntry : GoodIn wsX9_multiply wsX9_isEntry := goodIn_r _ [33] (by decide +kernel) (by decide +kernel)
set_option maxRecDepth 20000 in
theorem gX9_multiply_X9_isEntry : GoodIn wsX9_multiply (va_wsS RX9 95 yX9_isEntry wsX9_isEntry) := goodIn_app (goodIn_of _ (by decide +kernel)) ggX9_multiply_X9_isEntry
set_option maxRecDepth 20000 in
theorem ggX9_multiply_X4_put : GoodIn wsX9_multiply wsX4_put := goodIn_r _ [37, 16, 29, 7, 8, 9, 10, 11, 78, 79] (by decide +kernel) (by decide +kernel)
set_option maxRecDepth 20000 in
theorem gX9_multiply_X4_put : GoodIn wsX9_multiply (wsV RX9 107 RX4 yX4_put wsX4_put) := goodIn_app (goodIn_of _ (by decide +kernel)) ggX9_multiply_X4_put
set_option maxRecDepth 20000 in
theorem ggX9_multiply_X9_changeIfUnlike : GoodIn wsX9_multiply wsX9_changeIfUnlike := goodIn_r _ [41, 4, 1, 42, 43, 44, 45, 9, 46, 11, 47, 26, 27, 28, 16, 29, 7, 8, 10, 48, 49, 50, 32, 51, 52, 53, 54, 55, 56, 57, 58, 59, 60, 61, 62, 63, 64, 65, 13, 14, 15, 17, 18, 19, 20, 12, 66, 67, 68, 69, 70, 71, 72, 73, 74, 75, 76, 77, 78, 79, 80, 81, 82] (by decide +kernel) (by decide +kernel)
set_option maxRecDepth 20000 in
theorem gX9_multiply_X9_changeIfUnlike : GoodIn wsX9_multiply (wsV RX9 111 RX9 yX9_changeIfUnlike wsX9_changeIfUnlike) := goodIn_app (goodIn_of _ (by decide +kernel)) ggX9_multiply_X9_changeIfUnlike
theorem dX9_multiply_0 : decode cX9_multiply 0 = .ok (.aload_n 0, 1) := by decide +kernel
theorem dX9_multiply_1 : decode cX9_multiply 1 = .ok (.getfield 10, 3) := by decide +kernel
theorem dX9_multiply_4 : decode cX9_multiply 4 = .ok (.iload_n 1, 1) := by decide +kernel
theorem dX9_multiply_5 : decode cX9_multiply 5 = .ok (.invokevirtual 90, 3) := by decide +kernel
theorem dX9_multiply_8 : decode cX9_multiply 8 = .ok (.ifCond .ne 6, 3) := by decide +kernel
theorem dX9_multiply_11 : decode cX9_multiply 11 = .ok (.ldc 94, 2) := by decide +kernel
theorem dX9_multiply_13 : decode cX9_multiply 13 = .ok (.ireturn, 1) := by decide +kernel
theorem dX9_multiply_14 : decode cX9_multiply 14 = .ok (.iload_n 2, 1) := by decide +kernel
theorem dX9_multiply_15 : decode cX9_multiply 15 = .ok (.bipush (-9), 2) := by decide +kernel
theorem dX9_multiply_17 : decode cX9_multiply 17 = .ok (.if_icmp .lt 9, 3) := by decide +kernel
theorem dX9_multiply_20 : decode cX9_multiply 20 = .ok (.iload_n 2, 1) := by decide +kernel
theorem dX9_multiply_21 : decode cX9_multiply 21 = .ok (.bipush 9, 2) := by decide +kernel
theorem dX9_multiply_23 : decode cX9_multiply 23 = .ok (.if_icmp .le 6, 3) := by decide +kernel
theorem dX9_multiply_26 : decode cX9_multiply 26 = .ok (.ldc 78, 2) := by decide +kernel
theorem dX9_multiply_28 : decode cX9_multiply 28 = .ok (.ireturn, 1) := by decide +kernel
theorem dX9_multiply_29 : decode cX9_multiply 29 = .ok (.aload_n 0, 1) := by decide +kernel
theorem dX9_multiply_30 : decode cX9_multiply 30 = .ok (.getfield 16, 3) := by decide +kernel
theorem dX9_multiply_33 : decode cX9_multiply 33 = .ok (.aload_n 0, 1) := by decide +kernel
theorem dX9_multiply_34 : decode cX9_multiply 34 = .ok (.getfield 10, 3) := by decide +kernel
theorem dX9_multiply_37 : decode cX9_multiply 37 = .ok (.invokevirtual 103, 3) := by decide +kernel
theorem dX9_multiply_40 : decode cX9_multiply 40 = .ok (.iconst 0, 1) := by decide +kernel
theorem dX9_multiply_41 : decode cX9_multiply 41 = .ok (.istore_n 3, 1) := by decide +kernel
theorem dX9_multiply_42 : decode cX9_multiply 42 = .ok (.iload_n 3, 1) := by decide +kernel
theorem dX9_multiply_43 : decode cX9_multiply 43 = .ok (.aload_n 0, 1) := by decide +kernel
theorem dX9_multiply_44 : decode cX9_multiply 44 = .ok (.getfield 10, 3) := by decide +kernel
theorem dX9_multiply_47 : decode cX9_multiply 47 = .ok (.invokevirtual 79, 3) := by decide +kernel
theorem dX9_multiply_50 : decode cX9_multiply 50 = .ok (.if_icmp .ge 44, 3) := by decide +kernel
theorem dX9_multiply_53 : decode cX9_multiply 53 = .ok (.aload_n 0, 1) := by decide +kernel
theorem dX9_multiply_54 : decode cX9_multiply 54 = .ok (.getfield 10, 3) := by decide +kernel
theorem dX9_multiply_57 : decode cX9_multiply 57 = .ok (.iload_n 1, 1) := by decide +kernel
theorem dX9_multiply_58 : decode cX9_multiply 58 = .ok (.iload_n 3, 1) := by decide +kernel
theorem dX9_multiply_59 : decode cX9_multiply 59 = .ok (.invokevirtual 98, 3) := by decide +kernel
theorem dX9_multiply_62 : decode cX9_multiply 62 = .ok (.iload_n 2, 1) := by decide +kernel
theorem dX9_multiply_63 : decode cX9_multiply 63 = .ok (.imul, 1) := by decide +kernel
theorem dX9_multiply_64 : decode cX9_multiply 64 = .ok (.istore 4, 2) := by decide +kernel
theorem dX9_multiply_66 : decode cX9_multiply 66 = .ok (.iload 4, 2) := by decide +kernel
theorem dX9_multiply_68 : decode cX9_multiply 68 = .ok (.invokestatic 95, 3) := by decide +kernel
theorem dX9_multiply_71 : decode cX9_multiply 71 = .ok (.ifCond .ne 6, 3) := by decide +kernel
theorem dX9_multiply_74 : decode cX9_multiply 74 = .ok (.ldc 114, 2) := by decide +kernel
theorem dX9_multiply_76 : decode cX9_multiply 76 = .ok (.ireturn, 1) := by decide +kernel
theorem dX9_multiply_77 : decode cX9_multiply 77 = .ok (.aload_n 0, 1) := by decide +kernel
theorem dX9_multiply_78 : decode cX9_multiply 78 = .ok (.getfield 16, 3) := by decide +kernel
theorem dX9_multiply_81 : decode cX9_multiply 81 = .ok (.iload_n 1, 1) := by decide +kernel
theorem dX9_multiply_82 : decode cX9_multiply 82 = .ok (.iload_n 3, 1) := by decide +kernel
theorem dX9_multiply_83 : decode cX9_multiply 83 = .ok (.iload 4, 2) := by decide +kernel
theorem dX9_multiply_85 : decode cX9_multiply 85 = .ok (.invokevirtual 107, 3) := by decide +kernel
theorem dX9_multiply_88 : decode cX9_multiply 88 = .ok (.iinc 3 1, 3) := by decide +kernel
theorem dX9_multiply_91 : decode cX9_multiply 91 = .ok (.goto (-49), 3) := by decide +kernel
theorem dX9_multiply_94 : decode cX9_multiply 94 = .ok (.aload_n 0, 1) := by decide +kernel
theorem dX9_multiply_95 : decode cX9_multiply 95 = .ok (.invokevirtual 111, 3) := by decide +kernel
theorem dX9_multiply_98 : decode cX9_multiply 98 = .ok (.ireturn, 1) := by decide +kernel
set_option maxRecDepth 20000 in
theorem ggX9_add_X4_hasDiagonal : GoodIn wsX9_add wsX4_hasDiagonal := goodIn_r _ [9, 10, 11, 12, 13, 8, 14, 79, 80] (by decide +kernel) (by decide +kernel)
set_option maxRecDepth 20000 in
theorem gX9_add_X4_hasDiagonal : GoodIn wsX9_add (wsV RX9 115 RX4 yX4_hasDiagonal wsX4_hasDiagonal) := goodIn_app (goodIn_of _ (by decide +kernel)) ggX9_add_X4_hasDiagonal
set_option maxRecDepth 20000 in
theorem ggX9_add_X4_greatestOn : GoodIn wsX9_add wsX4_greatestOn := goodIn_r _ [18, 10, 19, 20, 21, 22, 23, 24, 25, 8, 26, 27, 11, 12, 13, 14, 79, 80] (by decide +kernel) (by decide +kernel)
set_option maxRecDepth 20000 in
theorem gX9_add_X4_greatestOn : GoodIn wsX9_add (wsV RX9 118 RX4 yX4_greatestOn wsX4_greatestOn) := goodIn_app (goodIn_of _ (by decide +kernel)) ggX9_add_X4_greatestOn
set_option maxRecDepth 20000 in
theorem ggX9_add_X4_copyFrom : GoodIn wsX9_add wsX4_copyFrom := goodIn_r _ [31, 27, 32, 33, 34, 35, 10, 79, 80] (by decide +kernel) (by decide +kernel)
set_option maxRecDepth 20000 in
theorem gX9_add_X4_copyFrom : GoodIn wsX9_add (wsV RX9 103 RX4 yX4_copyFrom wsX4_copyFrom) := goodIn_app (goodIn_of _ (by decide +kernel)) ggX9_add_X4_copyFrom
set_option maxRecDepth 20000 in
theorem ggX9_add_X4_increaseOn : GoodIn wsX9_add wsX4_increaseOn := goodIn_r _ [39, 10, 23, 24, 25, 8, 26, 27, 11, 12, 13, 14, 40, 41, 42, 43, 79, 80] (by decide +kernel) (by decide +kernel)
set_option maxRecDepth 20000 in
theorem gX9_add_X4_increaseOn : GoodIn wsX9_add (wsV RX9 122 RX4 yX4_increaseOn wsX4_increaseOn) := goodIn_app (goodIn_of _ (by decide +kernel)) ggX9_add_X4_increaseOn
set_option maxRecDepth 20000 in
theorem ggX9_add_X9_changeToNext : GoodIn wsX9_add wsX9_changeToNext := goodIn_r _ [48, 49, 1, 4, 50, 51, 52, 53, 54, 55, 56, 57, 58, 59, 60, 61, 62, 29, 30, 8, 31, 27, 32, 33, 34, 35, 10, 28, 67, 68, 69, 70, 71, 72, 73, 74, 75, 76, 77, 78, 81, 82, 83, 79, 80] (by decide +kernel) (by decide +kernel)
set_option maxRecDepth 20000 in
theorem gX9_add_X9_changeToNext : GoodIn wsX9_add (wsV RX9 87 RX9 yX9_changeToNext wsX9_changeToNext) := goodIn_app (goodIn_of _ (by decide +kernel)) ggX9_add_X9_changeToNext
set_option maxRecDepth 20000 in
theorem ggX9_add_X4_sumOn : GoodIn wsX9_add wsX4_sumOn := goodIn_r _ [66, 10, 23, 24, 25, 8, 26, 27, 11, 12, 13, 14, 79, 80] (by decide +kernel) (by decide +kernel)
set_option maxRecDepth 20000 in
theorem gX9_add_X4_sumOn : GoodIn wsX9_add (wsV RX9 126 RX4 yX4_sumOn wsX4_sumOn) := goodIn_app (goodIn_of _ (by decide +kernel)) ggX9_add_X4_sumOn
theorem dX9_add_0 : decode cX9_add 0 = .ok (.aload_n 0, 1) := by decide +kernel
theorem dX9_add_1 : decode cX9_add 1 = .ok (.getfield 10, 3) := by decide +kernel
theorem dX9_add_4 : decode cX9_add 4 = .ok (.iload_n 1, 1) := by decide +kernel
theorem dX9_add_5 : decode cX9_add 5 = .ok (.invokevirtual 115, 3) := by decide +kernel
theorem dX9_add_8 : decode cX9_add 8 = .ok (.ifCond .ne 6, 3) := by decide +kernel
theorem dX9_add_11 : decode cX9_add 11 = .ok (.ldc 94, 2) := by decide +kernel
theorem dX9_add_13 : decode cX9_add 13 = .ok (.ireturn, 1) := by decide +kernel
theorem dX9_add_14 : decode cX9_add 14 = .ok (.aload_n 0, 1) := by decide +kernel
theorem dX9_add_15 : decode cX9_add 15 = .ok (.getfield 10, 3) := by decide +kernel
theorem dX9_add_18 : decode cX9_add 18 = .ok (.iload_n 1, 1) := by decide +kernel
theorem dX9_add_19 : decode cX9_add 19 = .ok (.invokevirtual 118, 3) := by decide +kernel
theorem dX9_add_22 : decode cX9_add 22 = .ok (.bipush 20, 2) := by decide +kernel
theorem dX9_add_24 : decode cX9_add 24 = .ok (.if_icmp .lt 6, 3) := by decide +kernel
theorem dX9_add_27 : decode cX9_add 27 = .ok (.ldc 114, 2) := by decide +kernel
theorem dX9_add_29 : decode cX9_add 29 = .ok (.ireturn, 1) := by decide +kernel
theorem dX9_add_30 : decode cX9_add 30 = .ok (.aload_n 0, 1) := by decide +kernel
theorem dX9_add_31 : decode cX9_add 31 = .ok (.getfield 16, 3) := by decide +kernel
theorem dX9_add_34 : decode cX9_add 34 = .ok (.aload_n 0, 1) := by decide +kernel
theorem dX9_add_35 : decode cX9_add 35 = .ok (.getfield 10, 3) := by decide +kernel
theorem dX9_add_38 : decode cX9_add 38 = .ok (.invokevirtual 103, 3) := by decide +kernel
theorem dX9_add_41 : decode cX9_add 41 = .ok (.aload_n 0, 1) := by decide +kernel
theorem dX9_add_42 : decode cX9_add 42 = .ok (.getfield 16, 3) := by decide +kernel
theorem dX9_add_45 : decode cX9_add 45 = .ok (.iload_n 1, 1) := by decide +kernel
theorem dX9_add_46 : decode cX9_add 46 = .ok (.iconst 1, 1) := by decide +kernel
theorem dX9_add_47 : decode cX9_add 47 = .ok (.invokevirtual 122, 3) := by decide +kernel
theorem dX9_add_50 : decode cX9_add 50 = .ok (.aload_n 0, 1) := by decide +kernel
theorem dX9_add_51 : decode cX9_add 51 = .ok (.invokevirtual 87, 3) := by decide +kernel
theorem dX9_add_54 : decode cX9_add 54 = .ok (.aload_n 0, 1) := by decide +kernel
theorem dX9_add_55 : decode cX9_add 55 = .ok (.getfield 10, 3) := by decide +kernel
theorem dX9_add_58 : decode cX9_add 58 = .ok (.iload_n 1, 1) := by decide +kernel
theorem dX9_add_59 : decode cX9_add 59 = .ok (.invokevirtual 126, 3) := by decide +kernel
theorem dX9_add_62 : decode cX9_add 62 = .ok (.ireturn, 1) := by decide +kernel
set_option maxRecDepth 20000 in
theorem ggX9_clearText_X7_length : GoodIn wsX9_clearText wsX7_length := goodIn_r _ [6, 7, 24, 25] (by decide +kernel) (by decide +kernel)
set_option maxRecDepth 20000 in
theorem gX9_clearText_X7_length : GoodIn wsX9_clearText (wsV RX9 138 RX7 yX7_length wsX7_length) := goodIn_app (goodIn_of _ (by decide +kernel)) ggX9_clearText_X7_length
set_option maxRecDepth 20000 in
theorem ggX9_clearText_X7_empty : GoodIn wsX9_clearText wsX7_empty := goodIn_r _ [11, 7, 24, 25] (by decide +kernel) (by decide +kernel)
set_option maxRecDepth 20000 in
theorem gX9_clearText_X7_empty : GoodIn wsX9_clearText (wsV RX9 141 RX7 yX7_empty wsX7_empty) := goodIn_app (goodIn_of _ (by decide +kernel)) ggX9_clearText_X7_empty
theorem dX9_clearText_0 : decode cX9_clearText 0 = .ok (.aload_n 0, 1) := by decide +kernel
theorem dX9_clearText_1 : decode cX9_clearText 1 = .ok (.getfield 39, 3) := by decide +kernel
theorem dX9_clearText_4 : decode cX9_clearText 4 = .ok (.invokevirtual 138, 3) := by decide +kernel
theorem dX9_clearText_7 : decode cX9_clearText 7 = .ok (.istore_n 1, 1) := by decide +kernel
theorem dX9_clearText_8 : decode cX9_clearText 8 = .ok (.aload_n 0, 1) := by decide +kernel
theorem dX9_clearText_9 : decode cX9_clearText 9 = .ok (.getfield 39, 3) := by decide +kernel
theorem dX9_clearText_12 : decode cX9_clearText 12 = .ok (.invokevirtual 141, 3) := by decide +kernel
theorem dX9_clearText_15 : decode cX9_clearText 15 = .ok (.iload_n 1, 1) := by decide +kernel
theorem dX9_clearText_16 : decode cX9_clearText 16 = .ok (.ireturn, 1) := by decide +kernel
set_option maxRecDepth 20000 in
theorem ggX9_read_X8_readInto : GoodIn wsX9_read wsX8_readInto := goodIn_r _ [9, 10, 11, 12, 13, 14, 15, 16, 8, 17, 18, 19, 20, 21, 22, 23, 24, 25, 26, 27, 28, 29, 30, 31, 32, 33, 34, 35, 36, 37, 38, 39, 40, 41, 42, 43, 44, 45, 46, 47, 48, 49, 50, 51, 52, 53, 54, 55, 56, 57, 58, 59, 60, 61, 62, 63, 64, 65, 66, 67, 68, 69, 70, 71, 72, 116, 117, 118, 119, 120, 121, 122, 123, 124] (by decide +kernel) (by decide +kernel)
set_option maxRecDepth 20000 in
theorem gX9_read_X8_readInto : GoodIn wsX9_read (wsV RX9 144 RX8 yX8_readInto wsX8_readInto) := goodIn_app (goodIn_of _ (by decide +kernel)) ggX9_read_X8_readInto
set_option maxRecDepth 20000 in
theorem ggX9_read_X9_changeToNext : GoodIn wsX9_read wsX9_changeToNext := goodIn_r _ [77, 78, 4, 2, 79, 80, 81, 82, 83, 84, 85, 86, 87, 88, 89, 90, 91, 92, 93, 22, 94, 24, 95, 96, 97, 98, 29, 99, 104, 105, 106, 107, 108, 109, 110, 111, 112, 113, 114, 115, 125, 126, 127, 121, 122] (by decide +kernel) (by decide +kernel)
set_option maxRecDepth 20000 in
theorem gX9_read_X9_changeToNext : GoodIn wsX9_read (wsV RX9 87 RX9 yX9_changeToNext wsX9_changeToNext) := goodIn_app (goodIn_of _ (by decide +kernel)) ggX9_read_X9_changeToNext
set_option maxRecDepth 20000 in
theorem ggX9_read_X4_size : GoodIn wsX9_read wsX4_size := goodIn_r _ [103, 29, 121, 122] (by decide +kernel) (by decide +kernel)
set_option maxRecDepth 20000 in
theorem gX9_read_X4_size : GoodIn wsX9_read (wsV RX9 79 RX4 yX4_size wsX4_size) := goodIn_app (goodIn_of _ (by decide +kernel)) ggX9_read_X4_size
theorem dX9_read_0 : decode cX9_read 0 = .ok (.aload_n 0, 1) := by decide +kernel
theorem dX9_read_1 : decode cX9_read 1 = .ok (.getfield 46, 3) := by decide +kernel
theorem dX9_read_4 : decode cX9_read 4 = .ok (.aload_n 0, 1) := by decide +kernel
theorem dX9_read_5 : decode cX9_read 5 = .ok (.getfield 16, 3) := by decide +kernel
theorem dX9_read_8 : decode cX9_read 8 = .ok (.aload_n 0, 1) := by decide +kernel
theorem dX9_read_9 : decode cX9_read 9 = .ok (.getfield 39, 3) := by decide +kernel
theorem dX9_read_12 : decode cX9_read 12 = .ok (.invokevirtual 144, 3) := by decide +kernel
theorem dX9_read_15 : decode cX9_read 15 = .ok (.istore_n 1, 1) := by decide +kernel
theorem dX9_read_16 : decode cX9_read 16 = .ok (.iload_n 1, 1) := by decide +kernel
theorem dX9_read_17 : decode cX9_read 17 = .ok (.iconst (-1), 1) := by decide +kernel
theorem dX9_read_18 : decode cX9_read 18 = .ok (.if_icmp .eq 8, 3) := by decide +kernel
theorem dX9_read_21 : decode cX9_read 21 = .ok (.bipush (-100), 2) := by decide +kernel
theorem dX9_read_23 : decode cX9_read 23 = .ok (.iload_n 1, 1) := by decide +kernel
theorem dX9_read_24 : decode cX9_read 24 = .ok (.isub, 1) := by decide +kernel
theorem dX9_read_25 : decode cX9_read 25 = .ok (.ireturn, 1) := by decide +kernel
theorem dX9_read_26 : decode cX9_read 26 = .ok (.aload_n 0, 1) := by decide +kernel
theorem dX9_read_27 : decode cX9_read 27 = .ok (.invokevirtual 87, 3) := by decide +kernel
theorem dX9_read_30 : decode cX9_read 30 = .ok (.aload_n 0, 1) := by decide +kernel
theorem dX9_read_31 : decode cX9_read 31 = .ok (.getfield 10, 3) := by decide +kernel
theorem dX9_read_34 : decode cX9_read 34 = .ok (.invokevirtual 79, 3) := by decide +kernel
theorem dX9_read_37 : decode cX9_read 37 = .ok (.ireturn, 1) := by decide +kernel
set_option maxRecDepth 20000 in
theorem ggX9_undo_X3_count : GoodIn wsX9_undo wsX3_count := goodIn_r _ [8, 9, 43, 44, 45] (by decide +kernel) (by decide +kernel)
set_option maxRecDepth 20000 in
theorem gX9_undo_X3_count : GoodIn wsX9_undo (wsV RX9 148 RX3 yX3_count wsX3_count) := goodIn_app (goodIn_of _ (by decide +kernel)) ggX9_undo_X3_count
set_option maxRecDepth 20000 in
theorem ggX9_undo_X3_takeLatest : GoodIn wsX9_undo wsX3_takeLatest := goodIn_r _ [13, 9, 14, 15, 16, 7, 17, 18, 19, 20, 21, 22, 23, 24, 25, 26, 27, 28, 29, 30, 43, 44, 45, 46, 47] (by decide +kernel) (by decide +kernel)
set_option maxRecDepth 20000 in
theorem gX9_undo_X3_takeLatest : GoodIn wsX9_undo (wsV RX9 151 RX3 yX3_takeLatest wsX3_takeLatest) := goodIn_app (goodIn_of _ (by decide +kernel)) ggX9_undo_X3_takeLatest
theorem dX9_undo_0 : decode cX9_undo 0 = .ok (.aload_n 0, 1) := by decide +kernel
theorem dX9_undo_1 : decode cX9_undo 1 = .ok (.getfield 32, 3) := by decide +kernel
theorem dX9_undo_4 : decode cX9_undo 4 = .ok (.invokevirtual 148, 3) := by decide +kernel
theorem dX9_undo_7 : decode cX9_undo 7 = .ok (.ifCond .ne 6, 3) := by decide +kernel
theorem dX9_undo_10 : decode cX9_undo 10 = .ok (.ldc 102, 2) := by decide +kernel
theorem dX9_undo_12 : decode cX9_undo 12 = .ok (.ireturn, 1) := by decide +kernel
theorem dX9_undo_13 : decode cX9_undo 13 = .ok (.aload_n 0, 1) := by decide +kernel
theorem dX9_undo_14 : decode cX9_undo 14 = .ok (.getfield 32, 3) := by decide +kernel
theorem dX9_undo_17 : decode cX9_undo 17 = .ok (.aload_n 0, 1) := by decide +kernel
theorem dX9_undo_18 : decode cX9_undo 18 = .ok (.getfield 10, 3) := by decide +kernel
theorem dX9_undo_21 : decode cX9_undo 21 = .ok (.invokevirtual 151, 3) := by decide +kernel
theorem dX9_undo_24 : decode cX9_undo 24 = .ok (.aload_n 0, 1) := by decide +kernel
theorem dX9_undo_25 : decode cX9_undo 25 = .ok (.getfield 32, 3) := by decide +kernel
theorem dX9_undo_28 : decode cX9_undo 28 = .ok (.invokevirtual 148, 3) := by decide +kernel
theorem dX9_undo_31 : decode cX9_undo 31 = .ok (.ireturn, 1) := by decide +kernel
set_option maxRecDepth 20000 in
theorem ggX9_keep_X4_copyFrom : GoodIn wsX9_keep wsX4_copyFrom := goodIn_r _ [8, 9, 10, 11, 12, 13, 14, 31, 32] (by decide +kernel) (by decide +kernel)
set_option maxRecDepth 20000 in
theorem gX9_keep_X4_copyFrom : GoodIn wsX9_keep (wsV RX9 103 RX4 yX4_copyFrom wsX4_copyFrom) := goodIn_app (goodIn_of _ (by decide +kernel)) ggX9_keep_X4_copyFrom
set_option maxRecDepth 20000 in
theorem ggX9_keep_X4_size : GoodIn wsX9_keep wsX4_size := goodIn_r _ [18, 14, 31, 32] (by decide +kernel) (by decide +kernel)
set_option maxRecDepth 20000 in
theorem gX9_keep_X4_size : GoodIn wsX9_keep (wsV RX9 79 RX4 yX4_size wsX4_size) := goodIn_app (goodIn_of _ (by decide +kernel)) ggX9_keep_X4_size
theorem dX9_keep_0 : decode cX9_keep 0 = .ok (.aload_n 0, 1) := by decide +kernel
theorem dX9_keep_1 : decode cX9_keep 1 = .ok (.getfield 22, 3) := by decide +kernel
theorem dX9_keep_4 : decode cX9_keep 4 = .ok (.aload_n 0, 1) := by decide +kernel
theorem dX9_keep_5 : decode cX9_keep 5 = .ok (.getfield 10, 3) := by decide +kernel
theorem dX9_keep_8 : decode cX9_keep 8 = .ok (.invokevirtual 103, 3) := by decide +kernel
theorem dX9_keep_11 : decode cX9_keep 11 = .ok (.aload_n 0, 1) := by decide +kernel
theorem dX9_keep_12 : decode cX9_keep 12 = .ok (.iconst 1, 1) := by decide +kernel
theorem dX9_keep_13 : decode cX9_keep 13 = .ok (.putfield 25, 3) := by decide +kernel
theorem dX9_keep_16 : decode cX9_keep 16 = .ok (.aload_n 0, 1) := by decide +kernel
theorem dX9_keep_17 : decode cX9_keep 17 = .ok (.getfield 10, 3) := by decide +kernel
theorem dX9_keep_20 : decode cX9_keep 20 = .ok (.invokevirtual 79, 3) := by decide +kernel
theorem dX9_keep_23 : decode cX9_keep 23 = .ok (.ireturn, 1) := by decide +kernel
set_option maxRecDepth 20000 in
theorem ggX9_restore_X4_copyFrom : GoodIn wsX9_restore wsX4_copyFrom := goodIn_r _ [10, 11, 12, 13, 14, 15, 16, 52, 53] (by decide +kernel) (by decide +kernel)
set_option maxRecDepth 20000 in
theorem gX9_restore_X4_copyFrom : GoodIn wsX9_restore (wsV RX9 103 RX4 yX4_copyFrom wsX4_copyFrom) := goodIn_app (goodIn_of _ (by decide +kernel)) ggX9_restore_X4_copyFrom
set_option maxRecDepth 20000 in
theorem ggX9_restore_X9_changeToNext : GoodIn wsX9_restore wsX9_changeToNext := goodIn_r _ [21, 22, 5, 3, 23, 24, 25, 26, 27, 28, 29, 30, 31, 32, 33, 34, 35, 7, 8, 9, 10, 11, 12, 13, 14, 15, 16, 6, 40, 41, 42, 43, 44, 45, 46, 47, 48, 49, 50, 51, 54, 55, 56, 52, 53] (by decide +kernel) (by decide +kernel)
set_option maxRecDepth 20000 in
theorem gX9_restore_X9_changeToNext : GoodIn wsX9_restore (wsV RX9 87 RX9 yX9_changeToNext wsX9_changeToNext) := goodIn_app (goodIn_of _ (by decide +kernel)) ggX9_restore_X9_changeToNext
set_option maxRecDepth 20000 in
theorem ggX9_restore_X4_size : GoodIn wsX9_restore wsX4_size := goodIn_r _ [39, 16, 52, 53] (by decide +kernel) (by decide +kernel)
set_option maxRecDepth 20000 in
theorem gX9_restore_X4_size : GoodIn wsX9_restore (wsV RX9 79 RX4 yX4_size wsX4_size) := goodIn_app (goodIn_of _ (by decide +kernel)) ggX9_restore_X4_size
theorem dX9_restore_0 : decode cX9_restore 0 = .ok (.aload_n 0, 1) := by decide +kernel
theorem dX9_restore_1 : decode cX9_restore 1 = .ok (.getfield 25, 3) := by decide +kernel
theorem dX9_restore_4 : decode cX9_restore 4 = .ok (.ifCond .ne 6, 3) := by decide +kernel
theorem dX9_restore_7 : decode cX9_restore 7 = .ok (.ldc 102, 2) := by decide +kernel
theorem dX9_restore_9 : decode cX9_restore 9 = .ok (.ireturn, 1) := by decide +kernel
theorem dX9_restore_10 : decode cX9_restore 10 = .ok (.aload_n 0, 1) := by decide +kernel
theorem dX9_restore_11 : decode cX9_restore 11 = .ok (.getfield 16, 3) := by decide +kernel
theorem dX9_restore_14 : decode cX9_restore 14 = .ok (.aload_n 0, 1) := by decide +kernel
theorem dX9_restore_15 : decode cX9_restore 15 = .ok (.getfield 22, 3) := by decide +kernel
theorem dX9_restore_18 : decode cX9_restore 18 = .ok (.invokevirtual 103, 3) := by decide +kernel
theorem dX9_restore_21 : decode cX9_restore 21 = .ok (.aload_n 0, 1) := by decide +kernel
theorem dX9_restore_22 : decode cX9_restore 22 = .ok (.invokevirtual 87, 3) := by decide +kernel
theorem dX9_restore_25 : decode cX9_restore 25 = .ok (.aload_n 0, 1) := by decide +kernel
theorem dX9_restore_26 : decode cX9_restore 26 = .ok (.getfield 10, 3) := by decide +kernel
theorem dX9_restore_29 : decode cX9_restore 29 = .ok (.invokevirtual 79, 3) := by decide +kernel
theorem dX9_restore_32 : decode cX9_restore 32 = .ok (.ireturn, 1) := by decide +kernel
set_option maxRecDepth 20000 in
theorem ggX9_entry_X4_has : GoodIn wsX9_entry wsX4_has := goodIn_r _ [7, 8, 27, 28] (by decide +kernel) (by decide +kernel)
set_option maxRecDepth 20000 in
theorem gX9_entry_X4_has : GoodIn wsX9_entry (wsV RX9 90 RX4 yX4_has wsX4_has) := goodIn_app (goodIn_of _ (by decide +kernel)) ggX9_entry_X4_has
set_option maxRecDepth 20000 in
theorem ggX9_entry_X4_at : GoodIn wsX9_entry wsX4_at := goodIn_r _ [12, 13, 14, 4, 5, 6, 7, 8, 27, 28] (by decide +kernel) (by decide +kernel)
set_option maxRecDepth 20000 in
theorem gX9_entry_X4_at : GoodIn wsX9_entry (wsV RX9 98 RX4 yX4_at wsX4_at) := goodIn_app (goodIn_of _ (by decide +kernel)) ggX9_entry_X4_at
theorem dX9_entry_0 : decode cX9_entry 0 = .ok (.aload_n 0, 1) := by decide +kernel
theorem dX9_entry_1 : decode cX9_entry 1 = .ok (.getfield 10, 3) := by decide +kernel
theorem dX9_entry_4 : decode cX9_entry 4 = .ok (.iload_n 1, 1) := by decide +kernel
theorem dX9_entry_5 : decode cX9_entry 5 = .ok (.invokevirtual 90, 3) := by decide +kernel
theorem dX9_entry_8 : decode cX9_entry 8 = .ok (.ifCond .eq 14, 3) := by decide +kernel
theorem dX9_entry_11 : decode cX9_entry 11 = .ok (.aload_n 0, 1) := by decide +kernel
theorem dX9_entry_12 : decode cX9_entry 12 = .ok (.getfield 10, 3) := by decide +kernel
theorem dX9_entry_15 : decode cX9_entry 15 = .ok (.iload_n 2, 1) := by decide +kernel
theorem dX9_entry_16 : decode cX9_entry 16 = .ok (.invokevirtual 90, 3) := by decide +kernel
theorem dX9_entry_19 : decode cX9_entry 19 = .ok (.ifCond .ne 6, 3) := by decide +kernel
theorem dX9_entry_22 : decode cX9_entry 22 = .ok (.ldc 94, 2) := by decide +kernel
theorem dX9_entry_24 : decode cX9_entry 24 = .ok (.ireturn, 1) := by decide +kernel
theorem dX9_entry_25 : decode cX9_entry 25 = .ok (.aload_n 0, 1) := by decide +kernel
theorem dX9_entry_26 : decode cX9_entry 26 = .ok (.getfield 10, 3) := by decide +kernel
theorem dX9_entry_29 : decode cX9_entry 29 = .ok (.iload_n 1, 1) := by decide +kernel
theorem dX9_entry_30 : decode cX9_entry 30 = .ok (.iload_n 2, 1) := by decide +kernel
theorem dX9_entry_31 : decode cX9_entry 31 = .ok (.invokevirtual 98, 3) := by decide +kernel
theorem dX9_entry_34 : decode cX9_entry 34 = .ok (.ireturn, 1) := by decide +kernel
set_option maxRecDepth 20000 in
theorem ggX9_total_X4_size : GoodIn wsX9_total wsX4_size := goodIn_r _ [9, 10, 94, 95] (by decide +kernel) (by decide +kernel)
set_option maxRecDepth 20000 in
theorem gX9_total_X4_size : GoodIn wsX9_total (wsV RX9 79 RX4 yX4_size wsX4_size) := goodIn_app (goodIn_of _ (by decide +kernel)) ggX9_total_X4_size
set_option maxRecDepth 20000 in
theorem ggX9_total_X4_countNotZero : GoodIn wsX9_total wsX4_countNotZero := goodIn_r _ [14, 10, 15, 16, 17, 8, 18, 19, 20, 21, 22, 23, 24, 25, 26, 27, 28, 29, 30, 31, 32, 33, 34, 94, 95] (by decide +kernel) (by decide +kernel)
set_option maxRecDepth 20000 in
theorem gX9_total_X4_countNotZero : GoodIn wsX9_total (wsV RX9 154 RX4 yX4_countNotZero wsX4_countNotZero) := goodIn_app (goodIn_of _ (by decide +kernel)) ggX9_total_X4_countNotZero
set_option maxRecDepth 20000 in
theorem ggX9_total_X4_sumOfAll : GoodIn wsX9_total wsX4_sumOfAll := goodIn_r _ [38, 10, 39, 40, 41, 8, 42, 19, 20, 21, 22, 23, 24, 25, 26, 27, 94, 95] (by decide +kernel) (by decide +kernel)
set_option maxRecDepth 20000 in
theorem gX9_total_X4_sumOfAll : GoodIn wsX9_total (wsV RX9 157 RX4 yX4_sumOfAll wsX4_sumOfAll) := goodIn_app (goodIn_of _ (by decide +kernel)) ggX9_total_X4_sumOfAll
set_option maxRecDepth 20000 in
theorem ggX9_total_X4_greatest : GoodIn wsX9_total wsX4_greatest := goodIn_r _ [46, 10, 47, 48, 49, 50, 19, 20, 21, 8, 22, 23, 24, 25, 26, 27, 94, 95] (by decide +kernel) (by decide +kernel)
set_option maxRecDepth 20000 in
theorem gX9_total_X4_greatest : GoodIn wsX9_total (wsV RX9 160 RX4 yX4_greatest wsX4_greatest) := goodIn_app (goodIn_of _ (by decide +kernel)) ggX9_total_X4_greatest
set_option maxRecDepth 20000 in
theorem ggX9_total_X4_least : GoodIn wsX9_total wsX4_least := goodIn_r _ [54, 10, 55, 56, 49, 57, 19, 20, 21, 8, 22, 23, 24, 25, 26, 27, 94, 95] (by decide +kernel) (by decide +kernel)
set_option maxRecDepth 20000 in
theorem gX9_total_X4_least : GoodIn wsX9_total (wsV RX9 163 RX4 yX4_least wsX4_least) := goodIn_app (goodIn_of _ (by decide +kernel)) ggX9_total_X4_least
set_option maxRecDepth 20000 in
theorem ggX9_total_X4_isSymmetric : GoodIn wsX9_total wsX4_isSymmetric := goodIn_r _ [61, 10, 19, 20, 21, 8, 22, 23, 24, 25, 26, 27, 94, 95] (by decide +kernel) (by decide +kernel)
set_option maxRecDepth 20000 in
theorem gX9_total_X4_isSymmetric : GoodIn wsX9_total (wsV RX9 166 RX4 yX4_isSymmetric wsX4_isSymmetric) := goodIn_app (goodIn_of _ (by decide +kernel)) ggX9_total_X4_isSymmetric
set_option maxRecDepth 20000 in
theorem ggX9_total_X4_hasLikeSums : GoodIn wsX9_total wsX4_hasLikeSums := goodIn_r _ [65, 10, 39, 40, 41, 8, 42, 19, 20, 21, 22, 23, 24, 25, 26, 27, 66, 67, 68, 69, 94, 95] (by decide +kernel) (by decide +kernel)
set_option maxRecDepth 20000 in
theorem gX9_total_X4_hasLikeSums : GoodIn wsX9_total (wsV RX9 169 RX4 yX4_hasLikeSums wsX4_hasLikeSums) := goodIn_app (goodIn_of _ (by decide +kernel)) ggX9_total_X4_hasLikeSums
set_option maxRecDepth 20000 in
theorem ggX9_total_X3_count : GoodIn wsX9_total wsX3_count := goodIn_r _ [74, 75, 96, 97, 98] (by decide +kernel) (by decide +kernel)
set_option maxRecDepth 20000 in
theorem gX9_total_X3_count : GoodIn wsX9_total (wsV RX9 148 RX3 yX3_count wsX3_count) := goodIn_app (goodIn_of _ (by decide +kernel)) ggX9_total_X3_count
set_option maxRecDepth 20000 in
theorem ggX9_total_X7_length : GoodIn wsX9_total wsX7_length := goodIn_r _ [80, 81, 99, 100] (by decide +kernel) (by decide +kernel)
set_option maxRecDepth 20000 in
theorem gX9_total_X7_length : GoodIn wsX9_total (wsV RX9 138 RX7 yX7_length wsX7_length) := goodIn_app (goodIn_of _ (by decide +kernel)) ggX9_total_X7_length
theorem dX9_total_0 : decode cX9_total 0 = .ok (.iload_n 1, 1) := by decide +kernel
theorem dX9_total_1 : decode cX9_total 1 = .ok (.tableswitch 139 0 8 #[51, 59, 67, 75, 83, 91, 107, 123, 131], 51) := by decide +kernel
theorem dX9_total_52 : decode cX9_total 52 = .ok (.aload_n 0, 1) := by decide +kernel
theorem dX9_total_53 : decode cX9_total 53 = .ok (.getfield 10, 3) := by decide +kernel
theorem dX9_total_56 : decode cX9_total 56 = .ok (.invokevirtual 79, 3) := by decide +kernel
theorem dX9_total_59 : decode cX9_total 59 = .ok (.ireturn, 1) := by decide +kernel
theorem dX9_total_60 : decode cX9_total 60 = .ok (.aload_n 0, 1) := by decide +kernel
theorem dX9_total_61 : decode cX9_total 61 = .ok (.getfield 10, 3) := by decide +kernel
theorem dX9_total_64 : decode cX9_total 64 = .ok (.invokevirtual 154, 3) := by decide +kernel
theorem dX9_total_67 : decode cX9_total 67 = .ok (.ireturn, 1) := by decide +kernel
theorem dX9_total_68 : decode cX9_total 68 = .ok (.aload_n 0, 1) := by decide +kernel
theorem dX9_total_69 : decode cX9_total 69 = .ok (.getfield 10, 3) := by decide +kernel
theorem dX9_total_72 : decode cX9_total 72 = .ok (.invokevirtual 157, 3) := by decide +kernel
theorem dX9_total_75 : decode cX9_total 75 = .ok (.ireturn, 1) := by decide +kernel
theorem dX9_total_76 : decode cX9_total 76 = .ok (.aload_n 0, 1) := by decide +kernel
theorem dX9_total_77 : decode cX9_total 77 = .ok (.getfield 10, 3) := by decide +kernel
theorem dX9_total_80 : decode cX9_total 80 = .ok (.invokevirtual 160, 3) := by decide +kernel
theorem dX9_total_83 : decode cX9_total 83 = .ok (.ireturn, 1) := by decide +kernel
theorem dX9_total_84 : decode cX9_total 84 = .ok (.aload_n 0, 1) := by decide +kernel
theorem dX9_total_85 : decode cX9_total 85 = .ok (.getfield 10, 3) := by decide +kernel
theorem dX9_total_88 : decode cX9_total 88 = .ok (.invokevirtual 163, 3) := by decide +kernel
theorem dX9_total_91 : decode cX9_total 91 = .ok (.ireturn, 1) := by decide +kernel
theorem dX9_total_92 : decode cX9_total 92 = .ok (.aload_n 0, 1) := by decide +kernel
theorem dX9_total_93 : decode cX9_total 93 = .ok (.getfield 10, 3) := by decide +kernel
theorem dX9_total_96 : decode cX9_total 96 = .ok (.invokevirtual 166, 3) := by decide +kernel
theorem dX9_total_99 : decode cX9_total 99 = .ok (.ifCond .eq 7, 3) := by decide +kernel
theorem dX9_total_102 : decode cX9_total 102 = .ok (.iconst 1, 1) := by decide +kernel
theorem dX9_total_103 : decode cX9_total 103 = .ok (.goto 4, 3) := by decide +kernel
theorem dX9_total_106 : decode cX9_total 106 = .ok (.iconst 0, 1) := by decide +kernel
theorem dX9_total_107 : decode cX9_total 107 = .ok (.ireturn, 1) := by decide +kernel
theorem dX9_total_108 : decode cX9_total 108 = .ok (.aload_n 0, 1) := by decide +kernel
theorem dX9_total_109 : decode cX9_total 109 = .ok (.getfield 10, 3) := by decide +kernel
theorem dX9_total_112 : decode cX9_total 112 = .ok (.invokevirtual 169, 3) := by decide +kernel
theorem dX9_total_115 : decode cX9_total 115 = .ok (.ifCond .eq 7, 3) := by decide +kernel
theorem dX9_total_118 : decode cX9_total 118 = .ok (.iconst 1, 1) := by decide +kernel
theorem dX9_total_119 : decode cX9_total 119 = .ok (.goto 4, 3) := by decide +kernel
theorem dX9_total_122 : decode cX9_total 122 = .ok (.iconst 0, 1) := by decide +kernel
theorem dX9_total_123 : decode cX9_total 123 = .ok (.ireturn, 1) := by decide +kernel
theorem dX9_total_124 : decode cX9_total 124 = .ok (.aload_n 0, 1) := by decide +kernel
theorem dX9_total_125 : decode cX9_total 125 = .ok (.getfield 32, 3) := by decide +kernel
theorem dX9_total_128 : decode cX9_total 128 = .ok (.invokevirtual 148, 3) := by decide +kernel
theorem dX9_total_131 : decode cX9_total 131 = .ok (.ireturn, 1) := by decide +kernel
theorem dX9_total_132 : decode cX9_total 132 = .ok (.aload_n 0, 1) := by decide +kernel
theorem dX9_total_133 : decode cX9_total 133 = .ok (.getfield 39, 3) := by decide +kernel
theorem dX9_total_136 : decode cX9_total 136 = .ok (.invokevirtual 138, 3) := by decide +kernel
theorem dX9_total_139 : decode cX9_total 139 = .ok (.ireturn, 1) := by decide +kernel
theorem dX9_total_140 : decode cX9_total 140 = .ok (.ldc 78, 2) := by decide +kernel
theorem dX9_total_142 : decode cX9_total 142 = .ok (.ireturn, 1) := by decide +kernel
set_option maxRecDepth 20000 in
theorem ggX9_lineSum_X4_has : GoodIn wsX9_lineSum wsX4_has := goodIn_r _ [7, 8, 35, 36] (by decide +kernel) (by decide +kernel)
set_option maxRecDepth 20000 in
theorem gX9_lineSum_X4_has : GoodIn wsX9_lineSum (wsV RX9 90 RX4 yX4_has wsX4_has) := goodIn_app (goodIn_of _ (by decide +kernel)) ggX9_lineSum_X4_has
set_option maxRecDepth 20000 in
theorem ggX9_lineSum_X4_sumOfColumn : GoodIn wsX9_lineSum wsX4_sumOfColumn := goodIn_r _ [12, 8, 13, 14, 15, 6, 16, 17, 18, 4, 5, 7, 35, 36] (by decide +kernel) (by decide +kernel)
set_option maxRecDepth 20000 in
theorem gX9_lineSum_X4_sumOfColumn : GoodIn wsX9_lineSum (wsV RX9 172 RX4 yX4_sumOfColumn wsX4_sumOfColumn) := goodIn_app (goodIn_of _ (by decide +kernel)) ggX9_lineSum_X4_sumOfColumn
set_option maxRecDepth 20000 in
theorem ggX9_lineSum_X4_sumOfRow : GoodIn wsX9_lineSum wsX4_sumOfRow := goodIn_r _ [22, 8, 13, 14, 15, 6, 16, 17, 18, 4, 5, 7, 35, 36] (by decide +kernel) (by decide +kernel)
set_option maxRecDepth 20000 in
theorem gX9_lineSum_X4_sumOfRow : GoodIn wsX9_lineSum (wsV RX9 175 RX4 yX4_sumOfRow wsX4_sumOfRow) := goodIn_app (goodIn_of _ (by decide +kernel)) ggX9_lineSum_X4_sumOfRow
theorem dX9_lineSum_0 : decode cX9_lineSum 0 = .ok (.aload_n 0, 1) := by decide +kernel
theorem dX9_lineSum_1 : decode cX9_lineSum 1 = .ok (.getfield 10, 3) := by decide +kernel
theorem dX9_lineSum_4 : decode cX9_lineSum 4 = .ok (.iload_n 1, 1) := by decide +kernel
theorem dX9_lineSum_5 : decode cX9_lineSum 5 = .ok (.invokevirtual 90, 3) := by decide +kernel
theorem dX9_lineSum_8 : decode cX9_lineSum 8 = .ok (.ifCond .ne 6, 3) := by decide +kernel
theorem dX9_lineSum_11 : decode cX9_lineSum 11 = .ok (.ldc 94, 2) := by decide +kernel
theorem dX9_lineSum_13 : decode cX9_lineSum 13 = .ok (.ireturn, 1) := by decide +kernel
theorem dX9_lineSum_14 : decode cX9_lineSum 14 = .ok (.iload_n 2, 1) := by decide +kernel
theorem dX9_lineSum_15 : decode cX9_lineSum 15 = .ok (.ifCond .eq 14, 3) := by decide +kernel
theorem dX9_lineSum_18 : decode cX9_lineSum 18 = .ok (.aload_n 0, 1) := by decide +kernel
theorem dX9_lineSum_19 : decode cX9_lineSum 19 = .ok (.getfield 10, 3) := by decide +kernel
theorem dX9_lineSum_22 : decode cX9_lineSum 22 = .ok (.iload_n 1, 1) := by decide +kernel
theorem dX9_lineSum_23 : decode cX9_lineSum 23 = .ok (.invokevirtual 172, 3) := by decide +kernel
theorem dX9_lineSum_26 : decode cX9_lineSum 26 = .ok (.goto 11, 3) := by decide +kernel
theorem dX9_lineSum_29 : decode cX9_lineSum 29 = .ok (.aload_n 0, 1) := by decide +kernel
theorem dX9_lineSum_30 : decode cX9_lineSum 30 = .ok (.getfield 10, 3) := by decide +kernel
theorem dX9_lineSum_33 : decode cX9_lineSum 33 = .ok (.iload_n 1, 1) := by decide +kernel
theorem dX9_lineSum_34 : decode cX9_lineSum 34 = .ok (.invokevirtual 175, 3) := by decide +kernel
theorem dX9_lineSum_37 : decode cX9_lineSum 37 = .ok (.ireturn, 1) := by decide +kernel
set_option maxRecDepth 20000 in
theorem ggX9_permanent_X4_allLines : GoodIn wsX9_permanent wsX4_allLines := goodIn_r _ [6, 7, 71, 72] (by decide +kernel) (by decide +kernel)
set_option maxRecDepth 20000 in
theorem gX9_permanent_X4_allLines : GoodIn wsX9_permanent (wsV RX9 178 RX4 yX4_allLines wsX4_allLines) := goodIn_app (goodIn_of _ (by decide +kernel)) ggX9_permanent_X4_allLines
set_option maxRecDepth 20000 in
theorem ggX9_permanent_X9_expand : GoodIn wsX9_permanent wsX9_expand := goodIn_r _ [12, 13, 14, 15, 16, 17, 18, 19, 20, 21, 22, 5, 23, 7, 24, 25, 26, 27, 28, 3, 4, 6, 29, 30, 31, 32, 33, 34, 35, 36, 37, 38, 39, 40, 41, 42, 43, 44, 45, 46, 47, 48, 49, 50, 51, 52, 53, 54, 55, 56, 57, 58, 59, 60, 61, 62, 63, 64, 65, 66, 67, 68, 69, 70, 73, 71, 72] (by decide +kernel) (by decide +kernel)
set_option maxRecDepth 20000 in
theorem gX9_permanent_X9_expand : GoodIn wsX9_permanent (wsV RX9 181 RX9 yX9_expand wsX9_expand) := goodIn_app (goodIn_of _ (by decide +kernel)) ggX9_permanent_X9_expand
theorem dX9_permanent_0 : decode cX9_permanent 0 = .ok (.aload_n 0, 1) := by decide +kernel
theorem dX9_permanent_1 : decode cX9_permanent 1 = .ok (.aload_n 0, 1) := by decide +kernel
theorem dX9_permanent_2 : decode cX9_permanent 2 = .ok (.getfield 10, 3) := by decide +kernel
theorem dX9_permanent_5 : decode cX9_permanent 5 = .ok (.aload_n 0, 1) := by decide +kernel
theorem dX9_permanent_6 : decode cX9_permanent 6 = .ok (.getfield 10, 3) := by decide +kernel
theorem dX9_permanent_9 : decode cX9_permanent 9 = .ok (.invokevirtual 178, 3) := by decide +kernel
theorem dX9_permanent_12 : decode cX9_permanent 12 = .ok (.aload_n 0, 1) := by decide +kernel
theorem dX9_permanent_13 : decode cX9_permanent 13 = .ok (.getfield 10, 3) := by decide +kernel
theorem dX9_permanent_16 : decode cX9_permanent 16 = .ok (.invokevirtual 178, 3) := by decide +kernel
theorem dX9_permanent_19 : decode cX9_permanent 19 = .ok (.invokevirtual 181, 3) := by decide +kernel
theorem dX9_permanent_22 : decode cX9_permanent 22 = .ok (.lreturn, 1) := by decide +kernel
set_option maxRecDepth 20000 in
theorem ggX9_determinant_X0_begin : GoodIn wsX9_determinant wsX0_begin := goodIn_r _ [7, 8, 66] (by decide +kernel) (by decide +kernel)
set_option maxRecDepth 20000 in
theorem gX9_determinant_X0_begin : GoodIn wsX9_determinant (wsV RX9 185 RX0 yX0_begin wsX0_begin) := goodIn_app (goodIn_of _ (by decide +kernel)) ggX9_determinant_X0_begin
set_option maxRecDepth 20000 in
theorem ggX9_determinant_X4_size : GoodIn wsX9_determinant wsX4_size := goodIn_r _ [13, 14, 67, 68] (by decide +kernel) (by decide +kernel)
set_option maxRecDepth 20000 in
theorem gX9_determinant_X4_size : GoodIn wsX9_determinant (wsV RX9 79 RX4 yX4_size wsX4_size) := goodIn_app (goodIn_of _ (by decide +kernel)) ggX9_determinant_X4_size
set_option maxRecDepth 20000 in
theorem ggX9_determinant_X0_takeRow : GoodIn wsX9_determinant wsX0_takeRow := goodIn_r _ [18, 19, 20, 21, 12, 22, 14, 23, 24, 25, 6, 26, 27, 10, 11, 13, 28, 29, 30, 31, 8, 32, 33, 34, 35, 36, 37, 38, 39, 40, 41, 42, 43, 44, 45, 46, 47, 48, 49, 50, 51, 67, 68, 66] (by decide +kernel) (by decide +kernel)
set_option maxRecDepth 20000 in
theorem gX9_determinant_X0_takeRow : GoodIn wsX9_determinant (wsV RX9 188 RX0 yX0_takeRow wsX0_takeRow) := goodIn_app (goodIn_of _ (by decide +kernel)) ggX9_determinant_X0_takeRow
set_option maxRecDepth 20000 in
theorem ggX9_determinant_X4_allLines : GoodIn wsX9_determinant wsX4_allLines := goodIn_r _ [22, 14, 67, 68] (by decide +kernel) (by decide +kernel)
set_option maxRecDepth 20000 in
theorem gX9_determinant_X4_allLines : GoodIn wsX9_determinant (wsV RX9 178 RX4 yX4_allLines wsX4_allLines) := goodIn_app (goodIn_of _ (by decide +kernel)) ggX9_determinant_X4_allLines
set_option maxRecDepth 20000 in
theorem ggX9_determinant_X0_of : GoodIn wsX9_determinant wsX0_of := goodIn_r _ [31, 8, 66] (by decide +kernel) (by decide +kernel)
set_option maxRecDepth 20000 in
theorem gX9_determinant_X0_of : GoodIn wsX9_determinant (wsV RX9 192 RX0 yX0_of wsX0_of) := goodIn_app (goodIn_of _ (by decide +kernel)) ggX9_determinant_X0_of
theorem dX9_determinant_0 : decode cX9_determinant 0 = .ok (.aload_n 0, 1) := by decide +kernel
theorem dX9_determinant_1 : decode cX9_determinant 1 = .ok (.getfield 53, 3) := by decide +kernel
theorem dX9_determinant_4 : decode cX9_determinant 4 = .ok (.invokevirtual 185, 3) := by decide +kernel
theorem dX9_determinant_7 : decode cX9_determinant 7 = .ok (.iconst 0, 1) := by decide +kernel
theorem dX9_determinant_8 : decode cX9_determinant 8 = .ok (.istore_n 1, 1) := by decide +kernel
theorem dX9_determinant_9 : decode cX9_determinant 9 = .ok (.iload_n 1, 1) := by decide +kernel
theorem dX9_determinant_10 : decode cX9_determinant 10 = .ok (.aload_n 0, 1) := by decide +kernel
theorem dX9_determinant_11 : decode cX9_determinant 11 = .ok (.getfield 10, 3) := by decide +kernel
theorem dX9_determinant_14 : decode cX9_determinant 14 = .ok (.invokevirtual 79, 3) := by decide +kernel
theorem dX9_determinant_17 : decode cX9_determinant 17 = .ok (.if_icmp .ge 22, 3) := by decide +kernel
theorem dX9_determinant_20 : decode cX9_determinant 20 = .ok (.aload_n 0, 1) := by decide +kernel
theorem dX9_determinant_21 : decode cX9_determinant 21 = .ok (.getfield 53, 3) := by decide +kernel
theorem dX9_determinant_24 : decode cX9_determinant 24 = .ok (.aload_n 0, 1) := by decide +kernel
theorem dX9_determinant_25 : decode cX9_determinant 25 = .ok (.getfield 10, 3) := by decide +kernel
theorem dX9_determinant_28 : decode cX9_determinant 28 = .ok (.iload_n 1, 1) := by decide +kernel
theorem dX9_determinant_29 : decode cX9_determinant 29 = .ok (.iconst 1, 1) := by decide +kernel
theorem dX9_determinant_30 : decode cX9_determinant 30 = .ok (.invokevirtual 188, 3) := by decide +kernel
theorem dX9_determinant_33 : decode cX9_determinant 33 = .ok (.iinc 1 1, 3) := by decide +kernel
theorem dX9_determinant_36 : decode cX9_determinant 36 = .ok (.goto (-27), 3) := by decide +kernel
theorem dX9_determinant_39 : decode cX9_determinant 39 = .ok (.aload_n 0, 1) := by decide +kernel
theorem dX9_determinant_40 : decode cX9_determinant 40 = .ok (.getfield 53, 3) := by decide +kernel
theorem dX9_determinant_43 : decode cX9_determinant 43 = .ok (.aload_n 0, 1) := by decide +kernel
theorem dX9_determinant_44 : decode cX9_determinant 44 = .ok (.getfield 10, 3) := by decide +kernel
theorem dX9_determinant_47 : decode cX9_determinant 47 = .ok (.invokevirtual 178, 3) := by decide +kernel
theorem dX9_determinant_50 : decode cX9_determinant 50 = .ok (.invokevirtual 192, 3) := by decide +kernel
theorem dX9_determinant_53 : decode cX9_determinant 53 = .ok (.lreturn, 1) := by decide +kernel
set_option maxRecDepth 20000 in
theorem ggX9_minor_X4_has : GoodIn wsX9_minor wsX4_has := goodIn_r _ [7, 8, 77, 78] (by decide +kernel) (by decide +kernel)
set_option maxRecDepth 20000 in
theorem gX9_minor_X4_has : GoodIn wsX9_minor (wsV RX9 90 RX4 yX4_has wsX4_has) := goodIn_app (goodIn_of _ (by decide +kernel)) ggX9_minor_X4_has
set_option maxRecDepth 20000 in
theorem ggX9_minor_X9_expandWithout : GoodIn wsX9_minor wsX9_expandWithout := goodIn_r _ [13, 14, 15, 16, 6, 17, 8, 18, 19, 20, 12, 21, 22, 23, 24, 25, 26, 27, 28, 29, 30, 31, 32, 33, 34, 35, 36, 37, 38, 39, 40, 41, 42, 43, 44, 45, 46, 47, 48, 49, 50, 51, 52, 4, 5, 7, 53, 54, 55, 56, 57, 58, 59, 60, 61, 62, 63, 64, 77, 78, 65, 66, 67, 68, 69, 70, 71, 72, 73, 74, 75, 76, 79] (by decide +kernel) (by decide +kernel)
set_option maxRecDepth 20000 in
theorem gX9_minor_X9_expandWithout : GoodIn wsX9_minor (wsV RX9 198 RX9 yX9_expandWithout wsX9_expandWithout) := goodIn_app (goodIn_of _ (by decide +kernel)) ggX9_minor_X9_expandWithout
theorem dX9_minor_0 : decode cX9_minor 0 = .ok (.aload_n 0, 1) := by decide +kernel
theorem dX9_minor_1 : decode cX9_minor 1 = .ok (.getfield 10, 3) := by decide +kernel
theorem dX9_minor_4 : decode cX9_minor 4 = .ok (.iload_n 1, 1) := by decide +kernel
theorem dX9_minor_5 : decode cX9_minor 5 = .ok (.invokevirtual 90, 3) := by decide +kernel
theorem dX9_minor_8 : decode cX9_minor 8 = .ok (.ifCond .eq 14, 3) := by decide +kernel
theorem dX9_minor_11 : decode cX9_minor 11 = .ok (.aload_n 0, 1) := by decide +kernel
theorem dX9_minor_12 : decode cX9_minor 12 = .ok (.getfield 10, 3) := by decide +kernel
theorem dX9_minor_15 : decode cX9_minor 15 = .ok (.iload_n 2, 1) := by decide +kernel
theorem dX9_minor_16 : decode cX9_minor 16 = .ok (.invokevirtual 90, 3) := by decide +kernel
theorem dX9_minor_19 : decode cX9_minor 19 = .ok (.ifCond .ne 7, 3) := by decide +kernel
theorem dX9_minor_22 : decode cX9_minor 22 = .ok (.ldc2_w 196, 3) := by decide +kernel
theorem dX9_minor_25 : decode cX9_minor 25 = .ok (.lreturn, 1) := by decide +kernel
theorem dX9_minor_26 : decode cX9_minor 26 = .ok (.aload_n 0, 1) := by decide +kernel
theorem dX9_minor_27 : decode cX9_minor 27 = .ok (.aload_n 0, 1) := by decide +kernel
theorem dX9_minor_28 : decode cX9_minor 28 = .ok (.getfield 10, 3) := by decide +kernel
theorem dX9_minor_31 : decode cX9_minor 31 = .ok (.iload_n 1, 1) := by decide +kernel
theorem dX9_minor_32 : decode cX9_minor 32 = .ok (.iload_n 2, 1) := by decide +kernel
theorem dX9_minor_33 : decode cX9_minor 33 = .ok (.invokevirtual 198, 3) := by decide +kernel
theorem dX9_minor_36 : decode cX9_minor 36 = .ok (.lreturn, 1) := by decide +kernel
set_option maxRecDepth 20000 in
theorem ggX9_permanentOf_X4_allLines : GoodIn wsX9_permanentOf wsX4_allLines := goodIn_r _ [8, 9, 74, 75] (by decide +kernel) (by decide +kernel)
set_option maxRecDepth 20000 in
theorem gX9_permanentOf_X4_allLines : GoodIn wsX9_permanentOf (wsV RX9 178 RX4 yX4_allLines wsX4_allLines) := goodIn_app (goodIn_of _ (by decide +kernel)) ggX9_permanentOf_X4_allLines
set_option maxRecDepth 20000 in
theorem ggX9_permanentOf_J6_bitCount_0f7a4 : GoodIn wsX9_permanentOf wsJ6_bitCount_0f7a4 := goodIn_r _ [13, 14, 15, 16] (by decide +kernel) (by decide +kernel)
set_option maxRecDepth 20000 in
theorem gX9_permanentOf_J6_bitCount_0f7a4 : GoodIn wsX9_permanentOf (va_wsS RX9 201 yJ6_bitCount_0f7a4 wsJ6_bitCount_0f7a4) := goodIn_app (goodIn_of _ (by decide +kernel)) ggX9_permanentOf_J6_bitCount_0f7a4
set_option maxRecDepth 20000 in
theorem ggX9_permanentOf_X9_expand : GoodIn wsX9_permanentOf wsX9_expand := goodIn_r _ [21, 22, 23, 24, 25, 26, 27, 28, 29, 30, 31, 7, 32, 9, 33, 34, 35, 36, 37, 5, 6, 8, 38, 39, 40, 41, 42, 43, 44, 45, 46, 47, 48, 49, 50, 51, 52, 53, 54, 55, 56, 11, 12, 13, 14, 15, 16, 57, 58, 59, 60, 61, 62, 63, 64, 65, 66, 67, 68, 69, 70, 71, 72, 73, 76, 74, 75] (by decide +kernel) (by decide +kernel)
set_option maxRecDepth 20000 in
theorem gX9_permanentOf_X9_expand : GoodIn wsX9_permanentOf (wsV RX9 181 RX9 yX9_expand wsX9_expand) := goodIn_app (goodIn_of _ (by decide +kernel)) ggX9_permanentOf_X9_expand
theorem dX9_permanentOf_0 : decode cX9_permanentOf 0 = .ok (.aload_n 0, 1) := by decide +kernel
theorem dX9_permanentOf_1 : decode cX9_permanentOf 1 = .ok (.getfield 10, 3) := by decide +kernel
theorem dX9_permanentOf_4 : decode cX9_permanentOf 4 = .ok (.invokevirtual 178, 3) := by decide +kernel
theorem dX9_permanentOf_7 : decode cX9_permanentOf 7 = .ok (.iconst (-1), 1) := by decide +kernel
theorem dX9_permanentOf_8 : decode cX9_permanentOf 8 = .ok (.ixor, 1) := by decide +kernel
theorem dX9_permanentOf_9 : decode cX9_permanentOf 9 = .ok (.istore_n 3, 1) := by decide +kernel
theorem dX9_permanentOf_10 : decode cX9_permanentOf 10 = .ok (.iload_n 1, 1) := by decide +kernel
theorem dX9_permanentOf_11 : decode cX9_permanentOf 11 = .ok (.iload_n 3, 1) := by decide +kernel
theorem dX9_permanentOf_12 : decode cX9_permanentOf 12 = .ok (.iand, 1) := by decide +kernel
theorem dX9_permanentOf_13 : decode cX9_permanentOf 13 = .ok (.ifCond .ne 9, 3) := by decide +kernel
theorem dX9_permanentOf_16 : decode cX9_permanentOf 16 = .ok (.iload_n 2, 1) := by decide +kernel
theorem dX9_permanentOf_17 : decode cX9_permanentOf 17 = .ok (.iload_n 3, 1) := by decide +kernel
theorem dX9_permanentOf_18 : decode cX9_permanentOf 18 = .ok (.iand, 1) := by decide +kernel
theorem dX9_permanentOf_19 : decode cX9_permanentOf 19 = .ok (.ifCond .eq 7, 3) := by decide +kernel
theorem dX9_permanentOf_22 : decode cX9_permanentOf 22 = .ok (.ldc2_w 196, 3) := by decide +kernel
theorem dX9_permanentOf_25 : decode cX9_permanentOf 25 = .ok (.lreturn, 1) := by decide +kernel
theorem dX9_permanentOf_26 : decode cX9_permanentOf 26 = .ok (.iload_n 1, 1) := by decide +kernel
theorem dX9_permanentOf_27 : decode cX9_permanentOf 27 = .ok (.invokestatic 201, 3) := by decide +kernel
theorem dX9_permanentOf_30 : decode cX9_permanentOf 30 = .ok (.iload_n 2, 1) := by decide +kernel
theorem dX9_permanentOf_31 : decode cX9_permanentOf 31 = .ok (.invokestatic 201, 3) := by decide +kernel
theorem dX9_permanentOf_34 : decode cX9_permanentOf 34 = .ok (.if_icmp .eq 7, 3) := by decide +kernel
theorem dX9_permanentOf_37 : decode cX9_permanentOf 37 = .ok (.ldc2_w 206, 3) := by decide +kernel
theorem dX9_permanentOf_40 : decode cX9_permanentOf 40 = .ok (.lreturn, 1) := by decide +kernel
theorem dX9_permanentOf_41 : decode cX9_permanentOf 41 = .ok (.aload_n 0, 1) := by decide +kernel
theorem dX9_permanentOf_42 : decode cX9_permanentOf 42 = .ok (.aload_n 0, 1) := by decide +kernel
theorem dX9_permanentOf_43 : decode cX9_permanentOf 43 = .ok (.getfield 10, 3) := by decide +kernel
theorem dX9_permanentOf_46 : decode cX9_permanentOf 46 = .ok (.iload_n 1, 1) := by decide +kernel
theorem dX9_permanentOf_47 : decode cX9_permanentOf 47 = .ok (.iload_n 2, 1) := by decide +kernel
theorem dX9_permanentOf_48 : decode cX9_permanentOf 48 = .ok (.invokevirtual 181, 3) := by decide +kernel
theorem dX9_permanentOf_51 : decode cX9_permanentOf 51 = .ok (.lreturn, 1) := by decide +kernel
set_option maxRecDepth 20000 in
theorem ggX9_sumOf_X4_size : GoodIn wsX9_sumOf wsX4_size := goodIn_r _ [7, 8, 74, 75] (by decide +kernel) (by decide +kernel)
set_option maxRecDepth 20000 in
theorem gX9_sumOf_X4_size : GoodIn wsX9_sumOf (wsV RX9 79 RX4 yX4_size wsX4_size) := goodIn_app (goodIn_of _ (by decide +kernel)) ggX9_sumOf_X4_size
set_option maxRecDepth 20000 in
theorem ggX9_sumOf_X9_sumOfExpansions : GoodIn wsX9_sumOf wsX9_sumOfExpansions := goodIn_r _ [13, 14, 15, 16, 17, 18, 19, 20, 3, 4, 5, 6, 7, 8, 21, 22, 23, 24, 25, 26, 27, 28, 29, 30, 31, 32, 33, 34, 35, 36, 37, 38, 39, 40, 41, 42, 43, 44, 45, 46, 47, 48, 49, 50, 51, 52, 53, 54, 55, 56, 57, 58, 59, 60, 61, 62, 63, 64, 65, 66, 67, 68, 69, 70, 71, 72, 73, 76, 74, 75] (by decide +kernel) (by decide +kernel)
set_option maxRecDepth 20000 in
theorem gX9_sumOf_X9_sumOfExpansions : GoodIn wsX9_sumOf (wsV RX9 210 RX9 yX9_sumOfExpansions wsX9_sumOfExpansions) := goodIn_app (goodIn_of _ (by decide +kernel)) ggX9_sumOf_X9_sumOfExpansions
theorem dX9_sumOf_0 : decode cX9_sumOf 0 = .ok (.iload_n 1, 1) := by decide +kernel
theorem dX9_sumOf_1 : decode cX9_sumOf 1 = .ok (.ifCond .lt 14, 3) := by decide +kernel
theorem dX9_sumOf_4 : decode cX9_sumOf 4 = .ok (.iload_n 1, 1) := by decide +kernel
theorem dX9_sumOf_5 : decode cX9_sumOf 5 = .ok (.aload_n 0, 1) := by decide +kernel
theorem dX9_sumOf_6 : decode cX9_sumOf 6 = .ok (.getfield 10, 3) := by decide +kernel
theorem dX9_sumOf_9 : decode cX9_sumOf 9 = .ok (.invokevirtual 79, 3) := by decide +kernel
theorem dX9_sumOf_12 : decode cX9_sumOf 12 = .ok (.if_icmp .le 7, 3) := by decide +kernel
theorem dX9_sumOf_15 : decode cX9_sumOf 15 = .ok (.ldc2_w 208, 3) := by decide +kernel
theorem dX9_sumOf_18 : decode cX9_sumOf 18 = .ok (.lreturn, 1) := by decide +kernel
theorem dX9_sumOf_19 : decode cX9_sumOf 19 = .ok (.aload_n 0, 1) := by decide +kernel
theorem dX9_sumOf_20 : decode cX9_sumOf 20 = .ok (.aload_n 0, 1) := by decide +kernel
theorem dX9_sumOf_21 : decode cX9_sumOf 21 = .ok (.getfield 10, 3) := by decide +kernel
theorem dX9_sumOf_24 : decode cX9_sumOf 24 = .ok (.iload_n 1, 1) := by decide +kernel
theorem dX9_sumOf_25 : decode cX9_sumOf 25 = .ok (.invokevirtual 210, 3) := by decide +kernel
theorem dX9_sumOf_28 : decode cX9_sumOf 28 = .ok (.lreturn, 1) := by decide +kernel
set_option maxRecDepth 20000 in
theorem ggX9_wholeDiagonals_X2_countWhole : GoodIn wsX9_wholeDiagonals wsX2_countWhole := goodIn_r _ [7, 8, 9, 10, 11, 12, 13, 14, 15, 16, 6, 17, 18, 19, 20, 21, 22, 23, 24, 25, 26, 27, 28, 29, 30, 31, 32, 33, 34, 35, 36, 37, 38, 39, 40, 41, 42, 43, 44, 45, 46, 60, 61, 62] (by decide +kernel) (by decide +kernel)
set_option maxRecDepth 20000 in
theorem gX9_wholeDiagonals_X2_countWhole : GoodIn wsX9_wholeDiagonals (wsV RX9 214 RX2 yX2_countWhole wsX2_countWhole) := goodIn_app (goodIn_of _ (by decide +kernel)) ggX9_wholeDiagonals_X2_countWhole
set_option maxRecDepth 20000 in
theorem ggX9_wholeDiagonals_X2_of : GoodIn wsX9_wholeDiagonals wsX2_of := goodIn_r _ [46, 18, 62] (by decide +kernel) (by decide +kernel)
set_option maxRecDepth 20000 in
theorem gX9_wholeDiagonals_X2_of : GoodIn wsX9_wholeDiagonals (wsV RX9 217 RX2 yX2_of wsX2_of) := goodIn_app (goodIn_of _ (by decide +kernel)) ggX9_wholeDiagonals_X2_of
theorem dX9_wholeDiagonals_0 : decode cX9_wholeDiagonals 0 = .ok (.aload_n 0, 1) := by decide +kernel
theorem dX9_wholeDiagonals_1 : decode cX9_wholeDiagonals 1 = .ok (.getfield 60, 3) := by decide +kernel
theorem dX9_wholeDiagonals_4 : decode cX9_wholeDiagonals 4 = .ok (.aload_n 0, 1) := by decide +kernel
theorem dX9_wholeDiagonals_5 : decode cX9_wholeDiagonals 5 = .ok (.getfield 10, 3) := by decide +kernel
theorem dX9_wholeDiagonals_8 : decode cX9_wholeDiagonals 8 = .ok (.invokevirtual 214, 3) := by decide +kernel
theorem dX9_wholeDiagonals_11 : decode cX9_wholeDiagonals 11 = .ok (.aload_n 0, 1) := by decide +kernel
theorem dX9_wholeDiagonals_12 : decode cX9_wholeDiagonals 12 = .ok (.getfield 60, 3) := by decide +kernel
theorem dX9_wholeDiagonals_15 : decode cX9_wholeDiagonals 15 = .ok (.iconst 0, 1) := by decide +kernel
theorem dX9_wholeDiagonals_16 : decode cX9_wholeDiagonals 16 = .ok (.invokevirtual 217, 3) := by decide +kernel
theorem dX9_wholeDiagonals_19 : decode cX9_wholeDiagonals 19 = .ok (.ireturn, 1) := by decide +kernel
set_option maxRecDepth 20000 in
theorem ggX9_wholeDiagonal_X2_countWhole : GoodIn wsX9_wholeDiagonal wsX2_countWhole := goodIn_r _ [9, 10, 11, 12, 13, 14, 15, 16, 17, 18, 8, 19, 20, 21, 22, 23, 24, 25, 26, 27, 28, 29, 30, 31, 32, 33, 34, 35, 36, 37, 38, 39, 40, 41, 42, 43, 44, 45, 46, 47, 48, 66, 67, 68] (by decide +kernel) (by decide +kernel)
set_option maxRecDepth 20000 in
theorem gX9_wholeDiagonal_X2_countWhole : GoodIn wsX9_wholeDiagonal (wsV RX9 214 RX2 yX2_countWhole wsX2_countWhole) := goodIn_app (goodIn_of _ (by decide +kernel)) ggX9_wholeDiagonal_X2_countWhole
set_option maxRecDepth 20000 in
theorem ggX9_wholeDiagonal_X2_of : GoodIn wsX9_wholeDiagonal wsX2_of := goodIn_r _ [48, 20, 68] (by decide +kernel) (by decide +kernel)
set_option maxRecDepth 20000 in
theorem gX9_wholeDiagonal_X2_of : GoodIn wsX9_wholeDiagonal (wsV RX9 217 RX2 yX2_of wsX2_of) := goodIn_app (goodIn_of _ (by decide +kernel)) ggX9_wholeDiagonal_X2_of
set_option maxRecDepth 20000 in
theorem ggX9_wholeDiagonal_X2_diagonalOfRank : GoodIn wsX9_wholeDiagonal wsX2_diagonalOfRank := goodIn_r _ [53, 28, 29, 30, 13, 31, 15, 32, 33, 34, 8, 35, 36, 37, 38, 39, 40, 41, 42, 43, 44, 45, 46, 47, 48, 20, 66, 67, 68] (by decide +kernel) (by decide +kernel)
set_option maxRecDepth 20000 in
theorem gX9_wholeDiagonal_X2_diagonalOfRank : GoodIn wsX9_wholeDiagonal (wsV RX9 219 RX2 yX2_diagonalOfRank wsX2_diagonalOfRank) := goodIn_app (goodIn_of _ (by decide +kernel)) ggX9_wholeDiagonal_X2_diagonalOfRank
theorem dX9_wholeDiagonal_0 : decode cX9_wholeDiagonal 0 = .ok (.iload_n 1, 1) := by decide +kernel
theorem dX9_wholeDiagonal_1 : decode cX9_wholeDiagonal 1 = .ok (.ifCond .ge 6, 3) := by decide +kernel
theorem dX9_wholeDiagonal_4 : decode cX9_wholeDiagonal 4 = .ok (.ldc 78, 2) := by decide +kernel
theorem dX9_wholeDiagonal_6 : decode cX9_wholeDiagonal 6 = .ok (.ireturn, 1) := by decide +kernel
theorem dX9_wholeDiagonal_7 : decode cX9_wholeDiagonal 7 = .ok (.aload_n 0, 1) := by decide +kernel
theorem dX9_wholeDiagonal_8 : decode cX9_wholeDiagonal 8 = .ok (.getfield 60, 3) := by decide +kernel
theorem dX9_wholeDiagonal_11 : decode cX9_wholeDiagonal 11 = .ok (.aload_n 0, 1) := by decide +kernel
theorem dX9_wholeDiagonal_12 : decode cX9_wholeDiagonal 12 = .ok (.getfield 10, 3) := by decide +kernel
theorem dX9_wholeDiagonal_15 : decode cX9_wholeDiagonal 15 = .ok (.invokevirtual 214, 3) := by decide +kernel
theorem dX9_wholeDiagonal_18 : decode cX9_wholeDiagonal 18 = .ok (.iload_n 1, 1) := by decide +kernel
theorem dX9_wholeDiagonal_19 : decode cX9_wholeDiagonal 19 = .ok (.aload_n 0, 1) := by decide +kernel
theorem dX9_wholeDiagonal_20 : decode cX9_wholeDiagonal 20 = .ok (.getfield 60, 3) := by decide +kernel
theorem dX9_wholeDiagonal_23 : decode cX9_wholeDiagonal 23 = .ok (.iconst 0, 1) := by decide +kernel
theorem dX9_wholeDiagonal_24 : decode cX9_wholeDiagonal 24 = .ok (.invokevirtual 217, 3) := by decide +kernel
theorem dX9_wholeDiagonal_27 : decode cX9_wholeDiagonal 27 = .ok (.if_icmp .lt 6, 3) := by decide +kernel
theorem dX9_wholeDiagonal_30 : decode cX9_wholeDiagonal 30 = .ok (.ldc 102, 2) := by decide +kernel
theorem dX9_wholeDiagonal_32 : decode cX9_wholeDiagonal 32 = .ok (.ireturn, 1) := by decide +kernel
theorem dX9_wholeDiagonal_33 : decode cX9_wholeDiagonal 33 = .ok (.aload_n 0, 1) := by decide +kernel
theorem dX9_wholeDiagonal_34 : decode cX9_wholeDiagonal 34 = .ok (.getfield 60, 3) := by decide +kernel
theorem dX9_wholeDiagonal_37 : decode cX9_wholeDiagonal 37 = .ok (.aload_n 0, 1) := by decide +kernel
theorem dX9_wholeDiagonal_38 : decode cX9_wholeDiagonal 38 = .ok (.getfield 10, 3) := by decide +kernel
theorem dX9_wholeDiagonal_41 : decode cX9_wholeDiagonal 41 = .ok (.iload_n 1, 1) := by decide +kernel
theorem dX9_wholeDiagonal_42 : decode cX9_wholeDiagonal 42 = .ok (.invokevirtual 219, 3) := by decide +kernel
theorem dX9_wholeDiagonal_45 : decode cX9_wholeDiagonal 45 = .ok (.ireturn, 1) := by decide +kernel
set_option maxRecDepth 20000 in
theorem ggX9_diagonalsThrough_X4_has : GoodIn wsX9_diagonalsThrough wsX4_has := goodIn_r _ [8, 9, 96, 97] (by decide +kernel) (by decide +kernel)
set_option maxRecDepth 20000 in
theorem gX9_diagonalsThrough_X4_has : GoodIn wsX9_diagonalsThrough (wsV RX9 90 RX4 yX4_has wsX4_has) := goodIn_app (goodIn_of _ (by decide +kernel)) ggX9_diagonalsThrough_X4_has
set_option maxRecDepth 20000 in
theorem ggX9_diagonalsThrough_X4_at : GoodIn wsX9_diagonalsThrough wsX4_at := goodIn_r _ [13, 14, 15, 5, 6, 7, 8, 9, 96, 97] (by decide +kernel) (by decide +kernel)
set_option maxRecDepth 20000 in
theorem gX9_diagonalsThrough_X4_at : GoodIn wsX9_diagonalsThrough (wsV RX9 98 RX4 yX4_at wsX4_at) := goodIn_app (goodIn_of _ (by decide +kernel)) ggX9_diagonalsThrough_X4_at
set_option maxRecDepth 20000 in
theorem ggX9_diagonalsThrough_X4_markNotZero : GoodIn wsX9_diagonalsThrough wsX4_markNotZero := goodIn_r _ [19, 9, 20, 21, 22, 7, 23, 14, 24, 25, 26, 27, 28, 11, 12, 13, 15, 5, 6, 8, 29, 30, 31, 32, 96, 97] (by decide +kernel) (by decide +kernel)
set_option maxRecDepth 20000 in
theorem gX9_diagonalsThrough_X4_markNotZero : GoodIn wsX9_diagonalsThrough (wsV RX9 223 RX4 yX4_markNotZero wsX4_markNotZero) := goodIn_app (goodIn_of _ (by decide +kernel)) ggX9_diagonalsThrough_X4_markNotZero
set_option maxRecDepth 20000 in
theorem ggX9_diagonalsThrough_X9_expandWithout : GoodIn wsX9_diagonalsThrough wsX9_expandWithout := goodIn_r _ [37, 38, 39, 40, 7, 41, 9, 42, 43, 44, 36, 45, 46, 47, 48, 49, 50, 51, 52, 53, 54, 55, 56, 57, 58, 59, 60, 61, 62, 63, 64, 65, 66, 67, 68, 69, 70, 71, 11, 12, 13, 14, 15, 5, 6, 8, 72, 73, 74, 75, 76, 77, 78, 79, 80, 81, 82, 83, 96, 97, 84, 85, 86, 87, 88, 89, 90, 91, 92, 93, 94, 95, 98] (by decide +kernel) (by decide +kernel)
set_option maxRecDepth 20000 in
theorem gX9_diagonalsThrough_X9_expandWithout : GoodIn wsX9_diagonalsThrough (wsV RX9 198 RX9 yX9_expandWithout wsX9_expandWithout) := goodIn_app (goodIn_of _ (by decide +kernel)) ggX9_diagonalsThrough_X9_expandWithout
theorem dX9_diagonalsThrough_0 : decode cX9_diagonalsThrough 0 = .ok (.aload_n 0, 1) := by decide +kernel
theorem dX9_diagonalsThrough_1 : decode cX9_diagonalsThrough 1 = .ok (.getfield 10, 3) := by decide +kernel
theorem dX9_diagonalsThrough_4 : decode cX9_diagonalsThrough 4 = .ok (.iload_n 1, 1) := by decide +kernel
theorem dX9_diagonalsThrough_5 : decode cX9_diagonalsThrough 5 = .ok (.invokevirtual 90, 3) := by decide +kernel
theorem dX9_diagonalsThrough_8 : decode cX9_diagonalsThrough 8 = .ok (.ifCond .eq 14, 3) := by decide +kernel
theorem dX9_diagonalsThrough_11 : decode cX9_diagonalsThrough 11 = .ok (.aload_n 0, 1) := by decide +kernel
theorem dX9_diagonalsThrough_12 : decode cX9_diagonalsThrough 12 = .ok (.getfield 10, 3) := by decide +kernel
theorem dX9_diagonalsThrough_15 : decode cX9_diagonalsThrough 15 = .ok (.iload_n 2, 1) := by decide +kernel
theorem dX9_diagonalsThrough_16 : decode cX9_diagonalsThrough 16 = .ok (.invokevirtual 90, 3) := by decide +kernel
theorem dX9_diagonalsThrough_19 : decode cX9_diagonalsThrough 19 = .ok (.ifCond .ne 6, 3) := by decide +kernel
theorem dX9_diagonalsThrough_22 : decode cX9_diagonalsThrough 22 = .ok (.ldc 94, 2) := by decide +kernel
theorem dX9_diagonalsThrough_24 : decode cX9_diagonalsThrough 24 = .ok (.ireturn, 1) := by decide +kernel
theorem dX9_diagonalsThrough_25 : decode cX9_diagonalsThrough 25 = .ok (.aload_n 0, 1) := by decide +kernel
theorem dX9_diagonalsThrough_26 : decode cX9_diagonalsThrough 26 = .ok (.getfield 10, 3) := by decide +kernel
theorem dX9_diagonalsThrough_29 : decode cX9_diagonalsThrough 29 = .ok (.iload_n 1, 1) := by decide +kernel
theorem dX9_diagonalsThrough_30 : decode cX9_diagonalsThrough 30 = .ok (.iload_n 2, 1) := by decide +kernel
theorem dX9_diagonalsThrough_31 : decode cX9_diagonalsThrough 31 = .ok (.invokevirtual 98, 3) := by decide +kernel
theorem dX9_diagonalsThrough_34 : decode cX9_diagonalsThrough 34 = .ok (.ifCond .ne 5, 3) := by decide +kernel
theorem dX9_diagonalsThrough_37 : decode cX9_diagonalsThrough 37 = .ok (.iconst 0, 1) := by decide +kernel
theorem dX9_diagonalsThrough_38 : decode cX9_diagonalsThrough 38 = .ok (.ireturn, 1) := by decide +kernel
theorem dX9_diagonalsThrough_39 : decode cX9_diagonalsThrough 39 = .ok (.aload_n 0, 1) := by decide +kernel
theorem dX9_diagonalsThrough_40 : decode cX9_diagonalsThrough 40 = .ok (.getfield 19, 3) := by decide +kernel
theorem dX9_diagonalsThrough_43 : decode cX9_diagonalsThrough 43 = .ok (.aload_n 0, 1) := by decide +kernel
theorem dX9_diagonalsThrough_44 : decode cX9_diagonalsThrough 44 = .ok (.getfield 10, 3) := by decide +kernel
theorem dX9_diagonalsThrough_47 : decode cX9_diagonalsThrough 47 = .ok (.invokevirtual 223, 3) := by decide +kernel
theorem dX9_diagonalsThrough_50 : decode cX9_diagonalsThrough 50 = .ok (.aload_n 0, 1) := by decide +kernel
theorem dX9_diagonalsThrough_51 : decode cX9_diagonalsThrough 51 = .ok (.aload_n 0, 1) := by decide +kernel
theorem dX9_diagonalsThrough_52 : decode cX9_diagonalsThrough 52 = .ok (.getfield 19, 3) := by decide +kernel
theorem dX9_diagonalsThrough_55 : decode cX9_diagonalsThrough 55 = .ok (.iload_n 1, 1) := by decide +kernel
theorem dX9_diagonalsThrough_56 : decode cX9_diagonalsThrough 56 = .ok (.iload_n 2, 1) := by decide +kernel
theorem dX9_diagonalsThrough_57 : decode cX9_diagonalsThrough 57 = .ok (.invokevirtual 198, 3) := by decide +kernel
theorem dX9_diagonalsThrough_60 : decode cX9_diagonalsThrough 60 = .ok (.l2i, 1) := by decide +kernel
theorem dX9_diagonalsThrough_61 : decode cX9_diagonalsThrough 61 = .ok (.ireturn, 1) := by decide +kernel
set_option maxRecDepth 20000 in
theorem ggX9_rooks_X4_size : GoodIn wsX9_rooks wsX4_size := goodIn_r _ [8, 9, 92, 93] (by decide +kernel) (by decide +kernel)
set_option maxRecDepth 20000 in
theorem gX9_rooks_X4_size : GoodIn wsX9_rooks (wsV RX9 79 RX4 yX4_size wsX4_size) := goodIn_app (goodIn_of _ (by decide +kernel)) ggX9_rooks_X4_size
set_option maxRecDepth 20000 in
theorem ggX9_rooks_X4_markNotZero : GoodIn wsX9_rooks wsX4_markNotZero := goodIn_r _ [13, 9, 14, 15, 16, 7, 17, 18, 19, 20, 21, 22, 23, 24, 25, 26, 27, 28, 29, 30, 31, 32, 33, 34, 92, 93] (by decide +kernel) (by decide +kernel)
set_option maxRecDepth 20000 in
theorem gX9_rooks_X4_markNotZero : GoodIn wsX9_rooks (wsV RX9 223 RX4 yX4_markNotZero wsX4_markNotZero) := goodIn_app (goodIn_of _ (by decide +kernel)) ggX9_rooks_X4_markNotZero
set_option maxRecDepth 20000 in
theorem ggX9_rooks_X9_sumOfExpansions : GoodIn wsX9_rooks wsX9_sumOfExpansions := goodIn_r _ [39, 40, 41, 42, 43, 44, 45, 46, 4, 5, 6, 7, 8, 9, 47, 48, 49, 50, 51, 52, 53, 54, 55, 56, 57, 58, 59, 60, 61, 62, 63, 64, 24, 25, 26, 18, 27, 28, 29, 30, 65, 66, 67, 68, 69, 70, 71, 72, 73, 74, 75, 76, 77, 78, 79, 80, 81, 82, 83, 84, 85, 86, 87, 88, 89, 90, 91, 94, 92, 93] (by decide +kernel) (by decide +kernel)
set_option maxRecDepth 20000 in
theorem gX9_rooks_X9_sumOfExpansions : GoodIn wsX9_rooks (wsV RX9 210 RX9 yX9_sumOfExpansions wsX9_sumOfExpansions) := goodIn_app (goodIn_of _ (by decide +kernel)) ggX9_rooks_X9_sumOfExpansions
theorem dX9_rooks_0 : decode cX9_rooks 0 = .ok (.iload_n 1, 1) := by decide +kernel
theorem dX9_rooks_1 : decode cX9_rooks 1 = .ok (.ifCond .lt 14, 3) := by decide +kernel
theorem dX9_rooks_4 : decode cX9_rooks 4 = .ok (.iload_n 1, 1) := by decide +kernel
theorem dX9_rooks_5 : decode cX9_rooks 5 = .ok (.aload_n 0, 1) := by decide +kernel
theorem dX9_rooks_6 : decode cX9_rooks 6 = .ok (.getfield 10, 3) := by decide +kernel
theorem dX9_rooks_9 : decode cX9_rooks 9 = .ok (.invokevirtual 79, 3) := by decide +kernel
theorem dX9_rooks_12 : decode cX9_rooks 12 = .ok (.if_icmp .le 6, 3) := by decide +kernel
theorem dX9_rooks_15 : decode cX9_rooks 15 = .ok (.ldc 78, 2) := by decide +kernel
theorem dX9_rooks_17 : decode cX9_rooks 17 = .ok (.ireturn, 1) := by decide +kernel
theorem dX9_rooks_18 : decode cX9_rooks 18 = .ok (.aload_n 0, 1) := by decide +kernel
theorem dX9_rooks_19 : decode cX9_rooks 19 = .ok (.getfield 19, 3) := by decide +kernel
theorem dX9_rooks_22 : decode cX9_rooks 22 = .ok (.aload_n 0, 1) := by decide +kernel
theorem dX9_rooks_23 : decode cX9_rooks 23 = .ok (.getfield 10, 3) := by decide +kernel
theorem dX9_rooks_26 : decode cX9_rooks 26 = .ok (.invokevirtual 223, 3) := by decide +kernel
theorem dX9_rooks_29 : decode cX9_rooks 29 = .ok (.aload_n 0, 1) := by decide +kernel
theorem dX9_rooks_30 : decode cX9_rooks 30 = .ok (.aload_n 0, 1) := by decide +kernel
theorem dX9_rooks_31 : decode cX9_rooks 31 = .ok (.getfield 19, 3) := by decide +kernel
theorem dX9_rooks_34 : decode cX9_rooks 34 = .ok (.iload_n 1, 1) := by decide +kernel
theorem dX9_rooks_35 : decode cX9_rooks 35 = .ok (.invokevirtual 210, 3) := by decide +kernel
theorem dX9_rooks_38 : decode cX9_rooks 38 = .ok (.l2i, 1) := by decide +kernel
theorem dX9_rooks_39 : decode cX9_rooks 39 = .ok (.ireturn, 1) := by decide +kernel
set_option maxRecDepth 20000 in
theorem ggX9_tooFew_X4_allLines : GoodIn wsX9_tooFew wsX4_allLines := goodIn_r _ [7, 8, 45, 46] (by decide +kernel) (by decide +kernel)
set_option maxRecDepth 20000 in
theorem gX9_tooFew_X4_allLines : GoodIn wsX9_tooFew (wsV RX9 178 RX4 yX4_allLines wsX4_allLines) := goodIn_app (goodIn_of _ (by decide +kernel)) ggX9_tooFew_X4_allLines
set_option maxRecDepth 20000 in
theorem ggX9_tooFew_J6_bitCount_0f7a4 : GoodIn wsX9_tooFew wsJ6_bitCount_0f7a4 := goodIn_r _ [12, 13, 14, 15] (by decide +kernel) (by decide +kernel)
set_option maxRecDepth 20000 in
theorem gX9_tooFew_J6_bitCount_0f7a4 : GoodIn wsX9_tooFew (va_wsS RX9 201 yJ6_bitCount_0f7a4 wsJ6_bitCount_0f7a4) := goodIn_app (goodIn_of _ (by decide +kernel)) ggX9_tooFew_J6_bitCount_0f7a4
set_option maxRecDepth 20000 in
theorem ggX9_tooFew_X4_columnsOf : GoodIn wsX9_tooFew wsX4_columnsOf := goodIn_r _ [19, 8, 20, 21, 22, 6, 23, 24, 25, 26, 27, 28, 29, 30, 31, 32, 45, 46] (by decide +kernel) (by decide +kernel)
set_option maxRecDepth 20000 in
theorem gX9_tooFew_X4_columnsOf : GoodIn wsX9_tooFew (wsV RX9 226 RX4 yX4_columnsOf wsX4_columnsOf) := goodIn_app (goodIn_of _ (by decide +kernel)) ggX9_tooFew_X4_columnsOf
theorem dX9_tooFew_0 : decode cX9_tooFew 0 = .ok (.ldc 102, 2) := by decide +kernel
theorem dX9_tooFew_2 : decode cX9_tooFew 2 = .ok (.istore_n 1, 1) := by decide +kernel
theorem dX9_tooFew_3 : decode cX9_tooFew 3 = .ok (.bipush 8, 2) := by decide +kernel
theorem dX9_tooFew_5 : decode cX9_tooFew 5 = .ok (.istore_n 2, 1) := by decide +kernel
theorem dX9_tooFew_6 : decode cX9_tooFew 6 = .ok (.iconst 1, 1) := by decide +kernel
theorem dX9_tooFew_7 : decode cX9_tooFew 7 = .ok (.istore_n 3, 1) := by decide +kernel
theorem dX9_tooFew_8 : decode cX9_tooFew 8 = .ok (.iload_n 3, 1) := by decide +kernel
theorem dX9_tooFew_9 : decode cX9_tooFew 9 = .ok (.aload_n 0, 1) := by decide +kernel
theorem dX9_tooFew_10 : decode cX9_tooFew 10 = .ok (.getfield 10, 3) := by decide +kernel
theorem dX9_tooFew_13 : decode cX9_tooFew 13 = .ok (.invokevirtual 178, 3) := by decide +kernel
theorem dX9_tooFew_16 : decode cX9_tooFew 16 = .ok (.if_icmp .gt 42, 3) := by decide +kernel
theorem dX9_tooFew_19 : decode cX9_tooFew 19 = .ok (.iload_n 3, 1) := by decide +kernel
theorem dX9_tooFew_20 : decode cX9_tooFew 20 = .ok (.invokestatic 201, 3) := by decide +kernel
theorem dX9_tooFew_23 : decode cX9_tooFew 23 = .ok (.istore 4, 2) := by decide +kernel
theorem dX9_tooFew_25 : decode cX9_tooFew 25 = .ok (.iload 4, 2) := by decide +kernel
theorem dX9_tooFew_27 : decode cX9_tooFew 27 = .ok (.iload_n 2, 1) := by decide +kernel
theorem dX9_tooFew_28 : decode cX9_tooFew 28 = .ok (.if_icmp .ge 24, 3) := by decide +kernel
theorem dX9_tooFew_31 : decode cX9_tooFew 31 = .ok (.aload_n 0, 1) := by decide +kernel
theorem dX9_tooFew_32 : decode cX9_tooFew 32 = .ok (.getfield 10, 3) := by decide +kernel
theorem dX9_tooFew_35 : decode cX9_tooFew 35 = .ok (.iload_n 3, 1) := by decide +kernel
theorem dX9_tooFew_36 : decode cX9_tooFew 36 = .ok (.invokevirtual 226, 3) := by decide +kernel
theorem dX9_tooFew_39 : decode cX9_tooFew 39 = .ok (.invokestatic 201, 3) := by decide +kernel
theorem dX9_tooFew_42 : decode cX9_tooFew 42 = .ok (.iload 4, 2) := by decide +kernel
theorem dX9_tooFew_44 : decode cX9_tooFew 44 = .ok (.if_icmp .ge 8, 3) := by decide +kernel
theorem dX9_tooFew_47 : decode cX9_tooFew 47 = .ok (.iload_n 3, 1) := by decide +kernel
theorem dX9_tooFew_48 : decode cX9_tooFew 48 = .ok (.istore_n 1, 1) := by decide +kernel
theorem dX9_tooFew_49 : decode cX9_tooFew 49 = .ok (.iload 4, 2) := by decide +kernel
theorem dX9_tooFew_51 : decode cX9_tooFew 51 = .ok (.istore_n 2, 1) := by decide +kernel
theorem dX9_tooFew_52 : decode cX9_tooFew 52 = .ok (.iinc 3 1, 3) := by decide +kernel
theorem dX9_tooFew_55 : decode cX9_tooFew 55 = .ok (.goto (-47), 3) := by decide +kernel
theorem dX9_tooFew_58 : decode cX9_tooFew 58 = .ok (.iload_n 1, 1) := by decide +kernel
theorem dX9_tooFew_59 : decode cX9_tooFew 59 = .ok (.ireturn, 1) := by decide +kernel
set_option maxRecDepth 20000 in
theorem ggX9_best_X2_findGreatestSums : GoodIn wsX9_best wsX2_findGreatestSums := goodIn_r _ [7, 8, 9, 10, 11, 12, 13, 14, 15, 16, 17, 18, 19, 20, 6, 21, 22, 23, 24, 25, 26, 27, 28, 29, 30, 31, 32, 33, 34, 35, 36, 37, 38, 39, 40, 41, 42, 43, 44, 45, 46, 47, 48, 49, 50, 68, 69, 70] (by decide +kernel) (by decide +kernel)
set_option maxRecDepth 20000 in
theorem gX9_best_X2_findGreatestSums : GoodIn wsX9_best (wsV RX9 229 RX2 yX2_findGreatestSums wsX2_findGreatestSums) := goodIn_app (goodIn_of _ (by decide +kernel)) ggX9_best_X2_findGreatestSums
set_option maxRecDepth 20000 in
theorem ggX9_best_X2_of : GoodIn wsX9_best wsX2_of := goodIn_r _ [50, 22, 70] (by decide +kernel) (by decide +kernel)
set_option maxRecDepth 20000 in
theorem gX9_best_X2_of : GoodIn wsX9_best (wsV RX9 217 RX2 yX2_of wsX2_of) := goodIn_app (goodIn_of _ (by decide +kernel)) ggX9_best_X2_of
set_option maxRecDepth 20000 in
theorem ggX9_best_X2_diagonalOfGreatestSum : GoodIn wsX9_best wsX2_diagonalOfGreatestSum := goodIn_r _ [55, 30, 31, 32, 15, 33, 17, 34, 35, 36, 6, 37, 38, 39, 40, 41, 42, 43, 44, 45, 46, 47, 48, 49, 50, 22, 68, 69, 70] (by decide +kernel) (by decide +kernel)
set_option maxRecDepth 20000 in
theorem gX9_best_X2_diagonalOfGreatestSum : GoodIn wsX9_best (wsV RX9 232 RX2 yX2_diagonalOfGreatestSum wsX2_diagonalOfGreatestSum) := goodIn_app (goodIn_of _ (by decide +kernel)) ggX9_best_X2_diagonalOfGreatestSum
theorem dX9_best_0 : decode cX9_best 0 = .ok (.aload_n 0, 1) := by decide +kernel
theorem dX9_best_1 : decode cX9_best 1 = .ok (.getfield 60, 3) := by decide +kernel
theorem dX9_best_4 : decode cX9_best 4 = .ok (.aload_n 0, 1) := by decide +kernel
theorem dX9_best_5 : decode cX9_best 5 = .ok (.getfield 10, 3) := by decide +kernel
theorem dX9_best_8 : decode cX9_best 8 = .ok (.invokevirtual 229, 3) := by decide +kernel
theorem dX9_best_11 : decode cX9_best 11 = .ok (.iload_n 1, 1) := by decide +kernel
theorem dX9_best_12 : decode cX9_best 12 = .ok (.ifCond .eq 14, 3) := by decide +kernel
theorem dX9_best_15 : decode cX9_best 15 = .ok (.aload_n 0, 1) := by decide +kernel
theorem dX9_best_16 : decode cX9_best 16 = .ok (.getfield 60, 3) := by decide +kernel
theorem dX9_best_19 : decode cX9_best 19 = .ok (.iconst 0, 1) := by decide +kernel
theorem dX9_best_20 : decode cX9_best 20 = .ok (.invokevirtual 217, 3) := by decide +kernel
theorem dX9_best_23 : decode cX9_best 23 = .ok (.goto 14, 3) := by decide +kernel
theorem dX9_best_26 : decode cX9_best 26 = .ok (.aload_n 0, 1) := by decide +kernel
theorem dX9_best_27 : decode cX9_best 27 = .ok (.getfield 60, 3) := by decide +kernel
theorem dX9_best_30 : decode cX9_best 30 = .ok (.aload_n 0, 1) := by decide +kernel
theorem dX9_best_31 : decode cX9_best 31 = .ok (.getfield 10, 3) := by decide +kernel
theorem dX9_best_34 : decode cX9_best 34 = .ok (.invokevirtual 232, 3) := by decide +kernel
theorem dX9_best_37 : decode cX9_best 37 = .ok (.ireturn, 1) := by decide +kernel
set_option maxRecDepth 20000 in
theorem ggX9_nodes_X4_markNotZero : GoodIn wsX9_nodes wsX4_markNotZero := goodIn_r _ [8, 9, 10, 11, 12, 7, 13, 14, 15, 16, 17, 18, 19, 20, 21, 22, 23, 24, 25, 26, 27, 28, 29, 30, 90, 91] (by decide +kernel) (by decide +kernel)
set_option maxRecDepth 20000 in
theorem gX9_nodes_X4_markNotZero : GoodIn wsX9_nodes (wsV RX9 223 RX4 yX4_markNotZero wsX4_markNotZero) := goodIn_app (goodIn_of _ (by decide +kernel)) ggX9_nodes_X4_markNotZero
set_option maxRecDepth 20000 in
theorem ggX9_nodes_X0_begin : GoodIn wsX9_nodes wsX0_begin := goodIn_r _ [35, 36, 92] (by decide +kernel) (by decide +kernel)
set_option maxRecDepth 20000 in
theorem gX9_nodes_X0_begin : GoodIn wsX9_nodes (wsV RX9 185 RX0 yX0_begin wsX0_begin) := goodIn_app (goodIn_of _ (by decide +kernel)) ggX9_nodes_X0_begin
set_option maxRecDepth 20000 in
theorem ggX9_nodes_X4_size : GoodIn wsX9_nodes wsX4_size := goodIn_r _ [40, 9, 90, 91] (by decide +kernel) (by decide +kernel)
set_option maxRecDepth 20000 in
theorem gX9_nodes_X4_size : GoodIn wsX9_nodes (wsV RX9 79 RX4 yX4_size wsX4_size) := goodIn_app (goodIn_of _ (by decide +kernel)) ggX9_nodes_X4_size
set_option maxRecDepth 20000 in
theorem ggX9_nodes_X0_takeRow : GoodIn wsX9_nodes wsX0_takeRow := goodIn_r _ [44, 45, 46, 47, 7, 48, 9, 49, 50, 51, 34, 52, 53, 38, 39, 40, 54, 55, 56, 57, 36, 58, 20, 21, 22, 14, 23, 24, 25, 26, 59, 60, 61, 62, 63, 64, 65, 66, 67, 68, 69, 90, 91, 92] (by decide +kernel) (by decide +kernel)
set_option maxRecDepth 20000 in
theorem gX9_nodes_X0_takeRow : GoodIn wsX9_nodes (wsV RX9 188 RX0 yX0_takeRow wsX0_takeRow) := goodIn_app (goodIn_of _ (by decide +kernel)) ggX9_nodes_X0_takeRow
set_option maxRecDepth 20000 in
theorem ggX9_nodes_X0_countNotZero : GoodIn wsX9_nodes wsX0_countNotZero := goodIn_r _ [73, 36, 92] (by decide +kernel) (by decide +kernel)
set_option maxRecDepth 20000 in
theorem gX9_nodes_X0_countNotZero : GoodIn wsX9_nodes (wsV RX9 236 RX0 yX0_countNotZero wsX0_countNotZero) := goodIn_app (goodIn_of _ (by decide +kernel)) ggX9_nodes_X0_countNotZero
set_option maxRecDepth 20000 in
theorem ggX9_nodes_X0_sumOfAll : GoodIn wsX9_nodes wsX0_sumOfAll := goodIn_r _ [77, 36, 92] (by decide +kernel) (by decide +kernel)
set_option maxRecDepth 20000 in
theorem gX9_nodes_X0_sumOfAll : GoodIn wsX9_nodes (wsV RX9 237 RX0 yX0_sumOfAll wsX0_sumOfAll) := goodIn_app (goodIn_of _ (by decide +kernel)) ggX9_nodes_X0_sumOfAll
theorem dX9_nodes_0 : decode cX9_nodes 0 = .ok (.aload_n 0, 1) := by decide +kernel
theorem dX9_nodes_1 : decode cX9_nodes 1 = .ok (.getfield 19, 3) := by decide +kernel
theorem dX9_nodes_4 : decode cX9_nodes 4 = .ok (.aload_n 0, 1) := by decide +kernel
theorem dX9_nodes_5 : decode cX9_nodes 5 = .ok (.getfield 10, 3) := by decide +kernel
theorem dX9_nodes_8 : decode cX9_nodes 8 = .ok (.invokevirtual 223, 3) := by decide +kernel
theorem dX9_nodes_11 : decode cX9_nodes 11 = .ok (.aload_n 0, 1) := by decide +kernel
theorem dX9_nodes_12 : decode cX9_nodes 12 = .ok (.getfield 53, 3) := by decide +kernel
theorem dX9_nodes_15 : decode cX9_nodes 15 = .ok (.invokevirtual 185, 3) := by decide +kernel
theorem dX9_nodes_18 : decode cX9_nodes 18 = .ok (.lconst 1, 1) := by decide +kernel
theorem dX9_nodes_19 : decode cX9_nodes 19 = .ok (.lstore_n 2, 1) := by decide +kernel
theorem dX9_nodes_20 : decode cX9_nodes 20 = .ok (.iconst 0, 1) := by decide +kernel
theorem dX9_nodes_21 : decode cX9_nodes 21 = .ok (.istore 4, 2) := by decide +kernel
theorem dX9_nodes_23 : decode cX9_nodes 23 = .ok (.iload 4, 2) := by decide +kernel
theorem dX9_nodes_25 : decode cX9_nodes 25 = .ok (.aload_n 0, 1) := by decide +kernel
theorem dX9_nodes_26 : decode cX9_nodes 26 = .ok (.getfield 19, 3) := by decide +kernel
theorem dX9_nodes_29 : decode cX9_nodes 29 = .ok (.invokevirtual 79, 3) := by decide +kernel
theorem dX9_nodes_32 : decode cX9_nodes 32 = .ok (.if_icmp .ge 48, 3) := by decide +kernel
theorem dX9_nodes_35 : decode cX9_nodes 35 = .ok (.aload_n 0, 1) := by decide +kernel
theorem dX9_nodes_36 : decode cX9_nodes 36 = .ok (.getfield 53, 3) := by decide +kernel
theorem dX9_nodes_39 : decode cX9_nodes 39 = .ok (.aload_n 0, 1) := by decide +kernel
theorem dX9_nodes_40 : decode cX9_nodes 40 = .ok (.getfield 19, 3) := by decide +kernel
theorem dX9_nodes_43 : decode cX9_nodes 43 = .ok (.iload 4, 2) := by decide +kernel
theorem dX9_nodes_45 : decode cX9_nodes 45 = .ok (.iconst 0, 1) := by decide +kernel
theorem dX9_nodes_46 : decode cX9_nodes 46 = .ok (.invokevirtual 188, 3) := by decide +kernel
theorem dX9_nodes_49 : decode cX9_nodes 49 = .ok (.lload_n 2, 1) := by decide +kernel
theorem dX9_nodes_50 : decode cX9_nodes 50 = .ok (.iload_n 1, 1) := by decide +kernel
theorem dX9_nodes_51 : decode cX9_nodes 51 = .ok (.ifCond .eq 14, 3) := by decide +kernel
theorem dX9_nodes_54 : decode cX9_nodes 54 = .ok (.aload_n 0, 1) := by decide +kernel
theorem dX9_nodes_55 : decode cX9_nodes 55 = .ok (.getfield 53, 3) := by decide +kernel
theorem dX9_nodes_58 : decode cX9_nodes 58 = .ok (.invokevirtual 236, 3) := by decide +kernel
theorem dX9_nodes_61 : decode cX9_nodes 61 = .ok (.i2l, 1) := by decide +kernel
theorem dX9_nodes_62 : decode cX9_nodes 62 = .ok (.goto 10, 3) := by decide +kernel
theorem dX9_nodes_65 : decode cX9_nodes 65 = .ok (.aload_n 0, 1) := by decide +kernel
theorem dX9_nodes_66 : decode cX9_nodes 66 = .ok (.getfield 53, 3) := by decide +kernel
theorem dX9_nodes_69 : decode cX9_nodes 69 = .ok (.invokevirtual 237, 3) := by decide +kernel
theorem dX9_nodes_72 : decode cX9_nodes 72 = .ok (.ladd, 1) := by decide +kernel
theorem dX9_nodes_73 : decode cX9_nodes 73 = .ok (.lstore_n 2, 1) := by decide +kernel
theorem dX9_nodes_74 : decode cX9_nodes 74 = .ok (.iinc 4 1, 3) := by decide +kernel
theorem dX9_nodes_77 : decode cX9_nodes 77 = .ok (.goto (-54), 3) := by decide +kernel
theorem dX9_nodes_80 : decode cX9_nodes 80 = .ok (.lload_n 2, 1) := by decide +kernel
theorem dX9_nodes_81 : decode cX9_nodes 81 = .ok (.l2i, 1) := by decide +kernel
theorem dX9_nodes_82 : decode cX9_nodes 82 = .ok (.ireturn, 1) := by decide +kernel
theorem dX9_isEntry_0 : decode cX9_isEntry 0 = .ok (.iload_n 0, 1) := by decide +kernel
theorem dX9_isEntry_1 : decode cX9_isEntry 1 = .ok (.bipush (-20), 2) := by decide +kernel
theorem dX9_isEntry_3 : decode cX9_isEntry 3 = .ok (.if_icmp .lt 13, 3) := by decide +kernel
theorem dX9_isEntry_6 : decode cX9_isEntry 6 = .ok (.iload_n 0, 1) := by decide +kernel
theorem dX9_isEntry_7 : decode cX9_isEntry 7 = .ok (.bipush 20, 2) := by decide +kernel
theorem dX9_isEntry_9 : decode cX9_isEntry 9 = .ok (.if_icmp .gt 7, 3) := by decide +kernel
theorem dX9_isEntry_12 : decode cX9_isEntry 12 = .ok (.iconst 1, 1) := by decide +kernel
theorem dX9_isEntry_13 : decode cX9_isEntry 13 = .ok (.goto 4, 3) := by decide +kernel
theorem dX9_isEntry_16 : decode cX9_isEntry 16 = .ok (.iconst 0, 1) := by decide +kernel
theorem dX9_isEntry_17 : decode cX9_isEntry 17 = .ok (.ireturn, 1) := by decide +kernel
set_option maxRecDepth 20000 in
theorem ggX9_changeToNext_X3_record : GoodIn wsX9_changeToNext wsX3_record := goodIn_r _ [8, 9, 10, 11, 12, 13, 7, 14, 15, 16, 17, 18, 19, 20, 21, 22, 23, 24, 25, 26, 40, 41, 42, 43, 44] (by decide +kernel) (by decide +kernel)
set_option maxRecDepth 20000 in
theorem gX9_changeToNext_X3_record : GoodIn wsX9_changeToNext (wsV RX9 271 RX3 yX3_record wsX3_record) := goodIn_app (goodIn_of _ (by decide +kernel)) ggX9_changeToNext_X3_record
set_option maxRecDepth 20000 in
theorem ggX9_changeToNext_X4_copyFrom : GoodIn wsX9_changeToNext wsX4_copyFrom := goodIn_r _ [20, 21, 22, 23, 24, 25, 26, 43, 44] (by decide +kernel) (by decide +kernel)
set_option maxRecDepth 20000 in
theorem gX9_changeToNext_X4_copyFrom : GoodIn wsX9_changeToNext (wsV RX9 103 RX4 yX4_copyFrom wsX4_copyFrom) := goodIn_app (goodIn_of _ (by decide +kernel)) ggX9_changeToNext_X4_copyFrom
theorem dX9_changeToNext_0 : decode cX9_changeToNext 0 = .ok (.aload_n 0, 1) := by decide +kernel
theorem dX9_changeToNext_1 : decode cX9_changeToNext 1 = .ok (.getfield 32, 3) := by decide +kernel
theorem dX9_changeToNext_4 : decode cX9_changeToNext 4 = .ok (.aload_n 0, 1) := by decide +kernel
theorem dX9_changeToNext_5 : decode cX9_changeToNext 5 = .ok (.getfield 10, 3) := by decide +kernel
theorem dX9_changeToNext_8 : decode cX9_changeToNext 8 = .ok (.invokevirtual 271, 3) := by decide +kernel
theorem dX9_changeToNext_11 : decode cX9_changeToNext 11 = .ok (.aload_n 0, 1) := by decide +kernel
theorem dX9_changeToNext_12 : decode cX9_changeToNext 12 = .ok (.getfield 10, 3) := by decide +kernel
theorem dX9_changeToNext_15 : decode cX9_changeToNext 15 = .ok (.aload_n 0, 1) := by decide +kernel
theorem dX9_changeToNext_16 : decode cX9_changeToNext 16 = .ok (.getfield 16, 3) := by decide +kernel
theorem dX9_changeToNext_19 : decode cX9_changeToNext 19 = .ok (.invokevirtual 103, 3) := by decide +kernel
theorem dX9_changeToNext_22 : decode cX9_changeToNext 22 = .ok (.return_, 1) := by decide +kernel
set_option maxRecDepth 20000 in
theorem ggX9_changeIfUnlike_X4_countUnlike : GoodIn wsX9_changeIfUnlike wsX4_countUnlike := goodIn_r _ [8, 9, 10, 11, 12, 7, 13, 14, 15, 16, 17, 18, 58, 59] (by decide +kernel) (by decide +kernel)
set_option maxRecDepth 20000 in
theorem gX9_changeIfUnlike_X4_countUnlike : GoodIn wsX9_changeIfUnlike (wsV RX9 274 RX4 yX4_countUnlike wsX4_countUnlike) := goodIn_app (goodIn_of _ (by decide +kernel)) ggX9_changeIfUnlike_X4_countUnlike
set_option maxRecDepth 20000 in
theorem ggX9_changeIfUnlike_X9_changeToNext : GoodIn wsX9_changeIfUnlike wsX9_changeToNext := goodIn_r _ [23, 24, 2, 1, 25, 26, 27, 28, 29, 30, 31, 32, 33, 34, 35, 36, 37, 38, 39, 7, 40, 14, 41, 42, 43, 44, 9, 45, 46, 47, 48, 49, 50, 51, 52, 53, 54, 55, 56, 57, 60, 61, 62, 58, 59] (by decide +kernel) (by decide +kernel)
set_option maxRecDepth 20000 in
theorem gX9_changeIfUnlike_X9_changeToNext : GoodIn wsX9_changeIfUnlike (wsV RX9 87 RX9 yX9_changeToNext wsX9_changeToNext) := goodIn_app (goodIn_of _ (by decide +kernel)) ggX9_changeIfUnlike_X9_changeToNext
theorem dX9_changeIfUnlike_0 : decode cX9_changeIfUnlike 0 = .ok (.aload_n 0, 1) := by decide +kernel
theorem dX9_changeIfUnlike_1 : decode cX9_changeIfUnlike 1 = .ok (.getfield 16, 3) := by decide +kernel
theorem dX9_changeIfUnlike_4 : decode cX9_changeIfUnlike 4 = .ok (.aload_n 0, 1) := by decide +kernel
theorem dX9_changeIfUnlike_5 : decode cX9_changeIfUnlike 5 = .ok (.getfield 10, 3) := by decide +kernel
theorem dX9_changeIfUnlike_8 : decode cX9_changeIfUnlike 8 = .ok (.invokevirtual 274, 3) := by decide +kernel
theorem dX9_changeIfUnlike_11 : decode cX9_changeIfUnlike 11 = .ok (.istore_n 1, 1) := by decide +kernel
theorem dX9_changeIfUnlike_12 : decode cX9_changeIfUnlike 12 = .ok (.iload_n 1, 1) := by decide +kernel
theorem dX9_changeIfUnlike_13 : decode cX9_changeIfUnlike 13 = .ok (.ifCond .ne 6, 3) := by decide +kernel
theorem dX9_changeIfUnlike_16 : decode cX9_changeIfUnlike 16 = .ok (.ldc 102, 2) := by decide +kernel
theorem dX9_changeIfUnlike_18 : decode cX9_changeIfUnlike 18 = .ok (.ireturn, 1) := by decide +kernel
theorem dX9_changeIfUnlike_19 : decode cX9_changeIfUnlike 19 = .ok (.aload_n 0, 1) := by decide +kernel
theorem dX9_changeIfUnlike_20 : decode cX9_changeIfUnlike 20 = .ok (.invokevirtual 87, 3) := by decide +kernel
theorem dX9_changeIfUnlike_23 : decode cX9_changeIfUnlike 23 = .ok (.iload_n 1, 1) := by decide +kernel
theorem dX9_changeIfUnlike_24 : decode cX9_changeIfUnlike 24 = .ok (.ireturn, 1) := by decide +kernel
set_option maxRecDepth 20000 in
theorem ggX9_expand_X0_begin : GoodIn wsX9_expand wsX0_begin := goodIn_r _ [6, 7, 64] (by decide +kernel) (by decide +kernel)
set_option maxRecDepth 20000 in
theorem gX9_expand_X0_begin : GoodIn wsX9_expand (wsV RX9 185 RX0 yX0_begin wsX0_begin) := goodIn_app (goodIn_of _ (by decide +kernel)) ggX9_expand_X0_begin
set_option maxRecDepth 20000 in
theorem ggX9_expand_X4_size : GoodIn wsX9_expand wsX4_size := goodIn_r _ [12, 13, 65, 66] (by decide +kernel) (by decide +kernel)
set_option maxRecDepth 20000 in
theorem gX9_expand_X4_size : GoodIn wsX9_expand (wsV RX9 79 RX4 yX4_size wsX4_size) := goodIn_app (goodIn_of _ (by decide +kernel)) ggX9_expand_X4_size
set_option maxRecDepth 20000 in
theorem ggX9_expand_X0_takeRow : GoodIn wsX9_expand wsX0_takeRow := goodIn_r _ [17, 18, 19, 20, 11, 21, 13, 22, 23, 24, 5, 25, 26, 9, 10, 12, 27, 28, 29, 30, 7, 31, 32, 33, 34, 35, 36, 37, 38, 39, 40, 41, 42, 43, 44, 45, 46, 47, 48, 49, 50, 65, 66, 64] (by decide +kernel) (by decide +kernel)
set_option maxRecDepth 20000 in
theorem gX9_expand_X0_takeRow : GoodIn wsX9_expand (wsV RX9 188 RX0 yX0_takeRow wsX0_takeRow) := goodIn_app (goodIn_of _ (by decide +kernel)) ggX9_expand_X0_takeRow
set_option maxRecDepth 20000 in
theorem ggX9_expand_X0_of : GoodIn wsX9_expand wsX0_of := goodIn_r _ [30, 7, 64] (by decide +kernel) (by decide +kernel)
set_option maxRecDepth 20000 in
theorem gX9_expand_X0_of : GoodIn wsX9_expand (wsV RX9 192 RX0 yX0_of wsX0_of) := goodIn_app (goodIn_of _ (by decide +kernel)) ggX9_expand_X0_of
theorem dX9_expand_0 : decode cX9_expand 0 = .ok (.aload_n 0, 1) := by decide +kernel
theorem dX9_expand_1 : decode cX9_expand 1 = .ok (.getfield 53, 3) := by decide +kernel
theorem dX9_expand_4 : decode cX9_expand 4 = .ok (.invokevirtual 185, 3) := by decide +kernel
theorem dX9_expand_7 : decode cX9_expand 7 = .ok (.iconst 0, 1) := by decide +kernel
theorem dX9_expand_8 : decode cX9_expand 8 = .ok (.istore 4, 2) := by decide +kernel
theorem dX9_expand_10 : decode cX9_expand 10 = .ok (.iload 4, 2) := by decide +kernel
theorem dX9_expand_12 : decode cX9_expand 12 = .ok (.aload_n 1, 1) := by decide +kernel
theorem dX9_expand_13 : decode cX9_expand 13 = .ok (.invokevirtual 79, 3) := by decide +kernel
theorem dX9_expand_16 : decode cX9_expand 16 = .ok (.if_icmp .ge 29, 3) := by decide +kernel
theorem dX9_expand_19 : decode cX9_expand 19 = .ok (.iload_n 2, 1) := by decide +kernel
theorem dX9_expand_20 : decode cX9_expand 20 = .ok (.iconst 1, 1) := by decide +kernel
theorem dX9_expand_21 : decode cX9_expand 21 = .ok (.iload 4, 2) := by decide +kernel
theorem dX9_expand_23 : decode cX9_expand 23 = .ok (.ishl, 1) := by decide +kernel
theorem dX9_expand_24 : decode cX9_expand 24 = .ok (.iand, 1) := by decide +kernel
theorem dX9_expand_25 : decode cX9_expand 25 = .ok (.ifCond .eq 14, 3) := by decide +kernel
theorem dX9_expand_28 : decode cX9_expand 28 = .ok (.aload_n 0, 1) := by decide +kernel
theorem dX9_expand_29 : decode cX9_expand 29 = .ok (.getfield 53, 3) := by decide +kernel
theorem dX9_expand_32 : decode cX9_expand 32 = .ok (.aload_n 1, 1) := by decide +kernel
theorem dX9_expand_33 : decode cX9_expand 33 = .ok (.iload 4, 2) := by decide +kernel
theorem dX9_expand_35 : decode cX9_expand 35 = .ok (.iconst 0, 1) := by decide +kernel
theorem dX9_expand_36 : decode cX9_expand 36 = .ok (.invokevirtual 188, 3) := by decide +kernel
theorem dX9_expand_39 : decode cX9_expand 39 = .ok (.iinc 4 1, 3) := by decide +kernel
theorem dX9_expand_42 : decode cX9_expand 42 = .ok (.goto (-32), 3) := by decide +kernel
theorem dX9_expand_45 : decode cX9_expand 45 = .ok (.aload_n 0, 1) := by decide +kernel
theorem dX9_expand_46 : decode cX9_expand 46 = .ok (.getfield 53, 3) := by decide +kernel
theorem dX9_expand_49 : decode cX9_expand 49 = .ok (.iload_n 3, 1) := by decide +kernel
theorem dX9_expand_50 : decode cX9_expand 50 = .ok (.invokevirtual 192, 3) := by decide +kernel
theorem dX9_expand_53 : decode cX9_expand 53 = .ok (.lreturn, 1) := by decide +kernel
set_option maxRecDepth 20000 in
theorem ggX9_expandWithout_X4_allLines : GoodIn wsX9_expandWithout wsX4_allLines := goodIn_r _ [5, 6, 58, 59] (by decide +kernel) (by decide +kernel)
set_option maxRecDepth 20000 in
theorem gX9_expandWithout_X4_allLines : GoodIn wsX9_expandWithout (wsV RX9 178 RX4 yX4_allLines wsX4_allLines) := goodIn_app (goodIn_of _ (by decide +kernel)) ggX9_expandWithout_X4_allLines
set_option maxRecDepth 20000 in
theorem ggX9_expandWithout_X9_expand : GoodIn wsX9_expandWithout wsX9_expand := goodIn_r _ [11, 12, 13, 14, 15, 16, 17, 18, 19, 20, 21, 4, 22, 6, 23, 24, 25, 26, 27, 2, 3, 5, 28, 29, 30, 31, 32, 33, 34, 35, 36, 37, 38, 39, 40, 41, 42, 43, 44, 45, 46, 47, 48, 49, 50, 51, 52, 53, 54, 55, 56, 57, 60, 61, 62, 63, 64, 65, 66, 67, 68, 69, 70, 71, 72, 58, 59] (by decide +kernel) (by decide +kernel)
set_option maxRecDepth 20000 in
theorem gX9_expandWithout_X9_expand : GoodIn wsX9_expandWithout (wsV RX9 181 RX9 yX9_expand wsX9_expand) := goodIn_app (goodIn_of _ (by decide +kernel)) ggX9_expandWithout_X9_expand
theorem dX9_expandWithout_0 : decode cX9_expandWithout 0 = .ok (.aload_n 0, 1) := by decide +kernel
theorem dX9_expandWithout_1 : decode cX9_expandWithout 1 = .ok (.aload_n 1, 1) := by decide +kernel
theorem dX9_expandWithout_2 : decode cX9_expandWithout 2 = .ok (.aload_n 1, 1) := by decide +kernel
theorem dX9_expandWithout_3 : decode cX9_expandWithout 3 = .ok (.invokevirtual 178, 3) := by decide +kernel
theorem dX9_expandWithout_6 : decode cX9_expandWithout 6 = .ok (.iconst 1, 1) := by decide +kernel
theorem dX9_expandWithout_7 : decode cX9_expandWithout 7 = .ok (.iload_n 2, 1) := by decide +kernel
theorem dX9_expandWithout_8 : decode cX9_expandWithout 8 = .ok (.ishl, 1) := by decide +kernel
theorem dX9_expandWithout_9 : decode cX9_expandWithout 9 = .ok (.iconst (-1), 1) := by decide +kernel
theorem dX9_expandWithout_10 : decode cX9_expandWithout 10 = .ok (.ixor, 1) := by decide +kernel
theorem dX9_expandWithout_11 : decode cX9_expandWithout 11 = .ok (.iand, 1) := by decide +kernel
theorem dX9_expandWithout_12 : decode cX9_expandWithout 12 = .ok (.aload_n 1, 1) := by decide +kernel
theorem dX9_expandWithout_13 : decode cX9_expandWithout 13 = .ok (.invokevirtual 178, 3) := by decide +kernel
theorem dX9_expandWithout_16 : decode cX9_expandWithout 16 = .ok (.iconst 1, 1) := by decide +kernel
theorem dX9_expandWithout_17 : decode cX9_expandWithout 17 = .ok (.iload_n 3, 1) := by decide +kernel
theorem dX9_expandWithout_18 : decode cX9_expandWithout 18 = .ok (.ishl, 1) := by decide +kernel
theorem dX9_expandWithout_19 : decode cX9_expandWithout 19 = .ok (.iconst (-1), 1) := by decide +kernel
theorem dX9_expandWithout_20 : decode cX9_expandWithout 20 = .ok (.ixor, 1) := by decide +kernel
theorem dX9_expandWithout_21 : decode cX9_expandWithout 21 = .ok (.iand, 1) := by decide +kernel
theorem dX9_expandWithout_22 : decode cX9_expandWithout 22 = .ok (.invokevirtual 181, 3) := by decide +kernel
theorem dX9_expandWithout_25 : decode cX9_expandWithout 25 = .ok (.lreturn, 1) := by decide +kernel
set_option maxRecDepth 20000 in
theorem ggX9_sumOfExpansions_X0_begin : GoodIn wsX9_sumOfExpansions wsX0_begin := goodIn_r _ [6, 7, 67] (by decide +kernel) (by decide +kernel)
set_option maxRecDepth 20000 in
theorem gX9_sumOfExpansions_X0_begin : GoodIn wsX9_sumOfExpansions (wsV RX9 185 RX0 yX0_begin wsX0_begin) := goodIn_app (goodIn_of _ (by decide +kernel)) ggX9_sumOfExpansions_X0_begin
set_option maxRecDepth 20000 in
theorem ggX9_sumOfExpansions_X4_size : GoodIn wsX9_sumOfExpansions wsX4_size := goodIn_r _ [12, 13, 68, 69] (by decide +kernel) (by decide +kernel)
set_option maxRecDepth 20000 in
theorem gX9_sumOfExpansions_X4_size : GoodIn wsX9_sumOfExpansions (wsV RX9 79 RX4 yX4_size wsX4_size) := goodIn_app (goodIn_of _ (by decide +kernel)) ggX9_sumOfExpansions_X4_size
set_option maxRecDepth 20000 in
theorem ggX9_sumOfExpansions_X0_takeRowOrNot : GoodIn wsX9_sumOfExpansions wsX0_takeRowOrNot := goodIn_r _ [17, 18, 19, 20, 11, 21, 13, 22, 23, 24, 5, 25, 7, 26, 27, 28, 29, 30, 9, 10, 12, 31, 32, 33, 34, 35, 36, 37, 38, 39, 40, 41, 42, 43, 44, 45, 46, 47, 48, 49, 50, 68, 69, 67] (by decide +kernel) (by decide +kernel)
set_option maxRecDepth 20000 in
theorem gX9_sumOfExpansions_X0_takeRowOrNot : GoodIn wsX9_sumOfExpansions (wsV RX9 277 RX0 yX0_takeRowOrNot wsX0_takeRowOrNot) := goodIn_app (goodIn_of _ (by decide +kernel)) ggX9_sumOfExpansions_X0_takeRowOrNot
set_option maxRecDepth 20000 in
theorem ggX9_sumOfExpansions_X0_sumOfSize : GoodIn wsX9_sumOfExpansions wsX0_sumOfSize := goodIn_r _ [54, 7, 40, 41, 42, 43, 44, 45, 46, 67] (by decide +kernel) (by decide +kernel)
set_option maxRecDepth 20000 in
theorem gX9_sumOfExpansions_X0_sumOfSize : GoodIn wsX9_sumOfExpansions (wsV RX9 281 RX0 yX0_sumOfSize wsX0_sumOfSize) := goodIn_app (goodIn_of _ (by decide +kernel)) ggX9_sumOfExpansions_X0_sumOfSize
theorem dX9_sumOfExpansions_0 : decode cX9_sumOfExpansions 0 = .ok (.aload_n 0, 1) := by decide +kernel
theorem dX9_sumOfExpansions_1 : decode cX9_sumOfExpansions 1 = .ok (.getfield 53, 3) := by decide +kernel
theorem dX9_sumOfExpansions_4 : decode cX9_sumOfExpansions 4 = .ok (.invokevirtual 185, 3) := by decide +kernel
theorem dX9_sumOfExpansions_7 : decode cX9_sumOfExpansions 7 = .ok (.iconst 0, 1) := by decide +kernel
theorem dX9_sumOfExpansions_8 : decode cX9_sumOfExpansions 8 = .ok (.istore_n 3, 1) := by decide +kernel
theorem dX9_sumOfExpansions_9 : decode cX9_sumOfExpansions 9 = .ok (.iload_n 3, 1) := by decide +kernel
theorem dX9_sumOfExpansions_10 : decode cX9_sumOfExpansions 10 = .ok (.aload_n 1, 1) := by decide +kernel
theorem dX9_sumOfExpansions_11 : decode cX9_sumOfExpansions 11 = .ok (.invokevirtual 79, 3) := by decide +kernel
theorem dX9_sumOfExpansions_14 : decode cX9_sumOfExpansions 14 = .ok (.if_icmp .ge 18, 3) := by decide +kernel
theorem dX9_sumOfExpansions_17 : decode cX9_sumOfExpansions 17 = .ok (.aload_n 0, 1) := by decide +kernel
theorem dX9_sumOfExpansions_18 : decode cX9_sumOfExpansions 18 = .ok (.getfield 53, 3) := by decide +kernel
theorem dX9_sumOfExpansions_21 : decode cX9_sumOfExpansions 21 = .ok (.aload_n 1, 1) := by decide +kernel
theorem dX9_sumOfExpansions_22 : decode cX9_sumOfExpansions 22 = .ok (.iload_n 3, 1) := by decide +kernel
theorem dX9_sumOfExpansions_23 : decode cX9_sumOfExpansions 23 = .ok (.invokevirtual 277, 3) := by decide +kernel
theorem dX9_sumOfExpansions_26 : decode cX9_sumOfExpansions 26 = .ok (.iinc 3 1, 3) := by decide +kernel
theorem dX9_sumOfExpansions_29 : decode cX9_sumOfExpansions 29 = .ok (.goto (-20), 3) := by decide +kernel
theorem dX9_sumOfExpansions_32 : decode cX9_sumOfExpansions 32 = .ok (.aload_n 0, 1) := by decide +kernel
theorem dX9_sumOfExpansions_33 : decode cX9_sumOfExpansions 33 = .ok (.getfield 53, 3) := by decide +kernel
theorem dX9_sumOfExpansions_36 : decode cX9_sumOfExpansions 36 = .ok (.iload_n 2, 1) := by decide +kernel
theorem dX9_sumOfExpansions_37 : decode cX9_sumOfExpansions 37 = .ok (.invokevirtual 281, 3) := by decide +kernel
theorem dX9_sumOfExpansions_40 : decode cX9_sumOfExpansions 40 = .ok (.lreturn, 1) := by decide +kernel
