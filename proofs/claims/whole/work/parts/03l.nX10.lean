theorem dX10_init_0 : decode cX10_init 0 = .ok (.aload_n 0, 1) := by decide +kernel
theorem dX10_init_1 : decode cX10_init 1 = .ok (.invokespecial 1, 3) := by decide +kernel
theorem dX10_init_4 : decode cX10_init 4 = .ok (.aload_n 0, 1) := by decide +kernel
theorem dX10_init_5 : decode cX10_init 5 = .ok (.bipush 50, 2) := by decide +kernel
theorem dX10_init_7 : decode cX10_init 7 = .ok (.newarray .int, 2) := by decide +kernel
theorem dX10_init_9 : decode cX10_init 9 = .ok (.putfield 7, 3) := by decide +kernel
theorem dX10_init_12 : decode cX10_init 12 = .ok (.aload_n 0, 1) := by decide +kernel
theorem dX10_init_13 : decode cX10_init 13 = .ok (.bipush 50, 2) := by decide +kernel
theorem dX10_init_15 : decode cX10_init 15 = .ok (.newarray .int, 2) := by decide +kernel
theorem dX10_init_17 : decode cX10_init 17 = .ok (.putfield 13, 3) := by decide +kernel
theorem dX10_init_20 : decode cX10_init 20 = .ok (.aload_n 0, 1) := by decide +kernel
theorem dX10_init_21 : decode cX10_init 21 = .ok (.sipush 200, 3) := by decide +kernel
theorem dX10_init_24 : decode cX10_init 24 = .ok (.newarray .int, 2) := by decide +kernel
theorem dX10_init_26 : decode cX10_init 26 = .ok (.putfield 16, 3) := by decide +kernel
theorem dX10_init_29 : decode cX10_init 29 = .ok (.aload_n 0, 1) := by decide +kernel
theorem dX10_init_30 : decode cX10_init 30 = .ok (.bipush 50, 2) := by decide +kernel
theorem dX10_init_32 : decode cX10_init 32 = .ok (.newarray .int, 2) := by decide +kernel
theorem dX10_init_34 : decode cX10_init 34 = .ok (.putfield 19, 3) := by decide +kernel
theorem dX10_init_37 : decode cX10_init 37 = .ok (.aload_n 0, 1) := by decide +kernel
theorem dX10_init_38 : decode cX10_init 38 = .ok (.bipush 100, 2) := by decide +kernel
theorem dX10_init_40 : decode cX10_init 40 = .ok (.newarray .int, 2) := by decide +kernel
theorem dX10_init_42 : decode cX10_init 42 = .ok (.putfield 22, 3) := by decide +kernel
theorem dX10_init_45 : decode cX10_init 45 = .ok (.aload_n 0, 1) := by decide +kernel
theorem dX10_init_46 : decode cX10_init 46 = .ok (.bipush 7, 2) := by decide +kernel
theorem dX10_init_48 : decode cX10_init 48 = .ok (.newarray .int, 2) := by decide +kernel
theorem dX10_init_50 : decode cX10_init 50 = .ok (.putfield 25, 3) := by decide +kernel
theorem dX10_init_53 : decode cX10_init 53 = .ok (.aload_n 0, 1) := by decide +kernel
theorem dX10_init_54 : decode cX10_init 54 = .ok (.bipush 49, 2) := by decide +kernel
theorem dX10_init_56 : decode cX10_init 56 = .ok (.newarray .int, 2) := by decide +kernel
theorem dX10_init_58 : decode cX10_init 58 = .ok (.putfield 28, 3) := by decide +kernel
theorem dX10_init_61 : decode cX10_init 61 = .ok (.aload_n 0, 1) := by decide +kernel
theorem dX10_init_62 : decode cX10_init 62 = .ok (.bipush 7, 2) := by decide +kernel
theorem dX10_init_64 : decode cX10_init 64 = .ok (.newarray .int, 2) := by decide +kernel
theorem dX10_init_66 : decode cX10_init 66 = .ok (.putfield 31, 3) := by decide +kernel
theorem dX10_init_69 : decode cX10_init 69 = .ok (.aload_n 0, 1) := by decide +kernel
theorem dX10_init_70 : decode cX10_init 70 = .ok (.bipush 7, 2) := by decide +kernel
theorem dX10_init_72 : decode cX10_init 72 = .ok (.newarray .int, 2) := by decide +kernel
theorem dX10_init_74 : decode cX10_init 74 = .ok (.putfield 34, 3) := by decide +kernel
theorem dX10_init_77 : decode cX10_init 77 = .ok (.aload_n 0, 1) := by decide +kernel
theorem dX10_init_78 : decode cX10_init 78 = .ok (.sipush 128, 3) := by decide +kernel
theorem dX10_init_81 : decode cX10_init 81 = .ok (.newarray .int, 2) := by decide +kernel
theorem dX10_init_83 : decode cX10_init 83 = .ok (.putfield 37, 3) := by decide +kernel
theorem dX10_init_86 : decode cX10_init 86 = .ok (.aload_n 0, 1) := by decide +kernel
theorem dX10_init_87 : decode cX10_init 87 = .ok (.bipush 49, 2) := by decide +kernel
theorem dX10_init_89 : decode cX10_init 89 = .ok (.newarray .double, 2) := by decide +kernel
theorem dX10_init_91 : decode cX10_init 91 = .ok (.putfield 40, 3) := by decide +kernel
theorem dX10_init_94 : decode cX10_init 94 = .ok (.aload_n 0, 1) := by decide +kernel
theorem dX10_init_95 : decode cX10_init 95 = .ok (.bipush 7, 2) := by decide +kernel
theorem dX10_init_97 : decode cX10_init 97 = .ok (.newarray .double, 2) := by decide +kernel
theorem dX10_init_99 : decode cX10_init 99 = .ok (.putfield 44, 3) := by decide +kernel
theorem dX10_init_102 : decode cX10_init 102 = .ok (.aload_n 0, 1) := by decide +kernel
theorem dX10_init_103 : decode cX10_init 103 = .ok (.bipush 7, 2) := by decide +kernel
theorem dX10_init_105 : decode cX10_init 105 = .ok (.newarray .double, 2) := by decide +kernel
theorem dX10_init_107 : decode cX10_init 107 = .ok (.putfield 47, 3) := by decide +kernel
theorem dX10_init_110 : decode cX10_init 110 = .ok (.aload_n 0, 1) := by decide +kernel
theorem dX10_init_111 : decode cX10_init 111 = .ok (.bipush 49, 2) := by decide +kernel
theorem dX10_init_113 : decode cX10_init 113 = .ok (.newarray .int, 2) := by decide +kernel
theorem dX10_init_115 : decode cX10_init 115 = .ok (.putfield 50, 3) := by decide +kernel
theorem dX10_init_118 : decode cX10_init 118 = .ok (.aload_n 0, 1) := by decide +kernel
theorem dX10_init_119 : decode cX10_init 119 = .ok (.bipush 49, 2) := by decide +kernel
theorem dX10_init_121 : decode cX10_init 121 = .ok (.newarray .int, 2) := by decide +kernel
theorem dX10_init_123 : decode cX10_init 123 = .ok (.putfield 53, 3) := by decide +kernel
theorem dX10_init_126 : decode cX10_init 126 = .ok (.aload_n 0, 1) := by decide +kernel
theorem dX10_init_127 : decode cX10_init 127 = .ok (.bipush 49, 2) := by decide +kernel
theorem dX10_init_129 : decode cX10_init 129 = .ok (.newarray .int, 2) := by decide +kernel
theorem dX10_init_131 : decode cX10_init 131 = .ok (.putfield 56, 3) := by decide +kernel
theorem dX10_init_134 : decode cX10_init 134 = .ok (.aload_n 0, 1) := by decide +kernel
theorem dX10_init_135 : decode cX10_init 135 = .ok (.getfield 7, 3) := by decide +kernel
theorem dX10_init_138 : decode cX10_init 138 = .ok (.bipush 49, 2) := by decide +kernel
theorem dX10_init_140 : decode cX10_init 140 = .ok (.iconst 3, 1) := by decide +kernel
theorem dX10_init_141 : decode cX10_init 141 = .ok (.iastore, 1) := by decide +kernel
theorem dX10_init_142 : decode cX10_init 142 = .ok (.return_, 1) := by decide +kernel
theorem dX10_in_0 : decode cX10_in 0 = .ok (.iload_n 0, 1) := by decide +kernel
theorem dX10_in_1 : decode cX10_in 1 = .ok (.iload_n 1, 1) := by decide +kernel
theorem dX10_in_2 : decode cX10_in 2 = .ok (.if_icmp .lt 12, 3) := by decide +kernel
theorem dX10_in_5 : decode cX10_in 5 = .ok (.iload_n 0, 1) := by decide +kernel
theorem dX10_in_6 : decode cX10_in 6 = .ok (.iload_n 2, 1) := by decide +kernel
theorem dX10_in_7 : decode cX10_in 7 = .ok (.if_icmp .gt 7, 3) := by decide +kernel
theorem dX10_in_10 : decode cX10_in 10 = .ok (.iconst 1, 1) := by decide +kernel
theorem dX10_in_11 : decode cX10_in 11 = .ok (.goto 4, 3) := by decide +kernel
theorem dX10_in_14 : decode cX10_in 14 = .ok (.iconst 0, 1) := by decide +kernel
theorem dX10_in_15 : decode cX10_in 15 = .ok (.ireturn, 1) := by decide +kernel
set_option maxRecDepth 20000 in
theorem ggX10_isLine_X10_in : GoodIn wsX10_isLine wsX10_in := goodIn_r _ [5] (by decide +kernel) (by decide +kernel)
set_option maxRecDepth 20000 in
theorem gX10_isLine_X10_in : GoodIn wsX10_isLine (va_wsS RX10 59 yX10_in wsX10_in) := goodIn_app (goodIn_of _ (by decide +kernel)) ggX10_isLine_X10_in
theorem dX10_isLine_0 : decode cX10_isLine 0 = .ok (.iload_n 1, 1) := by decide +kernel
theorem dX10_isLine_1 : decode cX10_isLine 1 = .ok (.iconst 0, 1) := by decide +kernel
theorem dX10_isLine_2 : decode cX10_isLine 2 = .ok (.aload_n 0, 1) := by decide +kernel
theorem dX10_isLine_3 : decode cX10_isLine 3 = .ok (.getfield 7, 3) := by decide +kernel
theorem dX10_isLine_6 : decode cX10_isLine 6 = .ok (.bipush 49, 2) := by decide +kernel
theorem dX10_isLine_8 : decode cX10_isLine 8 = .ok (.iaload, 1) := by decide +kernel
theorem dX10_isLine_9 : decode cX10_isLine 9 = .ok (.iconst 1, 1) := by decide +kernel
theorem dX10_isLine_10 : decode cX10_isLine 10 = .ok (.isub, 1) := by decide +kernel
theorem dX10_isLine_11 : decode cX10_isLine 11 = .ok (.invokestatic 59, 3) := by decide +kernel
theorem dX10_isLine_14 : decode cX10_isLine 14 = .ok (.ireturn, 1) := by decide +kernel
theorem dX10_at_0 : decode cX10_at 0 = .ok (.aload_n 0, 1) := by decide +kernel
theorem dX10_at_1 : decode cX10_at 1 = .ok (.getfield 7, 3) := by decide +kernel
theorem dX10_at_4 : decode cX10_at 4 = .ok (.bipush 7, 2) := by decide +kernel
theorem dX10_at_6 : decode cX10_at 6 = .ok (.iload_n 1, 1) := by decide +kernel
theorem dX10_at_7 : decode cX10_at 7 = .ok (.imul, 1) := by decide +kernel
theorem dX10_at_8 : decode cX10_at 8 = .ok (.iload_n 2, 1) := by decide +kernel
theorem dX10_at_9 : decode cX10_at 9 = .ok (.iadd, 1) := by decide +kernel
theorem dX10_at_10 : decode cX10_at 10 = .ok (.iaload, 1) := by decide +kernel
theorem dX10_at_11 : decode cX10_at 11 = .ok (.ireturn, 1) := by decide +kernel
theorem dX10_copyRow_0 : decode cX10_copyRow 0 = .ok (.iconst 0, 1) := by decide +kernel
theorem dX10_copyRow_1 : decode cX10_copyRow 1 = .ok (.istore 5, 2) := by decide +kernel
theorem dX10_copyRow_3 : decode cX10_copyRow 3 = .ok (.iload 5, 2) := by decide +kernel
theorem dX10_copyRow_5 : decode cX10_copyRow 5 = .ok (.iload 4, 2) := by decide +kernel
theorem dX10_copyRow_7 : decode cX10_copyRow 7 = .ok (.if_icmp .ge 21, 3) := by decide +kernel
theorem dX10_copyRow_10 : decode cX10_copyRow 10 = .ok (.aload_n 2, 1) := by decide +kernel
theorem dX10_copyRow_11 : decode cX10_copyRow 11 = .ok (.iload_n 3, 1) := by decide +kernel
theorem dX10_copyRow_12 : decode cX10_copyRow 12 = .ok (.iload 5, 2) := by decide +kernel
theorem dX10_copyRow_14 : decode cX10_copyRow 14 = .ok (.iadd, 1) := by decide +kernel
theorem dX10_copyRow_15 : decode cX10_copyRow 15 = .ok (.aload_n 0, 1) := by decide +kernel
theorem dX10_copyRow_16 : decode cX10_copyRow 16 = .ok (.iload_n 1, 1) := by decide +kernel
theorem dX10_copyRow_17 : decode cX10_copyRow 17 = .ok (.iload 5, 2) := by decide +kernel
theorem dX10_copyRow_19 : decode cX10_copyRow 19 = .ok (.iadd, 1) := by decide +kernel
theorem dX10_copyRow_20 : decode cX10_copyRow 20 = .ok (.iaload, 1) := by decide +kernel
theorem dX10_copyRow_21 : decode cX10_copyRow 21 = .ok (.iastore, 1) := by decide +kernel
theorem dX10_copyRow_22 : decode cX10_copyRow 22 = .ok (.iinc 5 1, 3) := by decide +kernel
theorem dX10_copyRow_25 : decode cX10_copyRow 25 = .ok (.goto (-22), 3) := by decide +kernel
theorem dX10_copyRow_28 : decode cX10_copyRow 28 = .ok (.return_, 1) := by decide +kernel
set_option maxRecDepth 20000 in
theorem ggX10_recordRow_X10_copyRow : GoodIn wsX10_recordRow wsX10_copyRow := goodIn_r _ [6] (by decide +kernel) (by decide +kernel)
set_option maxRecDepth 20000 in
theorem gX10_recordRow_X10_copyRow : GoodIn wsX10_recordRow (va_wsS RX10 67 yX10_copyRow wsX10_copyRow) := goodIn_app (goodIn_of _ (by decide +kernel)) ggX10_recordRow_X10_copyRow
theorem dX10_recordRow_0 : decode cX10_recordRow 0 = .ok (.aload_n 0, 1) := by decide +kernel
theorem dX10_recordRow_1 : decode cX10_recordRow 1 = .ok (.getfield 63, 3) := by decide +kernel
theorem dX10_recordRow_4 : decode cX10_recordRow 4 = .ok (.iconst 4, 1) := by decide +kernel
theorem dX10_recordRow_5 : decode cX10_recordRow 5 = .ok (.if_icmp .ne 30, 3) := by decide +kernel
theorem dX10_recordRow_8 : decode cX10_recordRow 8 = .ok (.aload_n 0, 1) := by decide +kernel
theorem dX10_recordRow_9 : decode cX10_recordRow 9 = .ok (.getfield 16, 3) := by decide +kernel
theorem dX10_recordRow_12 : decode cX10_recordRow 12 = .ok (.bipush 50, 2) := by decide +kernel
theorem dX10_recordRow_14 : decode cX10_recordRow 14 = .ok (.aload_n 0, 1) := by decide +kernel
theorem dX10_recordRow_15 : decode cX10_recordRow 15 = .ok (.getfield 16, 3) := by decide +kernel
theorem dX10_recordRow_18 : decode cX10_recordRow 18 = .ok (.iconst 0, 1) := by decide +kernel
theorem dX10_recordRow_19 : decode cX10_recordRow 19 = .ok (.sipush 150, 3) := by decide +kernel
theorem dX10_recordRow_22 : decode cX10_recordRow 22 = .ok (.invokestatic 67, 3) := by decide +kernel
theorem dX10_recordRow_25 : decode cX10_recordRow 25 = .ok (.aload_n 0, 1) := by decide +kernel
theorem dX10_recordRow_26 : decode cX10_recordRow 26 = .ok (.dup, 1) := by decide +kernel
theorem dX10_recordRow_27 : decode cX10_recordRow 27 = .ok (.getfield 63, 3) := by decide +kernel
theorem dX10_recordRow_30 : decode cX10_recordRow 30 = .ok (.iconst 1, 1) := by decide +kernel
theorem dX10_recordRow_31 : decode cX10_recordRow 31 = .ok (.isub, 1) := by decide +kernel
theorem dX10_recordRow_32 : decode cX10_recordRow 32 = .ok (.putfield 63, 3) := by decide +kernel
theorem dX10_recordRow_35 : decode cX10_recordRow 35 = .ok (.aload_n 1, 1) := by decide +kernel
theorem dX10_recordRow_36 : decode cX10_recordRow 36 = .ok (.iconst 0, 1) := by decide +kernel
theorem dX10_recordRow_37 : decode cX10_recordRow 37 = .ok (.aload_n 0, 1) := by decide +kernel
theorem dX10_recordRow_38 : decode cX10_recordRow 38 = .ok (.getfield 16, 3) := by decide +kernel
theorem dX10_recordRow_41 : decode cX10_recordRow 41 = .ok (.bipush 50, 2) := by decide +kernel
theorem dX10_recordRow_43 : decode cX10_recordRow 43 = .ok (.aload_n 0, 1) := by decide +kernel
theorem dX10_recordRow_44 : decode cX10_recordRow 44 = .ok (.getfield 63, 3) := by decide +kernel
theorem dX10_recordRow_47 : decode cX10_recordRow 47 = .ok (.imul, 1) := by decide +kernel
theorem dX10_recordRow_48 : decode cX10_recordRow 48 = .ok (.bipush 50, 2) := by decide +kernel
theorem dX10_recordRow_50 : decode cX10_recordRow 50 = .ok (.invokestatic 67, 3) := by decide +kernel
theorem dX10_recordRow_53 : decode cX10_recordRow 53 = .ok (.aload_n 0, 1) := by decide +kernel
theorem dX10_recordRow_54 : decode cX10_recordRow 54 = .ok (.dup, 1) := by decide +kernel
theorem dX10_recordRow_55 : decode cX10_recordRow 55 = .ok (.getfield 63, 3) := by decide +kernel
theorem dX10_recordRow_58 : decode cX10_recordRow 58 = .ok (.iconst 1, 1) := by decide +kernel
theorem dX10_recordRow_59 : decode cX10_recordRow 59 = .ok (.iadd, 1) := by decide +kernel
theorem dX10_recordRow_60 : decode cX10_recordRow 60 = .ok (.putfield 63, 3) := by decide +kernel
theorem dX10_recordRow_63 : decode cX10_recordRow 63 = .ok (.return_, 1) := by decide +kernel
set_option maxRecDepth 20000 in
theorem ggX10_record_X10_recordRow : GoodIn wsX10_record wsX10_recordRow := goodIn_r _ [6, 7, 8, 9, 10, 5, 11, 12, 13, 14, 15, 16, 17, 18, 19, 20, 21, 22, 23, 24, 25, 26, 27, 28, 29, 30, 31, 32] (by decide +kernel) (by decide +kernel)
set_option maxRecDepth 20000 in
theorem gX10_record_X10_recordRow : GoodIn wsX10_record (wsV RX10 71 RX10 yX10_recordRow wsX10_recordRow) := goodIn_app (goodIn_of _ (by decide +kernel)) ggX10_record_X10_recordRow
theorem dX10_record_0 : decode cX10_record 0 = .ok (.aload_n 0, 1) := by decide +kernel
theorem dX10_record_1 : decode cX10_record 1 = .ok (.aload_n 0, 1) := by decide +kernel
theorem dX10_record_2 : decode cX10_record 2 = .ok (.getfield 7, 3) := by decide +kernel
theorem dX10_record_5 : decode cX10_record 5 = .ok (.invokevirtual 71, 3) := by decide +kernel
theorem dX10_record_8 : decode cX10_record 8 = .ok (.return_, 1) := by decide +kernel
set_option maxRecDepth 20000 in
theorem ggX10_undo_X10_copyRow : GoodIn wsX10_undo wsX10_copyRow := goodIn_r _ [8] (by decide +kernel) (by decide +kernel)
set_option maxRecDepth 20000 in
theorem gX10_undo_X10_copyRow : GoodIn wsX10_undo (va_wsS RX10 67 yX10_copyRow wsX10_copyRow) := goodIn_app (goodIn_of _ (by decide +kernel)) ggX10_undo_X10_copyRow
theorem dX10_undo_0 : decode cX10_undo 0 = .ok (.aload_n 0, 1) := by decide +kernel
theorem dX10_undo_1 : decode cX10_undo 1 = .ok (.getfield 63, 3) := by decide +kernel
theorem dX10_undo_4 : decode cX10_undo 4 = .ok (.ifCond .ne 6, 3) := by decide +kernel
theorem dX10_undo_7 : decode cX10_undo 7 = .ok (.ldc 75, 2) := by decide +kernel
theorem dX10_undo_9 : decode cX10_undo 9 = .ok (.ireturn, 1) := by decide +kernel
theorem dX10_undo_10 : decode cX10_undo 10 = .ok (.aload_n 0, 1) := by decide +kernel
theorem dX10_undo_11 : decode cX10_undo 11 = .ok (.dup, 1) := by decide +kernel
theorem dX10_undo_12 : decode cX10_undo 12 = .ok (.getfield 63, 3) := by decide +kernel
theorem dX10_undo_15 : decode cX10_undo 15 = .ok (.iconst 1, 1) := by decide +kernel
theorem dX10_undo_16 : decode cX10_undo 16 = .ok (.isub, 1) := by decide +kernel
theorem dX10_undo_17 : decode cX10_undo 17 = .ok (.putfield 63, 3) := by decide +kernel
theorem dX10_undo_20 : decode cX10_undo 20 = .ok (.aload_n 0, 1) := by decide +kernel
theorem dX10_undo_21 : decode cX10_undo 21 = .ok (.getfield 16, 3) := by decide +kernel
theorem dX10_undo_24 : decode cX10_undo 24 = .ok (.bipush 50, 2) := by decide +kernel
theorem dX10_undo_26 : decode cX10_undo 26 = .ok (.aload_n 0, 1) := by decide +kernel
theorem dX10_undo_27 : decode cX10_undo 27 = .ok (.getfield 63, 3) := by decide +kernel
theorem dX10_undo_30 : decode cX10_undo 30 = .ok (.imul, 1) := by decide +kernel
theorem dX10_undo_31 : decode cX10_undo 31 = .ok (.aload_n 0, 1) := by decide +kernel
theorem dX10_undo_32 : decode cX10_undo 32 = .ok (.getfield 7, 3) := by decide +kernel
theorem dX10_undo_35 : decode cX10_undo 35 = .ok (.iconst 0, 1) := by decide +kernel
theorem dX10_undo_36 : decode cX10_undo 36 = .ok (.bipush 50, 2) := by decide +kernel
theorem dX10_undo_38 : decode cX10_undo 38 = .ok (.invokestatic 67, 3) := by decide +kernel
theorem dX10_undo_41 : decode cX10_undo 41 = .ok (.aload_n 0, 1) := by decide +kernel
theorem dX10_undo_42 : decode cX10_undo 42 = .ok (.getfield 63, 3) := by decide +kernel
theorem dX10_undo_45 : decode cX10_undo 45 = .ok (.ireturn, 1) := by decide +kernel
set_option maxRecDepth 20000 in
theorem ggX10_keep_X10_copyRow : GoodIn wsX10_keep wsX10_copyRow := goodIn_r _ [7] (by decide +kernel) (by decide +kernel)
set_option maxRecDepth 20000 in
theorem gX10_keep_X10_copyRow : GoodIn wsX10_keep (va_wsS RX10 67 yX10_copyRow wsX10_copyRow) := goodIn_app (goodIn_of _ (by decide +kernel)) ggX10_keep_X10_copyRow
theorem dX10_keep_0 : decode cX10_keep 0 = .ok (.aload_n 0, 1) := by decide +kernel
theorem dX10_keep_1 : decode cX10_keep 1 = .ok (.getfield 7, 3) := by decide +kernel
theorem dX10_keep_4 : decode cX10_keep 4 = .ok (.iconst 0, 1) := by decide +kernel
theorem dX10_keep_5 : decode cX10_keep 5 = .ok (.aload_n 0, 1) := by decide +kernel
theorem dX10_keep_6 : decode cX10_keep 6 = .ok (.getfield 19, 3) := by decide +kernel
theorem dX10_keep_9 : decode cX10_keep 9 = .ok (.iconst 0, 1) := by decide +kernel
theorem dX10_keep_10 : decode cX10_keep 10 = .ok (.bipush 50, 2) := by decide +kernel
theorem dX10_keep_12 : decode cX10_keep 12 = .ok (.invokestatic 67, 3) := by decide +kernel
theorem dX10_keep_15 : decode cX10_keep 15 = .ok (.aload_n 0, 1) := by decide +kernel
theorem dX10_keep_16 : decode cX10_keep 16 = .ok (.iconst 1, 1) := by decide +kernel
theorem dX10_keep_17 : decode cX10_keep 17 = .ok (.putfield 76, 3) := by decide +kernel
theorem dX10_keep_20 : decode cX10_keep 20 = .ok (.aload_n 0, 1) := by decide +kernel
theorem dX10_keep_21 : decode cX10_keep 21 = .ok (.getfield 7, 3) := by decide +kernel
theorem dX10_keep_24 : decode cX10_keep 24 = .ok (.bipush 49, 2) := by decide +kernel
theorem dX10_keep_26 : decode cX10_keep 26 = .ok (.iaload, 1) := by decide +kernel
theorem dX10_keep_27 : decode cX10_keep 27 = .ok (.ireturn, 1) := by decide +kernel
set_option maxRecDepth 20000 in
theorem ggX10_restore_X10_record : GoodIn wsX10_restore wsX10_record := goodIn_r _ [9, 4, 10, 11, 12, 8, 13, 14, 15, 16, 17, 18, 19, 20, 21, 22, 23, 24, 25, 26, 27, 28, 29, 30, 31, 32, 33, 34, 35, 36, 37, 38, 39] (by decide +kernel) (by decide +kernel)
set_option maxRecDepth 20000 in
theorem gX10_restore_X10_record : GoodIn wsX10_restore (wsV RX10 80 RX10 yX10_record wsX10_record) := goodIn_app (goodIn_of _ (by decide +kernel)) ggX10_restore_X10_record
set_option maxRecDepth 20000 in
theorem ggX10_restore_X10_copyRow : GoodIn wsX10_restore wsX10_copyRow := goodIn_r _ [18] (by decide +kernel) (by decide +kernel)
set_option maxRecDepth 20000 in
theorem gX10_restore_X10_copyRow : GoodIn wsX10_restore (va_wsS RX10 67 yX10_copyRow wsX10_copyRow) := goodIn_app (goodIn_of _ (by decide +kernel)) ggX10_restore_X10_copyRow
theorem dX10_restore_0 : decode cX10_restore 0 = .ok (.aload_n 0, 1) := by decide +kernel
theorem dX10_restore_1 : decode cX10_restore 1 = .ok (.getfield 76, 3) := by decide +kernel
theorem dX10_restore_4 : decode cX10_restore 4 = .ok (.ifCond .ne 6, 3) := by decide +kernel
theorem dX10_restore_7 : decode cX10_restore 7 = .ok (.ldc 75, 2) := by decide +kernel
theorem dX10_restore_9 : decode cX10_restore 9 = .ok (.ireturn, 1) := by decide +kernel
theorem dX10_restore_10 : decode cX10_restore 10 = .ok (.aload_n 0, 1) := by decide +kernel
theorem dX10_restore_11 : decode cX10_restore 11 = .ok (.invokevirtual 80, 3) := by decide +kernel
theorem dX10_restore_14 : decode cX10_restore 14 = .ok (.aload_n 0, 1) := by decide +kernel
theorem dX10_restore_15 : decode cX10_restore 15 = .ok (.getfield 19, 3) := by decide +kernel
theorem dX10_restore_18 : decode cX10_restore 18 = .ok (.iconst 0, 1) := by decide +kernel
theorem dX10_restore_19 : decode cX10_restore 19 = .ok (.aload_n 0, 1) := by decide +kernel
theorem dX10_restore_20 : decode cX10_restore 20 = .ok (.getfield 7, 3) := by decide +kernel
theorem dX10_restore_23 : decode cX10_restore 23 = .ok (.iconst 0, 1) := by decide +kernel
theorem dX10_restore_24 : decode cX10_restore 24 = .ok (.bipush 50, 2) := by decide +kernel
theorem dX10_restore_26 : decode cX10_restore 26 = .ok (.invokestatic 67, 3) := by decide +kernel
theorem dX10_restore_29 : decode cX10_restore 29 = .ok (.aload_n 0, 1) := by decide +kernel
theorem dX10_restore_30 : decode cX10_restore 30 = .ok (.getfield 7, 3) := by decide +kernel
theorem dX10_restore_33 : decode cX10_restore 33 = .ok (.bipush 49, 2) := by decide +kernel
theorem dX10_restore_35 : decode cX10_restore 35 = .ok (.iaload, 1) := by decide +kernel
theorem dX10_restore_36 : decode cX10_restore 36 = .ok (.ireturn, 1) := by decide +kernel
theorem dX10_clearAll_0 : decode cX10_clearAll 0 = .ok (.iconst 0, 1) := by decide +kernel
theorem dX10_clearAll_1 : decode cX10_clearAll 1 = .ok (.istore_n 2, 1) := by decide +kernel
theorem dX10_clearAll_2 : decode cX10_clearAll 2 = .ok (.iload_n 2, 1) := by decide +kernel
theorem dX10_clearAll_3 : decode cX10_clearAll 3 = .ok (.bipush 50, 2) := by decide +kernel
theorem dX10_clearAll_5 : decode cX10_clearAll 5 = .ok (.if_icmp .ge 16, 3) := by decide +kernel
theorem dX10_clearAll_8 : decode cX10_clearAll 8 = .ok (.aload_n 0, 1) := by decide +kernel
theorem dX10_clearAll_9 : decode cX10_clearAll 9 = .ok (.getfield 7, 3) := by decide +kernel
theorem dX10_clearAll_12 : decode cX10_clearAll 12 = .ok (.iload_n 2, 1) := by decide +kernel
theorem dX10_clearAll_13 : decode cX10_clearAll 13 = .ok (.iconst 0, 1) := by decide +kernel
theorem dX10_clearAll_14 : decode cX10_clearAll 14 = .ok (.iastore, 1) := by decide +kernel
theorem dX10_clearAll_15 : decode cX10_clearAll 15 = .ok (.iinc 2 1, 3) := by decide +kernel
theorem dX10_clearAll_18 : decode cX10_clearAll 18 = .ok (.goto (-16), 3) := by decide +kernel
theorem dX10_clearAll_21 : decode cX10_clearAll 21 = .ok (.aload_n 0, 1) := by decide +kernel
theorem dX10_clearAll_22 : decode cX10_clearAll 22 = .ok (.getfield 7, 3) := by decide +kernel
theorem dX10_clearAll_25 : decode cX10_clearAll 25 = .ok (.bipush 49, 2) := by decide +kernel
theorem dX10_clearAll_27 : decode cX10_clearAll 27 = .ok (.iload_n 1, 1) := by decide +kernel
theorem dX10_clearAll_28 : decode cX10_clearAll 28 = .ok (.iastore, 1) := by decide +kernel
theorem dX10_clearAll_29 : decode cX10_clearAll 29 = .ok (.return_, 1) := by decide +kernel
set_option maxRecDepth 20000 in
theorem ggX10_clear_X10_in : GoodIn wsX10_clear wsX10_in := goodIn_r _ [6] (by decide +kernel) (by decide +kernel)
set_option maxRecDepth 20000 in
theorem gX10_clear_X10_in : GoodIn wsX10_clear (va_wsS RX10 59 yX10_in wsX10_in) := goodIn_app (goodIn_of _ (by decide +kernel)) ggX10_clear_X10_in
set_option maxRecDepth 20000 in
theorem ggX10_clear_X10_record : GoodIn wsX10_clear wsX10_record := goodIn_r _ [10, 2, 11, 12, 13, 5, 14, 15, 16, 17, 18, 19, 24, 25, 26, 27, 28, 29, 30, 31, 32, 33, 34, 35, 36, 37, 38, 39, 40, 41, 42, 43, 44] (by decide +kernel) (by decide +kernel)
set_option maxRecDepth 20000 in
theorem gX10_clear_X10_record : GoodIn wsX10_clear (wsV RX10 80 RX10 yX10_record wsX10_record) := goodIn_app (goodIn_of _ (by decide +kernel)) ggX10_clear_X10_record
set_option maxRecDepth 20000 in
theorem ggX10_clear_X10_clearAll : GoodIn wsX10_clear wsX10_clearAll := goodIn_r _ [23, 2, 24, 25, 26, 27, 28, 29, 30, 31, 32, 33, 34, 35, 36, 37, 38, 39, 40, 41, 42, 43, 44] (by decide +kernel) (by decide +kernel)
set_option maxRecDepth 20000 in
theorem gX10_clear_X10_clearAll : GoodIn wsX10_clear (wsV RX10 84 RX10 yX10_clearAll wsX10_clearAll) := goodIn_app (goodIn_of _ (by decide +kernel)) ggX10_clear_X10_clearAll
theorem dX10_clear_0 : decode cX10_clear 0 = .ok (.iload_n 1, 1) := by decide +kernel
theorem dX10_clear_1 : decode cX10_clear 1 = .ok (.iconst 1, 1) := by decide +kernel
theorem dX10_clear_2 : decode cX10_clear 2 = .ok (.bipush 7, 2) := by decide +kernel
theorem dX10_clear_4 : decode cX10_clear 4 = .ok (.invokestatic 59, 3) := by decide +kernel
theorem dX10_clear_7 : decode cX10_clear 7 = .ok (.ifCond .ne 6, 3) := by decide +kernel
theorem dX10_clear_10 : decode cX10_clear 10 = .ok (.ldc 83, 2) := by decide +kernel
theorem dX10_clear_12 : decode cX10_clear 12 = .ok (.ireturn, 1) := by decide +kernel
theorem dX10_clear_13 : decode cX10_clear 13 = .ok (.aload_n 0, 1) := by decide +kernel
theorem dX10_clear_14 : decode cX10_clear 14 = .ok (.invokevirtual 80, 3) := by decide +kernel
theorem dX10_clear_17 : decode cX10_clear 17 = .ok (.aload_n 0, 1) := by decide +kernel
theorem dX10_clear_18 : decode cX10_clear 18 = .ok (.getfield 7, 3) := by decide +kernel
theorem dX10_clear_21 : decode cX10_clear 21 = .ok (.bipush 49, 2) := by decide +kernel
theorem dX10_clear_23 : decode cX10_clear 23 = .ok (.iaload, 1) := by decide +kernel
theorem dX10_clear_24 : decode cX10_clear 24 = .ok (.istore_n 2, 1) := by decide +kernel
theorem dX10_clear_25 : decode cX10_clear 25 = .ok (.aload_n 0, 1) := by decide +kernel
theorem dX10_clear_26 : decode cX10_clear 26 = .ok (.iload_n 1, 1) := by decide +kernel
theorem dX10_clear_27 : decode cX10_clear 27 = .ok (.invokevirtual 84, 3) := by decide +kernel
theorem dX10_clear_30 : decode cX10_clear 30 = .ok (.iload_n 2, 1) := by decide +kernel
theorem dX10_clear_31 : decode cX10_clear 31 = .ok (.ireturn, 1) := by decide +kernel
set_option maxRecDepth 20000 in
theorem ggX10_set_X10_isLine : GoodIn wsX10_set wsX10_isLine := goodIn_r _ [9, 4, 10, 11, 8, 12, 30, 31, 32, 33, 34, 35, 36, 37, 38, 39, 40, 41, 42, 43, 44, 45, 46, 47, 48, 49, 50] (by decide +kernel) (by decide +kernel)
set_option maxRecDepth 20000 in
theorem gX10_set_X10_isLine : GoodIn wsX10_set (wsV RX10 88 RX10 yX10_isLine wsX10_isLine) := goodIn_app (goodIn_of _ (by decide +kernel)) ggX10_set_X10_isLine
set_option maxRecDepth 20000 in
theorem ggX10_set_X10_in : GoodIn wsX10_set wsX10_in := goodIn_r _ [12] (by decide +kernel) (by decide +kernel)
set_option maxRecDepth 20000 in
theorem gX10_set_X10_in : GoodIn wsX10_set (va_wsS RX10 59 yX10_in wsX10_in) := goodIn_app (goodIn_of _ (by decide +kernel)) ggX10_set_X10_in
set_option maxRecDepth 20000 in
theorem ggX10_set_X10_at : GoodIn wsX10_set wsX10_at := goodIn_r _ [16, 4, 30, 31, 32, 33, 34, 35, 36, 37, 38, 39, 40, 41, 42, 43, 44, 45, 46, 47, 48, 49, 50] (by decide +kernel) (by decide +kernel)
set_option maxRecDepth 20000 in
theorem gX10_set_X10_at : GoodIn wsX10_set (wsV RX10 93 RX10 yX10_at wsX10_at) := goodIn_app (goodIn_of _ (by decide +kernel)) ggX10_set_X10_at
set_option maxRecDepth 20000 in
theorem ggX10_set_X10_record : GoodIn wsX10_set wsX10_record := goodIn_r _ [20, 4, 21, 22, 23, 8, 24, 25, 26, 27, 28, 29, 30, 31, 32, 33, 34, 35, 36, 37, 38, 39, 40, 41, 42, 43, 44, 45, 46, 47, 48, 49, 50] (by decide +kernel) (by decide +kernel)
set_option maxRecDepth 20000 in
theorem gX10_set_X10_record : GoodIn wsX10_set (wsV RX10 80 RX10 yX10_record wsX10_record) := goodIn_app (goodIn_of _ (by decide +kernel)) ggX10_set_X10_record
theorem dX10_set_0 : decode cX10_set 0 = .ok (.aload_n 0, 1) := by decide +kernel
theorem dX10_set_1 : decode cX10_set 1 = .ok (.iload_n 1, 1) := by decide +kernel
theorem dX10_set_2 : decode cX10_set 2 = .ok (.invokevirtual 88, 3) := by decide +kernel
theorem dX10_set_5 : decode cX10_set 5 = .ok (.ifCond .eq 11, 3) := by decide +kernel
theorem dX10_set_8 : decode cX10_set 8 = .ok (.aload_n 0, 1) := by decide +kernel
theorem dX10_set_9 : decode cX10_set 9 = .ok (.iload_n 2, 1) := by decide +kernel
theorem dX10_set_10 : decode cX10_set 10 = .ok (.invokevirtual 88, 3) := by decide +kernel
theorem dX10_set_13 : decode cX10_set 13 = .ok (.ifCond .ne 6, 3) := by decide +kernel
theorem dX10_set_16 : decode cX10_set 16 = .ok (.ldc 92, 2) := by decide +kernel
theorem dX10_set_18 : decode cX10_set 18 = .ok (.ireturn, 1) := by decide +kernel
theorem dX10_set_19 : decode cX10_set 19 = .ok (.iload_n 3, 1) := by decide +kernel
theorem dX10_set_20 : decode cX10_set 20 = .ok (.bipush (-20), 2) := by decide +kernel
theorem dX10_set_22 : decode cX10_set 22 = .ok (.bipush 20, 2) := by decide +kernel
theorem dX10_set_24 : decode cX10_set 24 = .ok (.invokestatic 59, 3) := by decide +kernel
theorem dX10_set_27 : decode cX10_set 27 = .ok (.ifCond .ne 6, 3) := by decide +kernel
theorem dX10_set_30 : decode cX10_set 30 = .ok (.ldc 83, 2) := by decide +kernel
theorem dX10_set_32 : decode cX10_set 32 = .ok (.ireturn, 1) := by decide +kernel
theorem dX10_set_33 : decode cX10_set 33 = .ok (.aload_n 0, 1) := by decide +kernel
theorem dX10_set_34 : decode cX10_set 34 = .ok (.iload_n 1, 1) := by decide +kernel
theorem dX10_set_35 : decode cX10_set 35 = .ok (.iload_n 2, 1) := by decide +kernel
theorem dX10_set_36 : decode cX10_set 36 = .ok (.invokevirtual 93, 3) := by decide +kernel
theorem dX10_set_39 : decode cX10_set 39 = .ok (.istore 4, 2) := by decide +kernel
theorem dX10_set_41 : decode cX10_set 41 = .ok (.iload 4, 2) := by decide +kernel
theorem dX10_set_43 : decode cX10_set 43 = .ok (.iload_n 3, 1) := by decide +kernel
theorem dX10_set_44 : decode cX10_set 44 = .ok (.if_icmp .ne 6, 3) := by decide +kernel
theorem dX10_set_47 : decode cX10_set 47 = .ok (.ldc 75, 2) := by decide +kernel
theorem dX10_set_49 : decode cX10_set 49 = .ok (.ireturn, 1) := by decide +kernel
theorem dX10_set_50 : decode cX10_set 50 = .ok (.aload_n 0, 1) := by decide +kernel
theorem dX10_set_51 : decode cX10_set 51 = .ok (.invokevirtual 80, 3) := by decide +kernel
theorem dX10_set_54 : decode cX10_set 54 = .ok (.aload_n 0, 1) := by decide +kernel
theorem dX10_set_55 : decode cX10_set 55 = .ok (.getfield 7, 3) := by decide +kernel
theorem dX10_set_58 : decode cX10_set 58 = .ok (.bipush 7, 2) := by decide +kernel
theorem dX10_set_60 : decode cX10_set 60 = .ok (.iload_n 1, 1) := by decide +kernel
theorem dX10_set_61 : decode cX10_set 61 = .ok (.imul, 1) := by decide +kernel
theorem dX10_set_62 : decode cX10_set 62 = .ok (.iload_n 2, 1) := by decide +kernel
theorem dX10_set_63 : decode cX10_set 63 = .ok (.iadd, 1) := by decide +kernel
theorem dX10_set_64 : decode cX10_set 64 = .ok (.iload_n 3, 1) := by decide +kernel
theorem dX10_set_65 : decode cX10_set 65 = .ok (.iastore, 1) := by decide +kernel
theorem dX10_set_66 : decode cX10_set 66 = .ok (.iload 4, 2) := by decide +kernel
theorem dX10_set_68 : decode cX10_set 68 = .ok (.ireturn, 1) := by decide +kernel
set_option maxRecDepth 20000 in
theorem ggX10_takeOld_X10_copyRow : GoodIn wsX10_takeOld wsX10_copyRow := goodIn_r _ [6] (by decide +kernel) (by decide +kernel)
set_option maxRecDepth 20000 in
theorem gX10_takeOld_X10_copyRow : GoodIn wsX10_takeOld (va_wsS RX10 67 yX10_copyRow wsX10_copyRow) := goodIn_app (goodIn_of _ (by decide +kernel)) ggX10_takeOld_X10_copyRow
theorem dX10_takeOld_0 : decode cX10_takeOld 0 = .ok (.aload_n 0, 1) := by decide +kernel
theorem dX10_takeOld_1 : decode cX10_takeOld 1 = .ok (.getfield 7, 3) := by decide +kernel
theorem dX10_takeOld_4 : decode cX10_takeOld 4 = .ok (.iconst 0, 1) := by decide +kernel
theorem dX10_takeOld_5 : decode cX10_takeOld 5 = .ok (.aload_n 0, 1) := by decide +kernel
theorem dX10_takeOld_6 : decode cX10_takeOld 6 = .ok (.getfield 13, 3) := by decide +kernel
theorem dX10_takeOld_9 : decode cX10_takeOld 9 = .ok (.iconst 0, 1) := by decide +kernel
theorem dX10_takeOld_10 : decode cX10_takeOld 10 = .ok (.bipush 50, 2) := by decide +kernel
theorem dX10_takeOld_12 : decode cX10_takeOld 12 = .ok (.invokestatic 67, 3) := by decide +kernel
theorem dX10_takeOld_15 : decode cX10_takeOld 15 = .ok (.return_, 1) := by decide +kernel
set_option maxRecDepth 20000 in
theorem ggX10_unlike_X10_recordRow : GoodIn wsX10_unlike wsX10_recordRow := goodIn_r _ [8, 9, 10, 11, 12, 7, 13, 14, 15, 16, 17, 18, 19, 20, 21, 22, 23, 24, 25, 26, 27, 28, 29, 30, 31, 32, 33, 34] (by decide +kernel) (by decide +kernel)
set_option maxRecDepth 20000 in
theorem gX10_unlike_X10_recordRow : GoodIn wsX10_unlike (wsV RX10 71 RX10 yX10_recordRow wsX10_recordRow) := goodIn_app (goodIn_of _ (by decide +kernel)) ggX10_unlike_X10_recordRow
theorem dX10_unlike_0 : decode cX10_unlike 0 = .ok (.iconst 0, 1) := by decide +kernel
theorem dX10_unlike_1 : decode cX10_unlike 1 = .ok (.istore_n 1, 1) := by decide +kernel
theorem dX10_unlike_2 : decode cX10_unlike 2 = .ok (.iconst 0, 1) := by decide +kernel
theorem dX10_unlike_3 : decode cX10_unlike 3 = .ok (.istore_n 2, 1) := by decide +kernel
theorem dX10_unlike_4 : decode cX10_unlike 4 = .ok (.iload_n 2, 1) := by decide +kernel
theorem dX10_unlike_5 : decode cX10_unlike 5 = .ok (.bipush 49, 2) := by decide +kernel
theorem dX10_unlike_7 : decode cX10_unlike 7 = .ok (.if_icmp .ge 32, 3) := by decide +kernel
theorem dX10_unlike_10 : decode cX10_unlike 10 = .ok (.iload_n 1, 1) := by decide +kernel
theorem dX10_unlike_11 : decode cX10_unlike 11 = .ok (.aload_n 0, 1) := by decide +kernel
theorem dX10_unlike_12 : decode cX10_unlike 12 = .ok (.getfield 7, 3) := by decide +kernel
theorem dX10_unlike_15 : decode cX10_unlike 15 = .ok (.iload_n 2, 1) := by decide +kernel
theorem dX10_unlike_16 : decode cX10_unlike 16 = .ok (.iaload, 1) := by decide +kernel
theorem dX10_unlike_17 : decode cX10_unlike 17 = .ok (.aload_n 0, 1) := by decide +kernel
theorem dX10_unlike_18 : decode cX10_unlike 18 = .ok (.getfield 13, 3) := by decide +kernel
theorem dX10_unlike_21 : decode cX10_unlike 21 = .ok (.iload_n 2, 1) := by decide +kernel
theorem dX10_unlike_22 : decode cX10_unlike 22 = .ok (.iaload, 1) := by decide +kernel
theorem dX10_unlike_23 : decode cX10_unlike 23 = .ok (.if_icmp .ne 7, 3) := by decide +kernel
theorem dX10_unlike_26 : decode cX10_unlike 26 = .ok (.iconst 0, 1) := by decide +kernel
theorem dX10_unlike_27 : decode cX10_unlike 27 = .ok (.goto 4, 3) := by decide +kernel
theorem dX10_unlike_30 : decode cX10_unlike 30 = .ok (.iconst 1, 1) := by decide +kernel
theorem dX10_unlike_31 : decode cX10_unlike 31 = .ok (.iadd, 1) := by decide +kernel
theorem dX10_unlike_32 : decode cX10_unlike 32 = .ok (.istore_n 1, 1) := by decide +kernel
theorem dX10_unlike_33 : decode cX10_unlike 33 = .ok (.iinc 2 1, 3) := by decide +kernel
theorem dX10_unlike_36 : decode cX10_unlike 36 = .ok (.goto (-32), 3) := by decide +kernel
theorem dX10_unlike_39 : decode cX10_unlike 39 = .ok (.iload_n 1, 1) := by decide +kernel
theorem dX10_unlike_40 : decode cX10_unlike 40 = .ok (.ifCond .ne 6, 3) := by decide +kernel
theorem dX10_unlike_43 : decode cX10_unlike 43 = .ok (.ldc 75, 2) := by decide +kernel
theorem dX10_unlike_45 : decode cX10_unlike 45 = .ok (.ireturn, 1) := by decide +kernel
theorem dX10_unlike_46 : decode cX10_unlike 46 = .ok (.aload_n 0, 1) := by decide +kernel
theorem dX10_unlike_47 : decode cX10_unlike 47 = .ok (.aload_n 0, 1) := by decide +kernel
theorem dX10_unlike_48 : decode cX10_unlike 48 = .ok (.getfield 13, 3) := by decide +kernel
theorem dX10_unlike_51 : decode cX10_unlike 51 = .ok (.invokevirtual 71, 3) := by decide +kernel
theorem dX10_unlike_54 : decode cX10_unlike 54 = .ok (.iload_n 1, 1) := by decide +kernel
theorem dX10_unlike_55 : decode cX10_unlike 55 = .ok (.ireturn, 1) := by decide +kernel
set_option maxRecDepth 20000 in
theorem ggX10_swapRows_X10_isLine : GoodIn wsX10_swapRows wsX10_isLine := goodIn_r _ [8, 2, 9, 10, 7, 11, 30, 31, 32, 33, 34, 35, 36, 37, 38, 39, 40, 41, 42, 43, 44, 45, 46, 47, 48, 49, 50] (by decide +kernel) (by decide +kernel)
set_option maxRecDepth 20000 in
theorem gX10_swapRows_X10_isLine : GoodIn wsX10_swapRows (wsV RX10 88 RX10 yX10_isLine wsX10_isLine) := goodIn_app (goodIn_of _ (by decide +kernel)) ggX10_swapRows_X10_isLine
set_option maxRecDepth 20000 in
theorem ggX10_swapRows_X10_takeOld : GoodIn wsX10_swapRows wsX10_takeOld := goodIn_r _ [15, 2, 3, 16, 17, 7, 18, 30, 31, 32, 33, 34, 35, 36, 37, 38, 39, 40, 41, 42, 43, 44, 45, 46, 47, 48, 49, 50] (by decide +kernel) (by decide +kernel)
set_option maxRecDepth 20000 in
theorem gX10_swapRows_X10_takeOld : GoodIn wsX10_swapRows (wsV RX10 97 RX10 yX10_takeOld wsX10_takeOld) := goodIn_app (goodIn_of _ (by decide +kernel)) ggX10_swapRows_X10_takeOld
set_option maxRecDepth 20000 in
theorem ggX10_swapRows_X10_unlike : GoodIn wsX10_swapRows wsX10_unlike := goodIn_r _ [22, 2, 3, 23, 24, 25, 26, 7, 27, 28, 29, 16, 17, 18, 30, 31, 32, 33, 34, 35, 36, 37, 38, 39, 40, 41, 42, 43, 44, 45, 46, 47, 48, 49, 50] (by decide +kernel) (by decide +kernel)
set_option maxRecDepth 20000 in
theorem gX10_swapRows_X10_unlike : GoodIn wsX10_swapRows (wsV RX10 100 RX10 yX10_unlike wsX10_unlike) := goodIn_app (goodIn_of _ (by decide +kernel)) ggX10_swapRows_X10_unlike
theorem dX10_swapRows_0 : decode cX10_swapRows 0 = .ok (.aload_n 0, 1) := by decide +kernel
theorem dX10_swapRows_1 : decode cX10_swapRows 1 = .ok (.iload_n 1, 1) := by decide +kernel
theorem dX10_swapRows_2 : decode cX10_swapRows 2 = .ok (.invokevirtual 88, 3) := by decide +kernel
theorem dX10_swapRows_5 : decode cX10_swapRows 5 = .ok (.ifCond .eq 11, 3) := by decide +kernel
theorem dX10_swapRows_8 : decode cX10_swapRows 8 = .ok (.aload_n 0, 1) := by decide +kernel
theorem dX10_swapRows_9 : decode cX10_swapRows 9 = .ok (.iload_n 2, 1) := by decide +kernel
theorem dX10_swapRows_10 : decode cX10_swapRows 10 = .ok (.invokevirtual 88, 3) := by decide +kernel
theorem dX10_swapRows_13 : decode cX10_swapRows 13 = .ok (.ifCond .ne 6, 3) := by decide +kernel
theorem dX10_swapRows_16 : decode cX10_swapRows 16 = .ok (.ldc 92, 2) := by decide +kernel
theorem dX10_swapRows_18 : decode cX10_swapRows 18 = .ok (.ireturn, 1) := by decide +kernel
theorem dX10_swapRows_19 : decode cX10_swapRows 19 = .ok (.aload_n 0, 1) := by decide +kernel
theorem dX10_swapRows_20 : decode cX10_swapRows 20 = .ok (.invokevirtual 97, 3) := by decide +kernel
theorem dX10_swapRows_23 : decode cX10_swapRows 23 = .ok (.iconst 0, 1) := by decide +kernel
theorem dX10_swapRows_24 : decode cX10_swapRows 24 = .ok (.istore_n 3, 1) := by decide +kernel
theorem dX10_swapRows_25 : decode cX10_swapRows 25 = .ok (.iload_n 3, 1) := by decide +kernel
theorem dX10_swapRows_26 : decode cX10_swapRows 26 = .ok (.bipush 7, 2) := by decide +kernel
theorem dX10_swapRows_28 : decode cX10_swapRows 28 = .ok (.if_icmp .ge 53, 3) := by decide +kernel
theorem dX10_swapRows_31 : decode cX10_swapRows 31 = .ok (.aload_n 0, 1) := by decide +kernel
theorem dX10_swapRows_32 : decode cX10_swapRows 32 = .ok (.getfield 7, 3) := by decide +kernel
theorem dX10_swapRows_35 : decode cX10_swapRows 35 = .ok (.bipush 7, 2) := by decide +kernel
theorem dX10_swapRows_37 : decode cX10_swapRows 37 = .ok (.iload_n 1, 1) := by decide +kernel
theorem dX10_swapRows_38 : decode cX10_swapRows 38 = .ok (.imul, 1) := by decide +kernel
theorem dX10_swapRows_39 : decode cX10_swapRows 39 = .ok (.iload_n 3, 1) := by decide +kernel
theorem dX10_swapRows_40 : decode cX10_swapRows 40 = .ok (.iadd, 1) := by decide +kernel
theorem dX10_swapRows_41 : decode cX10_swapRows 41 = .ok (.aload_n 0, 1) := by decide +kernel
theorem dX10_swapRows_42 : decode cX10_swapRows 42 = .ok (.getfield 13, 3) := by decide +kernel
theorem dX10_swapRows_45 : decode cX10_swapRows 45 = .ok (.bipush 7, 2) := by decide +kernel
theorem dX10_swapRows_47 : decode cX10_swapRows 47 = .ok (.iload_n 2, 1) := by decide +kernel
theorem dX10_swapRows_48 : decode cX10_swapRows 48 = .ok (.imul, 1) := by decide +kernel
theorem dX10_swapRows_49 : decode cX10_swapRows 49 = .ok (.iload_n 3, 1) := by decide +kernel
theorem dX10_swapRows_50 : decode cX10_swapRows 50 = .ok (.iadd, 1) := by decide +kernel
theorem dX10_swapRows_51 : decode cX10_swapRows 51 = .ok (.iaload, 1) := by decide +kernel
theorem dX10_swapRows_52 : decode cX10_swapRows 52 = .ok (.iastore, 1) := by decide +kernel
theorem dX10_swapRows_53 : decode cX10_swapRows 53 = .ok (.aload_n 0, 1) := by decide +kernel
theorem dX10_swapRows_54 : decode cX10_swapRows 54 = .ok (.getfield 7, 3) := by decide +kernel
theorem dX10_swapRows_57 : decode cX10_swapRows 57 = .ok (.bipush 7, 2) := by decide +kernel
theorem dX10_swapRows_59 : decode cX10_swapRows 59 = .ok (.iload_n 2, 1) := by decide +kernel
theorem dX10_swapRows_60 : decode cX10_swapRows 60 = .ok (.imul, 1) := by decide +kernel
theorem dX10_swapRows_61 : decode cX10_swapRows 61 = .ok (.iload_n 3, 1) := by decide +kernel
theorem dX10_swapRows_62 : decode cX10_swapRows 62 = .ok (.iadd, 1) := by decide +kernel
theorem dX10_swapRows_63 : decode cX10_swapRows 63 = .ok (.aload_n 0, 1) := by decide +kernel
theorem dX10_swapRows_64 : decode cX10_swapRows 64 = .ok (.getfield 13, 3) := by decide +kernel
theorem dX10_swapRows_67 : decode cX10_swapRows 67 = .ok (.bipush 7, 2) := by decide +kernel
theorem dX10_swapRows_69 : decode cX10_swapRows 69 = .ok (.iload_n 1, 1) := by decide +kernel
theorem dX10_swapRows_70 : decode cX10_swapRows 70 = .ok (.imul, 1) := by decide +kernel
theorem dX10_swapRows_71 : decode cX10_swapRows 71 = .ok (.iload_n 3, 1) := by decide +kernel
theorem dX10_swapRows_72 : decode cX10_swapRows 72 = .ok (.iadd, 1) := by decide +kernel
theorem dX10_swapRows_73 : decode cX10_swapRows 73 = .ok (.iaload, 1) := by decide +kernel
theorem dX10_swapRows_74 : decode cX10_swapRows 74 = .ok (.iastore, 1) := by decide +kernel
theorem dX10_swapRows_75 : decode cX10_swapRows 75 = .ok (.iinc 3 1, 3) := by decide +kernel
theorem dX10_swapRows_78 : decode cX10_swapRows 78 = .ok (.goto (-53), 3) := by decide +kernel
theorem dX10_swapRows_81 : decode cX10_swapRows 81 = .ok (.aload_n 0, 1) := by decide +kernel
theorem dX10_swapRows_82 : decode cX10_swapRows 82 = .ok (.invokevirtual 100, 3) := by decide +kernel
theorem dX10_swapRows_85 : decode cX10_swapRows 85 = .ok (.ireturn, 1) := by decide +kernel
set_option maxRecDepth 20000 in
theorem ggX10_swapColumns_X10_isLine : GoodIn wsX10_swapColumns wsX10_isLine := goodIn_r _ [8, 2, 9, 10, 7, 11, 30, 31, 32, 33, 34, 35, 36, 37, 38, 39, 40, 41, 42, 43, 44, 45, 46, 47, 48, 49, 50] (by decide +kernel) (by decide +kernel)
set_option maxRecDepth 20000 in
theorem gX10_swapColumns_X10_isLine : GoodIn wsX10_swapColumns (wsV RX10 88 RX10 yX10_isLine wsX10_isLine) := goodIn_app (goodIn_of _ (by decide +kernel)) ggX10_swapColumns_X10_isLine
set_option maxRecDepth 20000 in
theorem ggX10_swapColumns_X10_takeOld : GoodIn wsX10_swapColumns wsX10_takeOld := goodIn_r _ [15, 2, 3, 16, 17, 7, 18, 30, 31, 32, 33, 34, 35, 36, 37, 38, 39, 40, 41, 42, 43, 44, 45, 46, 47, 48, 49, 50] (by decide +kernel) (by decide +kernel)
set_option maxRecDepth 20000 in
theorem gX10_swapColumns_X10_takeOld : GoodIn wsX10_swapColumns (wsV RX10 97 RX10 yX10_takeOld wsX10_takeOld) := goodIn_app (goodIn_of _ (by decide +kernel)) ggX10_swapColumns_X10_takeOld
set_option maxRecDepth 20000 in
theorem ggX10_swapColumns_X10_unlike : GoodIn wsX10_swapColumns wsX10_unlike := goodIn_r _ [22, 2, 3, 23, 24, 25, 26, 7, 27, 28, 29, 16, 17, 18, 30, 31, 32, 33, 34, 35, 36, 37, 38, 39, 40, 41, 42, 43, 44, 45, 46, 47, 48, 49, 50] (by decide +kernel) (by decide +kernel)
set_option maxRecDepth 20000 in
theorem gX10_swapColumns_X10_unlike : GoodIn wsX10_swapColumns (wsV RX10 100 RX10 yX10_unlike wsX10_unlike) := goodIn_app (goodIn_of _ (by decide +kernel)) ggX10_swapColumns_X10_unlike
theorem dX10_swapColumns_0 : decode cX10_swapColumns 0 = .ok (.aload_n 0, 1) := by decide +kernel
theorem dX10_swapColumns_1 : decode cX10_swapColumns 1 = .ok (.iload_n 1, 1) := by decide +kernel
theorem dX10_swapColumns_2 : decode cX10_swapColumns 2 = .ok (.invokevirtual 88, 3) := by decide +kernel
theorem dX10_swapColumns_5 : decode cX10_swapColumns 5 = .ok (.ifCond .eq 11, 3) := by decide +kernel
theorem dX10_swapColumns_8 : decode cX10_swapColumns 8 = .ok (.aload_n 0, 1) := by decide +kernel
theorem dX10_swapColumns_9 : decode cX10_swapColumns 9 = .ok (.iload_n 2, 1) := by decide +kernel
theorem dX10_swapColumns_10 : decode cX10_swapColumns 10 = .ok (.invokevirtual 88, 3) := by decide +kernel
theorem dX10_swapColumns_13 : decode cX10_swapColumns 13 = .ok (.ifCond .ne 6, 3) := by decide +kernel
theorem dX10_swapColumns_16 : decode cX10_swapColumns 16 = .ok (.ldc 92, 2) := by decide +kernel
theorem dX10_swapColumns_18 : decode cX10_swapColumns 18 = .ok (.ireturn, 1) := by decide +kernel
theorem dX10_swapColumns_19 : decode cX10_swapColumns 19 = .ok (.aload_n 0, 1) := by decide +kernel
theorem dX10_swapColumns_20 : decode cX10_swapColumns 20 = .ok (.invokevirtual 97, 3) := by decide +kernel
theorem dX10_swapColumns_23 : decode cX10_swapColumns 23 = .ok (.iconst 0, 1) := by decide +kernel
theorem dX10_swapColumns_24 : decode cX10_swapColumns 24 = .ok (.istore_n 3, 1) := by decide +kernel
theorem dX10_swapColumns_25 : decode cX10_swapColumns 25 = .ok (.iload_n 3, 1) := by decide +kernel
theorem dX10_swapColumns_26 : decode cX10_swapColumns 26 = .ok (.bipush 7, 2) := by decide +kernel
theorem dX10_swapColumns_28 : decode cX10_swapColumns 28 = .ok (.if_icmp .ge 53, 3) := by decide +kernel
theorem dX10_swapColumns_31 : decode cX10_swapColumns 31 = .ok (.aload_n 0, 1) := by decide +kernel
theorem dX10_swapColumns_32 : decode cX10_swapColumns 32 = .ok (.getfield 7, 3) := by decide +kernel
theorem dX10_swapColumns_35 : decode cX10_swapColumns 35 = .ok (.bipush 7, 2) := by decide +kernel
theorem dX10_swapColumns_37 : decode cX10_swapColumns 37 = .ok (.iload_n 3, 1) := by decide +kernel
theorem dX10_swapColumns_38 : decode cX10_swapColumns 38 = .ok (.imul, 1) := by decide +kernel
theorem dX10_swapColumns_39 : decode cX10_swapColumns 39 = .ok (.iload_n 1, 1) := by decide +kernel
theorem dX10_swapColumns_40 : decode cX10_swapColumns 40 = .ok (.iadd, 1) := by decide +kernel
theorem dX10_swapColumns_41 : decode cX10_swapColumns 41 = .ok (.aload_n 0, 1) := by decide +kernel
theorem dX10_swapColumns_42 : decode cX10_swapColumns 42 = .ok (.getfield 13, 3) := by decide +kernel
theorem dX10_swapColumns_45 : decode cX10_swapColumns 45 = .ok (.bipush 7, 2) := by decide +kernel
theorem dX10_swapColumns_47 : decode cX10_swapColumns 47 = .ok (.iload_n 3, 1) := by decide +kernel
theorem dX10_swapColumns_48 : decode cX10_swapColumns 48 = .ok (.imul, 1) := by decide +kernel
theorem dX10_swapColumns_49 : decode cX10_swapColumns 49 = .ok (.iload_n 2, 1) := by decide +kernel
theorem dX10_swapColumns_50 : decode cX10_swapColumns 50 = .ok (.iadd, 1) := by decide +kernel
theorem dX10_swapColumns_51 : decode cX10_swapColumns 51 = .ok (.iaload, 1) := by decide +kernel
theorem dX10_swapColumns_52 : decode cX10_swapColumns 52 = .ok (.iastore, 1) := by decide +kernel
theorem dX10_swapColumns_53 : decode cX10_swapColumns 53 = .ok (.aload_n 0, 1) := by decide +kernel
theorem dX10_swapColumns_54 : decode cX10_swapColumns 54 = .ok (.getfield 7, 3) := by decide +kernel
theorem dX10_swapColumns_57 : decode cX10_swapColumns 57 = .ok (.bipush 7, 2) := by decide +kernel
theorem dX10_swapColumns_59 : decode cX10_swapColumns 59 = .ok (.iload_n 3, 1) := by decide +kernel
theorem dX10_swapColumns_60 : decode cX10_swapColumns 60 = .ok (.imul, 1) := by decide +kernel
theorem dX10_swapColumns_61 : decode cX10_swapColumns 61 = .ok (.iload_n 2, 1) := by decide +kernel
theorem dX10_swapColumns_62 : decode cX10_swapColumns 62 = .ok (.iadd, 1) := by decide +kernel
theorem dX10_swapColumns_63 : decode cX10_swapColumns 63 = .ok (.aload_n 0, 1) := by decide +kernel
theorem dX10_swapColumns_64 : decode cX10_swapColumns 64 = .ok (.getfield 13, 3) := by decide +kernel
theorem dX10_swapColumns_67 : decode cX10_swapColumns 67 = .ok (.bipush 7, 2) := by decide +kernel
theorem dX10_swapColumns_69 : decode cX10_swapColumns 69 = .ok (.iload_n 3, 1) := by decide +kernel
theorem dX10_swapColumns_70 : decode cX10_swapColumns 70 = .ok (.imul, 1) := by decide +kernel
theorem dX10_swapColumns_71 : decode cX10_swapColumns 71 = .ok (.iload_n 1, 1) := by decide +kernel
theorem dX10_swapColumns_72 : decode cX10_swapColumns 72 = .ok (.iadd, 1) := by decide +kernel
theorem dX10_swapColumns_73 : decode cX10_swapColumns 73 = .ok (.iaload, 1) := by decide +kernel
theorem dX10_swapColumns_74 : decode cX10_swapColumns 74 = .ok (.iastore, 1) := by decide +kernel
theorem dX10_swapColumns_75 : decode cX10_swapColumns 75 = .ok (.iinc 3 1, 3) := by decide +kernel
theorem dX10_swapColumns_78 : decode cX10_swapColumns 78 = .ok (.goto (-53), 3) := by decide +kernel
theorem dX10_swapColumns_81 : decode cX10_swapColumns 81 = .ok (.aload_n 0, 1) := by decide +kernel
theorem dX10_swapColumns_82 : decode cX10_swapColumns 82 = .ok (.invokevirtual 100, 3) := by decide +kernel
theorem dX10_swapColumns_85 : decode cX10_swapColumns 85 = .ok (.ireturn, 1) := by decide +kernel
set_option maxRecDepth 20000 in
theorem ggX10_transpose_X10_takeOld : GoodIn wsX10_transpose wsX10_takeOld := goodIn_r _ [7, 1, 2, 8, 9, 6, 10, 22, 23, 24, 25, 26, 27, 28, 29, 30, 31, 32, 33, 34, 35, 36, 37, 38, 39, 40, 41, 42] (by decide +kernel) (by decide +kernel)
set_option maxRecDepth 20000 in
theorem gX10_transpose_X10_takeOld : GoodIn wsX10_transpose (wsV RX10 97 RX10 yX10_takeOld wsX10_takeOld) := goodIn_app (goodIn_of _ (by decide +kernel)) ggX10_transpose_X10_takeOld
set_option maxRecDepth 20000 in
theorem ggX10_transpose_X10_unlike : GoodIn wsX10_transpose wsX10_unlike := goodIn_r _ [14, 1, 2, 15, 16, 17, 18, 6, 19, 20, 21, 8, 9, 10, 22, 23, 24, 25, 26, 27, 28, 29, 30, 31, 32, 33, 34, 35, 36, 37, 38, 39, 40, 41, 42] (by decide +kernel) (by decide +kernel)
set_option maxRecDepth 20000 in
theorem gX10_transpose_X10_unlike : GoodIn wsX10_transpose (wsV RX10 100 RX10 yX10_unlike wsX10_unlike) := goodIn_app (goodIn_of _ (by decide +kernel)) ggX10_transpose_X10_unlike
theorem dX10_transpose_0 : decode cX10_transpose 0 = .ok (.aload_n 0, 1) := by decide +kernel
theorem dX10_transpose_1 : decode cX10_transpose 1 = .ok (.invokevirtual 97, 3) := by decide +kernel
theorem dX10_transpose_4 : decode cX10_transpose 4 = .ok (.iconst 0, 1) := by decide +kernel
theorem dX10_transpose_5 : decode cX10_transpose 5 = .ok (.istore_n 1, 1) := by decide +kernel
theorem dX10_transpose_6 : decode cX10_transpose 6 = .ok (.iload_n 1, 1) := by decide +kernel
theorem dX10_transpose_7 : decode cX10_transpose 7 = .ok (.bipush 7, 2) := by decide +kernel
theorem dX10_transpose_9 : decode cX10_transpose 9 = .ok (.if_icmp .ge 45, 3) := by decide +kernel
theorem dX10_transpose_12 : decode cX10_transpose 12 = .ok (.iconst 0, 1) := by decide +kernel
theorem dX10_transpose_13 : decode cX10_transpose 13 = .ok (.istore_n 2, 1) := by decide +kernel
theorem dX10_transpose_14 : decode cX10_transpose 14 = .ok (.iload_n 2, 1) := by decide +kernel
theorem dX10_transpose_15 : decode cX10_transpose 15 = .ok (.bipush 7, 2) := by decide +kernel
theorem dX10_transpose_17 : decode cX10_transpose 17 = .ok (.if_icmp .ge 31, 3) := by decide +kernel
theorem dX10_transpose_20 : decode cX10_transpose 20 = .ok (.aload_n 0, 1) := by decide +kernel
theorem dX10_transpose_21 : decode cX10_transpose 21 = .ok (.getfield 7, 3) := by decide +kernel
theorem dX10_transpose_24 : decode cX10_transpose 24 = .ok (.bipush 7, 2) := by decide +kernel
theorem dX10_transpose_26 : decode cX10_transpose 26 = .ok (.iload_n 1, 1) := by decide +kernel
theorem dX10_transpose_27 : decode cX10_transpose 27 = .ok (.imul, 1) := by decide +kernel
theorem dX10_transpose_28 : decode cX10_transpose 28 = .ok (.iload_n 2, 1) := by decide +kernel
theorem dX10_transpose_29 : decode cX10_transpose 29 = .ok (.iadd, 1) := by decide +kernel
theorem dX10_transpose_30 : decode cX10_transpose 30 = .ok (.aload_n 0, 1) := by decide +kernel
theorem dX10_transpose_31 : decode cX10_transpose 31 = .ok (.getfield 13, 3) := by decide +kernel
theorem dX10_transpose_34 : decode cX10_transpose 34 = .ok (.bipush 7, 2) := by decide +kernel
theorem dX10_transpose_36 : decode cX10_transpose 36 = .ok (.iload_n 2, 1) := by decide +kernel
theorem dX10_transpose_37 : decode cX10_transpose 37 = .ok (.imul, 1) := by decide +kernel
theorem dX10_transpose_38 : decode cX10_transpose 38 = .ok (.iload_n 1, 1) := by decide +kernel
theorem dX10_transpose_39 : decode cX10_transpose 39 = .ok (.iadd, 1) := by decide +kernel
theorem dX10_transpose_40 : decode cX10_transpose 40 = .ok (.iaload, 1) := by decide +kernel
theorem dX10_transpose_41 : decode cX10_transpose 41 = .ok (.iastore, 1) := by decide +kernel
theorem dX10_transpose_42 : decode cX10_transpose 42 = .ok (.iinc 2 1, 3) := by decide +kernel
theorem dX10_transpose_45 : decode cX10_transpose 45 = .ok (.goto (-31), 3) := by decide +kernel
theorem dX10_transpose_48 : decode cX10_transpose 48 = .ok (.iinc 1 1, 3) := by decide +kernel
theorem dX10_transpose_51 : decode cX10_transpose 51 = .ok (.goto (-45), 3) := by decide +kernel
theorem dX10_transpose_54 : decode cX10_transpose 54 = .ok (.aload_n 0, 1) := by decide +kernel
theorem dX10_transpose_55 : decode cX10_transpose 55 = .ok (.invokevirtual 100, 3) := by decide +kernel
theorem dX10_transpose_58 : decode cX10_transpose 58 = .ok (.ireturn, 1) := by decide +kernel
set_option maxRecDepth 20000 in
theorem ggX10_multiply_X10_isLine : GoodIn wsX10_multiply wsX10_isLine := goodIn_r _ [9, 4, 10, 11, 8, 12, 36, 37, 38, 39, 40, 41, 42, 43, 44, 45, 46, 47, 48, 49, 50, 51, 52, 53, 54, 55, 56] (by decide +kernel) (by decide +kernel)
set_option maxRecDepth 20000 in
theorem gX10_multiply_X10_isLine : GoodIn wsX10_multiply (wsV RX10 88 RX10 yX10_isLine wsX10_isLine) := goodIn_app (goodIn_of _ (by decide +kernel)) ggX10_multiply_X10_isLine
set_option maxRecDepth 20000 in
theorem ggX10_multiply_X10_in : GoodIn wsX10_multiply wsX10_in := goodIn_r _ [12] (by decide +kernel) (by decide +kernel)
set_option maxRecDepth 20000 in
theorem gX10_multiply_X10_in : GoodIn wsX10_multiply (va_wsS RX10 59 yX10_in wsX10_in) := goodIn_app (goodIn_of _ (by decide +kernel)) ggX10_multiply_X10_in
set_option maxRecDepth 20000 in
theorem ggX10_multiply_X10_at : GoodIn wsX10_multiply wsX10_at := goodIn_r _ [16, 4, 36, 37, 38, 39, 40, 41, 42, 43, 44, 45, 46, 47, 48, 49, 50, 51, 52, 53, 54, 55, 56] (by decide +kernel) (by decide +kernel)
set_option maxRecDepth 20000 in
theorem gX10_multiply_X10_at : GoodIn wsX10_multiply (wsV RX10 93 RX10 yX10_at wsX10_at) := goodIn_app (goodIn_of _ (by decide +kernel)) ggX10_multiply_X10_at
set_option maxRecDepth 20000 in
theorem ggX10_multiply_X10_takeOld : GoodIn wsX10_multiply wsX10_takeOld := goodIn_r _ [20, 4, 21, 22, 23, 8, 24, 36, 37, 38, 39, 40, 41, 42, 43, 44, 45, 46, 47, 48, 49, 50, 51, 52, 53, 54, 55, 56] (by decide +kernel) (by decide +kernel)
set_option maxRecDepth 20000 in
theorem gX10_multiply_X10_takeOld : GoodIn wsX10_multiply (wsV RX10 97 RX10 yX10_takeOld wsX10_takeOld) := goodIn_app (goodIn_of _ (by decide +kernel)) ggX10_multiply_X10_takeOld
set_option maxRecDepth 20000 in
theorem ggX10_multiply_X10_unlike : GoodIn wsX10_multiply wsX10_unlike := goodIn_r _ [28, 4, 21, 29, 30, 31, 32, 8, 33, 34, 35, 22, 23, 24, 36, 37, 38, 39, 40, 41, 42, 43, 44, 45, 46, 47, 48, 49, 50, 51, 52, 53, 54, 55, 56] (by decide +kernel) (by decide +kernel)
set_option maxRecDepth 20000 in
theorem gX10_multiply_X10_unlike : GoodIn wsX10_multiply (wsV RX10 100 RX10 yX10_unlike wsX10_unlike) := goodIn_app (goodIn_of _ (by decide +kernel)) ggX10_multiply_X10_unlike
theorem dX10_multiply_0 : decode cX10_multiply 0 = .ok (.aload_n 0, 1) := by decide +kernel
theorem dX10_multiply_1 : decode cX10_multiply 1 = .ok (.iload_n 1, 1) := by decide +kernel
theorem dX10_multiply_2 : decode cX10_multiply 2 = .ok (.invokevirtual 88, 3) := by decide +kernel
theorem dX10_multiply_5 : decode cX10_multiply 5 = .ok (.ifCond .ne 6, 3) := by decide +kernel
theorem dX10_multiply_8 : decode cX10_multiply 8 = .ok (.ldc 92, 2) := by decide +kernel
theorem dX10_multiply_10 : decode cX10_multiply 10 = .ok (.ireturn, 1) := by decide +kernel
theorem dX10_multiply_11 : decode cX10_multiply 11 = .ok (.iload_n 2, 1) := by decide +kernel
theorem dX10_multiply_12 : decode cX10_multiply 12 = .ok (.bipush (-9), 2) := by decide +kernel
theorem dX10_multiply_14 : decode cX10_multiply 14 = .ok (.bipush 9, 2) := by decide +kernel
theorem dX10_multiply_16 : decode cX10_multiply 16 = .ok (.invokestatic 59, 3) := by decide +kernel
theorem dX10_multiply_19 : decode cX10_multiply 19 = .ok (.ifCond .ne 6, 3) := by decide +kernel
theorem dX10_multiply_22 : decode cX10_multiply 22 = .ok (.ldc 83, 2) := by decide +kernel
theorem dX10_multiply_24 : decode cX10_multiply 24 = .ok (.ireturn, 1) := by decide +kernel
theorem dX10_multiply_25 : decode cX10_multiply 25 = .ok (.iconst 0, 1) := by decide +kernel
theorem dX10_multiply_26 : decode cX10_multiply 26 = .ok (.istore_n 3, 1) := by decide +kernel
theorem dX10_multiply_27 : decode cX10_multiply 27 = .ok (.iload_n 3, 1) := by decide +kernel
theorem dX10_multiply_28 : decode cX10_multiply 28 = .ok (.bipush 7, 2) := by decide +kernel
theorem dX10_multiply_30 : decode cX10_multiply 30 = .ok (.if_icmp .ge 30, 3) := by decide +kernel
theorem dX10_multiply_33 : decode cX10_multiply 33 = .ok (.iload_n 2, 1) := by decide +kernel
theorem dX10_multiply_34 : decode cX10_multiply 34 = .ok (.aload_n 0, 1) := by decide +kernel
theorem dX10_multiply_35 : decode cX10_multiply 35 = .ok (.iload_n 1, 1) := by decide +kernel
theorem dX10_multiply_36 : decode cX10_multiply 36 = .ok (.iload_n 3, 1) := by decide +kernel
theorem dX10_multiply_37 : decode cX10_multiply 37 = .ok (.invokevirtual 93, 3) := by decide +kernel
theorem dX10_multiply_40 : decode cX10_multiply 40 = .ok (.imul, 1) := by decide +kernel
theorem dX10_multiply_41 : decode cX10_multiply 41 = .ok (.bipush (-20), 2) := by decide +kernel
theorem dX10_multiply_43 : decode cX10_multiply 43 = .ok (.bipush 20, 2) := by decide +kernel
theorem dX10_multiply_45 : decode cX10_multiply 45 = .ok (.invokestatic 59, 3) := by decide +kernel
theorem dX10_multiply_48 : decode cX10_multiply 48 = .ok (.ifCond .ne 6, 3) := by decide +kernel
theorem dX10_multiply_51 : decode cX10_multiply 51 = .ok (.ldc 104, 2) := by decide +kernel
theorem dX10_multiply_53 : decode cX10_multiply 53 = .ok (.ireturn, 1) := by decide +kernel
theorem dX10_multiply_54 : decode cX10_multiply 54 = .ok (.iinc 3 1, 3) := by decide +kernel
theorem dX10_multiply_57 : decode cX10_multiply 57 = .ok (.goto (-30), 3) := by decide +kernel
theorem dX10_multiply_60 : decode cX10_multiply 60 = .ok (.aload_n 0, 1) := by decide +kernel
theorem dX10_multiply_61 : decode cX10_multiply 61 = .ok (.invokevirtual 97, 3) := by decide +kernel
theorem dX10_multiply_64 : decode cX10_multiply 64 = .ok (.iconst 0, 1) := by decide +kernel
theorem dX10_multiply_65 : decode cX10_multiply 65 = .ok (.istore_n 3, 1) := by decide +kernel
theorem dX10_multiply_66 : decode cX10_multiply 66 = .ok (.iload_n 3, 1) := by decide +kernel
theorem dX10_multiply_67 : decode cX10_multiply 67 = .ok (.bipush 7, 2) := by decide +kernel
theorem dX10_multiply_69 : decode cX10_multiply 69 = .ok (.if_icmp .ge 24, 3) := by decide +kernel
theorem dX10_multiply_72 : decode cX10_multiply 72 = .ok (.aload_n 0, 1) := by decide +kernel
theorem dX10_multiply_73 : decode cX10_multiply 73 = .ok (.getfield 7, 3) := by decide +kernel
theorem dX10_multiply_76 : decode cX10_multiply 76 = .ok (.bipush 7, 2) := by decide +kernel
theorem dX10_multiply_78 : decode cX10_multiply 78 = .ok (.iload_n 1, 1) := by decide +kernel
theorem dX10_multiply_79 : decode cX10_multiply 79 = .ok (.imul, 1) := by decide +kernel
theorem dX10_multiply_80 : decode cX10_multiply 80 = .ok (.iload_n 3, 1) := by decide +kernel
theorem dX10_multiply_81 : decode cX10_multiply 81 = .ok (.iadd, 1) := by decide +kernel
theorem dX10_multiply_82 : decode cX10_multiply 82 = .ok (.dup2, 1) := by decide +kernel
theorem dX10_multiply_83 : decode cX10_multiply 83 = .ok (.iaload, 1) := by decide +kernel
theorem dX10_multiply_84 : decode cX10_multiply 84 = .ok (.iload_n 2, 1) := by decide +kernel
theorem dX10_multiply_85 : decode cX10_multiply 85 = .ok (.imul, 1) := by decide +kernel
theorem dX10_multiply_86 : decode cX10_multiply 86 = .ok (.iastore, 1) := by decide +kernel
theorem dX10_multiply_87 : decode cX10_multiply 87 = .ok (.iinc 3 1, 3) := by decide +kernel
theorem dX10_multiply_90 : decode cX10_multiply 90 = .ok (.goto (-24), 3) := by decide +kernel
theorem dX10_multiply_93 : decode cX10_multiply 93 = .ok (.aload_n 0, 1) := by decide +kernel
theorem dX10_multiply_94 : decode cX10_multiply 94 = .ok (.invokevirtual 100, 3) := by decide +kernel
theorem dX10_multiply_97 : decode cX10_multiply 97 = .ok (.ireturn, 1) := by decide +kernel
theorem dX10_firstOrder_0 : decode cX10_firstOrder 0 = .ok (.iconst 0, 1) := by decide +kernel
theorem dX10_firstOrder_1 : decode cX10_firstOrder 1 = .ok (.istore_n 2, 1) := by decide +kernel
theorem dX10_firstOrder_2 : decode cX10_firstOrder 2 = .ok (.iload_n 2, 1) := by decide +kernel
theorem dX10_firstOrder_3 : decode cX10_firstOrder 3 = .ok (.iload_n 1, 1) := by decide +kernel
theorem dX10_firstOrder_4 : decode cX10_firstOrder 4 = .ok (.if_icmp .ge 16, 3) := by decide +kernel
theorem dX10_firstOrder_7 : decode cX10_firstOrder 7 = .ok (.aload_n 0, 1) := by decide +kernel
theorem dX10_firstOrder_8 : decode cX10_firstOrder 8 = .ok (.getfield 25, 3) := by decide +kernel
theorem dX10_firstOrder_11 : decode cX10_firstOrder 11 = .ok (.iload_n 2, 1) := by decide +kernel
theorem dX10_firstOrder_12 : decode cX10_firstOrder 12 = .ok (.iload_n 2, 1) := by decide +kernel
theorem dX10_firstOrder_13 : decode cX10_firstOrder 13 = .ok (.iastore, 1) := by decide +kernel
theorem dX10_firstOrder_14 : decode cX10_firstOrder 14 = .ok (.iinc 2 1, 3) := by decide +kernel
theorem dX10_firstOrder_17 : decode cX10_firstOrder 17 = .ok (.goto (-15), 3) := by decide +kernel
theorem dX10_firstOrder_20 : decode cX10_firstOrder 20 = .ok (.return_, 1) := by decide +kernel
theorem dX10_exchange_0 : decode cX10_exchange 0 = .ok (.aload_n 0, 1) := by decide +kernel
theorem dX10_exchange_1 : decode cX10_exchange 1 = .ok (.getfield 25, 3) := by decide +kernel
theorem dX10_exchange_4 : decode cX10_exchange 4 = .ok (.iload_n 1, 1) := by decide +kernel
theorem dX10_exchange_5 : decode cX10_exchange 5 = .ok (.iaload, 1) := by decide +kernel
theorem dX10_exchange_6 : decode cX10_exchange 6 = .ok (.istore_n 3, 1) := by decide +kernel
theorem dX10_exchange_7 : decode cX10_exchange 7 = .ok (.aload_n 0, 1) := by decide +kernel
theorem dX10_exchange_8 : decode cX10_exchange 8 = .ok (.getfield 25, 3) := by decide +kernel
theorem dX10_exchange_11 : decode cX10_exchange 11 = .ok (.iload_n 1, 1) := by decide +kernel
theorem dX10_exchange_12 : decode cX10_exchange 12 = .ok (.aload_n 0, 1) := by decide +kernel
theorem dX10_exchange_13 : decode cX10_exchange 13 = .ok (.getfield 25, 3) := by decide +kernel
theorem dX10_exchange_16 : decode cX10_exchange 16 = .ok (.iload_n 2, 1) := by decide +kernel
theorem dX10_exchange_17 : decode cX10_exchange 17 = .ok (.iaload, 1) := by decide +kernel
theorem dX10_exchange_18 : decode cX10_exchange 18 = .ok (.iastore, 1) := by decide +kernel
theorem dX10_exchange_19 : decode cX10_exchange 19 = .ok (.aload_n 0, 1) := by decide +kernel
theorem dX10_exchange_20 : decode cX10_exchange 20 = .ok (.getfield 25, 3) := by decide +kernel
theorem dX10_exchange_23 : decode cX10_exchange 23 = .ok (.iload_n 2, 1) := by decide +kernel
theorem dX10_exchange_24 : decode cX10_exchange 24 = .ok (.iload_n 3, 1) := by decide +kernel
theorem dX10_exchange_25 : decode cX10_exchange 25 = .ok (.iastore, 1) := by decide +kernel
theorem dX10_exchange_26 : decode cX10_exchange 26 = .ok (.return_, 1) := by decide +kernel
set_option maxRecDepth 20000 in
theorem ggX10_nextOrder_X10_exchange : GoodIn wsX10_nextOrder wsX10_exchange := goodIn_r _ [6, 1, 7, 8, 9, 10, 11, 12, 13, 14, 15, 16, 17, 18, 19, 20, 21, 22, 23, 24, 25, 26, 27] (by decide +kernel) (by decide +kernel)
set_option maxRecDepth 20000 in
theorem gX10_nextOrder_X10_exchange : GoodIn wsX10_nextOrder (wsV RX10 105 RX10 yX10_exchange wsX10_exchange) := goodIn_app (goodIn_of _ (by decide +kernel)) ggX10_nextOrder_X10_exchange
theorem dX10_nextOrder_0 : decode cX10_nextOrder 0 = .ok (.iload_n 1, 1) := by decide +kernel
theorem dX10_nextOrder_1 : decode cX10_nextOrder 1 = .ok (.iconst 2, 1) := by decide +kernel
theorem dX10_nextOrder_2 : decode cX10_nextOrder 2 = .ok (.isub, 1) := by decide +kernel
theorem dX10_nextOrder_3 : decode cX10_nextOrder 3 = .ok (.istore_n 2, 1) := by decide +kernel
theorem dX10_nextOrder_4 : decode cX10_nextOrder 4 = .ok (.iload_n 2, 1) := by decide +kernel
theorem dX10_nextOrder_5 : decode cX10_nextOrder 5 = .ok (.ifCond .lt 26, 3) := by decide +kernel
theorem dX10_nextOrder_8 : decode cX10_nextOrder 8 = .ok (.aload_n 0, 1) := by decide +kernel
theorem dX10_nextOrder_9 : decode cX10_nextOrder 9 = .ok (.getfield 25, 3) := by decide +kernel
theorem dX10_nextOrder_12 : decode cX10_nextOrder 12 = .ok (.iload_n 2, 1) := by decide +kernel
theorem dX10_nextOrder_13 : decode cX10_nextOrder 13 = .ok (.iaload, 1) := by decide +kernel
theorem dX10_nextOrder_14 : decode cX10_nextOrder 14 = .ok (.aload_n 0, 1) := by decide +kernel
theorem dX10_nextOrder_15 : decode cX10_nextOrder 15 = .ok (.getfield 25, 3) := by decide +kernel
theorem dX10_nextOrder_18 : decode cX10_nextOrder 18 = .ok (.iload_n 2, 1) := by decide +kernel
theorem dX10_nextOrder_19 : decode cX10_nextOrder 19 = .ok (.iconst 1, 1) := by decide +kernel
theorem dX10_nextOrder_20 : decode cX10_nextOrder 20 = .ok (.iadd, 1) := by decide +kernel
theorem dX10_nextOrder_21 : decode cX10_nextOrder 21 = .ok (.iaload, 1) := by decide +kernel
theorem dX10_nextOrder_22 : decode cX10_nextOrder 22 = .ok (.if_icmp .le 9, 3) := by decide +kernel
theorem dX10_nextOrder_25 : decode cX10_nextOrder 25 = .ok (.iinc 2 (-1), 3) := by decide +kernel
theorem dX10_nextOrder_28 : decode cX10_nextOrder 28 = .ok (.goto (-24), 3) := by decide +kernel
theorem dX10_nextOrder_31 : decode cX10_nextOrder 31 = .ok (.iload_n 2, 1) := by decide +kernel
theorem dX10_nextOrder_32 : decode cX10_nextOrder 32 = .ok (.ifCond .ge 5, 3) := by decide +kernel
theorem dX10_nextOrder_35 : decode cX10_nextOrder 35 = .ok (.iconst 0, 1) := by decide +kernel
theorem dX10_nextOrder_36 : decode cX10_nextOrder 36 = .ok (.ireturn, 1) := by decide +kernel
theorem dX10_nextOrder_37 : decode cX10_nextOrder 37 = .ok (.iload_n 1, 1) := by decide +kernel
theorem dX10_nextOrder_38 : decode cX10_nextOrder 38 = .ok (.iconst 1, 1) := by decide +kernel
theorem dX10_nextOrder_39 : decode cX10_nextOrder 39 = .ok (.isub, 1) := by decide +kernel
theorem dX10_nextOrder_40 : decode cX10_nextOrder 40 = .ok (.istore_n 3, 1) := by decide +kernel
theorem dX10_nextOrder_41 : decode cX10_nextOrder 41 = .ok (.aload_n 0, 1) := by decide +kernel
theorem dX10_nextOrder_42 : decode cX10_nextOrder 42 = .ok (.getfield 25, 3) := by decide +kernel
theorem dX10_nextOrder_45 : decode cX10_nextOrder 45 = .ok (.iload_n 3, 1) := by decide +kernel
theorem dX10_nextOrder_46 : decode cX10_nextOrder 46 = .ok (.iaload, 1) := by decide +kernel
theorem dX10_nextOrder_47 : decode cX10_nextOrder 47 = .ok (.aload_n 0, 1) := by decide +kernel
theorem dX10_nextOrder_48 : decode cX10_nextOrder 48 = .ok (.getfield 25, 3) := by decide +kernel
theorem dX10_nextOrder_51 : decode cX10_nextOrder 51 = .ok (.iload_n 2, 1) := by decide +kernel
theorem dX10_nextOrder_52 : decode cX10_nextOrder 52 = .ok (.iaload, 1) := by decide +kernel
theorem dX10_nextOrder_53 : decode cX10_nextOrder 53 = .ok (.if_icmp .ge 9, 3) := by decide +kernel
theorem dX10_nextOrder_56 : decode cX10_nextOrder 56 = .ok (.iinc 3 (-1), 3) := by decide +kernel
theorem dX10_nextOrder_59 : decode cX10_nextOrder 59 = .ok (.goto (-18), 3) := by decide +kernel
theorem dX10_nextOrder_62 : decode cX10_nextOrder 62 = .ok (.aload_n 0, 1) := by decide +kernel
theorem dX10_nextOrder_63 : decode cX10_nextOrder 63 = .ok (.iload_n 2, 1) := by decide +kernel
theorem dX10_nextOrder_64 : decode cX10_nextOrder 64 = .ok (.iload_n 3, 1) := by decide +kernel
theorem dX10_nextOrder_65 : decode cX10_nextOrder 65 = .ok (.invokevirtual 105, 3) := by decide +kernel
theorem dX10_nextOrder_68 : decode cX10_nextOrder 68 = .ok (.iload_n 2, 1) := by decide +kernel
theorem dX10_nextOrder_69 : decode cX10_nextOrder 69 = .ok (.iconst 1, 1) := by decide +kernel
theorem dX10_nextOrder_70 : decode cX10_nextOrder 70 = .ok (.iadd, 1) := by decide +kernel
theorem dX10_nextOrder_71 : decode cX10_nextOrder 71 = .ok (.istore 4, 2) := by decide +kernel
theorem dX10_nextOrder_73 : decode cX10_nextOrder 73 = .ok (.iload_n 1, 1) := by decide +kernel
theorem dX10_nextOrder_74 : decode cX10_nextOrder 74 = .ok (.iconst 1, 1) := by decide +kernel
theorem dX10_nextOrder_75 : decode cX10_nextOrder 75 = .ok (.isub, 1) := by decide +kernel
theorem dX10_nextOrder_76 : decode cX10_nextOrder 76 = .ok (.istore 5, 2) := by decide +kernel
theorem dX10_nextOrder_78 : decode cX10_nextOrder 78 = .ok (.iload 4, 2) := by decide +kernel
theorem dX10_nextOrder_80 : decode cX10_nextOrder 80 = .ok (.iload 5, 2) := by decide +kernel
theorem dX10_nextOrder_82 : decode cX10_nextOrder 82 = .ok (.if_icmp .ge 20, 3) := by decide +kernel
theorem dX10_nextOrder_85 : decode cX10_nextOrder 85 = .ok (.aload_n 0, 1) := by decide +kernel
theorem dX10_nextOrder_86 : decode cX10_nextOrder 86 = .ok (.iload 4, 2) := by decide +kernel
theorem dX10_nextOrder_88 : decode cX10_nextOrder 88 = .ok (.iload 5, 2) := by decide +kernel
theorem dX10_nextOrder_90 : decode cX10_nextOrder 90 = .ok (.invokevirtual 105, 3) := by decide +kernel
theorem dX10_nextOrder_93 : decode cX10_nextOrder 93 = .ok (.iinc 4 1, 3) := by decide +kernel
theorem dX10_nextOrder_96 : decode cX10_nextOrder 96 = .ok (.iinc 5 (-1), 3) := by decide +kernel
theorem dX10_nextOrder_99 : decode cX10_nextOrder 99 = .ok (.goto (-21), 3) := by decide +kernel
theorem dX10_nextOrder_102 : decode cX10_nextOrder 102 = .ok (.iconst 1, 1) := by decide +kernel
theorem dX10_nextOrder_103 : decode cX10_nextOrder 103 = .ok (.ireturn, 1) := by decide +kernel
theorem dX10_number_0 : decode cX10_number 0 = .ok (.iconst 0, 1) := by decide +kernel
theorem dX10_number_1 : decode cX10_number 1 = .ok (.istore_n 1, 1) := by decide +kernel
theorem dX10_number_2 : decode cX10_number 2 = .ok (.iconst 0, 1) := by decide +kernel
theorem dX10_number_3 : decode cX10_number 3 = .ok (.istore_n 2, 1) := by decide +kernel
theorem dX10_number_4 : decode cX10_number 4 = .ok (.iload_n 2, 1) := by decide +kernel
theorem dX10_number_5 : decode cX10_number 5 = .ok (.aload_n 0, 1) := by decide +kernel
theorem dX10_number_6 : decode cX10_number 6 = .ok (.getfield 7, 3) := by decide +kernel
theorem dX10_number_9 : decode cX10_number 9 = .ok (.bipush 49, 2) := by decide +kernel
theorem dX10_number_11 : decode cX10_number 11 = .ok (.iaload, 1) := by decide +kernel
theorem dX10_number_12 : decode cX10_number 12 = .ok (.if_icmp .ge 21, 3) := by decide +kernel
theorem dX10_number_15 : decode cX10_number 15 = .ok (.bipush 10, 2) := by decide +kernel
theorem dX10_number_17 : decode cX10_number 17 = .ok (.iload_n 1, 1) := by decide +kernel
theorem dX10_number_18 : decode cX10_number 18 = .ok (.imul, 1) := by decide +kernel
theorem dX10_number_19 : decode cX10_number 19 = .ok (.aload_n 0, 1) := by decide +kernel
theorem dX10_number_20 : decode cX10_number 20 = .ok (.getfield 25, 3) := by decide +kernel
theorem dX10_number_23 : decode cX10_number 23 = .ok (.iload_n 2, 1) := by decide +kernel
theorem dX10_number_24 : decode cX10_number 24 = .ok (.iaload, 1) := by decide +kernel
theorem dX10_number_25 : decode cX10_number 25 = .ok (.iadd, 1) := by decide +kernel
theorem dX10_number_26 : decode cX10_number 26 = .ok (.istore_n 1, 1) := by decide +kernel
theorem dX10_number_27 : decode cX10_number 27 = .ok (.iinc 2 1, 3) := by decide +kernel
theorem dX10_number_30 : decode cX10_number 30 = .ok (.goto (-26), 3) := by decide +kernel
theorem dX10_number_33 : decode cX10_number 33 = .ok (.iload_n 1, 1) := by decide +kernel
theorem dX10_number_34 : decode cX10_number 34 = .ok (.ireturn, 1) := by decide +kernel
theorem dX10_isDiagonal_0 : decode cX10_isDiagonal 0 = .ok (.iload_n 1, 1) := by decide +kernel
theorem dX10_isDiagonal_1 : decode cX10_isDiagonal 1 = .ok (.ifCond .ge 5, 3) := by decide +kernel
theorem dX10_isDiagonal_4 : decode cX10_isDiagonal 4 = .ok (.iconst 0, 1) := by decide +kernel
theorem dX10_isDiagonal_5 : decode cX10_isDiagonal 5 = .ok (.ireturn, 1) := by decide +kernel
theorem dX10_isDiagonal_6 : decode cX10_isDiagonal 6 = .ok (.iload_n 1, 1) := by decide +kernel
theorem dX10_isDiagonal_7 : decode cX10_isDiagonal 7 = .ok (.istore_n 2, 1) := by decide +kernel
theorem dX10_isDiagonal_8 : decode cX10_isDiagonal 8 = .ok (.iconst 0, 1) := by decide +kernel
theorem dX10_isDiagonal_9 : decode cX10_isDiagonal 9 = .ok (.istore_n 3, 1) := by decide +kernel
theorem dX10_isDiagonal_10 : decode cX10_isDiagonal 10 = .ok (.aload_n 0, 1) := by decide +kernel
theorem dX10_isDiagonal_11 : decode cX10_isDiagonal 11 = .ok (.getfield 7, 3) := by decide +kernel
theorem dX10_isDiagonal_14 : decode cX10_isDiagonal 14 = .ok (.bipush 49, 2) := by decide +kernel
theorem dX10_isDiagonal_16 : decode cX10_isDiagonal 16 = .ok (.iaload, 1) := by decide +kernel
theorem dX10_isDiagonal_17 : decode cX10_isDiagonal 17 = .ok (.iconst 1, 1) := by decide +kernel
theorem dX10_isDiagonal_18 : decode cX10_isDiagonal 18 = .ok (.isub, 1) := by decide +kernel
theorem dX10_isDiagonal_19 : decode cX10_isDiagonal 19 = .ok (.istore 4, 2) := by decide +kernel
theorem dX10_isDiagonal_21 : decode cX10_isDiagonal 21 = .ok (.iload 4, 2) := by decide +kernel
theorem dX10_isDiagonal_23 : decode cX10_isDiagonal 23 = .ok (.ifCond .lt 37, 3) := by decide +kernel
theorem dX10_isDiagonal_26 : decode cX10_isDiagonal 26 = .ok (.aload_n 0, 1) := by decide +kernel
theorem dX10_isDiagonal_27 : decode cX10_isDiagonal 27 = .ok (.getfield 25, 3) := by decide +kernel
theorem dX10_isDiagonal_30 : decode cX10_isDiagonal 30 = .ok (.iload 4, 2) := by decide +kernel
theorem dX10_isDiagonal_32 : decode cX10_isDiagonal 32 = .ok (.iload_n 2, 1) := by decide +kernel
theorem dX10_isDiagonal_33 : decode cX10_isDiagonal 33 = .ok (.bipush 10, 2) := by decide +kernel
theorem dX10_isDiagonal_35 : decode cX10_isDiagonal 35 = .ok (.irem, 1) := by decide +kernel
theorem dX10_isDiagonal_36 : decode cX10_isDiagonal 36 = .ok (.iastore, 1) := by decide +kernel
theorem dX10_isDiagonal_37 : decode cX10_isDiagonal 37 = .ok (.iload_n 3, 1) := by decide +kernel
theorem dX10_isDiagonal_38 : decode cX10_isDiagonal 38 = .ok (.iconst 1, 1) := by decide +kernel
theorem dX10_isDiagonal_39 : decode cX10_isDiagonal 39 = .ok (.aload_n 0, 1) := by decide +kernel
theorem dX10_isDiagonal_40 : decode cX10_isDiagonal 40 = .ok (.getfield 25, 3) := by decide +kernel
theorem dX10_isDiagonal_43 : decode cX10_isDiagonal 43 = .ok (.iload 4, 2) := by decide +kernel
theorem dX10_isDiagonal_45 : decode cX10_isDiagonal 45 = .ok (.iaload, 1) := by decide +kernel
theorem dX10_isDiagonal_46 : decode cX10_isDiagonal 46 = .ok (.ishl, 1) := by decide +kernel
theorem dX10_isDiagonal_47 : decode cX10_isDiagonal 47 = .ok (.ior, 1) := by decide +kernel
theorem dX10_isDiagonal_48 : decode cX10_isDiagonal 48 = .ok (.istore_n 3, 1) := by decide +kernel
theorem dX10_isDiagonal_49 : decode cX10_isDiagonal 49 = .ok (.iload_n 2, 1) := by decide +kernel
theorem dX10_isDiagonal_50 : decode cX10_isDiagonal 50 = .ok (.bipush 10, 2) := by decide +kernel
theorem dX10_isDiagonal_52 : decode cX10_isDiagonal 52 = .ok (.idiv, 1) := by decide +kernel
theorem dX10_isDiagonal_53 : decode cX10_isDiagonal 53 = .ok (.istore_n 2, 1) := by decide +kernel
theorem dX10_isDiagonal_54 : decode cX10_isDiagonal 54 = .ok (.iinc 4 (-1), 3) := by decide +kernel
theorem dX10_isDiagonal_57 : decode cX10_isDiagonal 57 = .ok (.goto (-36), 3) := by decide +kernel
theorem dX10_isDiagonal_60 : decode cX10_isDiagonal 60 = .ok (.iload_n 2, 1) := by decide +kernel
theorem dX10_isDiagonal_61 : decode cX10_isDiagonal 61 = .ok (.ifCond .ne 22, 3) := by decide +kernel
theorem dX10_isDiagonal_64 : decode cX10_isDiagonal 64 = .ok (.iload_n 3, 1) := by decide +kernel
theorem dX10_isDiagonal_65 : decode cX10_isDiagonal 65 = .ok (.iconst 1, 1) := by decide +kernel
theorem dX10_isDiagonal_66 : decode cX10_isDiagonal 66 = .ok (.aload_n 0, 1) := by decide +kernel
theorem dX10_isDiagonal_67 : decode cX10_isDiagonal 67 = .ok (.getfield 7, 3) := by decide +kernel
theorem dX10_isDiagonal_70 : decode cX10_isDiagonal 70 = .ok (.bipush 49, 2) := by decide +kernel
theorem dX10_isDiagonal_72 : decode cX10_isDiagonal 72 = .ok (.iaload, 1) := by decide +kernel
theorem dX10_isDiagonal_73 : decode cX10_isDiagonal 73 = .ok (.ishl, 1) := by decide +kernel
theorem dX10_isDiagonal_74 : decode cX10_isDiagonal 74 = .ok (.iconst 1, 1) := by decide +kernel
theorem dX10_isDiagonal_75 : decode cX10_isDiagonal 75 = .ok (.isub, 1) := by decide +kernel
theorem dX10_isDiagonal_76 : decode cX10_isDiagonal 76 = .ok (.if_icmp .ne 7, 3) := by decide +kernel
theorem dX10_isDiagonal_79 : decode cX10_isDiagonal 79 = .ok (.iconst 1, 1) := by decide +kernel
theorem dX10_isDiagonal_80 : decode cX10_isDiagonal 80 = .ok (.goto 4, 3) := by decide +kernel
theorem dX10_isDiagonal_83 : decode cX10_isDiagonal 83 = .ok (.iconst 0, 1) := by decide +kernel
theorem dX10_isDiagonal_84 : decode cX10_isDiagonal 84 = .ok (.ireturn, 1) := by decide +kernel
set_option maxRecDepth 20000 in
theorem ggX10_add_X10_isDiagonal : GoodIn wsX10_add wsX10_isDiagonal := goodIn_r _ [9, 2, 3, 27, 28, 29, 30, 31, 32, 33, 34, 35, 36, 37, 38, 39, 40, 41, 42, 43, 44, 45, 46, 47] (by decide +kernel) (by decide +kernel)
set_option maxRecDepth 20000 in
theorem gX10_add_X10_isDiagonal : GoodIn wsX10_add (wsV RX10 109 RX10 yX10_isDiagonal wsX10_isDiagonal) := goodIn_app (goodIn_of _ (by decide +kernel)) ggX10_add_X10_isDiagonal
set_option maxRecDepth 20000 in
theorem ggX10_add_X10_at : GoodIn wsX10_add wsX10_at := goodIn_r _ [13, 2, 27, 28, 29, 30, 31, 32, 33, 34, 35, 36, 37, 38, 39, 40, 41, 42, 43, 44, 45, 46, 47] (by decide +kernel) (by decide +kernel)
set_option maxRecDepth 20000 in
theorem gX10_add_X10_at : GoodIn wsX10_add (wsV RX10 93 RX10 yX10_at wsX10_at) := goodIn_app (goodIn_of _ (by decide +kernel)) ggX10_add_X10_at
set_option maxRecDepth 20000 in
theorem ggX10_add_X10_record : GoodIn wsX10_add wsX10_record := goodIn_r _ [17, 2, 18, 19, 20, 8, 21, 22, 23, 24, 25, 26, 27, 28, 29, 30, 31, 32, 33, 34, 35, 36, 37, 38, 39, 40, 41, 42, 43, 44, 45, 46, 47] (by decide +kernel) (by decide +kernel)
set_option maxRecDepth 20000 in
theorem gX10_add_X10_record : GoodIn wsX10_add (wsV RX10 80 RX10 yX10_record wsX10_record) := goodIn_app (goodIn_of _ (by decide +kernel)) ggX10_add_X10_record
theorem dX10_add_0 : decode cX10_add 0 = .ok (.aload_n 0, 1) := by decide +kernel
theorem dX10_add_1 : decode cX10_add 1 = .ok (.iload_n 1, 1) := by decide +kernel
theorem dX10_add_2 : decode cX10_add 2 = .ok (.invokevirtual 109, 3) := by decide +kernel
theorem dX10_add_5 : decode cX10_add 5 = .ok (.ifCond .ne 6, 3) := by decide +kernel
theorem dX10_add_8 : decode cX10_add 8 = .ok (.ldc 92, 2) := by decide +kernel
theorem dX10_add_10 : decode cX10_add 10 = .ok (.ireturn, 1) := by decide +kernel
theorem dX10_add_11 : decode cX10_add 11 = .ok (.iconst 0, 1) := by decide +kernel
theorem dX10_add_12 : decode cX10_add 12 = .ok (.istore_n 2, 1) := by decide +kernel
theorem dX10_add_13 : decode cX10_add 13 = .ok (.iconst 0, 1) := by decide +kernel
theorem dX10_add_14 : decode cX10_add 14 = .ok (.istore_n 3, 1) := by decide +kernel
theorem dX10_add_15 : decode cX10_add 15 = .ok (.iload_n 3, 1) := by decide +kernel
theorem dX10_add_16 : decode cX10_add 16 = .ok (.aload_n 0, 1) := by decide +kernel
theorem dX10_add_17 : decode cX10_add 17 = .ok (.getfield 7, 3) := by decide +kernel
theorem dX10_add_20 : decode cX10_add 20 = .ok (.bipush 49, 2) := by decide +kernel
theorem dX10_add_22 : decode cX10_add 22 = .ok (.iaload, 1) := by decide +kernel
theorem dX10_add_23 : decode cX10_add 23 = .ok (.if_icmp .ge 44, 3) := by decide +kernel
theorem dX10_add_26 : decode cX10_add 26 = .ok (.aload_n 0, 1) := by decide +kernel
theorem dX10_add_27 : decode cX10_add 27 = .ok (.iload_n 3, 1) := by decide +kernel
theorem dX10_add_28 : decode cX10_add 28 = .ok (.aload_n 0, 1) := by decide +kernel
theorem dX10_add_29 : decode cX10_add 29 = .ok (.getfield 25, 3) := by decide +kernel
theorem dX10_add_32 : decode cX10_add 32 = .ok (.iload_n 3, 1) := by decide +kernel
theorem dX10_add_33 : decode cX10_add 33 = .ok (.iaload, 1) := by decide +kernel
theorem dX10_add_34 : decode cX10_add 34 = .ok (.invokevirtual 93, 3) := by decide +kernel
theorem dX10_add_37 : decode cX10_add 37 = .ok (.bipush 20, 2) := by decide +kernel
theorem dX10_add_39 : decode cX10_add 39 = .ok (.if_icmp .ne 6, 3) := by decide +kernel
theorem dX10_add_42 : decode cX10_add 42 = .ok (.ldc 104, 2) := by decide +kernel
theorem dX10_add_44 : decode cX10_add 44 = .ok (.ireturn, 1) := by decide +kernel
theorem dX10_add_45 : decode cX10_add 45 = .ok (.iload_n 2, 1) := by decide +kernel
theorem dX10_add_46 : decode cX10_add 46 = .ok (.aload_n 0, 1) := by decide +kernel
theorem dX10_add_47 : decode cX10_add 47 = .ok (.iload_n 3, 1) := by decide +kernel
theorem dX10_add_48 : decode cX10_add 48 = .ok (.aload_n 0, 1) := by decide +kernel
theorem dX10_add_49 : decode cX10_add 49 = .ok (.getfield 25, 3) := by decide +kernel
theorem dX10_add_52 : decode cX10_add 52 = .ok (.iload_n 3, 1) := by decide +kernel
theorem dX10_add_53 : decode cX10_add 53 = .ok (.iaload, 1) := by decide +kernel
theorem dX10_add_54 : decode cX10_add 54 = .ok (.invokevirtual 93, 3) := by decide +kernel
theorem dX10_add_57 : decode cX10_add 57 = .ok (.iconst 1, 1) := by decide +kernel
theorem dX10_add_58 : decode cX10_add 58 = .ok (.iadd, 1) := by decide +kernel
theorem dX10_add_59 : decode cX10_add 59 = .ok (.iadd, 1) := by decide +kernel
theorem dX10_add_60 : decode cX10_add 60 = .ok (.istore_n 2, 1) := by decide +kernel
theorem dX10_add_61 : decode cX10_add 61 = .ok (.iinc 3 1, 3) := by decide +kernel
theorem dX10_add_64 : decode cX10_add 64 = .ok (.goto (-49), 3) := by decide +kernel
theorem dX10_add_67 : decode cX10_add 67 = .ok (.aload_n 0, 1) := by decide +kernel
theorem dX10_add_68 : decode cX10_add 68 = .ok (.invokevirtual 80, 3) := by decide +kernel
theorem dX10_add_71 : decode cX10_add 71 = .ok (.iconst 0, 1) := by decide +kernel
theorem dX10_add_72 : decode cX10_add 72 = .ok (.istore_n 3, 1) := by decide +kernel
theorem dX10_add_73 : decode cX10_add 73 = .ok (.iload_n 3, 1) := by decide +kernel
theorem dX10_add_74 : decode cX10_add 74 = .ok (.aload_n 0, 1) := by decide +kernel
theorem dX10_add_75 : decode cX10_add 75 = .ok (.getfield 7, 3) := by decide +kernel
theorem dX10_add_78 : decode cX10_add 78 = .ok (.bipush 49, 2) := by decide +kernel
theorem dX10_add_80 : decode cX10_add 80 = .ok (.iaload, 1) := by decide +kernel
theorem dX10_add_81 : decode cX10_add 81 = .ok (.if_icmp .ge 29, 3) := by decide +kernel
theorem dX10_add_84 : decode cX10_add 84 = .ok (.aload_n 0, 1) := by decide +kernel
theorem dX10_add_85 : decode cX10_add 85 = .ok (.getfield 7, 3) := by decide +kernel
theorem dX10_add_88 : decode cX10_add 88 = .ok (.bipush 7, 2) := by decide +kernel
theorem dX10_add_90 : decode cX10_add 90 = .ok (.iload_n 3, 1) := by decide +kernel
theorem dX10_add_91 : decode cX10_add 91 = .ok (.imul, 1) := by decide +kernel
theorem dX10_add_92 : decode cX10_add 92 = .ok (.aload_n 0, 1) := by decide +kernel
theorem dX10_add_93 : decode cX10_add 93 = .ok (.getfield 25, 3) := by decide +kernel
theorem dX10_add_96 : decode cX10_add 96 = .ok (.iload_n 3, 1) := by decide +kernel
theorem dX10_add_97 : decode cX10_add 97 = .ok (.iaload, 1) := by decide +kernel
theorem dX10_add_98 : decode cX10_add 98 = .ok (.iadd, 1) := by decide +kernel
theorem dX10_add_99 : decode cX10_add 99 = .ok (.dup2, 1) := by decide +kernel
theorem dX10_add_100 : decode cX10_add 100 = .ok (.iaload, 1) := by decide +kernel
theorem dX10_add_101 : decode cX10_add 101 = .ok (.iconst 1, 1) := by decide +kernel
theorem dX10_add_102 : decode cX10_add 102 = .ok (.iadd, 1) := by decide +kernel
theorem dX10_add_103 : decode cX10_add 103 = .ok (.iastore, 1) := by decide +kernel
theorem dX10_add_104 : decode cX10_add 104 = .ok (.iinc 3 1, 3) := by decide +kernel
theorem dX10_add_107 : decode cX10_add 107 = .ok (.goto (-34), 3) := by decide +kernel
theorem dX10_add_110 : decode cX10_add 110 = .ok (.iload_n 2, 1) := by decide +kernel
theorem dX10_add_111 : decode cX10_add 111 = .ok (.ireturn, 1) := by decide +kernel
theorem dX10_type_0 : decode cX10_type 0 = .ok (.aload_n 0, 1) := by decide +kernel
theorem dX10_type_1 : decode cX10_type 1 = .ok (.getfield 112, 3) := by decide +kernel
theorem dX10_type_4 : decode cX10_type 4 = .ok (.bipush 100, 2) := by decide +kernel
theorem dX10_type_6 : decode cX10_type 6 = .ok (.if_icmp .ne 6, 3) := by decide +kernel
theorem dX10_type_9 : decode cX10_type 9 = .ok (.ldc 115, 2) := by decide +kernel
theorem dX10_type_11 : decode cX10_type 11 = .ok (.ireturn, 1) := by decide +kernel
theorem dX10_type_12 : decode cX10_type 12 = .ok (.aload_n 0, 1) := by decide +kernel
theorem dX10_type_13 : decode cX10_type 13 = .ok (.getfield 22, 3) := by decide +kernel
theorem dX10_type_16 : decode cX10_type 16 = .ok (.aload_n 0, 1) := by decide +kernel
theorem dX10_type_17 : decode cX10_type 17 = .ok (.getfield 112, 3) := by decide +kernel
theorem dX10_type_20 : decode cX10_type 20 = .ok (.iload_n 1, 1) := by decide +kernel
theorem dX10_type_21 : decode cX10_type 21 = .ok (.iastore, 1) := by decide +kernel
theorem dX10_type_22 : decode cX10_type 22 = .ok (.aload_n 0, 1) := by decide +kernel
theorem dX10_type_23 : decode cX10_type 23 = .ok (.dup, 1) := by decide +kernel
theorem dX10_type_24 : decode cX10_type 24 = .ok (.getfield 112, 3) := by decide +kernel
theorem dX10_type_27 : decode cX10_type 27 = .ok (.iconst 1, 1) := by decide +kernel
theorem dX10_type_28 : decode cX10_type 28 = .ok (.iadd, 1) := by decide +kernel
theorem dX10_type_29 : decode cX10_type 29 = .ok (.putfield 112, 3) := by decide +kernel
theorem dX10_type_32 : decode cX10_type 32 = .ok (.aload_n 0, 1) := by decide +kernel
theorem dX10_type_33 : decode cX10_type 33 = .ok (.getfield 112, 3) := by decide +kernel
theorem dX10_type_36 : decode cX10_type 36 = .ok (.ireturn, 1) := by decide +kernel
theorem dX10_clearText_0 : decode cX10_clearText 0 = .ok (.aload_n 0, 1) := by decide +kernel
theorem dX10_clearText_1 : decode cX10_clearText 1 = .ok (.getfield 112, 3) := by decide +kernel
theorem dX10_clearText_4 : decode cX10_clearText 4 = .ok (.istore_n 1, 1) := by decide +kernel
theorem dX10_clearText_5 : decode cX10_clearText 5 = .ok (.aload_n 0, 1) := by decide +kernel
theorem dX10_clearText_6 : decode cX10_clearText 6 = .ok (.iconst 0, 1) := by decide +kernel
theorem dX10_clearText_7 : decode cX10_clearText 7 = .ok (.putfield 112, 3) := by decide +kernel
theorem dX10_clearText_10 : decode cX10_clearText 10 = .ok (.iload_n 1, 1) := by decide +kernel
theorem dX10_clearText_11 : decode cX10_clearText 11 = .ok (.ireturn, 1) := by decide +kernel
set_option maxRecDepth 20000 in
theorem ggX10_sees_X10_in : GoodIn wsX10_sees wsX10_in := goodIn_r _ [7] (by decide +kernel) (by decide +kernel)
set_option maxRecDepth 20000 in
theorem gX10_sees_X10_in : GoodIn wsX10_sees (va_wsS RX10 59 yX10_in wsX10_in) := goodIn_app (goodIn_of _ (by decide +kernel)) ggX10_sees_X10_in
theorem dX10_sees_0 : decode cX10_sees 0 = .ok (.aload_n 0, 1) := by decide +kernel
theorem dX10_sees_1 : decode cX10_sees 1 = .ok (.getfield 116, 3) := by decide +kernel
theorem dX10_sees_4 : decode cX10_sees 4 = .ok (.aload_n 0, 1) := by decide +kernel
theorem dX10_sees_5 : decode cX10_sees 5 = .ok (.getfield 112, 3) := by decide +kernel
theorem dX10_sees_8 : decode cX10_sees 8 = .ok (.if_icmp .ge 24, 3) := by decide +kernel
theorem dX10_sees_11 : decode cX10_sees 11 = .ok (.aload_n 0, 1) := by decide +kernel
theorem dX10_sees_12 : decode cX10_sees 12 = .ok (.getfield 22, 3) := by decide +kernel
theorem dX10_sees_15 : decode cX10_sees 15 = .ok (.aload_n 0, 1) := by decide +kernel
theorem dX10_sees_16 : decode cX10_sees 16 = .ok (.getfield 116, 3) := by decide +kernel
theorem dX10_sees_19 : decode cX10_sees 19 = .ok (.iaload, 1) := by decide +kernel
theorem dX10_sees_20 : decode cX10_sees 20 = .ok (.iload_n 1, 1) := by decide +kernel
theorem dX10_sees_21 : decode cX10_sees 21 = .ok (.iload_n 2, 1) := by decide +kernel
theorem dX10_sees_22 : decode cX10_sees 22 = .ok (.invokestatic 59, 3) := by decide +kernel
theorem dX10_sees_25 : decode cX10_sees 25 = .ok (.ifCond .eq 7, 3) := by decide +kernel
theorem dX10_sees_28 : decode cX10_sees 28 = .ok (.iconst 1, 1) := by decide +kernel
theorem dX10_sees_29 : decode cX10_sees 29 = .ok (.goto 4, 3) := by decide +kernel
theorem dX10_sees_32 : decode cX10_sees 32 = .ok (.iconst 0, 1) := by decide +kernel
theorem dX10_sees_33 : decode cX10_sees 33 = .ok (.ireturn, 1) := by decide +kernel
set_option maxRecDepth 20000 in
theorem ggX10_takes_X10_sees : GoodIn wsX10_takes wsX10_sees := goodIn_r _ [6, 1, 7, 8, 9, 10, 5, 11, 12, 13, 14, 15, 16, 17, 18, 19, 20, 21, 22, 23, 24, 25, 26, 27, 28, 29, 30, 31, 32] (by decide +kernel) (by decide +kernel)
set_option maxRecDepth 20000 in
theorem gX10_takes_X10_sees : GoodIn wsX10_takes (wsV RX10 119 RX10 yX10_sees wsX10_sees) := goodIn_app (goodIn_of _ (by decide +kernel)) ggX10_takes_X10_sees
theorem dX10_takes_0 : decode cX10_takes 0 = .ok (.aload_n 0, 1) := by decide +kernel
theorem dX10_takes_1 : decode cX10_takes 1 = .ok (.iload_n 1, 1) := by decide +kernel
theorem dX10_takes_2 : decode cX10_takes 2 = .ok (.iload_n 1, 1) := by decide +kernel
theorem dX10_takes_3 : decode cX10_takes 3 = .ok (.invokevirtual 119, 3) := by decide +kernel
theorem dX10_takes_6 : decode cX10_takes 6 = .ok (.istore_n 2, 1) := by decide +kernel
theorem dX10_takes_7 : decode cX10_takes 7 = .ok (.aload_n 0, 1) := by decide +kernel
theorem dX10_takes_8 : decode cX10_takes 8 = .ok (.dup, 1) := by decide +kernel
theorem dX10_takes_9 : decode cX10_takes 9 = .ok (.getfield 116, 3) := by decide +kernel
theorem dX10_takes_12 : decode cX10_takes 12 = .ok (.iload_n 2, 1) := by decide +kernel
theorem dX10_takes_13 : decode cX10_takes 13 = .ok (.ifCond .eq 7, 3) := by decide +kernel
theorem dX10_takes_16 : decode cX10_takes 16 = .ok (.iconst 1, 1) := by decide +kernel
theorem dX10_takes_17 : decode cX10_takes 17 = .ok (.goto 4, 3) := by decide +kernel
theorem dX10_takes_20 : decode cX10_takes 20 = .ok (.iconst 0, 1) := by decide +kernel
theorem dX10_takes_21 : decode cX10_takes 21 = .ok (.iadd, 1) := by decide +kernel
theorem dX10_takes_22 : decode cX10_takes 22 = .ok (.putfield 116, 3) := by decide +kernel
theorem dX10_takes_25 : decode cX10_takes 25 = .ok (.iload_n 2, 1) := by decide +kernel
theorem dX10_takes_26 : decode cX10_takes 26 = .ok (.ireturn, 1) := by decide +kernel
set_option maxRecDepth 20000 in
theorem ggX10_readEntry_X10_takes : GoodIn wsX10_readEntry wsX10_takes := goodIn_r _ [8, 2, 9, 10, 11, 7, 12, 13, 1, 14, 15, 16, 17, 18, 19, 20, 21, 22, 23, 24, 25, 26, 27, 28, 29, 30, 31, 32, 33, 34, 35, 36, 37] (by decide +kernel) (by decide +kernel)
set_option maxRecDepth 20000 in
theorem gX10_readEntry_X10_takes : GoodIn wsX10_readEntry (wsV RX10 123 RX10 yX10_takes wsX10_takes) := goodIn_app (goodIn_of _ (by decide +kernel)) ggX10_readEntry_X10_takes
set_option maxRecDepth 20000 in
theorem ggX10_readEntry_X10_sees : GoodIn wsX10_readEntry wsX10_sees := goodIn_r _ [12, 2, 13, 1, 14, 15, 7, 16, 17, 18, 19, 20, 21, 22, 23, 24, 25, 26, 27, 28, 29, 30, 31, 32, 33, 34, 35, 36, 37] (by decide +kernel) (by decide +kernel)
set_option maxRecDepth 20000 in
theorem gX10_readEntry_X10_sees : GoodIn wsX10_readEntry (wsV RX10 119 RX10 yX10_sees wsX10_sees) := goodIn_app (goodIn_of _ (by decide +kernel)) ggX10_readEntry_X10_sees
theorem dX10_readEntry_0 : decode cX10_readEntry 0 = .ok (.aload_n 0, 1) := by decide +kernel
theorem dX10_readEntry_1 : decode cX10_readEntry 1 = .ok (.bipush 45, 2) := by decide +kernel
theorem dX10_readEntry_3 : decode cX10_readEntry 3 = .ok (.invokevirtual 123, 3) := by decide +kernel
theorem dX10_readEntry_6 : decode cX10_readEntry 6 = .ok (.istore_n 2, 1) := by decide +kernel
theorem dX10_readEntry_7 : decode cX10_readEntry 7 = .ok (.aload_n 0, 1) := by decide +kernel
theorem dX10_readEntry_8 : decode cX10_readEntry 8 = .ok (.iload_n 2, 1) := by decide +kernel
theorem dX10_readEntry_9 : decode cX10_readEntry 9 = .ok (.ifCond .eq 8, 3) := by decide +kernel
theorem dX10_readEntry_12 : decode cX10_readEntry 12 = .ok (.bipush 49, 2) := by decide +kernel
theorem dX10_readEntry_14 : decode cX10_readEntry 14 = .ok (.goto 5, 3) := by decide +kernel
theorem dX10_readEntry_17 : decode cX10_readEntry 17 = .ok (.bipush 48, 2) := by decide +kernel
theorem dX10_readEntry_19 : decode cX10_readEntry 19 = .ok (.bipush 57, 2) := by decide +kernel
theorem dX10_readEntry_21 : decode cX10_readEntry 21 = .ok (.invokevirtual 119, 3) := by decide +kernel
theorem dX10_readEntry_24 : decode cX10_readEntry 24 = .ok (.ifCond .ne 5, 3) := by decide +kernel
theorem dX10_readEntry_27 : decode cX10_readEntry 27 = .ok (.iconst 0, 1) := by decide +kernel
theorem dX10_readEntry_28 : decode cX10_readEntry 28 = .ok (.ireturn, 1) := by decide +kernel
theorem dX10_readEntry_29 : decode cX10_readEntry 29 = .ok (.aload_n 0, 1) := by decide +kernel
theorem dX10_readEntry_30 : decode cX10_readEntry 30 = .ok (.getfield 22, 3) := by decide +kernel
theorem dX10_readEntry_33 : decode cX10_readEntry 33 = .ok (.aload_n 0, 1) := by decide +kernel
theorem dX10_readEntry_34 : decode cX10_readEntry 34 = .ok (.getfield 116, 3) := by decide +kernel
theorem dX10_readEntry_37 : decode cX10_readEntry 37 = .ok (.iaload, 1) := by decide +kernel
theorem dX10_readEntry_38 : decode cX10_readEntry 38 = .ok (.bipush 48, 2) := by decide +kernel
theorem dX10_readEntry_40 : decode cX10_readEntry 40 = .ok (.isub, 1) := by decide +kernel
theorem dX10_readEntry_41 : decode cX10_readEntry 41 = .ok (.istore_n 3, 1) := by decide +kernel
theorem dX10_readEntry_42 : decode cX10_readEntry 42 = .ok (.aload_n 0, 1) := by decide +kernel
theorem dX10_readEntry_43 : decode cX10_readEntry 43 = .ok (.dup, 1) := by decide +kernel
theorem dX10_readEntry_44 : decode cX10_readEntry 44 = .ok (.getfield 116, 3) := by decide +kernel
theorem dX10_readEntry_47 : decode cX10_readEntry 47 = .ok (.iconst 1, 1) := by decide +kernel
theorem dX10_readEntry_48 : decode cX10_readEntry 48 = .ok (.iadd, 1) := by decide +kernel
theorem dX10_readEntry_49 : decode cX10_readEntry 49 = .ok (.putfield 116, 3) := by decide +kernel
theorem dX10_readEntry_52 : decode cX10_readEntry 52 = .ok (.iload_n 3, 1) := by decide +kernel
theorem dX10_readEntry_53 : decode cX10_readEntry 53 = .ok (.ifCond .le 64, 3) := by decide +kernel
theorem dX10_readEntry_56 : decode cX10_readEntry 56 = .ok (.aload_n 0, 1) := by decide +kernel
theorem dX10_readEntry_57 : decode cX10_readEntry 57 = .ok (.bipush 48, 2) := by decide +kernel
theorem dX10_readEntry_59 : decode cX10_readEntry 59 = .ok (.bipush 57, 2) := by decide +kernel
theorem dX10_readEntry_61 : decode cX10_readEntry 61 = .ok (.invokevirtual 119, 3) := by decide +kernel
theorem dX10_readEntry_64 : decode cX10_readEntry 64 = .ok (.ifCond .eq 53, 3) := by decide +kernel
theorem dX10_readEntry_67 : decode cX10_readEntry 67 = .ok (.bipush 10, 2) := by decide +kernel
theorem dX10_readEntry_69 : decode cX10_readEntry 69 = .ok (.iload_n 3, 1) := by decide +kernel
theorem dX10_readEntry_70 : decode cX10_readEntry 70 = .ok (.imul, 1) := by decide +kernel
theorem dX10_readEntry_71 : decode cX10_readEntry 71 = .ok (.aload_n 0, 1) := by decide +kernel
theorem dX10_readEntry_72 : decode cX10_readEntry 72 = .ok (.getfield 22, 3) := by decide +kernel
theorem dX10_readEntry_75 : decode cX10_readEntry 75 = .ok (.aload_n 0, 1) := by decide +kernel
theorem dX10_readEntry_76 : decode cX10_readEntry 76 = .ok (.getfield 116, 3) := by decide +kernel
theorem dX10_readEntry_79 : decode cX10_readEntry 79 = .ok (.iaload, 1) := by decide +kernel
theorem dX10_readEntry_80 : decode cX10_readEntry 80 = .ok (.iadd, 1) := by decide +kernel
theorem dX10_readEntry_81 : decode cX10_readEntry 81 = .ok (.bipush 48, 2) := by decide +kernel
theorem dX10_readEntry_83 : decode cX10_readEntry 83 = .ok (.isub, 1) := by decide +kernel
theorem dX10_readEntry_84 : decode cX10_readEntry 84 = .ok (.bipush 20, 2) := by decide +kernel
theorem dX10_readEntry_86 : decode cX10_readEntry 86 = .ok (.if_icmp .gt 31, 3) := by decide +kernel
theorem dX10_readEntry_89 : decode cX10_readEntry 89 = .ok (.bipush 10, 2) := by decide +kernel
theorem dX10_readEntry_91 : decode cX10_readEntry 91 = .ok (.iload_n 3, 1) := by decide +kernel
theorem dX10_readEntry_92 : decode cX10_readEntry 92 = .ok (.imul, 1) := by decide +kernel
theorem dX10_readEntry_93 : decode cX10_readEntry 93 = .ok (.aload_n 0, 1) := by decide +kernel
theorem dX10_readEntry_94 : decode cX10_readEntry 94 = .ok (.getfield 22, 3) := by decide +kernel
theorem dX10_readEntry_97 : decode cX10_readEntry 97 = .ok (.aload_n 0, 1) := by decide +kernel
theorem dX10_readEntry_98 : decode cX10_readEntry 98 = .ok (.getfield 116, 3) := by decide +kernel
theorem dX10_readEntry_101 : decode cX10_readEntry 101 = .ok (.iaload, 1) := by decide +kernel
theorem dX10_readEntry_102 : decode cX10_readEntry 102 = .ok (.iadd, 1) := by decide +kernel
theorem dX10_readEntry_103 : decode cX10_readEntry 103 = .ok (.bipush 48, 2) := by decide +kernel
theorem dX10_readEntry_105 : decode cX10_readEntry 105 = .ok (.isub, 1) := by decide +kernel
theorem dX10_readEntry_106 : decode cX10_readEntry 106 = .ok (.istore_n 3, 1) := by decide +kernel
theorem dX10_readEntry_107 : decode cX10_readEntry 107 = .ok (.aload_n 0, 1) := by decide +kernel
theorem dX10_readEntry_108 : decode cX10_readEntry 108 = .ok (.dup, 1) := by decide +kernel
theorem dX10_readEntry_109 : decode cX10_readEntry 109 = .ok (.getfield 116, 3) := by decide +kernel
theorem dX10_readEntry_112 : decode cX10_readEntry 112 = .ok (.iconst 1, 1) := by decide +kernel
theorem dX10_readEntry_113 : decode cX10_readEntry 113 = .ok (.iadd, 1) := by decide +kernel
theorem dX10_readEntry_114 : decode cX10_readEntry 114 = .ok (.putfield 116, 3) := by decide +kernel
theorem dX10_readEntry_117 : decode cX10_readEntry 117 = .ok (.aload_n 0, 1) := by decide +kernel
theorem dX10_readEntry_118 : decode cX10_readEntry 118 = .ok (.getfield 28, 3) := by decide +kernel
theorem dX10_readEntry_121 : decode cX10_readEntry 121 = .ok (.iload_n 1, 1) := by decide +kernel
theorem dX10_readEntry_122 : decode cX10_readEntry 122 = .ok (.iload_n 2, 1) := by decide +kernel
theorem dX10_readEntry_123 : decode cX10_readEntry 123 = .ok (.ifCond .eq 8, 3) := by decide +kernel
theorem dX10_readEntry_126 : decode cX10_readEntry 126 = .ok (.iload_n 3, 1) := by decide +kernel
theorem dX10_readEntry_127 : decode cX10_readEntry 127 = .ok (.ineg, 1) := by decide +kernel
theorem dX10_readEntry_128 : decode cX10_readEntry 128 = .ok (.goto 4, 3) := by decide +kernel
theorem dX10_readEntry_131 : decode cX10_readEntry 131 = .ok (.iload_n 3, 1) := by decide +kernel
theorem dX10_readEntry_132 : decode cX10_readEntry 132 = .ok (.iastore, 1) := by decide +kernel
theorem dX10_readEntry_133 : decode cX10_readEntry 133 = .ok (.iconst 1, 1) := by decide +kernel
theorem dX10_readEntry_134 : decode cX10_readEntry 134 = .ok (.ireturn, 1) := by decide +kernel
set_option maxRecDepth 20000 in
theorem ggX10_readRow_X10_readEntry : GoodIn wsX10_readRow wsX10_readEntry := goodIn_r _ [6, 7, 8, 9, 10, 11, 12, 5, 13, 14, 15, 16, 17, 18, 19, 20, 21, 22, 23, 24, 25, 26, 27, 28, 29, 30, 31, 32, 33, 34, 35, 36, 37, 38, 39, 40, 41, 42] (by decide +kernel) (by decide +kernel)
set_option maxRecDepth 20000 in
theorem gX10_readRow_X10_readEntry : GoodIn wsX10_readRow (wsV RX10 126 RX10 yX10_readEntry wsX10_readEntry) := goodIn_app (goodIn_of _ (by decide +kernel)) ggX10_readRow_X10_readEntry
set_option maxRecDepth 20000 in
theorem ggX10_readRow_X10_takes : GoodIn wsX10_readRow wsX10_takes := goodIn_r _ [13, 8, 14, 15, 16, 5, 17, 18, 7, 19, 20, 21, 22, 23, 24, 25, 26, 27, 28, 29, 30, 31, 32, 33, 34, 35, 36, 37, 38, 39, 40, 41, 42] (by decide +kernel) (by decide +kernel)
set_option maxRecDepth 20000 in
theorem gX10_readRow_X10_takes : GoodIn wsX10_readRow (wsV RX10 123 RX10 yX10_takes wsX10_takes) := goodIn_app (goodIn_of _ (by decide +kernel)) ggX10_readRow_X10_takes
theorem dX10_readRow_0 : decode cX10_readRow 0 = .ok (.iconst 0, 1) := by decide +kernel
theorem dX10_readRow_1 : decode cX10_readRow 1 = .ok (.istore_n 3, 1) := by decide +kernel
theorem dX10_readRow_2 : decode cX10_readRow 2 = .ok (.iconst 1, 1) := by decide +kernel
theorem dX10_readRow_3 : decode cX10_readRow 3 = .ok (.istore 4, 2) := by decide +kernel
theorem dX10_readRow_5 : decode cX10_readRow 5 = .ok (.iload 4, 2) := by decide +kernel
theorem dX10_readRow_7 : decode cX10_readRow 7 = .ok (.ifCond .eq 46, 3) := by decide +kernel
theorem dX10_readRow_10 : decode cX10_readRow 10 = .ok (.aload_n 0, 1) := by decide +kernel
theorem dX10_readRow_11 : decode cX10_readRow 11 = .ok (.bipush 7, 2) := by decide +kernel
theorem dX10_readRow_13 : decode cX10_readRow 13 = .ok (.iload_n 1, 1) := by decide +kernel
theorem dX10_readRow_14 : decode cX10_readRow 14 = .ok (.imul, 1) := by decide +kernel
theorem dX10_readRow_15 : decode cX10_readRow 15 = .ok (.iload_n 3, 1) := by decide +kernel
theorem dX10_readRow_16 : decode cX10_readRow 16 = .ok (.iadd, 1) := by decide +kernel
theorem dX10_readRow_17 : decode cX10_readRow 17 = .ok (.invokevirtual 126, 3) := by decide +kernel
theorem dX10_readRow_20 : decode cX10_readRow 20 = .ok (.ifCond .ne 6, 3) := by decide +kernel
theorem dX10_readRow_23 : decode cX10_readRow 23 = .ok (.ldc 75, 2) := by decide +kernel
theorem dX10_readRow_25 : decode cX10_readRow 25 = .ok (.ireturn, 1) := by decide +kernel
theorem dX10_readRow_26 : decode cX10_readRow 26 = .ok (.iinc 3 1, 3) := by decide +kernel
theorem dX10_readRow_29 : decode cX10_readRow 29 = .ok (.iload_n 3, 1) := by decide +kernel
theorem dX10_readRow_30 : decode cX10_readRow 30 = .ok (.iload_n 2, 1) := by decide +kernel
theorem dX10_readRow_31 : decode cX10_readRow 31 = .ok (.if_icmp .ge 16, 3) := by decide +kernel
theorem dX10_readRow_34 : decode cX10_readRow 34 = .ok (.aload_n 0, 1) := by decide +kernel
theorem dX10_readRow_35 : decode cX10_readRow 35 = .ok (.bipush 44, 2) := by decide +kernel
theorem dX10_readRow_37 : decode cX10_readRow 37 = .ok (.invokevirtual 123, 3) := by decide +kernel
theorem dX10_readRow_40 : decode cX10_readRow 40 = .ok (.ifCond .eq 7, 3) := by decide +kernel
theorem dX10_readRow_43 : decode cX10_readRow 43 = .ok (.iconst 1, 1) := by decide +kernel
theorem dX10_readRow_44 : decode cX10_readRow 44 = .ok (.goto 4, 3) := by decide +kernel
theorem dX10_readRow_47 : decode cX10_readRow 47 = .ok (.iconst 0, 1) := by decide +kernel
theorem dX10_readRow_48 : decode cX10_readRow 48 = .ok (.istore 4, 2) := by decide +kernel
theorem dX10_readRow_50 : decode cX10_readRow 50 = .ok (.goto (-45), 3) := by decide +kernel
theorem dX10_readRow_53 : decode cX10_readRow 53 = .ok (.iload_n 3, 1) := by decide +kernel
theorem dX10_readRow_54 : decode cX10_readRow 54 = .ok (.ireturn, 1) := by decide +kernel
set_option maxRecDepth 20000 in
theorem ggX10_readText_X10_readRow : GoodIn wsX10_readText wsX10_readRow := goodIn_r _ [10, 4, 11, 12, 13, 9, 14, 15, 1, 2, 16, 17, 18, 19, 20, 21, 22, 23, 5, 24, 25, 26, 27, 28, 29, 30, 31, 32, 33, 34, 35, 36, 37, 38, 39, 40, 41, 42, 43, 44, 45, 46, 47] (by decide +kernel) (by decide +kernel)
set_option maxRecDepth 20000 in
theorem gX10_readText_X10_readRow : GoodIn wsX10_readText (wsV RX10 129 RX10 yX10_readRow wsX10_readRow) := goodIn_app (goodIn_of _ (by decide +kernel)) ggX10_readText_X10_readRow
set_option maxRecDepth 20000 in
theorem ggX10_readText_X10_takes : GoodIn wsX10_readText wsX10_takes := goodIn_r _ [19, 1, 20, 21, 22, 9, 23, 5, 15, 24, 25, 26, 27, 28, 29, 30, 31, 32, 33, 34, 35, 36, 37, 38, 39, 40, 41, 42, 43, 44, 45, 46, 47] (by decide +kernel) (by decide +kernel)
set_option maxRecDepth 20000 in
theorem gX10_readText_X10_takes : GoodIn wsX10_readText (wsV RX10 123 RX10 yX10_takes wsX10_takes) := goodIn_app (goodIn_of _ (by decide +kernel)) ggX10_readText_X10_takes
theorem dX10_readText_0 : decode cX10_readText 0 = .ok (.aload_n 0, 1) := by decide +kernel
theorem dX10_readText_1 : decode cX10_readText 1 = .ok (.iconst 0, 1) := by decide +kernel
theorem dX10_readText_2 : decode cX10_readText 2 = .ok (.putfield 116, 3) := by decide +kernel
theorem dX10_readText_5 : decode cX10_readText 5 = .ok (.iconst 0, 1) := by decide +kernel
theorem dX10_readText_6 : decode cX10_readText 6 = .ok (.istore_n 1, 1) := by decide +kernel
theorem dX10_readText_7 : decode cX10_readText 7 = .ok (.iload_n 1, 1) := by decide +kernel
theorem dX10_readText_8 : decode cX10_readText 8 = .ok (.bipush 49, 2) := by decide +kernel
theorem dX10_readText_10 : decode cX10_readText 10 = .ok (.if_icmp .ge 16, 3) := by decide +kernel
theorem dX10_readText_13 : decode cX10_readText 13 = .ok (.aload_n 0, 1) := by decide +kernel
theorem dX10_readText_14 : decode cX10_readText 14 = .ok (.getfield 28, 3) := by decide +kernel
theorem dX10_readText_17 : decode cX10_readText 17 = .ok (.iload_n 1, 1) := by decide +kernel
theorem dX10_readText_18 : decode cX10_readText 18 = .ok (.iconst 0, 1) := by decide +kernel
theorem dX10_readText_19 : decode cX10_readText 19 = .ok (.iastore, 1) := by decide +kernel
theorem dX10_readText_20 : decode cX10_readText 20 = .ok (.iinc 1 1, 3) := by decide +kernel
theorem dX10_readText_23 : decode cX10_readText 23 = .ok (.goto (-16), 3) := by decide +kernel
theorem dX10_readText_26 : decode cX10_readText 26 = .ok (.aload_n 0, 1) := by decide +kernel
theorem dX10_readText_27 : decode cX10_readText 27 = .ok (.aload_n 0, 1) := by decide +kernel
theorem dX10_readText_28 : decode cX10_readText 28 = .ok (.iconst 0, 1) := by decide +kernel
theorem dX10_readText_29 : decode cX10_readText 29 = .ok (.bipush 7, 2) := by decide +kernel
theorem dX10_readText_31 : decode cX10_readText 31 = .ok (.invokevirtual 129, 3) := by decide +kernel
theorem dX10_readText_34 : decode cX10_readText 34 = .ok (.putfield 132, 3) := by decide +kernel
theorem dX10_readText_37 : decode cX10_readText 37 = .ok (.aload_n 0, 1) := by decide +kernel
theorem dX10_readText_38 : decode cX10_readText 38 = .ok (.getfield 132, 3) := by decide +kernel
theorem dX10_readText_41 : decode cX10_readText 41 = .ok (.ldc 75, 2) := by decide +kernel
theorem dX10_readText_43 : decode cX10_readText 43 = .ok (.if_icmp .ne 5, 3) := by decide +kernel
theorem dX10_readText_46 : decode cX10_readText 46 = .ok (.iconst 0, 1) := by decide +kernel
theorem dX10_readText_47 : decode cX10_readText 47 = .ok (.ireturn, 1) := by decide +kernel
theorem dX10_readText_48 : decode cX10_readText 48 = .ok (.iconst 1, 1) := by decide +kernel
theorem dX10_readText_49 : decode cX10_readText 49 = .ok (.istore_n 1, 1) := by decide +kernel
theorem dX10_readText_50 : decode cX10_readText 50 = .ok (.iload_n 1, 1) := by decide +kernel
theorem dX10_readText_51 : decode cX10_readText 51 = .ok (.aload_n 0, 1) := by decide +kernel
theorem dX10_readText_52 : decode cX10_readText 52 = .ok (.getfield 132, 3) := by decide +kernel
theorem dX10_readText_55 : decode cX10_readText 55 = .ok (.if_icmp .ge 36, 3) := by decide +kernel
theorem dX10_readText_58 : decode cX10_readText 58 = .ok (.aload_n 0, 1) := by decide +kernel
theorem dX10_readText_59 : decode cX10_readText 59 = .ok (.bipush 47, 2) := by decide +kernel
theorem dX10_readText_61 : decode cX10_readText 61 = .ok (.invokevirtual 123, 3) := by decide +kernel
theorem dX10_readText_64 : decode cX10_readText 64 = .ok (.ifCond .eq 19, 3) := by decide +kernel
theorem dX10_readText_67 : decode cX10_readText 67 = .ok (.aload_n 0, 1) := by decide +kernel
theorem dX10_readText_68 : decode cX10_readText 68 = .ok (.iload_n 1, 1) := by decide +kernel
theorem dX10_readText_69 : decode cX10_readText 69 = .ok (.aload_n 0, 1) := by decide +kernel
theorem dX10_readText_70 : decode cX10_readText 70 = .ok (.getfield 132, 3) := by decide +kernel
theorem dX10_readText_73 : decode cX10_readText 73 = .ok (.invokevirtual 129, 3) := by decide +kernel
theorem dX10_readText_76 : decode cX10_readText 76 = .ok (.aload_n 0, 1) := by decide +kernel
theorem dX10_readText_77 : decode cX10_readText 77 = .ok (.getfield 132, 3) := by decide +kernel
theorem dX10_readText_80 : decode cX10_readText 80 = .ok (.if_icmp .eq 5, 3) := by decide +kernel
theorem dX10_readText_83 : decode cX10_readText 83 = .ok (.iconst 0, 1) := by decide +kernel
theorem dX10_readText_84 : decode cX10_readText 84 = .ok (.ireturn, 1) := by decide +kernel
theorem dX10_readText_85 : decode cX10_readText 85 = .ok (.iinc 1 1, 3) := by decide +kernel
theorem dX10_readText_88 : decode cX10_readText 88 = .ok (.goto (-38), 3) := by decide +kernel
theorem dX10_readText_91 : decode cX10_readText 91 = .ok (.aload_n 0, 1) := by decide +kernel
theorem dX10_readText_92 : decode cX10_readText 92 = .ok (.getfield 116, 3) := by decide +kernel
theorem dX10_readText_95 : decode cX10_readText 95 = .ok (.aload_n 0, 1) := by decide +kernel
theorem dX10_readText_96 : decode cX10_readText 96 = .ok (.getfield 112, 3) := by decide +kernel
theorem dX10_readText_99 : decode cX10_readText 99 = .ok (.if_icmp .ne 7, 3) := by decide +kernel
theorem dX10_readText_102 : decode cX10_readText 102 = .ok (.iconst 1, 1) := by decide +kernel
theorem dX10_readText_103 : decode cX10_readText 103 = .ok (.goto 4, 3) := by decide +kernel
theorem dX10_readText_106 : decode cX10_readText 106 = .ok (.iconst 0, 1) := by decide +kernel
theorem dX10_readText_107 : decode cX10_readText 107 = .ok (.ireturn, 1) := by decide +kernel
set_option maxRecDepth 20000 in
theorem ggX10_read_X10_readText : GoodIn wsX10_read wsX10_readText := goodIn_r _ [9, 1, 2, 4, 10, 11, 12, 13, 14, 8, 15, 16, 17, 18, 19, 20, 21, 22, 23, 24, 25, 26, 27, 28, 29, 30, 31, 45, 46, 47, 48, 49, 50, 51, 52, 53, 54, 55, 56, 57, 58, 59, 60, 61, 62, 63, 64, 65] (by decide +kernel) (by decide +kernel)
set_option maxRecDepth 20000 in
theorem gX10_read_X10_readText : GoodIn wsX10_read (wsV RX10 135 RX10 yX10_readText wsX10_readText) := goodIn_app (goodIn_of _ (by decide +kernel)) ggX10_read_X10_readText
set_option maxRecDepth 20000 in
theorem ggX10_read_X10_record : GoodIn wsX10_read wsX10_record := goodIn_r _ [35, 3, 36, 37, 38, 8, 39, 40, 41, 42, 43, 44, 45, 46, 47, 48, 49, 50, 51, 52, 53, 54, 55, 56, 57, 58, 59, 60, 61, 62, 63, 64, 65] (by decide +kernel) (by decide +kernel)
set_option maxRecDepth 20000 in
theorem gX10_read_X10_record : GoodIn wsX10_read (wsV RX10 80 RX10 yX10_record wsX10_record) := goodIn_app (goodIn_of _ (by decide +kernel)) ggX10_read_X10_record
set_option maxRecDepth 20000 in
theorem ggX10_read_X10_copyRow : GoodIn wsX10_read wsX10_copyRow := goodIn_r _ [44] (by decide +kernel) (by decide +kernel)
set_option maxRecDepth 20000 in
theorem gX10_read_X10_copyRow : GoodIn wsX10_read (va_wsS RX10 67 yX10_copyRow wsX10_copyRow) := goodIn_app (goodIn_of _ (by decide +kernel)) ggX10_read_X10_copyRow
theorem dX10_read_0 : decode cX10_read 0 = .ok (.aload_n 0, 1) := by decide +kernel
theorem dX10_read_1 : decode cX10_read 1 = .ok (.invokevirtual 135, 3) := by decide +kernel
theorem dX10_read_4 : decode cX10_read 4 = .ok (.ifCond .ne 11, 3) := by decide +kernel
theorem dX10_read_7 : decode cX10_read 7 = .ok (.bipush (-100), 2) := by decide +kernel
theorem dX10_read_9 : decode cX10_read 9 = .ok (.aload_n 0, 1) := by decide +kernel
theorem dX10_read_10 : decode cX10_read 10 = .ok (.getfield 116, 3) := by decide +kernel
theorem dX10_read_13 : decode cX10_read 13 = .ok (.isub, 1) := by decide +kernel
theorem dX10_read_14 : decode cX10_read 14 = .ok (.ireturn, 1) := by decide +kernel
theorem dX10_read_15 : decode cX10_read 15 = .ok (.aload_n 0, 1) := by decide +kernel
theorem dX10_read_16 : decode cX10_read 16 = .ok (.invokevirtual 80, 3) := by decide +kernel
theorem dX10_read_19 : decode cX10_read 19 = .ok (.aload_n 0, 1) := by decide +kernel
theorem dX10_read_20 : decode cX10_read 20 = .ok (.getfield 28, 3) := by decide +kernel
theorem dX10_read_23 : decode cX10_read 23 = .ok (.iconst 0, 1) := by decide +kernel
theorem dX10_read_24 : decode cX10_read 24 = .ok (.aload_n 0, 1) := by decide +kernel
theorem dX10_read_25 : decode cX10_read 25 = .ok (.getfield 7, 3) := by decide +kernel
theorem dX10_read_28 : decode cX10_read 28 = .ok (.iconst 0, 1) := by decide +kernel
theorem dX10_read_29 : decode cX10_read 29 = .ok (.bipush 49, 2) := by decide +kernel
theorem dX10_read_31 : decode cX10_read 31 = .ok (.invokestatic 67, 3) := by decide +kernel
theorem dX10_read_34 : decode cX10_read 34 = .ok (.aload_n 0, 1) := by decide +kernel
theorem dX10_read_35 : decode cX10_read 35 = .ok (.getfield 7, 3) := by decide +kernel
theorem dX10_read_38 : decode cX10_read 38 = .ok (.bipush 49, 2) := by decide +kernel
theorem dX10_read_40 : decode cX10_read 40 = .ok (.aload_n 0, 1) := by decide +kernel
theorem dX10_read_41 : decode cX10_read 41 = .ok (.getfield 132, 3) := by decide +kernel
theorem dX10_read_44 : decode cX10_read 44 = .ok (.iastore, 1) := by decide +kernel
theorem dX10_read_45 : decode cX10_read 45 = .ok (.aload_n 0, 1) := by decide +kernel
theorem dX10_read_46 : decode cX10_read 46 = .ok (.getfield 132, 3) := by decide +kernel
theorem dX10_read_49 : decode cX10_read 49 = .ok (.ireturn, 1) := by decide +kernel
set_option maxRecDepth 20000 in
theorem ggX10_entry_X10_isLine : GoodIn wsX10_entry wsX10_isLine := goodIn_r _ [6, 7, 8, 9, 5, 10, 15, 16, 17, 18, 19, 20, 21, 22, 23, 24, 25, 26, 27, 28, 29, 30, 31, 32, 33, 34, 35] (by decide +kernel) (by decide +kernel)
set_option maxRecDepth 20000 in
theorem gX10_entry_X10_isLine : GoodIn wsX10_entry (wsV RX10 88 RX10 yX10_isLine wsX10_isLine) := goodIn_app (goodIn_of _ (by decide +kernel)) ggX10_entry_X10_isLine
set_option maxRecDepth 20000 in
theorem ggX10_entry_X10_at : GoodIn wsX10_entry wsX10_at := goodIn_r _ [14, 7, 15, 16, 17, 18, 19, 20, 21, 22, 23, 24, 25, 26, 27, 28, 29, 30, 31, 32, 33, 34, 35] (by decide +kernel) (by decide +kernel)
set_option maxRecDepth 20000 in
theorem gX10_entry_X10_at : GoodIn wsX10_entry (wsV RX10 93 RX10 yX10_at wsX10_at) := goodIn_app (goodIn_of _ (by decide +kernel)) ggX10_entry_X10_at
theorem dX10_entry_0 : decode cX10_entry 0 = .ok (.aload_n 0, 1) := by decide +kernel
theorem dX10_entry_1 : decode cX10_entry 1 = .ok (.iload_n 1, 1) := by decide +kernel
theorem dX10_entry_2 : decode cX10_entry 2 = .ok (.invokevirtual 88, 3) := by decide +kernel
theorem dX10_entry_5 : decode cX10_entry 5 = .ok (.ifCond .eq 20, 3) := by decide +kernel
theorem dX10_entry_8 : decode cX10_entry 8 = .ok (.aload_n 0, 1) := by decide +kernel
theorem dX10_entry_9 : decode cX10_entry 9 = .ok (.iload_n 2, 1) := by decide +kernel
theorem dX10_entry_10 : decode cX10_entry 10 = .ok (.invokevirtual 88, 3) := by decide +kernel
theorem dX10_entry_13 : decode cX10_entry 13 = .ok (.ifCond .eq 12, 3) := by decide +kernel
theorem dX10_entry_16 : decode cX10_entry 16 = .ok (.aload_n 0, 1) := by decide +kernel
theorem dX10_entry_17 : decode cX10_entry 17 = .ok (.iload_n 1, 1) := by decide +kernel
theorem dX10_entry_18 : decode cX10_entry 18 = .ok (.iload_n 2, 1) := by decide +kernel
theorem dX10_entry_19 : decode cX10_entry 19 = .ok (.invokevirtual 93, 3) := by decide +kernel
theorem dX10_entry_22 : decode cX10_entry 22 = .ok (.goto 5, 3) := by decide +kernel
theorem dX10_entry_25 : decode cX10_entry 25 = .ok (.ldc 92, 2) := by decide +kernel
theorem dX10_entry_27 : decode cX10_entry 27 = .ok (.ireturn, 1) := by decide +kernel
set_option maxRecDepth 20000 in
theorem ggX10_sumOfLine_X10_at : GoodIn wsX10_sumOfLine wsX10_at := goodIn_r _ [6, 1, 7, 8, 9, 10, 11, 12, 13, 14, 15, 16, 17, 18, 19, 20, 21, 22, 23, 24, 25, 26, 27] (by decide +kernel) (by decide +kernel)
set_option maxRecDepth 20000 in
theorem gX10_sumOfLine_X10_at : GoodIn wsX10_sumOfLine (wsV RX10 93 RX10 yX10_at wsX10_at) := goodIn_app (goodIn_of _ (by decide +kernel)) ggX10_sumOfLine_X10_at
theorem dX10_sumOfLine_0 : decode cX10_sumOfLine 0 = .ok (.iconst 0, 1) := by decide +kernel
theorem dX10_sumOfLine_1 : decode cX10_sumOfLine 1 = .ok (.istore_n 3, 1) := by decide +kernel
theorem dX10_sumOfLine_2 : decode cX10_sumOfLine 2 = .ok (.iconst 0, 1) := by decide +kernel
theorem dX10_sumOfLine_3 : decode cX10_sumOfLine 3 = .ok (.istore 4, 2) := by decide +kernel
theorem dX10_sumOfLine_5 : decode cX10_sumOfLine 5 = .ok (.iload 4, 2) := by decide +kernel
theorem dX10_sumOfLine_7 : decode cX10_sumOfLine 7 = .ok (.aload_n 0, 1) := by decide +kernel
theorem dX10_sumOfLine_8 : decode cX10_sumOfLine 8 = .ok (.getfield 7, 3) := by decide +kernel
theorem dX10_sumOfLine_11 : decode cX10_sumOfLine 11 = .ok (.bipush 49, 2) := by decide +kernel
theorem dX10_sumOfLine_13 : decode cX10_sumOfLine 13 = .ok (.iaload, 1) := by decide +kernel
theorem dX10_sumOfLine_14 : decode cX10_sumOfLine 14 = .ok (.if_icmp .ge 33, 3) := by decide +kernel
theorem dX10_sumOfLine_17 : decode cX10_sumOfLine 17 = .ok (.iload_n 3, 1) := by decide +kernel
theorem dX10_sumOfLine_18 : decode cX10_sumOfLine 18 = .ok (.iload_n 2, 1) := by decide +kernel
theorem dX10_sumOfLine_19 : decode cX10_sumOfLine 19 = .ok (.ifCond .eq 13, 3) := by decide +kernel
theorem dX10_sumOfLine_22 : decode cX10_sumOfLine 22 = .ok (.aload_n 0, 1) := by decide +kernel
theorem dX10_sumOfLine_23 : decode cX10_sumOfLine 23 = .ok (.iload 4, 2) := by decide +kernel
theorem dX10_sumOfLine_25 : decode cX10_sumOfLine 25 = .ok (.iload_n 1, 1) := by decide +kernel
theorem dX10_sumOfLine_26 : decode cX10_sumOfLine 26 = .ok (.invokevirtual 93, 3) := by decide +kernel
theorem dX10_sumOfLine_29 : decode cX10_sumOfLine 29 = .ok (.goto 10, 3) := by decide +kernel
theorem dX10_sumOfLine_32 : decode cX10_sumOfLine 32 = .ok (.aload_n 0, 1) := by decide +kernel
theorem dX10_sumOfLine_33 : decode cX10_sumOfLine 33 = .ok (.iload_n 1, 1) := by decide +kernel
theorem dX10_sumOfLine_34 : decode cX10_sumOfLine 34 = .ok (.iload 4, 2) := by decide +kernel
theorem dX10_sumOfLine_36 : decode cX10_sumOfLine 36 = .ok (.invokevirtual 93, 3) := by decide +kernel
theorem dX10_sumOfLine_39 : decode cX10_sumOfLine 39 = .ok (.iadd, 1) := by decide +kernel
theorem dX10_sumOfLine_40 : decode cX10_sumOfLine 40 = .ok (.istore_n 3, 1) := by decide +kernel
theorem dX10_sumOfLine_41 : decode cX10_sumOfLine 41 = .ok (.iinc 4 1, 3) := by decide +kernel
theorem dX10_sumOfLine_44 : decode cX10_sumOfLine 44 = .ok (.goto (-39), 3) := by decide +kernel
theorem dX10_sumOfLine_47 : decode cX10_sumOfLine 47 = .ok (.iload_n 3, 1) := by decide +kernel
theorem dX10_sumOfLine_48 : decode cX10_sumOfLine 48 = .ok (.ireturn, 1) := by decide +kernel
set_option maxRecDepth 20000 in
theorem ggX10_extreme_X10_at : GoodIn wsX10_extreme wsX10_at := goodIn_r _ [6, 1, 7, 8, 9, 10, 11, 12, 13, 14, 15, 16, 17, 18, 19, 20, 21, 22, 23, 24, 25, 26, 27] (by decide +kernel) (by decide +kernel)
set_option maxRecDepth 20000 in
theorem gX10_extreme_X10_at : GoodIn wsX10_extreme (wsV RX10 93 RX10 yX10_at wsX10_at) := goodIn_app (goodIn_of _ (by decide +kernel)) ggX10_extreme_X10_at
theorem dX10_extreme_0 : decode cX10_extreme 0 = .ok (.aload_n 0, 1) := by decide +kernel
theorem dX10_extreme_1 : decode cX10_extreme 1 = .ok (.iconst 0, 1) := by decide +kernel
theorem dX10_extreme_2 : decode cX10_extreme 2 = .ok (.iconst 0, 1) := by decide +kernel
theorem dX10_extreme_3 : decode cX10_extreme 3 = .ok (.invokevirtual 93, 3) := by decide +kernel
theorem dX10_extreme_6 : decode cX10_extreme 6 = .ok (.istore_n 2, 1) := by decide +kernel
theorem dX10_extreme_7 : decode cX10_extreme 7 = .ok (.iconst 0, 1) := by decide +kernel
theorem dX10_extreme_8 : decode cX10_extreme 8 = .ok (.istore_n 3, 1) := by decide +kernel
theorem dX10_extreme_9 : decode cX10_extreme 9 = .ok (.iload_n 3, 1) := by decide +kernel
theorem dX10_extreme_10 : decode cX10_extreme 10 = .ok (.aload_n 0, 1) := by decide +kernel
theorem dX10_extreme_11 : decode cX10_extreme 11 = .ok (.getfield 7, 3) := by decide +kernel
theorem dX10_extreme_14 : decode cX10_extreme 14 = .ok (.bipush 49, 2) := by decide +kernel
theorem dX10_extreme_16 : decode cX10_extreme 16 = .ok (.iaload, 1) := by decide +kernel
theorem dX10_extreme_17 : decode cX10_extreme 17 = .ok (.aload_n 0, 1) := by decide +kernel
theorem dX10_extreme_18 : decode cX10_extreme 18 = .ok (.getfield 7, 3) := by decide +kernel
theorem dX10_extreme_21 : decode cX10_extreme 21 = .ok (.bipush 49, 2) := by decide +kernel
theorem dX10_extreme_23 : decode cX10_extreme 23 = .ok (.iaload, 1) := by decide +kernel
theorem dX10_extreme_24 : decode cX10_extreme 24 = .ok (.imul, 1) := by decide +kernel
theorem dX10_extreme_25 : decode cX10_extreme 25 = .ok (.if_icmp .ge 55, 3) := by decide +kernel
theorem dX10_extreme_28 : decode cX10_extreme 28 = .ok (.aload_n 0, 1) := by decide +kernel
theorem dX10_extreme_29 : decode cX10_extreme 29 = .ok (.iload_n 3, 1) := by decide +kernel
theorem dX10_extreme_30 : decode cX10_extreme 30 = .ok (.aload_n 0, 1) := by decide +kernel
theorem dX10_extreme_31 : decode cX10_extreme 31 = .ok (.getfield 7, 3) := by decide +kernel
theorem dX10_extreme_34 : decode cX10_extreme 34 = .ok (.bipush 49, 2) := by decide +kernel
theorem dX10_extreme_36 : decode cX10_extreme 36 = .ok (.iaload, 1) := by decide +kernel
theorem dX10_extreme_37 : decode cX10_extreme 37 = .ok (.idiv, 1) := by decide +kernel
theorem dX10_extreme_38 : decode cX10_extreme 38 = .ok (.iload_n 3, 1) := by decide +kernel
theorem dX10_extreme_39 : decode cX10_extreme 39 = .ok (.aload_n 0, 1) := by decide +kernel
theorem dX10_extreme_40 : decode cX10_extreme 40 = .ok (.getfield 7, 3) := by decide +kernel
theorem dX10_extreme_43 : decode cX10_extreme 43 = .ok (.bipush 49, 2) := by decide +kernel
theorem dX10_extreme_45 : decode cX10_extreme 45 = .ok (.iaload, 1) := by decide +kernel
theorem dX10_extreme_46 : decode cX10_extreme 46 = .ok (.irem, 1) := by decide +kernel
theorem dX10_extreme_47 : decode cX10_extreme 47 = .ok (.invokevirtual 93, 3) := by decide +kernel
theorem dX10_extreme_50 : decode cX10_extreme 50 = .ok (.istore 4, 2) := by decide +kernel
theorem dX10_extreme_52 : decode cX10_extreme 52 = .ok (.iload_n 1, 1) := by decide +kernel
theorem dX10_extreme_53 : decode cX10_extreme 53 = .ok (.iload 4, 2) := by decide +kernel
theorem dX10_extreme_55 : decode cX10_extreme 55 = .ok (.iload_n 2, 1) := by decide +kernel
theorem dX10_extreme_56 : decode cX10_extreme 56 = .ok (.if_icmp .le 7, 3) := by decide +kernel
theorem dX10_extreme_59 : decode cX10_extreme 59 = .ok (.iconst 1, 1) := by decide +kernel
theorem dX10_extreme_60 : decode cX10_extreme 60 = .ok (.goto 4, 3) := by decide +kernel
theorem dX10_extreme_63 : decode cX10_extreme 63 = .ok (.iconst 0, 1) := by decide +kernel
theorem dX10_extreme_64 : decode cX10_extreme 64 = .ok (.if_icmp .ne 8, 3) := by decide +kernel
theorem dX10_extreme_67 : decode cX10_extreme 67 = .ok (.iload 4, 2) := by decide +kernel
theorem dX10_extreme_69 : decode cX10_extreme 69 = .ok (.goto 4, 3) := by decide +kernel
theorem dX10_extreme_72 : decode cX10_extreme 72 = .ok (.iload_n 2, 1) := by decide +kernel
theorem dX10_extreme_73 : decode cX10_extreme 73 = .ok (.istore_n 2, 1) := by decide +kernel
theorem dX10_extreme_74 : decode cX10_extreme 74 = .ok (.iinc 3 1, 3) := by decide +kernel
theorem dX10_extreme_77 : decode cX10_extreme 77 = .ok (.goto (-68), 3) := by decide +kernel
theorem dX10_extreme_80 : decode cX10_extreme 80 = .ok (.iload_n 2, 1) := by decide +kernel
theorem dX10_extreme_81 : decode cX10_extreme 81 = .ok (.ireturn, 1) := by decide +kernel
theorem dX10_isSymmetric_0 : decode cX10_isSymmetric 0 = .ok (.iconst 1, 1) := by decide +kernel
theorem dX10_isSymmetric_1 : decode cX10_isSymmetric 1 = .ok (.istore_n 1, 1) := by decide +kernel
theorem dX10_isSymmetric_2 : decode cX10_isSymmetric 2 = .ok (.iconst 0, 1) := by decide +kernel
theorem dX10_isSymmetric_3 : decode cX10_isSymmetric 3 = .ok (.istore_n 2, 1) := by decide +kernel
theorem dX10_isSymmetric_4 : decode cX10_isSymmetric 4 = .ok (.iload_n 2, 1) := by decide +kernel
theorem dX10_isSymmetric_5 : decode cX10_isSymmetric 5 = .ok (.bipush 49, 2) := by decide +kernel
theorem dX10_isSymmetric_7 : decode cX10_isSymmetric 7 = .ok (.if_icmp .ge 45, 3) := by decide +kernel
theorem dX10_isSymmetric_10 : decode cX10_isSymmetric 10 = .ok (.iload_n 1, 1) := by decide +kernel
theorem dX10_isSymmetric_11 : decode cX10_isSymmetric 11 = .ok (.ifCond .eq 33, 3) := by decide +kernel
theorem dX10_isSymmetric_14 : decode cX10_isSymmetric 14 = .ok (.aload_n 0, 1) := by decide +kernel
theorem dX10_isSymmetric_15 : decode cX10_isSymmetric 15 = .ok (.getfield 7, 3) := by decide +kernel
theorem dX10_isSymmetric_18 : decode cX10_isSymmetric 18 = .ok (.iload_n 2, 1) := by decide +kernel
theorem dX10_isSymmetric_19 : decode cX10_isSymmetric 19 = .ok (.iaload, 1) := by decide +kernel
theorem dX10_isSymmetric_20 : decode cX10_isSymmetric 20 = .ok (.aload_n 0, 1) := by decide +kernel
theorem dX10_isSymmetric_21 : decode cX10_isSymmetric 21 = .ok (.getfield 7, 3) := by decide +kernel
theorem dX10_isSymmetric_24 : decode cX10_isSymmetric 24 = .ok (.iload_n 2, 1) := by decide +kernel
theorem dX10_isSymmetric_25 : decode cX10_isSymmetric 25 = .ok (.bipush 7, 2) := by decide +kernel
theorem dX10_isSymmetric_27 : decode cX10_isSymmetric 27 = .ok (.irem, 1) := by decide +kernel
theorem dX10_isSymmetric_28 : decode cX10_isSymmetric 28 = .ok (.bipush 7, 2) := by decide +kernel
theorem dX10_isSymmetric_30 : decode cX10_isSymmetric 30 = .ok (.imul, 1) := by decide +kernel
theorem dX10_isSymmetric_31 : decode cX10_isSymmetric 31 = .ok (.iload_n 2, 1) := by decide +kernel
theorem dX10_isSymmetric_32 : decode cX10_isSymmetric 32 = .ok (.bipush 7, 2) := by decide +kernel
theorem dX10_isSymmetric_34 : decode cX10_isSymmetric 34 = .ok (.idiv, 1) := by decide +kernel
theorem dX10_isSymmetric_35 : decode cX10_isSymmetric 35 = .ok (.iadd, 1) := by decide +kernel
theorem dX10_isSymmetric_36 : decode cX10_isSymmetric 36 = .ok (.iaload, 1) := by decide +kernel
theorem dX10_isSymmetric_37 : decode cX10_isSymmetric 37 = .ok (.if_icmp .ne 7, 3) := by decide +kernel
theorem dX10_isSymmetric_40 : decode cX10_isSymmetric 40 = .ok (.iconst 1, 1) := by decide +kernel
theorem dX10_isSymmetric_41 : decode cX10_isSymmetric 41 = .ok (.goto 4, 3) := by decide +kernel
theorem dX10_isSymmetric_44 : decode cX10_isSymmetric 44 = .ok (.iconst 0, 1) := by decide +kernel
theorem dX10_isSymmetric_45 : decode cX10_isSymmetric 45 = .ok (.istore_n 1, 1) := by decide +kernel
theorem dX10_isSymmetric_46 : decode cX10_isSymmetric 46 = .ok (.iinc 2 1, 3) := by decide +kernel
theorem dX10_isSymmetric_49 : decode cX10_isSymmetric 49 = .ok (.goto (-45), 3) := by decide +kernel
theorem dX10_isSymmetric_52 : decode cX10_isSymmetric 52 = .ok (.iload_n 1, 1) := by decide +kernel
theorem dX10_isSymmetric_53 : decode cX10_isSymmetric 53 = .ok (.ireturn, 1) := by decide +kernel
set_option maxRecDepth 20000 in
theorem ggX10_areSumsLike_X10_sumOfLine : GoodIn wsX10_areSumsLike wsX10_sumOfLine := goodIn_r _ [6, 1, 7, 8, 9, 5, 10, 11, 12, 13, 14, 15, 16, 17, 18, 19, 20, 21, 22, 23, 24, 25, 26, 27, 28, 29, 30, 31] (by decide +kernel) (by decide +kernel)
set_option maxRecDepth 20000 in
theorem gX10_areSumsLike_X10_sumOfLine : GoodIn wsX10_areSumsLike (wsV RX10 139 RX10 yX10_sumOfLine wsX10_sumOfLine) := goodIn_app (goodIn_of _ (by decide +kernel)) ggX10_areSumsLike_X10_sumOfLine
theorem dX10_areSumsLike_0 : decode cX10_areSumsLike 0 = .ok (.iconst 1, 1) := by decide +kernel
theorem dX10_areSumsLike_1 : decode cX10_areSumsLike 1 = .ok (.istore_n 1, 1) := by decide +kernel
theorem dX10_areSumsLike_2 : decode cX10_areSumsLike 2 = .ok (.iconst 0, 1) := by decide +kernel
theorem dX10_areSumsLike_3 : decode cX10_areSumsLike 3 = .ok (.istore_n 2, 1) := by decide +kernel
theorem dX10_areSumsLike_4 : decode cX10_areSumsLike 4 = .ok (.iload_n 2, 1) := by decide +kernel
theorem dX10_areSumsLike_5 : decode cX10_areSumsLike 5 = .ok (.aload_n 0, 1) := by decide +kernel
theorem dX10_areSumsLike_6 : decode cX10_areSumsLike 6 = .ok (.getfield 7, 3) := by decide +kernel
theorem dX10_areSumsLike_9 : decode cX10_areSumsLike 9 = .ok (.bipush 49, 2) := by decide +kernel
theorem dX10_areSumsLike_11 : decode cX10_areSumsLike 11 = .ok (.iaload, 1) := by decide +kernel
theorem dX10_areSumsLike_12 : decode cX10_areSumsLike 12 = .ok (.if_icmp .ge 49, 3) := by decide +kernel
theorem dX10_areSumsLike_15 : decode cX10_areSumsLike 15 = .ok (.iload_n 1, 1) := by decide +kernel
theorem dX10_areSumsLike_16 : decode cX10_areSumsLike 16 = .ok (.ifCond .eq 37, 3) := by decide +kernel
theorem dX10_areSumsLike_19 : decode cX10_areSumsLike 19 = .ok (.aload_n 0, 1) := by decide +kernel
theorem dX10_areSumsLike_20 : decode cX10_areSumsLike 20 = .ok (.iload_n 2, 1) := by decide +kernel
theorem dX10_areSumsLike_21 : decode cX10_areSumsLike 21 = .ok (.iconst 0, 1) := by decide +kernel
theorem dX10_areSumsLike_22 : decode cX10_areSumsLike 22 = .ok (.invokevirtual 139, 3) := by decide +kernel
theorem dX10_areSumsLike_25 : decode cX10_areSumsLike 25 = .ok (.aload_n 0, 1) := by decide +kernel
theorem dX10_areSumsLike_26 : decode cX10_areSumsLike 26 = .ok (.iconst 0, 1) := by decide +kernel
theorem dX10_areSumsLike_27 : decode cX10_areSumsLike 27 = .ok (.iconst 0, 1) := by decide +kernel
theorem dX10_areSumsLike_28 : decode cX10_areSumsLike 28 = .ok (.invokevirtual 139, 3) := by decide +kernel
theorem dX10_areSumsLike_31 : decode cX10_areSumsLike 31 = .ok (.if_icmp .ne 22, 3) := by decide +kernel
theorem dX10_areSumsLike_34 : decode cX10_areSumsLike 34 = .ok (.aload_n 0, 1) := by decide +kernel
theorem dX10_areSumsLike_35 : decode cX10_areSumsLike 35 = .ok (.iload_n 2, 1) := by decide +kernel
theorem dX10_areSumsLike_36 : decode cX10_areSumsLike 36 = .ok (.iconst 1, 1) := by decide +kernel
theorem dX10_areSumsLike_37 : decode cX10_areSumsLike 37 = .ok (.invokevirtual 139, 3) := by decide +kernel
theorem dX10_areSumsLike_40 : decode cX10_areSumsLike 40 = .ok (.aload_n 0, 1) := by decide +kernel
theorem dX10_areSumsLike_41 : decode cX10_areSumsLike 41 = .ok (.iconst 0, 1) := by decide +kernel
theorem dX10_areSumsLike_42 : decode cX10_areSumsLike 42 = .ok (.iconst 0, 1) := by decide +kernel
theorem dX10_areSumsLike_43 : decode cX10_areSumsLike 43 = .ok (.invokevirtual 139, 3) := by decide +kernel
theorem dX10_areSumsLike_46 : decode cX10_areSumsLike 46 = .ok (.if_icmp .ne 7, 3) := by decide +kernel
theorem dX10_areSumsLike_49 : decode cX10_areSumsLike 49 = .ok (.iconst 1, 1) := by decide +kernel
theorem dX10_areSumsLike_50 : decode cX10_areSumsLike 50 = .ok (.goto 4, 3) := by decide +kernel
theorem dX10_areSumsLike_53 : decode cX10_areSumsLike 53 = .ok (.iconst 0, 1) := by decide +kernel
theorem dX10_areSumsLike_54 : decode cX10_areSumsLike 54 = .ok (.istore_n 1, 1) := by decide +kernel
theorem dX10_areSumsLike_55 : decode cX10_areSumsLike 55 = .ok (.iinc 2 1, 3) := by decide +kernel
theorem dX10_areSumsLike_58 : decode cX10_areSumsLike 58 = .ok (.goto (-54), 3) := by decide +kernel
theorem dX10_areSumsLike_61 : decode cX10_areSumsLike 61 = .ok (.iload_n 1, 1) := by decide +kernel
theorem dX10_areSumsLike_62 : decode cX10_areSumsLike 62 = .ok (.ireturn, 1) := by decide +kernel
set_option maxRecDepth 20000 in
theorem ggX10_total_X10_extreme : GoodIn wsX10_total wsX10_extreme := goodIn_r _ [9, 1, 10, 11, 12, 8, 13, 26, 27, 28, 29, 30, 31, 32, 33, 34, 35, 36, 37, 38, 39, 40, 41, 42, 43, 44, 45, 46] (by decide +kernel) (by decide +kernel)
set_option maxRecDepth 20000 in
theorem gX10_total_X10_extreme : GoodIn wsX10_total (wsV RX10 143 RX10 yX10_extreme wsX10_extreme) := goodIn_app (goodIn_of _ (by decide +kernel)) ggX10_total_X10_extreme
set_option maxRecDepth 20000 in
theorem ggX10_total_X10_isSymmetric : GoodIn wsX10_total wsX10_isSymmetric := goodIn_r _ [17, 1, 26, 27, 28, 29, 30, 31, 32, 33, 34, 35, 36, 37, 38, 39, 40, 41, 42, 43, 44, 45, 46] (by decide +kernel) (by decide +kernel)
set_option maxRecDepth 20000 in
theorem gX10_total_X10_isSymmetric : GoodIn wsX10_total (wsV RX10 147 RX10 yX10_isSymmetric wsX10_isSymmetric) := goodIn_app (goodIn_of _ (by decide +kernel)) ggX10_total_X10_isSymmetric
set_option maxRecDepth 20000 in
theorem ggX10_total_X10_areSumsLike : GoodIn wsX10_total wsX10_areSumsLike := goodIn_r _ [21, 1, 22, 23, 24, 8, 25, 10, 11, 12, 13, 26, 27, 28, 29, 30, 31, 32, 33, 34, 35, 36, 37, 38, 39, 40, 41, 42, 43, 44, 45, 46] (by decide +kernel) (by decide +kernel)
set_option maxRecDepth 20000 in
theorem gX10_total_X10_areSumsLike : GoodIn wsX10_total (wsV RX10 150 RX10 yX10_areSumsLike wsX10_areSumsLike) := goodIn_app (goodIn_of _ (by decide +kernel)) ggX10_total_X10_areSumsLike
theorem dX10_total_0 : decode cX10_total 0 = .ok (.iconst 0, 1) := by decide +kernel
theorem dX10_total_1 : decode cX10_total 1 = .ok (.istore_n 2, 1) := by decide +kernel
theorem dX10_total_2 : decode cX10_total 2 = .ok (.iconst 0, 1) := by decide +kernel
theorem dX10_total_3 : decode cX10_total 3 = .ok (.istore_n 3, 1) := by decide +kernel
theorem dX10_total_4 : decode cX10_total 4 = .ok (.iconst 0, 1) := by decide +kernel
theorem dX10_total_5 : decode cX10_total 5 = .ok (.istore 4, 2) := by decide +kernel
theorem dX10_total_7 : decode cX10_total 7 = .ok (.iload 4, 2) := by decide +kernel
theorem dX10_total_9 : decode cX10_total 9 = .ok (.bipush 49, 2) := by decide +kernel
theorem dX10_total_11 : decode cX10_total 11 = .ok (.if_icmp .ge 37, 3) := by decide +kernel
theorem dX10_total_14 : decode cX10_total 14 = .ok (.iload_n 2, 1) := by decide +kernel
theorem dX10_total_15 : decode cX10_total 15 = .ok (.aload_n 0, 1) := by decide +kernel
theorem dX10_total_16 : decode cX10_total 16 = .ok (.getfield 7, 3) := by decide +kernel
theorem dX10_total_19 : decode cX10_total 19 = .ok (.iload 4, 2) := by decide +kernel
theorem dX10_total_21 : decode cX10_total 21 = .ok (.iaload, 1) := by decide +kernel
theorem dX10_total_22 : decode cX10_total 22 = .ok (.ifCond .ne 7, 3) := by decide +kernel
theorem dX10_total_25 : decode cX10_total 25 = .ok (.iconst 0, 1) := by decide +kernel
theorem dX10_total_26 : decode cX10_total 26 = .ok (.goto 4, 3) := by decide +kernel
theorem dX10_total_29 : decode cX10_total 29 = .ok (.iconst 1, 1) := by decide +kernel
theorem dX10_total_30 : decode cX10_total 30 = .ok (.iadd, 1) := by decide +kernel
theorem dX10_total_31 : decode cX10_total 31 = .ok (.istore_n 2, 1) := by decide +kernel
theorem dX10_total_32 : decode cX10_total 32 = .ok (.iload_n 3, 1) := by decide +kernel
theorem dX10_total_33 : decode cX10_total 33 = .ok (.aload_n 0, 1) := by decide +kernel
theorem dX10_total_34 : decode cX10_total 34 = .ok (.getfield 7, 3) := by decide +kernel
theorem dX10_total_37 : decode cX10_total 37 = .ok (.iload 4, 2) := by decide +kernel
theorem dX10_total_39 : decode cX10_total 39 = .ok (.iaload, 1) := by decide +kernel
theorem dX10_total_40 : decode cX10_total 40 = .ok (.iadd, 1) := by decide +kernel
theorem dX10_total_41 : decode cX10_total 41 = .ok (.istore_n 3, 1) := by decide +kernel
theorem dX10_total_42 : decode cX10_total 42 = .ok (.iinc 4 1, 3) := by decide +kernel
theorem dX10_total_45 : decode cX10_total 45 = .ok (.goto (-38), 3) := by decide +kernel
theorem dX10_total_48 : decode cX10_total 48 = .ok (.iload_n 1, 1) := by decide +kernel
theorem dX10_total_49 : decode cX10_total 49 = .ok (.tableswitch 111 0 8 #[51, 59, 61, 63, 69, 75, 88, 101, 106], 51) := by decide +kernel
theorem dX10_total_100 : decode cX10_total 100 = .ok (.aload_n 0, 1) := by decide +kernel
theorem dX10_total_101 : decode cX10_total 101 = .ok (.getfield 7, 3) := by decide +kernel
theorem dX10_total_104 : decode cX10_total 104 = .ok (.bipush 49, 2) := by decide +kernel
theorem dX10_total_106 : decode cX10_total 106 = .ok (.iaload, 1) := by decide +kernel
theorem dX10_total_107 : decode cX10_total 107 = .ok (.ireturn, 1) := by decide +kernel
theorem dX10_total_108 : decode cX10_total 108 = .ok (.iload_n 2, 1) := by decide +kernel
theorem dX10_total_109 : decode cX10_total 109 = .ok (.ireturn, 1) := by decide +kernel
theorem dX10_total_110 : decode cX10_total 110 = .ok (.iload_n 3, 1) := by decide +kernel
theorem dX10_total_111 : decode cX10_total 111 = .ok (.ireturn, 1) := by decide +kernel
theorem dX10_total_112 : decode cX10_total 112 = .ok (.aload_n 0, 1) := by decide +kernel
theorem dX10_total_113 : decode cX10_total 113 = .ok (.iconst 1, 1) := by decide +kernel
theorem dX10_total_114 : decode cX10_total 114 = .ok (.invokevirtual 143, 3) := by decide +kernel
theorem dX10_total_117 : decode cX10_total 117 = .ok (.ireturn, 1) := by decide +kernel
theorem dX10_total_118 : decode cX10_total 118 = .ok (.aload_n 0, 1) := by decide +kernel
theorem dX10_total_119 : decode cX10_total 119 = .ok (.iconst 0, 1) := by decide +kernel
theorem dX10_total_120 : decode cX10_total 120 = .ok (.invokevirtual 143, 3) := by decide +kernel
theorem dX10_total_123 : decode cX10_total 123 = .ok (.ireturn, 1) := by decide +kernel
theorem dX10_total_124 : decode cX10_total 124 = .ok (.aload_n 0, 1) := by decide +kernel
theorem dX10_total_125 : decode cX10_total 125 = .ok (.invokevirtual 147, 3) := by decide +kernel
theorem dX10_total_128 : decode cX10_total 128 = .ok (.ifCond .eq 7, 3) := by decide +kernel
theorem dX10_total_131 : decode cX10_total 131 = .ok (.iconst 1, 1) := by decide +kernel
theorem dX10_total_132 : decode cX10_total 132 = .ok (.goto 4, 3) := by decide +kernel
theorem dX10_total_135 : decode cX10_total 135 = .ok (.iconst 0, 1) := by decide +kernel
theorem dX10_total_136 : decode cX10_total 136 = .ok (.ireturn, 1) := by decide +kernel
theorem dX10_total_137 : decode cX10_total 137 = .ok (.aload_n 0, 1) := by decide +kernel
theorem dX10_total_138 : decode cX10_total 138 = .ok (.invokevirtual 150, 3) := by decide +kernel
theorem dX10_total_141 : decode cX10_total 141 = .ok (.ifCond .eq 7, 3) := by decide +kernel
theorem dX10_total_144 : decode cX10_total 144 = .ok (.iconst 1, 1) := by decide +kernel
theorem dX10_total_145 : decode cX10_total 145 = .ok (.goto 4, 3) := by decide +kernel
theorem dX10_total_148 : decode cX10_total 148 = .ok (.iconst 0, 1) := by decide +kernel
theorem dX10_total_149 : decode cX10_total 149 = .ok (.ireturn, 1) := by decide +kernel
theorem dX10_total_150 : decode cX10_total 150 = .ok (.aload_n 0, 1) := by decide +kernel
theorem dX10_total_151 : decode cX10_total 151 = .ok (.getfield 63, 3) := by decide +kernel
theorem dX10_total_154 : decode cX10_total 154 = .ok (.ireturn, 1) := by decide +kernel
theorem dX10_total_155 : decode cX10_total 155 = .ok (.aload_n 0, 1) := by decide +kernel
theorem dX10_total_156 : decode cX10_total 156 = .ok (.getfield 112, 3) := by decide +kernel
theorem dX10_total_159 : decode cX10_total 159 = .ok (.ireturn, 1) := by decide +kernel
theorem dX10_total_160 : decode cX10_total 160 = .ok (.ldc 83, 2) := by decide +kernel
theorem dX10_total_162 : decode cX10_total 162 = .ok (.ireturn, 1) := by decide +kernel
set_option maxRecDepth 20000 in
theorem ggX10_lineSum_X10_isLine : GoodIn wsX10_lineSum wsX10_isLine := goodIn_r _ [6, 7, 8, 9, 5, 10, 19, 20, 21, 22, 23, 24, 25, 26, 27, 28, 29, 30, 31, 32, 33, 34, 35, 36, 37, 38, 39] (by decide +kernel) (by decide +kernel)
set_option maxRecDepth 20000 in
theorem gX10_lineSum_X10_isLine : GoodIn wsX10_lineSum (wsV RX10 88 RX10 yX10_isLine wsX10_isLine) := goodIn_app (goodIn_of _ (by decide +kernel)) ggX10_lineSum_X10_isLine
set_option maxRecDepth 20000 in
theorem ggX10_lineSum_X10_sumOfLine : GoodIn wsX10_lineSum wsX10_sumOfLine := goodIn_r _ [14, 7, 15, 16, 17, 5, 18, 19, 20, 21, 22, 23, 24, 25, 26, 27, 28, 29, 30, 31, 32, 33, 34, 35, 36, 37, 38, 39] (by decide +kernel) (by decide +kernel)
set_option maxRecDepth 20000 in
theorem gX10_lineSum_X10_sumOfLine : GoodIn wsX10_lineSum (wsV RX10 139 RX10 yX10_sumOfLine wsX10_sumOfLine) := goodIn_app (goodIn_of _ (by decide +kernel)) ggX10_lineSum_X10_sumOfLine
theorem dX10_lineSum_0 : decode cX10_lineSum 0 = .ok (.aload_n 0, 1) := by decide +kernel
theorem dX10_lineSum_1 : decode cX10_lineSum 1 = .ok (.iload_n 1, 1) := by decide +kernel
theorem dX10_lineSum_2 : decode cX10_lineSum 2 = .ok (.invokevirtual 88, 3) := by decide +kernel
theorem dX10_lineSum_5 : decode cX10_lineSum 5 = .ok (.ifCond .eq 12, 3) := by decide +kernel
theorem dX10_lineSum_8 : decode cX10_lineSum 8 = .ok (.aload_n 0, 1) := by decide +kernel
theorem dX10_lineSum_9 : decode cX10_lineSum 9 = .ok (.iload_n 1, 1) := by decide +kernel
theorem dX10_lineSum_10 : decode cX10_lineSum 10 = .ok (.iload_n 2, 1) := by decide +kernel
theorem dX10_lineSum_11 : decode cX10_lineSum 11 = .ok (.invokevirtual 139, 3) := by decide +kernel
theorem dX10_lineSum_14 : decode cX10_lineSum 14 = .ok (.goto 5, 3) := by decide +kernel
theorem dX10_lineSum_17 : decode cX10_lineSum 17 = .ok (.ldc 92, 2) := by decide +kernel
theorem dX10_lineSum_19 : decode cX10_lineSum 19 = .ok (.ireturn, 1) := by decide +kernel
theorem dX10_take_0 : decode cX10_take 0 = .ok (.iconst 0, 1) := by decide +kernel
theorem dX10_take_1 : decode cX10_take 1 = .ok (.istore_n 2, 1) := by decide +kernel
theorem dX10_take_2 : decode cX10_take 2 = .ok (.iconst 0, 1) := by decide +kernel
theorem dX10_take_3 : decode cX10_take 3 = .ok (.istore_n 3, 1) := by decide +kernel
theorem dX10_take_4 : decode cX10_take 4 = .ok (.iload_n 3, 1) := by decide +kernel
theorem dX10_take_5 : decode cX10_take 5 = .ok (.bipush 7, 2) := by decide +kernel
theorem dX10_take_7 : decode cX10_take 7 = .ok (.if_icmp .ge 25, 3) := by decide +kernel
theorem dX10_take_10 : decode cX10_take 10 = .ok (.iload_n 0, 1) := by decide +kernel
theorem dX10_take_11 : decode cX10_take 11 = .ok (.iload_n 3, 1) := by decide +kernel
theorem dX10_take_12 : decode cX10_take 12 = .ok (.ishr, 1) := by decide +kernel
theorem dX10_take_13 : decode cX10_take 13 = .ok (.iconst 1, 1) := by decide +kernel
theorem dX10_take_14 : decode cX10_take 14 = .ok (.iand, 1) := by decide +kernel
theorem dX10_take_15 : decode cX10_take 15 = .ok (.iconst 1, 1) := by decide +kernel
theorem dX10_take_16 : decode cX10_take 16 = .ok (.if_icmp .ne 10, 3) := by decide +kernel
theorem dX10_take_19 : decode cX10_take 19 = .ok (.aload_n 1, 1) := by decide +kernel
theorem dX10_take_20 : decode cX10_take 20 = .ok (.iload_n 2, 1) := by decide +kernel
theorem dX10_take_21 : decode cX10_take 21 = .ok (.iload_n 3, 1) := by decide +kernel
theorem dX10_take_22 : decode cX10_take 22 = .ok (.iastore, 1) := by decide +kernel
theorem dX10_take_23 : decode cX10_take 23 = .ok (.iinc 2 1, 3) := by decide +kernel
theorem dX10_take_26 : decode cX10_take 26 = .ok (.iinc 3 1, 3) := by decide +kernel
theorem dX10_take_29 : decode cX10_take 29 = .ok (.goto (-25), 3) := by decide +kernel
theorem dX10_take_32 : decode cX10_take 32 = .ok (.iload_n 2, 1) := by decide +kernel
theorem dX10_take_33 : decode cX10_take 33 = .ok (.ireturn, 1) := by decide +kernel
set_option maxRecDepth 20000 in
theorem ggX10_product_X10_at : GoodIn wsX10_product wsX10_at := goodIn_r _ [8, 9, 10, 11, 12, 13, 14, 15, 16, 17, 18, 19, 20, 21, 22, 23, 24, 25, 26, 27, 28, 29, 30] (by decide +kernel) (by decide +kernel)
set_option maxRecDepth 20000 in
theorem gX10_product_X10_at : GoodIn wsX10_product (wsV RX10 93 RX10 yX10_at wsX10_at) := goodIn_app (goodIn_of _ (by decide +kernel)) ggX10_product_X10_at
theorem dX10_product_0 : decode cX10_product 0 = .ok (.lconst 1, 1) := by decide +kernel
theorem dX10_product_1 : decode cX10_product 1 = .ok (.lstore_n 2, 1) := by decide +kernel
theorem dX10_product_2 : decode cX10_product 2 = .ok (.iconst 0, 1) := by decide +kernel
theorem dX10_product_3 : decode cX10_product 3 = .ok (.istore 4, 2) := by decide +kernel
theorem dX10_product_5 : decode cX10_product 5 = .ok (.iload 4, 2) := by decide +kernel
theorem dX10_product_7 : decode cX10_product 7 = .ok (.iload_n 1, 1) := by decide +kernel
theorem dX10_product_8 : decode cX10_product 8 = .ok (.if_icmp .ge 36, 3) := by decide +kernel
theorem dX10_product_11 : decode cX10_product 11 = .ok (.lload_n 2, 1) := by decide +kernel
theorem dX10_product_12 : decode cX10_product 12 = .ok (.aload_n 0, 1) := by decide +kernel
theorem dX10_product_13 : decode cX10_product 13 = .ok (.aload_n 0, 1) := by decide +kernel
theorem dX10_product_14 : decode cX10_product 14 = .ok (.getfield 31, 3) := by decide +kernel
theorem dX10_product_17 : decode cX10_product 17 = .ok (.iload 4, 2) := by decide +kernel
theorem dX10_product_19 : decode cX10_product 19 = .ok (.iaload, 1) := by decide +kernel
theorem dX10_product_20 : decode cX10_product 20 = .ok (.aload_n 0, 1) := by decide +kernel
theorem dX10_product_21 : decode cX10_product 21 = .ok (.getfield 34, 3) := by decide +kernel
theorem dX10_product_24 : decode cX10_product 24 = .ok (.aload_n 0, 1) := by decide +kernel
theorem dX10_product_25 : decode cX10_product 25 = .ok (.getfield 25, 3) := by decide +kernel
theorem dX10_product_28 : decode cX10_product 28 = .ok (.iload 4, 2) := by decide +kernel
theorem dX10_product_30 : decode cX10_product 30 = .ok (.iaload, 1) := by decide +kernel
theorem dX10_product_31 : decode cX10_product 31 = .ok (.iaload, 1) := by decide +kernel
theorem dX10_product_32 : decode cX10_product 32 = .ok (.invokevirtual 93, 3) := by decide +kernel
theorem dX10_product_35 : decode cX10_product 35 = .ok (.i2l, 1) := by decide +kernel
theorem dX10_product_36 : decode cX10_product 36 = .ok (.lmul, 1) := by decide +kernel
theorem dX10_product_37 : decode cX10_product 37 = .ok (.lstore_n 2, 1) := by decide +kernel
theorem dX10_product_38 : decode cX10_product 38 = .ok (.iinc 4 1, 3) := by decide +kernel
theorem dX10_product_41 : decode cX10_product 41 = .ok (.goto (-36), 3) := by decide +kernel
theorem dX10_product_44 : decode cX10_product 44 = .ok (.lload_n 2, 1) := by decide +kernel
theorem dX10_product_45 : decode cX10_product 45 = .ok (.lreturn, 1) := by decide +kernel
set_option maxRecDepth 20000 in
theorem ggX10_sumOfSets_X10_take : GoodIn wsX10_sumOfSets wsX10_take := goodIn_r _ [6] (by decide +kernel) (by decide +kernel)
set_option maxRecDepth 20000 in
theorem gX10_sumOfSets_X10_take : GoodIn wsX10_sumOfSets (va_wsS RX10 153 yX10_take wsX10_take) := goodIn_app (goodIn_of _ (by decide +kernel)) ggX10_sumOfSets_X10_take
set_option maxRecDepth 20000 in
theorem ggX10_sumOfSets_X10_firstOrder : GoodIn wsX10_sumOfSets wsX10_firstOrder := goodIn_r _ [10, 11, 29, 30, 31, 32, 33, 34, 35, 36, 37, 38, 39, 40, 41, 42, 43, 44, 45, 46, 47, 48, 49] (by decide +kernel) (by decide +kernel)
set_option maxRecDepth 20000 in
theorem gX10_sumOfSets_X10_firstOrder : GoodIn wsX10_sumOfSets (wsV RX10 157 RX10 yX10_firstOrder wsX10_firstOrder) := goodIn_app (goodIn_of _ (by decide +kernel)) ggX10_sumOfSets_X10_firstOrder
set_option maxRecDepth 20000 in
theorem ggX10_sumOfSets_X10_product : GoodIn wsX10_sumOfSets wsX10_product := goodIn_r _ [15, 1, 2, 11, 16, 17, 18, 5, 19, 20, 29, 30, 31, 32, 33, 34, 35, 36, 37, 38, 39, 40, 41, 42, 43, 44, 45, 46, 47, 48, 49] (by decide +kernel) (by decide +kernel)
set_option maxRecDepth 20000 in
theorem gX10_sumOfSets_X10_product : GoodIn wsX10_sumOfSets (wsV RX10 160 RX10 yX10_product wsX10_product) := goodIn_app (goodIn_of _ (by decide +kernel)) ggX10_sumOfSets_X10_product
set_option maxRecDepth 20000 in
theorem ggX10_sumOfSets_X10_nextOrder : GoodIn wsX10_sumOfSets wsX10_nextOrder := goodIn_r _ [24, 11, 25, 26, 27, 5, 28, 29, 30, 31, 32, 33, 34, 35, 36, 37, 38, 39, 40, 41, 42, 43, 44, 45, 46, 47, 48, 49] (by decide +kernel) (by decide +kernel)
set_option maxRecDepth 20000 in
theorem gX10_sumOfSets_X10_nextOrder : GoodIn wsX10_sumOfSets (wsV RX10 164 RX10 yX10_nextOrder wsX10_nextOrder) := goodIn_app (goodIn_of _ (by decide +kernel)) ggX10_sumOfSets_X10_nextOrder
theorem dX10_sumOfSets_0 : decode cX10_sumOfSets 0 = .ok (.iload_n 1, 1) := by decide +kernel
theorem dX10_sumOfSets_1 : decode cX10_sumOfSets 1 = .ok (.aload_n 0, 1) := by decide +kernel
theorem dX10_sumOfSets_2 : decode cX10_sumOfSets 2 = .ok (.getfield 31, 3) := by decide +kernel
theorem dX10_sumOfSets_5 : decode cX10_sumOfSets 5 = .ok (.invokestatic 153, 3) := by decide +kernel
theorem dX10_sumOfSets_8 : decode cX10_sumOfSets 8 = .ok (.istore 4, 2) := by decide +kernel
theorem dX10_sumOfSets_10 : decode cX10_sumOfSets 10 = .ok (.iload_n 2, 1) := by decide +kernel
theorem dX10_sumOfSets_11 : decode cX10_sumOfSets 11 = .ok (.aload_n 0, 1) := by decide +kernel
theorem dX10_sumOfSets_12 : decode cX10_sumOfSets 12 = .ok (.getfield 34, 3) := by decide +kernel
theorem dX10_sumOfSets_15 : decode cX10_sumOfSets 15 = .ok (.invokestatic 153, 3) := by decide +kernel
theorem dX10_sumOfSets_18 : decode cX10_sumOfSets 18 = .ok (.pop, 1) := by decide +kernel
theorem dX10_sumOfSets_19 : decode cX10_sumOfSets 19 = .ok (.aload_n 0, 1) := by decide +kernel
theorem dX10_sumOfSets_20 : decode cX10_sumOfSets 20 = .ok (.iload 4, 2) := by decide +kernel
theorem dX10_sumOfSets_22 : decode cX10_sumOfSets 22 = .ok (.invokevirtual 157, 3) := by decide +kernel
theorem dX10_sumOfSets_25 : decode cX10_sumOfSets 25 = .ok (.lconst 0, 1) := by decide +kernel
theorem dX10_sumOfSets_26 : decode cX10_sumOfSets 26 = .ok (.lstore 5, 2) := by decide +kernel
theorem dX10_sumOfSets_28 : decode cX10_sumOfSets 28 = .ok (.iconst 1, 1) := by decide +kernel
theorem dX10_sumOfSets_29 : decode cX10_sumOfSets 29 = .ok (.istore 7, 2) := by decide +kernel
theorem dX10_sumOfSets_31 : decode cX10_sumOfSets 31 = .ok (.iload 7, 2) := by decide +kernel
theorem dX10_sumOfSets_33 : decode cX10_sumOfSets 33 = .ok (.ifCond .eq 48, 3) := by decide +kernel
theorem dX10_sumOfSets_36 : decode cX10_sumOfSets 36 = .ok (.aload_n 0, 1) := by decide +kernel
theorem dX10_sumOfSets_37 : decode cX10_sumOfSets 37 = .ok (.iload 4, 2) := by decide +kernel
theorem dX10_sumOfSets_39 : decode cX10_sumOfSets 39 = .ok (.invokevirtual 160, 3) := by decide +kernel
theorem dX10_sumOfSets_42 : decode cX10_sumOfSets 42 = .ok (.lstore 8, 2) := by decide +kernel
theorem dX10_sumOfSets_44 : decode cX10_sumOfSets 44 = .ok (.lload 5, 2) := by decide +kernel
theorem dX10_sumOfSets_46 : decode cX10_sumOfSets 46 = .ok (.iload_n 3, 1) := by decide +kernel
theorem dX10_sumOfSets_47 : decode cX10_sumOfSets 47 = .ok (.ifCond .ne 8, 3) := by decide +kernel
theorem dX10_sumOfSets_50 : decode cX10_sumOfSets 50 = .ok (.lload 8, 2) := by decide +kernel
theorem dX10_sumOfSets_52 : decode cX10_sumOfSets 52 = .ok (.goto 15, 3) := by decide +kernel
theorem dX10_sumOfSets_55 : decode cX10_sumOfSets 55 = .ok (.lload 8, 2) := by decide +kernel
theorem dX10_sumOfSets_57 : decode cX10_sumOfSets 57 = .ok (.lconst 0, 1) := by decide +kernel
theorem dX10_sumOfSets_58 : decode cX10_sumOfSets 58 = .ok (.lcmp, 1) := by decide +kernel
theorem dX10_sumOfSets_59 : decode cX10_sumOfSets 59 = .ok (.ifCond .ne 7, 3) := by decide +kernel
theorem dX10_sumOfSets_62 : decode cX10_sumOfSets 62 = .ok (.lconst 0, 1) := by decide +kernel
theorem dX10_sumOfSets_63 : decode cX10_sumOfSets 63 = .ok (.goto 4, 3) := by decide +kernel
theorem dX10_sumOfSets_66 : decode cX10_sumOfSets 66 = .ok (.lconst 1, 1) := by decide +kernel
theorem dX10_sumOfSets_67 : decode cX10_sumOfSets 67 = .ok (.ladd, 1) := by decide +kernel
theorem dX10_sumOfSets_68 : decode cX10_sumOfSets 68 = .ok (.lstore 5, 2) := by decide +kernel
theorem dX10_sumOfSets_70 : decode cX10_sumOfSets 70 = .ok (.aload_n 0, 1) := by decide +kernel
theorem dX10_sumOfSets_71 : decode cX10_sumOfSets 71 = .ok (.iload 4, 2) := by decide +kernel
theorem dX10_sumOfSets_73 : decode cX10_sumOfSets 73 = .ok (.invokevirtual 164, 3) := by decide +kernel
theorem dX10_sumOfSets_76 : decode cX10_sumOfSets 76 = .ok (.istore 7, 2) := by decide +kernel
theorem dX10_sumOfSets_78 : decode cX10_sumOfSets 78 = .ok (.goto (-47), 3) := by decide +kernel
theorem dX10_sumOfSets_81 : decode cX10_sumOfSets 81 = .ok (.lload 5, 2) := by decide +kernel
theorem dX10_sumOfSets_83 : decode cX10_sumOfSets 83 = .ok (.lreturn, 1) := by decide +kernel
theorem dX10_all_0 : decode cX10_all 0 = .ok (.iconst 1, 1) := by decide +kernel
theorem dX10_all_1 : decode cX10_all 1 = .ok (.aload_n 0, 1) := by decide +kernel
theorem dX10_all_2 : decode cX10_all 2 = .ok (.getfield 7, 3) := by decide +kernel
theorem dX10_all_5 : decode cX10_all 5 = .ok (.bipush 49, 2) := by decide +kernel
theorem dX10_all_7 : decode cX10_all 7 = .ok (.iaload, 1) := by decide +kernel
theorem dX10_all_8 : decode cX10_all 8 = .ok (.ishl, 1) := by decide +kernel
theorem dX10_all_9 : decode cX10_all 9 = .ok (.iconst 1, 1) := by decide +kernel
theorem dX10_all_10 : decode cX10_all 10 = .ok (.isub, 1) := by decide +kernel
theorem dX10_all_11 : decode cX10_all 11 = .ok (.ireturn, 1) := by decide +kernel
set_option maxRecDepth 20000 in
theorem ggX10_permanent_X10_all : GoodIn wsX10_permanent wsX10_all := goodIn_r _ [5, 6, 37, 38, 39, 40, 41, 42, 43, 44, 45, 46, 47, 48, 49, 50, 51, 52, 53, 54, 55, 56, 57] (by decide +kernel) (by decide +kernel)
set_option maxRecDepth 20000 in
theorem gX10_permanent_X10_all : GoodIn wsX10_permanent (wsV RX10 167 RX10 yX10_all wsX10_all) := goodIn_app (goodIn_of _ (by decide +kernel)) ggX10_permanent_X10_all
set_option maxRecDepth 20000 in
theorem ggX10_permanent_X10_sumOfSets : GoodIn wsX10_permanent wsX10_sumOfSets := goodIn_r _ [10, 11, 12, 13, 14, 4, 15, 16, 17, 18, 19, 20, 21, 22, 23, 24, 25, 26, 27, 28, 6, 29, 30, 31, 32, 33, 34, 35, 36, 37, 38, 39, 40, 41, 42, 43, 44, 45, 46, 47, 48, 49, 50, 51, 52, 53, 54, 55, 56, 57] (by decide +kernel) (by decide +kernel)
set_option maxRecDepth 20000 in
theorem gX10_permanent_X10_sumOfSets : GoodIn wsX10_permanent (wsV RX10 170 RX10 yX10_sumOfSets wsX10_sumOfSets) := goodIn_app (goodIn_of _ (by decide +kernel)) ggX10_permanent_X10_sumOfSets
theorem dX10_permanent_0 : decode cX10_permanent 0 = .ok (.aload_n 0, 1) := by decide +kernel
theorem dX10_permanent_1 : decode cX10_permanent 1 = .ok (.aload_n 0, 1) := by decide +kernel
theorem dX10_permanent_2 : decode cX10_permanent 2 = .ok (.invokevirtual 167, 3) := by decide +kernel
theorem dX10_permanent_5 : decode cX10_permanent 5 = .ok (.aload_n 0, 1) := by decide +kernel
theorem dX10_permanent_6 : decode cX10_permanent 6 = .ok (.invokevirtual 167, 3) := by decide +kernel
theorem dX10_permanent_9 : decode cX10_permanent 9 = .ok (.iconst 0, 1) := by decide +kernel
theorem dX10_permanent_10 : decode cX10_permanent 10 = .ok (.invokevirtual 170, 3) := by decide +kernel
theorem dX10_permanent_13 : decode cX10_permanent 13 = .ok (.lreturn, 1) := by decide +kernel
theorem dX10_pairsTurned_0 : decode cX10_pairsTurned 0 = .ok (.iconst 0, 1) := by decide +kernel
theorem dX10_pairsTurned_1 : decode cX10_pairsTurned 1 = .ok (.istore_n 1, 1) := by decide +kernel
theorem dX10_pairsTurned_2 : decode cX10_pairsTurned 2 = .ok (.iconst 0, 1) := by decide +kernel
theorem dX10_pairsTurned_3 : decode cX10_pairsTurned 3 = .ok (.istore_n 2, 1) := by decide +kernel
theorem dX10_pairsTurned_4 : decode cX10_pairsTurned 4 = .ok (.iload_n 2, 1) := by decide +kernel
theorem dX10_pairsTurned_5 : decode cX10_pairsTurned 5 = .ok (.aload_n 0, 1) := by decide +kernel
theorem dX10_pairsTurned_6 : decode cX10_pairsTurned 6 = .ok (.getfield 7, 3) := by decide +kernel
theorem dX10_pairsTurned_9 : decode cX10_pairsTurned 9 = .ok (.bipush 49, 2) := by decide +kernel
theorem dX10_pairsTurned_11 : decode cX10_pairsTurned 11 = .ok (.iaload, 1) := by decide +kernel
theorem dX10_pairsTurned_12 : decode cX10_pairsTurned 12 = .ok (.if_icmp .ge 53, 3) := by decide +kernel
theorem dX10_pairsTurned_15 : decode cX10_pairsTurned 15 = .ok (.iload_n 2, 1) := by decide +kernel
theorem dX10_pairsTurned_16 : decode cX10_pairsTurned 16 = .ok (.iconst 1, 1) := by decide +kernel
theorem dX10_pairsTurned_17 : decode cX10_pairsTurned 17 = .ok (.iadd, 1) := by decide +kernel
theorem dX10_pairsTurned_18 : decode cX10_pairsTurned 18 = .ok (.istore_n 3, 1) := by decide +kernel
theorem dX10_pairsTurned_19 : decode cX10_pairsTurned 19 = .ok (.iload_n 3, 1) := by decide +kernel
theorem dX10_pairsTurned_20 : decode cX10_pairsTurned 20 = .ok (.aload_n 0, 1) := by decide +kernel
theorem dX10_pairsTurned_21 : decode cX10_pairsTurned 21 = .ok (.getfield 7, 3) := by decide +kernel
theorem dX10_pairsTurned_24 : decode cX10_pairsTurned 24 = .ok (.bipush 49, 2) := by decide +kernel
theorem dX10_pairsTurned_26 : decode cX10_pairsTurned 26 = .ok (.iaload, 1) := by decide +kernel
theorem dX10_pairsTurned_27 : decode cX10_pairsTurned 27 = .ok (.if_icmp .ge 32, 3) := by decide +kernel
theorem dX10_pairsTurned_30 : decode cX10_pairsTurned 30 = .ok (.iload_n 1, 1) := by decide +kernel
theorem dX10_pairsTurned_31 : decode cX10_pairsTurned 31 = .ok (.aload_n 0, 1) := by decide +kernel
theorem dX10_pairsTurned_32 : decode cX10_pairsTurned 32 = .ok (.getfield 25, 3) := by decide +kernel
theorem dX10_pairsTurned_35 : decode cX10_pairsTurned 35 = .ok (.iload_n 2, 1) := by decide +kernel
theorem dX10_pairsTurned_36 : decode cX10_pairsTurned 36 = .ok (.iaload, 1) := by decide +kernel
theorem dX10_pairsTurned_37 : decode cX10_pairsTurned 37 = .ok (.aload_n 0, 1) := by decide +kernel
theorem dX10_pairsTurned_38 : decode cX10_pairsTurned 38 = .ok (.getfield 25, 3) := by decide +kernel
theorem dX10_pairsTurned_41 : decode cX10_pairsTurned 41 = .ok (.iload_n 3, 1) := by decide +kernel
theorem dX10_pairsTurned_42 : decode cX10_pairsTurned 42 = .ok (.iaload, 1) := by decide +kernel
theorem dX10_pairsTurned_43 : decode cX10_pairsTurned 43 = .ok (.if_icmp .le 7, 3) := by decide +kernel
theorem dX10_pairsTurned_46 : decode cX10_pairsTurned 46 = .ok (.iconst 1, 1) := by decide +kernel
theorem dX10_pairsTurned_47 : decode cX10_pairsTurned 47 = .ok (.goto 4, 3) := by decide +kernel
theorem dX10_pairsTurned_50 : decode cX10_pairsTurned 50 = .ok (.iconst 0, 1) := by decide +kernel
theorem dX10_pairsTurned_51 : decode cX10_pairsTurned 51 = .ok (.iadd, 1) := by decide +kernel
theorem dX10_pairsTurned_52 : decode cX10_pairsTurned 52 = .ok (.istore_n 1, 1) := by decide +kernel
theorem dX10_pairsTurned_53 : decode cX10_pairsTurned 53 = .ok (.iinc 3 1, 3) := by decide +kernel
theorem dX10_pairsTurned_56 : decode cX10_pairsTurned 56 = .ok (.goto (-37), 3) := by decide +kernel
theorem dX10_pairsTurned_59 : decode cX10_pairsTurned 59 = .ok (.iinc 2 1, 3) := by decide +kernel
theorem dX10_pairsTurned_62 : decode cX10_pairsTurned 62 = .ok (.goto (-58), 3) := by decide +kernel
theorem dX10_pairsTurned_65 : decode cX10_pairsTurned 65 = .ok (.iload_n 1, 1) := by decide +kernel
theorem dX10_pairsTurned_66 : decode cX10_pairsTurned 66 = .ok (.ireturn, 1) := by decide +kernel
set_option maxRecDepth 20000 in
theorem ggX10_determinant_X10_all : GoodIn wsX10_determinant wsX10_all := goodIn_r _ [8, 3, 37, 38, 39, 40, 41, 42, 43, 44, 45, 46, 47, 48, 49, 50, 51, 52, 53, 54, 55, 56, 57] (by decide +kernel) (by decide +kernel)
set_option maxRecDepth 20000 in
theorem gX10_determinant_X10_all : GoodIn wsX10_determinant (wsV RX10 167 RX10 yX10_all wsX10_all) := goodIn_app (goodIn_of _ (by decide +kernel)) ggX10_determinant_X10_all
set_option maxRecDepth 20000 in
theorem ggX10_determinant_X10_take : GoodIn wsX10_determinant wsX10_take := goodIn_r _ [11] (by decide +kernel) (by decide +kernel)
set_option maxRecDepth 20000 in
theorem gX10_determinant_X10_take : GoodIn wsX10_determinant (va_wsS RX10 153 yX10_take wsX10_take) := goodIn_app (goodIn_of _ (by decide +kernel)) ggX10_determinant_X10_take
set_option maxRecDepth 20000 in
theorem ggX10_determinant_X10_firstOrder : GoodIn wsX10_determinant wsX10_firstOrder := goodIn_r _ [15, 16, 37, 38, 39, 40, 41, 42, 43, 44, 45, 46, 47, 48, 49, 50, 51, 52, 53, 54, 55, 56, 57] (by decide +kernel) (by decide +kernel)
set_option maxRecDepth 20000 in
theorem gX10_determinant_X10_firstOrder : GoodIn wsX10_determinant (wsV RX10 157 RX10 yX10_firstOrder wsX10_firstOrder) := goodIn_app (goodIn_of _ (by decide +kernel)) ggX10_determinant_X10_firstOrder
set_option maxRecDepth 20000 in
theorem ggX10_determinant_X10_product : GoodIn wsX10_determinant wsX10_product := goodIn_r _ [20, 1, 2, 16, 21, 22, 23, 7, 24, 3, 37, 38, 39, 40, 41, 42, 43, 44, 45, 46, 47, 48, 49, 50, 51, 52, 53, 54, 55, 56, 57] (by decide +kernel) (by decide +kernel)
set_option maxRecDepth 20000 in
theorem gX10_determinant_X10_product : GoodIn wsX10_determinant (wsV RX10 160 RX10 yX10_product wsX10_product) := goodIn_app (goodIn_of _ (by decide +kernel)) ggX10_determinant_X10_product
set_option maxRecDepth 20000 in
theorem ggX10_determinant_X10_pairsTurned : GoodIn wsX10_determinant wsX10_pairsTurned := goodIn_r _ [28, 3, 16, 37, 38, 39, 40, 41, 42, 43, 44, 45, 46, 47, 48, 49, 50, 51, 52, 53, 54, 55, 56, 57] (by decide +kernel) (by decide +kernel)
set_option maxRecDepth 20000 in
theorem gX10_determinant_X10_pairsTurned : GoodIn wsX10_determinant (wsV RX10 174 RX10 yX10_pairsTurned wsX10_pairsTurned) := goodIn_app (goodIn_of _ (by decide +kernel)) ggX10_determinant_X10_pairsTurned
set_option maxRecDepth 20000 in
theorem ggX10_determinant_X10_nextOrder : GoodIn wsX10_determinant wsX10_nextOrder := goodIn_r _ [32, 16, 33, 34, 35, 7, 36, 37, 38, 39, 40, 41, 42, 43, 44, 45, 46, 47, 48, 49, 50, 51, 52, 53, 54, 55, 56, 57] (by decide +kernel) (by decide +kernel)
set_option maxRecDepth 20000 in
theorem gX10_determinant_X10_nextOrder : GoodIn wsX10_determinant (wsV RX10 164 RX10 yX10_nextOrder wsX10_nextOrder) := goodIn_app (goodIn_of _ (by decide +kernel)) ggX10_determinant_X10_nextOrder
theorem dX10_determinant_0 : decode cX10_determinant 0 = .ok (.aload_n 0, 1) := by decide +kernel
theorem dX10_determinant_1 : decode cX10_determinant 1 = .ok (.invokevirtual 167, 3) := by decide +kernel
theorem dX10_determinant_4 : decode cX10_determinant 4 = .ok (.aload_n 0, 1) := by decide +kernel
theorem dX10_determinant_5 : decode cX10_determinant 5 = .ok (.getfield 31, 3) := by decide +kernel
theorem dX10_determinant_8 : decode cX10_determinant 8 = .ok (.invokestatic 153, 3) := by decide +kernel
theorem dX10_determinant_11 : decode cX10_determinant 11 = .ok (.pop, 1) := by decide +kernel
theorem dX10_determinant_12 : decode cX10_determinant 12 = .ok (.aload_n 0, 1) := by decide +kernel
theorem dX10_determinant_13 : decode cX10_determinant 13 = .ok (.invokevirtual 167, 3) := by decide +kernel
theorem dX10_determinant_16 : decode cX10_determinant 16 = .ok (.aload_n 0, 1) := by decide +kernel
theorem dX10_determinant_17 : decode cX10_determinant 17 = .ok (.getfield 34, 3) := by decide +kernel
theorem dX10_determinant_20 : decode cX10_determinant 20 = .ok (.invokestatic 153, 3) := by decide +kernel
theorem dX10_determinant_23 : decode cX10_determinant 23 = .ok (.pop, 1) := by decide +kernel
theorem dX10_determinant_24 : decode cX10_determinant 24 = .ok (.aload_n 0, 1) := by decide +kernel
theorem dX10_determinant_25 : decode cX10_determinant 25 = .ok (.aload_n 0, 1) := by decide +kernel
theorem dX10_determinant_26 : decode cX10_determinant 26 = .ok (.getfield 7, 3) := by decide +kernel
theorem dX10_determinant_29 : decode cX10_determinant 29 = .ok (.bipush 49, 2) := by decide +kernel
theorem dX10_determinant_31 : decode cX10_determinant 31 = .ok (.iaload, 1) := by decide +kernel
theorem dX10_determinant_32 : decode cX10_determinant 32 = .ok (.invokevirtual 157, 3) := by decide +kernel
theorem dX10_determinant_35 : decode cX10_determinant 35 = .ok (.lconst 0, 1) := by decide +kernel
theorem dX10_determinant_36 : decode cX10_determinant 36 = .ok (.lstore_n 1, 1) := by decide +kernel
theorem dX10_determinant_37 : decode cX10_determinant 37 = .ok (.iconst 1, 1) := by decide +kernel
theorem dX10_determinant_38 : decode cX10_determinant 38 = .ok (.istore_n 3, 1) := by decide +kernel
theorem dX10_determinant_39 : decode cX10_determinant 39 = .ok (.iload_n 3, 1) := by decide +kernel
theorem dX10_determinant_40 : decode cX10_determinant 40 = .ok (.ifCond .eq 51, 3) := by decide +kernel
theorem dX10_determinant_43 : decode cX10_determinant 43 = .ok (.aload_n 0, 1) := by decide +kernel
theorem dX10_determinant_44 : decode cX10_determinant 44 = .ok (.aload_n 0, 1) := by decide +kernel
theorem dX10_determinant_45 : decode cX10_determinant 45 = .ok (.getfield 7, 3) := by decide +kernel
theorem dX10_determinant_48 : decode cX10_determinant 48 = .ok (.bipush 49, 2) := by decide +kernel
theorem dX10_determinant_50 : decode cX10_determinant 50 = .ok (.iaload, 1) := by decide +kernel
theorem dX10_determinant_51 : decode cX10_determinant 51 = .ok (.invokevirtual 160, 3) := by decide +kernel
theorem dX10_determinant_54 : decode cX10_determinant 54 = .ok (.lstore 4, 2) := by decide +kernel
theorem dX10_determinant_56 : decode cX10_determinant 56 = .ok (.lload_n 1, 1) := by decide +kernel
theorem dX10_determinant_57 : decode cX10_determinant 57 = .ok (.aload_n 0, 1) := by decide +kernel
theorem dX10_determinant_58 : decode cX10_determinant 58 = .ok (.invokevirtual 174, 3) := by decide +kernel
theorem dX10_determinant_61 : decode cX10_determinant 61 = .ok (.iconst 2, 1) := by decide +kernel
theorem dX10_determinant_62 : decode cX10_determinant 62 = .ok (.irem, 1) := by decide +kernel
theorem dX10_determinant_63 : decode cX10_determinant 63 = .ok (.ifCond .ne 8, 3) := by decide +kernel
theorem dX10_determinant_66 : decode cX10_determinant 66 = .ok (.lload 4, 2) := by decide +kernel
theorem dX10_determinant_68 : decode cX10_determinant 68 = .ok (.goto 6, 3) := by decide +kernel
theorem dX10_determinant_71 : decode cX10_determinant 71 = .ok (.lload 4, 2) := by decide +kernel
theorem dX10_determinant_73 : decode cX10_determinant 73 = .ok (.lneg, 1) := by decide +kernel
theorem dX10_determinant_74 : decode cX10_determinant 74 = .ok (.ladd, 1) := by decide +kernel
theorem dX10_determinant_75 : decode cX10_determinant 75 = .ok (.lstore_n 1, 1) := by decide +kernel
theorem dX10_determinant_76 : decode cX10_determinant 76 = .ok (.aload_n 0, 1) := by decide +kernel
theorem dX10_determinant_77 : decode cX10_determinant 77 = .ok (.aload_n 0, 1) := by decide +kernel
theorem dX10_determinant_78 : decode cX10_determinant 78 = .ok (.getfield 7, 3) := by decide +kernel
theorem dX10_determinant_81 : decode cX10_determinant 81 = .ok (.bipush 49, 2) := by decide +kernel
theorem dX10_determinant_83 : decode cX10_determinant 83 = .ok (.iaload, 1) := by decide +kernel
theorem dX10_determinant_84 : decode cX10_determinant 84 = .ok (.invokevirtual 164, 3) := by decide +kernel
theorem dX10_determinant_87 : decode cX10_determinant 87 = .ok (.istore_n 3, 1) := by decide +kernel
theorem dX10_determinant_88 : decode cX10_determinant 88 = .ok (.goto (-49), 3) := by decide +kernel
theorem dX10_determinant_91 : decode cX10_determinant 91 = .ok (.lload_n 1, 1) := by decide +kernel
theorem dX10_determinant_92 : decode cX10_determinant 92 = .ok (.lreturn, 1) := by decide +kernel
set_option maxRecDepth 20000 in
theorem ggX10_minor_X10_isLine : GoodIn wsX10_minor wsX10_isLine := goodIn_r _ [6, 7, 8, 9, 5, 10, 45, 46, 47, 48, 49, 50, 51, 52, 53, 54, 55, 56, 57, 58, 59, 60, 61, 62, 63, 64, 65] (by decide +kernel) (by decide +kernel)
set_option maxRecDepth 20000 in
theorem gX10_minor_X10_isLine : GoodIn wsX10_minor (wsV RX10 88 RX10 yX10_isLine wsX10_isLine) := goodIn_app (goodIn_of _ (by decide +kernel)) ggX10_minor_X10_isLine
set_option maxRecDepth 20000 in
theorem ggX10_minor_X10_all : GoodIn wsX10_minor wsX10_all := goodIn_r _ [14, 7, 45, 46, 47, 48, 49, 50, 51, 52, 53, 54, 55, 56, 57, 58, 59, 60, 61, 62, 63, 64, 65] (by decide +kernel) (by decide +kernel)
set_option maxRecDepth 20000 in
theorem gX10_minor_X10_all : GoodIn wsX10_minor (wsV RX10 167 RX10 yX10_all wsX10_all) := goodIn_app (goodIn_of _ (by decide +kernel)) ggX10_minor_X10_all
set_option maxRecDepth 20000 in
theorem ggX10_minor_X10_sumOfSets : GoodIn wsX10_minor wsX10_sumOfSets := goodIn_r _ [18, 19, 20, 21, 22, 5, 23, 24, 25, 26, 27, 28, 29, 30, 31, 32, 33, 34, 35, 36, 7, 37, 38, 39, 40, 41, 42, 43, 44, 45, 46, 47, 48, 49, 50, 51, 52, 53, 54, 55, 56, 57, 58, 59, 60, 61, 62, 63, 64, 65] (by decide +kernel) (by decide +kernel)
set_option maxRecDepth 20000 in
theorem gX10_minor_X10_sumOfSets : GoodIn wsX10_minor (wsV RX10 170 RX10 yX10_sumOfSets wsX10_sumOfSets) := goodIn_app (goodIn_of _ (by decide +kernel)) ggX10_minor_X10_sumOfSets
theorem dX10_minor_0 : decode cX10_minor 0 = .ok (.aload_n 0, 1) := by decide +kernel
theorem dX10_minor_1 : decode cX10_minor 1 = .ok (.iload_n 1, 1) := by decide +kernel
theorem dX10_minor_2 : decode cX10_minor 2 = .ok (.invokevirtual 88, 3) := by decide +kernel
theorem dX10_minor_5 : decode cX10_minor 5 = .ok (.ifCond .eq 11, 3) := by decide +kernel
theorem dX10_minor_8 : decode cX10_minor 8 = .ok (.aload_n 0, 1) := by decide +kernel
theorem dX10_minor_9 : decode cX10_minor 9 = .ok (.iload_n 2, 1) := by decide +kernel
theorem dX10_minor_10 : decode cX10_minor 10 = .ok (.invokevirtual 88, 3) := by decide +kernel
theorem dX10_minor_13 : decode cX10_minor 13 = .ok (.ifCond .ne 7, 3) := by decide +kernel
theorem dX10_minor_16 : decode cX10_minor 16 = .ok (.ldc2_w 177, 3) := by decide +kernel
theorem dX10_minor_19 : decode cX10_minor 19 = .ok (.lreturn, 1) := by decide +kernel
theorem dX10_minor_20 : decode cX10_minor 20 = .ok (.aload_n 0, 1) := by decide +kernel
theorem dX10_minor_21 : decode cX10_minor 21 = .ok (.aload_n 0, 1) := by decide +kernel
theorem dX10_minor_22 : decode cX10_minor 22 = .ok (.invokevirtual 167, 3) := by decide +kernel
theorem dX10_minor_25 : decode cX10_minor 25 = .ok (.iconst 1, 1) := by decide +kernel
theorem dX10_minor_26 : decode cX10_minor 26 = .ok (.iload_n 1, 1) := by decide +kernel
theorem dX10_minor_27 : decode cX10_minor 27 = .ok (.ishl, 1) := by decide +kernel
theorem dX10_minor_28 : decode cX10_minor 28 = .ok (.isub, 1) := by decide +kernel
theorem dX10_minor_29 : decode cX10_minor 29 = .ok (.aload_n 0, 1) := by decide +kernel
theorem dX10_minor_30 : decode cX10_minor 30 = .ok (.invokevirtual 167, 3) := by decide +kernel
theorem dX10_minor_33 : decode cX10_minor 33 = .ok (.iconst 1, 1) := by decide +kernel
theorem dX10_minor_34 : decode cX10_minor 34 = .ok (.iload_n 2, 1) := by decide +kernel
theorem dX10_minor_35 : decode cX10_minor 35 = .ok (.ishl, 1) := by decide +kernel
theorem dX10_minor_36 : decode cX10_minor 36 = .ok (.isub, 1) := by decide +kernel
theorem dX10_minor_37 : decode cX10_minor 37 = .ok (.iconst 0, 1) := by decide +kernel
theorem dX10_minor_38 : decode cX10_minor 38 = .ok (.invokevirtual 170, 3) := by decide +kernel
theorem dX10_minor_41 : decode cX10_minor 41 = .ok (.lreturn, 1) := by decide +kernel
theorem dX10_bits_0 : decode cX10_bits 0 = .ok (.iconst 0, 1) := by decide +kernel
theorem dX10_bits_1 : decode cX10_bits 1 = .ok (.istore_n 1, 1) := by decide +kernel
theorem dX10_bits_2 : decode cX10_bits 2 = .ok (.iconst 0, 1) := by decide +kernel
theorem dX10_bits_3 : decode cX10_bits 3 = .ok (.istore_n 2, 1) := by decide +kernel
theorem dX10_bits_4 : decode cX10_bits 4 = .ok (.iload_n 2, 1) := by decide +kernel
theorem dX10_bits_5 : decode cX10_bits 5 = .ok (.bipush 7, 2) := by decide +kernel
theorem dX10_bits_7 : decode cX10_bits 7 = .ok (.if_icmp .ge 17, 3) := by decide +kernel
theorem dX10_bits_10 : decode cX10_bits 10 = .ok (.iload_n 1, 1) := by decide +kernel
theorem dX10_bits_11 : decode cX10_bits 11 = .ok (.iload_n 0, 1) := by decide +kernel
theorem dX10_bits_12 : decode cX10_bits 12 = .ok (.iload_n 2, 1) := by decide +kernel
theorem dX10_bits_13 : decode cX10_bits 13 = .ok (.ishr, 1) := by decide +kernel
theorem dX10_bits_14 : decode cX10_bits 14 = .ok (.iconst 1, 1) := by decide +kernel
theorem dX10_bits_15 : decode cX10_bits 15 = .ok (.iand, 1) := by decide +kernel
theorem dX10_bits_16 : decode cX10_bits 16 = .ok (.iadd, 1) := by decide +kernel
theorem dX10_bits_17 : decode cX10_bits 17 = .ok (.istore_n 1, 1) := by decide +kernel
theorem dX10_bits_18 : decode cX10_bits 18 = .ok (.iinc 2 1, 3) := by decide +kernel
theorem dX10_bits_21 : decode cX10_bits 21 = .ok (.goto (-17), 3) := by decide +kernel
theorem dX10_bits_24 : decode cX10_bits 24 = .ok (.iload_n 1, 1) := by decide +kernel
theorem dX10_bits_25 : decode cX10_bits 25 = .ok (.ireturn, 1) := by decide +kernel
set_option maxRecDepth 20000 in
theorem ggX10_permanentOf_X10_all : GoodIn wsX10_permanentOf wsX10_all := goodIn_r _ [7, 8, 45, 46, 47, 48, 49, 50, 51, 52, 53, 54, 55, 56, 57, 58, 59, 60, 61, 62, 63, 64, 65] (by decide +kernel) (by decide +kernel)
set_option maxRecDepth 20000 in
theorem gX10_permanentOf_X10_all : GoodIn wsX10_permanentOf (wsV RX10 167 RX10 yX10_all wsX10_all) := goodIn_app (goodIn_of _ (by decide +kernel)) ggX10_permanentOf_X10_all
set_option maxRecDepth 20000 in
theorem ggX10_permanentOf_X10_in : GoodIn wsX10_permanentOf wsX10_in := goodIn_r _ [11] (by decide +kernel) (by decide +kernel)
set_option maxRecDepth 20000 in
theorem gX10_permanentOf_X10_in : GoodIn wsX10_permanentOf (va_wsS RX10 59 yX10_in wsX10_in) := goodIn_app (goodIn_of _ (by decide +kernel)) ggX10_permanentOf_X10_in
set_option maxRecDepth 20000 in
theorem ggX10_permanentOf_X10_bits : GoodIn wsX10_permanentOf wsX10_bits := goodIn_r _ [14] (by decide +kernel) (by decide +kernel)
set_option maxRecDepth 20000 in
theorem gX10_permanentOf_X10_bits : GoodIn wsX10_permanentOf (va_wsS RX10 179 yX10_bits wsX10_bits) := goodIn_app (goodIn_of _ (by decide +kernel)) ggX10_permanentOf_X10_bits
set_option maxRecDepth 20000 in
theorem ggX10_permanentOf_X10_sumOfSets : GoodIn wsX10_permanentOf wsX10_sumOfSets := goodIn_r _ [18, 19, 20, 21, 22, 6, 23, 24, 25, 26, 27, 28, 29, 30, 31, 32, 33, 34, 35, 36, 8, 37, 38, 39, 40, 41, 42, 43, 44, 45, 46, 47, 48, 49, 50, 51, 52, 53, 54, 55, 56, 57, 58, 59, 60, 61, 62, 63, 64, 65] (by decide +kernel) (by decide +kernel)
set_option maxRecDepth 20000 in
theorem gX10_permanentOf_X10_sumOfSets : GoodIn wsX10_permanentOf (wsV RX10 170 RX10 yX10_sumOfSets wsX10_sumOfSets) := goodIn_app (goodIn_of _ (by decide +kernel)) ggX10_permanentOf_X10_sumOfSets
theorem dX10_permanentOf_0 : decode cX10_permanentOf 0 = .ok (.iload_n 1, 1) := by decide +kernel
theorem dX10_permanentOf_1 : decode cX10_permanentOf 1 = .ok (.iconst 0, 1) := by decide +kernel
theorem dX10_permanentOf_2 : decode cX10_permanentOf 2 = .ok (.aload_n 0, 1) := by decide +kernel
theorem dX10_permanentOf_3 : decode cX10_permanentOf 3 = .ok (.invokevirtual 167, 3) := by decide +kernel
theorem dX10_permanentOf_6 : decode cX10_permanentOf 6 = .ok (.invokestatic 59, 3) := by decide +kernel
theorem dX10_permanentOf_9 : decode cX10_permanentOf 9 = .ok (.ifCond .eq 15, 3) := by decide +kernel
theorem dX10_permanentOf_12 : decode cX10_permanentOf 12 = .ok (.iload_n 2, 1) := by decide +kernel
theorem dX10_permanentOf_13 : decode cX10_permanentOf 13 = .ok (.iconst 0, 1) := by decide +kernel
theorem dX10_permanentOf_14 : decode cX10_permanentOf 14 = .ok (.aload_n 0, 1) := by decide +kernel
theorem dX10_permanentOf_15 : decode cX10_permanentOf 15 = .ok (.invokevirtual 167, 3) := by decide +kernel
theorem dX10_permanentOf_18 : decode cX10_permanentOf 18 = .ok (.invokestatic 59, 3) := by decide +kernel
theorem dX10_permanentOf_21 : decode cX10_permanentOf 21 = .ok (.ifCond .ne 7, 3) := by decide +kernel
theorem dX10_permanentOf_24 : decode cX10_permanentOf 24 = .ok (.ldc2_w 177, 3) := by decide +kernel
theorem dX10_permanentOf_27 : decode cX10_permanentOf 27 = .ok (.lreturn, 1) := by decide +kernel
theorem dX10_permanentOf_28 : decode cX10_permanentOf 28 = .ok (.iload_n 1, 1) := by decide +kernel
theorem dX10_permanentOf_29 : decode cX10_permanentOf 29 = .ok (.invokestatic 179, 3) := by decide +kernel
theorem dX10_permanentOf_32 : decode cX10_permanentOf 32 = .ok (.iload_n 2, 1) := by decide +kernel
theorem dX10_permanentOf_33 : decode cX10_permanentOf 33 = .ok (.invokestatic 179, 3) := by decide +kernel
theorem dX10_permanentOf_36 : decode cX10_permanentOf 36 = .ok (.if_icmp .ne 13, 3) := by decide +kernel
theorem dX10_permanentOf_39 : decode cX10_permanentOf 39 = .ok (.aload_n 0, 1) := by decide +kernel
theorem dX10_permanentOf_40 : decode cX10_permanentOf 40 = .ok (.iload_n 1, 1) := by decide +kernel
theorem dX10_permanentOf_41 : decode cX10_permanentOf 41 = .ok (.iload_n 2, 1) := by decide +kernel
theorem dX10_permanentOf_42 : decode cX10_permanentOf 42 = .ok (.iconst 0, 1) := by decide +kernel
theorem dX10_permanentOf_43 : decode cX10_permanentOf 43 = .ok (.invokevirtual 170, 3) := by decide +kernel
theorem dX10_permanentOf_46 : decode cX10_permanentOf 46 = .ok (.goto 6, 3) := by decide +kernel
theorem dX10_permanentOf_49 : decode cX10_permanentOf 49 = .ok (.ldc2_w 183, 3) := by decide +kernel
theorem dX10_permanentOf_52 : decode cX10_permanentOf 52 = .ok (.lreturn, 1) := by decide +kernel
set_option maxRecDepth 20000 in
theorem ggX10_sumOfAll_X10_all : GoodIn wsX10_sumOfAll wsX10_all := goodIn_r _ [5, 6, 40, 41, 42, 43, 44, 45, 46, 47, 48, 49, 50, 51, 52, 53, 54, 55, 56, 57, 58, 59, 60] (by decide +kernel) (by decide +kernel)
set_option maxRecDepth 20000 in
theorem gX10_sumOfAll_X10_all : GoodIn wsX10_sumOfAll (wsV RX10 167 RX10 yX10_all wsX10_all) := goodIn_app (goodIn_of _ (by decide +kernel)) ggX10_sumOfAll_X10_all
set_option maxRecDepth 20000 in
theorem ggX10_sumOfAll_X10_bits : GoodIn wsX10_sumOfAll wsX10_bits := goodIn_r _ [9] (by decide +kernel) (by decide +kernel)
set_option maxRecDepth 20000 in
theorem gX10_sumOfAll_X10_bits : GoodIn wsX10_sumOfAll (va_wsS RX10 179 yX10_bits wsX10_bits) := goodIn_app (goodIn_of _ (by decide +kernel)) ggX10_sumOfAll_X10_bits
set_option maxRecDepth 20000 in
theorem ggX10_sumOfAll_X10_sumOfSets : GoodIn wsX10_sumOfAll wsX10_sumOfSets := goodIn_r _ [13, 14, 15, 16, 17, 4, 18, 19, 20, 21, 22, 23, 24, 25, 26, 27, 28, 29, 30, 31, 6, 32, 33, 34, 35, 36, 37, 38, 39, 40, 41, 42, 43, 44, 45, 46, 47, 48, 49, 50, 51, 52, 53, 54, 55, 56, 57, 58, 59, 60] (by decide +kernel) (by decide +kernel)
set_option maxRecDepth 20000 in
theorem gX10_sumOfAll_X10_sumOfSets : GoodIn wsX10_sumOfAll (wsV RX10 170 RX10 yX10_sumOfSets wsX10_sumOfSets) := goodIn_app (goodIn_of _ (by decide +kernel)) ggX10_sumOfAll_X10_sumOfSets
theorem dX10_sumOfAll_0 : decode cX10_sumOfAll 0 = .ok (.lconst 0, 1) := by decide +kernel
theorem dX10_sumOfAll_1 : decode cX10_sumOfAll 1 = .ok (.lstore_n 3, 1) := by decide +kernel
theorem dX10_sumOfAll_2 : decode cX10_sumOfAll 2 = .ok (.iconst 0, 1) := by decide +kernel
theorem dX10_sumOfAll_3 : decode cX10_sumOfAll 3 = .ok (.istore 5, 2) := by decide +kernel
theorem dX10_sumOfAll_5 : decode cX10_sumOfAll 5 = .ok (.iload 5, 2) := by decide +kernel
theorem dX10_sumOfAll_7 : decode cX10_sumOfAll 7 = .ok (.aload_n 0, 1) := by decide +kernel
theorem dX10_sumOfAll_8 : decode cX10_sumOfAll 8 = .ok (.invokevirtual 167, 3) := by decide +kernel
theorem dX10_sumOfAll_11 : decode cX10_sumOfAll 11 = .ok (.if_icmp .gt 61, 3) := by decide +kernel
theorem dX10_sumOfAll_14 : decode cX10_sumOfAll 14 = .ok (.iconst 0, 1) := by decide +kernel
theorem dX10_sumOfAll_15 : decode cX10_sumOfAll 15 = .ok (.istore 6, 2) := by decide +kernel
theorem dX10_sumOfAll_17 : decode cX10_sumOfAll 17 = .ok (.iload 6, 2) := by decide +kernel
theorem dX10_sumOfAll_19 : decode cX10_sumOfAll 19 = .ok (.aload_n 0, 1) := by decide +kernel
theorem dX10_sumOfAll_20 : decode cX10_sumOfAll 20 = .ok (.invokevirtual 167, 3) := by decide +kernel
theorem dX10_sumOfAll_23 : decode cX10_sumOfAll 23 = .ok (.if_icmp .gt 43, 3) := by decide +kernel
theorem dX10_sumOfAll_26 : decode cX10_sumOfAll 26 = .ok (.iload 5, 2) := by decide +kernel
theorem dX10_sumOfAll_28 : decode cX10_sumOfAll 28 = .ok (.invokestatic 179, 3) := by decide +kernel
theorem dX10_sumOfAll_31 : decode cX10_sumOfAll 31 = .ok (.iload_n 1, 1) := by decide +kernel
theorem dX10_sumOfAll_32 : decode cX10_sumOfAll 32 = .ok (.if_icmp .ne 34, 3) := by decide +kernel
theorem dX10_sumOfAll_35 : decode cX10_sumOfAll 35 = .ok (.lload_n 3, 1) := by decide +kernel
theorem dX10_sumOfAll_36 : decode cX10_sumOfAll 36 = .ok (.iload 6, 2) := by decide +kernel
theorem dX10_sumOfAll_38 : decode cX10_sumOfAll 38 = .ok (.invokestatic 179, 3) := by decide +kernel
theorem dX10_sumOfAll_41 : decode cX10_sumOfAll 41 = .ok (.iload_n 1, 1) := by decide +kernel
theorem dX10_sumOfAll_42 : decode cX10_sumOfAll 42 = .ok (.if_icmp .ne 15, 3) := by decide +kernel
theorem dX10_sumOfAll_45 : decode cX10_sumOfAll 45 = .ok (.aload_n 0, 1) := by decide +kernel
theorem dX10_sumOfAll_46 : decode cX10_sumOfAll 46 = .ok (.iload 5, 2) := by decide +kernel
theorem dX10_sumOfAll_48 : decode cX10_sumOfAll 48 = .ok (.iload 6, 2) := by decide +kernel
theorem dX10_sumOfAll_50 : decode cX10_sumOfAll 50 = .ok (.iload_n 2, 1) := by decide +kernel
theorem dX10_sumOfAll_51 : decode cX10_sumOfAll 51 = .ok (.invokevirtual 170, 3) := by decide +kernel
theorem dX10_sumOfAll_54 : decode cX10_sumOfAll 54 = .ok (.goto 4, 3) := by decide +kernel
theorem dX10_sumOfAll_57 : decode cX10_sumOfAll 57 = .ok (.lconst 0, 1) := by decide +kernel
theorem dX10_sumOfAll_58 : decode cX10_sumOfAll 58 = .ok (.ladd, 1) := by decide +kernel
theorem dX10_sumOfAll_59 : decode cX10_sumOfAll 59 = .ok (.lstore_n 3, 1) := by decide +kernel
theorem dX10_sumOfAll_60 : decode cX10_sumOfAll 60 = .ok (.iinc 6 1, 3) := by decide +kernel
theorem dX10_sumOfAll_63 : decode cX10_sumOfAll 63 = .ok (.goto (-46), 3) := by decide +kernel
theorem dX10_sumOfAll_66 : decode cX10_sumOfAll 66 = .ok (.iinc 5 1, 3) := by decide +kernel
theorem dX10_sumOfAll_69 : decode cX10_sumOfAll 69 = .ok (.goto (-64), 3) := by decide +kernel
theorem dX10_sumOfAll_72 : decode cX10_sumOfAll 72 = .ok (.lload_n 3, 1) := by decide +kernel
theorem dX10_sumOfAll_73 : decode cX10_sumOfAll 73 = .ok (.lreturn, 1) := by decide +kernel
set_option maxRecDepth 20000 in
theorem ggX10_sumOf_X10_in : GoodIn wsX10_sumOf wsX10_in := goodIn_r _ [6] (by decide +kernel) (by decide +kernel)
set_option maxRecDepth 20000 in
theorem gX10_sumOf_X10_in : GoodIn wsX10_sumOf (va_wsS RX10 59 yX10_in wsX10_in) := goodIn_app (goodIn_of _ (by decide +kernel)) ggX10_sumOf_X10_in
set_option maxRecDepth 20000 in
theorem ggX10_sumOf_X10_sumOfAll : GoodIn wsX10_sumOf wsX10_sumOfAll := goodIn_r _ [10, 11, 12, 13, 5, 14, 1, 15, 16, 17, 18, 19, 20, 21, 22, 23, 24, 25, 26, 27, 28, 29, 30, 31, 32, 33, 34, 35, 36, 37, 38, 39, 40, 41, 42, 43, 44, 45, 46, 47, 48, 49, 50, 51, 52, 53, 54, 55, 56, 57, 58, 59, 60, 61, 62, 63, 64, 65, 66, 67, 68] (by decide +kernel) (by decide +kernel)
set_option maxRecDepth 20000 in
theorem gX10_sumOf_X10_sumOfAll : GoodIn wsX10_sumOf (wsV RX10 185 RX10 yX10_sumOfAll wsX10_sumOfAll) := goodIn_app (goodIn_of _ (by decide +kernel)) ggX10_sumOf_X10_sumOfAll
theorem dX10_sumOf_0 : decode cX10_sumOf 0 = .ok (.iload_n 1, 1) := by decide +kernel
theorem dX10_sumOf_1 : decode cX10_sumOf 1 = .ok (.iconst 0, 1) := by decide +kernel
theorem dX10_sumOf_2 : decode cX10_sumOf 2 = .ok (.aload_n 0, 1) := by decide +kernel
theorem dX10_sumOf_3 : decode cX10_sumOf 3 = .ok (.getfield 7, 3) := by decide +kernel
theorem dX10_sumOf_6 : decode cX10_sumOf 6 = .ok (.bipush 49, 2) := by decide +kernel
theorem dX10_sumOf_8 : decode cX10_sumOf 8 = .ok (.iaload, 1) := by decide +kernel
theorem dX10_sumOf_9 : decode cX10_sumOf 9 = .ok (.invokestatic 59, 3) := by decide +kernel
theorem dX10_sumOf_12 : decode cX10_sumOf 12 = .ok (.ifCond .eq 12, 3) := by decide +kernel
theorem dX10_sumOf_15 : decode cX10_sumOf 15 = .ok (.aload_n 0, 1) := by decide +kernel
theorem dX10_sumOf_16 : decode cX10_sumOf 16 = .ok (.iload_n 1, 1) := by decide +kernel
theorem dX10_sumOf_17 : decode cX10_sumOf 17 = .ok (.iconst 0, 1) := by decide +kernel
theorem dX10_sumOf_18 : decode cX10_sumOf 18 = .ok (.invokevirtual 185, 3) := by decide +kernel
theorem dX10_sumOf_21 : decode cX10_sumOf 21 = .ok (.goto 6, 3) := by decide +kernel
theorem dX10_sumOf_24 : decode cX10_sumOf 24 = .ok (.ldc2_w 189, 3) := by decide +kernel
theorem dX10_sumOf_27 : decode cX10_sumOf 27 = .ok (.lreturn, 1) := by decide +kernel
theorem dX10_isWhole_0 : decode cX10_isWhole 0 = .ok (.iconst 1, 1) := by decide +kernel
theorem dX10_isWhole_1 : decode cX10_isWhole 1 = .ok (.istore_n 2, 1) := by decide +kernel
theorem dX10_isWhole_2 : decode cX10_isWhole 2 = .ok (.iconst 0, 1) := by decide +kernel
theorem dX10_isWhole_3 : decode cX10_isWhole 3 = .ok (.istore_n 3, 1) := by decide +kernel
theorem dX10_isWhole_4 : decode cX10_isWhole 4 = .ok (.iload_n 3, 1) := by decide +kernel
theorem dX10_isWhole_5 : decode cX10_isWhole 5 = .ok (.aload_n 0, 1) := by decide +kernel
theorem dX10_isWhole_6 : decode cX10_isWhole 6 = .ok (.getfield 7, 3) := by decide +kernel
theorem dX10_isWhole_9 : decode cX10_isWhole 9 = .ok (.bipush 49, 2) := by decide +kernel
theorem dX10_isWhole_11 : decode cX10_isWhole 11 = .ok (.iaload, 1) := by decide +kernel
theorem dX10_isWhole_12 : decode cX10_isWhole 12 = .ok (.if_icmp .ge 35, 3) := by decide +kernel
theorem dX10_isWhole_15 : decode cX10_isWhole 15 = .ok (.iload_n 2, 1) := by decide +kernel
theorem dX10_isWhole_16 : decode cX10_isWhole 16 = .ok (.ifCond .eq 23, 3) := by decide +kernel
theorem dX10_isWhole_19 : decode cX10_isWhole 19 = .ok (.aload_n 1, 1) := by decide +kernel
theorem dX10_isWhole_20 : decode cX10_isWhole 20 = .ok (.bipush 7, 2) := by decide +kernel
theorem dX10_isWhole_22 : decode cX10_isWhole 22 = .ok (.iload_n 3, 1) := by decide +kernel
theorem dX10_isWhole_23 : decode cX10_isWhole 23 = .ok (.imul, 1) := by decide +kernel
theorem dX10_isWhole_24 : decode cX10_isWhole 24 = .ok (.aload_n 0, 1) := by decide +kernel
theorem dX10_isWhole_25 : decode cX10_isWhole 25 = .ok (.getfield 25, 3) := by decide +kernel
theorem dX10_isWhole_28 : decode cX10_isWhole 28 = .ok (.iload_n 3, 1) := by decide +kernel
theorem dX10_isWhole_29 : decode cX10_isWhole 29 = .ok (.iaload, 1) := by decide +kernel
theorem dX10_isWhole_30 : decode cX10_isWhole 30 = .ok (.iadd, 1) := by decide +kernel
theorem dX10_isWhole_31 : decode cX10_isWhole 31 = .ok (.iaload, 1) := by decide +kernel
theorem dX10_isWhole_32 : decode cX10_isWhole 32 = .ok (.ifCond .eq 7, 3) := by decide +kernel
theorem dX10_isWhole_35 : decode cX10_isWhole 35 = .ok (.iconst 1, 1) := by decide +kernel
theorem dX10_isWhole_36 : decode cX10_isWhole 36 = .ok (.goto 4, 3) := by decide +kernel
theorem dX10_isWhole_39 : decode cX10_isWhole 39 = .ok (.iconst 0, 1) := by decide +kernel
theorem dX10_isWhole_40 : decode cX10_isWhole 40 = .ok (.istore_n 2, 1) := by decide +kernel
theorem dX10_isWhole_41 : decode cX10_isWhole 41 = .ok (.iinc 3 1, 3) := by decide +kernel
theorem dX10_isWhole_44 : decode cX10_isWhole 44 = .ok (.goto (-40), 3) := by decide +kernel
theorem dX10_isWhole_47 : decode cX10_isWhole 47 = .ok (.iload_n 2, 1) := by decide +kernel
theorem dX10_isWhole_48 : decode cX10_isWhole 48 = .ok (.ireturn, 1) := by decide +kernel
set_option maxRecDepth 20000 in
theorem ggX10_wholeDiagonals_X10_all : GoodIn wsX10_wholeDiagonals wsX10_all := goodIn_r _ [5, 6, 37, 38, 39, 40, 41, 42, 43, 44, 45, 46, 47, 48, 49, 50, 51, 52, 53, 54, 55, 56, 57] (by decide +kernel) (by decide +kernel)
set_option maxRecDepth 20000 in
theorem gX10_wholeDiagonals_X10_all : GoodIn wsX10_wholeDiagonals (wsV RX10 167 RX10 yX10_all wsX10_all) := goodIn_app (goodIn_of _ (by decide +kernel)) ggX10_wholeDiagonals_X10_all
set_option maxRecDepth 20000 in
theorem ggX10_wholeDiagonals_X10_sumOfSets : GoodIn wsX10_wholeDiagonals wsX10_sumOfSets := goodIn_r _ [10, 11, 12, 13, 14, 4, 15, 16, 17, 18, 19, 20, 21, 22, 23, 24, 25, 26, 27, 28, 6, 29, 30, 31, 32, 33, 34, 35, 36, 37, 38, 39, 40, 41, 42, 43, 44, 45, 46, 47, 48, 49, 50, 51, 52, 53, 54, 55, 56, 57] (by decide +kernel) (by decide +kernel)
set_option maxRecDepth 20000 in
theorem gX10_wholeDiagonals_X10_sumOfSets : GoodIn wsX10_wholeDiagonals (wsV RX10 170 RX10 yX10_sumOfSets wsX10_sumOfSets) := goodIn_app (goodIn_of _ (by decide +kernel)) ggX10_wholeDiagonals_X10_sumOfSets
theorem dX10_wholeDiagonals_0 : decode cX10_wholeDiagonals 0 = .ok (.aload_n 0, 1) := by decide +kernel
theorem dX10_wholeDiagonals_1 : decode cX10_wholeDiagonals 1 = .ok (.aload_n 0, 1) := by decide +kernel
theorem dX10_wholeDiagonals_2 : decode cX10_wholeDiagonals 2 = .ok (.invokevirtual 167, 3) := by decide +kernel
theorem dX10_wholeDiagonals_5 : decode cX10_wholeDiagonals 5 = .ok (.aload_n 0, 1) := by decide +kernel
theorem dX10_wholeDiagonals_6 : decode cX10_wholeDiagonals 6 = .ok (.invokevirtual 167, 3) := by decide +kernel
theorem dX10_wholeDiagonals_9 : decode cX10_wholeDiagonals 9 = .ok (.iconst 1, 1) := by decide +kernel
theorem dX10_wholeDiagonals_10 : decode cX10_wholeDiagonals 10 = .ok (.invokevirtual 170, 3) := by decide +kernel
theorem dX10_wholeDiagonals_13 : decode cX10_wholeDiagonals 13 = .ok (.l2i, 1) := by decide +kernel
theorem dX10_wholeDiagonals_14 : decode cX10_wholeDiagonals 14 = .ok (.ireturn, 1) := by decide +kernel
set_option maxRecDepth 20000 in
theorem ggX10_wholeDiagonal_X10_firstOrder : GoodIn wsX10_wholeDiagonal wsX10_firstOrder := goodIn_r _ [8, 9, 26, 27, 28, 29, 30, 31, 32, 33, 34, 35, 36, 37, 38, 39, 40, 41, 42, 43, 44, 45, 46] (by decide +kernel) (by decide +kernel)
set_option maxRecDepth 20000 in
theorem gX10_wholeDiagonal_X10_firstOrder : GoodIn wsX10_wholeDiagonal (wsV RX10 157 RX10 yX10_firstOrder wsX10_firstOrder) := goodIn_app (goodIn_of _ (by decide +kernel)) ggX10_wholeDiagonal_X10_firstOrder
set_option maxRecDepth 20000 in
theorem ggX10_wholeDiagonal_X10_isWhole : GoodIn wsX10_wholeDiagonal wsX10_isWhole := goodIn_r _ [13, 2, 9, 26, 27, 28, 29, 30, 31, 32, 33, 34, 35, 36, 37, 38, 39, 40, 41, 42, 43, 44, 45, 46] (by decide +kernel) (by decide +kernel)
set_option maxRecDepth 20000 in
theorem gX10_wholeDiagonal_X10_isWhole : GoodIn wsX10_wholeDiagonal (wsV RX10 191 RX10 yX10_isWhole wsX10_isWhole) := goodIn_app (goodIn_of _ (by decide +kernel)) ggX10_wholeDiagonal_X10_isWhole
set_option maxRecDepth 20000 in
theorem ggX10_wholeDiagonal_X10_number : GoodIn wsX10_wholeDiagonal wsX10_number := goodIn_r _ [17, 2, 9, 26, 27, 28, 29, 30, 31, 32, 33, 34, 35, 36, 37, 38, 39, 40, 41, 42, 43, 44, 45, 46] (by decide +kernel) (by decide +kernel)
set_option maxRecDepth 20000 in
theorem gX10_wholeDiagonal_X10_number : GoodIn wsX10_wholeDiagonal (wsV RX10 195 RX10 yX10_number wsX10_number) := goodIn_app (goodIn_of _ (by decide +kernel)) ggX10_wholeDiagonal_X10_number
set_option maxRecDepth 20000 in
theorem ggX10_wholeDiagonal_X10_nextOrder : GoodIn wsX10_wholeDiagonal wsX10_nextOrder := goodIn_r _ [21, 9, 22, 23, 24, 7, 25, 26, 27, 28, 29, 30, 31, 32, 33, 34, 35, 36, 37, 38, 39, 40, 41, 42, 43, 44, 45, 46] (by decide +kernel) (by decide +kernel)
set_option maxRecDepth 20000 in
theorem gX10_wholeDiagonal_X10_nextOrder : GoodIn wsX10_wholeDiagonal (wsV RX10 164 RX10 yX10_nextOrder wsX10_nextOrder) := goodIn_app (goodIn_of _ (by decide +kernel)) ggX10_wholeDiagonal_X10_nextOrder
theorem dX10_wholeDiagonal_0 : decode cX10_wholeDiagonal 0 = .ok (.iload_n 1, 1) := by decide +kernel
theorem dX10_wholeDiagonal_1 : decode cX10_wholeDiagonal 1 = .ok (.ifCond .ge 6, 3) := by decide +kernel
theorem dX10_wholeDiagonal_4 : decode cX10_wholeDiagonal 4 = .ok (.ldc 83, 2) := by decide +kernel
theorem dX10_wholeDiagonal_6 : decode cX10_wholeDiagonal 6 = .ok (.ireturn, 1) := by decide +kernel
theorem dX10_wholeDiagonal_7 : decode cX10_wholeDiagonal 7 = .ok (.iload_n 1, 1) := by decide +kernel
theorem dX10_wholeDiagonal_8 : decode cX10_wholeDiagonal 8 = .ok (.istore_n 2, 1) := by decide +kernel
theorem dX10_wholeDiagonal_9 : decode cX10_wholeDiagonal 9 = .ok (.aload_n 0, 1) := by decide +kernel
theorem dX10_wholeDiagonal_10 : decode cX10_wholeDiagonal 10 = .ok (.aload_n 0, 1) := by decide +kernel
theorem dX10_wholeDiagonal_11 : decode cX10_wholeDiagonal 11 = .ok (.getfield 7, 3) := by decide +kernel
theorem dX10_wholeDiagonal_14 : decode cX10_wholeDiagonal 14 = .ok (.bipush 49, 2) := by decide +kernel
theorem dX10_wholeDiagonal_16 : decode cX10_wholeDiagonal 16 = .ok (.iaload, 1) := by decide +kernel
theorem dX10_wholeDiagonal_17 : decode cX10_wholeDiagonal 17 = .ok (.invokevirtual 157, 3) := by decide +kernel
theorem dX10_wholeDiagonal_20 : decode cX10_wholeDiagonal 20 = .ok (.iconst 1, 1) := by decide +kernel
theorem dX10_wholeDiagonal_21 : decode cX10_wholeDiagonal 21 = .ok (.istore_n 3, 1) := by decide +kernel
theorem dX10_wholeDiagonal_22 : decode cX10_wholeDiagonal 22 = .ok (.iload_n 3, 1) := by decide +kernel
theorem dX10_wholeDiagonal_23 : decode cX10_wholeDiagonal 23 = .ok (.ifCond .eq 55, 3) := by decide +kernel
theorem dX10_wholeDiagonal_26 : decode cX10_wholeDiagonal 26 = .ok (.aload_n 0, 1) := by decide +kernel
theorem dX10_wholeDiagonal_27 : decode cX10_wholeDiagonal 27 = .ok (.aload_n 0, 1) := by decide +kernel
theorem dX10_wholeDiagonal_28 : decode cX10_wholeDiagonal 28 = .ok (.getfield 7, 3) := by decide +kernel
theorem dX10_wholeDiagonal_31 : decode cX10_wholeDiagonal 31 = .ok (.invokevirtual 191, 3) := by decide +kernel
theorem dX10_wholeDiagonal_34 : decode cX10_wholeDiagonal 34 = .ok (.istore 4, 2) := by decide +kernel
theorem dX10_wholeDiagonal_36 : decode cX10_wholeDiagonal 36 = .ok (.iload 4, 2) := by decide +kernel
theorem dX10_wholeDiagonal_38 : decode cX10_wholeDiagonal 38 = .ok (.ifCond .eq 12, 3) := by decide +kernel
theorem dX10_wholeDiagonal_41 : decode cX10_wholeDiagonal 41 = .ok (.iload_n 2, 1) := by decide +kernel
theorem dX10_wholeDiagonal_42 : decode cX10_wholeDiagonal 42 = .ok (.ifCond .ne 8, 3) := by decide +kernel
theorem dX10_wholeDiagonal_45 : decode cX10_wholeDiagonal 45 = .ok (.aload_n 0, 1) := by decide +kernel
theorem dX10_wholeDiagonal_46 : decode cX10_wholeDiagonal 46 = .ok (.invokevirtual 195, 3) := by decide +kernel
theorem dX10_wholeDiagonal_49 : decode cX10_wholeDiagonal 49 = .ok (.ireturn, 1) := by decide +kernel
theorem dX10_wholeDiagonal_50 : decode cX10_wholeDiagonal 50 = .ok (.iload_n 2, 1) := by decide +kernel
theorem dX10_wholeDiagonal_51 : decode cX10_wholeDiagonal 51 = .ok (.iload 4, 2) := by decide +kernel
theorem dX10_wholeDiagonal_53 : decode cX10_wholeDiagonal 53 = .ok (.ifCond .eq 7, 3) := by decide +kernel
theorem dX10_wholeDiagonal_56 : decode cX10_wholeDiagonal 56 = .ok (.iconst 1, 1) := by decide +kernel
theorem dX10_wholeDiagonal_57 : decode cX10_wholeDiagonal 57 = .ok (.goto 4, 3) := by decide +kernel
theorem dX10_wholeDiagonal_60 : decode cX10_wholeDiagonal 60 = .ok (.iconst 0, 1) := by decide +kernel
theorem dX10_wholeDiagonal_61 : decode cX10_wholeDiagonal 61 = .ok (.isub, 1) := by decide +kernel
theorem dX10_wholeDiagonal_62 : decode cX10_wholeDiagonal 62 = .ok (.istore_n 2, 1) := by decide +kernel
theorem dX10_wholeDiagonal_63 : decode cX10_wholeDiagonal 63 = .ok (.aload_n 0, 1) := by decide +kernel
theorem dX10_wholeDiagonal_64 : decode cX10_wholeDiagonal 64 = .ok (.aload_n 0, 1) := by decide +kernel
theorem dX10_wholeDiagonal_65 : decode cX10_wholeDiagonal 65 = .ok (.getfield 7, 3) := by decide +kernel
theorem dX10_wholeDiagonal_68 : decode cX10_wholeDiagonal 68 = .ok (.bipush 49, 2) := by decide +kernel
theorem dX10_wholeDiagonal_70 : decode cX10_wholeDiagonal 70 = .ok (.iaload, 1) := by decide +kernel
theorem dX10_wholeDiagonal_71 : decode cX10_wholeDiagonal 71 = .ok (.invokevirtual 164, 3) := by decide +kernel
theorem dX10_wholeDiagonal_74 : decode cX10_wholeDiagonal 74 = .ok (.istore_n 3, 1) := by decide +kernel
theorem dX10_wholeDiagonal_75 : decode cX10_wholeDiagonal 75 = .ok (.goto (-53), 3) := by decide +kernel
theorem dX10_wholeDiagonal_78 : decode cX10_wholeDiagonal 78 = .ok (.ldc 75, 2) := by decide +kernel
theorem dX10_wholeDiagonal_80 : decode cX10_wholeDiagonal 80 = .ok (.ireturn, 1) := by decide +kernel
set_option maxRecDepth 20000 in
theorem ggX10_diagonalsThrough_X10_isLine : GoodIn wsX10_diagonalsThrough wsX10_isLine := goodIn_r _ [8, 2, 9, 10, 7, 11, 28, 29, 30, 31, 32, 33, 34, 35, 36, 37, 38, 39, 40, 41, 42, 43, 44, 45, 46, 47, 48] (by decide +kernel) (by decide +kernel)
set_option maxRecDepth 20000 in
theorem gX10_diagonalsThrough_X10_isLine : GoodIn wsX10_diagonalsThrough (wsV RX10 88 RX10 yX10_isLine wsX10_isLine) := goodIn_app (goodIn_of _ (by decide +kernel)) ggX10_diagonalsThrough_X10_isLine
set_option maxRecDepth 20000 in
theorem ggX10_diagonalsThrough_X10_firstOrder : GoodIn wsX10_diagonalsThrough wsX10_firstOrder := goodIn_r _ [15, 3, 28, 29, 30, 31, 32, 33, 34, 35, 36, 37, 38, 39, 40, 41, 42, 43, 44, 45, 46, 47, 48] (by decide +kernel) (by decide +kernel)
set_option maxRecDepth 20000 in
theorem gX10_diagonalsThrough_X10_firstOrder : GoodIn wsX10_diagonalsThrough (wsV RX10 157 RX10 yX10_firstOrder wsX10_firstOrder) := goodIn_app (goodIn_of _ (by decide +kernel)) ggX10_diagonalsThrough_X10_firstOrder
set_option maxRecDepth 20000 in
theorem ggX10_diagonalsThrough_X10_isWhole : GoodIn wsX10_diagonalsThrough wsX10_isWhole := goodIn_r _ [19, 2, 3, 28, 29, 30, 31, 32, 33, 34, 35, 36, 37, 38, 39, 40, 41, 42, 43, 44, 45, 46, 47, 48] (by decide +kernel) (by decide +kernel)
set_option maxRecDepth 20000 in
theorem gX10_diagonalsThrough_X10_isWhole : GoodIn wsX10_diagonalsThrough (wsV RX10 191 RX10 yX10_isWhole wsX10_isWhole) := goodIn_app (goodIn_of _ (by decide +kernel)) ggX10_diagonalsThrough_X10_isWhole
set_option maxRecDepth 20000 in
theorem ggX10_diagonalsThrough_X10_nextOrder : GoodIn wsX10_diagonalsThrough wsX10_nextOrder := goodIn_r _ [23, 3, 24, 25, 26, 7, 27, 28, 29, 30, 31, 32, 33, 34, 35, 36, 37, 38, 39, 40, 41, 42, 43, 44, 45, 46, 47, 48] (by decide +kernel) (by decide +kernel)
set_option maxRecDepth 20000 in
theorem gX10_diagonalsThrough_X10_nextOrder : GoodIn wsX10_diagonalsThrough (wsV RX10 164 RX10 yX10_nextOrder wsX10_nextOrder) := goodIn_app (goodIn_of _ (by decide +kernel)) ggX10_diagonalsThrough_X10_nextOrder
theorem dX10_diagonalsThrough_0 : decode cX10_diagonalsThrough 0 = .ok (.aload_n 0, 1) := by decide +kernel
theorem dX10_diagonalsThrough_1 : decode cX10_diagonalsThrough 1 = .ok (.iload_n 1, 1) := by decide +kernel
theorem dX10_diagonalsThrough_2 : decode cX10_diagonalsThrough 2 = .ok (.invokevirtual 88, 3) := by decide +kernel
theorem dX10_diagonalsThrough_5 : decode cX10_diagonalsThrough 5 = .ok (.ifCond .eq 11, 3) := by decide +kernel
theorem dX10_diagonalsThrough_8 : decode cX10_diagonalsThrough 8 = .ok (.aload_n 0, 1) := by decide +kernel
theorem dX10_diagonalsThrough_9 : decode cX10_diagonalsThrough 9 = .ok (.iload_n 2, 1) := by decide +kernel
theorem dX10_diagonalsThrough_10 : decode cX10_diagonalsThrough 10 = .ok (.invokevirtual 88, 3) := by decide +kernel
theorem dX10_diagonalsThrough_13 : decode cX10_diagonalsThrough 13 = .ok (.ifCond .ne 6, 3) := by decide +kernel
theorem dX10_diagonalsThrough_16 : decode cX10_diagonalsThrough 16 = .ok (.ldc 92, 2) := by decide +kernel
theorem dX10_diagonalsThrough_18 : decode cX10_diagonalsThrough 18 = .ok (.ireturn, 1) := by decide +kernel
theorem dX10_diagonalsThrough_19 : decode cX10_diagonalsThrough 19 = .ok (.iconst 0, 1) := by decide +kernel
theorem dX10_diagonalsThrough_20 : decode cX10_diagonalsThrough 20 = .ok (.istore_n 3, 1) := by decide +kernel
theorem dX10_diagonalsThrough_21 : decode cX10_diagonalsThrough 21 = .ok (.aload_n 0, 1) := by decide +kernel
theorem dX10_diagonalsThrough_22 : decode cX10_diagonalsThrough 22 = .ok (.aload_n 0, 1) := by decide +kernel
theorem dX10_diagonalsThrough_23 : decode cX10_diagonalsThrough 23 = .ok (.getfield 7, 3) := by decide +kernel
theorem dX10_diagonalsThrough_26 : decode cX10_diagonalsThrough 26 = .ok (.bipush 49, 2) := by decide +kernel
theorem dX10_diagonalsThrough_28 : decode cX10_diagonalsThrough 28 = .ok (.iaload, 1) := by decide +kernel
theorem dX10_diagonalsThrough_29 : decode cX10_diagonalsThrough 29 = .ok (.invokevirtual 157, 3) := by decide +kernel
theorem dX10_diagonalsThrough_32 : decode cX10_diagonalsThrough 32 = .ok (.iconst 1, 1) := by decide +kernel
theorem dX10_diagonalsThrough_33 : decode cX10_diagonalsThrough 33 = .ok (.istore 4, 2) := by decide +kernel
theorem dX10_diagonalsThrough_35 : decode cX10_diagonalsThrough 35 = .ok (.iload 4, 2) := by decide +kernel
theorem dX10_diagonalsThrough_37 : decode cX10_diagonalsThrough 37 = .ok (.ifCond .eq 48, 3) := by decide +kernel
theorem dX10_diagonalsThrough_40 : decode cX10_diagonalsThrough 40 = .ok (.iload_n 3, 1) := by decide +kernel
theorem dX10_diagonalsThrough_41 : decode cX10_diagonalsThrough 41 = .ok (.aload_n 0, 1) := by decide +kernel
theorem dX10_diagonalsThrough_42 : decode cX10_diagonalsThrough 42 = .ok (.getfield 25, 3) := by decide +kernel
theorem dX10_diagonalsThrough_45 : decode cX10_diagonalsThrough 45 = .ok (.iload_n 1, 1) := by decide +kernel
theorem dX10_diagonalsThrough_46 : decode cX10_diagonalsThrough 46 = .ok (.iaload, 1) := by decide +kernel
theorem dX10_diagonalsThrough_47 : decode cX10_diagonalsThrough 47 = .ok (.iload_n 2, 1) := by decide +kernel
theorem dX10_diagonalsThrough_48 : decode cX10_diagonalsThrough 48 = .ok (.if_icmp .ne 18, 3) := by decide +kernel
theorem dX10_diagonalsThrough_51 : decode cX10_diagonalsThrough 51 = .ok (.aload_n 0, 1) := by decide +kernel
theorem dX10_diagonalsThrough_52 : decode cX10_diagonalsThrough 52 = .ok (.aload_n 0, 1) := by decide +kernel
theorem dX10_diagonalsThrough_53 : decode cX10_diagonalsThrough 53 = .ok (.getfield 7, 3) := by decide +kernel
theorem dX10_diagonalsThrough_56 : decode cX10_diagonalsThrough 56 = .ok (.invokevirtual 191, 3) := by decide +kernel
theorem dX10_diagonalsThrough_59 : decode cX10_diagonalsThrough 59 = .ok (.ifCond .eq 7, 3) := by decide +kernel
theorem dX10_diagonalsThrough_62 : decode cX10_diagonalsThrough 62 = .ok (.iconst 1, 1) := by decide +kernel
theorem dX10_diagonalsThrough_63 : decode cX10_diagonalsThrough 63 = .ok (.goto 4, 3) := by decide +kernel
theorem dX10_diagonalsThrough_66 : decode cX10_diagonalsThrough 66 = .ok (.iconst 0, 1) := by decide +kernel
theorem dX10_diagonalsThrough_67 : decode cX10_diagonalsThrough 67 = .ok (.iadd, 1) := by decide +kernel
theorem dX10_diagonalsThrough_68 : decode cX10_diagonalsThrough 68 = .ok (.istore_n 3, 1) := by decide +kernel
theorem dX10_diagonalsThrough_69 : decode cX10_diagonalsThrough 69 = .ok (.aload_n 0, 1) := by decide +kernel
theorem dX10_diagonalsThrough_70 : decode cX10_diagonalsThrough 70 = .ok (.aload_n 0, 1) := by decide +kernel
theorem dX10_diagonalsThrough_71 : decode cX10_diagonalsThrough 71 = .ok (.getfield 7, 3) := by decide +kernel
theorem dX10_diagonalsThrough_74 : decode cX10_diagonalsThrough 74 = .ok (.bipush 49, 2) := by decide +kernel
theorem dX10_diagonalsThrough_76 : decode cX10_diagonalsThrough 76 = .ok (.iaload, 1) := by decide +kernel
theorem dX10_diagonalsThrough_77 : decode cX10_diagonalsThrough 77 = .ok (.invokevirtual 164, 3) := by decide +kernel
theorem dX10_diagonalsThrough_80 : decode cX10_diagonalsThrough 80 = .ok (.istore 4, 2) := by decide +kernel
theorem dX10_diagonalsThrough_82 : decode cX10_diagonalsThrough 82 = .ok (.goto (-47), 3) := by decide +kernel
theorem dX10_diagonalsThrough_85 : decode cX10_diagonalsThrough 85 = .ok (.iload_n 3, 1) := by decide +kernel
theorem dX10_diagonalsThrough_86 : decode cX10_diagonalsThrough 86 = .ok (.ireturn, 1) := by decide +kernel
set_option maxRecDepth 20000 in
theorem ggX10_rooks_X10_in : GoodIn wsX10_rooks wsX10_in := goodIn_r _ [6] (by decide +kernel) (by decide +kernel)
set_option maxRecDepth 20000 in
theorem gX10_rooks_X10_in : GoodIn wsX10_rooks (va_wsS RX10 59 yX10_in wsX10_in) := goodIn_app (goodIn_of _ (by decide +kernel)) ggX10_rooks_X10_in
set_option maxRecDepth 20000 in
theorem ggX10_rooks_X10_sumOfAll : GoodIn wsX10_rooks wsX10_sumOfAll := goodIn_r _ [10, 11, 12, 13, 5, 14, 1, 15, 16, 17, 18, 19, 20, 21, 22, 23, 24, 25, 26, 27, 28, 29, 30, 31, 32, 33, 34, 35, 36, 37, 38, 39, 40, 41, 42, 43, 44, 45, 46, 47, 48, 49, 50, 51, 52, 53, 54, 55, 56, 57, 58, 59, 60, 61, 62, 63, 64, 65, 66, 67, 68] (by decide +kernel) (by decide +kernel)
set_option maxRecDepth 20000 in
theorem gX10_rooks_X10_sumOfAll : GoodIn wsX10_rooks (wsV RX10 185 RX10 yX10_sumOfAll wsX10_sumOfAll) := goodIn_app (goodIn_of _ (by decide +kernel)) ggX10_rooks_X10_sumOfAll
theorem dX10_rooks_0 : decode cX10_rooks 0 = .ok (.iload_n 1, 1) := by decide +kernel
theorem dX10_rooks_1 : decode cX10_rooks 1 = .ok (.iconst 0, 1) := by decide +kernel
theorem dX10_rooks_2 : decode cX10_rooks 2 = .ok (.aload_n 0, 1) := by decide +kernel
theorem dX10_rooks_3 : decode cX10_rooks 3 = .ok (.getfield 7, 3) := by decide +kernel
theorem dX10_rooks_6 : decode cX10_rooks 6 = .ok (.bipush 49, 2) := by decide +kernel
theorem dX10_rooks_8 : decode cX10_rooks 8 = .ok (.iaload, 1) := by decide +kernel
theorem dX10_rooks_9 : decode cX10_rooks 9 = .ok (.invokestatic 59, 3) := by decide +kernel
theorem dX10_rooks_12 : decode cX10_rooks 12 = .ok (.ifCond .eq 13, 3) := by decide +kernel
theorem dX10_rooks_15 : decode cX10_rooks 15 = .ok (.aload_n 0, 1) := by decide +kernel
theorem dX10_rooks_16 : decode cX10_rooks 16 = .ok (.iload_n 1, 1) := by decide +kernel
theorem dX10_rooks_17 : decode cX10_rooks 17 = .ok (.iconst 1, 1) := by decide +kernel
theorem dX10_rooks_18 : decode cX10_rooks 18 = .ok (.invokevirtual 185, 3) := by decide +kernel
theorem dX10_rooks_21 : decode cX10_rooks 21 = .ok (.l2i, 1) := by decide +kernel
theorem dX10_rooks_22 : decode cX10_rooks 22 = .ok (.goto 5, 3) := by decide +kernel
theorem dX10_rooks_25 : decode cX10_rooks 25 = .ok (.ldc 83, 2) := by decide +kernel
theorem dX10_rooks_27 : decode cX10_rooks 27 = .ok (.ireturn, 1) := by decide +kernel
theorem dX10_columnsOf_0 : decode cX10_columnsOf 0 = .ok (.iconst 0, 1) := by decide +kernel
theorem dX10_columnsOf_1 : decode cX10_columnsOf 1 = .ok (.istore_n 2, 1) := by decide +kernel
theorem dX10_columnsOf_2 : decode cX10_columnsOf 2 = .ok (.iconst 0, 1) := by decide +kernel
theorem dX10_columnsOf_3 : decode cX10_columnsOf 3 = .ok (.istore_n 3, 1) := by decide +kernel
theorem dX10_columnsOf_4 : decode cX10_columnsOf 4 = .ok (.iload_n 3, 1) := by decide +kernel
theorem dX10_columnsOf_5 : decode cX10_columnsOf 5 = .ok (.bipush 49, 2) := by decide +kernel
theorem dX10_columnsOf_7 : decode cX10_columnsOf 7 = .ok (.if_icmp .ge 43, 3) := by decide +kernel
theorem dX10_columnsOf_10 : decode cX10_columnsOf 10 = .ok (.iload_n 2, 1) := by decide +kernel
theorem dX10_columnsOf_11 : decode cX10_columnsOf 11 = .ok (.iload_n 1, 1) := by decide +kernel
theorem dX10_columnsOf_12 : decode cX10_columnsOf 12 = .ok (.iload_n 3, 1) := by decide +kernel
theorem dX10_columnsOf_13 : decode cX10_columnsOf 13 = .ok (.bipush 7, 2) := by decide +kernel
theorem dX10_columnsOf_15 : decode cX10_columnsOf 15 = .ok (.idiv, 1) := by decide +kernel
theorem dX10_columnsOf_16 : decode cX10_columnsOf 16 = .ok (.ishr, 1) := by decide +kernel
theorem dX10_columnsOf_17 : decode cX10_columnsOf 17 = .ok (.iconst 1, 1) := by decide +kernel
theorem dX10_columnsOf_18 : decode cX10_columnsOf 18 = .ok (.iand, 1) := by decide +kernel
theorem dX10_columnsOf_19 : decode cX10_columnsOf 19 = .ok (.iconst 1, 1) := by decide +kernel
theorem dX10_columnsOf_20 : decode cX10_columnsOf 20 = .ok (.if_icmp .ne 21, 3) := by decide +kernel
theorem dX10_columnsOf_23 : decode cX10_columnsOf 23 = .ok (.aload_n 0, 1) := by decide +kernel
theorem dX10_columnsOf_24 : decode cX10_columnsOf 24 = .ok (.getfield 7, 3) := by decide +kernel
theorem dX10_columnsOf_27 : decode cX10_columnsOf 27 = .ok (.iload_n 3, 1) := by decide +kernel
theorem dX10_columnsOf_28 : decode cX10_columnsOf 28 = .ok (.iaload, 1) := by decide +kernel
theorem dX10_columnsOf_29 : decode cX10_columnsOf 29 = .ok (.ifCond .eq 12, 3) := by decide +kernel
theorem dX10_columnsOf_32 : decode cX10_columnsOf 32 = .ok (.iconst 1, 1) := by decide +kernel
theorem dX10_columnsOf_33 : decode cX10_columnsOf 33 = .ok (.iload_n 3, 1) := by decide +kernel
theorem dX10_columnsOf_34 : decode cX10_columnsOf 34 = .ok (.bipush 7, 2) := by decide +kernel
theorem dX10_columnsOf_36 : decode cX10_columnsOf 36 = .ok (.irem, 1) := by decide +kernel
theorem dX10_columnsOf_37 : decode cX10_columnsOf 37 = .ok (.ishl, 1) := by decide +kernel
theorem dX10_columnsOf_38 : decode cX10_columnsOf 38 = .ok (.goto 4, 3) := by decide +kernel
theorem dX10_columnsOf_41 : decode cX10_columnsOf 41 = .ok (.iconst 0, 1) := by decide +kernel
theorem dX10_columnsOf_42 : decode cX10_columnsOf 42 = .ok (.ior, 1) := by decide +kernel
theorem dX10_columnsOf_43 : decode cX10_columnsOf 43 = .ok (.istore_n 2, 1) := by decide +kernel
theorem dX10_columnsOf_44 : decode cX10_columnsOf 44 = .ok (.iinc 3 1, 3) := by decide +kernel
theorem dX10_columnsOf_47 : decode cX10_columnsOf 47 = .ok (.goto (-43), 3) := by decide +kernel
theorem dX10_columnsOf_50 : decode cX10_columnsOf 50 = .ok (.iload_n 2, 1) := by decide +kernel
theorem dX10_columnsOf_51 : decode cX10_columnsOf 51 = .ok (.ireturn, 1) := by decide +kernel
set_option maxRecDepth 20000 in
theorem ggX10_tooFew_X10_all : GoodIn wsX10_tooFew wsX10_all := goodIn_r _ [6, 7, 15, 16, 17, 18, 19, 20, 21, 22, 23, 24, 25, 26, 27, 28, 29, 30, 31, 32, 33, 34, 35] (by decide +kernel) (by decide +kernel)
set_option maxRecDepth 20000 in
theorem gX10_tooFew_X10_all : GoodIn wsX10_tooFew (wsV RX10 167 RX10 yX10_all wsX10_all) := goodIn_app (goodIn_of _ (by decide +kernel)) ggX10_tooFew_X10_all
set_option maxRecDepth 20000 in
theorem ggX10_tooFew_X10_columnsOf : GoodIn wsX10_tooFew wsX10_columnsOf := goodIn_r _ [11, 7, 15, 16, 17, 18, 19, 20, 21, 22, 23, 24, 25, 26, 27, 28, 29, 30, 31, 32, 33, 34, 35] (by decide +kernel) (by decide +kernel)
set_option maxRecDepth 20000 in
theorem gX10_tooFew_X10_columnsOf : GoodIn wsX10_tooFew (wsV RX10 198 RX10 yX10_columnsOf wsX10_columnsOf) := goodIn_app (goodIn_of _ (by decide +kernel)) ggX10_tooFew_X10_columnsOf
set_option maxRecDepth 20000 in
theorem ggX10_tooFew_X10_bits : GoodIn wsX10_tooFew wsX10_bits := goodIn_r _ [14] (by decide +kernel) (by decide +kernel)
set_option maxRecDepth 20000 in
theorem gX10_tooFew_X10_bits : GoodIn wsX10_tooFew (va_wsS RX10 179 yX10_bits wsX10_bits) := goodIn_app (goodIn_of _ (by decide +kernel)) ggX10_tooFew_X10_bits
theorem dX10_tooFew_0 : decode cX10_tooFew 0 = .ok (.ldc 75, 2) := by decide +kernel
theorem dX10_tooFew_2 : decode cX10_tooFew 2 = .ok (.istore_n 1, 1) := by decide +kernel
theorem dX10_tooFew_3 : decode cX10_tooFew 3 = .ok (.aload_n 0, 1) := by decide +kernel
theorem dX10_tooFew_4 : decode cX10_tooFew 4 = .ok (.invokevirtual 167, 3) := by decide +kernel
theorem dX10_tooFew_7 : decode cX10_tooFew 7 = .ok (.istore_n 2, 1) := by decide +kernel
theorem dX10_tooFew_8 : decode cX10_tooFew 8 = .ok (.iload_n 2, 1) := by decide +kernel
theorem dX10_tooFew_9 : decode cX10_tooFew 9 = .ok (.ifCond .le 57, 3) := by decide +kernel
theorem dX10_tooFew_12 : decode cX10_tooFew 12 = .ok (.aload_n 0, 1) := by decide +kernel
theorem dX10_tooFew_13 : decode cX10_tooFew 13 = .ok (.iload_n 2, 1) := by decide +kernel
theorem dX10_tooFew_14 : decode cX10_tooFew 14 = .ok (.invokevirtual 198, 3) := by decide +kernel
theorem dX10_tooFew_17 : decode cX10_tooFew 17 = .ok (.invokestatic 179, 3) := by decide +kernel
theorem dX10_tooFew_20 : decode cX10_tooFew 20 = .ok (.iload_n 2, 1) := by decide +kernel
theorem dX10_tooFew_21 : decode cX10_tooFew 21 = .ok (.invokestatic 179, 3) := by decide +kernel
theorem dX10_tooFew_24 : decode cX10_tooFew 24 = .ok (.if_icmp .ge 7, 3) := by decide +kernel
theorem dX10_tooFew_27 : decode cX10_tooFew 27 = .ok (.iconst 1, 1) := by decide +kernel
theorem dX10_tooFew_28 : decode cX10_tooFew 28 = .ok (.goto 4, 3) := by decide +kernel
theorem dX10_tooFew_31 : decode cX10_tooFew 31 = .ok (.iconst 0, 1) := by decide +kernel
theorem dX10_tooFew_32 : decode cX10_tooFew 32 = .ok (.istore_n 3, 1) := by decide +kernel
theorem dX10_tooFew_33 : decode cX10_tooFew 33 = .ok (.iload_n 3, 1) := by decide +kernel
theorem dX10_tooFew_34 : decode cX10_tooFew 34 = .ok (.ifCond .eq 24, 3) := by decide +kernel
theorem dX10_tooFew_37 : decode cX10_tooFew 37 = .ok (.iload_n 1, 1) := by decide +kernel
theorem dX10_tooFew_38 : decode cX10_tooFew 38 = .ok (.ldc 75, 2) := by decide +kernel
theorem dX10_tooFew_40 : decode cX10_tooFew 40 = .ok (.if_icmp .eq 14, 3) := by decide +kernel
theorem dX10_tooFew_43 : decode cX10_tooFew 43 = .ok (.iload_n 2, 1) := by decide +kernel
theorem dX10_tooFew_44 : decode cX10_tooFew 44 = .ok (.invokestatic 179, 3) := by decide +kernel
theorem dX10_tooFew_47 : decode cX10_tooFew 47 = .ok (.iload_n 1, 1) := by decide +kernel
theorem dX10_tooFew_48 : decode cX10_tooFew 48 = .ok (.invokestatic 179, 3) := by decide +kernel
theorem dX10_tooFew_51 : decode cX10_tooFew 51 = .ok (.if_icmp .gt 7, 3) := by decide +kernel
theorem dX10_tooFew_54 : decode cX10_tooFew 54 = .ok (.iload_n 2, 1) := by decide +kernel
theorem dX10_tooFew_55 : decode cX10_tooFew 55 = .ok (.goto 4, 3) := by decide +kernel
theorem dX10_tooFew_58 : decode cX10_tooFew 58 = .ok (.iload_n 1, 1) := by decide +kernel
theorem dX10_tooFew_59 : decode cX10_tooFew 59 = .ok (.istore_n 1, 1) := by decide +kernel
theorem dX10_tooFew_60 : decode cX10_tooFew 60 = .ok (.iinc 2 (-1), 3) := by decide +kernel
theorem dX10_tooFew_63 : decode cX10_tooFew 63 = .ok (.goto (-55), 3) := by decide +kernel
theorem dX10_tooFew_66 : decode cX10_tooFew 66 = .ok (.iload_n 1, 1) := by decide +kernel
theorem dX10_tooFew_67 : decode cX10_tooFew 67 = .ok (.ireturn, 1) := by decide +kernel
set_option maxRecDepth 20000 in
theorem ggX10_best_X10_firstOrder : GoodIn wsX10_best wsX10_firstOrder := goodIn_r _ [7, 2, 24, 25, 26, 27, 28, 29, 30, 31, 32, 33, 34, 35, 36, 37, 38, 39, 40, 41, 42, 43, 44] (by decide +kernel) (by decide +kernel)
set_option maxRecDepth 20000 in
theorem gX10_best_X10_firstOrder : GoodIn wsX10_best (wsV RX10 157 RX10 yX10_firstOrder wsX10_firstOrder) := goodIn_app (goodIn_of _ (by decide +kernel)) ggX10_best_X10_firstOrder
set_option maxRecDepth 20000 in
theorem ggX10_best_X10_at : GoodIn wsX10_best wsX10_at := goodIn_r _ [11, 1, 24, 25, 26, 27, 28, 29, 30, 31, 32, 33, 34, 35, 36, 37, 38, 39, 40, 41, 42, 43, 44] (by decide +kernel) (by decide +kernel)
set_option maxRecDepth 20000 in
theorem gX10_best_X10_at : GoodIn wsX10_best (wsV RX10 93 RX10 yX10_at wsX10_at) := goodIn_app (goodIn_of _ (by decide +kernel)) ggX10_best_X10_at
set_option maxRecDepth 20000 in
theorem ggX10_best_X10_number : GoodIn wsX10_best wsX10_number := goodIn_r _ [15, 1, 2, 24, 25, 26, 27, 28, 29, 30, 31, 32, 33, 34, 35, 36, 37, 38, 39, 40, 41, 42, 43, 44] (by decide +kernel) (by decide +kernel)
set_option maxRecDepth 20000 in
theorem gX10_best_X10_number : GoodIn wsX10_best (wsV RX10 195 RX10 yX10_number wsX10_number) := goodIn_app (goodIn_of _ (by decide +kernel)) ggX10_best_X10_number
set_option maxRecDepth 20000 in
theorem ggX10_best_X10_nextOrder : GoodIn wsX10_best wsX10_nextOrder := goodIn_r _ [19, 2, 20, 21, 22, 6, 23, 24, 25, 26, 27, 28, 29, 30, 31, 32, 33, 34, 35, 36, 37, 38, 39, 40, 41, 42, 43, 44] (by decide +kernel) (by decide +kernel)
set_option maxRecDepth 20000 in
theorem gX10_best_X10_nextOrder : GoodIn wsX10_best (wsV RX10 164 RX10 yX10_nextOrder wsX10_nextOrder) := goodIn_app (goodIn_of _ (by decide +kernel)) ggX10_best_X10_nextOrder
theorem dX10_best_0 : decode cX10_best 0 = .ok (.iconst 0, 1) := by decide +kernel
theorem dX10_best_1 : decode cX10_best 1 = .ok (.istore_n 2, 1) := by decide +kernel
theorem dX10_best_2 : decode cX10_best 2 = .ok (.sipush (-1000), 3) := by decide +kernel
theorem dX10_best_5 : decode cX10_best 5 = .ok (.istore_n 3, 1) := by decide +kernel
theorem dX10_best_6 : decode cX10_best 6 = .ok (.aload_n 0, 1) := by decide +kernel
theorem dX10_best_7 : decode cX10_best 7 = .ok (.aload_n 0, 1) := by decide +kernel
theorem dX10_best_8 : decode cX10_best 8 = .ok (.getfield 7, 3) := by decide +kernel
theorem dX10_best_11 : decode cX10_best 11 = .ok (.bipush 49, 2) := by decide +kernel
theorem dX10_best_13 : decode cX10_best 13 = .ok (.iaload, 1) := by decide +kernel
theorem dX10_best_14 : decode cX10_best 14 = .ok (.invokevirtual 157, 3) := by decide +kernel
theorem dX10_best_17 : decode cX10_best 17 = .ok (.iconst 1, 1) := by decide +kernel
theorem dX10_best_18 : decode cX10_best 18 = .ok (.istore 4, 2) := by decide +kernel
theorem dX10_best_20 : decode cX10_best 20 = .ok (.iload 4, 2) := by decide +kernel
theorem dX10_best_22 : decode cX10_best 22 = .ok (.ifCond .eq 89, 3) := by decide +kernel
theorem dX10_best_25 : decode cX10_best 25 = .ok (.iconst 0, 1) := by decide +kernel
theorem dX10_best_26 : decode cX10_best 26 = .ok (.istore 5, 2) := by decide +kernel
theorem dX10_best_28 : decode cX10_best 28 = .ok (.iconst 0, 1) := by decide +kernel
theorem dX10_best_29 : decode cX10_best 29 = .ok (.istore 6, 2) := by decide +kernel
theorem dX10_best_31 : decode cX10_best 31 = .ok (.iload 6, 2) := by decide +kernel
theorem dX10_best_33 : decode cX10_best 33 = .ok (.aload_n 0, 1) := by decide +kernel
theorem dX10_best_34 : decode cX10_best 34 = .ok (.getfield 7, 3) := by decide +kernel
theorem dX10_best_37 : decode cX10_best 37 = .ok (.bipush 49, 2) := by decide +kernel
theorem dX10_best_39 : decode cX10_best 39 = .ok (.iaload, 1) := by decide +kernel
theorem dX10_best_40 : decode cX10_best 40 = .ok (.if_icmp .ge 27, 3) := by decide +kernel
theorem dX10_best_43 : decode cX10_best 43 = .ok (.iload 5, 2) := by decide +kernel
theorem dX10_best_45 : decode cX10_best 45 = .ok (.aload_n 0, 1) := by decide +kernel
theorem dX10_best_46 : decode cX10_best 46 = .ok (.iload 6, 2) := by decide +kernel
theorem dX10_best_48 : decode cX10_best 48 = .ok (.aload_n 0, 1) := by decide +kernel
theorem dX10_best_49 : decode cX10_best 49 = .ok (.getfield 25, 3) := by decide +kernel
theorem dX10_best_52 : decode cX10_best 52 = .ok (.iload 6, 2) := by decide +kernel
theorem dX10_best_54 : decode cX10_best 54 = .ok (.iaload, 1) := by decide +kernel
theorem dX10_best_55 : decode cX10_best 55 = .ok (.invokevirtual 93, 3) := by decide +kernel
theorem dX10_best_58 : decode cX10_best 58 = .ok (.iadd, 1) := by decide +kernel
theorem dX10_best_59 : decode cX10_best 59 = .ok (.istore 5, 2) := by decide +kernel
theorem dX10_best_61 : decode cX10_best 61 = .ok (.iinc 6 1, 3) := by decide +kernel
theorem dX10_best_64 : decode cX10_best 64 = .ok (.goto (-33), 3) := by decide +kernel
theorem dX10_best_67 : decode cX10_best 67 = .ok (.iload 5, 2) := by decide +kernel
theorem dX10_best_69 : decode cX10_best 69 = .ok (.iload_n 3, 1) := by decide +kernel
theorem dX10_best_70 : decode cX10_best 70 = .ok (.if_icmp .le 10, 3) := by decide +kernel
theorem dX10_best_73 : decode cX10_best 73 = .ok (.aload_n 0, 1) := by decide +kernel
theorem dX10_best_74 : decode cX10_best 74 = .ok (.invokevirtual 195, 3) := by decide +kernel
theorem dX10_best_77 : decode cX10_best 77 = .ok (.goto 4, 3) := by decide +kernel
theorem dX10_best_80 : decode cX10_best 80 = .ok (.iload_n 2, 1) := by decide +kernel
theorem dX10_best_81 : decode cX10_best 81 = .ok (.istore_n 2, 1) := by decide +kernel
theorem dX10_best_82 : decode cX10_best 82 = .ok (.iload 5, 2) := by decide +kernel
theorem dX10_best_84 : decode cX10_best 84 = .ok (.iload_n 3, 1) := by decide +kernel
theorem dX10_best_85 : decode cX10_best 85 = .ok (.if_icmp .le 8, 3) := by decide +kernel
theorem dX10_best_88 : decode cX10_best 88 = .ok (.iload 5, 2) := by decide +kernel
theorem dX10_best_90 : decode cX10_best 90 = .ok (.goto 4, 3) := by decide +kernel
theorem dX10_best_93 : decode cX10_best 93 = .ok (.iload_n 3, 1) := by decide +kernel
theorem dX10_best_94 : decode cX10_best 94 = .ok (.istore_n 3, 1) := by decide +kernel
theorem dX10_best_95 : decode cX10_best 95 = .ok (.aload_n 0, 1) := by decide +kernel
theorem dX10_best_96 : decode cX10_best 96 = .ok (.aload_n 0, 1) := by decide +kernel
theorem dX10_best_97 : decode cX10_best 97 = .ok (.getfield 7, 3) := by decide +kernel
theorem dX10_best_100 : decode cX10_best 100 = .ok (.bipush 49, 2) := by decide +kernel
theorem dX10_best_102 : decode cX10_best 102 = .ok (.iaload, 1) := by decide +kernel
theorem dX10_best_103 : decode cX10_best 103 = .ok (.invokevirtual 164, 3) := by decide +kernel
theorem dX10_best_106 : decode cX10_best 106 = .ok (.istore 4, 2) := by decide +kernel
theorem dX10_best_108 : decode cX10_best 108 = .ok (.goto (-88), 3) := by decide +kernel
theorem dX10_best_111 : decode cX10_best 111 = .ok (.iload_n 1, 1) := by decide +kernel
theorem dX10_best_112 : decode cX10_best 112 = .ok (.ifCond .eq 7, 3) := by decide +kernel
theorem dX10_best_115 : decode cX10_best 115 = .ok (.iload_n 3, 1) := by decide +kernel
theorem dX10_best_116 : decode cX10_best 116 = .ok (.goto 4, 3) := by decide +kernel
theorem dX10_best_119 : decode cX10_best 119 = .ok (.iload_n 2, 1) := by decide +kernel
theorem dX10_best_120 : decode cX10_best 120 = .ok (.ireturn, 1) := by decide +kernel
set_option maxRecDepth 20000 in
theorem ggX10_nodes_X10_all : GoodIn wsX10_nodes wsX10_all := goodIn_r _ [7, 2, 15, 16, 17, 18, 19, 20, 21, 22, 23, 24, 25, 26, 27, 28, 29, 30, 31, 32, 33, 34, 35] (by decide +kernel) (by decide +kernel)
set_option maxRecDepth 20000 in
theorem gX10_nodes_X10_all : GoodIn wsX10_nodes (wsV RX10 167 RX10 yX10_all wsX10_all) := goodIn_app (goodIn_of _ (by decide +kernel)) ggX10_nodes_X10_all
set_option maxRecDepth 20000 in
theorem ggX10_nodes_X10_bits : GoodIn wsX10_nodes wsX10_bits := goodIn_r _ [10] (by decide +kernel) (by decide +kernel)
set_option maxRecDepth 20000 in
theorem gX10_nodes_X10_bits : GoodIn wsX10_nodes (va_wsS RX10 179 yX10_bits wsX10_bits) := goodIn_app (goodIn_of _ (by decide +kernel)) ggX10_nodes_X10_bits
set_option maxRecDepth 20000 in
theorem ggX10_nodes_X10_at : GoodIn wsX10_nodes wsX10_at := goodIn_r _ [14, 2, 15, 16, 17, 18, 19, 20, 21, 22, 23, 24, 25, 26, 27, 28, 29, 30, 31, 32, 33, 34, 35] (by decide +kernel) (by decide +kernel)
set_option maxRecDepth 20000 in
theorem gX10_nodes_X10_at : GoodIn wsX10_nodes (wsV RX10 93 RX10 yX10_at wsX10_at) := goodIn_app (goodIn_of _ (by decide +kernel)) ggX10_nodes_X10_at
theorem dX10_nodes_0 : decode cX10_nodes 0 = .ok (.iconst 0, 1) := by decide +kernel
theorem dX10_nodes_1 : decode cX10_nodes 1 = .ok (.istore_n 2, 1) := by decide +kernel
theorem dX10_nodes_2 : decode cX10_nodes 2 = .ok (.iconst 0, 1) := by decide +kernel
theorem dX10_nodes_3 : decode cX10_nodes 3 = .ok (.istore_n 3, 1) := by decide +kernel
theorem dX10_nodes_4 : decode cX10_nodes 4 = .ok (.iload_n 3, 1) := by decide +kernel
theorem dX10_nodes_5 : decode cX10_nodes 5 = .ok (.aload_n 0, 1) := by decide +kernel
theorem dX10_nodes_6 : decode cX10_nodes 6 = .ok (.invokevirtual 167, 3) := by decide +kernel
theorem dX10_nodes_9 : decode cX10_nodes 9 = .ok (.if_icmp .gt 133, 3) := by decide +kernel
theorem dX10_nodes_12 : decode cX10_nodes 12 = .ok (.aload_n 0, 1) := by decide +kernel
theorem dX10_nodes_13 : decode cX10_nodes 13 = .ok (.getfield 37, 3) := by decide +kernel
theorem dX10_nodes_16 : decode cX10_nodes 16 = .ok (.iload_n 3, 1) := by decide +kernel
theorem dX10_nodes_17 : decode cX10_nodes 17 = .ok (.iload_n 3, 1) := by decide +kernel
theorem dX10_nodes_18 : decode cX10_nodes 18 = .ok (.ifCond .ne 7, 3) := by decide +kernel
theorem dX10_nodes_21 : decode cX10_nodes 21 = .ok (.iconst 1, 1) := by decide +kernel
theorem dX10_nodes_22 : decode cX10_nodes 22 = .ok (.goto 4, 3) := by decide +kernel
theorem dX10_nodes_25 : decode cX10_nodes 25 = .ok (.iconst 0, 1) := by decide +kernel
theorem dX10_nodes_26 : decode cX10_nodes 26 = .ok (.iastore, 1) := by decide +kernel
theorem dX10_nodes_27 : decode cX10_nodes 27 = .ok (.iload_n 3, 1) := by decide +kernel
theorem dX10_nodes_28 : decode cX10_nodes 28 = .ok (.invokestatic 179, 3) := by decide +kernel
theorem dX10_nodes_31 : decode cX10_nodes 31 = .ok (.iconst 1, 1) := by decide +kernel
theorem dX10_nodes_32 : decode cX10_nodes 32 = .ok (.isub, 1) := by decide +kernel
theorem dX10_nodes_33 : decode cX10_nodes 33 = .ok (.istore 4, 2) := by decide +kernel
theorem dX10_nodes_35 : decode cX10_nodes 35 = .ok (.iconst 0, 1) := by decide +kernel
theorem dX10_nodes_36 : decode cX10_nodes 36 = .ok (.istore 5, 2) := by decide +kernel
theorem dX10_nodes_38 : decode cX10_nodes 38 = .ok (.iload 5, 2) := by decide +kernel
theorem dX10_nodes_40 : decode cX10_nodes 40 = .ok (.aload_n 0, 1) := by decide +kernel
theorem dX10_nodes_41 : decode cX10_nodes 41 = .ok (.getfield 7, 3) := by decide +kernel
theorem dX10_nodes_44 : decode cX10_nodes 44 = .ok (.bipush 49, 2) := by decide +kernel
theorem dX10_nodes_46 : decode cX10_nodes 46 = .ok (.iaload, 1) := by decide +kernel
theorem dX10_nodes_47 : decode cX10_nodes 47 = .ok (.if_icmp .ge 59, 3) := by decide +kernel
theorem dX10_nodes_50 : decode cX10_nodes 50 = .ok (.iload 4, 2) := by decide +kernel
theorem dX10_nodes_52 : decode cX10_nodes 52 = .ok (.ifCond .lt 54, 3) := by decide +kernel
theorem dX10_nodes_55 : decode cX10_nodes 55 = .ok (.aload_n 0, 1) := by decide +kernel
theorem dX10_nodes_56 : decode cX10_nodes 56 = .ok (.getfield 37, 3) := by decide +kernel
theorem dX10_nodes_59 : decode cX10_nodes 59 = .ok (.iload_n 3, 1) := by decide +kernel
theorem dX10_nodes_60 : decode cX10_nodes 60 = .ok (.dup2, 1) := by decide +kernel
theorem dX10_nodes_61 : decode cX10_nodes 61 = .ok (.iaload, 1) := by decide +kernel
theorem dX10_nodes_62 : decode cX10_nodes 62 = .ok (.iload_n 3, 1) := by decide +kernel
theorem dX10_nodes_63 : decode cX10_nodes 63 = .ok (.iload 5, 2) := by decide +kernel
theorem dX10_nodes_65 : decode cX10_nodes 65 = .ok (.ishr, 1) := by decide +kernel
theorem dX10_nodes_66 : decode cX10_nodes 66 = .ok (.iconst 1, 1) := by decide +kernel
theorem dX10_nodes_67 : decode cX10_nodes 67 = .ok (.iand, 1) := by decide +kernel
theorem dX10_nodes_68 : decode cX10_nodes 68 = .ok (.iconst 1, 1) := by decide +kernel
theorem dX10_nodes_69 : decode cX10_nodes 69 = .ok (.if_icmp .ne 28, 3) := by decide +kernel
theorem dX10_nodes_72 : decode cX10_nodes 72 = .ok (.aload_n 0, 1) := by decide +kernel
theorem dX10_nodes_73 : decode cX10_nodes 73 = .ok (.iload 4, 2) := by decide +kernel
theorem dX10_nodes_75 : decode cX10_nodes 75 = .ok (.iload 5, 2) := by decide +kernel
theorem dX10_nodes_77 : decode cX10_nodes 77 = .ok (.invokevirtual 93, 3) := by decide +kernel
theorem dX10_nodes_80 : decode cX10_nodes 80 = .ok (.ifCond .eq 17, 3) := by decide +kernel
theorem dX10_nodes_83 : decode cX10_nodes 83 = .ok (.aload_n 0, 1) := by decide +kernel
theorem dX10_nodes_84 : decode cX10_nodes 84 = .ok (.getfield 37, 3) := by decide +kernel
theorem dX10_nodes_87 : decode cX10_nodes 87 = .ok (.iload_n 3, 1) := by decide +kernel
theorem dX10_nodes_88 : decode cX10_nodes 88 = .ok (.iconst 1, 1) := by decide +kernel
theorem dX10_nodes_89 : decode cX10_nodes 89 = .ok (.iload 5, 2) := by decide +kernel
theorem dX10_nodes_91 : decode cX10_nodes 91 = .ok (.ishl, 1) := by decide +kernel
theorem dX10_nodes_92 : decode cX10_nodes 92 = .ok (.isub, 1) := by decide +kernel
theorem dX10_nodes_93 : decode cX10_nodes 93 = .ok (.iaload, 1) := by decide +kernel
theorem dX10_nodes_94 : decode cX10_nodes 94 = .ok (.goto 4, 3) := by decide +kernel
theorem dX10_nodes_97 : decode cX10_nodes 97 = .ok (.iconst 0, 1) := by decide +kernel
theorem dX10_nodes_98 : decode cX10_nodes 98 = .ok (.iadd, 1) := by decide +kernel
theorem dX10_nodes_99 : decode cX10_nodes 99 = .ok (.iastore, 1) := by decide +kernel
theorem dX10_nodes_100 : decode cX10_nodes 100 = .ok (.iinc 5 1, 3) := by decide +kernel
theorem dX10_nodes_103 : decode cX10_nodes 103 = .ok (.goto (-65), 3) := by decide +kernel
theorem dX10_nodes_106 : decode cX10_nodes 106 = .ok (.iload_n 2, 1) := by decide +kernel
theorem dX10_nodes_107 : decode cX10_nodes 107 = .ok (.iload_n 1, 1) := by decide +kernel
theorem dX10_nodes_108 : decode cX10_nodes 108 = .ok (.ifCond .eq 20, 3) := by decide +kernel
theorem dX10_nodes_111 : decode cX10_nodes 111 = .ok (.aload_n 0, 1) := by decide +kernel
theorem dX10_nodes_112 : decode cX10_nodes 112 = .ok (.getfield 37, 3) := by decide +kernel
theorem dX10_nodes_115 : decode cX10_nodes 115 = .ok (.iload_n 3, 1) := by decide +kernel
theorem dX10_nodes_116 : decode cX10_nodes 116 = .ok (.iaload, 1) := by decide +kernel
theorem dX10_nodes_117 : decode cX10_nodes 117 = .ok (.ifCond .le 7, 3) := by decide +kernel
theorem dX10_nodes_120 : decode cX10_nodes 120 = .ok (.iconst 1, 1) := by decide +kernel
theorem dX10_nodes_121 : decode cX10_nodes 121 = .ok (.goto 13, 3) := by decide +kernel
theorem dX10_nodes_124 : decode cX10_nodes 124 = .ok (.iconst 0, 1) := by decide +kernel
theorem dX10_nodes_125 : decode cX10_nodes 125 = .ok (.goto 9, 3) := by decide +kernel
theorem dX10_nodes_128 : decode cX10_nodes 128 = .ok (.aload_n 0, 1) := by decide +kernel
theorem dX10_nodes_129 : decode cX10_nodes 129 = .ok (.getfield 37, 3) := by decide +kernel
theorem dX10_nodes_132 : decode cX10_nodes 132 = .ok (.iload_n 3, 1) := by decide +kernel
theorem dX10_nodes_133 : decode cX10_nodes 133 = .ok (.iaload, 1) := by decide +kernel
theorem dX10_nodes_134 : decode cX10_nodes 134 = .ok (.iadd, 1) := by decide +kernel
theorem dX10_nodes_135 : decode cX10_nodes 135 = .ok (.istore_n 2, 1) := by decide +kernel
theorem dX10_nodes_136 : decode cX10_nodes 136 = .ok (.iinc 3 1, 3) := by decide +kernel
theorem dX10_nodes_139 : decode cX10_nodes 139 = .ok (.goto (-135), 3) := by decide +kernel
theorem dX10_nodes_142 : decode cX10_nodes 142 = .ok (.iload_n 2, 1) := by decide +kernel
theorem dX10_nodes_143 : decode cX10_nodes 143 = .ok (.ireturn, 1) := by decide +kernel
set_option maxRecDepth 20000 in
theorem ggX10_canScale_X10_sumOfLine : GoodIn wsX10_canScale wsX10_sumOfLine := goodIn_r _ [6, 1, 7, 8, 9, 5, 10, 11, 12, 13, 14, 15, 16, 17, 18, 19, 20, 21, 22, 23, 24, 25, 26, 27, 28, 29, 30, 31] (by decide +kernel) (by decide +kernel)
set_option maxRecDepth 20000 in
theorem gX10_canScale_X10_sumOfLine : GoodIn wsX10_canScale (wsV RX10 139 RX10 yX10_sumOfLine wsX10_sumOfLine) := goodIn_app (goodIn_of _ (by decide +kernel)) ggX10_canScale_X10_sumOfLine
theorem dX10_canScale_0 : decode cX10_canScale 0 = .ok (.iconst 1, 1) := by decide +kernel
theorem dX10_canScale_1 : decode cX10_canScale 1 = .ok (.istore_n 1, 1) := by decide +kernel
theorem dX10_canScale_2 : decode cX10_canScale 2 = .ok (.iconst 0, 1) := by decide +kernel
theorem dX10_canScale_3 : decode cX10_canScale 3 = .ok (.istore_n 2, 1) := by decide +kernel
theorem dX10_canScale_4 : decode cX10_canScale 4 = .ok (.iload_n 2, 1) := by decide +kernel
theorem dX10_canScale_5 : decode cX10_canScale 5 = .ok (.bipush 49, 2) := by decide +kernel
theorem dX10_canScale_7 : decode cX10_canScale 7 = .ok (.if_icmp .ge 28, 3) := by decide +kernel
theorem dX10_canScale_10 : decode cX10_canScale 10 = .ok (.iload_n 1, 1) := by decide +kernel
theorem dX10_canScale_11 : decode cX10_canScale 11 = .ok (.ifCond .eq 16, 3) := by decide +kernel
theorem dX10_canScale_14 : decode cX10_canScale 14 = .ok (.aload_n 0, 1) := by decide +kernel
theorem dX10_canScale_15 : decode cX10_canScale 15 = .ok (.getfield 7, 3) := by decide +kernel
theorem dX10_canScale_18 : decode cX10_canScale 18 = .ok (.iload_n 2, 1) := by decide +kernel
theorem dX10_canScale_19 : decode cX10_canScale 19 = .ok (.iaload, 1) := by decide +kernel
theorem dX10_canScale_20 : decode cX10_canScale 20 = .ok (.ifCond .lt 7, 3) := by decide +kernel
theorem dX10_canScale_23 : decode cX10_canScale 23 = .ok (.iconst 1, 1) := by decide +kernel
theorem dX10_canScale_24 : decode cX10_canScale 24 = .ok (.goto 4, 3) := by decide +kernel
theorem dX10_canScale_27 : decode cX10_canScale 27 = .ok (.iconst 0, 1) := by decide +kernel
theorem dX10_canScale_28 : decode cX10_canScale 28 = .ok (.istore_n 1, 1) := by decide +kernel
theorem dX10_canScale_29 : decode cX10_canScale 29 = .ok (.iinc 2 1, 3) := by decide +kernel
theorem dX10_canScale_32 : decode cX10_canScale 32 = .ok (.goto (-28), 3) := by decide +kernel
theorem dX10_canScale_35 : decode cX10_canScale 35 = .ok (.iconst 0, 1) := by decide +kernel
theorem dX10_canScale_36 : decode cX10_canScale 36 = .ok (.istore_n 2, 1) := by decide +kernel
theorem dX10_canScale_37 : decode cX10_canScale 37 = .ok (.iload_n 2, 1) := by decide +kernel
theorem dX10_canScale_38 : decode cX10_canScale 38 = .ok (.aload_n 0, 1) := by decide +kernel
theorem dX10_canScale_39 : decode cX10_canScale 39 = .ok (.getfield 7, 3) := by decide +kernel
theorem dX10_canScale_42 : decode cX10_canScale 42 = .ok (.bipush 49, 2) := by decide +kernel
theorem dX10_canScale_44 : decode cX10_canScale 44 = .ok (.iaload, 1) := by decide +kernel
theorem dX10_canScale_45 : decode cX10_canScale 45 = .ok (.if_icmp .ge 37, 3) := by decide +kernel
theorem dX10_canScale_48 : decode cX10_canScale 48 = .ok (.iload_n 1, 1) := by decide +kernel
theorem dX10_canScale_49 : decode cX10_canScale 49 = .ok (.ifCond .eq 25, 3) := by decide +kernel
theorem dX10_canScale_52 : decode cX10_canScale 52 = .ok (.aload_n 0, 1) := by decide +kernel
theorem dX10_canScale_53 : decode cX10_canScale 53 = .ok (.iload_n 2, 1) := by decide +kernel
theorem dX10_canScale_54 : decode cX10_canScale 54 = .ok (.iconst 0, 1) := by decide +kernel
theorem dX10_canScale_55 : decode cX10_canScale 55 = .ok (.invokevirtual 139, 3) := by decide +kernel
theorem dX10_canScale_58 : decode cX10_canScale 58 = .ok (.ifCond .le 16, 3) := by decide +kernel
theorem dX10_canScale_61 : decode cX10_canScale 61 = .ok (.aload_n 0, 1) := by decide +kernel
theorem dX10_canScale_62 : decode cX10_canScale 62 = .ok (.iload_n 2, 1) := by decide +kernel
theorem dX10_canScale_63 : decode cX10_canScale 63 = .ok (.iconst 1, 1) := by decide +kernel
theorem dX10_canScale_64 : decode cX10_canScale 64 = .ok (.invokevirtual 139, 3) := by decide +kernel
theorem dX10_canScale_67 : decode cX10_canScale 67 = .ok (.ifCond .le 7, 3) := by decide +kernel
theorem dX10_canScale_70 : decode cX10_canScale 70 = .ok (.iconst 1, 1) := by decide +kernel
theorem dX10_canScale_71 : decode cX10_canScale 71 = .ok (.goto 4, 3) := by decide +kernel
theorem dX10_canScale_74 : decode cX10_canScale 74 = .ok (.iconst 0, 1) := by decide +kernel
theorem dX10_canScale_75 : decode cX10_canScale 75 = .ok (.istore_n 1, 1) := by decide +kernel
theorem dX10_canScale_76 : decode cX10_canScale 76 = .ok (.iinc 2 1, 3) := by decide +kernel
theorem dX10_canScale_79 : decode cX10_canScale 79 = .ok (.goto (-42), 3) := by decide +kernel
theorem dX10_canScale_82 : decode cX10_canScale 82 = .ok (.iload_n 1, 1) := by decide +kernel
theorem dX10_canScale_83 : decode cX10_canScale 83 = .ok (.ireturn, 1) := by decide +kernel
theorem dX10_scaledSum_0 : decode cX10_scaledSum 0 = .ok (.dconst 0, 1) := by decide +kernel
theorem dX10_scaledSum_1 : decode cX10_scaledSum 1 = .ok (.dstore_n 3, 1) := by decide +kernel
theorem dX10_scaledSum_2 : decode cX10_scaledSum 2 = .ok (.iconst 0, 1) := by decide +kernel
theorem dX10_scaledSum_3 : decode cX10_scaledSum 3 = .ok (.istore 5, 2) := by decide +kernel
theorem dX10_scaledSum_5 : decode cX10_scaledSum 5 = .ok (.iload 5, 2) := by decide +kernel
theorem dX10_scaledSum_7 : decode cX10_scaledSum 7 = .ok (.aload_n 0, 1) := by decide +kernel
theorem dX10_scaledSum_8 : decode cX10_scaledSum 8 = .ok (.getfield 7, 3) := by decide +kernel
theorem dX10_scaledSum_11 : decode cX10_scaledSum 11 = .ok (.bipush 49, 2) := by decide +kernel
theorem dX10_scaledSum_13 : decode cX10_scaledSum 13 = .ok (.iaload, 1) := by decide +kernel
theorem dX10_scaledSum_14 : decode cX10_scaledSum 14 = .ok (.if_icmp .ge 38, 3) := by decide +kernel
theorem dX10_scaledSum_17 : decode cX10_scaledSum 17 = .ok (.dload_n 3, 1) := by decide +kernel
theorem dX10_scaledSum_18 : decode cX10_scaledSum 18 = .ok (.aload_n 0, 1) := by decide +kernel
theorem dX10_scaledSum_19 : decode cX10_scaledSum 19 = .ok (.getfield 40, 3) := by decide +kernel
theorem dX10_scaledSum_22 : decode cX10_scaledSum 22 = .ok (.iload_n 2, 1) := by decide +kernel
theorem dX10_scaledSum_23 : decode cX10_scaledSum 23 = .ok (.ifCond .eq 13, 3) := by decide +kernel
theorem dX10_scaledSum_26 : decode cX10_scaledSum 26 = .ok (.bipush 7, 2) := by decide +kernel
theorem dX10_scaledSum_28 : decode cX10_scaledSum 28 = .ok (.iload 5, 2) := by decide +kernel
theorem dX10_scaledSum_30 : decode cX10_scaledSum 30 = .ok (.imul, 1) := by decide +kernel
theorem dX10_scaledSum_31 : decode cX10_scaledSum 31 = .ok (.iload_n 1, 1) := by decide +kernel
theorem dX10_scaledSum_32 : decode cX10_scaledSum 32 = .ok (.iadd, 1) := by decide +kernel
theorem dX10_scaledSum_33 : decode cX10_scaledSum 33 = .ok (.goto 10, 3) := by decide +kernel
theorem dX10_scaledSum_36 : decode cX10_scaledSum 36 = .ok (.bipush 7, 2) := by decide +kernel
theorem dX10_scaledSum_38 : decode cX10_scaledSum 38 = .ok (.iload_n 1, 1) := by decide +kernel
theorem dX10_scaledSum_39 : decode cX10_scaledSum 39 = .ok (.imul, 1) := by decide +kernel
theorem dX10_scaledSum_40 : decode cX10_scaledSum 40 = .ok (.iload 5, 2) := by decide +kernel
theorem dX10_scaledSum_42 : decode cX10_scaledSum 42 = .ok (.iadd, 1) := by decide +kernel
theorem dX10_scaledSum_43 : decode cX10_scaledSum 43 = .ok (.daload, 1) := by decide +kernel
theorem dX10_scaledSum_44 : decode cX10_scaledSum 44 = .ok (.dadd, 1) := by decide +kernel
theorem dX10_scaledSum_45 : decode cX10_scaledSum 45 = .ok (.dstore_n 3, 1) := by decide +kernel
theorem dX10_scaledSum_46 : decode cX10_scaledSum 46 = .ok (.iinc 5 1, 3) := by decide +kernel
theorem dX10_scaledSum_49 : decode cX10_scaledSum 49 = .ok (.goto (-44), 3) := by decide +kernel
theorem dX10_scaledSum_52 : decode cX10_scaledSum 52 = .ok (.dload_n 3, 1) := by decide +kernel
theorem dX10_scaledSum_53 : decode cX10_scaledSum 53 = .ok (.dreturn, 1) := by decide +kernel
set_option maxRecDepth 20000 in
theorem ggX10_sweepLine_X10_scaledSum : GoodIn wsX10_sweepLine wsX10_scaledSum := goodIn_r _ [9, 1, 2, 10, 11, 12, 13, 14, 15, 16, 17, 18, 19, 20, 21, 22, 23, 24, 25, 26, 27, 28, 29, 30] (by decide +kernel) (by decide +kernel)
set_option maxRecDepth 20000 in
theorem gX10_sweepLine_X10_scaledSum : GoodIn wsX10_sweepLine (wsV RX10 201 RX10 yX10_scaledSum wsX10_scaledSum) := goodIn_app (goodIn_of _ (by decide +kernel)) ggX10_sweepLine_X10_scaledSum
theorem dX10_sweepLine_0 : decode cX10_sweepLine 0 = .ok (.aload_n 0, 1) := by decide +kernel
theorem dX10_sweepLine_1 : decode cX10_sweepLine 1 = .ok (.iload_n 1, 1) := by decide +kernel
theorem dX10_sweepLine_2 : decode cX10_sweepLine 2 = .ok (.iload_n 2, 1) := by decide +kernel
theorem dX10_sweepLine_3 : decode cX10_sweepLine 3 = .ok (.invokevirtual 201, 3) := by decide +kernel
theorem dX10_sweepLine_6 : decode cX10_sweepLine 6 = .ok (.dstore_n 3, 1) := by decide +kernel
theorem dX10_sweepLine_7 : decode cX10_sweepLine 7 = .ok (.iconst 0, 1) := by decide +kernel
theorem dX10_sweepLine_8 : decode cX10_sweepLine 8 = .ok (.istore 5, 2) := by decide +kernel
theorem dX10_sweepLine_10 : decode cX10_sweepLine 10 = .ok (.iload 5, 2) := by decide +kernel
theorem dX10_sweepLine_12 : decode cX10_sweepLine 12 = .ok (.aload_n 0, 1) := by decide +kernel
theorem dX10_sweepLine_13 : decode cX10_sweepLine 13 = .ok (.getfield 7, 3) := by decide +kernel
theorem dX10_sweepLine_16 : decode cX10_sweepLine 16 = .ok (.bipush 49, 2) := by decide +kernel
theorem dX10_sweepLine_18 : decode cX10_sweepLine 18 = .ok (.iaload, 1) := by decide +kernel
theorem dX10_sweepLine_19 : decode cX10_sweepLine 19 = .ok (.if_icmp .ge 39, 3) := by decide +kernel
theorem dX10_sweepLine_22 : decode cX10_sweepLine 22 = .ok (.aload_n 0, 1) := by decide +kernel
theorem dX10_sweepLine_23 : decode cX10_sweepLine 23 = .ok (.getfield 40, 3) := by decide +kernel
theorem dX10_sweepLine_26 : decode cX10_sweepLine 26 = .ok (.iload_n 2, 1) := by decide +kernel
theorem dX10_sweepLine_27 : decode cX10_sweepLine 27 = .ok (.ifCond .eq 13, 3) := by decide +kernel
theorem dX10_sweepLine_30 : decode cX10_sweepLine 30 = .ok (.bipush 7, 2) := by decide +kernel
theorem dX10_sweepLine_32 : decode cX10_sweepLine 32 = .ok (.iload 5, 2) := by decide +kernel
theorem dX10_sweepLine_34 : decode cX10_sweepLine 34 = .ok (.imul, 1) := by decide +kernel
theorem dX10_sweepLine_35 : decode cX10_sweepLine 35 = .ok (.iload_n 1, 1) := by decide +kernel
theorem dX10_sweepLine_36 : decode cX10_sweepLine 36 = .ok (.iadd, 1) := by decide +kernel
theorem dX10_sweepLine_37 : decode cX10_sweepLine 37 = .ok (.goto 10, 3) := by decide +kernel
theorem dX10_sweepLine_40 : decode cX10_sweepLine 40 = .ok (.bipush 7, 2) := by decide +kernel
theorem dX10_sweepLine_42 : decode cX10_sweepLine 42 = .ok (.iload_n 1, 1) := by decide +kernel
theorem dX10_sweepLine_43 : decode cX10_sweepLine 43 = .ok (.imul, 1) := by decide +kernel
theorem dX10_sweepLine_44 : decode cX10_sweepLine 44 = .ok (.iload 5, 2) := by decide +kernel
theorem dX10_sweepLine_46 : decode cX10_sweepLine 46 = .ok (.iadd, 1) := by decide +kernel
theorem dX10_sweepLine_47 : decode cX10_sweepLine 47 = .ok (.dup2, 1) := by decide +kernel
theorem dX10_sweepLine_48 : decode cX10_sweepLine 48 = .ok (.daload, 1) := by decide +kernel
theorem dX10_sweepLine_49 : decode cX10_sweepLine 49 = .ok (.dload_n 3, 1) := by decide +kernel
theorem dX10_sweepLine_50 : decode cX10_sweepLine 50 = .ok (.ddiv, 1) := by decide +kernel
theorem dX10_sweepLine_51 : decode cX10_sweepLine 51 = .ok (.dastore, 1) := by decide +kernel
theorem dX10_sweepLine_52 : decode cX10_sweepLine 52 = .ok (.iinc 5 1, 3) := by decide +kernel
theorem dX10_sweepLine_55 : decode cX10_sweepLine 55 = .ok (.goto (-45), 3) := by decide +kernel
theorem dX10_sweepLine_58 : decode cX10_sweepLine 58 = .ok (.iload_n 2, 1) := by decide +kernel
theorem dX10_sweepLine_59 : decode cX10_sweepLine 59 = .ok (.ifCond .eq 16, 3) := by decide +kernel
theorem dX10_sweepLine_62 : decode cX10_sweepLine 62 = .ok (.aload_n 0, 1) := by decide +kernel
theorem dX10_sweepLine_63 : decode cX10_sweepLine 63 = .ok (.getfield 47, 3) := by decide +kernel
theorem dX10_sweepLine_66 : decode cX10_sweepLine 66 = .ok (.iload_n 1, 1) := by decide +kernel
theorem dX10_sweepLine_67 : decode cX10_sweepLine 67 = .ok (.dup2, 1) := by decide +kernel
theorem dX10_sweepLine_68 : decode cX10_sweepLine 68 = .ok (.daload, 1) := by decide +kernel
theorem dX10_sweepLine_69 : decode cX10_sweepLine 69 = .ok (.dload_n 3, 1) := by decide +kernel
theorem dX10_sweepLine_70 : decode cX10_sweepLine 70 = .ok (.dmul, 1) := by decide +kernel
theorem dX10_sweepLine_71 : decode cX10_sweepLine 71 = .ok (.dastore, 1) := by decide +kernel
theorem dX10_sweepLine_72 : decode cX10_sweepLine 72 = .ok (.goto 13, 3) := by decide +kernel
theorem dX10_sweepLine_75 : decode cX10_sweepLine 75 = .ok (.aload_n 0, 1) := by decide +kernel
theorem dX10_sweepLine_76 : decode cX10_sweepLine 76 = .ok (.getfield 44, 3) := by decide +kernel
theorem dX10_sweepLine_79 : decode cX10_sweepLine 79 = .ok (.iload_n 1, 1) := by decide +kernel
theorem dX10_sweepLine_80 : decode cX10_sweepLine 80 = .ok (.dup2, 1) := by decide +kernel
theorem dX10_sweepLine_81 : decode cX10_sweepLine 81 = .ok (.daload, 1) := by decide +kernel
theorem dX10_sweepLine_82 : decode cX10_sweepLine 82 = .ok (.dload_n 3, 1) := by decide +kernel
theorem dX10_sweepLine_83 : decode cX10_sweepLine 83 = .ok (.dmul, 1) := by decide +kernel
theorem dX10_sweepLine_84 : decode cX10_sweepLine 84 = .ok (.dastore, 1) := by decide +kernel
theorem dX10_sweepLine_85 : decode cX10_sweepLine 85 = .ok (.return_, 1) := by decide +kernel
set_option maxRecDepth 20000 in
theorem ggX10_sweep_X10_sweepLine : GoodIn wsX10_sweep wsX10_sweepLine := goodIn_r _ [9, 2, 1, 4, 3, 10, 11, 12, 8, 13, 14, 15, 16, 17, 18, 19, 20, 21, 22, 23, 24, 25, 26, 27, 28, 29, 30, 31, 32, 33, 34] (by decide +kernel) (by decide +kernel)
set_option maxRecDepth 20000 in
theorem gX10_sweep_X10_sweepLine : GoodIn wsX10_sweep (wsV RX10 205 RX10 yX10_sweepLine wsX10_sweepLine) := goodIn_app (goodIn_of _ (by decide +kernel)) ggX10_sweep_X10_sweepLine
theorem dX10_sweep_0 : decode cX10_sweep 0 = .ok (.iconst 0, 1) := by decide +kernel
theorem dX10_sweep_1 : decode cX10_sweep 1 = .ok (.istore_n 2, 1) := by decide +kernel
theorem dX10_sweep_2 : decode cX10_sweep 2 = .ok (.iload_n 2, 1) := by decide +kernel
theorem dX10_sweep_3 : decode cX10_sweep 3 = .ok (.bipush 49, 2) := by decide +kernel
theorem dX10_sweep_5 : decode cX10_sweep 5 = .ok (.if_icmp .ge 22, 3) := by decide +kernel
theorem dX10_sweep_8 : decode cX10_sweep 8 = .ok (.aload_n 0, 1) := by decide +kernel
theorem dX10_sweep_9 : decode cX10_sweep 9 = .ok (.getfield 40, 3) := by decide +kernel
theorem dX10_sweep_12 : decode cX10_sweep 12 = .ok (.iload_n 2, 1) := by decide +kernel
theorem dX10_sweep_13 : decode cX10_sweep 13 = .ok (.aload_n 0, 1) := by decide +kernel
theorem dX10_sweep_14 : decode cX10_sweep 14 = .ok (.getfield 7, 3) := by decide +kernel
theorem dX10_sweep_17 : decode cX10_sweep 17 = .ok (.iload_n 2, 1) := by decide +kernel
theorem dX10_sweep_18 : decode cX10_sweep 18 = .ok (.iaload, 1) := by decide +kernel
theorem dX10_sweep_19 : decode cX10_sweep 19 = .ok (.i2d, 1) := by decide +kernel
theorem dX10_sweep_20 : decode cX10_sweep 20 = .ok (.dastore, 1) := by decide +kernel
theorem dX10_sweep_21 : decode cX10_sweep 21 = .ok (.iinc 2 1, 3) := by decide +kernel
theorem dX10_sweep_24 : decode cX10_sweep 24 = .ok (.goto (-22), 3) := by decide +kernel
theorem dX10_sweep_27 : decode cX10_sweep 27 = .ok (.iconst 0, 1) := by decide +kernel
theorem dX10_sweep_28 : decode cX10_sweep 28 = .ok (.istore_n 2, 1) := by decide +kernel
theorem dX10_sweep_29 : decode cX10_sweep 29 = .ok (.iload_n 2, 1) := by decide +kernel
theorem dX10_sweep_30 : decode cX10_sweep 30 = .ok (.bipush 7, 2) := by decide +kernel
theorem dX10_sweep_32 : decode cX10_sweep 32 = .ok (.if_icmp .ge 23, 3) := by decide +kernel
theorem dX10_sweep_35 : decode cX10_sweep 35 = .ok (.aload_n 0, 1) := by decide +kernel
theorem dX10_sweep_36 : decode cX10_sweep 36 = .ok (.getfield 44, 3) := by decide +kernel
theorem dX10_sweep_39 : decode cX10_sweep 39 = .ok (.iload_n 2, 1) := by decide +kernel
theorem dX10_sweep_40 : decode cX10_sweep 40 = .ok (.dconst 1, 1) := by decide +kernel
theorem dX10_sweep_41 : decode cX10_sweep 41 = .ok (.dastore, 1) := by decide +kernel
theorem dX10_sweep_42 : decode cX10_sweep 42 = .ok (.aload_n 0, 1) := by decide +kernel
theorem dX10_sweep_43 : decode cX10_sweep 43 = .ok (.getfield 47, 3) := by decide +kernel
theorem dX10_sweep_46 : decode cX10_sweep 46 = .ok (.iload_n 2, 1) := by decide +kernel
theorem dX10_sweep_47 : decode cX10_sweep 47 = .ok (.dconst 1, 1) := by decide +kernel
theorem dX10_sweep_48 : decode cX10_sweep 48 = .ok (.dastore, 1) := by decide +kernel
theorem dX10_sweep_49 : decode cX10_sweep 49 = .ok (.iinc 2 1, 3) := by decide +kernel
theorem dX10_sweep_52 : decode cX10_sweep 52 = .ok (.goto (-23), 3) := by decide +kernel
theorem dX10_sweep_55 : decode cX10_sweep 55 = .ok (.iconst 0, 1) := by decide +kernel
theorem dX10_sweep_56 : decode cX10_sweep 56 = .ok (.istore_n 2, 1) := by decide +kernel
theorem dX10_sweep_57 : decode cX10_sweep 57 = .ok (.iload_n 2, 1) := by decide +kernel
theorem dX10_sweep_58 : decode cX10_sweep 58 = .ok (.iload_n 1, 1) := by decide +kernel
theorem dX10_sweep_59 : decode cX10_sweep 59 = .ok (.if_icmp .ge 59, 3) := by decide +kernel
theorem dX10_sweep_62 : decode cX10_sweep 62 = .ok (.iconst 0, 1) := by decide +kernel
theorem dX10_sweep_63 : decode cX10_sweep 63 = .ok (.istore_n 3, 1) := by decide +kernel
theorem dX10_sweep_64 : decode cX10_sweep 64 = .ok (.iload_n 3, 1) := by decide +kernel
theorem dX10_sweep_65 : decode cX10_sweep 65 = .ok (.aload_n 0, 1) := by decide +kernel
theorem dX10_sweep_66 : decode cX10_sweep 66 = .ok (.getfield 7, 3) := by decide +kernel
theorem dX10_sweep_69 : decode cX10_sweep 69 = .ok (.bipush 49, 2) := by decide +kernel
theorem dX10_sweep_71 : decode cX10_sweep 71 = .ok (.iaload, 1) := by decide +kernel
theorem dX10_sweep_72 : decode cX10_sweep 72 = .ok (.if_icmp .ge 15, 3) := by decide +kernel
theorem dX10_sweep_75 : decode cX10_sweep 75 = .ok (.aload_n 0, 1) := by decide +kernel
theorem dX10_sweep_76 : decode cX10_sweep 76 = .ok (.iload_n 3, 1) := by decide +kernel
theorem dX10_sweep_77 : decode cX10_sweep 77 = .ok (.iconst 0, 1) := by decide +kernel
theorem dX10_sweep_78 : decode cX10_sweep 78 = .ok (.invokevirtual 205, 3) := by decide +kernel
theorem dX10_sweep_81 : decode cX10_sweep 81 = .ok (.iinc 3 1, 3) := by decide +kernel
theorem dX10_sweep_84 : decode cX10_sweep 84 = .ok (.goto (-20), 3) := by decide +kernel
theorem dX10_sweep_87 : decode cX10_sweep 87 = .ok (.iconst 0, 1) := by decide +kernel
theorem dX10_sweep_88 : decode cX10_sweep 88 = .ok (.istore_n 3, 1) := by decide +kernel
theorem dX10_sweep_89 : decode cX10_sweep 89 = .ok (.iload_n 3, 1) := by decide +kernel
theorem dX10_sweep_90 : decode cX10_sweep 90 = .ok (.aload_n 0, 1) := by decide +kernel
theorem dX10_sweep_91 : decode cX10_sweep 91 = .ok (.getfield 7, 3) := by decide +kernel
theorem dX10_sweep_94 : decode cX10_sweep 94 = .ok (.bipush 49, 2) := by decide +kernel
theorem dX10_sweep_96 : decode cX10_sweep 96 = .ok (.iaload, 1) := by decide +kernel
theorem dX10_sweep_97 : decode cX10_sweep 97 = .ok (.if_icmp .ge 15, 3) := by decide +kernel
theorem dX10_sweep_100 : decode cX10_sweep 100 = .ok (.aload_n 0, 1) := by decide +kernel
theorem dX10_sweep_101 : decode cX10_sweep 101 = .ok (.iload_n 3, 1) := by decide +kernel
theorem dX10_sweep_102 : decode cX10_sweep 102 = .ok (.iconst 1, 1) := by decide +kernel
theorem dX10_sweep_103 : decode cX10_sweep 103 = .ok (.invokevirtual 205, 3) := by decide +kernel
theorem dX10_sweep_106 : decode cX10_sweep 106 = .ok (.iinc 3 1, 3) := by decide +kernel
theorem dX10_sweep_109 : decode cX10_sweep 109 = .ok (.goto (-20), 3) := by decide +kernel
theorem dX10_sweep_112 : decode cX10_sweep 112 = .ok (.iinc 2 1, 3) := by decide +kernel
theorem dX10_sweep_115 : decode cX10_sweep 115 = .ok (.goto (-58), 3) := by decide +kernel
theorem dX10_sweep_118 : decode cX10_sweep 118 = .ok (.return_, 1) := by decide +kernel
set_option maxRecDepth 20000 in
theorem ggX10_isSweeps_X10_in : GoodIn wsX10_isSweeps wsX10_in := goodIn_r _ [4] (by decide +kernel) (by decide +kernel)
set_option maxRecDepth 20000 in
theorem gX10_isSweeps_X10_in : GoodIn wsX10_isSweeps (va_wsS RX10 59 yX10_in wsX10_in) := goodIn_app (goodIn_of _ (by decide +kernel)) ggX10_isSweeps_X10_in
theorem dX10_isSweeps_0 : decode cX10_isSweeps 0 = .ok (.iload_n 0, 1) := by decide +kernel
theorem dX10_isSweeps_1 : decode cX10_isSweeps 1 = .ok (.iconst 0, 1) := by decide +kernel
theorem dX10_isSweeps_2 : decode cX10_isSweeps 2 = .ok (.bipush 50, 2) := by decide +kernel
theorem dX10_isSweeps_4 : decode cX10_isSweeps 4 = .ok (.invokestatic 59, 3) := by decide +kernel
theorem dX10_isSweeps_7 : decode cX10_isSweeps 7 = .ok (.ireturn, 1) := by decide +kernel
set_option maxRecDepth 20000 in
theorem ggX10_scaledBits_X10_isLine : GoodIn wsX10_scaledBits wsX10_isLine := goodIn_r _ [9, 10, 11, 12, 8, 13, 55, 56, 57, 58, 59, 60, 61, 62, 63, 64, 65, 66, 67, 68, 69, 70, 71, 72, 73, 74, 75] (by decide +kernel) (by decide +kernel)
set_option maxRecDepth 20000 in
theorem gX10_scaledBits_X10_isLine : GoodIn wsX10_scaledBits (wsV RX10 88 RX10 yX10_isLine wsX10_isLine) := goodIn_app (goodIn_of _ (by decide +kernel)) ggX10_scaledBits_X10_isLine
set_option maxRecDepth 20000 in
theorem ggX10_scaledBits_X10_isSweeps : GoodIn wsX10_scaledBits wsX10_isSweeps := goodIn_r _ [16, 11, 12, 8, 13] (by decide +kernel) (by decide +kernel)
set_option maxRecDepth 20000 in
theorem gX10_scaledBits_X10_isSweeps : GoodIn wsX10_scaledBits (va_wsS RX10 209 yX10_isSweeps wsX10_isSweeps) := goodIn_app (goodIn_of _ (by decide +kernel)) ggX10_scaledBits_X10_isSweeps
set_option maxRecDepth 20000 in
theorem ggX10_scaledBits_X10_canScale : GoodIn wsX10_scaledBits wsX10_canScale := goodIn_r _ [20, 10, 21, 22, 23, 8, 24, 25, 26, 27, 28, 55, 56, 57, 58, 59, 60, 61, 62, 63, 64, 65, 66, 67, 68, 69, 70, 71, 72, 73, 74, 75] (by decide +kernel) (by decide +kernel)
set_option maxRecDepth 20000 in
theorem gX10_scaledBits_X10_canScale : GoodIn wsX10_scaledBits (wsV RX10 212 RX10 yX10_canScale wsX10_canScale) := goodIn_app (goodIn_of _ (by decide +kernel)) ggX10_scaledBits_X10_canScale
set_option maxRecDepth 20000 in
theorem ggX10_scaledBits_X10_sweep : GoodIn wsX10_scaledBits wsX10_sweep := goodIn_r _ [32, 4, 10, 33, 34, 35, 36, 37, 8, 38, 39, 40, 41, 42, 55, 56, 57, 58, 59, 60, 61, 62, 63, 64, 65, 66, 67, 68, 69, 70, 71, 72, 73, 74, 75] (by decide +kernel) (by decide +kernel)
set_option maxRecDepth 20000 in
theorem gX10_scaledBits_X10_sweep : GoodIn wsX10_scaledBits (wsV RX10 215 RX10 yX10_sweep wsX10_sweep) := goodIn_app (goodIn_of _ (by decide +kernel)) ggX10_scaledBits_X10_sweep
set_option maxRecDepth 20000 in
theorem ggX10_scaledBits_Jxe99ae_doubleToLongBits_ccdee : GoodIn wsX10_scaledBits wsJxe99ae_doubleToLongBits_ccdee := goodIn_r _ [46, 47, 48, 49, 50, 51, 52, 53, 45, 54] (by decide +kernel) (by decide +kernel)
set_option maxRecDepth 20000 in
theorem gX10_scaledBits_Jxe99ae_doubleToLongBits_ccdee : GoodIn wsX10_scaledBits (va_wsS RX10 218 yJxe99ae_doubleToLongBits_ccdee wsJxe99ae_doubleToLongBits_ccdee) := goodIn_app (goodIn_of _ (by decide +kernel)) ggX10_scaledBits_Jxe99ae_doubleToLongBits_ccdee
theorem dX10_scaledBits_0 : decode cX10_scaledBits 0 = .ok (.aload_n 0, 1) := by decide +kernel
theorem dX10_scaledBits_1 : decode cX10_scaledBits 1 = .ok (.iload_n 1, 1) := by decide +kernel
theorem dX10_scaledBits_2 : decode cX10_scaledBits 2 = .ok (.invokevirtual 88, 3) := by decide +kernel
theorem dX10_scaledBits_5 : decode cX10_scaledBits 5 = .ok (.ifCond .eq 11, 3) := by decide +kernel
theorem dX10_scaledBits_8 : decode cX10_scaledBits 8 = .ok (.aload_n 0, 1) := by decide +kernel
theorem dX10_scaledBits_9 : decode cX10_scaledBits 9 = .ok (.iload_n 2, 1) := by decide +kernel
theorem dX10_scaledBits_10 : decode cX10_scaledBits 10 = .ok (.invokevirtual 88, 3) := by decide +kernel
theorem dX10_scaledBits_13 : decode cX10_scaledBits 13 = .ok (.ifCond .ne 7, 3) := by decide +kernel
theorem dX10_scaledBits_16 : decode cX10_scaledBits 16 = .ok (.ldc2_w 177, 3) := by decide +kernel
theorem dX10_scaledBits_19 : decode cX10_scaledBits 19 = .ok (.lreturn, 1) := by decide +kernel
theorem dX10_scaledBits_20 : decode cX10_scaledBits 20 = .ok (.iload_n 3, 1) := by decide +kernel
theorem dX10_scaledBits_21 : decode cX10_scaledBits 21 = .ok (.invokestatic 209, 3) := by decide +kernel
theorem dX10_scaledBits_24 : decode cX10_scaledBits 24 = .ok (.ifCond .eq 10, 3) := by decide +kernel
theorem dX10_scaledBits_27 : decode cX10_scaledBits 27 = .ok (.aload_n 0, 1) := by decide +kernel
theorem dX10_scaledBits_28 : decode cX10_scaledBits 28 = .ok (.invokevirtual 212, 3) := by decide +kernel
theorem dX10_scaledBits_31 : decode cX10_scaledBits 31 = .ok (.ifCond .ne 20, 3) := by decide +kernel
theorem dX10_scaledBits_34 : decode cX10_scaledBits 34 = .ok (.iload_n 3, 1) := by decide +kernel
theorem dX10_scaledBits_35 : decode cX10_scaledBits 35 = .ok (.invokestatic 209, 3) := by decide +kernel
theorem dX10_scaledBits_38 : decode cX10_scaledBits 38 = .ok (.ifCond .eq 9, 3) := by decide +kernel
theorem dX10_scaledBits_41 : decode cX10_scaledBits 41 = .ok (.ldc2_w 183, 3) := by decide +kernel
theorem dX10_scaledBits_44 : decode cX10_scaledBits 44 = .ok (.goto 6, 3) := by decide +kernel
theorem dX10_scaledBits_47 : decode cX10_scaledBits 47 = .ok (.ldc2_w 189, 3) := by decide +kernel
theorem dX10_scaledBits_50 : decode cX10_scaledBits 50 = .ok (.lreturn, 1) := by decide +kernel
theorem dX10_scaledBits_51 : decode cX10_scaledBits 51 = .ok (.aload_n 0, 1) := by decide +kernel
theorem dX10_scaledBits_52 : decode cX10_scaledBits 52 = .ok (.iload_n 3, 1) := by decide +kernel
theorem dX10_scaledBits_53 : decode cX10_scaledBits 53 = .ok (.invokevirtual 215, 3) := by decide +kernel
theorem dX10_scaledBits_56 : decode cX10_scaledBits 56 = .ok (.aload_n 0, 1) := by decide +kernel
theorem dX10_scaledBits_57 : decode cX10_scaledBits 57 = .ok (.getfield 40, 3) := by decide +kernel
theorem dX10_scaledBits_60 : decode cX10_scaledBits 60 = .ok (.bipush 7, 2) := by decide +kernel
theorem dX10_scaledBits_62 : decode cX10_scaledBits 62 = .ok (.iload_n 1, 1) := by decide +kernel
theorem dX10_scaledBits_63 : decode cX10_scaledBits 63 = .ok (.imul, 1) := by decide +kernel
theorem dX10_scaledBits_64 : decode cX10_scaledBits 64 = .ok (.iload_n 2, 1) := by decide +kernel
theorem dX10_scaledBits_65 : decode cX10_scaledBits 65 = .ok (.iadd, 1) := by decide +kernel
theorem dX10_scaledBits_66 : decode cX10_scaledBits 66 = .ok (.daload, 1) := by decide +kernel
theorem dX10_scaledBits_67 : decode cX10_scaledBits 67 = .ok (.invokestatic 218, 3) := by decide +kernel
theorem dX10_scaledBits_70 : decode cX10_scaledBits 70 = .ok (.lreturn, 1) := by decide +kernel
set_option maxRecDepth 20000 in
theorem ggX10_gapBits_X10_isSweeps : GoodIn wsX10_gapBits wsX10_isSweeps := goodIn_r _ [7, 8, 9, 6, 10] (by decide +kernel) (by decide +kernel)
set_option maxRecDepth 20000 in
theorem gX10_gapBits_X10_isSweeps : GoodIn wsX10_gapBits (va_wsS RX10 209 yX10_isSweeps wsX10_isSweeps) := goodIn_app (goodIn_of _ (by decide +kernel)) ggX10_gapBits_X10_isSweeps
set_option maxRecDepth 20000 in
theorem ggX10_gapBits_X10_canScale : GoodIn wsX10_gapBits wsX10_canScale := goodIn_r _ [14, 3, 15, 16, 17, 6, 18, 19, 20, 21, 22, 50, 51, 52, 53, 54, 55, 56, 57, 58, 59, 60, 61, 62, 63, 64, 65, 66, 67, 68, 69, 70] (by decide +kernel) (by decide +kernel)
set_option maxRecDepth 20000 in
theorem gX10_gapBits_X10_canScale : GoodIn wsX10_gapBits (wsV RX10 212 RX10 yX10_canScale wsX10_canScale) := goodIn_app (goodIn_of _ (by decide +kernel)) ggX10_gapBits_X10_canScale
set_option maxRecDepth 20000 in
theorem ggX10_gapBits_X10_sweep : GoodIn wsX10_gapBits wsX10_sweep := goodIn_r _ [26, 27, 3, 28, 29, 30, 31, 32, 6, 33, 34, 35, 36, 37, 50, 51, 52, 53, 54, 55, 56, 57, 58, 59, 60, 61, 62, 63, 64, 65, 66, 67, 68, 69, 70] (by decide +kernel) (by decide +kernel)
set_option maxRecDepth 20000 in
theorem gX10_gapBits_X10_sweep : GoodIn wsX10_gapBits (wsV RX10 215 RX10 yX10_sweep wsX10_sweep) := goodIn_app (goodIn_of _ (by decide +kernel)) ggX10_gapBits_X10_sweep
set_option maxRecDepth 20000 in
theorem ggX10_gapBits_X10_scaledSum : GoodIn wsX10_gapBits wsX10_scaledSum := goodIn_r _ [37, 3, 27, 50, 51, 52, 53, 54, 55, 56, 57, 58, 59, 60, 61, 62, 63, 64, 65, 66, 67, 68, 69, 70] (by decide +kernel) (by decide +kernel)
set_option maxRecDepth 20000 in
theorem gX10_gapBits_X10_scaledSum : GoodIn wsX10_gapBits (wsV RX10 201 RX10 yX10_scaledSum wsX10_scaledSum) := goodIn_app (goodIn_of _ (by decide +kernel)) ggX10_gapBits_X10_scaledSum
set_option maxRecDepth 20000 in
theorem ggX10_gapBits_Jxe99ae_doubleToLongBits_ccdee : GoodIn wsX10_gapBits wsJxe99ae_doubleToLongBits_ccdee := goodIn_r _ [41, 42, 43, 44, 45, 46, 47, 48, 40, 49] (by decide +kernel) (by decide +kernel)
set_option maxRecDepth 20000 in
theorem gX10_gapBits_Jxe99ae_doubleToLongBits_ccdee : GoodIn wsX10_gapBits (va_wsS RX10 218 yJxe99ae_doubleToLongBits_ccdee wsJxe99ae_doubleToLongBits_ccdee) := goodIn_app (goodIn_of _ (by decide +kernel)) ggX10_gapBits_Jxe99ae_doubleToLongBits_ccdee
theorem dX10_gapBits_0 : decode cX10_gapBits 0 = .ok (.iload_n 1, 1) := by decide +kernel
theorem dX10_gapBits_1 : decode cX10_gapBits 1 = .ok (.invokestatic 209, 3) := by decide +kernel
theorem dX10_gapBits_4 : decode cX10_gapBits 4 = .ok (.ifCond .eq 10, 3) := by decide +kernel
theorem dX10_gapBits_7 : decode cX10_gapBits 7 = .ok (.aload_n 0, 1) := by decide +kernel
theorem dX10_gapBits_8 : decode cX10_gapBits 8 = .ok (.invokevirtual 212, 3) := by decide +kernel
theorem dX10_gapBits_11 : decode cX10_gapBits 11 = .ok (.ifCond .ne 20, 3) := by decide +kernel
theorem dX10_gapBits_14 : decode cX10_gapBits 14 = .ok (.iload_n 1, 1) := by decide +kernel
theorem dX10_gapBits_15 : decode cX10_gapBits 15 = .ok (.invokestatic 209, 3) := by decide +kernel
theorem dX10_gapBits_18 : decode cX10_gapBits 18 = .ok (.ifCond .eq 9, 3) := by decide +kernel
theorem dX10_gapBits_21 : decode cX10_gapBits 21 = .ok (.ldc2_w 183, 3) := by decide +kernel
theorem dX10_gapBits_24 : decode cX10_gapBits 24 = .ok (.goto 6, 3) := by decide +kernel
theorem dX10_gapBits_27 : decode cX10_gapBits 27 = .ok (.ldc2_w 189, 3) := by decide +kernel
theorem dX10_gapBits_30 : decode cX10_gapBits 30 = .ok (.lreturn, 1) := by decide +kernel
theorem dX10_gapBits_31 : decode cX10_gapBits 31 = .ok (.aload_n 0, 1) := by decide +kernel
theorem dX10_gapBits_32 : decode cX10_gapBits 32 = .ok (.iload_n 1, 1) := by decide +kernel
theorem dX10_gapBits_33 : decode cX10_gapBits 33 = .ok (.invokevirtual 215, 3) := by decide +kernel
theorem dX10_gapBits_36 : decode cX10_gapBits 36 = .ok (.dconst 0, 1) := by decide +kernel
theorem dX10_gapBits_37 : decode cX10_gapBits 37 = .ok (.dstore_n 2, 1) := by decide +kernel
theorem dX10_gapBits_38 : decode cX10_gapBits 38 = .ok (.iconst 0, 1) := by decide +kernel
theorem dX10_gapBits_39 : decode cX10_gapBits 39 = .ok (.istore 4, 2) := by decide +kernel
theorem dX10_gapBits_41 : decode cX10_gapBits 41 = .ok (.iload 4, 2) := by decide +kernel
theorem dX10_gapBits_43 : decode cX10_gapBits 43 = .ok (.aload_n 0, 1) := by decide +kernel
theorem dX10_gapBits_44 : decode cX10_gapBits 44 = .ok (.getfield 7, 3) := by decide +kernel
theorem dX10_gapBits_47 : decode cX10_gapBits 47 = .ok (.bipush 49, 2) := by decide +kernel
theorem dX10_gapBits_49 : decode cX10_gapBits 49 = .ok (.iaload, 1) := by decide +kernel
theorem dX10_gapBits_50 : decode cX10_gapBits 50 = .ok (.if_icmp .ge 51, 3) := by decide +kernel
theorem dX10_gapBits_53 : decode cX10_gapBits 53 = .ok (.aload_n 0, 1) := by decide +kernel
theorem dX10_gapBits_54 : decode cX10_gapBits 54 = .ok (.iload 4, 2) := by decide +kernel
theorem dX10_gapBits_56 : decode cX10_gapBits 56 = .ok (.iconst 0, 1) := by decide +kernel
theorem dX10_gapBits_57 : decode cX10_gapBits 57 = .ok (.invokevirtual 201, 3) := by decide +kernel
theorem dX10_gapBits_60 : decode cX10_gapBits 60 = .ok (.dconst 1, 1) := by decide +kernel
theorem dX10_gapBits_61 : decode cX10_gapBits 61 = .ok (.dsub, 1) := by decide +kernel
theorem dX10_gapBits_62 : decode cX10_gapBits 62 = .ok (.dstore 5, 2) := by decide +kernel
theorem dX10_gapBits_64 : decode cX10_gapBits 64 = .ok (.dload 5, 2) := by decide +kernel
theorem dX10_gapBits_66 : decode cX10_gapBits 66 = .ok (.dconst 0, 1) := by decide +kernel
theorem dX10_gapBits_67 : decode cX10_gapBits 67 = .ok (.dcmp .g, 1) := by decide +kernel
theorem dX10_gapBits_68 : decode cX10_gapBits 68 = .ok (.ifCond .ge 9, 3) := by decide +kernel
theorem dX10_gapBits_71 : decode cX10_gapBits 71 = .ok (.dload 5, 2) := by decide +kernel
theorem dX10_gapBits_73 : decode cX10_gapBits 73 = .ok (.dneg, 1) := by decide +kernel
theorem dX10_gapBits_74 : decode cX10_gapBits 74 = .ok (.goto 5, 3) := by decide +kernel
theorem dX10_gapBits_77 : decode cX10_gapBits 77 = .ok (.dload 5, 2) := by decide +kernel
theorem dX10_gapBits_79 : decode cX10_gapBits 79 = .ok (.dstore 5, 2) := by decide +kernel
theorem dX10_gapBits_81 : decode cX10_gapBits 81 = .ok (.dload 5, 2) := by decide +kernel
theorem dX10_gapBits_83 : decode cX10_gapBits 83 = .ok (.dload_n 2, 1) := by decide +kernel
theorem dX10_gapBits_84 : decode cX10_gapBits 84 = .ok (.dcmp .l, 1) := by decide +kernel
theorem dX10_gapBits_85 : decode cX10_gapBits 85 = .ok (.ifCond .le 8, 3) := by decide +kernel
theorem dX10_gapBits_88 : decode cX10_gapBits 88 = .ok (.dload 5, 2) := by decide +kernel
theorem dX10_gapBits_90 : decode cX10_gapBits 90 = .ok (.goto 4, 3) := by decide +kernel
theorem dX10_gapBits_93 : decode cX10_gapBits 93 = .ok (.dload_n 2, 1) := by decide +kernel
theorem dX10_gapBits_94 : decode cX10_gapBits 94 = .ok (.dstore_n 2, 1) := by decide +kernel
theorem dX10_gapBits_95 : decode cX10_gapBits 95 = .ok (.iinc 4 1, 3) := by decide +kernel
theorem dX10_gapBits_98 : decode cX10_gapBits 98 = .ok (.goto (-57), 3) := by decide +kernel
theorem dX10_gapBits_101 : decode cX10_gapBits 101 = .ok (.dload_n 2, 1) := by decide +kernel
theorem dX10_gapBits_102 : decode cX10_gapBits 102 = .ok (.invokestatic 218, 3) := by decide +kernel
theorem dX10_gapBits_105 : decode cX10_gapBits 105 = .ok (.lreturn, 1) := by decide +kernel
set_option maxRecDepth 20000 in
theorem ggX10_boundBits_X10_isSweeps : GoodIn wsX10_boundBits wsX10_isSweeps := goodIn_r _ [9, 10, 11, 8, 12] (by decide +kernel) (by decide +kernel)
set_option maxRecDepth 20000 in
theorem gX10_boundBits_X10_isSweeps : GoodIn wsX10_boundBits (va_wsS RX10 209 yX10_isSweeps wsX10_isSweeps) := goodIn_app (goodIn_of _ (by decide +kernel)) ggX10_boundBits_X10_isSweeps
set_option maxRecDepth 20000 in
theorem ggX10_boundBits_X10_canScale : GoodIn wsX10_boundBits wsX10_canScale := goodIn_r _ [16, 3, 17, 18, 19, 8, 20, 21, 22, 23, 24, 50, 51, 52, 53, 54, 55, 56, 57, 58, 59, 60, 61, 62, 63, 64, 65, 66, 67, 68, 69, 70] (by decide +kernel) (by decide +kernel)
set_option maxRecDepth 20000 in
theorem gX10_boundBits_X10_canScale : GoodIn wsX10_boundBits (wsV RX10 212 RX10 yX10_canScale wsX10_canScale) := goodIn_app (goodIn_of _ (by decide +kernel)) ggX10_boundBits_X10_canScale
set_option maxRecDepth 20000 in
theorem ggX10_boundBits_X10_sweep : GoodIn wsX10_boundBits wsX10_sweep := goodIn_r _ [28, 29, 3, 4, 5, 30, 31, 32, 8, 33, 34, 35, 36, 37, 50, 51, 52, 53, 54, 55, 56, 57, 58, 59, 60, 61, 62, 63, 64, 65, 66, 67, 68, 69, 70] (by decide +kernel) (by decide +kernel)
set_option maxRecDepth 20000 in
theorem gX10_boundBits_X10_sweep : GoodIn wsX10_boundBits (wsV RX10 215 RX10 yX10_sweep wsX10_sweep) := goodIn_app (goodIn_of _ (by decide +kernel)) ggX10_boundBits_X10_sweep
set_option maxRecDepth 20000 in
theorem ggX10_boundBits_Jxe99ae_doubleToLongBits_ccdee : GoodIn wsX10_boundBits wsJxe99ae_doubleToLongBits_ccdee := goodIn_r _ [41, 42, 43, 44, 45, 46, 47, 48, 40, 49] (by decide +kernel) (by decide +kernel)
set_option maxRecDepth 20000 in
theorem gX10_boundBits_Jxe99ae_doubleToLongBits_ccdee : GoodIn wsX10_boundBits (va_wsS RX10 218 yJxe99ae_doubleToLongBits_ccdee wsJxe99ae_doubleToLongBits_ccdee) := goodIn_app (goodIn_of _ (by decide +kernel)) ggX10_boundBits_Jxe99ae_doubleToLongBits_ccdee
theorem dX10_boundBits_0 : decode cX10_boundBits 0 = .ok (.iload_n 1, 1) := by decide +kernel
theorem dX10_boundBits_1 : decode cX10_boundBits 1 = .ok (.invokestatic 209, 3) := by decide +kernel
theorem dX10_boundBits_4 : decode cX10_boundBits 4 = .ok (.ifCond .eq 10, 3) := by decide +kernel
theorem dX10_boundBits_7 : decode cX10_boundBits 7 = .ok (.aload_n 0, 1) := by decide +kernel
theorem dX10_boundBits_8 : decode cX10_boundBits 8 = .ok (.invokevirtual 212, 3) := by decide +kernel
theorem dX10_boundBits_11 : decode cX10_boundBits 11 = .ok (.ifCond .ne 20, 3) := by decide +kernel
theorem dX10_boundBits_14 : decode cX10_boundBits 14 = .ok (.iload_n 1, 1) := by decide +kernel
theorem dX10_boundBits_15 : decode cX10_boundBits 15 = .ok (.invokestatic 209, 3) := by decide +kernel
theorem dX10_boundBits_18 : decode cX10_boundBits 18 = .ok (.ifCond .eq 9, 3) := by decide +kernel
theorem dX10_boundBits_21 : decode cX10_boundBits 21 = .ok (.ldc2_w 183, 3) := by decide +kernel
theorem dX10_boundBits_24 : decode cX10_boundBits 24 = .ok (.goto 6, 3) := by decide +kernel
theorem dX10_boundBits_27 : decode cX10_boundBits 27 = .ok (.ldc2_w 189, 3) := by decide +kernel
theorem dX10_boundBits_30 : decode cX10_boundBits 30 = .ok (.lreturn, 1) := by decide +kernel
theorem dX10_boundBits_31 : decode cX10_boundBits 31 = .ok (.aload_n 0, 1) := by decide +kernel
theorem dX10_boundBits_32 : decode cX10_boundBits 32 = .ok (.iload_n 1, 1) := by decide +kernel
theorem dX10_boundBits_33 : decode cX10_boundBits 33 = .ok (.invokevirtual 215, 3) := by decide +kernel
theorem dX10_boundBits_36 : decode cX10_boundBits 36 = .ok (.dconst 1, 1) := by decide +kernel
theorem dX10_boundBits_37 : decode cX10_boundBits 37 = .ok (.dstore_n 2, 1) := by decide +kernel
theorem dX10_boundBits_38 : decode cX10_boundBits 38 = .ok (.iconst 1, 1) := by decide +kernel
theorem dX10_boundBits_39 : decode cX10_boundBits 39 = .ok (.istore 4, 2) := by decide +kernel
theorem dX10_boundBits_41 : decode cX10_boundBits 41 = .ok (.iload 4, 2) := by decide +kernel
theorem dX10_boundBits_43 : decode cX10_boundBits 43 = .ok (.aload_n 0, 1) := by decide +kernel
theorem dX10_boundBits_44 : decode cX10_boundBits 44 = .ok (.getfield 7, 3) := by decide +kernel
theorem dX10_boundBits_47 : decode cX10_boundBits 47 = .ok (.bipush 49, 2) := by decide +kernel
theorem dX10_boundBits_49 : decode cX10_boundBits 49 = .ok (.iaload, 1) := by decide +kernel
theorem dX10_boundBits_50 : decode cX10_boundBits 50 = .ok (.if_icmp .gt 26, 3) := by decide +kernel
theorem dX10_boundBits_53 : decode cX10_boundBits 53 = .ok (.dload_n 2, 1) := by decide +kernel
theorem dX10_boundBits_54 : decode cX10_boundBits 54 = .ok (.iload 4, 2) := by decide +kernel
theorem dX10_boundBits_56 : decode cX10_boundBits 56 = .ok (.i2d, 1) := by decide +kernel
theorem dX10_boundBits_57 : decode cX10_boundBits 57 = .ok (.dmul, 1) := by decide +kernel
theorem dX10_boundBits_58 : decode cX10_boundBits 58 = .ok (.dstore_n 2, 1) := by decide +kernel
theorem dX10_boundBits_59 : decode cX10_boundBits 59 = .ok (.dload_n 2, 1) := by decide +kernel
theorem dX10_boundBits_60 : decode cX10_boundBits 60 = .ok (.aload_n 0, 1) := by decide +kernel
theorem dX10_boundBits_61 : decode cX10_boundBits 61 = .ok (.getfield 7, 3) := by decide +kernel
theorem dX10_boundBits_64 : decode cX10_boundBits 64 = .ok (.bipush 49, 2) := by decide +kernel
theorem dX10_boundBits_66 : decode cX10_boundBits 66 = .ok (.iaload, 1) := by decide +kernel
theorem dX10_boundBits_67 : decode cX10_boundBits 67 = .ok (.i2d, 1) := by decide +kernel
theorem dX10_boundBits_68 : decode cX10_boundBits 68 = .ok (.ddiv, 1) := by decide +kernel
theorem dX10_boundBits_69 : decode cX10_boundBits 69 = .ok (.dstore_n 2, 1) := by decide +kernel
theorem dX10_boundBits_70 : decode cX10_boundBits 70 = .ok (.iinc 4 1, 3) := by decide +kernel
theorem dX10_boundBits_73 : decode cX10_boundBits 73 = .ok (.goto (-32), 3) := by decide +kernel
theorem dX10_boundBits_76 : decode cX10_boundBits 76 = .ok (.iconst 0, 1) := by decide +kernel
theorem dX10_boundBits_77 : decode cX10_boundBits 77 = .ok (.istore 4, 2) := by decide +kernel
theorem dX10_boundBits_79 : decode cX10_boundBits 79 = .ok (.iload 4, 2) := by decide +kernel
theorem dX10_boundBits_81 : decode cX10_boundBits 81 = .ok (.aload_n 0, 1) := by decide +kernel
theorem dX10_boundBits_82 : decode cX10_boundBits 82 = .ok (.getfield 7, 3) := by decide +kernel
theorem dX10_boundBits_85 : decode cX10_boundBits 85 = .ok (.bipush 49, 2) := by decide +kernel
theorem dX10_boundBits_87 : decode cX10_boundBits 87 = .ok (.iaload, 1) := by decide +kernel
theorem dX10_boundBits_88 : decode cX10_boundBits 88 = .ok (.if_icmp .ge 19, 3) := by decide +kernel
theorem dX10_boundBits_91 : decode cX10_boundBits 91 = .ok (.dload_n 2, 1) := by decide +kernel
theorem dX10_boundBits_92 : decode cX10_boundBits 92 = .ok (.aload_n 0, 1) := by decide +kernel
theorem dX10_boundBits_93 : decode cX10_boundBits 93 = .ok (.getfield 44, 3) := by decide +kernel
theorem dX10_boundBits_96 : decode cX10_boundBits 96 = .ok (.iload 4, 2) := by decide +kernel
theorem dX10_boundBits_98 : decode cX10_boundBits 98 = .ok (.daload, 1) := by decide +kernel
theorem dX10_boundBits_99 : decode cX10_boundBits 99 = .ok (.dmul, 1) := by decide +kernel
theorem dX10_boundBits_100 : decode cX10_boundBits 100 = .ok (.dstore_n 2, 1) := by decide +kernel
theorem dX10_boundBits_101 : decode cX10_boundBits 101 = .ok (.iinc 4 1, 3) := by decide +kernel
theorem dX10_boundBits_104 : decode cX10_boundBits 104 = .ok (.goto (-25), 3) := by decide +kernel
theorem dX10_boundBits_107 : decode cX10_boundBits 107 = .ok (.iconst 0, 1) := by decide +kernel
theorem dX10_boundBits_108 : decode cX10_boundBits 108 = .ok (.istore 4, 2) := by decide +kernel
theorem dX10_boundBits_110 : decode cX10_boundBits 110 = .ok (.iload 4, 2) := by decide +kernel
theorem dX10_boundBits_112 : decode cX10_boundBits 112 = .ok (.aload_n 0, 1) := by decide +kernel
theorem dX10_boundBits_113 : decode cX10_boundBits 113 = .ok (.getfield 7, 3) := by decide +kernel
theorem dX10_boundBits_116 : decode cX10_boundBits 116 = .ok (.bipush 49, 2) := by decide +kernel
theorem dX10_boundBits_118 : decode cX10_boundBits 118 = .ok (.iaload, 1) := by decide +kernel
theorem dX10_boundBits_119 : decode cX10_boundBits 119 = .ok (.if_icmp .ge 19, 3) := by decide +kernel
theorem dX10_boundBits_122 : decode cX10_boundBits 122 = .ok (.dload_n 2, 1) := by decide +kernel
theorem dX10_boundBits_123 : decode cX10_boundBits 123 = .ok (.aload_n 0, 1) := by decide +kernel
theorem dX10_boundBits_124 : decode cX10_boundBits 124 = .ok (.getfield 47, 3) := by decide +kernel
theorem dX10_boundBits_127 : decode cX10_boundBits 127 = .ok (.iload 4, 2) := by decide +kernel
theorem dX10_boundBits_129 : decode cX10_boundBits 129 = .ok (.daload, 1) := by decide +kernel
theorem dX10_boundBits_130 : decode cX10_boundBits 130 = .ok (.dmul, 1) := by decide +kernel
theorem dX10_boundBits_131 : decode cX10_boundBits 131 = .ok (.dstore_n 2, 1) := by decide +kernel
theorem dX10_boundBits_132 : decode cX10_boundBits 132 = .ok (.iinc 4 1, 3) := by decide +kernel
theorem dX10_boundBits_135 : decode cX10_boundBits 135 = .ok (.goto (-25), 3) := by decide +kernel
theorem dX10_boundBits_138 : decode cX10_boundBits 138 = .ok (.dload_n 2, 1) := by decide +kernel
theorem dX10_boundBits_139 : decode cX10_boundBits 139 = .ok (.invokestatic 218, 3) := by decide +kernel
theorem dX10_boundBits_142 : decode cX10_boundBits 142 = .ok (.lreturn, 1) := by decide +kernel
set_option maxRecDepth 20000 in
theorem ggX10_canApart_X10_areSumsLike : GoodIn wsX10_canApart wsX10_areSumsLike := goodIn_r _ [6, 1, 7, 8, 9, 5, 10, 11, 12, 13, 14, 15, 16, 17, 18, 19, 20, 21, 22, 23, 24, 25, 26, 27, 28, 29, 30, 31, 32, 33, 34, 35] (by decide +kernel) (by decide +kernel)
set_option maxRecDepth 20000 in
theorem gX10_canApart_X10_areSumsLike : GoodIn wsX10_canApart (wsV RX10 150 RX10 yX10_areSumsLike wsX10_areSumsLike) := goodIn_app (goodIn_of _ (by decide +kernel)) ggX10_canApart_X10_areSumsLike
set_option maxRecDepth 20000 in
theorem ggX10_canApart_X10_sumOfLine : GoodIn wsX10_canApart wsX10_sumOfLine := goodIn_r _ [10, 1, 11, 12, 13, 5, 14, 15, 16, 17, 18, 19, 20, 21, 22, 23, 24, 25, 26, 27, 28, 29, 30, 31, 32, 33, 34, 35] (by decide +kernel) (by decide +kernel)
set_option maxRecDepth 20000 in
theorem gX10_canApart_X10_sumOfLine : GoodIn wsX10_canApart (wsV RX10 139 RX10 yX10_sumOfLine wsX10_sumOfLine) := goodIn_app (goodIn_of _ (by decide +kernel)) ggX10_canApart_X10_sumOfLine
theorem dX10_canApart_0 : decode cX10_canApart 0 = .ok (.aload_n 0, 1) := by decide +kernel
theorem dX10_canApart_1 : decode cX10_canApart 1 = .ok (.invokevirtual 150, 3) := by decide +kernel
theorem dX10_canApart_4 : decode cX10_canApart 4 = .ok (.ifCond .eq 17, 3) := by decide +kernel
theorem dX10_canApart_7 : decode cX10_canApart 7 = .ok (.aload_n 0, 1) := by decide +kernel
theorem dX10_canApart_8 : decode cX10_canApart 8 = .ok (.iconst 0, 1) := by decide +kernel
theorem dX10_canApart_9 : decode cX10_canApart 9 = .ok (.iconst 0, 1) := by decide +kernel
theorem dX10_canApart_10 : decode cX10_canApart 10 = .ok (.invokevirtual 139, 3) := by decide +kernel
theorem dX10_canApart_13 : decode cX10_canApart 13 = .ok (.iconst 1, 1) := by decide +kernel
theorem dX10_canApart_14 : decode cX10_canApart 14 = .ok (.if_icmp .lt 7, 3) := by decide +kernel
theorem dX10_canApart_17 : decode cX10_canApart 17 = .ok (.iconst 1, 1) := by decide +kernel
theorem dX10_canApart_18 : decode cX10_canApart 18 = .ok (.goto 4, 3) := by decide +kernel
theorem dX10_canApart_21 : decode cX10_canApart 21 = .ok (.iconst 0, 1) := by decide +kernel
theorem dX10_canApart_22 : decode cX10_canApart 22 = .ok (.istore_n 1, 1) := by decide +kernel
theorem dX10_canApart_23 : decode cX10_canApart 23 = .ok (.iconst 0, 1) := by decide +kernel
theorem dX10_canApart_24 : decode cX10_canApart 24 = .ok (.istore_n 2, 1) := by decide +kernel
theorem dX10_canApart_25 : decode cX10_canApart 25 = .ok (.iload_n 2, 1) := by decide +kernel
theorem dX10_canApart_26 : decode cX10_canApart 26 = .ok (.bipush 49, 2) := by decide +kernel
theorem dX10_canApart_28 : decode cX10_canApart 28 = .ok (.if_icmp .ge 28, 3) := by decide +kernel
theorem dX10_canApart_31 : decode cX10_canApart 31 = .ok (.iload_n 1, 1) := by decide +kernel
theorem dX10_canApart_32 : decode cX10_canApart 32 = .ok (.ifCond .eq 16, 3) := by decide +kernel
theorem dX10_canApart_35 : decode cX10_canApart 35 = .ok (.aload_n 0, 1) := by decide +kernel
theorem dX10_canApart_36 : decode cX10_canApart 36 = .ok (.getfield 7, 3) := by decide +kernel
theorem dX10_canApart_39 : decode cX10_canApart 39 = .ok (.iload_n 2, 1) := by decide +kernel
theorem dX10_canApart_40 : decode cX10_canApart 40 = .ok (.iaload, 1) := by decide +kernel
theorem dX10_canApart_41 : decode cX10_canApart 41 = .ok (.ifCond .lt 7, 3) := by decide +kernel
theorem dX10_canApart_44 : decode cX10_canApart 44 = .ok (.iconst 1, 1) := by decide +kernel
theorem dX10_canApart_45 : decode cX10_canApart 45 = .ok (.goto 4, 3) := by decide +kernel
theorem dX10_canApart_48 : decode cX10_canApart 48 = .ok (.iconst 0, 1) := by decide +kernel
theorem dX10_canApart_49 : decode cX10_canApart 49 = .ok (.istore_n 1, 1) := by decide +kernel
theorem dX10_canApart_50 : decode cX10_canApart 50 = .ok (.iinc 2 1, 3) := by decide +kernel
theorem dX10_canApart_53 : decode cX10_canApart 53 = .ok (.goto (-28), 3) := by decide +kernel
theorem dX10_canApart_56 : decode cX10_canApart 56 = .ok (.iload_n 1, 1) := by decide +kernel
theorem dX10_canApart_57 : decode cX10_canApart 57 = .ok (.ireturn, 1) := by decide +kernel
theorem dX10_leastOnOrder_0 : decode cX10_leastOnOrder 0 = .ok (.aload_n 0, 1) := by decide +kernel
theorem dX10_leastOnOrder_1 : decode cX10_leastOnOrder 1 = .ok (.getfield 50, 3) := by decide +kernel
theorem dX10_leastOnOrder_4 : decode cX10_leastOnOrder 4 = .ok (.aload_n 0, 1) := by decide +kernel
theorem dX10_leastOnOrder_5 : decode cX10_leastOnOrder 5 = .ok (.getfield 25, 3) := by decide +kernel
theorem dX10_leastOnOrder_8 : decode cX10_leastOnOrder 8 = .ok (.iconst 0, 1) := by decide +kernel
theorem dX10_leastOnOrder_9 : decode cX10_leastOnOrder 9 = .ok (.iaload, 1) := by decide +kernel
theorem dX10_leastOnOrder_10 : decode cX10_leastOnOrder 10 = .ok (.iaload, 1) := by decide +kernel
theorem dX10_leastOnOrder_11 : decode cX10_leastOnOrder 11 = .ok (.istore_n 1, 1) := by decide +kernel
theorem dX10_leastOnOrder_12 : decode cX10_leastOnOrder 12 = .ok (.iconst 1, 1) := by decide +kernel
theorem dX10_leastOnOrder_13 : decode cX10_leastOnOrder 13 = .ok (.istore_n 2, 1) := by decide +kernel
theorem dX10_leastOnOrder_14 : decode cX10_leastOnOrder 14 = .ok (.iload_n 2, 1) := by decide +kernel
theorem dX10_leastOnOrder_15 : decode cX10_leastOnOrder 15 = .ok (.aload_n 0, 1) := by decide +kernel
theorem dX10_leastOnOrder_16 : decode cX10_leastOnOrder 16 = .ok (.getfield 7, 3) := by decide +kernel
theorem dX10_leastOnOrder_19 : decode cX10_leastOnOrder 19 = .ok (.bipush 49, 2) := by decide +kernel
theorem dX10_leastOnOrder_21 : decode cX10_leastOnOrder 21 = .ok (.iaload, 1) := by decide +kernel
theorem dX10_leastOnOrder_22 : decode cX10_leastOnOrder 22 = .ok (.if_icmp .ge 37, 3) := by decide +kernel
theorem dX10_leastOnOrder_25 : decode cX10_leastOnOrder 25 = .ok (.aload_n 0, 1) := by decide +kernel
theorem dX10_leastOnOrder_26 : decode cX10_leastOnOrder 26 = .ok (.getfield 50, 3) := by decide +kernel
theorem dX10_leastOnOrder_29 : decode cX10_leastOnOrder 29 = .ok (.bipush 7, 2) := by decide +kernel
theorem dX10_leastOnOrder_31 : decode cX10_leastOnOrder 31 = .ok (.iload_n 2, 1) := by decide +kernel
theorem dX10_leastOnOrder_32 : decode cX10_leastOnOrder 32 = .ok (.imul, 1) := by decide +kernel
theorem dX10_leastOnOrder_33 : decode cX10_leastOnOrder 33 = .ok (.aload_n 0, 1) := by decide +kernel
theorem dX10_leastOnOrder_34 : decode cX10_leastOnOrder 34 = .ok (.getfield 25, 3) := by decide +kernel
theorem dX10_leastOnOrder_37 : decode cX10_leastOnOrder 37 = .ok (.iload_n 2, 1) := by decide +kernel
theorem dX10_leastOnOrder_38 : decode cX10_leastOnOrder 38 = .ok (.iaload, 1) := by decide +kernel
theorem dX10_leastOnOrder_39 : decode cX10_leastOnOrder 39 = .ok (.iadd, 1) := by decide +kernel
theorem dX10_leastOnOrder_40 : decode cX10_leastOnOrder 40 = .ok (.iaload, 1) := by decide +kernel
theorem dX10_leastOnOrder_41 : decode cX10_leastOnOrder 41 = .ok (.istore_n 3, 1) := by decide +kernel
theorem dX10_leastOnOrder_42 : decode cX10_leastOnOrder 42 = .ok (.iload_n 3, 1) := by decide +kernel
theorem dX10_leastOnOrder_43 : decode cX10_leastOnOrder 43 = .ok (.iload_n 1, 1) := by decide +kernel
theorem dX10_leastOnOrder_44 : decode cX10_leastOnOrder 44 = .ok (.if_icmp .ge 7, 3) := by decide +kernel
theorem dX10_leastOnOrder_47 : decode cX10_leastOnOrder 47 = .ok (.iload_n 3, 1) := by decide +kernel
theorem dX10_leastOnOrder_48 : decode cX10_leastOnOrder 48 = .ok (.goto 4, 3) := by decide +kernel
theorem dX10_leastOnOrder_51 : decode cX10_leastOnOrder 51 = .ok (.iload_n 1, 1) := by decide +kernel
theorem dX10_leastOnOrder_52 : decode cX10_leastOnOrder 52 = .ok (.istore_n 1, 1) := by decide +kernel
theorem dX10_leastOnOrder_53 : decode cX10_leastOnOrder 53 = .ok (.iinc 2 1, 3) := by decide +kernel
theorem dX10_leastOnOrder_56 : decode cX10_leastOnOrder 56 = .ok (.goto (-42), 3) := by decide +kernel
theorem dX10_leastOnOrder_59 : decode cX10_leastOnOrder 59 = .ok (.iload_n 1, 1) := by decide +kernel
theorem dX10_leastOnOrder_60 : decode cX10_leastOnOrder 60 = .ok (.ireturn, 1) := by decide +kernel
set_option maxRecDepth 20000 in
theorem ggX10_apart_X10_sumOfLine : GoodIn wsX10_apart wsX10_sumOfLine := goodIn_r _ [10, 1, 11, 12, 13, 9, 14, 42, 43, 44, 45, 46, 47, 48, 49, 50, 51, 52, 53, 54, 55, 56, 57, 58, 59, 60, 61, 62] (by decide +kernel) (by decide +kernel)
set_option maxRecDepth 20000 in
theorem gX10_apart_X10_sumOfLine : GoodIn wsX10_apart (wsV RX10 139 RX10 yX10_sumOfLine wsX10_sumOfLine) := goodIn_app (goodIn_of _ (by decide +kernel)) ggX10_apart_X10_sumOfLine
set_option maxRecDepth 20000 in
theorem ggX10_apart_X10_copyRow : GoodIn wsX10_apart wsX10_copyRow := goodIn_r _ [17] (by decide +kernel) (by decide +kernel)
set_option maxRecDepth 20000 in
theorem gX10_apart_X10_copyRow : GoodIn wsX10_apart (va_wsS RX10 67 yX10_copyRow wsX10_copyRow) := goodIn_app (goodIn_of _ (by decide +kernel)) ggX10_apart_X10_copyRow
set_option maxRecDepth 20000 in
theorem ggX10_apart_X10_firstOrder : GoodIn wsX10_apart wsX10_firstOrder := goodIn_r _ [21, 3, 42, 43, 44, 45, 46, 47, 48, 49, 50, 51, 52, 53, 54, 55, 56, 57, 58, 59, 60, 61, 62] (by decide +kernel) (by decide +kernel)
set_option maxRecDepth 20000 in
theorem gX10_apart_X10_firstOrder : GoodIn wsX10_apart (wsV RX10 157 RX10 yX10_firstOrder wsX10_firstOrder) := goodIn_app (goodIn_of _ (by decide +kernel)) ggX10_apart_X10_firstOrder
set_option maxRecDepth 20000 in
theorem ggX10_apart_X10_isWhole : GoodIn wsX10_apart wsX10_isWhole := goodIn_r _ [25, 1, 3, 42, 43, 44, 45, 46, 47, 48, 49, 50, 51, 52, 53, 54, 55, 56, 57, 58, 59, 60, 61, 62] (by decide +kernel) (by decide +kernel)
set_option maxRecDepth 20000 in
theorem gX10_apart_X10_isWhole : GoodIn wsX10_apart (wsV RX10 191 RX10 yX10_isWhole wsX10_isWhole) := goodIn_app (goodIn_of _ (by decide +kernel)) ggX10_apart_X10_isWhole
set_option maxRecDepth 20000 in
theorem ggX10_apart_X10_nextOrder : GoodIn wsX10_apart wsX10_nextOrder := goodIn_r _ [29, 3, 30, 31, 32, 9, 33, 42, 43, 44, 45, 46, 47, 48, 49, 50, 51, 52, 53, 54, 55, 56, 57, 58, 59, 60, 61, 62] (by decide +kernel) (by decide +kernel)
set_option maxRecDepth 20000 in
theorem gX10_apart_X10_nextOrder : GoodIn wsX10_apart (wsV RX10 164 RX10 yX10_nextOrder wsX10_nextOrder) := goodIn_app (goodIn_of _ (by decide +kernel)) ggX10_apart_X10_nextOrder
set_option maxRecDepth 20000 in
theorem ggX10_apart_X10_leastOnOrder : GoodIn wsX10_apart wsX10_leastOnOrder := goodIn_r _ [37, 2, 3, 1, 42, 43, 44, 45, 46, 47, 48, 49, 50, 51, 52, 53, 54, 55, 56, 57, 58, 59, 60, 61, 62] (by decide +kernel) (by decide +kernel)
set_option maxRecDepth 20000 in
theorem gX10_apart_X10_leastOnOrder : GoodIn wsX10_apart (wsV RX10 224 RX10 yX10_leastOnOrder wsX10_leastOnOrder) := goodIn_app (goodIn_of _ (by decide +kernel)) ggX10_apart_X10_leastOnOrder
set_option maxRecDepth 20000 in
theorem ggX10_apart_X10_number : GoodIn wsX10_apart wsX10_number := goodIn_r _ [41, 1, 3, 42, 43, 44, 45, 46, 47, 48, 49, 50, 51, 52, 53, 54, 55, 56, 57, 58, 59, 60, 61, 62] (by decide +kernel) (by decide +kernel)
set_option maxRecDepth 20000 in
theorem gX10_apart_X10_number : GoodIn wsX10_apart (wsV RX10 195 RX10 yX10_number wsX10_number) := goodIn_app (goodIn_of _ (by decide +kernel)) ggX10_apart_X10_number
theorem dX10_apart_0 : decode cX10_apart 0 = .ok (.iconst 0, 1) := by decide +kernel
theorem dX10_apart_1 : decode cX10_apart 1 = .ok (.istore_n 1, 1) := by decide +kernel
theorem dX10_apart_2 : decode cX10_apart 2 = .ok (.aload_n 0, 1) := by decide +kernel
theorem dX10_apart_3 : decode cX10_apart 3 = .ok (.iconst 0, 1) := by decide +kernel
theorem dX10_apart_4 : decode cX10_apart 4 = .ok (.iconst 0, 1) := by decide +kernel
theorem dX10_apart_5 : decode cX10_apart 5 = .ok (.invokevirtual 139, 3) := by decide +kernel
theorem dX10_apart_8 : decode cX10_apart 8 = .ok (.istore_n 2, 1) := by decide +kernel
theorem dX10_apart_9 : decode cX10_apart 9 = .ok (.aload_n 0, 1) := by decide +kernel
theorem dX10_apart_10 : decode cX10_apart 10 = .ok (.getfield 7, 3) := by decide +kernel
theorem dX10_apart_13 : decode cX10_apart 13 = .ok (.iconst 0, 1) := by decide +kernel
theorem dX10_apart_14 : decode cX10_apart 14 = .ok (.aload_n 0, 1) := by decide +kernel
theorem dX10_apart_15 : decode cX10_apart 15 = .ok (.getfield 50, 3) := by decide +kernel
theorem dX10_apart_18 : decode cX10_apart 18 = .ok (.iconst 0, 1) := by decide +kernel
theorem dX10_apart_19 : decode cX10_apart 19 = .ok (.bipush 49, 2) := by decide +kernel
theorem dX10_apart_21 : decode cX10_apart 21 = .ok (.invokestatic 67, 3) := by decide +kernel
theorem dX10_apart_24 : decode cX10_apart 24 = .ok (.iload_n 2, 1) := by decide +kernel
theorem dX10_apart_25 : decode cX10_apart 25 = .ok (.ifCond .le 115, 3) := by decide +kernel
theorem dX10_apart_28 : decode cX10_apart 28 = .ok (.aload_n 0, 1) := by decide +kernel
theorem dX10_apart_29 : decode cX10_apart 29 = .ok (.aload_n 0, 1) := by decide +kernel
theorem dX10_apart_30 : decode cX10_apart 30 = .ok (.getfield 7, 3) := by decide +kernel
theorem dX10_apart_33 : decode cX10_apart 33 = .ok (.bipush 49, 2) := by decide +kernel
theorem dX10_apart_35 : decode cX10_apart 35 = .ok (.iaload, 1) := by decide +kernel
theorem dX10_apart_36 : decode cX10_apart 36 = .ok (.invokevirtual 157, 3) := by decide +kernel
theorem dX10_apart_39 : decode cX10_apart 39 = .ok (.aload_n 0, 1) := by decide +kernel
theorem dX10_apart_40 : decode cX10_apart 40 = .ok (.aload_n 0, 1) := by decide +kernel
theorem dX10_apart_41 : decode cX10_apart 41 = .ok (.getfield 50, 3) := by decide +kernel
theorem dX10_apart_44 : decode cX10_apart 44 = .ok (.invokevirtual 191, 3) := by decide +kernel
theorem dX10_apart_47 : decode cX10_apart 47 = .ok (.ifCond .ne 18, 3) := by decide +kernel
theorem dX10_apart_50 : decode cX10_apart 50 = .ok (.aload_n 0, 1) := by decide +kernel
theorem dX10_apart_51 : decode cX10_apart 51 = .ok (.aload_n 0, 1) := by decide +kernel
theorem dX10_apart_52 : decode cX10_apart 52 = .ok (.getfield 7, 3) := by decide +kernel
theorem dX10_apart_55 : decode cX10_apart 55 = .ok (.bipush 49, 2) := by decide +kernel
theorem dX10_apart_57 : decode cX10_apart 57 = .ok (.iaload, 1) := by decide +kernel
theorem dX10_apart_58 : decode cX10_apart 58 = .ok (.invokevirtual 164, 3) := by decide +kernel
theorem dX10_apart_61 : decode cX10_apart 61 = .ok (.pop, 1) := by decide +kernel
theorem dX10_apart_62 : decode cX10_apart 62 = .ok (.goto (-23), 3) := by decide +kernel
theorem dX10_apart_65 : decode cX10_apart 65 = .ok (.aload_n 0, 1) := by decide +kernel
theorem dX10_apart_66 : decode cX10_apart 66 = .ok (.invokevirtual 224, 3) := by decide +kernel
theorem dX10_apart_69 : decode cX10_apart 69 = .ok (.istore_n 3, 1) := by decide +kernel
theorem dX10_apart_70 : decode cX10_apart 70 = .ok (.iconst 0, 1) := by decide +kernel
theorem dX10_apart_71 : decode cX10_apart 71 = .ok (.istore 4, 2) := by decide +kernel
theorem dX10_apart_73 : decode cX10_apart 73 = .ok (.iload 4, 2) := by decide +kernel
theorem dX10_apart_75 : decode cX10_apart 75 = .ok (.aload_n 0, 1) := by decide +kernel
theorem dX10_apart_76 : decode cX10_apart 76 = .ok (.getfield 7, 3) := by decide +kernel
theorem dX10_apart_79 : decode cX10_apart 79 = .ok (.bipush 49, 2) := by decide +kernel
theorem dX10_apart_81 : decode cX10_apart 81 = .ok (.iaload, 1) := by decide +kernel
theorem dX10_apart_82 : decode cX10_apart 82 = .ok (.if_icmp .ge 31, 3) := by decide +kernel
theorem dX10_apart_85 : decode cX10_apart 85 = .ok (.aload_n 0, 1) := by decide +kernel
theorem dX10_apart_86 : decode cX10_apart 86 = .ok (.getfield 50, 3) := by decide +kernel
theorem dX10_apart_89 : decode cX10_apart 89 = .ok (.bipush 7, 2) := by decide +kernel
theorem dX10_apart_91 : decode cX10_apart 91 = .ok (.iload 4, 2) := by decide +kernel
theorem dX10_apart_93 : decode cX10_apart 93 = .ok (.imul, 1) := by decide +kernel
theorem dX10_apart_94 : decode cX10_apart 94 = .ok (.aload_n 0, 1) := by decide +kernel
theorem dX10_apart_95 : decode cX10_apart 95 = .ok (.getfield 25, 3) := by decide +kernel
theorem dX10_apart_98 : decode cX10_apart 98 = .ok (.iload 4, 2) := by decide +kernel
theorem dX10_apart_100 : decode cX10_apart 100 = .ok (.iaload, 1) := by decide +kernel
theorem dX10_apart_101 : decode cX10_apart 101 = .ok (.iadd, 1) := by decide +kernel
theorem dX10_apart_102 : decode cX10_apart 102 = .ok (.dup2, 1) := by decide +kernel
theorem dX10_apart_103 : decode cX10_apart 103 = .ok (.iaload, 1) := by decide +kernel
theorem dX10_apart_104 : decode cX10_apart 104 = .ok (.iload_n 3, 1) := by decide +kernel
theorem dX10_apart_105 : decode cX10_apart 105 = .ok (.isub, 1) := by decide +kernel
theorem dX10_apart_106 : decode cX10_apart 106 = .ok (.iastore, 1) := by decide +kernel
theorem dX10_apart_107 : decode cX10_apart 107 = .ok (.iinc 4 1, 3) := by decide +kernel
theorem dX10_apart_110 : decode cX10_apart 110 = .ok (.goto (-37), 3) := by decide +kernel
theorem dX10_apart_113 : decode cX10_apart 113 = .ok (.aload_n 0, 1) := by decide +kernel
theorem dX10_apart_114 : decode cX10_apart 114 = .ok (.getfield 53, 3) := by decide +kernel
theorem dX10_apart_117 : decode cX10_apart 117 = .ok (.iload_n 1, 1) := by decide +kernel
theorem dX10_apart_118 : decode cX10_apart 118 = .ok (.aload_n 0, 1) := by decide +kernel
theorem dX10_apart_119 : decode cX10_apart 119 = .ok (.invokevirtual 195, 3) := by decide +kernel
theorem dX10_apart_122 : decode cX10_apart 122 = .ok (.iastore, 1) := by decide +kernel
theorem dX10_apart_123 : decode cX10_apart 123 = .ok (.aload_n 0, 1) := by decide +kernel
theorem dX10_apart_124 : decode cX10_apart 124 = .ok (.getfield 56, 3) := by decide +kernel
theorem dX10_apart_127 : decode cX10_apart 127 = .ok (.iload_n 1, 1) := by decide +kernel
theorem dX10_apart_128 : decode cX10_apart 128 = .ok (.iload_n 3, 1) := by decide +kernel
theorem dX10_apart_129 : decode cX10_apart 129 = .ok (.iastore, 1) := by decide +kernel
theorem dX10_apart_130 : decode cX10_apart 130 = .ok (.iload_n 2, 1) := by decide +kernel
theorem dX10_apart_131 : decode cX10_apart 131 = .ok (.iload_n 3, 1) := by decide +kernel
theorem dX10_apart_132 : decode cX10_apart 132 = .ok (.isub, 1) := by decide +kernel
theorem dX10_apart_133 : decode cX10_apart 133 = .ok (.istore_n 2, 1) := by decide +kernel
theorem dX10_apart_134 : decode cX10_apart 134 = .ok (.iinc 1 1, 3) := by decide +kernel
theorem dX10_apart_137 : decode cX10_apart 137 = .ok (.goto (-113), 3) := by decide +kernel
theorem dX10_apart_140 : decode cX10_apart 140 = .ok (.iload_n 1, 1) := by decide +kernel
theorem dX10_apart_141 : decode cX10_apart 141 = .ok (.ireturn, 1) := by decide +kernel
set_option maxRecDepth 20000 in
theorem ggX10_part_X10_canApart : GoodIn wsX10_part wsX10_canApart := goodIn_r _ [9, 10, 11, 12, 13, 8, 14, 15, 16, 17, 18, 19, 20, 21, 22, 59, 60, 61, 62, 63, 64, 65, 66, 67, 68, 69, 70, 71, 72, 73, 74, 75, 76, 77, 78, 79] (by decide +kernel) (by decide +kernel)
set_option maxRecDepth 20000 in
theorem gX10_part_X10_canApart : GoodIn wsX10_part (wsV RX10 227 RX10 yX10_canApart wsX10_canApart) := goodIn_app (goodIn_of _ (by decide +kernel)) ggX10_part_X10_canApart
set_option maxRecDepth 20000 in
theorem ggX10_part_X10_apart : GoodIn wsX10_part wsX10_apart := goodIn_r _ [26, 10, 27, 28, 4, 3, 15, 16, 17, 8, 18, 19, 20, 21, 22, 29, 30, 31, 32, 33, 34, 35, 36, 37, 38, 39, 40, 41, 42, 43, 44, 45, 46, 47, 48, 49, 50, 51, 52, 53, 54, 55, 59, 60, 61, 62, 63, 64, 65, 66, 67, 68, 69, 70, 71, 72, 73, 74, 75, 76, 77, 78, 79] (by decide +kernel) (by decide +kernel)
set_option maxRecDepth 20000 in
theorem gX10_part_X10_apart : GoodIn wsX10_part (wsV RX10 230 RX10 yX10_apart wsX10_apart) := goodIn_app (goodIn_of _ (by decide +kernel)) ggX10_part_X10_apart
set_option maxRecDepth 20000 in
theorem ggX10_part_X10_in : GoodIn wsX10_part wsX10_in := goodIn_r _ [58] (by decide +kernel) (by decide +kernel)
set_option maxRecDepth 20000 in
theorem gX10_part_X10_in : GoodIn wsX10_part (va_wsS RX10 59 yX10_in wsX10_in) := goodIn_app (goodIn_of _ (by decide +kernel)) ggX10_part_X10_in
theorem dX10_part_0 : decode cX10_part 0 = .ok (.aload_n 0, 1) := by decide +kernel
theorem dX10_part_1 : decode cX10_part 1 = .ok (.invokevirtual 227, 3) := by decide +kernel
theorem dX10_part_4 : decode cX10_part 4 = .ok (.ifCond .ne 6, 3) := by decide +kernel
theorem dX10_part_7 : decode cX10_part 7 = .ok (.ldc 104, 2) := by decide +kernel
theorem dX10_part_9 : decode cX10_part 9 = .ok (.ireturn, 1) := by decide +kernel
theorem dX10_part_10 : decode cX10_part 10 = .ok (.iload_n 1, 1) := by decide +kernel
theorem dX10_part_11 : decode cX10_part 11 = .ok (.iconst 0, 1) := by decide +kernel
theorem dX10_part_12 : decode cX10_part 12 = .ok (.aload_n 0, 1) := by decide +kernel
theorem dX10_part_13 : decode cX10_part 13 = .ok (.invokevirtual 230, 3) := by decide +kernel
theorem dX10_part_16 : decode cX10_part 16 = .ok (.iconst 1, 1) := by decide +kernel
theorem dX10_part_17 : decode cX10_part 17 = .ok (.isub, 1) := by decide +kernel
theorem dX10_part_18 : decode cX10_part 18 = .ok (.invokestatic 59, 3) := by decide +kernel
theorem dX10_part_21 : decode cX10_part 21 = .ok (.ifCond .ne 6, 3) := by decide +kernel
theorem dX10_part_24 : decode cX10_part 24 = .ok (.ldc 92, 2) := by decide +kernel
theorem dX10_part_26 : decode cX10_part 26 = .ok (.ireturn, 1) := by decide +kernel
theorem dX10_part_27 : decode cX10_part 27 = .ok (.iload_n 2, 1) := by decide +kernel
theorem dX10_part_28 : decode cX10_part 28 = .ok (.ifCond .eq 12, 3) := by decide +kernel
theorem dX10_part_31 : decode cX10_part 31 = .ok (.aload_n 0, 1) := by decide +kernel
theorem dX10_part_32 : decode cX10_part 32 = .ok (.getfield 56, 3) := by decide +kernel
theorem dX10_part_35 : decode cX10_part 35 = .ok (.iload_n 1, 1) := by decide +kernel
theorem dX10_part_36 : decode cX10_part 36 = .ok (.iaload, 1) := by decide +kernel
theorem dX10_part_37 : decode cX10_part 37 = .ok (.goto 9, 3) := by decide +kernel
theorem dX10_part_40 : decode cX10_part 40 = .ok (.aload_n 0, 1) := by decide +kernel
theorem dX10_part_41 : decode cX10_part 41 = .ok (.getfield 53, 3) := by decide +kernel
theorem dX10_part_44 : decode cX10_part 44 = .ok (.iload_n 1, 1) := by decide +kernel
theorem dX10_part_45 : decode cX10_part 45 = .ok (.iaload, 1) := by decide +kernel
theorem dX10_part_46 : decode cX10_part 46 = .ok (.ireturn, 1) := by decide +kernel
set_option maxRecDepth 20000 in
theorem ggX10_parts_X10_canApart : GoodIn wsX10_parts wsX10_canApart := goodIn_r _ [6, 7, 8, 9, 10, 5, 11, 12, 13, 14, 15, 16, 17, 18, 19, 55, 56, 57, 58, 59, 60, 61, 62, 63, 64, 65, 66, 67, 68, 69, 70, 71, 72, 73, 74, 75] (by decide +kernel) (by decide +kernel)
set_option maxRecDepth 20000 in
theorem gX10_parts_X10_canApart : GoodIn wsX10_parts (wsV RX10 227 RX10 yX10_canApart wsX10_canApart) := goodIn_app (goodIn_of _ (by decide +kernel)) ggX10_parts_X10_canApart
set_option maxRecDepth 20000 in
theorem ggX10_parts_X10_apart : GoodIn wsX10_parts wsX10_apart := goodIn_r _ [23, 7, 24, 25, 26, 27, 12, 13, 14, 5, 15, 16, 17, 18, 19, 28, 29, 30, 31, 32, 33, 34, 35, 36, 37, 38, 39, 40, 41, 42, 43, 44, 45, 46, 47, 48, 49, 50, 51, 52, 53, 54, 55, 56, 57, 58, 59, 60, 61, 62, 63, 64, 65, 66, 67, 68, 69, 70, 71, 72, 73, 74, 75] (by decide +kernel) (by decide +kernel)
set_option maxRecDepth 20000 in
theorem gX10_parts_X10_apart : GoodIn wsX10_parts (wsV RX10 230 RX10 yX10_apart wsX10_apart) := goodIn_app (goodIn_of _ (by decide +kernel)) ggX10_parts_X10_apart
theorem dX10_parts_0 : decode cX10_parts 0 = .ok (.aload_n 0, 1) := by decide +kernel
theorem dX10_parts_1 : decode cX10_parts 1 = .ok (.invokevirtual 227, 3) := by decide +kernel
theorem dX10_parts_4 : decode cX10_parts 4 = .ok (.ifCond .eq 10, 3) := by decide +kernel
theorem dX10_parts_7 : decode cX10_parts 7 = .ok (.aload_n 0, 1) := by decide +kernel
theorem dX10_parts_8 : decode cX10_parts 8 = .ok (.invokevirtual 230, 3) := by decide +kernel
theorem dX10_parts_11 : decode cX10_parts 11 = .ok (.goto 5, 3) := by decide +kernel
theorem dX10_parts_14 : decode cX10_parts 14 = .ok (.ldc 104, 2) := by decide +kernel
theorem dX10_parts_16 : decode cX10_parts 16 = .ok (.ireturn, 1) := by decide +kernel
