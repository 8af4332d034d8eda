set_option maxRecDepth 20000 in
theorem ggX1_of_X1_join : GoodIn wsX1_of wsX1_join := goodIn_r _ [7, 8, 9, 10, 11, 12] (by decide +kernel) (by decide +kernel)
set_option maxRecDepth 20000 in
theorem gX1_of_X1_join : GoodIn wsX1_of (va_wsS RX1 15 yX1_join wsX1_join) := goodIn_app (goodIn_of _ (by decide +kernel)) ggX1_of_X1_join
theorem dX1_of_0 : decode cX1_of 0 = .ok (.dload_n 0, 1) := by decide +kernel
theorem dX1_of_1 : decode cX1_of 1 = .ok (.dconst 0, 1) := by decide +kernel
theorem dX1_of_2 : decode cX1_of 2 = .ok (.dcmp .l, 1) := by decide +kernel
theorem dX1_of_3 : decode cX1_of 3 = .ok (.ifCond .gt 5, 3) := by decide +kernel
theorem dX1_of_6 : decode cX1_of 6 = .ok (.lconst 0, 1) := by decide +kernel
theorem dX1_of_7 : decode cX1_of 7 = .ok (.lreturn, 1) := by decide +kernel
theorem dX1_of_8 : decode cX1_of 8 = .ok (.dload_n 0, 1) := by decide +kernel
theorem dX1_of_9 : decode cX1_of 9 = .ok (.dstore_n 2, 1) := by decide +kernel
theorem dX1_of_10 : decode cX1_of 10 = .ok (.sipush 1023, 3) := by decide +kernel
theorem dX1_of_13 : decode cX1_of 13 = .ok (.istore 4, 2) := by decide +kernel
theorem dX1_of_15 : decode cX1_of 15 = .ok (.iconst 0, 1) := by decide +kernel
theorem dX1_of_16 : decode cX1_of 16 = .ok (.istore 5, 2) := by decide +kernel
theorem dX1_of_18 : decode cX1_of 18 = .ok (.iload 5, 2) := by decide +kernel
theorem dX1_of_20 : decode cX1_of 20 = .ok (.bipush 40, 2) := by decide +kernel
theorem dX1_of_22 : decode cX1_of 22 = .ok (.if_icmp .ge 26, 3) := by decide +kernel
theorem dX1_of_25 : decode cX1_of 25 = .ok (.dload_n 2, 1) := by decide +kernel
theorem dX1_of_26 : decode cX1_of 26 = .ok (.ldc2_w 9, 3) := by decide +kernel
theorem dX1_of_29 : decode cX1_of 29 = .ok (.dcmp .l, 1) := by decide +kernel
theorem dX1_of_30 : decode cX1_of 30 = .ok (.ifCond .lt 18, 3) := by decide +kernel
theorem dX1_of_33 : decode cX1_of 33 = .ok (.dload_n 2, 1) := by decide +kernel
theorem dX1_of_34 : decode cX1_of 34 = .ok (.ldc2_w 9, 3) := by decide +kernel
theorem dX1_of_37 : decode cX1_of 37 = .ok (.ddiv, 1) := by decide +kernel
theorem dX1_of_38 : decode cX1_of 38 = .ok (.dstore_n 2, 1) := by decide +kernel
theorem dX1_of_39 : decode cX1_of 39 = .ok (.iinc 4 32, 3) := by decide +kernel
theorem dX1_of_42 : decode cX1_of 42 = .ok (.iinc 5 1, 3) := by decide +kernel
theorem dX1_of_45 : decode cX1_of 45 = .ok (.goto (-27), 3) := by decide +kernel
theorem dX1_of_48 : decode cX1_of 48 = .ok (.iconst 0, 1) := by decide +kernel
theorem dX1_of_49 : decode cX1_of 49 = .ok (.istore 5, 2) := by decide +kernel
theorem dX1_of_51 : decode cX1_of 51 = .ok (.iload 5, 2) := by decide +kernel
theorem dX1_of_53 : decode cX1_of 53 = .ok (.bipush 40, 2) := by decide +kernel
theorem dX1_of_55 : decode cX1_of 55 = .ok (.if_icmp .ge 28, 3) := by decide +kernel
theorem dX1_of_58 : decode cX1_of 58 = .ok (.dload_n 2, 1) := by decide +kernel
theorem dX1_of_59 : decode cX1_of 59 = .ok (.ldc2_w 9, 3) := by decide +kernel
theorem dX1_of_62 : decode cX1_of 62 = .ok (.dmul, 1) := by decide +kernel
theorem dX1_of_63 : decode cX1_of 63 = .ok (.dconst 1, 1) := by decide +kernel
theorem dX1_of_64 : decode cX1_of 64 = .ok (.dcmp .g, 1) := by decide +kernel
theorem dX1_of_65 : decode cX1_of 65 = .ok (.ifCond .ge 18, 3) := by decide +kernel
theorem dX1_of_68 : decode cX1_of 68 = .ok (.dload_n 2, 1) := by decide +kernel
theorem dX1_of_69 : decode cX1_of 69 = .ok (.ldc2_w 9, 3) := by decide +kernel
theorem dX1_of_72 : decode cX1_of 72 = .ok (.dmul, 1) := by decide +kernel
theorem dX1_of_73 : decode cX1_of 73 = .ok (.dstore_n 2, 1) := by decide +kernel
theorem dX1_of_74 : decode cX1_of 74 = .ok (.iinc 4 (-32), 3) := by decide +kernel
theorem dX1_of_77 : decode cX1_of 77 = .ok (.iinc 5 1, 3) := by decide +kernel
theorem dX1_of_80 : decode cX1_of 80 = .ok (.goto (-29), 3) := by decide +kernel
theorem dX1_of_83 : decode cX1_of 83 = .ok (.iconst 0, 1) := by decide +kernel
theorem dX1_of_84 : decode cX1_of 84 = .ok (.istore 5, 2) := by decide +kernel
theorem dX1_of_86 : decode cX1_of 86 = .ok (.iload 5, 2) := by decide +kernel
theorem dX1_of_88 : decode cX1_of 88 = .ok (.bipush 40, 2) := by decide +kernel
theorem dX1_of_90 : decode cX1_of 90 = .ok (.if_icmp .ge 26, 3) := by decide +kernel
theorem dX1_of_93 : decode cX1_of 93 = .ok (.dload_n 2, 1) := by decide +kernel
theorem dX1_of_94 : decode cX1_of 94 = .ok (.ldc2_w 11, 3) := by decide +kernel
theorem dX1_of_97 : decode cX1_of 97 = .ok (.dcmp .l, 1) := by decide +kernel
theorem dX1_of_98 : decode cX1_of 98 = .ok (.ifCond .lt 18, 3) := by decide +kernel
theorem dX1_of_101 : decode cX1_of 101 = .ok (.dload_n 2, 1) := by decide +kernel
theorem dX1_of_102 : decode cX1_of 102 = .ok (.ldc2_w 11, 3) := by decide +kernel
theorem dX1_of_105 : decode cX1_of 105 = .ok (.ddiv, 1) := by decide +kernel
theorem dX1_of_106 : decode cX1_of 106 = .ok (.dstore_n 2, 1) := by decide +kernel
theorem dX1_of_107 : decode cX1_of 107 = .ok (.iinc 4 1, 3) := by decide +kernel
theorem dX1_of_110 : decode cX1_of 110 = .ok (.iinc 5 1, 3) := by decide +kernel
theorem dX1_of_113 : decode cX1_of 113 = .ok (.goto (-27), 3) := by decide +kernel
theorem dX1_of_116 : decode cX1_of 116 = .ok (.iconst 0, 1) := by decide +kernel
theorem dX1_of_117 : decode cX1_of 117 = .ok (.istore 5, 2) := by decide +kernel
theorem dX1_of_119 : decode cX1_of 119 = .ok (.iload 5, 2) := by decide +kernel
theorem dX1_of_121 : decode cX1_of 121 = .ok (.bipush 40, 2) := by decide +kernel
theorem dX1_of_123 : decode cX1_of 123 = .ok (.if_icmp .ge 24, 3) := by decide +kernel
theorem dX1_of_126 : decode cX1_of 126 = .ok (.dload_n 2, 1) := by decide +kernel
theorem dX1_of_127 : decode cX1_of 127 = .ok (.dconst 1, 1) := by decide +kernel
theorem dX1_of_128 : decode cX1_of 128 = .ok (.dcmp .g, 1) := by decide +kernel
theorem dX1_of_129 : decode cX1_of 129 = .ok (.ifCond .ge 18, 3) := by decide +kernel
theorem dX1_of_132 : decode cX1_of 132 = .ok (.dload_n 2, 1) := by decide +kernel
theorem dX1_of_133 : decode cX1_of 133 = .ok (.ldc2_w 11, 3) := by decide +kernel
theorem dX1_of_136 : decode cX1_of 136 = .ok (.dmul, 1) := by decide +kernel
theorem dX1_of_137 : decode cX1_of 137 = .ok (.dstore_n 2, 1) := by decide +kernel
theorem dX1_of_138 : decode cX1_of 138 = .ok (.iinc 4 (-1), 3) := by decide +kernel
theorem dX1_of_141 : decode cX1_of 141 = .ok (.iinc 5 1, 3) := by decide +kernel
theorem dX1_of_144 : decode cX1_of 144 = .ok (.goto (-25), 3) := by decide +kernel
theorem dX1_of_147 : decode cX1_of 147 = .ok (.iload 4, 2) := by decide +kernel
theorem dX1_of_149 : decode cX1_of 149 = .ok (.dload_n 2, 1) := by decide +kernel
theorem dX1_of_150 : decode cX1_of 150 = .ok (.ldc2_w 13, 3) := by decide +kernel
theorem dX1_of_153 : decode cX1_of 153 = .ok (.dmul, 1) := by decide +kernel
theorem dX1_of_154 : decode cX1_of 154 = .ok (.d2l, 1) := by decide +kernel
theorem dX1_of_155 : decode cX1_of 155 = .ok (.invokestatic 15, 3) := by decide +kernel
theorem dX1_of_158 : decode cX1_of 158 = .ok (.lreturn, 1) := by decide +kernel
theorem dX1_join_0 : decode cX1_join 0 = .ok (.iload_n 0, 1) := by decide +kernel
theorem dX1_join_1 : decode cX1_join 1 = .ok (.iconst 1, 1) := by decide +kernel
theorem dX1_join_2 : decode cX1_join 2 = .ok (.if_icmp .ge 14, 3) := by decide +kernel
theorem dX1_join_5 : decode cX1_join 5 = .ok (.lload_n 1, 1) := by decide +kernel
theorem dX1_join_6 : decode cX1_join 6 = .ok (.iconst 1, 1) := by decide +kernel
theorem dX1_join_7 : decode cX1_join 7 = .ok (.iload_n 0, 1) := by decide +kernel
theorem dX1_join_8 : decode cX1_join 8 = .ok (.isub, 1) := by decide +kernel
theorem dX1_join_9 : decode cX1_join 9 = .ok (.bipush 53, 2) := by decide +kernel
theorem dX1_join_11 : decode cX1_join 11 = .ok (.invokestatic 19, 3) := by decide +kernel
theorem dX1_join_14 : decode cX1_join 14 = .ok (.lshr, 1) := by decide +kernel
theorem dX1_join_15 : decode cX1_join 15 = .ok (.lreturn, 1) := by decide +kernel
theorem dX1_join_16 : decode cX1_join 16 = .ok (.iload_n 0, 1) := by decide +kernel
theorem dX1_join_17 : decode cX1_join 17 = .ok (.i2l, 1) := by decide +kernel
theorem dX1_join_18 : decode cX1_join 18 = .ok (.bipush 52, 2) := by decide +kernel
theorem dX1_join_20 : decode cX1_join 20 = .ok (.lshl, 1) := by decide +kernel
theorem dX1_join_21 : decode cX1_join 21 = .ok (.lload_n 1, 1) := by decide +kernel
theorem dX1_join_22 : decode cX1_join 22 = .ok (.ldc2_w 25, 3) := by decide +kernel
theorem dX1_join_25 : decode cX1_join 25 = .ok (.lsub, 1) := by decide +kernel
theorem dX1_join_26 : decode cX1_join 26 = .ok (.ladd, 1) := by decide +kernel
theorem dX1_join_27 : decode cX1_join 27 = .ok (.lreturn, 1) := by decide +kernel
