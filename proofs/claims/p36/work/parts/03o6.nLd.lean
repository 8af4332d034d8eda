/-! the law's methods: their instructions, 6 -/
theorem dL_turn_83 : decode cL_turn 83 = .ok (.iconst 0, 1) := by decide +kernel
theorem dL_turn_84 : decode cL_turn 84 = .ok (.if_icmp .ne 82, 3) := by decide +kernel
theorem dL_turn_87 : decode cL_turn 87 = .ok (.iload 12, 2) := by decide +kernel
theorem dL_turn_89 : decode cL_turn 89 = .ok (.ldc 34, 2) := by decide +kernel
theorem dL_turn_91 : decode cL_turn 91 = .ok (.if_icmp .eq 26, 3) := by decide +kernel
theorem dL_turn_94 : decode cL_turn 94 = .ok (.iload 12, 2) := by decide +kernel
theorem dL_turn_96 : decode cL_turn 96 = .ok (.iconst 1, 1) := by decide +kernel
theorem dL_turn_97 : decode cL_turn 97 = .ok (.if_icmp .le 69, 3) := by decide +kernel
theorem dL_turn_100 : decode cL_turn 100 = .ok (.iload 12, 2) := by decide +kernel
theorem dL_turn_102 : decode cL_turn 102 = .ok (.iconst 2, 1) := by decide +kernel
theorem dL_turn_103 : decode cL_turn 103 = .ok (.irem, 1) := by decide +kernel
theorem dL_turn_104 : decode cL_turn 104 = .ok (.ifCond .ne 62, 3) := by decide +kernel
theorem dL_turn_107 : decode cL_turn 107 = .ok (.iload 12, 2) := by decide +kernel
theorem dL_turn_109 : decode cL_turn 109 = .ok (.iload_n 2, 1) := by decide +kernel
theorem dL_turn_110 : decode cL_turn 110 = .ok (.iload_n 2, 1) := by decide +kernel
theorem dL_turn_111 : decode cL_turn 111 = .ok (.imul, 1) := by decide +kernel
theorem dL_turn_112 : decode cL_turn 112 = .ok (.iload_n 2, 1) := by decide +kernel
theorem dL_turn_113 : decode cL_turn 113 = .ok (.isub, 1) := by decide +kernel
theorem dL_turn_114 : decode cL_turn 114 = .ok (.if_icmp .gt 52, 3) := by decide +kernel
theorem dL_turn_117 : decode cL_turn 117 = .ok (.aload_n 0, 1) := by decide +kernel
theorem dL_turn_118 : decode cL_turn 118 = .ok (.iload 5, 2) := by decide +kernel
theorem dL_turn_120 : decode cL_turn 120 = .ok (.iload 4, 2) := by decide +kernel
theorem dL_turn_122 : decode cL_turn 122 = .ok (.invokevirtual 19, 3) := by decide +kernel
theorem dL_turn_125 : decode cL_turn 125 = .ok (.iload 6, 2) := by decide +kernel
theorem dL_turn_127 : decode cL_turn 127 = .ok (.if_icmp .ne 39, 3) := by decide +kernel
theorem dL_turn_130 : decode cL_turn 130 = .ok (.aload_n 0, 1) := by decide +kernel
theorem dL_turn_131 : decode cL_turn 131 = .ok (.invokevirtual 93, 3) := by decide +kernel
theorem dL_turn_134 : decode cL_turn 134 = .ok (.lload 7, 2) := by decide +kernel
theorem dL_turn_136 : decode cL_turn 136 = .ok (.lcmp, 1) := by decide +kernel
theorem dL_turn_137 : decode cL_turn 137 = .ok (.ifCond .ne 29, 3) := by decide +kernel
theorem dL_turn_140 : decode cL_turn 140 = .ok (.aload_n 0, 1) := by decide +kernel
theorem dL_turn_141 : decode cL_turn 141 = .ok (.invokevirtual 97, 3) := by decide +kernel
theorem dL_turn_144 : decode cL_turn 144 = .ok (.lload 9, 2) := by decide +kernel
theorem dL_turn_146 : decode cL_turn 146 = .ok (.lcmp, 1) := by decide +kernel
theorem dL_turn_147 : decode cL_turn 147 = .ok (.ifCond .ne 19, 3) := by decide +kernel
theorem dL_turn_150 : decode cL_turn 150 = .ok (.aload_n 0, 1) := by decide +kernel
theorem dL_turn_151 : decode cL_turn 151 = .ok (.iload_n 2, 1) := by decide +kernel
theorem dL_turn_152 : decode cL_turn 152 = .ok (.iconst 2, 1) := by decide +kernel
theorem dL_turn_153 : decode cL_turn 153 = .ok (.idiv, 1) := by decide +kernel
theorem dL_turn_154 : decode cL_turn 154 = .ok (.invokevirtual 58, 3) := by decide +kernel
theorem dL_turn_157 : decode cL_turn 157 = .ok (.iload 11, 2) := by decide +kernel
theorem dL_turn_159 : decode cL_turn 159 = .ok (.if_icmp .ne 7, 3) := by decide +kernel
theorem dL_turn_162 : decode cL_turn 162 = .ok (.iconst 1, 1) := by decide +kernel
theorem dL_turn_163 : decode cL_turn 163 = .ok (.goto 4, 3) := by decide +kernel
theorem dL_turn_166 : decode cL_turn 166 = .ok (.iconst 0, 1) := by decide +kernel
theorem dL_turn_167 : decode cL_turn 167 = .ok (.istore 13, 2) := by decide +kernel
theorem dL_turn_169 : decode cL_turn 169 = .ok (.iload 13, 2) := by decide +kernel
theorem dL_turn_171 : decode cL_turn 171 = .ok (.ifCond .ne 8, 3) := by decide +kernel
theorem dL_turn_174 : decode cL_turn 174 = .ok (.bipush (-9), 2) := by decide +kernel
theorem dL_turn_176 : decode cL_turn 176 = .ok (.goto 15, 3) := by decide +kernel
theorem dL_turn_179 : decode cL_turn 179 = .ok (.iload 12, 2) := by decide +kernel
theorem dL_turn_181 : decode cL_turn 181 = .ok (.ldc 34, 2) := by decide +kernel
theorem dL_turn_183 : decode cL_turn 183 = .ok (.if_icmp .ne 7, 3) := by decide +kernel
theorem dL_turn_186 : decode cL_turn 186 = .ok (.iconst 0, 1) := by decide +kernel
theorem dL_turn_187 : decode cL_turn 187 = .ok (.goto 4, 3) := by decide +kernel
theorem dL_turn_190 : decode cL_turn 190 = .ok (.iconst 1, 1) := by decide +kernel
theorem dL_turn_191 : decode cL_turn 191 = .ok (.ireturn, 1) := by decide +kernel
theorem dL_multiply_0 : decode cL_multiply 0 = .ok (.aload_n 0, 1) := by decide +kernel
theorem dL_multiply_1 : decode cL_multiply 1 = .ok (.iconst 0, 1) := by decide +kernel
theorem dL_multiply_2 : decode cL_multiply 2 = .ok (.invokevirtual 11, 3) := by decide +kernel
theorem dL_multiply_5 : decode cL_multiply 5 = .ok (.istore_n 2, 1) := by decide +kernel
theorem dL_multiply_6 : decode cL_multiply 6 = .ok (.iload_n 1, 1) := by decide +kernel
theorem dL_multiply_7 : decode cL_multiply 7 = .ok (.iload_n 2, 1) := by decide +kernel
theorem dL_multiply_8 : decode cL_multiply 8 = .ok (.irem, 1) := by decide +kernel
theorem dL_multiply_9 : decode cL_multiply 9 = .ok (.istore_n 3, 1) := by decide +kernel
theorem dL_multiply_10 : decode cL_multiply 10 = .ok (.iload_n 1, 1) := by decide +kernel
theorem dL_multiply_11 : decode cL_multiply 11 = .ok (.bipush 7, 2) := by decide +kernel
theorem dL_multiply_13 : decode cL_multiply 13 = .ok (.idiv, 1) := by decide +kernel
theorem dL_multiply_14 : decode cL_multiply 14 = .ok (.iconst 3, 1) := by decide +kernel
theorem dL_multiply_15 : decode cL_multiply 15 = .ok (.irem, 1) := by decide +kernel
theorem dL_multiply_16 : decode cL_multiply 16 = .ok (.ifCond .ne 16, 3) := by decide +kernel
theorem dL_multiply_19 : decode cL_multiply 19 = .ok (.iload_n 1, 1) := by decide +kernel
theorem dL_multiply_20 : decode cL_multiply 20 = .ok (.bipush 21, 2) := by decide +kernel
theorem dL_multiply_22 : decode cL_multiply 22 = .ok (.idiv, 1) := by decide +kernel
theorem dL_multiply_23 : decode cL_multiply 23 = .ok (.bipush 19, 2) := by decide +kernel
theorem dL_multiply_25 : decode cL_multiply 25 = .ok (.irem, 1) := by decide +kernel
theorem dL_multiply_26 : decode cL_multiply 26 = .ok (.bipush 9, 2) := by decide +kernel
theorem dL_multiply_28 : decode cL_multiply 28 = .ok (.isub, 1) := by decide +kernel
theorem dL_multiply_29 : decode cL_multiply 29 = .ok (.goto 11, 3) := by decide +kernel
theorem dL_multiply_32 : decode cL_multiply 32 = .ok (.iload_n 1, 1) := by decide +kernel
theorem dL_multiply_33 : decode cL_multiply 33 = .ok (.bipush 21, 2) := by decide +kernel
theorem dL_multiply_35 : decode cL_multiply 35 = .ok (.idiv, 1) := by decide +kernel
theorem dL_multiply_36 : decode cL_multiply 36 = .ok (.iconst 5, 1) := by decide +kernel
theorem dL_multiply_37 : decode cL_multiply 37 = .ok (.irem, 1) := by decide +kernel
theorem dL_multiply_38 : decode cL_multiply 38 = .ok (.iconst 2, 1) := by decide +kernel
theorem dL_multiply_39 : decode cL_multiply 39 = .ok (.isub, 1) := by decide +kernel
theorem dL_multiply_40 : decode cL_multiply 40 = .ok (.istore 4, 2) := by decide +kernel
theorem dL_multiply_42 : decode cL_multiply 42 = .ok (.iconst 0, 1) := by decide +kernel
theorem dL_multiply_43 : decode cL_multiply 43 = .ok (.istore 5, 2) := by decide +kernel
theorem dL_multiply_45 : decode cL_multiply 45 = .ok (.iconst 0, 1) := by decide +kernel
theorem dL_multiply_46 : decode cL_multiply 46 = .ok (.istore 6, 2) := by decide +kernel
theorem dL_multiply_48 : decode cL_multiply 48 = .ok (.iconst 0, 1) := by decide +kernel
theorem dL_multiply_49 : decode cL_multiply 49 = .ok (.istore 7, 2) := by decide +kernel
theorem dL_multiply_51 : decode cL_multiply 51 = .ok (.iload 7, 2) := by decide +kernel
theorem dL_multiply_53 : decode cL_multiply 53 = .ok (.iload_n 2, 1) := by decide +kernel
theorem dL_multiply_54 : decode cL_multiply 54 = .ok (.if_icmp .ge 61, 3) := by decide +kernel
theorem dL_multiply_57 : decode cL_multiply 57 = .ok (.aload_n 0, 1) := by decide +kernel
theorem dL_multiply_58 : decode cL_multiply 58 = .ok (.iload_n 3, 1) := by decide +kernel
theorem dL_multiply_59 : decode cL_multiply 59 = .ok (.iload 7, 2) := by decide +kernel
theorem dL_multiply_61 : decode cL_multiply 61 = .ok (.invokevirtual 19, 3) := by decide +kernel
theorem dL_multiply_64 : decode cL_multiply 64 = .ok (.invokestatic 106, 3) := by decide +kernel
theorem dL_multiply_67 : decode cL_multiply 67 = .ok (.iload 5, 2) := by decide +kernel
theorem dL_multiply_69 : decode cL_multiply 69 = .ok (.if_icmp .le 16, 3) := by decide +kernel
theorem dL_multiply_72 : decode cL_multiply 72 = .ok (.aload_n 0, 1) := by decide +kernel
theorem dL_multiply_73 : decode cL_multiply 73 = .ok (.iload_n 3, 1) := by decide +kernel
theorem dL_multiply_74 : decode cL_multiply 74 = .ok (.iload 7, 2) := by decide +kernel
theorem dL_multiply_76 : decode cL_multiply 76 = .ok (.invokevirtual 19, 3) := by decide +kernel
theorem dL_multiply_79 : decode cL_multiply 79 = .ok (.invokestatic 106, 3) := by decide +kernel
theorem dL_multiply_82 : decode cL_multiply 82 = .ok (.goto 5, 3) := by decide +kernel
theorem dL_multiply_85 : decode cL_multiply 85 = .ok (.iload 5, 2) := by decide +kernel
theorem dL_multiply_87 : decode cL_multiply 87 = .ok (.istore 5, 2) := by decide +kernel
theorem dL_multiply_89 : decode cL_multiply 89 = .ok (.iload 6, 2) := by decide +kernel
theorem dL_multiply_91 : decode cL_multiply 91 = .ok (.aload_n 0, 1) := by decide +kernel
theorem dL_multiply_92 : decode cL_multiply 92 = .ok (.iload_n 3, 1) := by decide +kernel
theorem dL_multiply_93 : decode cL_multiply 93 = .ok (.iload 7, 2) := by decide +kernel
theorem dL_multiply_95 : decode cL_multiply 95 = .ok (.invokevirtual 19, 3) := by decide +kernel
theorem dL_multiply_98 : decode cL_multiply 98 = .ok (.ifCond .ne 7, 3) := by decide +kernel
theorem dL_multiply_101 : decode cL_multiply 101 = .ok (.iconst 0, 1) := by decide +kernel
theorem dL_multiply_102 : decode cL_multiply 102 = .ok (.goto 4, 3) := by decide +kernel
theorem dL_multiply_105 : decode cL_multiply 105 = .ok (.iconst 1, 1) := by decide +kernel
