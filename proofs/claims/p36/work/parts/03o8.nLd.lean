/-! the law's methods: their instructions, 8 -/
theorem dL_add_65 : decode cL_add 65 = .ok (.istore 9, 2) := by decide +kernel
theorem dL_add_67 : decode cL_add 67 = .ok (.iload 6, 2) := by decide +kernel
theorem dL_add_69 : decode cL_add 69 = .ok (.iload 9, 2) := by decide +kernel
theorem dL_add_71 : decode cL_add 71 = .ok (.iadd, 1) := by decide +kernel
theorem dL_add_72 : decode cL_add 72 = .ok (.istore 6, 2) := by decide +kernel
theorem dL_add_74 : decode cL_add 74 = .ok (.iload 9, 2) := by decide +kernel
theorem dL_add_76 : decode cL_add 76 = .ok (.iload 7, 2) := by decide +kernel
theorem dL_add_78 : decode cL_add 78 = .ok (.if_icmp .le 8, 3) := by decide +kernel
theorem dL_add_81 : decode cL_add 81 = .ok (.iload 9, 2) := by decide +kernel
theorem dL_add_83 : decode cL_add 83 = .ok (.goto 5, 3) := by decide +kernel
theorem dL_add_86 : decode cL_add 86 = .ok (.iload 7, 2) := by decide +kernel
theorem dL_add_88 : decode cL_add 88 = .ok (.istore 7, 2) := by decide +kernel
theorem dL_add_90 : decode cL_add 90 = .ok (.iload 5, 2) := by decide +kernel
theorem dL_add_92 : decode cL_add 92 = .ok (.bipush 10, 2) := by decide +kernel
theorem dL_add_94 : decode cL_add 94 = .ok (.idiv, 1) := by decide +kernel
theorem dL_add_95 : decode cL_add 95 = .ok (.istore 5, 2) := by decide +kernel
theorem dL_add_97 : decode cL_add 97 = .ok (.iinc 8 (-1), 3) := by decide +kernel
theorem dL_add_100 : decode cL_add 100 = .ok (.goto (-51), 3) := by decide +kernel
theorem dL_add_103 : decode cL_add 103 = .ok (.aload_n 0, 1) := by decide +kernel
theorem dL_add_104 : decode cL_add 104 = .ok (.iconst 2, 1) := by decide +kernel
theorem dL_add_105 : decode cL_add 105 = .ok (.invokevirtual 11, 3) := by decide +kernel
theorem dL_add_108 : decode cL_add 108 = .ok (.istore 8, 2) := by decide +kernel
theorem dL_add_110 : decode cL_add 110 = .ok (.aload_n 0, 1) := by decide +kernel
theorem dL_add_111 : decode cL_add 111 = .ok (.iload 4, 2) := by decide +kernel
theorem dL_add_113 : decode cL_add 113 = .ok (.invokevirtual 44, 3) := by decide +kernel
theorem dL_add_116 : decode cL_add 116 = .ok (.istore 9, 2) := by decide +kernel
theorem dL_add_118 : decode cL_add 118 = .ok (.iload 7, 2) := by decide +kernel
theorem dL_add_120 : decode cL_add 120 = .ok (.bipush 20, 2) := by decide +kernel
theorem dL_add_122 : decode cL_add 122 = .ok (.if_icmp .ne 17, 3) := by decide +kernel
theorem dL_add_125 : decode cL_add 125 = .ok (.iload 9, 2) := by decide +kernel
theorem dL_add_127 : decode cL_add 127 = .ok (.ldc 109, 2) := by decide +kernel
theorem dL_add_129 : decode cL_add 129 = .ok (.if_icmp .ne 7, 3) := by decide +kernel
theorem dL_add_132 : decode cL_add 132 = .ok (.iconst 0, 1) := by decide +kernel
theorem dL_add_133 : decode cL_add 133 = .ok (.goto 5, 3) := by decide +kernel
theorem dL_add_136 : decode cL_add 136 = .ok (.bipush (-9), 2) := by decide +kernel
theorem dL_add_138 : decode cL_add 138 = .ok (.ireturn, 1) := by decide +kernel
theorem dL_add_139 : decode cL_add 139 = .ok (.iload 9, 2) := by decide +kernel
theorem dL_add_141 : decode cL_add 141 = .ok (.iload 6, 2) := by decide +kernel
theorem dL_add_143 : decode cL_add 143 = .ok (.iload_n 2, 1) := by decide +kernel
theorem dL_add_144 : decode cL_add 144 = .ok (.iadd, 1) := by decide +kernel
theorem dL_add_145 : decode cL_add 145 = .ok (.if_icmp .ne 29, 3) := by decide +kernel
theorem dL_add_148 : decode cL_add 148 = .ok (.aload_n 0, 1) := by decide +kernel
theorem dL_add_149 : decode cL_add 149 = .ok (.iconst 2, 1) := by decide +kernel
theorem dL_add_150 : decode cL_add 150 = .ok (.invokevirtual 11, 3) := by decide +kernel
theorem dL_add_153 : decode cL_add 153 = .ok (.iload 8, 2) := by decide +kernel
theorem dL_add_155 : decode cL_add 155 = .ok (.iload_n 2, 1) := by decide +kernel
theorem dL_add_156 : decode cL_add 156 = .ok (.iadd, 1) := by decide +kernel
theorem dL_add_157 : decode cL_add 157 = .ok (.if_icmp .ne 17, 3) := by decide +kernel
theorem dL_add_160 : decode cL_add 160 = .ok (.aload_n 0, 1) := by decide +kernel
theorem dL_add_161 : decode cL_add 161 = .ok (.iconst 1, 1) := by decide +kernel
theorem dL_add_162 : decode cL_add 162 = .ok (.invokevirtual 110, 3) := by decide +kernel
theorem dL_add_165 : decode cL_add 165 = .ok (.iload 9, 2) := by decide +kernel
theorem dL_add_167 : decode cL_add 167 = .ok (.if_icmp .lt 7, 3) := by decide +kernel
theorem dL_add_170 : decode cL_add 170 = .ok (.iconst 1, 1) := by decide +kernel
theorem dL_add_171 : decode cL_add 171 = .ok (.goto 5, 3) := by decide +kernel
theorem dL_add_174 : decode cL_add 174 = .ok (.bipush (-9), 2) := by decide +kernel
theorem dL_add_176 : decode cL_add 176 = .ok (.ireturn, 1) := by decide +kernel
theorem dL_act_0 : decode cL_act 0 = .ok (.iload_n 1, 1) := by decide +kernel
theorem dL_act_1 : decode cL_act 1 = .ok (.bipush 16, 2) := by decide +kernel
theorem dL_act_3 : decode cL_act 3 = .ok (.irem, 1) := by decide +kernel
theorem dL_act_4 : decode cL_act 4 = .ok (.istore_n 2, 1) := by decide +kernel
theorem dL_act_5 : decode cL_act 5 = .ok (.iload_n 1, 1) := by decide +kernel
theorem dL_act_6 : decode cL_act 6 = .ok (.bipush 16, 2) := by decide +kernel
theorem dL_act_8 : decode cL_act 8 = .ok (.idiv, 1) := by decide +kernel
theorem dL_act_9 : decode cL_act 9 = .ok (.istore_n 3, 1) := by decide +kernel
theorem dL_act_10 : decode cL_act 10 = .ok (.iload_n 2, 1) := by decide +kernel
theorem dL_act_11 : decode cL_act 11 = .ok (.bipush 8, 2) := by decide +kernel
theorem dL_act_13 : decode cL_act 13 = .ok (.if_icmp .ge 9, 3) := by decide +kernel
theorem dL_act_16 : decode cL_act 16 = .ok (.aload_n 0, 1) := by decide +kernel
theorem dL_act_17 : decode cL_act 17 = .ok (.iload_n 3, 1) := by decide +kernel
theorem dL_act_18 : decode cL_act 18 = .ok (.invokestatic 114, 3) := by decide +kernel
theorem dL_act_21 : decode cL_act 21 = .ok (.ireturn, 1) := by decide +kernel
theorem dL_act_22 : decode cL_act 22 = .ok (.iload_n 2, 1) := by decide +kernel
theorem dL_act_23 : decode cL_act 23 = .ok (.bipush 11, 2) := by decide +kernel
theorem dL_act_25 : decode cL_act 25 = .ok (.if_icmp .ge 20, 3) := by decide +kernel
theorem dL_act_28 : decode cL_act 28 = .ok (.aload_n 0, 1) := by decide +kernel
theorem dL_act_29 : decode cL_act 29 = .ok (.iload_n 3, 1) := by decide +kernel
theorem dL_act_30 : decode cL_act 30 = .ok (.iload_n 2, 1) := by decide +kernel
theorem dL_act_31 : decode cL_act 31 = .ok (.bipush 10, 2) := by decide +kernel
theorem dL_act_33 : decode cL_act 33 = .ok (.if_icmp .ne 7, 3) := by decide +kernel
theorem dL_act_36 : decode cL_act 36 = .ok (.iconst 1, 1) := by decide +kernel
theorem dL_act_37 : decode cL_act 37 = .ok (.goto 4, 3) := by decide +kernel
theorem dL_act_40 : decode cL_act 40 = .ok (.iconst 0, 1) := by decide +kernel
theorem dL_act_41 : decode cL_act 41 = .ok (.invokestatic 118, 3) := by decide +kernel
theorem dL_act_44 : decode cL_act 44 = .ok (.ireturn, 1) := by decide +kernel
theorem dL_act_45 : decode cL_act 45 = .ok (.iload_n 2, 1) := by decide +kernel
theorem dL_act_46 : decode cL_act 46 = .ok (.bipush 11, 2) := by decide +kernel
theorem dL_act_48 : decode cL_act 48 = .ok (.if_icmp .ne 9, 3) := by decide +kernel
theorem dL_act_51 : decode cL_act 51 = .ok (.aload_n 0, 1) := by decide +kernel
theorem dL_act_52 : decode cL_act 52 = .ok (.iload_n 3, 1) := by decide +kernel
theorem dL_act_53 : decode cL_act 53 = .ok (.invokestatic 122, 3) := by decide +kernel
theorem dL_act_56 : decode cL_act 56 = .ok (.ireturn, 1) := by decide +kernel
theorem dL_act_57 : decode cL_act 57 = .ok (.iload_n 2, 1) := by decide +kernel
theorem dL_act_58 : decode cL_act 58 = .ok (.bipush 14, 2) := by decide +kernel
theorem dL_act_60 : decode cL_act 60 = .ok (.if_icmp .ge 9, 3) := by decide +kernel
theorem dL_act_63 : decode cL_act 63 = .ok (.aload_n 0, 1) := by decide +kernel
theorem dL_act_64 : decode cL_act 64 = .ok (.iload_n 3, 1) := by decide +kernel
theorem dL_act_65 : decode cL_act 65 = .ok (.invokestatic 125, 3) := by decide +kernel
theorem dL_act_68 : decode cL_act 68 = .ok (.ireturn, 1) := by decide +kernel
theorem dL_act_69 : decode cL_act 69 = .ok (.iload_n 2, 1) := by decide +kernel
theorem dL_act_70 : decode cL_act 70 = .ok (.bipush 14, 2) := by decide +kernel
theorem dL_act_72 : decode cL_act 72 = .ok (.if_icmp .ne 9, 3) := by decide +kernel
theorem dL_act_75 : decode cL_act 75 = .ok (.aload_n 0, 1) := by decide +kernel
theorem dL_act_76 : decode cL_act 76 = .ok (.iload_n 3, 1) := by decide +kernel
theorem dL_act_77 : decode cL_act 77 = .ok (.invokestatic 127, 3) := by decide +kernel
theorem dL_act_80 : decode cL_act 80 = .ok (.ireturn, 1) := by decide +kernel
theorem dL_act_81 : decode cL_act 81 = .ok (.aload_n 0, 1) := by decide +kernel
theorem dL_act_82 : decode cL_act 82 = .ok (.iconst 0, 1) := by decide +kernel
theorem dL_act_83 : decode cL_act 83 = .ok (.invokevirtual 11, 3) := by decide +kernel
theorem dL_act_86 : decode cL_act 86 = .ok (.istore 4, 2) := by decide +kernel
theorem dL_act_88 : decode cL_act 88 = .ok (.iload_n 3, 1) := by decide +kernel
theorem dL_act_89 : decode cL_act 89 = .ok (.iconst 4, 1) := by decide +kernel
theorem dL_act_90 : decode cL_act 90 = .ok (.irem, 1) := by decide +kernel
theorem dL_act_91 : decode cL_act 91 = .ok (.ifCond .ne 14, 3) := by decide +kernel
theorem dL_act_94 : decode cL_act 94 = .ok (.iconst 1, 1) := by decide +kernel
theorem dL_act_95 : decode cL_act 95 = .ok (.iload_n 3, 1) := by decide +kernel
theorem dL_act_96 : decode cL_act 96 = .ok (.iconst 4, 1) := by decide +kernel
theorem dL_act_97 : decode cL_act 97 = .ok (.idiv, 1) := by decide +kernel
theorem dL_act_98 : decode cL_act 98 = .ok (.bipush 7, 2) := by decide +kernel
theorem dL_act_100 : decode cL_act 100 = .ok (.irem, 1) := by decide +kernel
