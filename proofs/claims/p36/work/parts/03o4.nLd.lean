/-! the law's methods: their instructions, 4 -/
theorem dL_setEntry_96 : decode cL_setEntry 96 = .ok (.ldc 34, 2) := by decide +kernel
theorem dL_setEntry_98 : decode cL_setEntry 98 = .ok (.goto 5, 3) := by decide +kernel
theorem dL_setEntry_101 : decode cL_setEntry 101 = .ok (.iload 6, 2) := by decide +kernel
theorem dL_setEntry_103 : decode cL_setEntry 103 = .ok (.if_icmp .ne 52, 3) := by decide +kernel
theorem dL_setEntry_106 : decode cL_setEntry 106 = .ok (.aload_n 0, 1) := by decide +kernel
theorem dL_setEntry_107 : decode cL_setEntry 107 = .ok (.iload_n 3, 1) := by decide +kernel
theorem dL_setEntry_108 : decode cL_setEntry 108 = .ok (.iload 4, 2) := by decide +kernel
theorem dL_setEntry_110 : decode cL_setEntry 110 = .ok (.invokevirtual 19, 3) := by decide +kernel
theorem dL_setEntry_113 : decode cL_setEntry 113 = .ok (.iload 5, 2) := by decide +kernel
theorem dL_setEntry_115 : decode cL_setEntry 115 = .ok (.if_icmp .ne 40, 3) := by decide +kernel
theorem dL_setEntry_118 : decode cL_setEntry 118 = .ok (.aload_n 0, 1) := by decide +kernel
theorem dL_setEntry_119 : decode cL_setEntry 119 = .ok (.iload_n 3, 1) := by decide +kernel
theorem dL_setEntry_120 : decode cL_setEntry 120 = .ok (.iload 4, 2) := by decide +kernel
theorem dL_setEntry_122 : decode cL_setEntry 122 = .ok (.invokevirtual 61, 3) := by decide +kernel
theorem dL_setEntry_125 : decode cL_setEntry 125 = .ok (.lload 9, 2) := by decide +kernel
theorem dL_setEntry_127 : decode cL_setEntry 127 = .ok (.lcmp, 1) := by decide +kernel
theorem dL_setEntry_128 : decode cL_setEntry 128 = .ok (.ifCond .ne 27, 3) := by decide +kernel
theorem dL_setEntry_131 : decode cL_setEntry 131 = .ok (.aload_n 0, 1) := by decide +kernel
theorem dL_setEntry_132 : decode cL_setEntry 132 = .ok (.invokevirtual 93, 3) := by decide +kernel
theorem dL_setEntry_135 : decode cL_setEntry 135 = .ok (.lload 7, 2) := by decide +kernel
theorem dL_setEntry_137 : decode cL_setEntry 137 = .ok (.iload 5, 2) := by decide +kernel
theorem dL_setEntry_139 : decode cL_setEntry 139 = .ok (.iload 6, 2) := by decide +kernel
theorem dL_setEntry_141 : decode cL_setEntry 141 = .ok (.isub, 1) := by decide +kernel
theorem dL_setEntry_142 : decode cL_setEntry 142 = .ok (.i2l, 1) := by decide +kernel
theorem dL_setEntry_143 : decode cL_setEntry 143 = .ok (.lload 9, 2) := by decide +kernel
theorem dL_setEntry_145 : decode cL_setEntry 145 = .ok (.lmul, 1) := by decide +kernel
theorem dL_setEntry_146 : decode cL_setEntry 146 = .ok (.ladd, 1) := by decide +kernel
theorem dL_setEntry_147 : decode cL_setEntry 147 = .ok (.lcmp, 1) := by decide +kernel
theorem dL_setEntry_148 : decode cL_setEntry 148 = .ok (.ifCond .ne 7, 3) := by decide +kernel
theorem dL_setEntry_151 : decode cL_setEntry 151 = .ok (.iconst 1, 1) := by decide +kernel
theorem dL_setEntry_152 : decode cL_setEntry 152 = .ok (.goto 4, 3) := by decide +kernel
theorem dL_setEntry_155 : decode cL_setEntry 155 = .ok (.iconst 0, 1) := by decide +kernel
theorem dL_setEntry_156 : decode cL_setEntry 156 = .ok (.istore 12, 2) := by decide +kernel
theorem dL_setEntry_158 : decode cL_setEntry 158 = .ok (.iload 12, 2) := by decide +kernel
theorem dL_setEntry_160 : decode cL_setEntry 160 = .ok (.ifCond .ne 8, 3) := by decide +kernel
theorem dL_setEntry_163 : decode cL_setEntry 163 = .ok (.bipush (-9), 2) := by decide +kernel
theorem dL_setEntry_165 : decode cL_setEntry 165 = .ok (.goto 15, 3) := by decide +kernel
theorem dL_setEntry_168 : decode cL_setEntry 168 = .ok (.iload 11, 2) := by decide +kernel
theorem dL_setEntry_170 : decode cL_setEntry 170 = .ok (.ldc 34, 2) := by decide +kernel
theorem dL_setEntry_172 : decode cL_setEntry 172 = .ok (.if_icmp .ne 7, 3) := by decide +kernel
theorem dL_setEntry_175 : decode cL_setEntry 175 = .ok (.iconst 0, 1) := by decide +kernel
theorem dL_setEntry_176 : decode cL_setEntry 176 = .ok (.goto 4, 3) := by decide +kernel
theorem dL_setEntry_179 : decode cL_setEntry 179 = .ok (.iconst 1, 1) := by decide +kernel
theorem dL_setEntry_180 : decode cL_setEntry 180 = .ok (.ireturn, 1) := by decide +kernel
theorem dL_exchange_0 : decode cL_exchange 0 = .ok (.aload_n 0, 1) := by decide +kernel
theorem dL_exchange_1 : decode cL_exchange 1 = .ok (.iconst 0, 1) := by decide +kernel
theorem dL_exchange_2 : decode cL_exchange 2 = .ok (.invokevirtual 11, 3) := by decide +kernel
theorem dL_exchange_5 : decode cL_exchange 5 = .ok (.istore_n 3, 1) := by decide +kernel
theorem dL_exchange_6 : decode cL_exchange 6 = .ok (.iload_n 1, 1) := by decide +kernel
theorem dL_exchange_7 : decode cL_exchange 7 = .ok (.iload_n 3, 1) := by decide +kernel
theorem dL_exchange_8 : decode cL_exchange 8 = .ok (.irem, 1) := by decide +kernel
theorem dL_exchange_9 : decode cL_exchange 9 = .ok (.istore 4, 2) := by decide +kernel
theorem dL_exchange_11 : decode cL_exchange 11 = .ok (.iload_n 1, 1) := by decide +kernel
theorem dL_exchange_12 : decode cL_exchange 12 = .ok (.bipush 7, 2) := by decide +kernel
theorem dL_exchange_14 : decode cL_exchange 14 = .ok (.idiv, 1) := by decide +kernel
theorem dL_exchange_15 : decode cL_exchange 15 = .ok (.iload_n 3, 1) := by decide +kernel
theorem dL_exchange_16 : decode cL_exchange 16 = .ok (.irem, 1) := by decide +kernel
theorem dL_exchange_17 : decode cL_exchange 17 = .ok (.istore 5, 2) := by decide +kernel
theorem dL_exchange_19 : decode cL_exchange 19 = .ok (.iconst 0, 1) := by decide +kernel
theorem dL_exchange_20 : decode cL_exchange 20 = .ok (.istore 6, 2) := by decide +kernel
theorem dL_exchange_22 : decode cL_exchange 22 = .ok (.iconst 0, 1) := by decide +kernel
theorem dL_exchange_23 : decode cL_exchange 23 = .ok (.istore 7, 2) := by decide +kernel
theorem dL_exchange_25 : decode cL_exchange 25 = .ok (.iload 7, 2) := by decide +kernel
theorem dL_exchange_27 : decode cL_exchange 27 = .ok (.iload_n 3, 1) := by decide +kernel
theorem dL_exchange_28 : decode cL_exchange 28 = .ok (.if_icmp .ge 81, 3) := by decide +kernel
theorem dL_exchange_31 : decode cL_exchange 31 = .ok (.iload_n 2, 1) := by decide +kernel
theorem dL_exchange_32 : decode cL_exchange 32 = .ok (.ifCond .eq 30, 3) := by decide +kernel
theorem dL_exchange_35 : decode cL_exchange 35 = .ok (.aload_n 0, 1) := by decide +kernel
theorem dL_exchange_36 : decode cL_exchange 36 = .ok (.iload 7, 2) := by decide +kernel
theorem dL_exchange_38 : decode cL_exchange 38 = .ok (.iload 4, 2) := by decide +kernel
theorem dL_exchange_40 : decode cL_exchange 40 = .ok (.invokevirtual 19, 3) := by decide +kernel
theorem dL_exchange_43 : decode cL_exchange 43 = .ok (.aload_n 0, 1) := by decide +kernel
theorem dL_exchange_44 : decode cL_exchange 44 = .ok (.iload 7, 2) := by decide +kernel
theorem dL_exchange_46 : decode cL_exchange 46 = .ok (.iload 5, 2) := by decide +kernel
theorem dL_exchange_48 : decode cL_exchange 48 = .ok (.invokevirtual 19, 3) := by decide +kernel
theorem dL_exchange_51 : decode cL_exchange 51 = .ok (.if_icmp .ne 7, 3) := by decide +kernel
theorem dL_exchange_54 : decode cL_exchange 54 = .ok (.iconst 1, 1) := by decide +kernel
theorem dL_exchange_55 : decode cL_exchange 55 = .ok (.goto 31, 3) := by decide +kernel
theorem dL_exchange_58 : decode cL_exchange 58 = .ok (.iconst 0, 1) := by decide +kernel
theorem dL_exchange_59 : decode cL_exchange 59 = .ok (.goto 27, 3) := by decide +kernel
theorem dL_exchange_62 : decode cL_exchange 62 = .ok (.aload_n 0, 1) := by decide +kernel
theorem dL_exchange_63 : decode cL_exchange 63 = .ok (.iload 4, 2) := by decide +kernel
theorem dL_exchange_65 : decode cL_exchange 65 = .ok (.iload 7, 2) := by decide +kernel
theorem dL_exchange_67 : decode cL_exchange 67 = .ok (.invokevirtual 19, 3) := by decide +kernel
theorem dL_exchange_70 : decode cL_exchange 70 = .ok (.aload_n 0, 1) := by decide +kernel
theorem dL_exchange_71 : decode cL_exchange 71 = .ok (.iload 5, 2) := by decide +kernel
theorem dL_exchange_73 : decode cL_exchange 73 = .ok (.iload 7, 2) := by decide +kernel
theorem dL_exchange_75 : decode cL_exchange 75 = .ok (.invokevirtual 19, 3) := by decide +kernel
theorem dL_exchange_78 : decode cL_exchange 78 = .ok (.if_icmp .ne 7, 3) := by decide +kernel
theorem dL_exchange_81 : decode cL_exchange 81 = .ok (.iconst 1, 1) := by decide +kernel
theorem dL_exchange_82 : decode cL_exchange 82 = .ok (.goto 4, 3) := by decide +kernel
theorem dL_exchange_85 : decode cL_exchange 85 = .ok (.iconst 0, 1) := by decide +kernel
theorem dL_exchange_86 : decode cL_exchange 86 = .ok (.istore 8, 2) := by decide +kernel
theorem dL_exchange_88 : decode cL_exchange 88 = .ok (.iload 6, 2) := by decide +kernel
theorem dL_exchange_90 : decode cL_exchange 90 = .ok (.iload 8, 2) := by decide +kernel
theorem dL_exchange_92 : decode cL_exchange 92 = .ok (.ifCond .eq 7, 3) := by decide +kernel
theorem dL_exchange_95 : decode cL_exchange 95 = .ok (.iconst 0, 1) := by decide +kernel
theorem dL_exchange_96 : decode cL_exchange 96 = .ok (.goto 4, 3) := by decide +kernel
theorem dL_exchange_99 : decode cL_exchange 99 = .ok (.iconst 2, 1) := by decide +kernel
theorem dL_exchange_100 : decode cL_exchange 100 = .ok (.iadd, 1) := by decide +kernel
theorem dL_exchange_101 : decode cL_exchange 101 = .ok (.istore 6, 2) := by decide +kernel
theorem dL_exchange_103 : decode cL_exchange 103 = .ok (.iinc 7 1, 3) := by decide +kernel
theorem dL_exchange_106 : decode cL_exchange 106 = .ok (.goto (-81), 3) := by decide +kernel
theorem dL_exchange_109 : decode cL_exchange 109 = .ok (.aload_n 0, 1) := by decide +kernel
theorem dL_exchange_110 : decode cL_exchange 110 = .ok (.invokevirtual 93, 3) := by decide +kernel
theorem dL_exchange_113 : decode cL_exchange 113 = .ok (.lstore 7, 2) := by decide +kernel
theorem dL_exchange_115 : decode cL_exchange 115 = .ok (.aload_n 0, 1) := by decide +kernel
theorem dL_exchange_116 : decode cL_exchange 116 = .ok (.invokevirtual 97, 3) := by decide +kernel
theorem dL_exchange_119 : decode cL_exchange 119 = .ok (.lstore 9, 2) := by decide +kernel
theorem dL_exchange_121 : decode cL_exchange 121 = .ok (.aload_n 0, 1) := by decide +kernel
theorem dL_exchange_122 : decode cL_exchange 122 = .ok (.invokevirtual 100, 3) := by decide +kernel
theorem dL_exchange_125 : decode cL_exchange 125 = .ok (.istore 11, 2) := by decide +kernel
theorem dL_exchange_127 : decode cL_exchange 127 = .ok (.iload_n 2, 1) := by decide +kernel
theorem dL_exchange_128 : decode cL_exchange 128 = .ok (.ifCond .eq 13, 3) := by decide +kernel
theorem dL_exchange_131 : decode cL_exchange 131 = .ok (.aload_n 0, 1) := by decide +kernel
theorem dL_exchange_132 : decode cL_exchange 132 = .ok (.iconst 0, 1) := by decide +kernel
theorem dL_exchange_133 : decode cL_exchange 133 = .ok (.iload 4, 2) := by decide +kernel
theorem dL_exchange_135 : decode cL_exchange 135 = .ok (.invokevirtual 19, 3) := by decide +kernel
theorem dL_exchange_138 : decode cL_exchange 138 = .ok (.goto 10, 3) := by decide +kernel
theorem dL_exchange_141 : decode cL_exchange 141 = .ok (.aload_n 0, 1) := by decide +kernel
