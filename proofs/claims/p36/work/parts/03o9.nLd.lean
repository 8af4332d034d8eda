/-! the law's methods: their instructions, 9 -/
theorem dL_act_101 : decode cL_act 101 = .ok (.iadd, 1) := by decide +kernel
theorem dL_act_102 : decode cL_act 102 = .ok (.goto 5, 3) := by decide +kernel
theorem dL_act_105 : decode cL_act 105 = .ok (.iload 4, 2) := by decide +kernel
theorem dL_act_107 : decode cL_act 107 = .ok (.istore 5, 2) := by decide +kernel
theorem dL_act_109 : decode cL_act 109 = .ok (.aload_n 0, 1) := by decide +kernel
theorem dL_act_110 : decode cL_act 110 = .ok (.iload 5, 2) := by decide +kernel
theorem dL_act_112 : decode cL_act 112 = .ok (.invokevirtual 23, 3) := by decide +kernel
theorem dL_act_115 : decode cL_act 115 = .ok (.iload 4, 2) := by decide +kernel
theorem dL_act_117 : decode cL_act 117 = .ok (.if_icmp .ne 66, 3) := by decide +kernel
theorem dL_act_120 : decode cL_act 120 = .ok (.aload_n 0, 1) := by decide +kernel
theorem dL_act_121 : decode cL_act 121 = .ok (.iconst 0, 1) := by decide +kernel
theorem dL_act_122 : decode cL_act 122 = .ok (.invokevirtual 11, 3) := by decide +kernel
theorem dL_act_125 : decode cL_act 125 = .ok (.iload 5, 2) := by decide +kernel
theorem dL_act_127 : decode cL_act 127 = .ok (.if_icmp .ne 56, 3) := by decide +kernel
theorem dL_act_130 : decode cL_act 130 = .ok (.aload_n 0, 1) := by decide +kernel
theorem dL_act_131 : decode cL_act 131 = .ok (.iconst 1, 1) := by decide +kernel
theorem dL_act_132 : decode cL_act 132 = .ok (.invokevirtual 11, 3) := by decide +kernel
theorem dL_act_135 : decode cL_act 135 = .ok (.ifCond .ne 48, 3) := by decide +kernel
theorem dL_act_138 : decode cL_act 138 = .ok (.aload_n 0, 1) := by decide +kernel
theorem dL_act_139 : decode cL_act 139 = .ok (.invokevirtual 93, 3) := by decide +kernel
theorem dL_act_142 : decode cL_act 142 = .ok (.lconst 0, 1) := by decide +kernel
theorem dL_act_143 : decode cL_act 143 = .ok (.lcmp, 1) := by decide +kernel
theorem dL_act_144 : decode cL_act 144 = .ok (.ifCond .ne 39, 3) := by decide +kernel
theorem dL_act_147 : decode cL_act 147 = .ok (.aload_n 0, 1) := by decide +kernel
theorem dL_act_148 : decode cL_act 148 = .ok (.invokevirtual 100, 3) := by decide +kernel
theorem dL_act_151 : decode cL_act 151 = .ok (.ifCond .ne 32, 3) := by decide +kernel
theorem dL_act_154 : decode cL_act 154 = .ok (.aload_n 0, 1) := by decide +kernel
theorem dL_act_155 : decode cL_act 155 = .ok (.iconst 1, 1) := by decide +kernel
theorem dL_act_156 : decode cL_act 156 = .ok (.invokevirtual 110, 3) := by decide +kernel
theorem dL_act_159 : decode cL_act 159 = .ok (.ifCond .ne 24, 3) := by decide +kernel
theorem dL_act_162 : decode cL_act 162 = .ok (.aload_n 0, 1) := by decide +kernel
theorem dL_act_163 : decode cL_act 163 = .ok (.iconst 0, 1) := by decide +kernel
theorem dL_act_164 : decode cL_act 164 = .ok (.invokevirtual 129, 3) := by decide +kernel
theorem dL_act_167 : decode cL_act 167 = .ok (.iconst 1, 1) := by decide +kernel
theorem dL_act_168 : decode cL_act 168 = .ok (.if_icmp .ne 15, 3) := by decide +kernel
theorem dL_act_171 : decode cL_act 171 = .ok (.aload_n 0, 1) := by decide +kernel
theorem dL_act_172 : decode cL_act 172 = .ok (.invokevirtual 132, 3) := by decide +kernel
theorem dL_act_175 : decode cL_act 175 = .ok (.iconst 1, 1) := by decide +kernel
theorem dL_act_176 : decode cL_act 176 = .ok (.if_icmp .ne 7, 3) := by decide +kernel
theorem dL_act_179 : decode cL_act 179 = .ok (.iconst 1, 1) := by decide +kernel
theorem dL_act_180 : decode cL_act 180 = .ok (.goto 5, 3) := by decide +kernel
theorem dL_act_183 : decode cL_act 183 = .ok (.bipush (-9), 2) := by decide +kernel
theorem dL_act_185 : decode cL_act 185 = .ok (.ireturn, 1) := by decide +kernel
