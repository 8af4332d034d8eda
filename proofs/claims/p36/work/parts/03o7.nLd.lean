/-! the law's methods: their instructions, 7 -/
theorem dL_multiply_106 : decode cL_multiply 106 = .ok (.iadd, 1) := by decide +kernel
theorem dL_multiply_107 : decode cL_multiply 107 = .ok (.istore 6, 2) := by decide +kernel
theorem dL_multiply_109 : decode cL_multiply 109 = .ok (.iinc 7 1, 3) := by decide +kernel
theorem dL_multiply_112 : decode cL_multiply 112 = .ok (.goto (-61), 3) := by decide +kernel
theorem dL_multiply_115 : decode cL_multiply 115 = .ok (.aload_n 0, 1) := by decide +kernel
theorem dL_multiply_116 : decode cL_multiply 116 = .ok (.iload_n 3, 1) := by decide +kernel
theorem dL_multiply_117 : decode cL_multiply 117 = .ok (.iconst 0, 1) := by decide +kernel
theorem dL_multiply_118 : decode cL_multiply 118 = .ok (.invokevirtual 48, 3) := by decide +kernel
theorem dL_multiply_121 : decode cL_multiply 121 = .ok (.istore 7, 2) := by decide +kernel
theorem dL_multiply_123 : decode cL_multiply 123 = .ok (.aload_n 0, 1) := by decide +kernel
theorem dL_multiply_124 : decode cL_multiply 124 = .ok (.invokevirtual 93, 3) := by decide +kernel
theorem dL_multiply_127 : decode cL_multiply 127 = .ok (.lstore 8, 2) := by decide +kernel
theorem dL_multiply_129 : decode cL_multiply 129 = .ok (.aload_n 0, 1) := by decide +kernel
theorem dL_multiply_130 : decode cL_multiply 130 = .ok (.invokevirtual 97, 3) := by decide +kernel
theorem dL_multiply_133 : decode cL_multiply 133 = .ok (.lstore 10, 2) := by decide +kernel
theorem dL_multiply_135 : decode cL_multiply 135 = .ok (.aload_n 0, 1) := by decide +kernel
theorem dL_multiply_136 : decode cL_multiply 136 = .ok (.iload_n 3, 1) := by decide +kernel
theorem dL_multiply_137 : decode cL_multiply 137 = .ok (.iload 4, 2) := by decide +kernel
theorem dL_multiply_139 : decode cL_multiply 139 = .ok (.invokevirtual 41, 3) := by decide +kernel
theorem dL_multiply_142 : decode cL_multiply 142 = .ok (.istore 12, 2) := by decide +kernel
theorem dL_multiply_144 : decode cL_multiply 144 = .ok (.iload 5, 2) := by decide +kernel
theorem dL_multiply_146 : decode cL_multiply 146 = .ok (.iload 4, 2) := by decide +kernel
theorem dL_multiply_148 : decode cL_multiply 148 = .ok (.invokestatic 106, 3) := by decide +kernel
theorem dL_multiply_151 : decode cL_multiply 151 = .ok (.imul, 1) := by decide +kernel
theorem dL_multiply_152 : decode cL_multiply 152 = .ok (.bipush 20, 2) := by decide +kernel
theorem dL_multiply_154 : decode cL_multiply 154 = .ok (.if_icmp .le 17, 3) := by decide +kernel
theorem dL_multiply_157 : decode cL_multiply 157 = .ok (.iload 12, 2) := by decide +kernel
theorem dL_multiply_159 : decode cL_multiply 159 = .ok (.ldc 109, 2) := by decide +kernel
theorem dL_multiply_161 : decode cL_multiply 161 = .ok (.if_icmp .ne 7, 3) := by decide +kernel
theorem dL_multiply_164 : decode cL_multiply 164 = .ok (.iconst 0, 1) := by decide +kernel
theorem dL_multiply_165 : decode cL_multiply 165 = .ok (.goto 5, 3) := by decide +kernel
theorem dL_multiply_168 : decode cL_multiply 168 = .ok (.bipush (-9), 2) := by decide +kernel
theorem dL_multiply_170 : decode cL_multiply 170 = .ok (.ireturn, 1) := by decide +kernel
theorem dL_multiply_171 : decode cL_multiply 171 = .ok (.iload 12, 2) := by decide +kernel
theorem dL_multiply_173 : decode cL_multiply 173 = .ok (.iload 4, 2) := by decide +kernel
theorem dL_multiply_175 : decode cL_multiply 175 = .ok (.iconst 1, 1) := by decide +kernel
theorem dL_multiply_176 : decode cL_multiply 176 = .ok (.if_icmp .eq 8, 3) := by decide +kernel
theorem dL_multiply_179 : decode cL_multiply 179 = .ok (.iload 6, 2) := by decide +kernel
theorem dL_multiply_181 : decode cL_multiply 181 = .ok (.ifCond .ne 8, 3) := by decide +kernel
theorem dL_multiply_184 : decode cL_multiply 184 = .ok (.ldc 34, 2) := by decide +kernel
theorem dL_multiply_186 : decode cL_multiply 186 = .ok (.goto 5, 3) := by decide +kernel
theorem dL_multiply_189 : decode cL_multiply 189 = .ok (.iload 6, 2) := by decide +kernel
theorem dL_multiply_191 : decode cL_multiply 191 = .ok (.if_icmp .ne 49, 3) := by decide +kernel
theorem dL_multiply_194 : decode cL_multiply 194 = .ok (.aload_n 0, 1) := by decide +kernel
theorem dL_multiply_195 : decode cL_multiply 195 = .ok (.iload_n 3, 1) := by decide +kernel
theorem dL_multiply_196 : decode cL_multiply 196 = .ok (.iconst 0, 1) := by decide +kernel
theorem dL_multiply_197 : decode cL_multiply 197 = .ok (.invokevirtual 48, 3) := by decide +kernel
theorem dL_multiply_200 : decode cL_multiply 200 = .ok (.iload 4, 2) := by decide +kernel
theorem dL_multiply_202 : decode cL_multiply 202 = .ok (.iload 7, 2) := by decide +kernel
theorem dL_multiply_204 : decode cL_multiply 204 = .ok (.imul, 1) := by decide +kernel
theorem dL_multiply_205 : decode cL_multiply 205 = .ok (.if_icmp .ne 35, 3) := by decide +kernel
theorem dL_multiply_208 : decode cL_multiply 208 = .ok (.aload_n 0, 1) := by decide +kernel
theorem dL_multiply_209 : decode cL_multiply 209 = .ok (.invokevirtual 93, 3) := by decide +kernel
theorem dL_multiply_212 : decode cL_multiply 212 = .ok (.iload 4, 2) := by decide +kernel
theorem dL_multiply_214 : decode cL_multiply 214 = .ok (.i2l, 1) := by decide +kernel
theorem dL_multiply_215 : decode cL_multiply 215 = .ok (.lload 8, 2) := by decide +kernel
theorem dL_multiply_217 : decode cL_multiply 217 = .ok (.lmul, 1) := by decide +kernel
theorem dL_multiply_218 : decode cL_multiply 218 = .ok (.lcmp, 1) := by decide +kernel
theorem dL_multiply_219 : decode cL_multiply 219 = .ok (.ifCond .ne 21, 3) := by decide +kernel
theorem dL_multiply_222 : decode cL_multiply 222 = .ok (.aload_n 0, 1) := by decide +kernel
theorem dL_multiply_223 : decode cL_multiply 223 = .ok (.invokevirtual 97, 3) := by decide +kernel
theorem dL_multiply_226 : decode cL_multiply 226 = .ok (.iload 4, 2) := by decide +kernel
theorem dL_multiply_228 : decode cL_multiply 228 = .ok (.i2l, 1) := by decide +kernel
theorem dL_multiply_229 : decode cL_multiply 229 = .ok (.lload 10, 2) := by decide +kernel
theorem dL_multiply_231 : decode cL_multiply 231 = .ok (.lmul, 1) := by decide +kernel
theorem dL_multiply_232 : decode cL_multiply 232 = .ok (.lcmp, 1) := by decide +kernel
theorem dL_multiply_233 : decode cL_multiply 233 = .ok (.ifCond .ne 7, 3) := by decide +kernel
theorem dL_multiply_236 : decode cL_multiply 236 = .ok (.iconst 1, 1) := by decide +kernel
theorem dL_multiply_237 : decode cL_multiply 237 = .ok (.goto 4, 3) := by decide +kernel
theorem dL_multiply_240 : decode cL_multiply 240 = .ok (.iconst 0, 1) := by decide +kernel
theorem dL_multiply_241 : decode cL_multiply 241 = .ok (.istore 13, 2) := by decide +kernel
theorem dL_multiply_243 : decode cL_multiply 243 = .ok (.iload 13, 2) := by decide +kernel
theorem dL_multiply_245 : decode cL_multiply 245 = .ok (.ifCond .ne 8, 3) := by decide +kernel
theorem dL_multiply_248 : decode cL_multiply 248 = .ok (.bipush (-9), 2) := by decide +kernel
theorem dL_multiply_250 : decode cL_multiply 250 = .ok (.goto 15, 3) := by decide +kernel
theorem dL_multiply_253 : decode cL_multiply 253 = .ok (.iload 12, 2) := by decide +kernel
theorem dL_multiply_255 : decode cL_multiply 255 = .ok (.ldc 34, 2) := by decide +kernel
theorem dL_multiply_257 : decode cL_multiply 257 = .ok (.if_icmp .ne 7, 3) := by decide +kernel
theorem dL_multiply_260 : decode cL_multiply 260 = .ok (.iconst 0, 1) := by decide +kernel
theorem dL_multiply_261 : decode cL_multiply 261 = .ok (.goto 4, 3) := by decide +kernel
theorem dL_multiply_264 : decode cL_multiply 264 = .ok (.iconst 1, 1) := by decide +kernel
theorem dL_multiply_265 : decode cL_multiply 265 = .ok (.ireturn, 1) := by decide +kernel
theorem dL_add_0 : decode cL_add 0 = .ok (.aload_n 0, 1) := by decide +kernel
theorem dL_add_1 : decode cL_add 1 = .ok (.iconst 0, 1) := by decide +kernel
theorem dL_add_2 : decode cL_add 2 = .ok (.invokevirtual 11, 3) := by decide +kernel
theorem dL_add_5 : decode cL_add 5 = .ok (.istore_n 2, 1) := by decide +kernel
theorem dL_add_6 : decode cL_add 6 = .ok (.aload_n 0, 1) := by decide +kernel
theorem dL_add_7 : decode cL_add 7 = .ok (.iconst 0, 1) := by decide +kernel
theorem dL_add_8 : decode cL_add 8 = .ok (.invokevirtual 52, 3) := by decide +kernel
theorem dL_add_11 : decode cL_add 11 = .ok (.istore_n 3, 1) := by decide +kernel
theorem dL_add_12 : decode cL_add 12 = .ok (.iload_n 3, 1) := by decide +kernel
theorem dL_add_13 : decode cL_add 13 = .ok (.ifCond .lt 13, 3) := by decide +kernel
theorem dL_add_16 : decode cL_add 16 = .ok (.iload_n 1, 1) := by decide +kernel
theorem dL_add_17 : decode cL_add 17 = .ok (.iconst 2, 1) := by decide +kernel
theorem dL_add_18 : decode cL_add 18 = .ok (.irem, 1) := by decide +kernel
theorem dL_add_19 : decode cL_add 19 = .ok (.ifCond .ne 7, 3) := by decide +kernel
theorem dL_add_22 : decode cL_add 22 = .ok (.iload_n 3, 1) := by decide +kernel
theorem dL_add_23 : decode cL_add 23 = .ok (.goto 8, 3) := by decide +kernel
theorem dL_add_26 : decode cL_add 26 = .ok (.aload_n 0, 1) := by decide +kernel
theorem dL_add_27 : decode cL_add 27 = .ok (.iconst 0, 1) := by decide +kernel
theorem dL_add_28 : decode cL_add 28 = .ok (.invokevirtual 110, 3) := by decide +kernel
theorem dL_add_31 : decode cL_add 31 = .ok (.istore 4, 2) := by decide +kernel
theorem dL_add_33 : decode cL_add 33 = .ok (.iload 4, 2) := by decide +kernel
theorem dL_add_35 : decode cL_add 35 = .ok (.istore 5, 2) := by decide +kernel
theorem dL_add_37 : decode cL_add 37 = .ok (.iconst 0, 1) := by decide +kernel
theorem dL_add_38 : decode cL_add 38 = .ok (.istore 6, 2) := by decide +kernel
theorem dL_add_40 : decode cL_add 40 = .ok (.bipush (-20), 2) := by decide +kernel
theorem dL_add_42 : decode cL_add 42 = .ok (.istore 7, 2) := by decide +kernel
theorem dL_add_44 : decode cL_add 44 = .ok (.iload_n 2, 1) := by decide +kernel
theorem dL_add_45 : decode cL_add 45 = .ok (.iconst 1, 1) := by decide +kernel
theorem dL_add_46 : decode cL_add 46 = .ok (.isub, 1) := by decide +kernel
theorem dL_add_47 : decode cL_add 47 = .ok (.istore 8, 2) := by decide +kernel
theorem dL_add_49 : decode cL_add 49 = .ok (.iload 8, 2) := by decide +kernel
theorem dL_add_51 : decode cL_add 51 = .ok (.ifCond .lt 52, 3) := by decide +kernel
theorem dL_add_54 : decode cL_add 54 = .ok (.aload_n 0, 1) := by decide +kernel
theorem dL_add_55 : decode cL_add 55 = .ok (.iload 8, 2) := by decide +kernel
theorem dL_add_57 : decode cL_add 57 = .ok (.iload 5, 2) := by decide +kernel
theorem dL_add_59 : decode cL_add 59 = .ok (.bipush 10, 2) := by decide +kernel
theorem dL_add_61 : decode cL_add 61 = .ok (.irem, 1) := by decide +kernel
theorem dL_add_62 : decode cL_add 62 = .ok (.invokevirtual 19, 3) := by decide +kernel
