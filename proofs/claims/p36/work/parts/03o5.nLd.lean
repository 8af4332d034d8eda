/-! the law's methods: their instructions, 5 -/
theorem dL_exchange_142 : decode cL_exchange 142 = .ok (.iload 4, 2) := by decide +kernel
theorem dL_exchange_144 : decode cL_exchange 144 = .ok (.iconst 0, 1) := by decide +kernel
theorem dL_exchange_145 : decode cL_exchange 145 = .ok (.invokevirtual 19, 3) := by decide +kernel
theorem dL_exchange_148 : decode cL_exchange 148 = .ok (.istore 12, 2) := by decide +kernel
theorem dL_exchange_150 : decode cL_exchange 150 = .ok (.iload_n 2, 1) := by decide +kernel
theorem dL_exchange_151 : decode cL_exchange 151 = .ok (.ifCond .eq 14, 3) := by decide +kernel
theorem dL_exchange_154 : decode cL_exchange 154 = .ok (.aload_n 0, 1) := by decide +kernel
theorem dL_exchange_155 : decode cL_exchange 155 = .ok (.iload 4, 2) := by decide +kernel
theorem dL_exchange_157 : decode cL_exchange 157 = .ok (.iload 5, 2) := by decide +kernel
theorem dL_exchange_159 : decode cL_exchange 159 = .ok (.invokevirtual 38, 3) := by decide +kernel
theorem dL_exchange_162 : decode cL_exchange 162 = .ok (.goto 11, 3) := by decide +kernel
theorem dL_exchange_165 : decode cL_exchange 165 = .ok (.aload_n 0, 1) := by decide +kernel
theorem dL_exchange_166 : decode cL_exchange 166 = .ok (.iload 4, 2) := by decide +kernel
theorem dL_exchange_168 : decode cL_exchange 168 = .ok (.iload 5, 2) := by decide +kernel
theorem dL_exchange_170 : decode cL_exchange 170 = .ok (.invokevirtual 35, 3) := by decide +kernel
theorem dL_exchange_173 : decode cL_exchange 173 = .ok (.istore 13, 2) := by decide +kernel
theorem dL_exchange_175 : decode cL_exchange 175 = .ok (.iload 13, 2) := by decide +kernel
theorem dL_exchange_177 : decode cL_exchange 177 = .ok (.iload 6, 2) := by decide +kernel
theorem dL_exchange_179 : decode cL_exchange 179 = .ok (.ifCond .ne 8, 3) := by decide +kernel
theorem dL_exchange_182 : decode cL_exchange 182 = .ok (.ldc 34, 2) := by decide +kernel
theorem dL_exchange_184 : decode cL_exchange 184 = .ok (.goto 5, 3) := by decide +kernel
theorem dL_exchange_187 : decode cL_exchange 187 = .ok (.iload 6, 2) := by decide +kernel
theorem dL_exchange_189 : decode cL_exchange 189 = .ok (.if_icmp .ne 75, 3) := by decide +kernel
theorem dL_exchange_192 : decode cL_exchange 192 = .ok (.aload_n 0, 1) := by decide +kernel
theorem dL_exchange_193 : decode cL_exchange 193 = .ok (.invokevirtual 93, 3) := by decide +kernel
theorem dL_exchange_196 : decode cL_exchange 196 = .ok (.lload 7, 2) := by decide +kernel
theorem dL_exchange_198 : decode cL_exchange 198 = .ok (.lcmp, 1) := by decide +kernel
theorem dL_exchange_199 : decode cL_exchange 199 = .ok (.ifCond .ne 65, 3) := by decide +kernel
theorem dL_exchange_202 : decode cL_exchange 202 = .ok (.aload_n 0, 1) := by decide +kernel
theorem dL_exchange_203 : decode cL_exchange 203 = .ok (.invokevirtual 97, 3) := by decide +kernel
theorem dL_exchange_206 : decode cL_exchange 206 = .ok (.iload 4, 2) := by decide +kernel
theorem dL_exchange_208 : decode cL_exchange 208 = .ok (.iload 5, 2) := by decide +kernel
theorem dL_exchange_210 : decode cL_exchange 210 = .ok (.if_icmp .ne 8, 3) := by decide +kernel
theorem dL_exchange_213 : decode cL_exchange 213 = .ok (.lload 9, 2) := by decide +kernel
theorem dL_exchange_215 : decode cL_exchange 215 = .ok (.goto 6, 3) := by decide +kernel
theorem dL_exchange_218 : decode cL_exchange 218 = .ok (.lload 9, 2) := by decide +kernel
theorem dL_exchange_220 : decode cL_exchange 220 = .ok (.lneg, 1) := by decide +kernel
theorem dL_exchange_221 : decode cL_exchange 221 = .ok (.lcmp, 1) := by decide +kernel
theorem dL_exchange_222 : decode cL_exchange 222 = .ok (.ifCond .ne 42, 3) := by decide +kernel
theorem dL_exchange_225 : decode cL_exchange 225 = .ok (.aload_n 0, 1) := by decide +kernel
theorem dL_exchange_226 : decode cL_exchange 226 = .ok (.invokevirtual 100, 3) := by decide +kernel
theorem dL_exchange_229 : decode cL_exchange 229 = .ok (.iload 11, 2) := by decide +kernel
theorem dL_exchange_231 : decode cL_exchange 231 = .ok (.if_icmp .ne 33, 3) := by decide +kernel
theorem dL_exchange_234 : decode cL_exchange 234 = .ok (.iload_n 2, 1) := by decide +kernel
theorem dL_exchange_235 : decode cL_exchange 235 = .ok (.ifCond .eq 13, 3) := by decide +kernel
theorem dL_exchange_238 : decode cL_exchange 238 = .ok (.aload_n 0, 1) := by decide +kernel
theorem dL_exchange_239 : decode cL_exchange 239 = .ok (.iconst 0, 1) := by decide +kernel
theorem dL_exchange_240 : decode cL_exchange 240 = .ok (.iload 5, 2) := by decide +kernel
theorem dL_exchange_242 : decode cL_exchange 242 = .ok (.invokevirtual 19, 3) := by decide +kernel
theorem dL_exchange_245 : decode cL_exchange 245 = .ok (.goto 10, 3) := by decide +kernel
theorem dL_exchange_248 : decode cL_exchange 248 = .ok (.aload_n 0, 1) := by decide +kernel
theorem dL_exchange_249 : decode cL_exchange 249 = .ok (.iload 5, 2) := by decide +kernel
theorem dL_exchange_251 : decode cL_exchange 251 = .ok (.iconst 0, 1) := by decide +kernel
theorem dL_exchange_252 : decode cL_exchange 252 = .ok (.invokevirtual 19, 3) := by decide +kernel
theorem dL_exchange_255 : decode cL_exchange 255 = .ok (.iload 12, 2) := by decide +kernel
theorem dL_exchange_257 : decode cL_exchange 257 = .ok (.if_icmp .ne 7, 3) := by decide +kernel
theorem dL_exchange_260 : decode cL_exchange 260 = .ok (.iconst 1, 1) := by decide +kernel
theorem dL_exchange_261 : decode cL_exchange 261 = .ok (.goto 4, 3) := by decide +kernel
theorem dL_exchange_264 : decode cL_exchange 264 = .ok (.iconst 0, 1) := by decide +kernel
theorem dL_exchange_265 : decode cL_exchange 265 = .ok (.istore 14, 2) := by decide +kernel
theorem dL_exchange_267 : decode cL_exchange 267 = .ok (.iload 14, 2) := by decide +kernel
theorem dL_exchange_269 : decode cL_exchange 269 = .ok (.ifCond .ne 8, 3) := by decide +kernel
theorem dL_exchange_272 : decode cL_exchange 272 = .ok (.bipush (-9), 2) := by decide +kernel
theorem dL_exchange_274 : decode cL_exchange 274 = .ok (.goto 15, 3) := by decide +kernel
theorem dL_exchange_277 : decode cL_exchange 277 = .ok (.iload 13, 2) := by decide +kernel
theorem dL_exchange_279 : decode cL_exchange 279 = .ok (.ldc 34, 2) := by decide +kernel
theorem dL_exchange_281 : decode cL_exchange 281 = .ok (.if_icmp .ne 7, 3) := by decide +kernel
theorem dL_exchange_284 : decode cL_exchange 284 = .ok (.iconst 0, 1) := by decide +kernel
theorem dL_exchange_285 : decode cL_exchange 285 = .ok (.goto 4, 3) := by decide +kernel
theorem dL_exchange_288 : decode cL_exchange 288 = .ok (.iconst 1, 1) := by decide +kernel
theorem dL_exchange_289 : decode cL_exchange 289 = .ok (.ireturn, 1) := by decide +kernel
theorem dL_turn_0 : decode cL_turn 0 = .ok (.aload_n 0, 1) := by decide +kernel
theorem dL_turn_1 : decode cL_turn 1 = .ok (.iconst 0, 1) := by decide +kernel
theorem dL_turn_2 : decode cL_turn 2 = .ok (.invokevirtual 11, 3) := by decide +kernel
theorem dL_turn_5 : decode cL_turn 5 = .ok (.istore_n 2, 1) := by decide +kernel
theorem dL_turn_6 : decode cL_turn 6 = .ok (.aload_n 0, 1) := by decide +kernel
theorem dL_turn_7 : decode cL_turn 7 = .ok (.iconst 5, 1) := by decide +kernel
theorem dL_turn_8 : decode cL_turn 8 = .ok (.invokevirtual 11, 3) := by decide +kernel
theorem dL_turn_11 : decode cL_turn 11 = .ok (.istore_n 3, 1) := by decide +kernel
theorem dL_turn_12 : decode cL_turn 12 = .ok (.iload_n 1, 1) := by decide +kernel
theorem dL_turn_13 : decode cL_turn 13 = .ok (.iload_n 2, 1) := by decide +kernel
theorem dL_turn_14 : decode cL_turn 14 = .ok (.irem, 1) := by decide +kernel
theorem dL_turn_15 : decode cL_turn 15 = .ok (.istore 4, 2) := by decide +kernel
theorem dL_turn_17 : decode cL_turn 17 = .ok (.iload_n 1, 1) := by decide +kernel
theorem dL_turn_18 : decode cL_turn 18 = .ok (.bipush 7, 2) := by decide +kernel
theorem dL_turn_20 : decode cL_turn 20 = .ok (.idiv, 1) := by decide +kernel
theorem dL_turn_21 : decode cL_turn 21 = .ok (.iload_n 2, 1) := by decide +kernel
theorem dL_turn_22 : decode cL_turn 22 = .ok (.irem, 1) := by decide +kernel
theorem dL_turn_23 : decode cL_turn 23 = .ok (.istore 5, 2) := by decide +kernel
theorem dL_turn_25 : decode cL_turn 25 = .ok (.aload_n 0, 1) := by decide +kernel
theorem dL_turn_26 : decode cL_turn 26 = .ok (.iload 4, 2) := by decide +kernel
theorem dL_turn_28 : decode cL_turn 28 = .ok (.iload 5, 2) := by decide +kernel
theorem dL_turn_30 : decode cL_turn 30 = .ok (.invokevirtual 19, 3) := by decide +kernel
theorem dL_turn_33 : decode cL_turn 33 = .ok (.istore 6, 2) := by decide +kernel
theorem dL_turn_35 : decode cL_turn 35 = .ok (.aload_n 0, 1) := by decide +kernel
theorem dL_turn_36 : decode cL_turn 36 = .ok (.invokevirtual 93, 3) := by decide +kernel
theorem dL_turn_39 : decode cL_turn 39 = .ok (.lstore 7, 2) := by decide +kernel
theorem dL_turn_41 : decode cL_turn 41 = .ok (.aload_n 0, 1) := by decide +kernel
theorem dL_turn_42 : decode cL_turn 42 = .ok (.invokevirtual 97, 3) := by decide +kernel
theorem dL_turn_45 : decode cL_turn 45 = .ok (.lstore 9, 2) := by decide +kernel
theorem dL_turn_47 : decode cL_turn 47 = .ok (.aload_n 0, 1) := by decide +kernel
theorem dL_turn_48 : decode cL_turn 48 = .ok (.iload_n 2, 1) := by decide +kernel
theorem dL_turn_49 : decode cL_turn 49 = .ok (.iconst 2, 1) := by decide +kernel
theorem dL_turn_50 : decode cL_turn 50 = .ok (.idiv, 1) := by decide +kernel
theorem dL_turn_51 : decode cL_turn 51 = .ok (.invokevirtual 58, 3) := by decide +kernel
theorem dL_turn_54 : decode cL_turn 54 = .ok (.istore 11, 2) := by decide +kernel
theorem dL_turn_56 : decode cL_turn 56 = .ok (.aload_n 0, 1) := by decide +kernel
theorem dL_turn_57 : decode cL_turn 57 = .ok (.invokevirtual 103, 3) := by decide +kernel
theorem dL_turn_60 : decode cL_turn 60 = .ok (.istore 12, 2) := by decide +kernel
theorem dL_turn_62 : decode cL_turn 62 = .ok (.iload 12, 2) := by decide +kernel
theorem dL_turn_64 : decode cL_turn 64 = .ok (.ldc 34, 2) := by decide +kernel
theorem dL_turn_66 : decode cL_turn 66 = .ok (.if_icmp .ne 7, 3) := by decide +kernel
theorem dL_turn_69 : decode cL_turn 69 = .ok (.iconst 1, 1) := by decide +kernel
theorem dL_turn_70 : decode cL_turn 70 = .ok (.goto 4, 3) := by decide +kernel
theorem dL_turn_73 : decode cL_turn 73 = .ok (.iconst 0, 1) := by decide +kernel
theorem dL_turn_74 : decode cL_turn 74 = .ok (.iload_n 3, 1) := by decide +kernel
theorem dL_turn_75 : decode cL_turn 75 = .ok (.iconst 1, 1) := by decide +kernel
theorem dL_turn_76 : decode cL_turn 76 = .ok (.if_icmp .ne 7, 3) := by decide +kernel
theorem dL_turn_79 : decode cL_turn 79 = .ok (.iconst 1, 1) := by decide +kernel
theorem dL_turn_80 : decode cL_turn 80 = .ok (.goto 4, 3) := by decide +kernel
