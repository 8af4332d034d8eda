/-! the law's methods: their words, 2 -/
set_option maxRecDepth 20000 in
theorem ggL_add_X9_entry : GoodIn wsL_add wsX9_entry := goodIn_r _ [144, 7, 145, 146, 31, 32, 14, 33, 16, 147, 26, 27, 28, 29, 30, 197, 198, 199, 200, 201, 202, 203, 204, 205, 206, 207, 208, 209, 210] (by decide +kernel) (by decide +kernel)
set_option maxRecDepth 20000 in
theorem gL_add_X9_entry : GoodIn wsL_add (wsV RL 19 RX9 yX9_entry wsX9_entry) := goodIn_app (goodIn_of _ (by decide +kernel)) ggL_add_X9_entry
set_option maxRecDepth 20000 in
theorem ggL_add_X9_add : GoodIn wsL_add wsX9_add := goodIn_r _ [151, 7, 145, 152, 153, 154, 155, 156, 14, 157, 16, 30, 31, 32, 33, 158, 159, 160, 161, 53, 54, 55, 56, 25, 26, 27, 28, 29, 162, 163, 164, 165, 166, 167, 168, 169, 170, 171, 172, 173, 174, 175, 176, 177, 178, 179, 180, 5, 181, 8, 182, 183, 184, 79, 185, 81, 186, 187, 188, 189, 190, 191, 192, 193, 194, 195, 196, 197, 198, 199, 200, 201, 202, 203, 204, 205, 206, 207, 208, 209, 210, 211, 212, 213] (by decide +kernel) (by decide +kernel)
set_option maxRecDepth 20000 in
theorem gL_add_X9_add : GoodIn wsL_add (wsV RL 44 RX9 yX9_add wsX9_add) := goodIn_app (goodIn_of _ (by decide +kernel)) ggL_add_X9_add
set_option maxRecDepth 20000 in
theorem ggL_act_L_setEntry_c : GoodIn wsL_act [.code yL_setEntry cL_setEntry 13 (some .int)] := goodIn_r _ [4] (by decide +kernel) (by decide +kernel)
set_option maxRecDepth 20000 in
theorem ggL_act_L_setEntry_r1 : GoodIn wsL_act wsL_setEntry_r1 := goodIn_r _ [5, 6, 7, 8, 9, 10, 11, 12, 13, 14, 15, 16, 17, 18, 19, 20, 21, 22, 23, 24, 25, 26, 27, 28] (by decide +kernel) (by decide +kernel)
set_option maxRecDepth 20000 in
theorem ggL_act_L_setEntry_r2 : GoodIn wsL_act wsL_setEntry_r2 := goodIn_r _ [29, 30, 31, 32, 33, 34, 35, 36, 37, 38, 39, 40, 41, 42, 43, 44, 45, 46, 47, 48, 49, 50, 51, 52] (by decide +kernel) (by decide +kernel)
set_option maxRecDepth 20000 in
theorem ggL_act_L_setEntry_r3 : GoodIn wsL_act wsL_setEntry_r3 := goodIn_r _ [53, 54, 55, 56, 57, 58, 59, 60, 61, 62, 63, 64, 65, 66, 67, 68, 69, 70, 71, 72, 73, 74, 75, 76] (by decide +kernel) (by decide +kernel)
set_option maxRecDepth 20000 in
theorem ggL_act_L_setEntry_r4 : GoodIn wsL_act wsL_setEntry_r4 := goodIn_r _ [77, 78, 79, 80, 81, 82, 83, 84, 85, 86, 87, 88, 89, 90, 91, 92, 93, 94, 95, 96, 97, 98, 99, 100] (by decide +kernel) (by decide +kernel)
set_option maxRecDepth 20000 in
theorem ggL_act_L_setEntry_r5 : GoodIn wsL_act wsL_setEntry_r5 := goodIn_r _ [101, 102, 103, 104, 105, 106, 107, 108, 109, 110, 111, 112, 113, 114, 115, 116, 117, 118, 119, 120, 121, 122, 123, 124] (by decide +kernel) (by decide +kernel)
set_option maxRecDepth 20000 in
theorem ggL_act_L_setEntry_r6 : GoodIn wsL_act wsL_setEntry_r6 := goodIn_r _ [125, 126, 127, 128, 129, 130, 131, 132, 133, 134, 135, 136, 137, 138, 139, 140, 141, 142, 143, 144, 145, 146, 147, 148] (by decide +kernel) (by decide +kernel)
set_option maxRecDepth 20000 in
theorem ggL_act_L_setEntry_r7 : GoodIn wsL_act wsL_setEntry_r7 := goodIn_r _ [149, 150, 151, 152, 153, 154, 155, 156, 157, 158, 159, 160, 161, 162, 163, 164, 165, 166, 167, 168, 169, 170, 171, 172] (by decide +kernel) (by decide +kernel)
set_option maxRecDepth 20000 in
theorem ggL_act_L_setEntry_r8 : GoodIn wsL_act wsL_setEntry_r8 := goodIn_r _ [173, 174, 175, 176, 177, 178, 179, 180, 181, 182, 183] (by decide +kernel) (by decide +kernel)
set_option maxRecDepth 20000 in
theorem ggL_act_L_setEntry_wsX90 : GoodIn wsL_act wsX90 := goodIn_r _ [364, 365, 366, 367, 368, 369, 370, 371, 372, 373, 374, 375] (by decide +kernel) (by decide +kernel)
set_option maxRecDepth 20000 in
theorem ggL_act_L_setEntry_wsX40 : GoodIn wsL_act wsX40 := goodIn_r _ [376, 377] (by decide +kernel) (by decide +kernel)
set_option maxRecDepth 20000 in
theorem ggL_act_L_setEntry_wsX30 : GoodIn wsL_act wsX30 := goodIn_r _ [378, 379, 380] (by decide +kernel) (by decide +kernel)
set_option maxRecDepth 20000 in
theorem ggL_act_L_setEntry_wsX70 : GoodIn wsL_act wsX70 := goodIn_r _ [381, 382] (by decide +kernel) (by decide +kernel)
set_option maxRecDepth 20000 in
theorem ggL_act_L_setEntry_wsX00 : GoodIn wsL_act wsX00 := goodIn_r _ [383] (by decide +kernel) (by decide +kernel)
theorem ggL_act_L_setEntry : GoodIn wsL_act wsL_setEntry := by
  intro w h
  rcases List.mem_cons.mp h with e | h
  · subst e
    exact ggL_act_L_setEntry_c _ List.mem_cons_self
  · exact (goodIn_app (goodIn_app (goodIn_app (goodIn_app (goodIn_app (goodIn_app ggL_act_L_setEntry_r1 (goodIn_app ggL_act_L_setEntry_r2 (goodIn_app ggL_act_L_setEntry_r3 (goodIn_app ggL_act_L_setEntry_r4 (goodIn_app ggL_act_L_setEntry_r5 (goodIn_app ggL_act_L_setEntry_r6 (goodIn_app ggL_act_L_setEntry_r7 ggL_act_L_setEntry_r8))))))) ggL_act_L_setEntry_wsX90) ggL_act_L_setEntry_wsX40) ggL_act_L_setEntry_wsX30) ggL_act_L_setEntry_wsX70) ggL_act_L_setEntry_wsX00) w h
set_option maxRecDepth 20000 in
theorem gL_act_L_setEntry : GoodIn wsL_act (va_wsS RL 114 yL_setEntry wsL_setEntry) := goodIn_app (goodIn_of _ (by decide +kernel)) ggL_act_L_setEntry
set_option maxRecDepth 20000 in
theorem ggL_act_L_exchange_c : GoodIn wsL_act [.code yL_exchange cL_exchange 15 (some .int)] := goodIn_r _ [186] (by decide +kernel) (by decide +kernel)
set_option maxRecDepth 20000 in
theorem ggL_act_L_exchange_r1 : GoodIn wsL_act wsL_exchange_r1 := goodIn_r _ [5, 6, 7, 8, 9, 10, 11, 12, 13, 14, 15, 16, 17, 18, 19, 20, 21, 22, 23, 24, 25, 26, 27, 28] (by decide +kernel) (by decide +kernel)
set_option maxRecDepth 20000 in
theorem ggL_act_L_exchange_r2 : GoodIn wsL_act wsL_exchange_r2 := goodIn_r _ [29, 30, 31, 32, 33, 34, 35, 36, 37, 38, 39, 40, 41, 42, 43, 44, 45, 46, 47, 48, 49, 50, 51, 52] (by decide +kernel) (by decide +kernel)
set_option maxRecDepth 20000 in
theorem ggL_act_L_exchange_r3 : GoodIn wsL_act wsL_exchange_r3 := goodIn_r _ [53, 54, 55, 56, 57, 58, 59, 60, 61, 62, 63, 64, 65, 66, 67, 68, 69, 70, 71, 72, 73, 74, 75, 76] (by decide +kernel) (by decide +kernel)
set_option maxRecDepth 20000 in
theorem ggL_act_L_exchange_r4 : GoodIn wsL_act wsL_exchange_r4 := goodIn_r _ [77, 78, 79, 80, 81, 82, 83, 84, 85, 86, 87, 88, 89, 90, 91, 92, 93, 94, 95, 96, 97, 98, 99, 100] (by decide +kernel) (by decide +kernel)
set_option maxRecDepth 20000 in
theorem ggL_act_L_exchange_r5 : GoodIn wsL_act wsL_exchange_r5 := goodIn_r _ [101, 102, 103, 104, 105, 106, 107, 108, 109, 110, 111, 112, 113, 114, 115, 116, 117, 118, 119, 120, 121, 122, 123, 124] (by decide +kernel) (by decide +kernel)
set_option maxRecDepth 20000 in
theorem ggL_act_L_exchange_r6 : GoodIn wsL_act wsL_exchange_r6 := goodIn_r _ [125, 126, 127, 128, 129, 130, 131, 132, 133, 134, 135, 136, 137, 138, 187, 188, 189, 190, 191, 192, 193, 194, 195, 196] (by decide +kernel) (by decide +kernel)
set_option maxRecDepth 20000 in
theorem ggL_act_L_exchange_r7 : GoodIn wsL_act wsL_exchange_r7 := goodIn_r _ [197, 198, 199, 200, 201, 202, 203, 204, 205, 206, 207, 208, 209, 210, 211, 212, 213, 214, 215, 216, 217, 218, 219, 220] (by decide +kernel) (by decide +kernel)
set_option maxRecDepth 20000 in
theorem ggL_act_L_exchange_r8 : GoodIn wsL_act wsL_exchange_r8 := goodIn_r _ [221, 222, 153, 157, 158, 159, 160, 161, 162, 163, 164, 165, 166, 167, 168, 223, 224, 225, 226, 152, 227, 228, 229, 230] (by decide +kernel) (by decide +kernel)
set_option maxRecDepth 20000 in
theorem ggL_act_L_exchange_r9 : GoodIn wsL_act wsL_exchange_r9 := goodIn_r _ [169, 170, 171, 172, 173, 174, 175, 176, 177, 178, 179, 180, 181, 182, 183, 231, 232, 233, 234] (by decide +kernel) (by decide +kernel)
set_option maxRecDepth 20000 in
theorem ggL_act_L_exchange_wsX90 : GoodIn wsL_act wsX90 := goodIn_r _ [364, 365, 366, 367, 368, 369, 370, 371, 372, 373, 374, 375] (by decide +kernel) (by decide +kernel)
set_option maxRecDepth 20000 in
theorem ggL_act_L_exchange_wsX40 : GoodIn wsL_act wsX40 := goodIn_r _ [376, 377] (by decide +kernel) (by decide +kernel)
set_option maxRecDepth 20000 in
theorem ggL_act_L_exchange_wsX30 : GoodIn wsL_act wsX30 := goodIn_r _ [378, 379, 380] (by decide +kernel) (by decide +kernel)
set_option maxRecDepth 20000 in
theorem ggL_act_L_exchange_wsX70 : GoodIn wsL_act wsX70 := goodIn_r _ [381, 382] (by decide +kernel) (by decide +kernel)
set_option maxRecDepth 20000 in
theorem ggL_act_L_exchange_wsX00 : GoodIn wsL_act wsX00 := goodIn_r _ [383] (by decide +kernel) (by decide +kernel)
set_option maxRecDepth 20000 in
theorem ggL_act_L_exchange_wsX20 : GoodIn wsL_act wsX20 := goodIn_r _ [384] (by decide +kernel) (by decide +kernel)
theorem ggL_act_L_exchange : GoodIn wsL_act wsL_exchange := by
  intro w h
  rcases List.mem_cons.mp h with e | h
  · subst e
    exact ggL_act_L_exchange_c _ List.mem_cons_self
  · exact (goodIn_app (goodIn_app (goodIn_app (goodIn_app (goodIn_app (goodIn_app (goodIn_app ggL_act_L_exchange_r1 (goodIn_app ggL_act_L_exchange_r2 (goodIn_app ggL_act_L_exchange_r3 (goodIn_app ggL_act_L_exchange_r4 (goodIn_app ggL_act_L_exchange_r5 (goodIn_app ggL_act_L_exchange_r6 (goodIn_app ggL_act_L_exchange_r7 (goodIn_app ggL_act_L_exchange_r8 ggL_act_L_exchange_r9)))))))) ggL_act_L_exchange_wsX90) ggL_act_L_exchange_wsX40) ggL_act_L_exchange_wsX30) ggL_act_L_exchange_wsX70) ggL_act_L_exchange_wsX00) ggL_act_L_exchange_wsX20) w h
set_option maxRecDepth 20000 in
theorem gL_act_L_exchange : GoodIn wsL_act (va_wsS RL 118 yL_exchange wsL_exchange) := goodIn_app (goodIn_of _ (by decide +kernel)) ggL_act_L_exchange
set_option maxRecDepth 20000 in
theorem ggL_act_L_turn_c : GoodIn wsL_act [.code yL_turn cL_turn 14 (some .int)] := goodIn_r _ [237] (by decide +kernel) (by decide +kernel)
set_option maxRecDepth 20000 in
theorem ggL_act_L_turn_r1 : GoodIn wsL_act wsL_turn_r1 := goodIn_r _ [5, 6, 7, 8, 9, 10, 11, 12, 13, 14, 15, 16, 17, 18, 19, 20, 21, 22, 23, 24, 25, 26, 27, 28] (by decide +kernel) (by decide +kernel)
set_option maxRecDepth 20000 in
theorem ggL_act_L_turn_r2 : GoodIn wsL_act wsL_turn_r2 := goodIn_r _ [29, 30, 31, 32, 33, 34, 35, 36, 37, 38, 39, 40, 41, 42, 43, 44, 45, 46, 47, 48, 49, 50, 51, 52] (by decide +kernel) (by decide +kernel)
set_option maxRecDepth 20000 in
theorem ggL_act_L_turn_r3 : GoodIn wsL_act wsL_turn_r3 := goodIn_r _ [53, 54, 55, 56, 57, 58, 59, 60, 61, 62, 63, 64, 65, 66, 67, 68, 69, 70, 71, 72, 73, 74, 75, 76] (by decide +kernel) (by decide +kernel)
set_option maxRecDepth 20000 in
theorem ggL_act_L_turn_r4 : GoodIn wsL_act wsL_turn_r4 := goodIn_r _ [77, 78, 79, 80, 81, 82, 83, 84, 85, 86, 87, 88, 89, 90, 91, 92, 93, 94, 95, 96, 97, 98, 99, 100] (by decide +kernel) (by decide +kernel)
set_option maxRecDepth 20000 in
theorem ggL_act_L_turn_r5 : GoodIn wsL_act wsL_turn_r5 := goodIn_r _ [101, 102, 103, 104, 105, 106, 107, 108, 109, 110, 111, 112, 113, 114, 115, 116, 117, 118, 119, 120, 121, 122, 123, 124] (by decide +kernel) (by decide +kernel)
set_option maxRecDepth 20000 in
theorem ggL_act_L_turn_r6 : GoodIn wsL_act wsL_turn_r6 := goodIn_r _ [125, 126, 127, 128, 129, 130, 131, 132, 133, 134, 135, 136, 137, 138, 187, 188, 189, 190, 238, 239, 240, 241, 242, 243] (by decide +kernel) (by decide +kernel)
set_option maxRecDepth 20000 in
theorem ggL_act_L_turn_r7 : GoodIn wsL_act wsL_turn_r7 := goodIn_r _ [244, 245, 246, 247, 248, 249, 250, 251, 252, 253, 254, 255, 166, 167, 168, 256, 257, 258, 259, 260, 261, 262, 263, 264] (by decide +kernel) (by decide +kernel)
set_option maxRecDepth 20000 in
theorem ggL_act_L_turn_r8 : GoodIn wsL_act wsL_turn_r8 := goodIn_r _ [265, 266, 267, 268, 269, 270, 271, 153, 157, 158, 159, 160, 161, 162, 163, 164, 165, 223, 224, 225, 226, 152, 227, 228] (by decide +kernel) (by decide +kernel)
set_option maxRecDepth 20000 in
theorem ggL_act_L_turn_r9 : GoodIn wsL_act wsL_turn_r9 := goodIn_r _ [229, 230, 169, 170, 171, 172, 173, 174, 175, 176, 177, 178, 179, 180, 181, 182, 183] (by decide +kernel) (by decide +kernel)
set_option maxRecDepth 20000 in
theorem ggL_act_L_turn_wsX90 : GoodIn wsL_act wsX90 := goodIn_r _ [364, 365, 366, 367, 368, 369, 370, 371, 372, 373, 374, 375] (by decide +kernel) (by decide +kernel)
set_option maxRecDepth 20000 in
theorem ggL_act_L_turn_wsX40 : GoodIn wsL_act wsX40 := goodIn_r _ [376, 377] (by decide +kernel) (by decide +kernel)
set_option maxRecDepth 20000 in
theorem ggL_act_L_turn_wsX30 : GoodIn wsL_act wsX30 := goodIn_r _ [378, 379, 380] (by decide +kernel) (by decide +kernel)
set_option maxRecDepth 20000 in
theorem ggL_act_L_turn_wsX70 : GoodIn wsL_act wsX70 := goodIn_r _ [381, 382] (by decide +kernel) (by decide +kernel)
set_option maxRecDepth 20000 in
theorem ggL_act_L_turn_wsX00 : GoodIn wsL_act wsX00 := goodIn_r _ [383] (by decide +kernel) (by decide +kernel)
theorem ggL_act_L_turn : GoodIn wsL_act wsL_turn := by
  intro w h
  rcases List.mem_cons.mp h with e | h
  · subst e
    exact ggL_act_L_turn_c _ List.mem_cons_self
  · exact (goodIn_app (goodIn_app (goodIn_app (goodIn_app (goodIn_app (goodIn_app ggL_act_L_turn_r1 (goodIn_app ggL_act_L_turn_r2 (goodIn_app ggL_act_L_turn_r3 (goodIn_app ggL_act_L_turn_r4 (goodIn_app ggL_act_L_turn_r5 (goodIn_app ggL_act_L_turn_r6 (goodIn_app ggL_act_L_turn_r7 (goodIn_app ggL_act_L_turn_r8 ggL_act_L_turn_r9)))))))) ggL_act_L_turn_wsX90) ggL_act_L_turn_wsX40) ggL_act_L_turn_wsX30) ggL_act_L_turn_wsX70) ggL_act_L_turn_wsX00) w h
set_option maxRecDepth 20000 in
theorem gL_act_L_turn : GoodIn wsL_act (va_wsS RL 122 yL_turn wsL_turn) := goodIn_app (goodIn_of _ (by decide +kernel)) ggL_act_L_turn
set_option maxRecDepth 20000 in
theorem ggL_act_L_multiply_c : GoodIn wsL_act [.code yL_multiply cL_multiply 14 (some .int)] := goodIn_r _ [274] (by decide +kernel) (by decide +kernel)
set_option maxRecDepth 20000 in
theorem ggL_act_L_multiply_r1 : GoodIn wsL_act wsL_multiply_r1 := goodIn_r _ [275, 5, 6, 7, 8, 9, 10, 11, 12, 13, 14, 15, 16, 17, 18, 19, 20, 21, 22, 23, 24, 25, 26, 27] (by decide +kernel) (by decide +kernel)
set_option maxRecDepth 20000 in
theorem ggL_act_L_multiply_r2 : GoodIn wsL_act wsL_multiply_r2 := goodIn_r _ [28, 29, 30, 31, 32, 33, 34, 35, 36, 37, 38, 39, 40, 41, 42, 43, 44, 45, 46, 47, 48, 49, 50, 51] (by decide +kernel) (by decide +kernel)
set_option maxRecDepth 20000 in
theorem ggL_act_L_multiply_r3 : GoodIn wsL_act wsL_multiply_r3 := goodIn_r _ [52, 53, 54, 55, 56, 57, 58, 59, 60, 61, 62, 63, 64, 65, 66, 67, 68, 69, 70, 71, 72, 73, 74, 75] (by decide +kernel) (by decide +kernel)
set_option maxRecDepth 20000 in
theorem ggL_act_L_multiply_r4 : GoodIn wsL_act wsL_multiply_r4 := goodIn_r _ [76, 77, 78, 79, 80, 81, 82, 83, 84, 85, 86, 87, 88, 89, 90, 91, 92, 93, 94, 95, 96, 97, 98, 276] (by decide +kernel) (by decide +kernel)
set_option maxRecDepth 20000 in
theorem ggL_act_L_multiply_r5 : GoodIn wsL_act wsL_multiply_r5 := goodIn_r _ [277, 3, 278, 279, 280, 281, 282, 283, 284, 99, 100, 101, 102, 103, 104, 105, 106, 107, 108, 109, 110, 111, 112, 113] (by decide +kernel) (by decide +kernel)
set_option maxRecDepth 20000 in
theorem ggL_act_L_multiply_r6 : GoodIn wsL_act wsL_multiply_r6 := goodIn_r _ [114, 115, 116, 117, 118, 119, 120, 121, 122, 123, 124, 125, 126, 127, 128, 129, 130, 131, 132, 133, 134, 135, 136, 137] (by decide +kernel) (by decide +kernel)
set_option maxRecDepth 20000 in
theorem ggL_act_L_multiply_r7 : GoodIn wsL_act wsL_multiply_r7 := goodIn_r _ [138, 187, 188, 189, 190, 285, 286, 287, 288, 153, 289, 157, 158, 159, 160, 161, 162, 163, 164, 154, 155, 156, 165, 166] (by decide +kernel) (by decide +kernel)
set_option maxRecDepth 20000 in
theorem ggL_act_L_multiply_r8 : GoodIn wsL_act wsL_multiply_r8 := goodIn_r _ [167, 168, 223, 224, 225, 226, 152, 227, 228, 229, 230, 169, 170, 171, 172, 173, 174, 175, 176, 177, 178, 179, 180, 181] (by decide +kernel) (by decide +kernel)
set_option maxRecDepth 20000 in
theorem ggL_act_L_multiply_r9 : GoodIn wsL_act wsL_multiply_r9 := goodIn_r _ [182, 183] (by decide +kernel) (by decide +kernel)
set_option maxRecDepth 20000 in
theorem ggL_act_L_multiply_wsX90 : GoodIn wsL_act wsX90 := goodIn_r _ [364, 365, 366, 367, 368, 369, 370, 371, 372, 373, 374, 375] (by decide +kernel) (by decide +kernel)
set_option maxRecDepth 20000 in
theorem ggL_act_L_multiply_wsX40 : GoodIn wsL_act wsX40 := goodIn_r _ [376, 377] (by decide +kernel) (by decide +kernel)
set_option maxRecDepth 20000 in
theorem ggL_act_L_multiply_wsX30 : GoodIn wsL_act wsX30 := goodIn_r _ [378, 379, 380] (by decide +kernel) (by decide +kernel)
set_option maxRecDepth 20000 in
theorem ggL_act_L_multiply_wsX70 : GoodIn wsL_act wsX70 := goodIn_r _ [381, 382] (by decide +kernel) (by decide +kernel)
set_option maxRecDepth 20000 in
theorem ggL_act_L_multiply_wsX00 : GoodIn wsL_act wsX00 := goodIn_r _ [383] (by decide +kernel) (by decide +kernel)
theorem ggL_act_L_multiply : GoodIn wsL_act wsL_multiply := by
  intro w h
  rcases List.mem_cons.mp h with e | h
  · subst e
    exact ggL_act_L_multiply_c _ List.mem_cons_self
  · exact (goodIn_app (goodIn_app (goodIn_app (goodIn_app (goodIn_app (goodIn_app ggL_act_L_multiply_r1 (goodIn_app ggL_act_L_multiply_r2 (goodIn_app ggL_act_L_multiply_r3 (goodIn_app ggL_act_L_multiply_r4 (goodIn_app ggL_act_L_multiply_r5 (goodIn_app ggL_act_L_multiply_r6 (goodIn_app ggL_act_L_multiply_r7 (goodIn_app ggL_act_L_multiply_r8 ggL_act_L_multiply_r9)))))))) ggL_act_L_multiply_wsX90) ggL_act_L_multiply_wsX40) ggL_act_L_multiply_wsX30) ggL_act_L_multiply_wsX70) ggL_act_L_multiply_wsX00) w h
set_option maxRecDepth 20000 in
theorem gL_act_L_multiply : GoodIn wsL_act (va_wsS RL 125 yL_multiply wsL_multiply) := goodIn_app (goodIn_of _ (by decide +kernel)) ggL_act_L_multiply
set_option maxRecDepth 20000 in
theorem ggL_act_L_add_c : GoodIn wsL_act [.code yL_add cL_add 10 (some .int)] := goodIn_r _ [292] (by decide +kernel) (by decide +kernel)
set_option maxRecDepth 20000 in
theorem ggL_act_L_add_r1 : GoodIn wsL_act wsL_add_r1 := goodIn_r _ [275, 6, 7, 8, 9, 10, 11, 12, 13, 14, 15, 16, 17, 18, 19, 20, 21, 22, 23, 24, 25, 26, 27, 28] (by decide +kernel) (by decide +kernel)
set_option maxRecDepth 20000 in
theorem ggL_act_L_add_r2 : GoodIn wsL_act wsL_add_r2 := goodIn_r _ [29, 30, 31, 32, 33, 34, 35, 36, 37, 38, 39, 40, 41, 42, 43, 44, 45, 46, 47, 48, 49, 50, 51, 52] (by decide +kernel) (by decide +kernel)
set_option maxRecDepth 20000 in
theorem ggL_act_L_add_r3 : GoodIn wsL_act wsL_add_r3 := goodIn_r _ [53, 54, 55, 56, 57, 58, 59, 60, 61, 62, 63, 64, 65, 66, 67, 68, 69, 70, 71, 72, 73, 74, 75, 76] (by decide +kernel) (by decide +kernel)
set_option maxRecDepth 20000 in
theorem ggL_act_L_add_r4 : GoodIn wsL_act wsL_add_r4 := goodIn_r _ [77, 78, 79, 80, 81, 82, 83, 84, 85, 86, 87, 88, 89, 90, 91, 293, 294, 295, 296, 195, 152, 196, 197, 198] (by decide +kernel) (by decide +kernel)
set_option maxRecDepth 20000 in
theorem ggL_act_L_add_r5 : GoodIn wsL_act wsL_add_r5 := goodIn_r _ [199, 200, 201, 104, 105, 106, 202, 203, 204, 205, 206, 207, 208, 209, 210, 211, 212, 213, 214, 215, 216, 217, 218, 297] (by decide +kernel) (by decide +kernel)
set_option maxRecDepth 20000 in
theorem ggL_act_L_add_r6 : GoodIn wsL_act wsL_add_r6 := goodIn_r _ [298, 299, 300, 301, 302, 303, 304, 305, 306, 307, 308, 309, 310, 311, 312, 313, 314, 315, 316, 317, 92, 93, 94, 95] (by decide +kernel) (by decide +kernel)
set_option maxRecDepth 20000 in
theorem ggL_act_L_add_r7 : GoodIn wsL_act wsL_add_r7 := goodIn_r _ [96, 97, 98, 318, 319, 320, 321, 289, 153, 322, 323, 324, 325, 326, 327, 328, 329, 157, 158, 159, 160, 161, 162, 163] (by decide +kernel) (by decide +kernel)
set_option maxRecDepth 20000 in
theorem ggL_act_L_add_r8 : GoodIn wsL_act wsL_add_r8 := goodIn_r _ [164, 330, 331, 332, 333, 255, 166, 167, 168, 169, 170, 171, 172, 173, 174, 175, 176, 177, 178, 179, 180, 181, 182, 183] (by decide +kernel) (by decide +kernel)
set_option maxRecDepth 20000 in
theorem ggL_act_L_add_r9 : GoodIn wsL_act wsL_add_r9 := goodIn_r _ [334, 335, 336, 337] (by decide +kernel) (by decide +kernel)
set_option maxRecDepth 20000 in
theorem ggL_act_L_add_wsX90 : GoodIn wsL_act wsX90 := goodIn_r _ [364, 365, 366, 367, 368, 369, 370, 371, 372, 373, 374, 375] (by decide +kernel) (by decide +kernel)
set_option maxRecDepth 20000 in
theorem ggL_act_L_add_wsX40 : GoodIn wsL_act wsX40 := goodIn_r _ [376, 377] (by decide +kernel) (by decide +kernel)
set_option maxRecDepth 20000 in
theorem ggL_act_L_add_wsX30 : GoodIn wsL_act wsX30 := goodIn_r _ [378, 379, 380] (by decide +kernel) (by decide +kernel)
set_option maxRecDepth 20000 in
theorem ggL_act_L_add_wsX70 : GoodIn wsL_act wsX70 := goodIn_r _ [381, 382] (by decide +kernel) (by decide +kernel)
set_option maxRecDepth 20000 in
theorem ggL_act_L_add_wsX20 : GoodIn wsL_act wsX20 := goodIn_r _ [384] (by decide +kernel) (by decide +kernel)
theorem ggL_act_L_add : GoodIn wsL_act wsL_add := by
  intro w h
  rcases List.mem_cons.mp h with e | h
  · subst e
    exact ggL_act_L_add_c _ List.mem_cons_self
  · exact (goodIn_app (goodIn_app (goodIn_app (goodIn_app (goodIn_app (goodIn_app ggL_act_L_add_r1 (goodIn_app ggL_act_L_add_r2 (goodIn_app ggL_act_L_add_r3 (goodIn_app ggL_act_L_add_r4 (goodIn_app ggL_act_L_add_r5 (goodIn_app ggL_act_L_add_r6 (goodIn_app ggL_act_L_add_r7 (goodIn_app ggL_act_L_add_r8 ggL_act_L_add_r9)))))))) ggL_act_L_add_wsX90) ggL_act_L_add_wsX40) ggL_act_L_add_wsX30) ggL_act_L_add_wsX70) ggL_act_L_add_wsX20) w h
set_option maxRecDepth 20000 in
theorem gL_act_L_add : GoodIn wsL_act (va_wsS RL 127 yL_add wsL_add) := goodIn_app (goodIn_of _ (by decide +kernel)) ggL_act_L_add
set_option maxRecDepth 20000 in
theorem ggL_act_X9_total : GoodIn wsL_act wsX9_total := goodIn_r _ [10, 11, 12, 13, 14, 15, 16, 17, 18, 19, 20, 21, 22, 23, 24, 25, 26, 27, 28, 29, 30, 31, 32, 33, 34, 35, 36, 37, 38, 39, 40, 41, 42, 43, 44, 45, 46, 47, 48, 49, 50, 51, 52, 53, 54, 55, 56, 57, 58, 59, 60, 61, 62, 63, 64, 65, 66, 67, 68, 69, 70, 71, 72, 73, 74, 75, 76, 77, 78, 79, 80, 81, 82, 83, 84, 85, 86, 87, 88, 89, 90, 91, 364, 365, 366, 367, 368, 369, 370, 371, 372, 373, 374, 375, 376, 377, 378, 379, 380, 381, 382] (by decide +kernel) (by decide +kernel)
set_option maxRecDepth 20000 in
theorem gL_act_X9_total : GoodIn wsL_act (wsV RL 11 RX9 yX9_total wsX9_total) := goodIn_app (goodIn_of _ (by decide +kernel)) ggL_act_X9_total
set_option maxRecDepth 20000 in
theorem ggL_act_X9_clear : GoodIn wsL_act wsX9_clear := goodIn_r _ [341, 14, 11, 153, 15, 16, 17, 18, 19, 20, 342, 248, 249, 250, 33, 251, 252, 253, 254, 169, 170, 171, 9, 172, 12, 173, 174, 175, 83, 176, 85, 177, 178, 179, 180, 181, 182, 183, 158, 159, 160, 161, 162, 163, 164, 157, 364, 365, 366, 367, 368, 369, 370, 371, 372, 373, 374, 375, 376, 377, 378, 379, 380] (by decide +kernel) (by decide +kernel)
set_option maxRecDepth 20000 in
theorem gL_act_X9_clear : GoodIn wsL_act (wsV RL 23 RX9 yX9_clear wsX9_clear) := goodIn_app (goodIn_of _ (by decide +kernel)) ggL_act_X9_clear
set_option maxRecDepth 20000 in
theorem ggL_act_X9_permanent : GoodIn wsL_act wsX9_permanent := goodIn_r _ [102, 11, 103, 104, 105, 18, 106, 20, 107, 108, 109, 9, 110, 111, 112, 113, 114, 115, 116, 117, 15, 16, 17, 19, 118, 119, 120, 121, 122, 123, 124, 125, 126, 127, 128, 129, 130, 131, 132, 30, 31, 32, 33, 34, 35, 36, 37, 133, 39, 40, 41, 42, 43, 44, 134, 135, 136, 137, 138, 364, 365, 366, 367, 368, 369, 370, 371, 372, 373, 374, 375, 376, 377, 383] (by decide +kernel) (by decide +kernel)
set_option maxRecDepth 20000 in
theorem gL_act_X9_permanent : GoodIn wsL_act (wsV RL 93 RX9 yX9_permanent wsX9_permanent) := goodIn_app (goodIn_of _ (by decide +kernel)) ggL_act_X9_permanent
set_option maxRecDepth 20000 in
theorem ggL_act_X9_wholeDiagonals : GoodIn wsL_act wsX9_wholeDiagonals := goodIn_r _ [194, 195, 11, 196, 197, 198, 199, 200, 201, 104, 105, 18, 106, 20, 202, 203, 204, 205, 206, 207, 39, 40, 41, 42, 43, 44, 208, 16, 17, 19, 209, 210, 211, 212, 213, 30, 31, 32, 33, 34, 35, 36, 37, 214, 215, 216, 217, 218, 364, 365, 366, 367, 368, 369, 370, 371, 372, 373, 374, 375, 376, 377, 384] (by decide +kernel) (by decide +kernel)
set_option maxRecDepth 20000 in
theorem gL_act_X9_wholeDiagonals : GoodIn wsL_act (wsV RL 100 RX9 yX9_wholeDiagonals wsX9_wholeDiagonals) := goodIn_app (goodIn_of _ (by decide +kernel)) ggL_act_X9_wholeDiagonals
set_option maxRecDepth 20000 in
theorem ggL_act_X9_best : GoodIn wsL_act wsX9_best := goodIn_r _ [304, 195, 11, 305, 306, 307, 199, 308, 309, 58, 59, 60, 201, 104, 105, 18, 106, 20, 202, 203, 204, 205, 206, 207, 39, 40, 41, 42, 43, 44, 208, 16, 17, 19, 310, 311, 312, 313, 213, 30, 31, 32, 33, 34, 35, 36, 37, 214, 215, 216, 217, 218, 314, 315, 316, 317, 364, 365, 366, 367, 368, 369, 370, 371, 372, 373, 374, 375, 376, 377, 384] (by decide +kernel) (by decide +kernel)
set_option maxRecDepth 20000 in
theorem gL_act_X9_best : GoodIn wsL_act (wsV RL 110 RX9 yX9_best wsX9_best) := goodIn_app (goodIn_of _ (by decide +kernel)) ggL_act_X9_best
set_option maxRecDepth 20000 in
theorem ggL_act_X9_nodes : GoodIn wsL_act wsX9_nodes := goodIn_r _ [346, 242, 11, 111, 243, 244, 245, 18, 246, 20, 247, 248, 249, 250, 33, 251, 252, 253, 254, 29, 30, 31, 32, 34, 35, 36, 37, 255, 166, 167, 168, 112, 113, 114, 115, 116, 117, 15, 16, 17, 19, 118, 119, 120, 121, 122, 104, 105, 106, 123, 124, 125, 126, 127, 128, 129, 130, 131, 132, 133, 39, 40, 41, 42, 43, 44, 134, 135, 136, 137, 347, 348, 349, 350, 351, 352, 353, 354, 364, 365, 366, 367, 368, 369, 370, 371, 372, 373, 374, 375, 376, 377, 383] (by decide +kernel) (by decide +kernel)
set_option maxRecDepth 20000 in
theorem gL_act_X9_nodes : GoodIn wsL_act (wsV RL 129 RX9 yX9_nodes wsX9_nodes) := goodIn_app (goodIn_of _ (by decide +kernel)) ggL_act_X9_nodes
set_option maxRecDepth 20000 in
theorem ggL_act_X9_tooFew : GoodIn wsL_act wsX9_tooFew := goodIn_r _ [358, 152, 11, 103, 104, 105, 18, 106, 20, 359, 39, 40, 41, 42, 43, 44, 360, 361, 362, 363, 25, 26, 27, 28, 29, 30, 31, 32, 33, 34, 35, 36, 37, 364, 365, 366, 367, 368, 369, 370, 371, 372, 373, 374, 375, 376, 377] (by decide +kernel) (by decide +kernel)
set_option maxRecDepth 20000 in
theorem gL_act_X9_tooFew : GoodIn wsL_act (wsV RL 132 RX9 yX9_tooFew wsX9_tooFew) := goodIn_app (goodIn_of _ (by decide +kernel)) ggL_act_X9_tooFew
