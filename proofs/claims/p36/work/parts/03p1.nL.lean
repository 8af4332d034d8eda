/-! the law's methods: their words, 1 -/
set_option maxRecDepth 20000 in
theorem ggL_setEntry_X9_minor : GoodIn wsL_setEntry wsX9_minor := goodIn_r _ [138, 7, 139, 93, 31, 32, 14, 33, 16, 140, 141, 142, 5, 143, 99, 100, 101, 102, 103, 104, 105, 106, 107, 108, 109, 110, 111, 112, 113, 11, 12, 13, 15, 114, 115, 116, 117, 118, 119, 120, 121, 122, 123, 124, 125, 126, 127, 128, 26, 27, 28, 29, 30, 129, 35, 36, 37, 38, 39, 40, 130, 131, 132, 133, 134, 180, 181, 182, 183, 184, 185, 186, 187, 188, 189, 190, 191, 192, 193, 199] (by decide +kernel) (by decide +kernel)
set_option maxRecDepth 20000 in
theorem gL_setEntry_X9_minor : GoodIn wsL_setEntry (wsV RL 61 RX9 yX9_minor wsX9_minor) := goodIn_app (goodIn_of _ (by decide +kernel)) ggL_setEntry_X9_minor
set_option maxRecDepth 20000 in
theorem ggL_setEntry_X9_set : GoodIn wsL_setEntry wsX9_set := goodIn_r _ [147, 7, 92, 10, 148, 149, 93, 31, 32, 14, 33, 16, 150, 151, 5, 152, 94, 26, 27, 28, 29, 30, 153, 154, 155, 156, 157, 158, 159, 160, 161, 162, 163, 164, 165, 166, 167, 168, 8, 169, 170, 171, 79, 172, 81, 173, 174, 175, 176, 177, 178, 179, 180, 181, 182, 183, 184, 185, 186, 187, 188, 189, 190, 191, 192, 193, 194, 195, 196] (by decide +kernel) (by decide +kernel)
set_option maxRecDepth 20000 in
theorem gL_setEntry_X9_set : GoodIn wsL_setEntry (wsV RL 29 RX9 yX9_set wsX9_set) := goodIn_app (goodIn_of _ (by decide +kernel)) ggL_setEntry_X9_set
set_option maxRecDepth 20000 in
theorem ggL_exchange_X9_total : GoodIn wsL_exchange wsX9_total := goodIn_r _ [6, 7, 8, 9, 10, 11, 12, 13, 14, 15, 16, 17, 18, 19, 20, 21, 22, 23, 24, 25, 26, 27, 28, 29, 30, 31, 32, 33, 34, 35, 36, 37, 38, 39, 40, 41, 42, 43, 44, 45, 46, 47, 48, 49, 50, 51, 52, 53, 54, 55, 56, 57, 58, 59, 60, 61, 62, 63, 64, 65, 66, 67, 68, 69, 70, 71, 72, 73, 74, 75, 76, 77, 78, 79, 80, 81, 82, 83, 84, 85, 86, 87, 212, 213, 214, 215, 216, 217, 218, 219, 220, 221, 222, 223, 224, 225, 226, 227, 228, 229, 230] (by decide +kernel) (by decide +kernel)
set_option maxRecDepth 20000 in
theorem gL_exchange_X9_total : GoodIn wsL_exchange (wsV RL 11 RX9 yX9_total wsX9_total) := goodIn_app (goodIn_of _ (by decide +kernel)) ggL_exchange_X9_total
set_option maxRecDepth 20000 in
theorem ggL_exchange_X9_entry : GoodIn wsL_exchange wsX9_entry := goodIn_r _ [91, 7, 92, 93, 31, 32, 14, 33, 16, 94, 26, 27, 28, 29, 30, 212, 213, 214, 215, 216, 217, 218, 219, 220, 221, 222, 223, 224, 225] (by decide +kernel) (by decide +kernel)
set_option maxRecDepth 20000 in
theorem gL_exchange_X9_entry : GoodIn wsL_exchange (wsV RL 19 RX9 yX9_entry wsX9_entry) := goodIn_app (goodIn_of _ (by decide +kernel)) ggL_exchange_X9_entry
set_option maxRecDepth 20000 in
theorem ggL_exchange_X9_permanent : GoodIn wsL_exchange wsX9_permanent := goodIn_r _ [98, 7, 99, 100, 101, 14, 102, 16, 103, 104, 105, 5, 106, 107, 108, 109, 110, 111, 112, 113, 11, 12, 13, 15, 114, 115, 116, 117, 118, 119, 120, 121, 122, 123, 124, 125, 126, 127, 128, 26, 27, 28, 29, 30, 31, 32, 33, 129, 35, 36, 37, 38, 39, 40, 130, 131, 132, 133, 134, 212, 213, 214, 215, 216, 217, 218, 219, 220, 221, 222, 223, 224, 225, 231] (by decide +kernel) (by decide +kernel)
set_option maxRecDepth 20000 in
theorem gL_exchange_X9_permanent : GoodIn wsL_exchange (wsV RL 93 RX9 yX9_permanent wsX9_permanent) := goodIn_app (goodIn_of _ (by decide +kernel)) ggL_exchange_X9_permanent
set_option maxRecDepth 20000 in
theorem ggL_exchange_X9_determinant : GoodIn wsL_exchange wsX9_determinant := goodIn_r _ [138, 107, 7, 108, 109, 110, 111, 112, 113, 11, 12, 13, 14, 15, 16, 114, 115, 116, 117, 118, 100, 101, 102, 119, 120, 121, 122, 123, 124, 125, 126, 127, 128, 26, 27, 28, 29, 30, 31, 32, 33, 129, 35, 36, 37, 38, 39, 40, 130, 131, 132, 133, 99, 134, 212, 213, 214, 215, 216, 217, 218, 219, 220, 221, 222, 223, 231, 224, 225] (by decide +kernel) (by decide +kernel)
set_option maxRecDepth 20000 in
theorem gL_exchange_X9_determinant : GoodIn wsL_exchange (wsV RL 97 RX9 yX9_determinant wsX9_determinant) := goodIn_app (goodIn_of _ (by decide +kernel)) ggL_exchange_X9_determinant
set_option maxRecDepth 20000 in
theorem ggL_exchange_X9_wholeDiagonals : GoodIn wsL_exchange wsX9_wholeDiagonals := goodIn_r _ [142, 143, 7, 144, 145, 146, 147, 148, 149, 100, 101, 14, 102, 16, 150, 151, 152, 153, 154, 155, 35, 36, 37, 38, 39, 40, 156, 12, 13, 15, 157, 158, 159, 160, 161, 26, 27, 28, 29, 30, 31, 32, 33, 162, 163, 164, 165, 166, 212, 213, 214, 215, 216, 217, 218, 219, 220, 221, 222, 223, 224, 225, 232] (by decide +kernel) (by decide +kernel)
set_option maxRecDepth 20000 in
theorem gL_exchange_X9_wholeDiagonals : GoodIn wsL_exchange (wsV RL 100 RX9 yX9_wholeDiagonals wsX9_wholeDiagonals) := goodIn_app (goodIn_of _ (by decide +kernel)) ggL_exchange_X9_wholeDiagonals
set_option maxRecDepth 20000 in
theorem ggL_exchange_X9_swapColumns : GoodIn wsL_exchange wsX9_swapColumns := goodIn_r _ [170, 7, 92, 171, 93, 31, 32, 14, 33, 16, 172, 173, 174, 175, 29, 176, 177, 178, 179, 11, 12, 13, 15, 94, 26, 27, 28, 30, 180, 181, 182, 183, 184, 185, 186, 5, 187, 188, 189, 190, 191, 192, 25, 193, 194, 195, 196, 8, 197, 198, 199, 79, 200, 81, 201, 202, 203, 204, 205, 206, 207, 212, 213, 214, 215, 216, 217, 218, 219, 220, 221, 222, 223, 224, 225, 226, 227, 228] (by decide +kernel) (by decide +kernel)
set_option maxRecDepth 20000 in
theorem gL_exchange_X9_swapColumns : GoodIn wsL_exchange (wsV RL 38 RX9 yX9_swapColumns wsX9_swapColumns) := goodIn_app (goodIn_of _ (by decide +kernel)) ggL_exchange_X9_swapColumns
set_option maxRecDepth 20000 in
theorem ggL_exchange_X9_swapRows : GoodIn wsL_exchange wsX9_swapRows := goodIn_r _ [211, 7, 92, 171, 93, 31, 32, 14, 33, 16, 172, 173, 174, 175, 29, 176, 177, 178, 179, 11, 12, 13, 15, 94, 26, 27, 28, 30, 180, 181, 182, 183, 184, 185, 186, 5, 187, 188, 189, 190, 191, 192, 25, 193, 194, 195, 196, 8, 197, 198, 199, 79, 200, 81, 201, 202, 203, 204, 205, 206, 207, 212, 213, 214, 215, 216, 217, 218, 219, 220, 221, 222, 223, 224, 225, 226, 227, 228] (by decide +kernel) (by decide +kernel)
set_option maxRecDepth 20000 in
theorem gL_exchange_X9_swapRows : GoodIn wsL_exchange (wsV RL 35 RX9 yX9_swapRows wsX9_swapRows) := goodIn_app (goodIn_of _ (by decide +kernel)) ggL_exchange_X9_swapRows
set_option maxRecDepth 20000 in
theorem ggL_turn_X9_total : GoodIn wsL_turn wsX9_total := goodIn_r _ [6, 7, 8, 9, 10, 11, 12, 13, 14, 15, 16, 17, 18, 19, 20, 21, 22, 23, 24, 25, 26, 27, 28, 29, 30, 31, 32, 33, 34, 35, 36, 37, 38, 39, 40, 41, 42, 43, 44, 45, 46, 47, 48, 49, 50, 51, 52, 53, 54, 55, 56, 57, 58, 59, 60, 61, 62, 63, 64, 65, 66, 67, 68, 69, 70, 71, 72, 73, 74, 75, 76, 77, 78, 79, 80, 81, 82, 83, 84, 85, 86, 87, 210, 211, 212, 213, 214, 215, 216, 217, 218, 219, 220, 221, 222, 223, 224, 225, 226, 227, 228] (by decide +kernel) (by decide +kernel)
set_option maxRecDepth 20000 in
theorem gL_turn_X9_total : GoodIn wsL_turn (wsV RL 11 RX9 yX9_total wsX9_total) := goodIn_app (goodIn_of _ (by decide +kernel)) ggL_turn_X9_total
set_option maxRecDepth 20000 in
theorem ggL_turn_X9_entry : GoodIn wsL_turn wsX9_entry := goodIn_r _ [91, 7, 92, 93, 31, 32, 14, 33, 16, 94, 26, 27, 28, 29, 30, 210, 211, 212, 213, 214, 215, 216, 217, 218, 219, 220, 221, 222, 223] (by decide +kernel) (by decide +kernel)
set_option maxRecDepth 20000 in
theorem gL_turn_X9_entry : GoodIn wsL_turn (wsV RL 19 RX9 yX9_entry wsX9_entry) := goodIn_app (goodIn_of _ (by decide +kernel)) ggL_turn_X9_entry
set_option maxRecDepth 20000 in
theorem ggL_turn_X9_permanent : GoodIn wsL_turn wsX9_permanent := goodIn_r _ [98, 7, 99, 100, 101, 14, 102, 16, 103, 104, 105, 5, 106, 107, 108, 109, 110, 111, 112, 113, 11, 12, 13, 15, 114, 115, 116, 117, 118, 119, 120, 121, 122, 123, 124, 125, 126, 127, 128, 26, 27, 28, 29, 30, 31, 32, 33, 129, 35, 36, 37, 38, 39, 40, 130, 131, 132, 133, 134, 210, 211, 212, 213, 214, 215, 216, 217, 218, 219, 220, 221, 222, 223, 229] (by decide +kernel) (by decide +kernel)
set_option maxRecDepth 20000 in
theorem gL_turn_X9_permanent : GoodIn wsL_turn (wsV RL 93 RX9 yX9_permanent wsX9_permanent) := goodIn_app (goodIn_of _ (by decide +kernel)) ggL_turn_X9_permanent
set_option maxRecDepth 20000 in
theorem ggL_turn_X9_determinant : GoodIn wsL_turn wsX9_determinant := goodIn_r _ [138, 107, 7, 108, 109, 110, 111, 112, 113, 11, 12, 13, 14, 15, 16, 114, 115, 116, 117, 118, 100, 101, 102, 119, 120, 121, 122, 123, 124, 125, 126, 127, 128, 26, 27, 28, 29, 30, 31, 32, 33, 129, 35, 36, 37, 38, 39, 40, 130, 131, 132, 133, 99, 134, 210, 211, 212, 213, 214, 215, 216, 217, 218, 219, 220, 221, 229, 222, 223] (by decide +kernel) (by decide +kernel)
set_option maxRecDepth 20000 in
theorem gL_turn_X9_determinant : GoodIn wsL_turn (wsV RL 97 RX9 yX9_determinant wsX9_determinant) := goodIn_app (goodIn_of _ (by decide +kernel)) ggL_turn_X9_determinant
set_option maxRecDepth 20000 in
theorem ggL_turn_X9_rooks : GoodIn wsL_turn wsX9_rooks := goodIn_r _ [142, 7, 10, 143, 11, 12, 13, 14, 15, 16, 144, 145, 146, 147, 148, 149, 150, 151, 29, 152, 153, 154, 155, 25, 26, 27, 28, 30, 31, 32, 33, 156, 157, 158, 159, 160, 161, 162, 5, 163, 107, 108, 109, 110, 111, 112, 113, 164, 165, 166, 167, 118, 100, 101, 102, 124, 125, 126, 127, 119, 120, 121, 122, 123, 128, 129, 35, 36, 37, 38, 39, 40, 130, 131, 132, 133, 168, 169, 170, 171, 210, 211, 212, 213, 214, 215, 216, 217, 218, 219, 220, 221, 222, 223, 229] (by decide +kernel) (by decide +kernel)
set_option maxRecDepth 20000 in
theorem gL_turn_X9_rooks : GoodIn wsL_turn (wsV RL 58 RX9 yX9_rooks wsX9_rooks) := goodIn_app (goodIn_of _ (by decide +kernel)) ggL_turn_X9_rooks
set_option maxRecDepth 20000 in
theorem ggL_turn_X9_transpose : GoodIn wsL_turn wsX9_transpose := goodIn_r _ [175, 176, 7, 177, 178, 179, 14, 180, 29, 181, 182, 183, 184, 16, 11, 12, 13, 15, 94, 26, 27, 28, 30, 31, 32, 33, 185, 157, 158, 159, 186, 187, 188, 5, 189, 190, 191, 192, 193, 194, 25, 195, 196, 197, 198, 8, 199, 200, 201, 79, 202, 81, 203, 204, 205, 206, 207, 208, 209, 210, 211, 212, 213, 214, 215, 216, 217, 218, 219, 220, 221, 222, 223, 224, 225, 226] (by decide +kernel) (by decide +kernel)
set_option maxRecDepth 20000 in
theorem gL_turn_X9_transpose : GoodIn wsL_turn (wsV RL 103 RX9 yX9_transpose wsX9_transpose) := goodIn_app (goodIn_of _ (by decide +kernel)) ggL_turn_X9_transpose
set_option maxRecDepth 20000 in
theorem ggL_multiply_X9_total : GoodIn wsL_multiply wsX9_total := goodIn_r _ [7, 8, 9, 10, 11, 12, 13, 14, 15, 16, 17, 18, 19, 20, 21, 22, 23, 24, 25, 26, 27, 28, 29, 30, 31, 32, 33, 34, 35, 36, 37, 38, 39, 40, 41, 42, 43, 44, 45, 46, 47, 48, 49, 50, 51, 52, 53, 54, 55, 56, 57, 58, 59, 60, 61, 62, 63, 64, 65, 66, 67, 68, 69, 70, 71, 72, 73, 74, 75, 76, 77, 78, 79, 80, 81, 82, 83, 84, 85, 86, 87, 88, 195, 196, 197, 198, 199, 200, 201, 202, 203, 204, 205, 206, 207, 208, 209, 210, 211, 212, 213] (by decide +kernel) (by decide +kernel)
set_option maxRecDepth 20000 in
theorem gL_multiply_X9_total : GoodIn wsL_multiply (wsV RL 11 RX9 yX9_total wsX9_total) := goodIn_app (goodIn_of _ (by decide +kernel)) ggL_multiply_X9_total
set_option maxRecDepth 20000 in
theorem ggL_multiply_X9_entry : GoodIn wsL_multiply wsX9_entry := goodIn_r _ [92, 8, 93, 94, 32, 33, 15, 34, 17, 95, 27, 28, 29, 30, 31, 195, 196, 197, 198, 199, 200, 201, 202, 203, 204, 205, 206, 207, 208] (by decide +kernel) (by decide +kernel)
set_option maxRecDepth 20000 in
theorem gL_multiply_X9_entry : GoodIn wsL_multiply (wsV RL 19 RX9 yX9_entry wsX9_entry) := goodIn_app (goodIn_of _ (by decide +kernel)) ggL_multiply_X9_entry
set_option maxRecDepth 20000 in
theorem ggL_multiply_L_size : GoodIn wsL_multiply wsL_size := goodIn_r _ [99] (by decide +kernel) (by decide +kernel)
set_option maxRecDepth 20000 in
theorem gL_multiply_L_size : GoodIn wsL_multiply (va_wsS RL 106 yL_size wsL_size) := goodIn_app (goodIn_of _ (by decide +kernel)) ggL_multiply_L_size
set_option maxRecDepth 20000 in
theorem ggL_multiply_X9_lineSum : GoodIn wsL_multiply wsX9_lineSum := goodIn_r _ [103, 8, 93, 94, 32, 33, 15, 34, 17, 104, 74, 75, 76, 26, 27, 28, 29, 30, 31, 105, 47, 48, 49, 195, 196, 197, 198, 199, 200, 201, 202, 203, 204, 205, 206, 207, 208] (by decide +kernel) (by decide +kernel)
set_option maxRecDepth 20000 in
theorem gL_multiply_X9_lineSum : GoodIn wsL_multiply (wsV RL 48 RX9 yX9_lineSum wsX9_lineSum) := goodIn_app (goodIn_of _ (by decide +kernel)) ggL_multiply_X9_lineSum
set_option maxRecDepth 20000 in
theorem ggL_multiply_X9_permanent : GoodIn wsL_multiply wsX9_permanent := goodIn_r _ [109, 8, 110, 111, 112, 15, 113, 17, 114, 115, 116, 6, 117, 118, 119, 120, 121, 122, 123, 124, 12, 13, 14, 16, 125, 126, 127, 128, 129, 130, 131, 132, 133, 134, 135, 136, 137, 138, 139, 27, 28, 29, 30, 31, 32, 33, 34, 140, 36, 37, 38, 39, 40, 41, 141, 142, 143, 144, 145, 195, 196, 197, 198, 199, 200, 201, 202, 203, 204, 205, 206, 207, 208, 214] (by decide +kernel) (by decide +kernel)
set_option maxRecDepth 20000 in
theorem gL_multiply_X9_permanent : GoodIn wsL_multiply (wsV RL 93 RX9 yX9_permanent wsX9_permanent) := goodIn_app (goodIn_of _ (by decide +kernel)) ggL_multiply_X9_permanent
set_option maxRecDepth 20000 in
theorem ggL_multiply_X9_determinant : GoodIn wsL_multiply wsX9_determinant := goodIn_r _ [149, 118, 8, 119, 120, 121, 122, 123, 124, 12, 13, 14, 15, 16, 17, 125, 126, 127, 128, 129, 111, 112, 113, 130, 131, 132, 133, 134, 135, 136, 137, 138, 139, 27, 28, 29, 30, 31, 32, 33, 34, 140, 36, 37, 38, 39, 40, 41, 141, 142, 143, 144, 110, 145, 195, 196, 197, 198, 199, 200, 201, 202, 203, 204, 205, 206, 214, 207, 208] (by decide +kernel) (by decide +kernel)
set_option maxRecDepth 20000 in
theorem gL_multiply_X9_determinant : GoodIn wsL_multiply (wsV RL 97 RX9 yX9_determinant wsX9_determinant) := goodIn_app (goodIn_of _ (by decide +kernel)) ggL_multiply_X9_determinant
set_option maxRecDepth 20000 in
theorem ggL_multiply_X9_multiply : GoodIn wsL_multiply wsX9_multiply := goodIn_r _ [153, 8, 93, 11, 154, 155, 94, 32, 33, 15, 34, 17, 156, 157, 158, 159, 30, 160, 161, 162, 163, 12, 13, 14, 16, 95, 27, 28, 29, 31, 164, 165, 6, 166, 167, 168, 169, 170, 171, 172, 173, 174, 175, 176, 177, 178, 179, 26, 180, 181, 182, 183, 9, 184, 185, 186, 80, 187, 82, 188, 189, 190, 191, 192, 193, 194, 195, 196, 197, 198, 199, 200, 201, 202, 203, 204, 205, 206, 207, 208, 209, 210, 211] (by decide +kernel) (by decide +kernel)
set_option maxRecDepth 20000 in
theorem gL_multiply_X9_multiply : GoodIn wsL_multiply (wsV RL 41 RX9 yX9_multiply wsX9_multiply) := goodIn_app (goodIn_of _ (by decide +kernel)) ggL_multiply_X9_multiply
set_option maxRecDepth 20000 in
theorem ggL_add_X9_total : GoodIn wsL_add wsX9_total := goodIn_r _ [6, 7, 8, 9, 10, 11, 12, 13, 14, 15, 16, 17, 18, 19, 20, 21, 22, 23, 24, 25, 26, 27, 28, 29, 30, 31, 32, 33, 34, 35, 36, 37, 38, 39, 40, 41, 42, 43, 44, 45, 46, 47, 48, 49, 50, 51, 52, 53, 54, 55, 56, 57, 58, 59, 60, 61, 62, 63, 64, 65, 66, 67, 68, 69, 70, 71, 72, 73, 74, 75, 76, 77, 78, 79, 80, 81, 82, 83, 84, 85, 86, 87, 197, 198, 199, 200, 201, 202, 203, 204, 205, 206, 207, 208, 209, 210, 211, 212, 213, 214, 215] (by decide +kernel) (by decide +kernel)
set_option maxRecDepth 20000 in
theorem gL_add_X9_total : GoodIn wsL_add (wsV RL 11 RX9 yX9_total wsX9_total) := goodIn_app (goodIn_of _ (by decide +kernel)) ggL_add_X9_total
set_option maxRecDepth 20000 in
theorem ggL_add_X9_wholeDiagonal : GoodIn wsL_add wsX9_wholeDiagonal := goodIn_r _ [91, 10, 92, 7, 93, 94, 95, 96, 97, 98, 99, 100, 101, 14, 102, 16, 103, 104, 105, 106, 107, 108, 35, 36, 37, 38, 39, 40, 109, 12, 13, 15, 110, 111, 112, 113, 114, 26, 27, 28, 29, 30, 31, 32, 33, 115, 116, 117, 118, 119, 120, 121, 122, 123, 197, 198, 199, 200, 201, 202, 203, 204, 205, 206, 207, 208, 209, 210, 216] (by decide +kernel) (by decide +kernel)
set_option maxRecDepth 20000 in
theorem gL_add_X9_wholeDiagonal : GoodIn wsL_add (wsV RL 52 RX9 yX9_wholeDiagonal wsX9_wholeDiagonal) := goodIn_app (goodIn_of _ (by decide +kernel)) ggL_add_X9_wholeDiagonal
set_option maxRecDepth 20000 in
theorem ggL_add_X9_best : GoodIn wsL_add wsX9_best := goodIn_r _ [127, 92, 7, 128, 129, 130, 97, 131, 132, 54, 55, 56, 99, 100, 101, 14, 102, 16, 103, 104, 105, 106, 107, 108, 35, 36, 37, 38, 39, 40, 109, 12, 13, 15, 133, 134, 135, 136, 114, 26, 27, 28, 29, 30, 31, 32, 33, 115, 116, 117, 118, 119, 137, 138, 139, 140, 197, 198, 199, 200, 201, 202, 203, 204, 205, 206, 207, 208, 209, 210, 216] (by decide +kernel) (by decide +kernel)
set_option maxRecDepth 20000 in
theorem gL_add_X9_best : GoodIn wsL_add (wsV RL 110 RX9 yX9_best wsX9_best) := goodIn_app (goodIn_of _ (by decide +kernel)) ggL_add_X9_best
