/-! the law's methods: their words, 0 -/
set_option maxRecDepth 20000 in
theorem ggL_seen_X9_total : GoodIn wsL_seen wsX9_total := goodIn_r _ [7, 8, 9, 10, 11, 12, 13, 14, 15, 16, 17, 18, 19, 20, 21, 22, 23, 24, 25, 26, 27, 28, 29, 30, 31, 32, 33, 34, 35, 36, 37, 38, 39, 40, 41, 42, 43, 44, 45, 46, 47, 48, 49, 50, 51, 52, 53, 54, 55, 56, 57, 58, 59, 60, 61, 62, 63, 64, 65, 66, 67, 68, 69, 70, 71, 72, 73, 74, 75, 76, 77, 78, 79, 80, 81, 82, 83, 84, 85, 86, 87, 88, 96, 97, 98, 99, 100, 101, 102, 103, 104, 105, 106, 107, 108, 109, 110, 111, 112, 113, 114] (by decide +kernel) (by decide +kernel)
set_option maxRecDepth 20000 in
theorem gL_seen_X9_total : GoodIn wsL_seen (wsV RL 11 RX9 yX9_total wsX9_total) := goodIn_app (goodIn_of _ (by decide +kernel)) ggL_seen_X9_total
set_option maxRecDepth 20000 in
theorem ggL_seen_X9_entry : GoodIn wsL_seen wsX9_entry := goodIn_r _ [92, 8, 93, 94, 32, 33, 15, 34, 17, 95, 27, 28, 29, 30, 31, 96, 97, 98, 99, 100, 101, 102, 103, 104, 105, 106, 107, 108, 109] (by decide +kernel) (by decide +kernel)
set_option maxRecDepth 20000 in
theorem gL_seen_X9_entry : GoodIn wsL_seen (wsV RL 19 RX9 yX9_entry wsX9_entry) := goodIn_app (goodIn_of _ (by decide +kernel)) ggL_seen_X9_entry
set_option maxRecDepth 20000 in
theorem ggL_refusesAny_X9_total : GoodIn wsL_refusesAny wsX9_total := goodIn_r _ [12, 13, 14, 15, 16, 17, 18, 19, 20, 21, 22, 23, 24, 25, 26, 27, 28, 29, 30, 31, 32, 33, 34, 35, 36, 37, 38, 39, 40, 41, 42, 43, 44, 45, 46, 47, 48, 49, 50, 51, 52, 53, 54, 55, 56, 57, 58, 59, 60, 61, 62, 63, 64, 65, 66, 67, 68, 69, 70, 71, 72, 73, 74, 75, 76, 77, 78, 79, 80, 81, 82, 83, 84, 85, 86, 87, 88, 89, 90, 91, 92, 93, 370, 371, 372, 373, 374, 375, 376, 377, 378, 379, 380, 381, 382, 383, 384, 385, 386, 387, 388] (by decide +kernel) (by decide +kernel)
set_option maxRecDepth 20000 in
theorem gL_refusesAny_X9_total : GoodIn wsL_refusesAny (wsV RL 11 RX9 yX9_total wsX9_total) := goodIn_app (goodIn_of _ (by decide +kernel)) ggL_refusesAny_X9_total
set_option maxRecDepth 20000 in
theorem ggL_refusesAny_X9_clear : GoodIn wsL_refusesAny wsX9_clear := goodIn_r _ [97, 16, 13, 98, 17, 18, 19, 20, 21, 22, 99, 100, 101, 102, 35, 103, 104, 105, 106, 107, 108, 109, 11, 110, 14, 111, 112, 113, 85, 114, 87, 115, 116, 117, 118, 119, 120, 121, 122, 123, 124, 125, 126, 127, 128, 129, 370, 371, 372, 373, 374, 375, 376, 377, 378, 379, 380, 381, 382, 383, 384, 385, 386] (by decide +kernel) (by decide +kernel)
set_option maxRecDepth 20000 in
theorem gL_refusesAny_X9_clear : GoodIn wsL_refusesAny (wsV RL 23 RX9 yX9_clear wsX9_clear) := goodIn_app (goodIn_of _ (by decide +kernel)) ggL_refusesAny_X9_clear
set_option maxRecDepth 20000 in
theorem ggL_refusesAny_X9_set : GoodIn wsL_refusesAny wsX9_set := goodIn_r _ [133, 13, 134, 16, 135, 98, 136, 37, 38, 20, 39, 22, 137, 138, 11, 139, 140, 32, 33, 34, 35, 36, 129, 122, 123, 124, 125, 126, 127, 128, 141, 142, 143, 144, 107, 108, 109, 110, 14, 111, 112, 113, 85, 114, 87, 115, 116, 117, 118, 119, 120, 121, 370, 371, 372, 373, 374, 375, 376, 377, 378, 379, 380, 381, 382, 383, 384, 385, 386] (by decide +kernel) (by decide +kernel)
set_option maxRecDepth 20000 in
theorem gL_refusesAny_X9_set : GoodIn wsL_refusesAny (wsV RL 29 RX9 yX9_set wsX9_set) := goodIn_app (goodIn_of _ (by decide +kernel)) ggL_refusesAny_X9_set
set_option maxRecDepth 20000 in
theorem ggL_refusesAny_X9_entry : GoodIn wsL_refusesAny wsX9_entry := goodIn_r _ [148, 13, 134, 136, 37, 38, 20, 39, 22, 140, 32, 33, 34, 35, 36, 370, 371, 372, 373, 374, 375, 376, 377, 378, 379, 380, 381, 382, 383] (by decide +kernel) (by decide +kernel)
set_option maxRecDepth 20000 in
theorem gL_refusesAny_X9_entry : GoodIn wsL_refusesAny (wsV RL 19 RX9 yX9_entry wsX9_entry) := goodIn_app (goodIn_of _ (by decide +kernel)) ggL_refusesAny_X9_entry
set_option maxRecDepth 20000 in
theorem ggL_refusesAny_X9_swapRows : GoodIn wsL_refusesAny wsX9_swapRows := goodIn_r _ [152, 13, 134, 98, 136, 37, 38, 20, 39, 22, 129, 122, 123, 124, 35, 125, 126, 127, 128, 17, 18, 19, 21, 140, 32, 33, 34, 36, 141, 142, 143, 144, 153, 154, 155, 11, 156, 135, 157, 158, 159, 160, 31, 107, 108, 109, 110, 14, 111, 112, 113, 85, 114, 87, 115, 116, 117, 118, 119, 120, 121, 370, 371, 372, 373, 374, 375, 376, 377, 378, 379, 380, 381, 382, 383, 384, 385, 386] (by decide +kernel) (by decide +kernel)
set_option maxRecDepth 20000 in
theorem gL_refusesAny_X9_swapRows : GoodIn wsL_refusesAny (wsV RL 35 RX9 yX9_swapRows wsX9_swapRows) := goodIn_app (goodIn_of _ (by decide +kernel)) ggL_refusesAny_X9_swapRows
set_option maxRecDepth 20000 in
theorem ggL_refusesAny_X9_swapColumns : GoodIn wsL_refusesAny wsX9_swapColumns := goodIn_r _ [164, 13, 134, 98, 136, 37, 38, 20, 39, 22, 129, 122, 123, 124, 35, 125, 126, 127, 128, 17, 18, 19, 21, 140, 32, 33, 34, 36, 141, 142, 143, 144, 153, 154, 155, 11, 156, 135, 157, 158, 159, 160, 31, 107, 108, 109, 110, 14, 111, 112, 113, 85, 114, 87, 115, 116, 117, 118, 119, 120, 121, 370, 371, 372, 373, 374, 375, 376, 377, 378, 379, 380, 381, 382, 383, 384, 385, 386] (by decide +kernel) (by decide +kernel)
set_option maxRecDepth 20000 in
theorem gL_refusesAny_X9_swapColumns : GoodIn wsL_refusesAny (wsV RL 38 RX9 yX9_swapColumns wsX9_swapColumns) := goodIn_app (goodIn_of _ (by decide +kernel)) ggL_refusesAny_X9_swapColumns
set_option maxRecDepth 20000 in
theorem ggL_refusesAny_X9_multiply : GoodIn wsL_refusesAny wsX9_multiply := goodIn_r _ [168, 13, 134, 16, 98, 169, 136, 37, 38, 20, 39, 22, 129, 122, 123, 124, 35, 125, 126, 127, 128, 17, 18, 19, 21, 140, 32, 33, 34, 36, 137, 138, 11, 139, 141, 142, 143, 144, 153, 154, 155, 156, 135, 157, 158, 159, 160, 31, 107, 108, 109, 110, 14, 111, 112, 113, 85, 114, 87, 115, 116, 117, 118, 119, 120, 121, 370, 371, 372, 373, 374, 375, 376, 377, 378, 379, 380, 381, 382, 383, 384, 385, 386] (by decide +kernel) (by decide +kernel)
set_option maxRecDepth 20000 in
theorem gL_refusesAny_X9_multiply : GoodIn wsL_refusesAny (wsV RL 41 RX9 yX9_multiply wsX9_multiply) := goodIn_app (goodIn_of _ (by decide +kernel)) ggL_refusesAny_X9_multiply
set_option maxRecDepth 20000 in
theorem ggL_refusesAny_X9_add : GoodIn wsL_refusesAny wsX9_add := goodIn_r _ [173, 13, 134, 169, 98, 174, 175, 176, 20, 177, 22, 36, 37, 38, 39, 178, 179, 180, 181, 59, 60, 61, 62, 31, 32, 33, 34, 35, 129, 122, 123, 124, 125, 126, 127, 128, 182, 183, 184, 185, 186, 142, 143, 144, 107, 108, 109, 11, 110, 14, 111, 112, 113, 85, 114, 87, 115, 116, 117, 118, 119, 120, 121, 187, 188, 189, 190, 370, 371, 372, 373, 374, 375, 376, 377, 378, 379, 380, 381, 382, 383, 384, 385, 386] (by decide +kernel) (by decide +kernel)
set_option maxRecDepth 20000 in
theorem gL_refusesAny_X9_add : GoodIn wsL_refusesAny (wsV RL 44 RX9 yX9_add wsX9_add) := goodIn_app (goodIn_of _ (by decide +kernel)) ggL_refusesAny_X9_add
set_option maxRecDepth 20000 in
theorem ggL_refusesAny_X9_lineSum : GoodIn wsL_refusesAny wsX9_lineSum := goodIn_r _ [194, 13, 134, 136, 37, 38, 20, 39, 22, 195, 79, 80, 81, 31, 32, 33, 34, 35, 36, 196, 52, 53, 54, 370, 371, 372, 373, 374, 375, 376, 377, 378, 379, 380, 381, 382, 383] (by decide +kernel) (by decide +kernel)
set_option maxRecDepth 20000 in
theorem gL_refusesAny_X9_lineSum : GoodIn wsL_refusesAny (wsV RL 48 RX9 yX9_lineSum wsX9_lineSum) := goodIn_app (goodIn_of _ (by decide +kernel)) ggL_refusesAny_X9_lineSum
set_option maxRecDepth 20000 in
theorem ggL_refusesAny_X9_wholeDiagonal : GoodIn wsL_refusesAny wsX9_wholeDiagonal := goodIn_r _ [200, 16, 201, 13, 135, 202, 203, 204, 205, 206, 207, 208, 209, 20, 210, 22, 211, 212, 213, 214, 215, 216, 41, 42, 43, 44, 45, 46, 217, 18, 19, 21, 218, 219, 220, 221, 222, 32, 33, 34, 35, 36, 37, 38, 39, 223, 224, 225, 226, 227, 228, 229, 230, 231, 370, 371, 372, 373, 374, 375, 376, 377, 378, 379, 380, 381, 382, 383, 389] (by decide +kernel) (by decide +kernel)
set_option maxRecDepth 20000 in
theorem gL_refusesAny_X9_wholeDiagonal : GoodIn wsL_refusesAny (wsV RL 52 RX9 yX9_wholeDiagonal wsX9_wholeDiagonal) := goodIn_app (goodIn_of _ (by decide +kernel)) ggL_refusesAny_X9_wholeDiagonal
set_option maxRecDepth 20000 in
theorem ggL_refusesAny_X9_diagonalsThrough : GoodIn wsL_refusesAny wsX9_diagonalsThrough := goodIn_r _ [235, 13, 134, 236, 136, 37, 38, 20, 39, 22, 140, 32, 33, 34, 35, 36, 237, 238, 239, 240, 241, 100, 101, 102, 103, 104, 105, 106, 31, 186, 142, 143, 144, 242, 243, 244, 11, 245, 246, 208, 209, 210, 247, 248, 249, 250, 251, 252, 253, 254, 255, 256, 257, 17, 18, 19, 21, 258, 259, 260, 261, 262, 263, 264, 265, 266, 267, 268, 269, 270, 271, 272, 273, 41, 42, 43, 44, 45, 46, 274, 275, 276, 277, 278, 370, 371, 372, 373, 374, 375, 376, 377, 378, 379, 380, 381, 382, 383, 390] (by decide +kernel) (by decide +kernel)
set_option maxRecDepth 20000 in
theorem gL_refusesAny_X9_diagonalsThrough : GoodIn wsL_refusesAny (wsV RL 55 RX9 yX9_diagonalsThrough wsX9_diagonalsThrough) := goodIn_app (goodIn_of _ (by decide +kernel)) ggL_refusesAny_X9_diagonalsThrough
set_option maxRecDepth 20000 in
theorem ggL_refusesAny_X9_rooks : GoodIn wsL_refusesAny wsX9_rooks := goodIn_r _ [282, 13, 16, 236, 17, 18, 19, 20, 21, 22, 237, 238, 239, 240, 241, 100, 101, 102, 35, 103, 104, 105, 106, 31, 32, 33, 34, 36, 37, 38, 39, 186, 142, 143, 144, 283, 284, 285, 11, 286, 251, 252, 253, 254, 255, 256, 257, 287, 288, 289, 290, 262, 208, 209, 210, 268, 269, 270, 271, 263, 264, 265, 266, 267, 272, 273, 41, 42, 43, 44, 45, 46, 274, 275, 276, 277, 291, 292, 293, 294, 370, 371, 372, 373, 374, 375, 376, 377, 378, 379, 380, 381, 382, 383, 390] (by decide +kernel) (by decide +kernel)
set_option maxRecDepth 20000 in
theorem gL_refusesAny_X9_rooks : GoodIn wsL_refusesAny (wsV RL 58 RX9 yX9_rooks wsX9_rooks) := goodIn_app (goodIn_of _ (by decide +kernel)) ggL_refusesAny_X9_rooks
set_option maxRecDepth 20000 in
theorem ggL_refusesAny_X9_minor : GoodIn wsL_refusesAny wsX9_minor := goodIn_r _ [298, 13, 299, 136, 37, 38, 20, 39, 22, 242, 243, 244, 11, 245, 246, 208, 209, 210, 247, 248, 249, 250, 251, 252, 253, 254, 255, 256, 257, 17, 18, 19, 21, 258, 259, 260, 261, 262, 263, 264, 265, 266, 267, 268, 269, 270, 271, 272, 32, 33, 34, 35, 36, 273, 41, 42, 43, 44, 45, 46, 274, 275, 276, 277, 278, 370, 371, 372, 373, 374, 375, 376, 377, 378, 379, 380, 381, 382, 383, 390] (by decide +kernel) (by decide +kernel)
set_option maxRecDepth 20000 in
theorem gL_refusesAny_X9_minor : GoodIn wsL_refusesAny (wsV RL 61 RX9 yX9_minor wsX9_minor) := goodIn_app (goodIn_of _ (by decide +kernel)) ggL_refusesAny_X9_minor
set_option maxRecDepth 20000 in
theorem ggL_refusesAny_X9_permanentOf : GoodIn wsL_refusesAny wsX9_permanentOf := goodIn_r _ [303, 13, 299, 304, 246, 208, 209, 20, 210, 22, 305, 41, 42, 43, 44, 45, 46, 247, 248, 249, 11, 250, 251, 252, 253, 254, 255, 256, 257, 17, 18, 19, 21, 258, 259, 260, 261, 262, 263, 264, 265, 266, 267, 268, 269, 270, 271, 272, 32, 33, 34, 35, 36, 37, 38, 39, 273, 274, 275, 276, 277, 278, 370, 371, 372, 373, 374, 375, 376, 377, 378, 379, 380, 381, 382, 383, 390] (by decide +kernel) (by decide +kernel)
set_option maxRecDepth 20000 in
theorem gL_refusesAny_X9_permanentOf : GoodIn wsL_refusesAny (wsV RL 67 RX9 yX9_permanentOf wsX9_permanentOf) := goodIn_app (goodIn_of _ (by decide +kernel)) ggL_refusesAny_X9_permanentOf
set_option maxRecDepth 20000 in
theorem ggL_refusesAny_X9_sumOf : GoodIn wsL_refusesAny wsX9_sumOf := goodIn_r _ [309, 13, 310, 17, 18, 19, 20, 21, 22, 283, 284, 285, 11, 286, 251, 252, 253, 254, 255, 256, 257, 287, 288, 289, 290, 262, 208, 209, 210, 268, 269, 270, 271, 263, 264, 265, 266, 267, 272, 32, 33, 34, 35, 36, 37, 38, 39, 273, 41, 42, 43, 44, 45, 46, 274, 275, 276, 277, 291, 292, 293, 294, 370, 371, 372, 373, 374, 375, 376, 377, 378, 379, 380, 381, 382, 383, 390] (by decide +kernel) (by decide +kernel)
set_option maxRecDepth 20000 in
theorem gL_refusesAny_X9_sumOf : GoodIn wsL_refusesAny (wsV RL 72 RX9 yX9_sumOf wsX9_sumOf) := goodIn_app (goodIn_of _ (by decide +kernel)) ggL_refusesAny_X9_sumOf
set_option maxRecDepth 20000 in
theorem ggL_refusesAny_X9_clearText : GoodIn wsL_refusesAny wsX9_clearText := goodIn_r _ [314, 15, 88, 89, 90, 91, 92, 93, 315, 316, 317, 318, 370, 371, 372, 373, 374, 375, 376, 377, 378, 379, 380, 381, 387, 388] (by decide +kernel) (by decide +kernel)
set_option maxRecDepth 20000 in
theorem gL_refusesAny_X9_clearText : GoodIn wsL_refusesAny (wsV RL 78 RX9 yX9_clearText wsX9_clearText) := goodIn_app (goodIn_of _ (by decide +kernel)) ggL_refusesAny_X9_clearText
set_option maxRecDepth 20000 in
theorem ggL_refusesAny_X9_read : GoodIn wsL_refusesAny wsX9_read := goodIn_r _ [322, 323, 98, 15, 13, 324, 325, 326, 327, 328, 329, 330, 331, 332, 333, 334, 335, 336, 337, 338, 100, 101, 20, 102, 35, 103, 104, 105, 106, 22, 339, 340, 341, 342, 343, 344, 345, 91, 346, 93, 347, 348, 349, 350, 351, 89, 90, 92, 352, 142, 143, 144, 36, 37, 38, 39, 353, 354, 355, 356, 357, 358, 359, 360, 361, 362, 363, 364, 365, 366, 367, 368, 369, 107, 108, 109, 11, 110, 14, 111, 112, 113, 85, 114, 87, 115, 116, 117, 118, 119, 120, 121, 122, 123, 124, 125, 126, 127, 128, 129, 17, 18, 19, 21, 370, 371, 372, 373, 374, 375, 376, 377, 378, 379, 380, 381, 391, 392, 393, 394, 395, 382, 383, 387, 388, 384, 385, 386] (by decide +kernel) (by decide +kernel)
set_option maxRecDepth 20000 in
theorem gL_refusesAny_X9_read : GoodIn wsL_refusesAny (wsV RL 82 RX9 yX9_read wsX9_read) := goodIn_app (goodIn_of _ (by decide +kernel)) ggL_refusesAny_X9_read
set_option maxRecDepth 20000 in
theorem ggL_refuses_L_seen : GoodIn wsL_refuses wsL_seen := goodIn_r _ [4, 5, 6, 7, 8, 9, 10, 11, 12, 13, 14, 15, 16, 17, 18, 19, 20, 21, 22, 23, 24, 25, 26, 27, 28, 29, 30, 31, 32, 33, 34, 35, 36, 37, 38, 39, 40, 41, 42, 43, 44, 45, 46, 47, 48, 49, 50, 51, 52, 53, 54, 55, 56, 57, 58, 59, 60, 61, 62, 63, 64, 65, 66, 67, 68, 69, 70, 71, 72, 73, 74, 75, 76, 77, 78, 79, 80, 81, 82, 83, 84, 85, 86, 87, 88, 89, 90, 91, 92, 93, 94, 95, 96, 97, 98, 99, 379, 380, 381, 382, 383, 384, 385, 386, 387, 388, 389, 390, 391, 392, 393, 394, 395, 396, 397] (by decide +kernel) (by decide +kernel)
set_option maxRecDepth 20000 in
theorem gL_refuses_L_seen : GoodIn wsL_refuses (va_wsS RL 85 yL_seen wsL_seen) := goodIn_app (goodIn_of _ (by decide +kernel)) ggL_refuses_L_seen
set_option maxRecDepth 20000 in
theorem ggL_refuses_X9_total : GoodIn wsL_refuses wsX9_total := goodIn_r _ [11, 12, 13, 14, 15, 16, 17, 18, 19, 20, 21, 22, 23, 24, 25, 26, 27, 28, 29, 30, 31, 32, 33, 34, 35, 36, 37, 38, 39, 40, 41, 42, 43, 44, 45, 46, 47, 48, 49, 50, 51, 52, 53, 54, 55, 56, 57, 58, 59, 60, 61, 62, 63, 64, 65, 66, 67, 68, 69, 70, 71, 72, 73, 74, 75, 76, 77, 78, 79, 80, 81, 82, 83, 84, 85, 86, 87, 88, 89, 90, 91, 92, 379, 380, 381, 382, 383, 384, 385, 386, 387, 388, 389, 390, 391, 392, 393, 394, 395, 396, 397] (by decide +kernel) (by decide +kernel)
set_option maxRecDepth 20000 in
theorem gL_refuses_X9_total : GoodIn wsL_refuses (wsV RL 11 RX9 yX9_total wsX9_total) := goodIn_app (goodIn_of _ (by decide +kernel)) ggL_refuses_X9_total
set_option maxRecDepth 20000 in
theorem ggL_refuses_L_refusesAny_c : GoodIn wsL_refuses [.code yL_refusesAny cL_refusesAny 6 (some .boolean)] := goodIn_r _ [102] (by decide +kernel) (by decide +kernel)
set_option maxRecDepth 20000 in
theorem ggL_refuses_L_refusesAny_r1 : GoodIn wsL_refuses wsL_refusesAny_r1 := goodIn_r _ [103, 104, 105, 106, 107, 108, 109, 7, 8, 9, 10, 11, 12, 13, 14, 15, 16, 17, 18, 19, 20, 21, 22, 23] (by decide +kernel) (by decide +kernel)
set_option maxRecDepth 20000 in
theorem ggL_refuses_L_refusesAny_r2 : GoodIn wsL_refuses wsL_refusesAny_r2 := goodIn_r _ [24, 25, 26, 27, 28, 29, 30, 31, 32, 33, 34, 35, 36, 37, 38, 39, 40, 41, 42, 43, 44, 45, 46, 47] (by decide +kernel) (by decide +kernel)
set_option maxRecDepth 20000 in
theorem ggL_refuses_L_refusesAny_r3 : GoodIn wsL_refuses wsL_refusesAny_r3 := goodIn_r _ [48, 49, 50, 51, 52, 53, 54, 55, 56, 57, 58, 59, 60, 61, 62, 63, 64, 65, 66, 67, 68, 69, 70, 71] (by decide +kernel) (by decide +kernel)
set_option maxRecDepth 20000 in
theorem ggL_refuses_L_refusesAny_r4 : GoodIn wsL_refuses wsL_refusesAny_r4 := goodIn_r _ [72, 73, 74, 75, 76, 77, 78, 79, 80, 81, 82, 83, 84, 85, 86, 87, 88, 89, 90, 91, 92, 110, 111, 112] (by decide +kernel) (by decide +kernel)
set_option maxRecDepth 20000 in
theorem ggL_refuses_L_refusesAny_r5 : GoodIn wsL_refuses wsL_refusesAny_r5 := goodIn_r _ [113, 114, 115, 116, 117, 118, 119, 120, 121, 122, 123, 124, 125, 126, 127, 128, 129, 130, 131, 132, 133, 134, 135, 136] (by decide +kernel) (by decide +kernel)
set_option maxRecDepth 20000 in
theorem ggL_refuses_L_refusesAny_r6 : GoodIn wsL_refuses wsL_refusesAny_r6 := goodIn_r _ [137, 138, 139, 140, 141, 142, 143, 144, 145, 146, 147, 148, 149, 97, 150, 98, 151, 152, 153, 99, 154, 155, 156, 157] (by decide +kernel) (by decide +kernel)
set_option maxRecDepth 20000 in
theorem ggL_refuses_L_refusesAny_r7 : GoodIn wsL_refuses wsL_refusesAny_r7 := goodIn_r _ [93, 94, 95, 96, 158, 159, 160, 161, 162, 163, 164, 165, 166, 167, 168, 169, 170, 171, 172, 173, 174, 175, 176, 177] (by decide +kernel) (by decide +kernel)
set_option maxRecDepth 20000 in
theorem ggL_refuses_L_refusesAny_r8 : GoodIn wsL_refuses wsL_refusesAny_r8 := goodIn_r _ [178, 179, 180, 181, 182, 183, 184, 185, 186, 187, 188, 189, 190, 191, 192, 193, 194, 195, 196, 197, 198, 199, 200, 201] (by decide +kernel) (by decide +kernel)
set_option maxRecDepth 20000 in
theorem ggL_refuses_L_refusesAny_r9 : GoodIn wsL_refuses wsL_refusesAny_r9 := goodIn_r _ [202, 203, 204, 205, 206, 207, 208, 209, 210, 211, 212, 213, 214, 215, 216, 217, 218, 219, 220, 221, 222, 223, 224, 225] (by decide +kernel) (by decide +kernel)
set_option maxRecDepth 20000 in
theorem ggL_refuses_L_refusesAny_r10 : GoodIn wsL_refuses wsL_refusesAny_r10 := goodIn_r _ [226, 227, 228, 229, 230, 231, 232, 233, 234, 235, 236, 237, 238, 239, 240, 241, 242, 243, 244, 245, 246, 247, 248, 249] (by decide +kernel) (by decide +kernel)
set_option maxRecDepth 20000 in
theorem ggL_refuses_L_refusesAny_r11 : GoodIn wsL_refuses wsL_refusesAny_r11 := goodIn_r _ [250, 251, 252, 253, 254, 255, 256, 257, 258, 259, 260, 261, 262, 263, 264, 265, 266, 267, 268, 269, 270, 271, 272, 273] (by decide +kernel) (by decide +kernel)
set_option maxRecDepth 20000 in
theorem ggL_refuses_L_refusesAny_r12 : GoodIn wsL_refuses wsL_refusesAny_r12 := goodIn_r _ [274, 275, 276, 277, 278, 279, 280, 281, 282, 283, 284, 285, 286, 287, 288, 289, 290, 291, 292, 293, 294, 295, 296, 297] (by decide +kernel) (by decide +kernel)
set_option maxRecDepth 20000 in
theorem ggL_refuses_L_refusesAny_r13 : GoodIn wsL_refuses wsL_refusesAny_r13 := goodIn_r _ [298, 299, 300, 301, 302, 303, 304, 305, 306, 307, 308, 309, 310, 311, 312, 313, 314, 315, 316, 317, 318, 319, 320, 321] (by decide +kernel) (by decide +kernel)
set_option maxRecDepth 20000 in
theorem ggL_refuses_L_refusesAny_r14 : GoodIn wsL_refuses wsL_refusesAny_r14 := goodIn_r _ [322, 323, 324, 325, 326, 327, 328, 329, 330, 331, 332, 333, 334, 335, 336, 337, 338, 339, 340, 341, 342, 343, 344, 345] (by decide +kernel) (by decide +kernel)
set_option maxRecDepth 20000 in
theorem ggL_refuses_L_refusesAny_r15 : GoodIn wsL_refuses wsL_refusesAny_r15 := goodIn_r _ [346, 347, 348, 349, 350, 351, 352, 353, 354, 355, 356, 357, 358, 359, 360, 361, 362, 363, 364, 365, 366, 367, 368, 369] (by decide +kernel) (by decide +kernel)
set_option maxRecDepth 20000 in
theorem ggL_refuses_L_refusesAny_r16 : GoodIn wsL_refuses wsL_refusesAny_r16 := goodIn_r _ [370, 371, 372, 373, 374, 375, 376, 377, 378] (by decide +kernel) (by decide +kernel)
set_option maxRecDepth 20000 in
theorem ggL_refuses_L_refusesAny_wsX90 : GoodIn wsL_refuses wsX90 := goodIn_r _ [379, 380, 381, 382, 383, 384, 385, 386, 387, 388, 389, 390] (by decide +kernel) (by decide +kernel)
set_option maxRecDepth 20000 in
theorem ggL_refuses_L_refusesAny_wsX40 : GoodIn wsL_refuses wsX40 := goodIn_r _ [391, 392] (by decide +kernel) (by decide +kernel)
set_option maxRecDepth 20000 in
theorem ggL_refuses_L_refusesAny_wsX30 : GoodIn wsL_refuses wsX30 := goodIn_r _ [393, 394, 395] (by decide +kernel) (by decide +kernel)
set_option maxRecDepth 20000 in
theorem ggL_refuses_L_refusesAny_wsX70 : GoodIn wsL_refuses wsX70 := goodIn_r _ [396, 397] (by decide +kernel) (by decide +kernel)
set_option maxRecDepth 20000 in
theorem ggL_refuses_L_refusesAny_wsX20 : GoodIn wsL_refuses wsX20 := goodIn_r _ [398] (by decide +kernel) (by decide +kernel)
set_option maxRecDepth 20000 in
theorem ggL_refuses_L_refusesAny_wsX00 : GoodIn wsL_refuses wsX00 := goodIn_r _ [399] (by decide +kernel) (by decide +kernel)
set_option maxRecDepth 20000 in
theorem ggL_refuses_L_refusesAny_wsX80 : GoodIn wsL_refuses wsX80 := goodIn_r _ [400, 401, 402, 403, 404] (by decide +kernel) (by decide +kernel)
theorem ggL_refuses_L_refusesAny : GoodIn wsL_refuses wsL_refusesAny := by
  intro w h
  rcases List.mem_cons.mp h with e | h
  · subst e
    exact ggL_refuses_L_refusesAny_c _ List.mem_cons_self
  · exact (goodIn_app (goodIn_app (goodIn_app (goodIn_app (goodIn_app (goodIn_app (goodIn_app (goodIn_app ggL_refuses_L_refusesAny_r1 (goodIn_app ggL_refuses_L_refusesAny_r2 (goodIn_app ggL_refuses_L_refusesAny_r3 (goodIn_app ggL_refuses_L_refusesAny_r4 (goodIn_app ggL_refuses_L_refusesAny_r5 (goodIn_app ggL_refuses_L_refusesAny_r6 (goodIn_app ggL_refuses_L_refusesAny_r7 (goodIn_app ggL_refuses_L_refusesAny_r8 (goodIn_app ggL_refuses_L_refusesAny_r9 (goodIn_app ggL_refuses_L_refusesAny_r10 (goodIn_app ggL_refuses_L_refusesAny_r11 (goodIn_app ggL_refuses_L_refusesAny_r12 (goodIn_app ggL_refuses_L_refusesAny_r13 (goodIn_app ggL_refuses_L_refusesAny_r14 (goodIn_app ggL_refuses_L_refusesAny_r15 ggL_refuses_L_refusesAny_r16))))))))))))))) ggL_refuses_L_refusesAny_wsX90) ggL_refuses_L_refusesAny_wsX40) ggL_refuses_L_refusesAny_wsX30) ggL_refuses_L_refusesAny_wsX70) ggL_refuses_L_refusesAny_wsX20) ggL_refuses_L_refusesAny_wsX00) ggL_refuses_L_refusesAny_wsX80) w h
set_option maxRecDepth 20000 in
theorem gL_refuses_L_refusesAny : GoodIn wsL_refuses (va_wsS RL 89 yL_refusesAny wsL_refusesAny) := goodIn_app (goodIn_of _ (by decide +kernel)) ggL_refuses_L_refusesAny
set_option maxRecDepth 20000 in
theorem ggL_setEntry_X9_total : GoodIn wsL_setEntry wsX9_total := goodIn_r _ [6, 7, 8, 9, 10, 11, 12, 13, 14, 15, 16, 17, 18, 19, 20, 21, 22, 23, 24, 25, 26, 27, 28, 29, 30, 31, 32, 33, 34, 35, 36, 37, 38, 39, 40, 41, 42, 43, 44, 45, 46, 47, 48, 49, 50, 51, 52, 53, 54, 55, 56, 57, 58, 59, 60, 61, 62, 63, 64, 65, 66, 67, 68, 69, 70, 71, 72, 73, 74, 75, 76, 77, 78, 79, 80, 81, 82, 83, 84, 85, 86, 87, 180, 181, 182, 183, 184, 185, 186, 187, 188, 189, 190, 191, 192, 193, 194, 195, 196, 197, 198] (by decide +kernel) (by decide +kernel)
set_option maxRecDepth 20000 in
theorem gL_setEntry_X9_total : GoodIn wsL_setEntry (wsV RL 11 RX9 yX9_total wsX9_total) := goodIn_app (goodIn_of _ (by decide +kernel)) ggL_setEntry_X9_total
set_option maxRecDepth 20000 in
theorem ggL_setEntry_X9_entry : GoodIn wsL_setEntry wsX9_entry := goodIn_r _ [91, 7, 92, 93, 31, 32, 14, 33, 16, 94, 26, 27, 28, 29, 30, 180, 181, 182, 183, 184, 185, 186, 187, 188, 189, 190, 191, 192, 193] (by decide +kernel) (by decide +kernel)
set_option maxRecDepth 20000 in
theorem gL_setEntry_X9_entry : GoodIn wsL_setEntry (wsV RL 19 RX9 yX9_entry wsX9_entry) := goodIn_app (goodIn_of _ (by decide +kernel)) ggL_setEntry_X9_entry
set_option maxRecDepth 20000 in
theorem ggL_setEntry_X9_permanent : GoodIn wsL_setEntry wsX9_permanent := goodIn_r _ [98, 7, 99, 100, 101, 14, 102, 16, 103, 104, 105, 5, 106, 107, 108, 109, 110, 111, 112, 113, 11, 12, 13, 15, 114, 115, 116, 117, 118, 119, 120, 121, 122, 123, 124, 125, 126, 127, 128, 26, 27, 28, 29, 30, 31, 32, 33, 129, 35, 36, 37, 38, 39, 40, 130, 131, 132, 133, 134, 180, 181, 182, 183, 184, 185, 186, 187, 188, 189, 190, 191, 192, 193, 199] (by decide +kernel) (by decide +kernel)
set_option maxRecDepth 20000 in
theorem gL_setEntry_X9_permanent : GoodIn wsL_setEntry (wsV RL 93 RX9 yX9_permanent wsX9_permanent) := goodIn_app (goodIn_of _ (by decide +kernel)) ggL_setEntry_X9_permanent
