/-! the law: its words, 1 -/
set_option maxRecDepth 20000 in
theorem gL_law_X9_restore : GoodIn wsL_law (wsV RL 139 RX9 yX9_restore wsX9_restore) := goodIn_app (goodIn_of _ (by decide +kernel)) ggL_law_X9_restore
set_option maxRecDepth 20000 in
theorem ggL_law_X9_total : GoodIn wsL_law wsX9_total := goodIn_r _ [160, 13, 21, 25, 161, 153, 154, 155, 12, 156, 52, 162, 163, 164, 165, 166, 167, 168, 169, 170, 171, 172, 173, 51, 174, 175, 176, 177, 178, 179, 180, 181, 182, 183, 184, 185, 186, 187, 188, 189, 190, 191, 192, 193, 194, 195, 196, 197, 198, 199, 200, 201, 202, 203, 204, 205, 206, 207, 208, 209, 210, 211, 212, 213, 214, 215, 216, 217, 218, 219, 120, 121, 122, 20, 123, 60, 220, 221, 222, 24, 223, 68, 558, 559, 560, 561, 562, 563, 564, 565, 566, 567, 568, 569, 570, 571, 572, 573, 574, 575, 576] (by decide +kernel) (by decide +kernel)
set_option maxRecDepth 20000 in
theorem gL_law_X9_total : GoodIn wsL_law (wsV RL 11 RX9 yX9_total wsX9_total) := goodIn_app (goodIn_of _ (by decide +kernel)) ggL_law_X9_total
set_option maxRecDepth 20000 in
theorem ggL_law_L_refuses_c : GoodIn wsL_law [.code yL_refuses cL_refuses 5 (some .boolean)] := goodIn_r _ [227] (by decide +kernel) (by decide +kernel)
set_option maxRecDepth 20000 in
theorem ggL_law_L_refuses_r1 : GoodIn wsL_law wsL_refuses_r1 := goodIn_r _ [228, 229, 226, 230, 231, 232, 157, 158, 159, 2, 160, 13, 21, 25, 161, 153, 154, 155, 12, 156, 52, 162, 163, 164] (by decide +kernel) (by decide +kernel)
set_option maxRecDepth 20000 in
theorem ggL_law_L_refuses_r2 : GoodIn wsL_law wsL_refuses_r2 := goodIn_r _ [165, 166, 167, 168, 169, 170, 171, 172, 173, 51, 174, 175, 176, 177, 178, 179, 180, 181, 182, 183, 184, 185, 186, 187] (by decide +kernel) (by decide +kernel)
set_option maxRecDepth 20000 in
theorem ggL_law_L_refuses_r3 : GoodIn wsL_law wsL_refuses_r3 := goodIn_r _ [188, 189, 190, 191, 192, 193, 194, 195, 196, 197, 198, 199, 200, 201, 202, 203, 204, 205, 206, 207, 208, 209, 210, 211] (by decide +kernel) (by decide +kernel)
set_option maxRecDepth 20000 in
theorem ggL_law_L_refuses_r4 : GoodIn wsL_law wsL_refuses_r4 := goodIn_r _ [212, 213, 214, 215, 216, 217, 218, 219, 120, 121, 122, 20, 123, 60, 220, 221, 222, 24, 223, 68, 233, 234, 235, 236] (by decide +kernel) (by decide +kernel)
set_option maxRecDepth 20000 in
theorem ggL_law_L_refuses_r5 : GoodIn wsL_law wsL_refuses_r5 := goodIn_r _ [237, 238, 239, 240, 241, 242, 243, 244, 3, 245, 246, 247, 248, 249, 250, 251, 252, 14, 253, 254, 255, 256, 257, 258] (by decide +kernel) (by decide +kernel)
set_option maxRecDepth 20000 in
theorem ggL_law_L_refuses_r6 : GoodIn wsL_law wsL_refuses_r6 := goodIn_r _ [259, 260, 145, 146, 147, 148, 149, 150, 151, 152, 59, 128, 129, 130, 131, 58, 132, 133, 134, 135, 136, 137, 138, 139] (by decide +kernel) (by decide +kernel)
set_option maxRecDepth 20000 in
theorem ggL_law_L_refuses_r7 : GoodIn wsL_law wsL_refuses_r7 := goodIn_r _ [144, 261, 262, 263, 264, 119, 265, 266, 267, 268, 269, 270, 271, 272, 273, 274, 275, 276, 277, 278, 279, 280, 281, 282] (by decide +kernel) (by decide +kernel)
set_option maxRecDepth 20000 in
theorem ggL_law_L_refuses_r8 : GoodIn wsL_law wsL_refuses_r8 := goodIn_r _ [283, 284, 285, 286, 287, 288, 289, 290, 291, 292, 293, 294, 295, 296, 297, 298, 299, 300, 301, 302, 303, 304, 305, 306] (by decide +kernel) (by decide +kernel)
set_option maxRecDepth 20000 in
theorem ggL_law_L_refuses_r9 : GoodIn wsL_law wsL_refuses_r9 := goodIn_r _ [307, 308, 309, 310, 311, 312, 313, 314, 315, 316, 317, 318, 319, 320, 321, 322, 323, 37, 324, 325, 326, 36, 327, 328] (by decide +kernel) (by decide +kernel)
set_option maxRecDepth 20000 in
theorem ggL_law_L_refuses_r10 : GoodIn wsL_law wsL_refuses_r10 := goodIn_r _ [329, 330, 331, 332, 333, 334, 335, 92, 336, 337, 338, 339, 340, 341, 342, 343, 344, 345, 346, 347, 348, 349, 350, 351] (by decide +kernel) (by decide +kernel)
set_option maxRecDepth 20000 in
theorem ggL_law_L_refuses_r11 : GoodIn wsL_law wsL_refuses_r11 := goodIn_r _ [352, 353, 354, 355, 15, 356, 357, 358, 359, 360, 361, 362, 363, 364, 365, 366, 367, 368, 369, 33, 370, 371, 372, 32] (by decide +kernel) (by decide +kernel)
set_option maxRecDepth 20000 in
theorem ggL_law_L_refuses_r12 : GoodIn wsL_law wsL_refuses_r12 := goodIn_r _ [373, 87, 374, 375, 376, 377, 378, 379, 380, 381, 382, 383, 384, 385, 386, 387, 388, 389, 390, 391, 392, 393, 394, 395] (by decide +kernel) (by decide +kernel)
set_option maxRecDepth 20000 in
theorem ggL_law_L_refuses_r13 : GoodIn wsL_law wsL_refuses_r13 := goodIn_r _ [396, 397, 398, 399, 400, 401, 402, 403, 404, 405, 406, 407, 408, 409, 410, 411, 412, 413, 414, 415, 416, 417, 418, 419] (by decide +kernel) (by decide +kernel)
set_option maxRecDepth 20000 in
theorem ggL_law_L_refuses_r14 : GoodIn wsL_law wsL_refuses_r14 := goodIn_r _ [420, 421, 422, 423, 424, 425, 426, 427, 428, 429, 430, 431, 432, 433, 434, 435, 436, 437, 438, 29, 439, 440, 441, 28] (by decide +kernel) (by decide +kernel)
set_option maxRecDepth 20000 in
theorem ggL_law_L_refuses_r15 : GoodIn wsL_law wsL_refuses_r15 := goodIn_r _ [442, 77, 78, 79, 81, 73, 74, 75, 76, 80, 443, 444, 445, 446, 447, 448, 449, 450, 451, 67, 452, 453, 454, 455] (by decide +kernel) (by decide +kernel)
set_option maxRecDepth 20000 in
theorem ggL_law_L_refuses_r16 : GoodIn wsL_law wsL_refuses_r16 := goodIn_r _ [456, 457, 458, 459, 460, 461, 462, 463, 464, 465, 466, 467, 468, 469, 470, 471, 472, 473] (by decide +kernel) (by decide +kernel)
set_option maxRecDepth 20000 in
theorem ggL_law_L_refuses_wsX90 : GoodIn wsL_law wsX90 := goodIn_r _ [558, 559, 560, 561, 562, 563, 564, 565, 566, 567, 568, 569] (by decide +kernel) (by decide +kernel)
set_option maxRecDepth 20000 in
theorem ggL_law_L_refuses_wsX40 : GoodIn wsL_law wsX40 := goodIn_r _ [570, 571] (by decide +kernel) (by decide +kernel)
set_option maxRecDepth 20000 in
theorem ggL_law_L_refuses_wsX30 : GoodIn wsL_law wsX30 := goodIn_r _ [572, 573, 574] (by decide +kernel) (by decide +kernel)
set_option maxRecDepth 20000 in
theorem ggL_law_L_refuses_wsX70 : GoodIn wsL_law wsX70 := goodIn_r _ [575, 576] (by decide +kernel) (by decide +kernel)
set_option maxRecDepth 20000 in
theorem ggL_law_L_refuses_wsX20 : GoodIn wsL_law wsX20 := goodIn_r _ [583] (by decide +kernel) (by decide +kernel)
set_option maxRecDepth 20000 in
theorem ggL_law_L_refuses_wsX00 : GoodIn wsL_law wsX00 := goodIn_r _ [582] (by decide +kernel) (by decide +kernel)
set_option maxRecDepth 20000 in
theorem ggL_law_L_refuses_wsX80 : GoodIn wsL_law wsX80 := goodIn_r _ [577, 578, 579, 580, 581] (by decide +kernel) (by decide +kernel)
theorem ggL_law_L_refuses : GoodIn wsL_law wsL_refuses := by
  intro w h
  rcases List.mem_cons.mp h with e | h
  · subst e
    exact ggL_law_L_refuses_c _ List.mem_cons_self
  · exact (goodIn_app (goodIn_app (goodIn_app (goodIn_app (goodIn_app (goodIn_app (goodIn_app (goodIn_app ggL_law_L_refuses_r1 (goodIn_app ggL_law_L_refuses_r2 (goodIn_app ggL_law_L_refuses_r3 (goodIn_app ggL_law_L_refuses_r4 (goodIn_app ggL_law_L_refuses_r5 (goodIn_app ggL_law_L_refuses_r6 (goodIn_app ggL_law_L_refuses_r7 (goodIn_app ggL_law_L_refuses_r8 (goodIn_app ggL_law_L_refuses_r9 (goodIn_app ggL_law_L_refuses_r10 (goodIn_app ggL_law_L_refuses_r11 (goodIn_app ggL_law_L_refuses_r12 (goodIn_app ggL_law_L_refuses_r13 (goodIn_app ggL_law_L_refuses_r14 (goodIn_app ggL_law_L_refuses_r15 ggL_law_L_refuses_r16))))))))))))))) ggL_law_L_refuses_wsX90) ggL_law_L_refuses_wsX40) ggL_law_L_refuses_wsX30) ggL_law_L_refuses_wsX70) ggL_law_L_refuses_wsX20) ggL_law_L_refuses_wsX00) ggL_law_L_refuses_wsX80) w h
set_option maxRecDepth 20000 in
theorem gL_law_L_refuses : GoodIn wsL_law (va_wsS RL 142 yL_refuses wsL_refuses) := goodIn_app (goodIn_of _ (by decide +kernel)) ggL_law_L_refuses
