/-! the law: its words, 3 -/
set_option maxRecDepth 20000 in
theorem gL_law_L_cell : GoodIn wsL_law (va_wsS RL 148 yL_cell wsL_cell) := goodIn_app (goodIn_of _ (by decide +kernel)) ggL_law_L_cell
set_option maxRecDepth 20000 in
theorem ggL_law_L_act_c : GoodIn wsL_law [.code yL_act cL_act 6 (some .int)] := goodIn_r _ [485] (by decide +kernel) (by decide +kernel)
set_option maxRecDepth 20000 in
theorem ggL_law_L_act_r1 : GoodIn wsL_law wsL_act_r1 := goodIn_r _ [486, 487, 226, 488, 3, 157, 158, 159, 2, 160, 13, 21, 25, 161, 153, 154, 155, 12, 156, 52, 162, 163, 164, 165] (by decide +kernel) (by decide +kernel)
set_option maxRecDepth 20000 in
theorem ggL_law_L_act_r2 : GoodIn wsL_law wsL_act_r2 := goodIn_r _ [166, 167, 168, 169, 170, 171, 172, 173, 51, 174, 175, 176, 177, 178, 179, 180, 181, 182, 183, 184, 185, 186, 187, 188] (by decide +kernel) (by decide +kernel)
set_option maxRecDepth 20000 in
theorem ggL_law_L_act_r3 : GoodIn wsL_law wsL_act_r3 := goodIn_r _ [189, 190, 191, 192, 193, 194, 195, 196, 197, 198, 199, 200, 201, 202, 203, 204, 205, 206, 207, 208, 209, 210, 211, 212] (by decide +kernel) (by decide +kernel)
set_option maxRecDepth 20000 in
theorem ggL_law_L_act_r4 : GoodIn wsL_law wsL_act_r4 := goodIn_r _ [213, 214, 215, 216, 217, 218, 219, 120, 121, 122, 20, 123, 60, 220, 221, 222, 24, 223, 68, 233, 234, 235, 236, 237] (by decide +kernel) (by decide +kernel)
set_option maxRecDepth 20000 in
theorem ggL_law_L_act_r5 : GoodIn wsL_law wsL_act_r5 := goodIn_r _ [238, 239, 489, 490, 491, 492, 365, 329, 330, 331, 366, 367, 368, 369, 33, 370, 371, 372, 32, 373, 87, 374, 375, 376] (by decide +kernel) (by decide +kernel)
set_option maxRecDepth 20000 in
theorem ggL_law_L_act_r6 : GoodIn wsL_law wsL_act_r6 := goodIn_r _ [377, 378, 379, 380, 381, 382, 383, 384, 385, 386, 387, 388, 389, 390, 391, 392, 393, 394, 411, 412, 413, 414, 415, 361] (by decide +kernel) (by decide +kernel)
set_option maxRecDepth 20000 in
theorem ggL_law_L_act_r7 : GoodIn wsL_law wsL_act_r7 := goodIn_r _ [362, 363, 364, 261, 262, 263, 264, 119, 14, 265, 266, 267, 144, 133, 134, 135, 136, 137, 138, 139, 268, 269, 270, 271] (by decide +kernel) (by decide +kernel)
set_option maxRecDepth 20000 in
theorem ggL_law_L_act_r8 : GoodIn wsL_law wsL_act_r8 := goodIn_r _ [145, 146, 147, 148, 149, 150, 151, 152, 59, 128, 129, 130, 131, 58, 132, 493, 494, 495, 496, 497, 498, 499, 500, 501] (by decide +kernel) (by decide +kernel)
set_option maxRecDepth 20000 in
theorem ggL_law_L_act_r9 : GoodIn wsL_law wsL_act_r9 := goodIn_r _ [502, 503, 37, 324, 325, 326, 36, 327, 328, 332, 333, 334, 335, 92, 336, 337, 338, 339, 340, 341, 342, 343, 344, 345] (by decide +kernel) (by decide +kernel)
set_option maxRecDepth 20000 in
theorem ggL_law_L_act_r10 : GoodIn wsL_law wsL_act_r10 := goodIn_r _ [346, 347, 284, 285, 286, 287, 276, 277, 278, 279, 280, 281, 282, 283, 272, 273, 274, 275, 504, 505, 506, 395, 396, 397] (by decide +kernel) (by decide +kernel)
set_option maxRecDepth 20000 in
theorem ggL_law_L_act_r11 : GoodIn wsL_law wsL_act_r11 := goodIn_r _ [398, 15, 356, 357, 358, 359, 360, 254, 255, 256, 257, 258, 259, 260, 309, 399, 400, 401, 402, 403, 404, 405, 406, 407] (by decide +kernel) (by decide +kernel)
set_option maxRecDepth 20000 in
theorem ggL_law_L_act_r12 : GoodIn wsL_law wsL_act_r12 := goodIn_r _ [408, 409, 410, 507, 508, 509, 510, 511, 512, 513, 514, 515, 516, 517, 314, 315, 316, 317, 318, 319, 288, 289, 290, 291] (by decide +kernel) (by decide +kernel)
set_option maxRecDepth 20000 in
theorem ggL_law_L_act_r13 : GoodIn wsL_law wsL_act_r13 := goodIn_r _ [292, 518, 519, 520, 320, 321, 322, 323, 348, 349, 350, 351, 521, 522, 523, 524, 525, 526, 527, 528, 529, 530, 531, 532] (by decide +kernel) (by decide +kernel)
set_option maxRecDepth 20000 in
theorem ggL_law_L_act_r14 : GoodIn wsL_law wsL_act_r14 := goodIn_r _ [533, 534, 535, 536, 537, 293, 294, 295, 296, 297, 298, 299, 300, 301, 302, 303, 304, 305, 306, 307, 308, 310, 311, 312] (by decide +kernel) (by decide +kernel)
set_option maxRecDepth 20000 in
theorem ggL_law_L_act_r15 : GoodIn wsL_law wsL_act_r15 := goodIn_r _ [313, 249, 250, 251, 252, 253, 538, 539, 540, 541, 542, 543, 544, 545, 546, 547, 548, 549, 550, 551, 552, 553, 421, 554] (by decide +kernel) (by decide +kernel)
set_option maxRecDepth 20000 in
theorem ggL_law_L_act_r16 : GoodIn wsL_law wsL_act_r16 := goodIn_r _ [555, 556, 557] (by decide +kernel) (by decide +kernel)
set_option maxRecDepth 20000 in
theorem ggL_law_L_act_wsX90 : GoodIn wsL_law wsX90 := goodIn_r _ [558, 559, 560, 561, 562, 563, 564, 565, 566, 567, 568, 569] (by decide +kernel) (by decide +kernel)
set_option maxRecDepth 20000 in
theorem ggL_law_L_act_wsX40 : GoodIn wsL_law wsX40 := goodIn_r _ [570, 571] (by decide +kernel) (by decide +kernel)
set_option maxRecDepth 20000 in
theorem ggL_law_L_act_wsX30 : GoodIn wsL_law wsX30 := goodIn_r _ [572, 573, 574] (by decide +kernel) (by decide +kernel)
set_option maxRecDepth 20000 in
theorem ggL_law_L_act_wsX70 : GoodIn wsL_law wsX70 := goodIn_r _ [575, 576] (by decide +kernel) (by decide +kernel)
set_option maxRecDepth 20000 in
theorem ggL_law_L_act_wsX00 : GoodIn wsL_law wsX00 := goodIn_r _ [582] (by decide +kernel) (by decide +kernel)
set_option maxRecDepth 20000 in
theorem ggL_law_L_act_wsX20 : GoodIn wsL_law wsX20 := goodIn_r _ [583] (by decide +kernel) (by decide +kernel)
theorem ggL_law_L_act : GoodIn wsL_law wsL_act := by
  intro w h
  rcases List.mem_cons.mp h with e | h
  · subst e
    exact ggL_law_L_act_c _ List.mem_cons_self
  · exact (goodIn_app (goodIn_app (goodIn_app (goodIn_app (goodIn_app (goodIn_app (goodIn_app ggL_law_L_act_r1 (goodIn_app ggL_law_L_act_r2 (goodIn_app ggL_law_L_act_r3 (goodIn_app ggL_law_L_act_r4 (goodIn_app ggL_law_L_act_r5 (goodIn_app ggL_law_L_act_r6 (goodIn_app ggL_law_L_act_r7 (goodIn_app ggL_law_L_act_r8 (goodIn_app ggL_law_L_act_r9 (goodIn_app ggL_law_L_act_r10 (goodIn_app ggL_law_L_act_r11 (goodIn_app ggL_law_L_act_r12 (goodIn_app ggL_law_L_act_r13 (goodIn_app ggL_law_L_act_r14 (goodIn_app ggL_law_L_act_r15 ggL_law_L_act_r16))))))))))))))) ggL_law_L_act_wsX90) ggL_law_L_act_wsX40) ggL_law_L_act_wsX30) ggL_law_L_act_wsX70) ggL_law_L_act_wsX00) ggL_law_L_act_wsX20) w h
set_option maxRecDepth 20000 in
theorem gL_law_L_act : GoodIn wsL_law (va_wsS RL 152 yL_act wsL_act) := goodIn_app (goodIn_of _ (by decide +kernel)) ggL_law_L_act
