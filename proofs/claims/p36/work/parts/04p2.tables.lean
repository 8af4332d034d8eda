/-! the law: its words are the tables' -/
theorem mem_places {big ws : List Cond} (ps : List Nat) (h : ws = ps.filterMap (fun i => big[i]?)) : ∀ w ∈ ws, w ∈ big := by
  intro w hw
  rw [h] at hw
  obtain ⟨i, -, hi⟩ := List.mem_filterMap.mp hw
  exact List.mem_of_getElem? hi
theorem mem_app {big a b : List Cond} (ha : ∀ w ∈ a, w ∈ big) (hb : ∀ w ∈ b, w ∈ big) : ∀ w ∈ a ++ b, w ∈ big := fun w h => (List.mem_append.mp h).elim (ha w) (hb w)
set_option maxRecDepth 20000 in
theorem wli_1 : ∀ w ∈ wsL_law_r1, w ∈ lw_tbl := mem_places [30, 31, 18, 373, 32, 33, 34, 35, 36, 37, 38, 39, 19, 178, 179, 180, 181, 182, 52, 53, 20, 183, 71, 72] (by decide +kernel)
set_option maxRecDepth 20000 in
theorem wli_2 : ∀ w ∈ wsL_law_r2, w ∈ lw_tbl := mem_places [21, 184, 85, 86, 22, 185, 111, 112, 23, 186, 122, 123, 24, 187, 132, 133, 25, 188, 152, 153, 26, 189, 40, 41] (by decide +kernel)
set_option maxRecDepth 20000 in
theorem wli_3 : ∀ w ∈ wsL_law_r3, w ∈ lw_tbl := mem_places [42, 43, 51, 44, 45, 54, 55, 56, 57, 58, 61, 62, 63, 60, 73, 74, 75, 76, 84, 77, 78, 87, 88, 89] (by decide +kernel)
set_option maxRecDepth 20000 in
theorem wli_4 : ∀ w ∈ wsL_law_r4, w ∈ lw_tbl := mem_places [90, 91, 93, 0, 94, 95, 96, 97, 98, 99, 113, 114, 115, 116, 121, 117, 124, 125, 126, 127, 128, 134, 135, 136] (by decide +kernel)
set_option maxRecDepth 20000 in
theorem wli_5 : ∀ w ∈ wsL_law_r5, w ∈ lw_tbl := mem_places [137, 151, 138, 139, 140, 141, 154, 155, 156, 157, 158, 162, 160, 163, 164, 165, 166, 159, 161, 215, 216, 217, 218, 223] (by decide +kernel)
set_option maxRecDepth 20000 in
theorem wli_6 : ∀ w ∈ wsL_law_r6, w ∈ lw_tbl := mem_places [219, 220, 221, 222, 224, 225, 226, 227, 228, 230, 1, 231, 232, 233, 234, 235, 236, 238, 237, 27, 248, 249, 250, 251] (by decide +kernel)
set_option maxRecDepth 20000 in
theorem wli_7 : ∀ w ∈ wsL_law_r7, w ∈ lw_tbl := mem_places [243, 252, 254, 2, 255, 256, 257, 258, 259, 244, 245, 246, 247, 260, 261, 262, 263, 324, 264, 265, 266, 267, 268, 269] (by decide +kernel)
set_option maxRecDepth 20000 in
theorem wli_8 : ∀ w ∈ wsL_law_r8, w ∈ lw_tbl := mem_places [270, 271, 272, 273, 274, 275, 276, 277, 278, 279, 280, 281, 28, 282, 283, 284, 285, 286, 287, 288, 289, 290, 291, 292] (by decide +kernel)
set_option maxRecDepth 20000 in
theorem wli_9 : ∀ w ∈ wsL_law_r9, w ∈ lw_tbl := mem_places [293, 294, 295, 296, 297, 298, 299, 29, 300, 301, 302, 303, 304, 305, 306, 307, 308, 309, 310, 311, 312, 313, 314, 315] (by decide +kernel)
set_option maxRecDepth 20000 in
theorem wli_10 : ∀ w ∈ wsL_law_r10, w ∈ lw_tbl := mem_places [316, 317, 318, 319, 320, 321, 322, 323, 342, 343, 17, 344, 330, 331, 332, 333, 334, 335, 336, 337, 338, 340, 339, 341] (by decide +kernel)
set_option maxRecDepth 20000 in
theorem wli_11 : ∀ w ∈ wsL_law_r11, w ∈ lw_tbl := mem_places [345, 346, 347, 360, 372, 416, 519, 526, 532, 348, 349, 350, 351, 352, 353, 354, 355, 356, 357, 358, 359, 361, 362, 363] (by decide +kernel)
set_option maxRecDepth 20000 in
theorem wli_12 : ∀ w ∈ wsL_law_r12, w ∈ lw_tbl := mem_places [364, 365, 366, 367, 368, 369, 370, 371, 374, 375, 376, 377, 378, 380, 3, 381, 382, 383, 384, 385, 386, 387, 388, 389] (by decide +kernel)
set_option maxRecDepth 20000 in
theorem wli_13 : ∀ w ∈ wsL_law_r13, w ∈ lw_tbl := mem_places [390, 391, 392, 393, 394, 395, 396, 397, 398, 399, 400, 401, 402, 403, 404, 405, 406, 407, 408, 409, 410, 411, 412, 413] (by decide +kernel)
set_option maxRecDepth 20000 in
theorem wli_14 : ∀ w ∈ wsL_law_r14, w ∈ lw_tbl := mem_places [414, 415, 417, 418, 419, 420, 421, 422, 423, 424, 425, 426, 427, 428, 429, 430, 431, 432, 433, 434, 435, 437, 4, 438] (by decide +kernel)
set_option maxRecDepth 20000 in
theorem wli_15 : ∀ w ∈ wsL_law_r15, w ∈ lw_tbl := mem_places [439, 440, 441, 443, 5, 444, 445, 446, 447, 448, 449, 450, 451, 452, 453, 454, 455, 456, 457, 458, 459, 460, 461, 462] (by decide +kernel)
set_option maxRecDepth 20000 in
theorem wli_16 : ∀ w ∈ wsL_law_r16, w ∈ lw_tbl := mem_places [463, 464, 466, 6, 467, 468, 469, 471, 7, 472, 473, 474, 475, 476, 477, 478, 479, 480, 481, 482, 484, 8, 485, 486] (by decide +kernel)
set_option maxRecDepth 20000 in
theorem wli_17 : ∀ w ∈ wsL_law_r17, w ∈ lw_tbl := mem_places [487, 488, 489, 490, 491, 492, 493, 495, 9, 496, 497, 498, 499, 500, 501, 502, 504, 10, 505, 506, 507, 508, 509, 510] (by decide +kernel)
set_option maxRecDepth 20000 in
theorem wli_18 : ∀ w ∈ wsL_law_r18, w ∈ lw_tbl := mem_places [511, 512, 513, 514, 515, 516, 517, 518, 520, 521, 522, 523, 525, 524, 527, 528, 529, 530, 531, 533, 534, 535, 536, 537] (by decide +kernel)
set_option maxRecDepth 20000 in
theorem wli_19 : ∀ w ∈ wsL_law_r19, w ∈ lw_tbl := mem_places [538, 539, 540, 541, 542, 543, 544, 545, 546, 547, 548, 549, 550, 552, 11, 553, 554, 555, 556, 557, 558, 559, 560, 561] (by decide +kernel)
set_option maxRecDepth 20000 in
theorem wli_20 : ∀ w ∈ wsL_law_r20, w ∈ lw_tbl := mem_places [562, 563, 565, 12, 566, 567, 568, 570, 13, 571, 572, 574, 14, 575, 576, 578, 15, 579, 239, 240, 241, 242, 325, 326] (by decide +kernel)
set_option maxRecDepth 20000 in
theorem wli_21 : ∀ w ∈ wsL_law_r21, w ∈ lw_tbl := mem_places [327, 328, 329, 580, 581, 582, 583, 584, 585, 586, 587, 588, 589, 590, 591, 592, 593, 594, 595, 596, 597, 598, 599, 600] (by decide +kernel)
set_option maxRecDepth 20000 in
theorem wli_22 : ∀ w ∈ wsL_law_r22, w ∈ lw_tbl := mem_places [601, 602, 603, 604, 605, 606, 607, 608, 609, 610, 614, 611, 612, 613, 615, 616, 617, 618, 619, 620, 621, 622, 623, 624] (by decide +kernel)
set_option maxRecDepth 20000 in
theorem wli_23 : ∀ w ∈ wsL_law_r23, w ∈ lw_tbl := mem_places [625, 630, 626, 628, 16, 629, 631, 632, 633, 634, 635, 636, 637, 638, 639, 640, 641, 642, 643, 644, 645, 646, 647, 648] (by decide +kernel)
set_option maxRecDepth 20000 in
theorem wli_24 : ∀ w ∈ wsL_law_r24, w ∈ lw_tbl := mem_places [649, 650, 651, 652, 653, 654] (by decide +kernel)
set_option maxRecDepth 20000 in
theorem wli_wsX90 : ∀ w ∈ wsX90, w ∈ lw_tbl := mem_places [190, 192, 194, 196, 198, 200, 202, 204, 206, 208, 210, 212] (by decide +kernel)
set_option maxRecDepth 20000 in
theorem wli_wsX40 : ∀ w ∈ wsX40, w ∈ lw_tbl := mem_places [46, 48] (by decide +kernel)
set_option maxRecDepth 20000 in
theorem wli_wsX30 : ∀ w ∈ wsX30, w ∈ lw_tbl := mem_places [64, 66, 68] (by decide +kernel)
set_option maxRecDepth 20000 in
theorem wli_wsX70 : ∀ w ∈ wsX70, w ∈ lw_tbl := mem_places [79, 81] (by decide +kernel)
set_option maxRecDepth 20000 in
theorem wli_wsX80 : ∀ w ∈ wsX80, w ∈ lw_tbl := mem_places [100, 102, 104, 106, 108] (by decide +kernel)
set_option maxRecDepth 20000 in
theorem wli_wsX00 : ∀ w ∈ wsX00, w ∈ lw_tbl := mem_places [118] (by decide +kernel)
set_option maxRecDepth 20000 in
theorem wli_wsX20 : ∀ w ∈ wsX20, w ∈ lw_tbl := mem_places [129] (by decide +kernel)
set_option maxRecDepth 20000 in
theorem wli_wsX50 : ∀ w ∈ wsX50, w ∈ lw_tbl := mem_places [142, 144, 146, 148] (by decide +kernel)
set_option maxRecDepth 20000 in
theorem wli_wsX60 : ∀ w ∈ wsX60, w ∈ lw_tbl := mem_places [167, 169, 171, 173, 175] (by decide +kernel)
theorem wsL_law_in : ∀ w ∈ wsL_law, w ∈ lw_tbl := mem_app (mem_app (mem_app (mem_app (mem_app (mem_app (mem_app (mem_app (mem_app (mem_app (mem_app wli_1 (mem_app wli_2 (mem_app wli_3 (mem_app wli_4 (mem_app wli_5 (mem_app wli_6 (mem_app wli_7 (mem_app wli_8 (mem_app wli_9 (mem_app wli_10 (mem_app wli_11 (mem_app wli_12 (mem_app wli_13 (mem_app wli_14 (mem_app wli_15 (mem_app wli_16 (mem_app wli_17 (mem_app wli_18 (mem_app wli_19 (mem_app wli_20 (mem_app wli_21 (mem_app wli_22 (mem_app wli_23 wli_24))))))))))))))))))))))) wli_wsX90) wli_wsX40) wli_wsX30) wli_wsX70) wli_wsX80) wli_wsX00) wli_wsX20) wli_wsX50) wli_wsX60) (fun w h => by cases h)
