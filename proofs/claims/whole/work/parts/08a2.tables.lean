/-! the law: its words are the tables' -/
theorem mem_places {big ws : List Cond} (ps : List Nat) (h : ws = ps.filterMap (fun i => big[i]?)) : ∀ w ∈ ws, w ∈ big := by
  intro w hw
  rw [h] at hw
  obtain ⟨i, -, hi⟩ := List.mem_filterMap.mp hw
  exact List.mem_of_getElem? hi
theorem mem_app {big a b : List Cond} (ha : ∀ w ∈ a, w ∈ big) (hb : ∀ w ∈ b, w ∈ big) : ∀ w ∈ a ++ b, w ∈ big := fun w h => (List.mem_append.mp h).elim (ha w) (hb w)
set_option maxRecDepth 20000 in
theorem wli_1 : ∀ w ∈ wsL_law_r1, w ∈ lw_tbl := mem_places [74, 75, 59, 781, 782, 68, 76, 77, 78, 79, 80, 81, 82, 83, 60, 222, 223, 224, 225, 226, 96, 97, 61, 227] (by decide +kernel)
set_option maxRecDepth 20000 in
theorem wli_2 : ∀ w ∈ wsL_law_r2, w ∈ lw_tbl := mem_places [115, 116, 62, 228, 129, 130, 63, 229, 155, 156, 64, 230, 166, 167, 65, 231, 176, 177, 66, 232, 196, 197, 67, 233] (by decide +kernel)
set_option maxRecDepth 20000 in
theorem wli_3 : ∀ w ∈ wsL_law_r3, w ∈ lw_tbl := mem_places [84, 85, 86, 87, 95, 88, 89, 98, 99, 100, 101, 102, 105, 106, 107, 104, 117, 118, 119, 120, 128, 121, 122, 131] (by decide +kernel)
set_option maxRecDepth 20000 in
theorem wli_4 : ∀ w ∈ wsL_law_r4, w ∈ lw_tbl := mem_places [132, 133, 134, 135, 137, 0, 138, 139, 140, 141, 142, 143, 157, 158, 159, 160, 165, 161, 168, 169, 170, 171, 172, 178] (by decide +kernel)
set_option maxRecDepth 20000 in
theorem wli_5 : ∀ w ∈ wsL_law_r5, w ∈ lw_tbl := mem_places [179, 180, 181, 195, 182, 183, 184, 185, 198, 199, 200, 201, 202, 206, 204, 207, 208, 209, 210, 203, 205, 783, 784, 785] (by decide +kernel)
set_option maxRecDepth 20000 in
theorem wli_6 : ∀ w ∈ wsL_law_r6, w ∈ lw_tbl := mem_places [786, 787, 788, 789, 791, 793, 795, 796, 799, 800, 801, 802, 803, 804, 805, 806, 807, 259, 260, 261, 262, 263, 264, 265] (by decide +kernel)
set_option maxRecDepth 20000 in
theorem wli_7 : ∀ w ∈ wsL_law_r7, w ∈ lw_tbl := mem_places [266, 267, 268, 269, 270, 271, 272, 273, 274, 275, 276, 278, 1, 279, 280, 281, 282, 283, 284, 286, 2, 287, 288, 289] (by decide +kernel)
set_option maxRecDepth 20000 in
theorem wli_8 : ∀ w ∈ wsL_law_r8, w ∈ lw_tbl := mem_places [290, 291, 292, 294, 293, 69, 295, 875, 876, 877, 878, 882, 879, 880, 881, 867, 869, 23, 870, 871, 873, 24, 874, 790] (by decide +kernel)
set_option maxRecDepth 20000 in
theorem wli_9 : ∀ w ∈ wsL_law_r9, w ∈ lw_tbl := mem_places [856, 857, 858, 883, 885, 25, 886, 296, 297, 298, 299, 304, 313, 300, 301, 302, 303, 305, 306, 307, 308, 309, 310, 311] (by decide +kernel)
set_option maxRecDepth 20000 in
theorem wli_10 : ∀ w ∈ wsL_law_r10, w ∈ lw_tbl := mem_places [312, 314, 315, 316, 317, 887, 888, 889, 890, 895, 855, 891, 893, 26, 894, 896, 898, 27, 899, 318, 319, 320, 321, 322] (by decide +kernel)
set_option maxRecDepth 20000 in
theorem wli_11 : ∀ w ∈ wsL_law_r11, w ∈ lw_tbl := mem_places [324, 3, 325, 326, 327, 328, 329, 330, 900, 901, 902, 903, 904, 906, 28, 907, 908, 910, 29, 911, 331, 332, 333, 334] (by decide +kernel)
set_option maxRecDepth 20000 in
theorem wli_12 : ∀ w ∈ wsL_law_r12, w ∈ lw_tbl := mem_places [912, 913, 914, 915, 335, 336, 337, 338, 916, 917, 918, 919, 339, 340, 341, 342, 343, 920, 921, 922, 923, 924, 344, 345] (by decide +kernel)
set_option maxRecDepth 20000 in
theorem wli_13 : ∀ w ∈ wsL_law_r13, w ∈ lw_tbl := mem_places [346, 347, 348, 349, 350, 351, 352, 353, 354, 355, 356, 357, 70, 358, 359, 360, 361, 362, 363, 364, 365, 366, 367, 925] (by decide +kernel)
set_option maxRecDepth 20000 in
theorem wli_14 : ∀ w ∈ wsL_law_r14, w ∈ lw_tbl := mem_places [926, 927, 928, 929, 931, 30, 932, 368, 369, 370, 371, 376, 372, 373, 374, 375, 377, 378, 379, 380, 381, 382, 383, 384] (by decide +kernel)
set_option maxRecDepth 20000 in
theorem wli_15 : ∀ w ∈ wsL_law_r15, w ∈ lw_tbl := mem_places [933, 934, 935, 936, 794, 937, 385, 386, 387, 388, 389, 390, 391, 392, 938, 939, 940, 941, 393, 394, 395, 396, 397, 398] (by decide +kernel)
set_option maxRecDepth 20000 in
theorem wli_16 : ∀ w ∈ wsL_law_r16, w ∈ lw_tbl := mem_places [399, 400, 401, 402, 404, 4, 405, 406, 407, 408, 409, 410, 411, 412, 413, 414, 415, 417, 5, 418, 419, 420, 422, 6] (by decide +kernel)
set_option maxRecDepth 20000 in
theorem wli_17 : ∀ w ∈ wsL_law_r17, w ∈ lw_tbl := mem_places [423, 424, 426, 7, 427, 428, 430, 8, 431, 942, 943, 944, 945, 797, 798, 946, 948, 31, 949, 950, 952, 32, 953, 954] (by decide +kernel)
set_option maxRecDepth 20000 in
theorem wli_18 : ∀ w ∈ wsL_law_r18, w ∈ lw_tbl := mem_places [956, 33, 957, 958, 960, 34, 961, 962, 964, 35, 965, 432, 433, 434, 435, 436, 437, 438, 439, 440, 441, 442, 443, 851] (by decide +kernel)
set_option maxRecDepth 20000 in
theorem wli_19 : ∀ w ∈ wsL_law_r19, w ∈ lw_tbl := mem_places [852, 853, 854, 444, 445, 446, 447, 859, 860, 861, 862, 792, 448, 449, 450, 451, 863, 864, 865, 866, 452, 453, 454, 455] (by decide +kernel)
set_option maxRecDepth 20000 in
theorem wli_20 : ∀ w ∈ wsL_law_r20, w ∈ lw_tbl := mem_places [966, 967, 968, 969, 456, 457, 458, 459, 460, 461, 462, 463, 464, 465, 466, 467, 468, 469, 71, 470, 471, 472, 473, 474] (by decide +kernel)
set_option maxRecDepth 20000 in
theorem wli_21 : ∀ w ∈ wsL_law_r21, w ∈ lw_tbl := mem_places [475, 476, 477, 478, 479, 480, 481, 482, 483, 484, 485, 486, 487, 488, 489, 490, 491, 492, 493, 494, 495, 496, 497, 498] (by decide +kernel)
set_option maxRecDepth 20000 in
theorem wli_22 : ∀ w ∈ wsL_law_r22, w ∈ lw_tbl := mem_places [499, 500, 501, 502, 503, 504, 970, 971, 972, 973, 974, 976, 36, 977, 978, 980, 37, 981, 982, 984, 38, 985, 986, 988] (by decide +kernel)
set_option maxRecDepth 20000 in
theorem wli_23 : ∀ w ∈ wsL_law_r23, w ∈ lw_tbl := mem_places [39, 989, 505, 506, 507, 508, 509, 510, 990, 991, 992, 993, 511, 512, 513, 514, 515, 516, 517, 518, 519, 521, 9, 522] (by decide +kernel)
set_option maxRecDepth 20000 in
theorem wli_24 : ∀ w ∈ wsL_law_r24, w ∈ lw_tbl := mem_places [523, 524, 525, 526, 527, 528, 529, 530, 531, 532, 534, 10, 535, 536, 537, 538, 539, 540, 541, 542, 543, 545, 11, 546] (by decide +kernel)
set_option maxRecDepth 20000 in
theorem wli_25 : ∀ w ∈ wsL_law_r25, w ∈ lw_tbl := mem_places [547, 994, 995, 996, 997, 998, 1000, 40, 1001, 1002, 1004, 41, 1005, 1006, 1007, 1008, 1009, 1011, 42, 1012, 1013, 1015, 43, 1016] (by decide +kernel)
set_option maxRecDepth 20000 in
theorem wli_26 : ∀ w ∈ wsL_law_r26, w ∈ lw_tbl := mem_places [1017, 1019, 44, 1020, 1021, 1023, 45, 1024, 548, 549, 550, 551, 1025, 1026, 1027, 1028, 1029, 1031, 46, 1032, 552, 553, 554, 555] (by decide +kernel)
set_option maxRecDepth 20000 in
theorem wli_27 : ∀ w ∈ wsL_law_r27, w ∈ lw_tbl := mem_places [556, 557, 559, 12, 560, 1033, 1034, 1035, 1036, 1037, 561, 562, 563, 564, 566, 565, 1038, 1039, 1040, 1041, 1045, 1042, 1043, 1044] (by decide +kernel)
set_option maxRecDepth 20000 in
theorem wli_28 : ∀ w ∈ wsL_law_r28, w ∈ lw_tbl := mem_places [567, 568, 569, 570, 571, 572, 574, 13, 575, 576, 577, 578, 579, 580, 581, 582, 583, 1046, 1047, 1048, 1049, 1054, 1050, 1052] (by decide +kernel)
set_option maxRecDepth 20000 in
theorem wli_29 : ∀ w ∈ wsL_law_r29, w ∈ lw_tbl := mem_places [47, 1053, 584, 585, 586, 587, 588, 589, 590, 591, 592, 593, 595, 14, 596, 597, 598, 599, 601, 15, 602, 603, 604, 605] (by decide +kernel)
set_option maxRecDepth 20000 in
theorem wli_30 : ∀ w ∈ wsL_law_r30, w ∈ lw_tbl := mem_places [606, 607, 608, 1055, 1056, 1057, 1058, 609, 610, 611, 612, 613, 614, 615, 616, 1059, 1060, 1061, 1062, 1063, 1065, 48, 1066, 1067] (by decide +kernel)
set_option maxRecDepth 20000 in
theorem wli_31 : ∀ w ∈ wsL_law_r31, w ∈ lw_tbl := mem_places [1069, 49, 1070, 617, 618, 619, 620, 621, 622, 623, 624, 625, 1071, 1072, 1073, 1074, 626, 627, 628, 629, 1075, 1076, 1077, 1078] (by decide +kernel)
set_option maxRecDepth 20000 in
theorem wli_32 : ∀ w ∈ wsL_law_r32, w ∈ lw_tbl := mem_places [630, 631, 632, 633, 634, 635, 636, 637, 1079, 1080, 1081, 1082, 1083, 1085, 50, 1086, 638, 639, 640, 641, 642, 643, 644, 645] (by decide +kernel)
set_option maxRecDepth 20000 in
theorem wli_33 : ∀ w ∈ wsL_law_r33, w ∈ lw_tbl := mem_places [650, 646, 648, 16, 649, 651, 652, 653, 654, 1087, 1088, 1089, 1090, 655, 656, 657, 658, 659, 660, 661, 662, 663, 664, 665] (by decide +kernel)
set_option maxRecDepth 20000 in
theorem wli_34 : ∀ w ∈ wsL_law_r34, w ∈ lw_tbl := mem_places [666, 1091, 1092, 1093, 1094, 667, 668, 669, 670, 671, 673, 17, 674, 675, 676, 677, 678, 679, 680, 681, 682, 683, 685, 684] (by decide +kernel)
set_option maxRecDepth 20000 in
theorem wli_35 : ∀ w ∈ wsL_law_r35, w ∈ lw_tbl := mem_places [686, 687, 688, 689, 690, 691, 693, 18, 694, 695, 696, 697, 698, 699, 701, 19, 702, 703, 705, 20, 706, 707, 709, 21] (by decide +kernel)
set_option maxRecDepth 20000 in
theorem wli_36 : ∀ w ∈ wsL_law_r36, w ∈ lw_tbl := mem_places [710, 711, 713, 22, 714, 715, 716, 717, 72, 718, 719, 720, 721, 722, 723, 724, 725, 726, 1095, 1096, 1097, 1098, 1099, 1100] (by decide +kernel)
set_option maxRecDepth 20000 in
theorem wli_37 : ∀ w ∈ wsL_law_r37, w ∈ lw_tbl := mem_places [1101, 1102, 1104, 51, 1105, 1106, 1108, 52, 1109, 1110, 1112, 53, 1113, 1114, 1116, 54, 1117, 1118, 1119, 73, 1120, 1124, 1126, 1125] (by decide +kernel)
set_option maxRecDepth 20000 in
theorem wli_38 : ∀ w ∈ wsL_law_r38, w ∈ lw_tbl := mem_places [73, 1127, 1121, 1122, 1123, 727, 728, 729, 730, 731, 732, 733, 734, 1128, 1129, 1130, 1131, 735, 736, 737, 738, 739, 740, 741] (by decide +kernel)
set_option maxRecDepth 20000 in
theorem wli_39 : ∀ w ∈ wsL_law_r39, w ∈ lw_tbl := mem_places [742, 1132, 1133, 1134, 1135, 743, 744, 745, 746, 747, 748, 749, 750, 751, 752, 753, 754, 755, 756, 757, 758, 759, 760, 761] (by decide +kernel)
set_option maxRecDepth 20000 in
theorem wli_40 : ∀ w ∈ wsL_law_r40, w ∈ lw_tbl := mem_places [762, 763, 764, 765, 766, 767, 768, 769, 770, 771, 772, 773, 774, 775, 776, 1136, 1137, 1138, 1139, 1140, 1142, 55, 1143, 1144] (by decide +kernel)
set_option maxRecDepth 20000 in
theorem wli_41 : ∀ w ∈ wsL_law_r41, w ∈ lw_tbl := mem_places [1146, 56, 1147, 1148, 1150, 57, 1151, 777, 778, 779, 780, 1152, 1153, 1154, 1155] (by decide +kernel)
set_option maxRecDepth 20000 in
theorem wli_wsX90 : ∀ w ∈ wsX90, w ∈ lw_tbl := mem_places [234, 236, 238, 240, 242, 244, 246, 248, 250, 252, 254, 256] (by decide +kernel)
set_option maxRecDepth 20000 in
theorem wli_wsX100 : ∀ w ∈ wsX100, w ∈ lw_tbl := mem_places [808, 810, 812, 814, 816, 818, 820, 822, 824, 826, 828, 830, 832, 834, 836, 838, 840, 842, 844, 846, 848] (by decide +kernel)
set_option maxRecDepth 20000 in
theorem wli_wsX40 : ∀ w ∈ wsX40, w ∈ lw_tbl := mem_places [90, 92] (by decide +kernel)
set_option maxRecDepth 20000 in
theorem wli_wsX30 : ∀ w ∈ wsX30, w ∈ lw_tbl := mem_places [108, 110, 112] (by decide +kernel)
set_option maxRecDepth 20000 in
theorem wli_wsX70 : ∀ w ∈ wsX70, w ∈ lw_tbl := mem_places [123, 125] (by decide +kernel)
set_option maxRecDepth 20000 in
theorem wli_wsX80 : ∀ w ∈ wsX80, w ∈ lw_tbl := mem_places [144, 146, 148, 150, 152] (by decide +kernel)
set_option maxRecDepth 20000 in
theorem wli_wsX00 : ∀ w ∈ wsX00, w ∈ lw_tbl := mem_places [162] (by decide +kernel)
set_option maxRecDepth 20000 in
theorem wli_wsX20 : ∀ w ∈ wsX20, w ∈ lw_tbl := mem_places [173] (by decide +kernel)
set_option maxRecDepth 20000 in
theorem wli_wsX50 : ∀ w ∈ wsX50, w ∈ lw_tbl := mem_places [186, 188, 190, 192] (by decide +kernel)
set_option maxRecDepth 20000 in
theorem wli_wsX60 : ∀ w ∈ wsX60, w ∈ lw_tbl := mem_places [211, 213, 215, 217, 219] (by decide +kernel)
theorem wsL_law_in : ∀ w ∈ wsL_law, w ∈ lw_tbl := mem_app (mem_app (mem_app (mem_app (mem_app (mem_app (mem_app (mem_app (mem_app (mem_app (mem_app (mem_app wli_1 (mem_app wli_2 (mem_app wli_3 (mem_app wli_4 (mem_app wli_5 (mem_app wli_6 (mem_app wli_7 (mem_app wli_8 (mem_app wli_9 (mem_app wli_10 (mem_app wli_11 (mem_app wli_12 (mem_app wli_13 (mem_app wli_14 (mem_app wli_15 (mem_app wli_16 (mem_app wli_17 (mem_app wli_18 (mem_app wli_19 (mem_app wli_20 (mem_app wli_21 (mem_app wli_22 (mem_app wli_23 (mem_app wli_24 (mem_app wli_25 (mem_app wli_26 (mem_app wli_27 (mem_app wli_28 (mem_app wli_29 (mem_app wli_30 (mem_app wli_31 (mem_app wli_32 (mem_app wli_33 (mem_app wli_34 (mem_app wli_35 (mem_app wli_36 (mem_app wli_37 (mem_app wli_38 (mem_app wli_39 (mem_app wli_40 wli_41)))))))))))))))))))))))))))))))))))))))) wli_wsX90) wli_wsX100) wli_wsX40) wli_wsX30) wli_wsX70) wli_wsX80) wli_wsX00) wli_wsX20) wli_wsX50) wli_wsX60) (fun w h => by cases h)
