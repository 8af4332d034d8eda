/-! the law: its words, 1 -/
set_option maxRecDepth 20000 in
theorem ggL_law_X10_type : GoodIn wsL_law wsX10_type := goodIn_r _ [339, 340, 341, 125, 987, 988, 989, 990, 991, 992, 993, 994, 995, 996, 997, 998, 999, 1000, 1001, 1002, 1003, 1004, 1005, 1006, 1007] (by decide +kernel) (by decide +kernel)
set_option maxRecDepth 20000 in
theorem gL_law_X10_type : GoodIn wsL_law (wsV RL 49 RX10 yX10_type wsX10_type) := goodIn_app (goodIn_of _ (by decide +kernel)) ggL_law_X10_type
set_option maxRecDepth 20000 in
theorem ggL_law_X9_clearText : GoodIn wsL_law wsX9_clearText := goodIn_r _ [345, 27, 332, 333, 334, 26, 335, 70, 346, 347, 348, 349, 975, 976, 977, 978, 979, 980, 981, 982, 983, 984, 985, 986, 1013, 1014] (by decide +kernel) (by decide +kernel)
set_option maxRecDepth 20000 in
theorem gL_law_X9_clearText : GoodIn wsL_law (wsV RL 50 RX9 yX9_clearText wsX9_clearText) := goodIn_app (goodIn_of _ (by decide +kernel)) ggL_law_X9_clearText
set_option maxRecDepth 20000 in
theorem ggL_law_X10_clearText : GoodIn wsL_law wsX10_clearText := goodIn_r _ [353, 340, 987, 988, 989, 990, 991, 992, 993, 994, 995, 996, 997, 998, 999, 1000, 1001, 1002, 1003, 1004, 1005, 1006, 1007] (by decide +kernel) (by decide +kernel)
set_option maxRecDepth 20000 in
theorem gL_law_X10_clearText : GoodIn wsL_law (wsV RL 53 RX10 yX10_clearText wsX10_clearText) := goodIn_app (goodIn_of _ (by decide +kernel)) ggL_law_X10_clearText
set_option maxRecDepth 20000 in
theorem ggL_law_X9_read : GoodIn wsL_law wsX9_read := goodIn_r _ [357, 31, 16, 27, 15, 358, 359, 360, 30, 361, 79, 80, 81, 83, 75, 76, 77, 78, 82, 362, 147, 148, 14, 149, 53, 150, 151, 152, 153, 54, 363, 364, 365, 366, 367, 368, 369, 26, 370, 70, 69, 371, 372, 373, 374, 333, 334, 335, 375, 218, 219, 220, 216, 206, 207, 208, 376, 377, 378, 379, 380, 381, 382, 383, 384, 385, 386, 387, 388, 389, 390, 391, 392, 154, 155, 156, 2, 157, 23, 158, 159, 160, 22, 161, 62, 61, 162, 163, 164, 165, 60, 166, 167, 168, 169, 170, 171, 172, 173, 174, 142, 143, 144, 145, 975, 976, 977, 978, 979, 980, 981, 982, 983, 984, 985, 986, 1015, 1016, 1017, 1018, 1019, 1008, 1009, 1013, 1014, 1010, 1011, 1012] (by decide +kernel) (by decide +kernel)
set_option maxRecDepth 20000 in
theorem gL_law_X9_read : GoodIn wsL_law (wsV RL 54 RX9 yX9_read wsX9_read) := goodIn_app (goodIn_of _ (by decide +kernel)) ggL_law_X9_read
set_option maxRecDepth 20000 in
theorem ggL_law_X10_read : GoodIn wsL_law wsX10_read := goodIn_r _ [396, 397, 127, 121, 398, 399, 400, 401, 5, 402, 226, 340, 403, 404, 405, 406, 407, 408, 409, 410, 125, 411, 412, 413, 414, 415, 416, 417, 418, 180, 181, 182, 183, 184, 185, 186, 187, 188, 189, 190, 191, 123, 192, 193, 194, 987, 988, 989, 990, 991, 992, 993, 994, 995, 996, 997, 998, 999, 1000, 1001, 1002, 1003, 1004, 1005, 1006, 1007] (by decide +kernel) (by decide +kernel)
set_option maxRecDepth 20000 in
theorem gL_law_X10_read : GoodIn wsL_law (wsV RL 57 RX10 yX10_read wsX10_read) := goodIn_app (goodIn_of _ (by decide +kernel)) ggL_law_X10_read
set_option maxRecDepth 20000 in
theorem ggL_law_X9_undo : GoodIn wsL_law wsX9_undo := goodIn_r _ [422, 23, 204, 15, 423, 424, 425, 22, 426, 62, 427, 428, 429, 430, 162, 163, 164, 165, 61, 60, 166, 167, 168, 14, 169, 53, 170, 171, 172, 173, 54, 975, 976, 977, 978, 979, 980, 981, 982, 983, 984, 985, 986, 1010, 1011, 1012, 1008, 1009] (by decide +kernel) (by decide +kernel)
set_option maxRecDepth 20000 in
theorem gL_law_X9_undo : GoodIn wsL_law (wsV RL 58 RX9 yX9_undo wsX9_undo) := goodIn_app (goodIn_of _ (by decide +kernel)) ggL_law_X9_undo
set_option maxRecDepth 20000 in
theorem ggL_law_X10_undo : GoodIn wsL_law wsX10_undo := goodIn_r _ [434, 191, 226, 123, 121, 192, 193, 5, 194, 987, 988, 989, 990, 991, 992, 993, 994, 995, 996, 997, 998, 999, 1000, 1001, 1002, 1003, 1004, 1005, 1006, 1007] (by decide +kernel) (by decide +kernel)
set_option maxRecDepth 20000 in
theorem gL_law_X10_undo : GoodIn wsL_law (wsV RL 61 RX10 yX10_undo wsX10_undo) := goodIn_app (goodIn_of _ (by decide +kernel)) ggL_law_X10_undo
set_option maxRecDepth 20000 in
theorem ggL_law_X9_keep : GoodIn wsL_law wsX9_keep := goodIn_r _ [438, 18, 15, 19, 174, 167, 168, 14, 169, 53, 170, 171, 172, 173, 54, 142, 143, 144, 145, 975, 976, 977, 978, 979, 980, 981, 982, 983, 984, 985, 986, 1008, 1009] (by decide +kernel) (by decide +kernel)
set_option maxRecDepth 20000 in
theorem gL_law_X9_keep : GoodIn wsL_law (wsV RL 62 RX9 yX9_keep wsX9_keep) := goodIn_app (goodIn_of _ (by decide +kernel)) ggL_law_X9_keep
set_option maxRecDepth 20000 in
theorem ggL_law_X10_keep : GoodIn wsL_law wsX10_keep := goodIn_r _ [442, 121, 124, 443, 192, 193, 5, 194, 987, 988, 989, 990, 991, 992, 993, 994, 995, 996, 997, 998, 999, 1000, 1001, 1002, 1003, 1004, 1005, 1006, 1007] (by decide +kernel) (by decide +kernel)
set_option maxRecDepth 20000 in
theorem gL_law_X10_keep : GoodIn wsL_law (wsV RL 65 RX10 yX10_keep wsX10_keep) := goodIn_app (goodIn_of _ (by decide +kernel)) ggL_law_X10_keep
set_option maxRecDepth 20000 in
theorem ggL_law_X9_restore : GoodIn wsL_law wsX9_restore := goodIn_r _ [447, 19, 204, 16, 18, 15, 174, 167, 168, 14, 169, 53, 170, 171, 172, 173, 54, 154, 155, 156, 2, 157, 23, 158, 159, 160, 22, 161, 62, 61, 162, 163, 164, 165, 60, 166, 142, 143, 144, 145, 975, 976, 977, 978, 979, 980, 981, 982, 983, 984, 985, 986, 1008, 1009, 1010, 1011, 1012] (by decide +kernel) (by decide +kernel)
set_option maxRecDepth 20000 in
theorem gL_law_X9_restore : GoodIn wsL_law (wsV RL 66 RX9 yX9_restore wsX9_restore) := goodIn_app (goodIn_of _ (by decide +kernel)) ggL_law_X9_restore
set_option maxRecDepth 20000 in
theorem ggL_law_X10_restore : GoodIn wsL_law wsX10_restore := goodIn_r _ [451, 443, 226, 124, 121, 183, 184, 185, 5, 186, 187, 188, 189, 190, 191, 123, 192, 193, 194, 987, 988, 989, 990, 991, 992, 993, 994, 995, 996, 997, 998, 999, 1000, 1001, 1002, 1003, 1004, 1005, 1006, 1007] (by decide +kernel) (by decide +kernel)
set_option maxRecDepth 20000 in
theorem gL_law_X10_restore : GoodIn wsL_law (wsV RL 69 RX10 yX10_restore wsX10_restore) := goodIn_app (goodIn_of _ (by decide +kernel)) ggL_law_X10_restore
set_option maxRecDepth 20000 in
theorem ggL_law_X9_entry : GoodIn wsL_law wsX9_entry := goodIn_r _ [455, 15, 203, 205, 206, 207, 14, 208, 54, 212, 213, 214, 215, 53, 216, 975, 976, 977, 978, 979, 980, 981, 982, 983, 984, 985, 986, 1008, 1009] (by decide +kernel) (by decide +kernel)
set_option maxRecDepth 20000 in
theorem gL_law_X9_entry : GoodIn wsL_law (wsV RL 70 RX9 yX9_entry wsX9_entry) := goodIn_app (goodIn_of _ (by decide +kernel)) ggL_law_X9_entry
set_option maxRecDepth 20000 in
theorem ggL_law_X10_entry : GoodIn wsL_law wsX10_entry := goodIn_r _ [459, 225, 227, 228, 229, 5, 230, 121, 180, 181, 182, 231, 232, 233, 234, 987, 988, 989, 990, 991, 992, 993, 994, 995, 996, 997, 998, 999, 1000, 1001, 1002, 1003, 1004, 1005, 1006, 1007] (by decide +kernel) (by decide +kernel)
set_option maxRecDepth 20000 in
theorem gL_law_X10_entry : GoodIn wsL_law (wsV RL 73 RX10 yX10_entry wsX10_entry) := goodIn_app (goodIn_of _ (by decide +kernel)) ggL_law_X10_entry
set_option maxRecDepth 20000 in
theorem ggL_law_X9_total : GoodIn wsL_law wsX9_total := goodIn_r _ [463, 15, 23, 27, 141, 142, 143, 144, 14, 145, 54, 464, 465, 466, 467, 468, 469, 470, 471, 247, 213, 214, 215, 53, 216, 206, 207, 208, 472, 473, 474, 475, 476, 477, 478, 479, 480, 481, 482, 483, 484, 485, 486, 487, 488, 489, 490, 298, 299, 300, 301, 491, 492, 493, 494, 495, 496, 497, 498, 499, 500, 501, 502, 503, 504, 505, 506, 507, 508, 509, 423, 424, 425, 22, 426, 62, 332, 333, 334, 26, 335, 70, 975, 976, 977, 978, 979, 980, 981, 982, 983, 984, 985, 986, 1008, 1009, 1010, 1011, 1012, 1013, 1014] (by decide +kernel) (by decide +kernel)
set_option maxRecDepth 20000 in
theorem gL_law_X9_total : GoodIn wsL_law (wsV RL 74 RX9 yX9_total wsX9_total) := goodIn_app (goodIn_of _ (by decide +kernel)) ggL_law_X9_total
set_option maxRecDepth 20000 in
theorem ggL_law_X10_total : GoodIn wsL_law wsX10_total := goodIn_r _ [513, 121, 191, 340, 179, 514, 515, 516, 5, 517, 231, 232, 233, 234, 518, 519, 520, 521, 522, 523, 524, 525, 526, 527, 528, 529, 987, 988, 989, 990, 991, 992, 993, 994, 995, 996, 997, 998, 999, 1000, 1001, 1002, 1003, 1004, 1005, 1006, 1007] (by decide +kernel) (by decide +kernel)
set_option maxRecDepth 20000 in
theorem gL_law_X10_total : GoodIn wsL_law (wsV RL 77 RX10 yX10_total wsX10_total) := goodIn_app (goodIn_of _ (by decide +kernel)) ggL_law_X10_total
set_option maxRecDepth 20000 in
theorem ggL_law_X9_lineSum : GoodIn wsL_law wsX9_lineSum := goodIn_r _ [533, 15, 203, 205, 206, 207, 14, 208, 54, 534, 507, 508, 509, 247, 213, 214, 215, 53, 216, 535, 484, 485, 486, 975, 976, 977, 978, 979, 980, 981, 982, 983, 984, 985, 986, 1008, 1009] (by decide +kernel) (by decide +kernel)
set_option maxRecDepth 20000 in
theorem gL_law_X9_lineSum : GoodIn wsL_law (wsV RL 78 RX9 yX9_lineSum wsX9_lineSum) := goodIn_app (goodIn_of _ (by decide +kernel)) ggL_law_X9_lineSum
set_option maxRecDepth 20000 in
theorem ggL_law_X10_lineSum : GoodIn wsL_law wsX10_lineSum := goodIn_r _ [539, 225, 227, 228, 229, 5, 230, 121, 180, 181, 182, 526, 527, 528, 529, 231, 232, 233, 234, 987, 988, 989, 990, 991, 992, 993, 994, 995, 996, 997, 998, 999, 1000, 1001, 1002, 1003, 1004, 1005, 1006, 1007] (by decide +kernel) (by decide +kernel)
set_option maxRecDepth 20000 in
theorem gL_law_X10_lineSum : GoodIn wsL_law (wsV RL 82 RX10 yX10_lineSum wsX10_lineSum) := goodIn_app (goodIn_of _ (by decide +kernel)) ggL_law_X10_lineSum
