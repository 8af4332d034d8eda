/-! the law: its words, 0 -/
set_option maxRecDepth 20000 in
theorem ggL_law_X9_init : GoodIn wsL_law wsX9_init := goodIn_r _ [8, 9, 10, 11, 12, 13, 14, 15, 16, 17, 18, 19, 20, 21, 22, 23, 24, 25, 26, 27, 28, 29, 30, 31, 32, 33, 34, 35, 36, 37, 38, 39, 40, 41, 42, 43, 44, 45, 46, 47, 48, 49, 50, 51, 52, 53, 54, 55, 56, 57, 58, 59, 60, 61, 62, 63, 64, 65, 66, 67, 68, 69, 70, 71, 72, 73, 74, 75, 76, 77, 78, 79, 80, 81, 82, 83, 84, 85, 86, 87, 88, 89, 90, 91, 92, 93, 94, 95, 96, 97, 98, 99, 100, 101, 102, 103, 104, 105, 106, 107, 108, 109, 110, 111, 112, 113, 114, 115, 116, 1008, 1009, 975, 976, 977, 978, 979, 980, 981, 982, 983, 984, 985, 986, 1010, 1011, 1012, 1013, 1014, 1015, 1016, 1017, 1018, 1019, 1020, 1021, 1022, 1023, 1024, 1025, 1026, 1027, 1028, 1029, 1030] (by decide +kernel) (by decide +kernel)
set_option maxRecDepth 20000 in
theorem gL_law_X9_init : GoodIn wsL_law (wsX9_init) := ggL_law_X9_init
set_option maxRecDepth 20000 in
theorem ggL_law_X10_init : GoodIn wsL_law wsX10_init := goodIn_r _ [119, 120, 10, 11, 52, 121, 122, 123, 124, 125, 126, 127, 128, 129, 130, 99, 131, 132, 133, 134, 135, 136, 987, 988, 989, 990, 991, 992, 993, 994, 995, 996, 997, 998, 999, 1000, 1001, 1002, 1003, 1004, 1005, 1006, 1007] (by decide +kernel) (by decide +kernel)
set_option maxRecDepth 20000 in
theorem gL_law_X10_init : GoodIn wsL_law (wsX10_init) := ggL_law_X10_init
set_option maxRecDepth 20000 in
theorem ggL_law_X9_clear : GoodIn wsL_law wsX9_clear := goodIn_r _ [140, 141, 15, 16, 142, 143, 144, 14, 145, 54, 146, 147, 148, 149, 53, 150, 151, 152, 153, 154, 155, 156, 2, 157, 23, 158, 159, 160, 22, 161, 62, 61, 162, 163, 164, 165, 60, 166, 167, 168, 169, 170, 171, 172, 173, 174, 975, 976, 977, 978, 979, 980, 981, 982, 983, 984, 985, 986, 1008, 1009, 1010, 1011, 1012] (by decide +kernel) (by decide +kernel)
set_option maxRecDepth 20000 in
theorem gL_law_X9_clear : GoodIn wsL_law (wsV RL 13 RX9 yX9_clear wsX9_clear) := goodIn_app (goodIn_of _ (by decide +kernel)) ggL_law_X9_clear
set_option maxRecDepth 20000 in
theorem ggL_law_X10_clear : GoodIn wsL_law wsX10_clear := goodIn_r _ [178, 179, 121, 180, 181, 5, 182, 183, 184, 185, 186, 187, 188, 189, 190, 191, 123, 192, 193, 194, 195, 196, 197, 198, 987, 988, 989, 990, 991, 992, 993, 994, 995, 996, 997, 998, 999, 1000, 1001, 1002, 1003, 1004, 1005, 1006, 1007] (by decide +kernel) (by decide +kernel)
set_option maxRecDepth 20000 in
theorem gL_law_X10_clear : GoodIn wsL_law (wsV RL 17 RX10 yX10_clear wsX10_clear) := goodIn_app (goodIn_of _ (by decide +kernel)) ggL_law_X10_clear
set_option maxRecDepth 20000 in
theorem ggL_law_X9_set : GoodIn wsL_law wsX9_set := goodIn_r _ [202, 15, 203, 141, 204, 16, 205, 206, 207, 14, 208, 54, 209, 210, 2, 211, 212, 213, 214, 215, 53, 216, 174, 167, 168, 169, 170, 171, 172, 173, 217, 218, 219, 220, 154, 155, 156, 157, 23, 158, 159, 160, 22, 161, 62, 61, 162, 163, 164, 165, 60, 166, 975, 976, 977, 978, 979, 980, 981, 982, 983, 984, 985, 986, 1008, 1009, 1010, 1011, 1012] (by decide +kernel) (by decide +kernel)
set_option maxRecDepth 20000 in
theorem gL_law_X9_set : GoodIn wsL_law (wsV RL 18 RX9 yX9_set wsX9_set) := goodIn_app (goodIn_of _ (by decide +kernel)) ggL_law_X9_set
set_option maxRecDepth 20000 in
theorem ggL_law_X10_set : GoodIn wsL_law wsX10_set := goodIn_r _ [224, 225, 179, 226, 121, 227, 228, 229, 5, 230, 180, 181, 182, 231, 232, 233, 234, 183, 184, 185, 186, 187, 188, 189, 190, 191, 123, 192, 193, 194, 987, 988, 989, 990, 991, 992, 993, 994, 995, 996, 997, 998, 999, 1000, 1001, 1002, 1003, 1004, 1005, 1006, 1007] (by decide +kernel) (by decide +kernel)
set_option maxRecDepth 20000 in
theorem gL_law_X10_set : GoodIn wsL_law (wsV RL 22 RX10 yX10_set wsX10_set) := goodIn_app (goodIn_of _ (by decide +kernel)) ggL_law_X10_set
set_option maxRecDepth 20000 in
theorem ggL_law_X9_swapRows : GoodIn wsL_law wsX9_swapRows := goodIn_r _ [238, 15, 203, 16, 205, 206, 207, 14, 208, 54, 174, 167, 168, 169, 53, 170, 171, 172, 173, 142, 143, 144, 145, 212, 213, 214, 215, 216, 217, 218, 219, 220, 239, 240, 241, 2, 242, 204, 243, 244, 245, 246, 247, 154, 155, 156, 157, 23, 158, 159, 160, 22, 161, 62, 61, 162, 163, 164, 165, 60, 166, 975, 976, 977, 978, 979, 980, 981, 982, 983, 984, 985, 986, 1008, 1009, 1010, 1011, 1012] (by decide +kernel) (by decide +kernel)
set_option maxRecDepth 20000 in
theorem gL_law_X9_swapRows : GoodIn wsL_law (wsV RL 23 RX9 yX9_swapRows wsX9_swapRows) := goodIn_app (goodIn_of _ (by decide +kernel)) ggL_law_X9_swapRows
set_option maxRecDepth 20000 in
theorem ggL_law_X10_swapRows : GoodIn wsL_law wsX10_swapRows := goodIn_r _ [251, 225, 121, 122, 227, 228, 229, 5, 230, 180, 181, 182, 252, 253, 254, 255, 192, 193, 194, 256, 257, 258, 259, 226, 187, 188, 189, 190, 191, 123, 987, 988, 989, 990, 991, 992, 993, 994, 995, 996, 997, 998, 999, 1000, 1001, 1002, 1003, 1004, 1005, 1006, 1007] (by decide +kernel) (by decide +kernel)
set_option maxRecDepth 20000 in
theorem gL_law_X10_swapRows : GoodIn wsL_law (wsV RL 27 RX10 yX10_swapRows wsX10_swapRows) := goodIn_app (goodIn_of _ (by decide +kernel)) ggL_law_X10_swapRows
set_option maxRecDepth 20000 in
theorem ggL_law_X9_swapColumns : GoodIn wsL_law wsX9_swapColumns := goodIn_r _ [263, 15, 203, 16, 205, 206, 207, 14, 208, 54, 174, 167, 168, 169, 53, 170, 171, 172, 173, 142, 143, 144, 145, 212, 213, 214, 215, 216, 217, 218, 219, 220, 239, 240, 241, 2, 242, 204, 243, 244, 245, 246, 247, 154, 155, 156, 157, 23, 158, 159, 160, 22, 161, 62, 61, 162, 163, 164, 165, 60, 166, 975, 976, 977, 978, 979, 980, 981, 982, 983, 984, 985, 986, 1008, 1009, 1010, 1011, 1012] (by decide +kernel) (by decide +kernel)
set_option maxRecDepth 20000 in
theorem gL_law_X9_swapColumns : GoodIn wsL_law (wsV RL 28 RX9 yX9_swapColumns wsX9_swapColumns) := goodIn_app (goodIn_of _ (by decide +kernel)) ggL_law_X9_swapColumns
set_option maxRecDepth 20000 in
theorem ggL_law_X10_swapColumns : GoodIn wsL_law wsX10_swapColumns := goodIn_r _ [267, 225, 121, 122, 227, 228, 229, 5, 230, 180, 181, 182, 252, 253, 254, 255, 192, 193, 194, 256, 257, 258, 259, 226, 187, 188, 189, 190, 191, 123, 987, 988, 989, 990, 991, 992, 993, 994, 995, 996, 997, 998, 999, 1000, 1001, 1002, 1003, 1004, 1005, 1006, 1007] (by decide +kernel) (by decide +kernel)
set_option maxRecDepth 20000 in
theorem gL_law_X10_swapColumns : GoodIn wsL_law (wsV RL 31 RX10 yX10_swapColumns wsX10_swapColumns) := goodIn_app (goodIn_of _ (by decide +kernel)) ggL_law_X10_swapColumns
set_option maxRecDepth 20000 in
theorem ggL_law_X9_transpose : GoodIn wsL_law wsX9_transpose := goodIn_r _ [271, 16, 15, 174, 167, 168, 14, 169, 53, 170, 171, 172, 173, 54, 142, 143, 144, 145, 212, 213, 214, 215, 216, 206, 207, 208, 217, 218, 219, 220, 239, 240, 241, 2, 242, 204, 243, 244, 245, 246, 247, 154, 155, 156, 157, 23, 158, 159, 160, 22, 161, 62, 61, 162, 163, 164, 165, 60, 166, 975, 976, 977, 978, 979, 980, 981, 982, 983, 984, 985, 986, 1008, 1009, 1010, 1011, 1012] (by decide +kernel) (by decide +kernel)
set_option maxRecDepth 20000 in
theorem gL_law_X9_transpose : GoodIn wsL_law (wsV RL 32 RX9 yX9_transpose wsX9_transpose) := goodIn_app (goodIn_of _ (by decide +kernel)) ggL_law_X9_transpose
set_option maxRecDepth 20000 in
theorem ggL_law_X10_transpose : GoodIn wsL_law wsX10_transpose := goodIn_r _ [275, 121, 122, 252, 253, 254, 5, 255, 192, 193, 194, 256, 257, 258, 259, 226, 187, 188, 189, 190, 191, 123, 987, 988, 989, 990, 991, 992, 993, 994, 995, 996, 997, 998, 999, 1000, 1001, 1002, 1003, 1004, 1005, 1006, 1007] (by decide +kernel) (by decide +kernel)
set_option maxRecDepth 20000 in
theorem gL_law_X10_transpose : GoodIn wsL_law (wsV RL 36 RX10 yX10_transpose wsX10_transpose) := goodIn_app (goodIn_of _ (by decide +kernel)) ggL_law_X10_transpose
set_option maxRecDepth 20000 in
theorem ggL_law_X9_multiply : GoodIn wsL_law wsX9_multiply := goodIn_r _ [279, 15, 203, 141, 16, 280, 205, 206, 207, 14, 208, 54, 174, 167, 168, 169, 53, 170, 171, 172, 173, 142, 143, 144, 145, 212, 213, 214, 215, 216, 209, 210, 2, 211, 217, 218, 219, 220, 239, 240, 241, 242, 204, 243, 244, 245, 246, 247, 154, 155, 156, 157, 23, 158, 159, 160, 22, 161, 62, 61, 162, 163, 164, 165, 60, 166, 975, 976, 977, 978, 979, 980, 981, 982, 983, 984, 985, 986, 1008, 1009, 1010, 1011, 1012] (by decide +kernel) (by decide +kernel)
set_option maxRecDepth 20000 in
theorem gL_law_X9_multiply : GoodIn wsL_law (wsV RL 37 RX9 yX9_multiply wsX9_multiply) := goodIn_app (goodIn_of _ (by decide +kernel)) ggL_law_X9_multiply
set_option maxRecDepth 20000 in
theorem ggL_law_X10_multiply : GoodIn wsL_law wsX10_multiply := goodIn_r _ [284, 225, 179, 285, 121, 227, 228, 229, 5, 230, 180, 181, 182, 231, 232, 233, 234, 252, 253, 254, 255, 122, 192, 193, 194, 256, 257, 258, 259, 226, 187, 188, 189, 190, 191, 123, 987, 988, 989, 990, 991, 992, 993, 994, 995, 996, 997, 998, 999, 1000, 1001, 1002, 1003, 1004, 1005, 1006, 1007] (by decide +kernel) (by decide +kernel)
set_option maxRecDepth 20000 in
theorem gL_law_X10_multiply : GoodIn wsL_law (wsV RL 40 RX10 yX10_multiply wsX10_multiply) := goodIn_app (goodIn_of _ (by decide +kernel)) ggL_law_X10_multiply
set_option maxRecDepth 20000 in
theorem ggL_law_X9_add : GoodIn wsL_law wsX9_add := goodIn_r _ [289, 15, 203, 280, 16, 290, 291, 292, 14, 293, 54, 216, 206, 207, 208, 294, 295, 296, 297, 298, 299, 300, 301, 247, 213, 214, 215, 53, 174, 167, 168, 169, 170, 171, 172, 173, 302, 303, 304, 305, 306, 218, 219, 220, 154, 155, 156, 2, 157, 23, 158, 159, 160, 22, 161, 62, 61, 162, 163, 164, 165, 60, 166, 307, 308, 309, 310, 975, 976, 977, 978, 979, 980, 981, 982, 983, 984, 985, 986, 1008, 1009, 1010, 1011, 1012] (by decide +kernel) (by decide +kernel)
set_option maxRecDepth 20000 in
theorem gL_law_X9_add : GoodIn wsL_law (wsV RL 41 RX9 yX9_add wsX9_add) := goodIn_app (goodIn_of _ (by decide +kernel)) ggL_law_X9_add
set_option maxRecDepth 20000 in
theorem ggL_law_X10_add : GoodIn wsL_law wsX10_add := goodIn_r _ [314, 225, 121, 126, 285, 315, 316, 317, 5, 318, 231, 232, 233, 234, 183, 184, 185, 186, 187, 188, 189, 190, 191, 123, 192, 193, 194, 987, 988, 989, 990, 991, 992, 993, 994, 995, 996, 997, 998, 999, 1000, 1001, 1002, 1003, 1004, 1005, 1006, 1007] (by decide +kernel) (by decide +kernel)
set_option maxRecDepth 20000 in
theorem gL_law_X10_add : GoodIn wsL_law (wsV RL 44 RX10 yX10_add wsX10_add) := goodIn_app (goodIn_of _ (by decide +kernel)) ggL_law_X10_add
set_option maxRecDepth 20000 in
theorem ggL_law_X9_type : GoodIn wsL_law wsX9_type := goodIn_r _ [322, 27, 323, 324, 325, 326, 26, 327, 70, 328, 329, 330, 331, 69, 332, 333, 334, 335, 975, 976, 977, 978, 979, 980, 981, 982, 983, 984, 985, 986, 1013, 1014] (by decide +kernel) (by decide +kernel)
set_option maxRecDepth 20000 in
theorem gL_law_X9_type : GoodIn wsL_law (wsV RL 45 RX9 yX9_type wsX9_type) := goodIn_app (goodIn_of _ (by decide +kernel)) ggL_law_X9_type
