/-! the law: its words, 2 -/
set_option maxRecDepth 20000 in
theorem ggL_law_X9_permanent : GoodIn wsL_law wsX9_permanent := goodIn_r _ [543, 15, 544, 545, 546, 14, 547, 54, 548, 549, 550, 2, 551, 35, 552, 553, 554, 34, 555, 89, 142, 143, 144, 145, 556, 557, 558, 559, 560, 561, 562, 563, 564, 565, 566, 567, 568, 569, 570, 213, 214, 215, 53, 216, 206, 207, 208, 571, 473, 474, 475, 476, 477, 478, 572, 573, 574, 575, 576, 975, 976, 977, 978, 979, 980, 981, 982, 983, 984, 985, 986, 1008, 1009, 1020] (by decide +kernel) (by decide +kernel)
set_option maxRecDepth 20000 in
theorem gL_law_X9_permanent : GoodIn wsL_law (wsV RL 83 RX9 yX9_permanent wsX9_permanent) := goodIn_app (goodIn_of _ (by decide +kernel)) ggL_law_X9_permanent
set_option maxRecDepth 20000 in
theorem ggL_law_X10_permanent : GoodIn wsL_law wsX10_permanent := goodIn_r _ [580, 581, 582, 583, 5, 584, 121, 585, 586, 587, 588, 128, 129, 589, 590, 591, 592, 593, 594, 595, 126, 596, 597, 598, 599, 231, 232, 233, 234, 600, 601, 602, 603, 604, 605, 606, 607, 987, 988, 989, 990, 991, 992, 993, 994, 995, 996, 997, 998, 999, 1000, 1001, 1002, 1003, 1004, 1005, 1006, 1007] (by decide +kernel) (by decide +kernel)
set_option maxRecDepth 20000 in
theorem gL_law_X10_permanent : GoodIn wsL_law (wsV RL 87 RX10 yX10_permanent wsX10_permanent) := goodIn_app (goodIn_of _ (by decide +kernel)) ggL_law_X10_permanent
set_option maxRecDepth 20000 in
theorem ggL_law_X9_determinant : GoodIn wsL_law wsX9_determinant := goodIn_r _ [611, 35, 15, 552, 553, 554, 34, 555, 89, 142, 143, 144, 14, 145, 54, 556, 557, 558, 559, 560, 545, 546, 547, 561, 562, 563, 564, 565, 566, 567, 568, 569, 570, 213, 214, 215, 53, 216, 206, 207, 208, 571, 473, 474, 475, 476, 477, 478, 572, 573, 574, 575, 544, 576, 975, 976, 977, 978, 979, 980, 981, 982, 983, 984, 985, 986, 1020, 1008, 1009] (by decide +kernel) (by decide +kernel)
set_option maxRecDepth 20000 in
theorem gL_law_X9_determinant : GoodIn wsL_law (wsV RL 88 RX9 yX9_determinant wsX9_determinant) := goodIn_app (goodIn_of _ (by decide +kernel)) ggL_law_X9_determinant
set_option maxRecDepth 20000 in
theorem ggL_law_X10_determinant : GoodIn wsL_law wsX10_determinant := goodIn_r _ [615, 128, 129, 121, 581, 582, 583, 5, 584, 589, 590, 591, 592, 593, 594, 595, 126, 596, 597, 598, 599, 231, 232, 233, 234, 616, 617, 618, 619, 600, 601, 602, 603, 604, 605, 606, 607, 987, 988, 989, 990, 991, 992, 993, 994, 995, 996, 997, 998, 999, 1000, 1001, 1002, 1003, 1004, 1005, 1006, 1007] (by decide +kernel) (by decide +kernel)
set_option maxRecDepth 20000 in
theorem gL_law_X10_determinant : GoodIn wsL_law (wsV RL 91 RX10 yX10_determinant wsX10_determinant) := goodIn_app (goodIn_of _ (by decide +kernel)) ggL_law_X10_determinant
set_option maxRecDepth 20000 in
theorem ggL_law_X9_minor : GoodIn wsL_law wsX9_minor := goodIn_r _ [623, 15, 624, 205, 206, 207, 14, 208, 54, 625, 626, 627, 2, 628, 544, 545, 546, 547, 548, 549, 550, 551, 35, 552, 553, 554, 34, 555, 89, 142, 143, 144, 145, 556, 557, 558, 559, 560, 561, 562, 563, 564, 565, 566, 567, 568, 569, 570, 213, 214, 215, 53, 216, 571, 473, 474, 475, 476, 477, 478, 572, 573, 574, 575, 576, 975, 976, 977, 978, 979, 980, 981, 982, 983, 984, 985, 986, 1008, 1009, 1020] (by decide +kernel) (by decide +kernel)
set_option maxRecDepth 20000 in
theorem gL_law_X9_minor : GoodIn wsL_law (wsV RL 92 RX9 yX9_minor wsX9_minor) := goodIn_app (goodIn_of _ (by decide +kernel)) ggL_law_X9_minor
set_option maxRecDepth 20000 in
theorem ggL_law_X10_minor : GoodIn wsL_law wsX10_minor := goodIn_r _ [632, 633, 227, 228, 229, 5, 230, 121, 180, 181, 182, 581, 582, 583, 584, 585, 586, 587, 588, 128, 129, 589, 590, 591, 592, 593, 594, 595, 126, 596, 597, 598, 599, 231, 232, 233, 234, 600, 601, 602, 603, 604, 605, 606, 607, 987, 988, 989, 990, 991, 992, 993, 994, 995, 996, 997, 998, 999, 1000, 1001, 1002, 1003, 1004, 1005, 1006, 1007] (by decide +kernel) (by decide +kernel)
set_option maxRecDepth 20000 in
theorem gL_law_X10_minor : GoodIn wsL_law (wsV RL 96 RX10 yX10_minor wsX10_minor) := goodIn_app (goodIn_of _ (by decide +kernel)) ggL_law_X10_minor
set_option maxRecDepth 20000 in
theorem ggL_law_X9_permanentOf : GoodIn wsL_law wsX9_permanentOf := goodIn_r _ [637, 15, 624, 638, 544, 545, 546, 14, 547, 54, 639, 473, 474, 475, 476, 477, 478, 548, 549, 550, 2, 551, 35, 552, 553, 554, 34, 555, 89, 142, 143, 144, 145, 556, 557, 558, 559, 560, 561, 562, 563, 564, 565, 566, 567, 568, 569, 570, 213, 214, 215, 53, 216, 206, 207, 208, 571, 572, 573, 574, 575, 576, 975, 976, 977, 978, 979, 980, 981, 982, 983, 984, 985, 986, 1008, 1009, 1020] (by decide +kernel) (by decide +kernel)
set_option maxRecDepth 20000 in
theorem gL_law_X9_permanentOf : GoodIn wsL_law (wsV RL 97 RX9 yX9_permanentOf wsX9_permanentOf) := goodIn_app (goodIn_of _ (by decide +kernel)) ggL_law_X9_permanentOf
set_option maxRecDepth 20000 in
theorem ggL_law_X10_permanentOf : GoodIn wsL_law wsX10_permanentOf := goodIn_r _ [643, 633, 644, 581, 582, 583, 5, 584, 121, 180, 181, 182, 645, 646, 647, 585, 586, 587, 588, 128, 129, 589, 590, 591, 592, 593, 594, 595, 126, 596, 597, 598, 599, 231, 232, 233, 234, 600, 601, 602, 603, 604, 605, 606, 607, 987, 988, 989, 990, 991, 992, 993, 994, 995, 996, 997, 998, 999, 1000, 1001, 1002, 1003, 1004, 1005, 1006, 1007] (by decide +kernel) (by decide +kernel)
set_option maxRecDepth 20000 in
theorem gL_law_X10_permanentOf : GoodIn wsL_law (wsV RL 100 RX10 yX10_permanentOf wsX10_permanentOf) := goodIn_app (goodIn_of _ (by decide +kernel)) ggL_law_X10_permanentOf
set_option maxRecDepth 20000 in
theorem ggL_law_X9_sumOf : GoodIn wsL_law wsX9_sumOf := goodIn_r _ [651, 15, 652, 142, 143, 144, 14, 145, 54, 653, 654, 655, 2, 656, 35, 552, 553, 554, 34, 555, 89, 657, 658, 659, 660, 560, 545, 546, 547, 566, 567, 568, 569, 561, 562, 563, 564, 565, 570, 213, 214, 215, 53, 216, 206, 207, 208, 571, 473, 474, 475, 476, 477, 478, 572, 573, 574, 575, 661, 662, 663, 664, 975, 976, 977, 978, 979, 980, 981, 982, 983, 984, 985, 986, 1008, 1009, 1020] (by decide +kernel) (by decide +kernel)
set_option maxRecDepth 20000 in
theorem gL_law_X9_sumOf : GoodIn wsL_law (wsV RL 101 RX9 yX9_sumOf wsX9_sumOf) := goodIn_app (goodIn_of _ (by decide +kernel)) ggL_law_X9_sumOf
set_option maxRecDepth 20000 in
theorem ggL_law_X10_sumOf : GoodIn wsL_law wsX10_sumOf := goodIn_r _ [668, 121, 669, 180, 181, 5, 182, 670, 671, 672, 673, 581, 582, 583, 584, 645, 646, 647, 585, 586, 587, 588, 128, 129, 589, 590, 591, 592, 593, 594, 595, 126, 596, 597, 598, 599, 231, 232, 233, 234, 600, 601, 602, 603, 604, 605, 606, 607, 987, 988, 989, 990, 991, 992, 993, 994, 995, 996, 997, 998, 999, 1000, 1001, 1002, 1003, 1004, 1005, 1006, 1007] (by decide +kernel) (by decide +kernel)
set_option maxRecDepth 20000 in
theorem gL_law_X10_sumOf : GoodIn wsL_law (wsV RL 105 RX10 yX10_sumOf wsX10_sumOf) := goodIn_app (goodIn_of _ (by decide +kernel)) ggL_law_X10_sumOf
set_option maxRecDepth 20000 in
theorem ggL_law_X9_wholeDiagonals : GoodIn wsL_law wsX9_wholeDiagonals := goodIn_r _ [677, 39, 15, 678, 679, 680, 38, 681, 682, 545, 546, 14, 547, 54, 683, 684, 685, 686, 94, 687, 473, 474, 475, 476, 477, 478, 688, 143, 144, 145, 689, 690, 691, 692, 693, 213, 214, 215, 53, 216, 206, 207, 208, 694, 695, 696, 697, 698, 975, 976, 977, 978, 979, 980, 981, 982, 983, 984, 985, 986, 1008, 1009, 1021] (by decide +kernel) (by decide +kernel)
set_option maxRecDepth 20000 in
theorem gL_law_X9_wholeDiagonals : GoodIn wsL_law (wsV RL 106 RX9 yX9_wholeDiagonals wsX9_wholeDiagonals) := goodIn_app (goodIn_of _ (by decide +kernel)) ggL_law_X9_wholeDiagonals
set_option maxRecDepth 20000 in
theorem ggL_law_X10_wholeDiagonals : GoodIn wsL_law wsX10_wholeDiagonals := goodIn_r _ [702, 581, 582, 583, 5, 584, 121, 585, 586, 587, 588, 128, 129, 589, 590, 591, 592, 593, 594, 595, 126, 596, 597, 598, 599, 231, 232, 233, 234, 600, 601, 602, 603, 604, 605, 606, 607, 987, 988, 989, 990, 991, 992, 993, 994, 995, 996, 997, 998, 999, 1000, 1001, 1002, 1003, 1004, 1005, 1006, 1007] (by decide +kernel) (by decide +kernel)
set_option maxRecDepth 20000 in
theorem gL_law_X10_wholeDiagonals : GoodIn wsL_law (wsV RL 109 RX10 yX10_wholeDiagonals wsX10_wholeDiagonals) := goodIn_app (goodIn_of _ (by decide +kernel)) ggL_law_X10_wholeDiagonals
set_option maxRecDepth 20000 in
theorem ggL_law_X9_wholeDiagonal : GoodIn wsL_law wsX9_wholeDiagonal := goodIn_r _ [706, 141, 39, 15, 204, 678, 679, 680, 38, 681, 682, 545, 546, 14, 547, 54, 683, 684, 685, 686, 94, 687, 473, 474, 475, 476, 477, 478, 688, 143, 144, 145, 689, 690, 691, 692, 693, 213, 214, 215, 53, 216, 206, 207, 208, 694, 695, 696, 697, 698, 707, 708, 709, 710, 975, 976, 977, 978, 979, 980, 981, 982, 983, 984, 985, 986, 1008, 1009, 1021] (by decide +kernel) (by decide +kernel)
set_option maxRecDepth 20000 in
theorem gL_law_X9_wholeDiagonal : GoodIn wsL_law (wsV RL 110 RX9 yX9_wholeDiagonal wsX9_wholeDiagonal) := goodIn_app (goodIn_of _ (by decide +kernel)) ggL_law_X9_wholeDiagonal
set_option maxRecDepth 20000 in
theorem ggL_law_X10_wholeDiagonal : GoodIn wsL_law wsX10_wholeDiagonal := goodIn_r _ [714, 179, 121, 226, 592, 593, 594, 5, 595, 126, 715, 716, 717, 718, 719, 720, 721, 722, 600, 601, 602, 603, 604, 605, 606, 607, 987, 988, 989, 990, 991, 992, 993, 994, 995, 996, 997, 998, 999, 1000, 1001, 1002, 1003, 1004, 1005, 1006, 1007] (by decide +kernel) (by decide +kernel)
set_option maxRecDepth 20000 in
theorem gL_law_X10_wholeDiagonal : GoodIn wsL_law (wsV RL 113 RX10 yX10_wholeDiagonal wsX10_wholeDiagonal) := goodIn_app (goodIn_of _ (by decide +kernel)) ggL_law_X10_wholeDiagonal
set_option maxRecDepth 20000 in
theorem ggL_law_X9_diagonalsThrough : GoodIn wsL_law wsX9_diagonalsThrough := goodIn_r _ [726, 15, 203, 17, 205, 206, 207, 14, 208, 54, 212, 213, 214, 215, 53, 216, 727, 728, 729, 730, 731, 147, 148, 149, 150, 151, 152, 153, 247, 306, 218, 219, 220, 625, 626, 627, 2, 628, 544, 545, 546, 547, 548, 549, 550, 551, 35, 552, 553, 554, 34, 555, 89, 142, 143, 144, 145, 556, 557, 558, 559, 560, 561, 562, 563, 564, 565, 566, 567, 568, 569, 570, 571, 473, 474, 475, 476, 477, 478, 572, 573, 574, 575, 576, 975, 976, 977, 978, 979, 980, 981, 982, 983, 984, 985, 986, 1008, 1009, 1020] (by decide +kernel) (by decide +kernel)
set_option maxRecDepth 20000 in
theorem gL_law_X9_diagonalsThrough : GoodIn wsL_law (wsV RL 114 RX9 yX9_diagonalsThrough wsX9_diagonalsThrough) := goodIn_app (goodIn_of _ (by decide +kernel)) ggL_law_X9_diagonalsThrough
set_option maxRecDepth 20000 in
theorem ggL_law_X10_diagonalsThrough : GoodIn wsL_law wsX10_diagonalsThrough := goodIn_r _ [735, 225, 121, 126, 227, 228, 229, 5, 230, 180, 181, 182, 592, 593, 594, 595, 715, 716, 717, 718, 600, 601, 602, 603, 604, 605, 606, 607, 987, 988, 989, 990, 991, 992, 993, 994, 995, 996, 997, 998, 999, 1000, 1001, 1002, 1003, 1004, 1005, 1006, 1007] (by decide +kernel) (by decide +kernel)
set_option maxRecDepth 20000 in
theorem gL_law_X10_diagonalsThrough : GoodIn wsL_law (wsV RL 117 RX10 yX10_diagonalsThrough wsX10_diagonalsThrough) := goodIn_app (goodIn_of _ (by decide +kernel)) ggL_law_X10_diagonalsThrough
set_option maxRecDepth 20000 in
theorem ggL_law_X9_rooks : GoodIn wsL_law wsX9_rooks := goodIn_r _ [739, 15, 141, 17, 142, 143, 144, 14, 145, 54, 727, 728, 729, 730, 731, 147, 148, 149, 53, 150, 151, 152, 153, 247, 213, 214, 215, 216, 206, 207, 208, 306, 218, 219, 220, 653, 654, 655, 2, 656, 35, 552, 553, 554, 34, 555, 89, 657, 658, 659, 660, 560, 545, 546, 547, 566, 567, 568, 569, 561, 562, 563, 564, 565, 570, 571, 473, 474, 475, 476, 477, 478, 572, 573, 574, 575, 661, 662, 663, 664, 975, 976, 977, 978, 979, 980, 981, 982, 983, 984, 985, 986, 1008, 1009, 1020] (by decide +kernel) (by decide +kernel)
set_option maxRecDepth 20000 in
theorem gL_law_X9_rooks : GoodIn wsL_law (wsV RL 118 RX9 yX9_rooks wsX9_rooks) := goodIn_app (goodIn_of _ (by decide +kernel)) ggL_law_X9_rooks
