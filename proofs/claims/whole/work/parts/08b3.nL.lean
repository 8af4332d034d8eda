/-! the law: its words, 3 -/
set_option maxRecDepth 20000 in
theorem ggL_law_X10_rooks : GoodIn wsL_law wsX10_rooks := goodIn_r _ [743, 121, 179, 180, 181, 5, 182, 670, 671, 672, 673, 581, 582, 583, 584, 645, 646, 647, 585, 586, 587, 588, 128, 129, 589, 590, 591, 592, 593, 594, 595, 126, 596, 597, 598, 599, 231, 232, 233, 234, 600, 601, 602, 603, 604, 605, 606, 607, 987, 988, 989, 990, 991, 992, 993, 994, 995, 996, 997, 998, 999, 1000, 1001, 1002, 1003, 1004, 1005, 1006, 1007] (by decide +kernel) (by decide +kernel)
set_option maxRecDepth 20000 in
theorem gL_law_X10_rooks : GoodIn wsL_law (wsV RL 121 RX10 yX10_rooks wsX10_rooks) := goodIn_app (goodIn_of _ (by decide +kernel)) ggL_law_X10_rooks
set_option maxRecDepth 20000 in
theorem ggL_law_X9_tooFew : GoodIn wsL_law wsX9_tooFew := goodIn_r _ [747, 204, 15, 544, 545, 546, 14, 547, 54, 639, 473, 474, 475, 476, 477, 478, 748, 749, 750, 751, 468, 469, 470, 471, 247, 213, 214, 215, 53, 216, 206, 207, 208, 975, 976, 977, 978, 979, 980, 981, 982, 983, 984, 985, 986, 1008, 1009] (by decide +kernel) (by decide +kernel)
set_option maxRecDepth 20000 in
theorem gL_law_X9_tooFew : GoodIn wsL_law (wsV RL 122 RX9 yX9_tooFew wsX9_tooFew) := goodIn_app (goodIn_of _ (by decide +kernel)) ggL_law_X9_tooFew
set_option maxRecDepth 20000 in
theorem ggL_law_X10_tooFew : GoodIn wsL_law wsX10_tooFew := goodIn_r _ [755, 226, 581, 582, 583, 5, 584, 121, 756, 757, 758, 759, 645, 646, 647, 987, 988, 989, 990, 991, 992, 993, 994, 995, 996, 997, 998, 999, 1000, 1001, 1002, 1003, 1004, 1005, 1006, 1007] (by decide +kernel) (by decide +kernel)
set_option maxRecDepth 20000 in
theorem gL_law_X10_tooFew : GoodIn wsL_law (wsV RL 125 RX10 yX10_tooFew wsX10_tooFew) := goodIn_app (goodIn_of _ (by decide +kernel)) ggL_law_X10_tooFew
set_option maxRecDepth 20000 in
theorem ggL_law_X9_best : GoodIn wsL_law wsX9_best := goodIn_r _ [763, 39, 15, 764, 765, 766, 38, 767, 768, 299, 300, 301, 682, 545, 546, 14, 547, 54, 683, 684, 685, 686, 94, 687, 473, 474, 475, 476, 477, 478, 688, 143, 144, 145, 769, 770, 771, 772, 693, 213, 214, 215, 53, 216, 206, 207, 208, 694, 695, 696, 697, 698, 773, 774, 775, 776, 975, 976, 977, 978, 979, 980, 981, 982, 983, 984, 985, 986, 1008, 1009, 1021] (by decide +kernel) (by decide +kernel)
set_option maxRecDepth 20000 in
theorem gL_law_X9_best : GoodIn wsL_law (wsV RL 126 RX9 yX9_best wsX9_best) := goodIn_app (goodIn_of _ (by decide +kernel)) ggL_law_X9_best
set_option maxRecDepth 20000 in
theorem ggL_law_X10_best : GoodIn wsL_law wsX10_best := goodIn_r _ [780, 121, 126, 592, 593, 594, 5, 595, 231, 232, 233, 234, 719, 720, 721, 722, 600, 601, 602, 603, 604, 605, 606, 607, 987, 988, 989, 990, 991, 992, 993, 994, 995, 996, 997, 998, 999, 1000, 1001, 1002, 1003, 1004, 1005, 1006, 1007] (by decide +kernel) (by decide +kernel)
set_option maxRecDepth 20000 in
theorem gL_law_X10_best : GoodIn wsL_law (wsV RL 130 RX10 yX10_best wsX10_best) := goodIn_app (goodIn_of _ (by decide +kernel)) ggL_law_X10_best
set_option maxRecDepth 20000 in
theorem ggL_law_X9_nodes : GoodIn wsL_law wsX9_nodes := goodIn_r _ [784, 17, 15, 35, 727, 728, 729, 14, 730, 54, 731, 147, 148, 149, 53, 150, 151, 152, 153, 247, 213, 214, 215, 216, 206, 207, 208, 306, 218, 219, 220, 552, 553, 554, 34, 555, 89, 142, 143, 144, 145, 556, 557, 558, 559, 560, 545, 546, 547, 561, 562, 563, 564, 565, 566, 567, 568, 569, 570, 571, 473, 474, 475, 476, 477, 478, 572, 573, 574, 575, 785, 786, 787, 788, 789, 790, 791, 792, 975, 976, 977, 978, 979, 980, 981, 982, 983, 984, 985, 986, 1008, 1009, 1020] (by decide +kernel) (by decide +kernel)
set_option maxRecDepth 20000 in
theorem gL_law_X9_nodes : GoodIn wsL_law (wsV RL 131 RX9 yX9_nodes wsX9_nodes) := goodIn_app (goodIn_of _ (by decide +kernel)) ggL_law_X9_nodes
set_option maxRecDepth 20000 in
theorem ggL_law_X10_nodes : GoodIn wsL_law wsX10_nodes := goodIn_r _ [796, 130, 121, 581, 582, 583, 5, 584, 645, 646, 647, 231, 232, 233, 234, 987, 988, 989, 990, 991, 992, 993, 994, 995, 996, 997, 998, 999, 1000, 1001, 1002, 1003, 1004, 1005, 1006, 1007] (by decide +kernel) (by decide +kernel)
set_option maxRecDepth 20000 in
theorem gL_law_X10_nodes : GoodIn wsL_law (wsV RL 134 RX10 yX10_nodes wsX10_nodes) := goodIn_app (goodIn_of _ (by decide +kernel)) ggL_law_X10_nodes
set_option maxRecDepth 20000 in
theorem ggL_law_X9_scaledBits : GoodIn wsL_law wsX9_scaledBits := goodIn_r _ [800, 15, 624, 43, 205, 206, 207, 14, 208, 54, 801, 802, 803, 2, 804, 652, 638, 805, 806, 807, 808, 809, 492, 493, 494, 495, 496, 300, 497, 247, 213, 214, 215, 53, 216, 483, 484, 485, 486, 506, 507, 508, 509, 810, 811, 812, 42, 813, 814, 103, 101, 102, 100, 815, 143, 144, 145, 816, 817, 818, 819, 820, 821, 822, 823, 824, 825, 826, 827, 828, 829, 830, 831, 832, 833, 834, 835, 836, 837, 838, 839, 840, 841, 842, 843, 844, 845, 846, 847, 848, 849, 850, 851, 852, 853, 854, 855, 856, 857, 975, 976, 977, 978, 979, 980, 981, 982, 983, 984, 985, 986, 1008, 1009, 1022, 1023, 1024, 1025] (by decide +kernel) (by decide +kernel)
set_option maxRecDepth 20000 in
theorem gL_law_X9_scaledBits : GoodIn wsL_law (wsV RL 135 RX9 yX9_scaledBits wsX9_scaledBits) := goodIn_app (goodIn_of _ (by decide +kernel)) ggL_law_X9_scaledBits
set_option maxRecDepth 20000 in
theorem ggL_law_X10_scaledBits : GoodIn wsL_law wsX10_scaledBits := goodIn_r _ [861, 633, 644, 669, 131, 227, 228, 229, 5, 230, 121, 180, 181, 182, 862, 863, 864, 865, 866, 867, 868, 526, 527, 528, 529, 231, 232, 233, 234, 869, 870, 871, 872, 132, 133, 873, 874, 875, 876, 877, 878, 879, 880, 881, 882, 883, 884, 885, 886, 887, 888, 889, 890, 891, 892, 987, 988, 989, 990, 991, 992, 993, 994, 995, 996, 997, 998, 999, 1000, 1001, 1002, 1003, 1004, 1005, 1006, 1007] (by decide +kernel) (by decide +kernel)
set_option maxRecDepth 20000 in
theorem gL_law_X10_scaledBits : GoodIn wsL_law (wsV RL 139 RX10 yX10_scaledBits wsX10_scaledBits) := goodIn_app (goodIn_of _ (by decide +kernel)) ggL_law_X10_scaledBits
set_option maxRecDepth 20000 in
theorem ggL_law_X9_gapBits : GoodIn wsL_law wsX9_gapBits := goodIn_r _ [896, 43, 801, 802, 803, 2, 804, 652, 15, 638, 805, 806, 807, 14, 808, 54, 809, 492, 493, 494, 495, 496, 300, 497, 247, 213, 214, 215, 53, 216, 206, 207, 208, 483, 484, 485, 486, 506, 507, 508, 509, 810, 811, 812, 42, 813, 814, 103, 101, 102, 100, 815, 143, 144, 145, 816, 817, 818, 819, 820, 821, 822, 823, 824, 825, 826, 827, 828, 829, 830, 831, 832, 833, 834, 835, 836, 837, 838, 839, 840, 841, 842, 843, 844, 897, 898, 899, 900, 846, 847, 848, 849, 850, 851, 852, 853, 854, 855, 856, 857, 975, 976, 977, 978, 979, 980, 981, 982, 983, 984, 985, 986, 1008, 1009, 1022, 1023, 1024, 1025] (by decide +kernel) (by decide +kernel)
set_option maxRecDepth 20000 in
theorem gL_law_X9_gapBits : GoodIn wsL_law (wsV RL 140 RX9 yX9_gapBits wsX9_gapBits) := goodIn_app (goodIn_of _ (by decide +kernel)) ggL_law_X9_gapBits
set_option maxRecDepth 20000 in
theorem ggL_law_X10_gapBits : GoodIn wsL_law wsX10_gapBits := goodIn_r _ [904, 644, 669, 121, 862, 863, 5, 864, 180, 181, 182, 865, 866, 867, 868, 526, 527, 528, 529, 231, 232, 233, 234, 869, 870, 871, 872, 131, 132, 133, 873, 874, 875, 876, 877, 878, 879, 880, 881, 882, 883, 884, 885, 886, 887, 888, 889, 890, 891, 892, 987, 988, 989, 990, 991, 992, 993, 994, 995, 996, 997, 998, 999, 1000, 1001, 1002, 1003, 1004, 1005, 1006, 1007] (by decide +kernel) (by decide +kernel)
set_option maxRecDepth 20000 in
theorem gL_law_X10_gapBits : GoodIn wsL_law (wsV RL 143 RX10 yX10_gapBits wsX10_gapBits) := goodIn_app (goodIn_of _ (by decide +kernel)) ggL_law_X10_gapBits
set_option maxRecDepth 20000 in
theorem ggL_law_X9_boundBits : GoodIn wsL_law wsX9_boundBits := goodIn_r _ [908, 43, 801, 802, 803, 2, 804, 652, 15, 638, 805, 806, 807, 14, 808, 54, 809, 492, 493, 494, 495, 496, 300, 497, 247, 213, 214, 215, 53, 216, 206, 207, 208, 483, 484, 485, 486, 506, 507, 508, 509, 810, 811, 812, 42, 813, 814, 103, 101, 102, 100, 815, 143, 144, 145, 816, 817, 818, 819, 820, 821, 822, 823, 824, 825, 826, 827, 828, 829, 830, 831, 832, 833, 834, 835, 836, 837, 838, 839, 840, 841, 842, 843, 844, 909, 910, 911, 912, 846, 847, 848, 849, 850, 851, 852, 853, 854, 855, 856, 857, 975, 976, 977, 978, 979, 980, 981, 982, 983, 984, 985, 986, 1008, 1009, 1022, 1023, 1024, 1025] (by decide +kernel) (by decide +kernel)
set_option maxRecDepth 20000 in
theorem gL_law_X9_boundBits : GoodIn wsL_law (wsV RL 144 RX9 yX9_boundBits wsX9_boundBits) := goodIn_app (goodIn_of _ (by decide +kernel)) ggL_law_X9_boundBits
set_option maxRecDepth 20000 in
theorem ggL_law_X10_boundBits : GoodIn wsL_law wsX10_boundBits := goodIn_r _ [916, 644, 669, 121, 132, 133, 862, 863, 5, 864, 180, 181, 182, 865, 866, 867, 868, 526, 527, 528, 529, 231, 232, 233, 234, 869, 870, 871, 872, 131, 873, 874, 875, 876, 877, 878, 879, 880, 881, 882, 883, 884, 885, 886, 887, 888, 889, 890, 891, 892, 987, 988, 989, 990, 991, 992, 993, 994, 995, 996, 997, 998, 999, 1000, 1001, 1002, 1003, 1004, 1005, 1006, 1007] (by decide +kernel) (by decide +kernel)
set_option maxRecDepth 20000 in
theorem gL_law_X10_boundBits : GoodIn wsL_law (wsV RL 147 RX10 yX10_boundBits wsX10_boundBits) := goodIn_app (goodIn_of _ (by decide +kernel)) ggL_law_X10_boundBits
set_option maxRecDepth 20000 in
theorem ggL_law_X9_part : GoodIn wsL_law wsX9_part := goodIn_r _ [920, 15, 280, 47, 203, 921, 922, 923, 14, 924, 809, 492, 493, 494, 54, 495, 496, 300, 497, 247, 213, 214, 215, 53, 216, 206, 207, 208, 925, 503, 504, 505, 483, 484, 485, 486, 506, 507, 508, 509, 926, 927, 928, 46, 929, 109, 114, 111, 112, 113, 930, 167, 168, 169, 170, 171, 172, 173, 931, 465, 466, 467, 468, 469, 470, 471, 472, 473, 474, 475, 476, 477, 478, 932, 679, 680, 38, 681, 682, 545, 546, 547, 683, 684, 685, 686, 94, 687, 688, 143, 144, 145, 689, 690, 691, 692, 693, 694, 695, 696, 697, 933, 708, 709, 710, 934, 935, 936, 937, 938, 303, 304, 305, 306, 218, 219, 220, 939, 940, 941, 942, 943, 944, 945, 946, 947, 948, 949, 950, 975, 976, 977, 978, 979, 980, 981, 982, 983, 984, 985, 986, 1008, 1009, 1026, 1027, 1028, 1029, 1030, 1021] (by decide +kernel) (by decide +kernel)
set_option maxRecDepth 20000 in
theorem gL_law_X9_part : GoodIn wsL_law (wsV RL 148 RX9 yX9_part wsX9_part) := goodIn_app (goodIn_of _ (by decide +kernel)) ggL_law_X9_part
set_option maxRecDepth 20000 in
theorem ggL_law_X10_part : GoodIn wsL_law wsX10_part := goodIn_r _ [954, 285, 225, 136, 135, 955, 956, 957, 5, 958, 121, 522, 523, 524, 525, 526, 527, 528, 529, 231, 232, 233, 234, 959, 960, 961, 962, 134, 126, 192, 193, 194, 592, 593, 594, 595, 715, 716, 717, 718, 600, 601, 602, 603, 604, 605, 606, 607, 963, 964, 965, 966, 719, 720, 721, 722, 180, 181, 182, 987, 988, 989, 990, 991, 992, 993, 994, 995, 996, 997, 998, 999, 1000, 1001, 1002, 1003, 1004, 1005, 1006, 1007] (by decide +kernel) (by decide +kernel)
set_option maxRecDepth 20000 in
theorem gL_law_X10_part : GoodIn wsL_law (wsV RL 151 RX10 yX10_part wsX10_part) := goodIn_app (goodIn_of _ (by decide +kernel)) ggL_law_X10_part
set_option maxRecDepth 20000 in
theorem ggL_law_X9_parts : GoodIn wsL_law wsX9_parts := goodIn_r _ [970, 15, 280, 47, 921, 922, 923, 14, 924, 809, 492, 493, 494, 54, 495, 496, 300, 497, 247, 213, 214, 215, 53, 216, 206, 207, 208, 925, 503, 504, 505, 483, 484, 485, 486, 506, 507, 508, 509, 926, 927, 928, 46, 929, 109, 114, 111, 112, 113, 930, 167, 168, 169, 170, 171, 172, 173, 931, 465, 466, 467, 468, 469, 470, 471, 472, 473, 474, 475, 476, 477, 478, 932, 679, 680, 38, 681, 682, 545, 546, 547, 683, 684, 685, 686, 94, 687, 688, 143, 144, 145, 689, 690, 691, 692, 693, 694, 695, 696, 697, 933, 708, 709, 710, 934, 935, 936, 937, 938, 303, 304, 305, 306, 218, 219, 220, 939, 940, 941, 942, 975, 976, 977, 978, 979, 980, 981, 982, 983, 984, 985, 986, 1008, 1009, 1026, 1027, 1028, 1029, 1030, 1021] (by decide +kernel) (by decide +kernel)
set_option maxRecDepth 20000 in
theorem gL_law_X9_parts : GoodIn wsL_law (wsV RL 152 RX9 yX9_parts wsX9_parts) := goodIn_app (goodIn_of _ (by decide +kernel)) ggL_law_X9_parts
set_option maxRecDepth 20000 in
theorem ggL_law_X10_parts : GoodIn wsL_law wsX10_parts := goodIn_r _ [974, 285, 955, 956, 957, 5, 958, 121, 522, 523, 524, 525, 526, 527, 528, 529, 231, 232, 233, 234, 959, 960, 961, 962, 134, 126, 135, 136, 192, 193, 194, 592, 593, 594, 595, 715, 716, 717, 718, 600, 601, 602, 603, 604, 605, 606, 607, 963, 964, 965, 966, 719, 720, 721, 722, 987, 988, 989, 990, 991, 992, 993, 994, 995, 996, 997, 998, 999, 1000, 1001, 1002, 1003, 1004, 1005, 1006, 1007] (by decide +kernel) (by decide +kernel)
set_option maxRecDepth 20000 in
theorem gL_law_X10_parts : GoodIn wsL_law (wsV RL 155 RX10 yX10_parts wsX10_parts) := goodIn_app (goodIn_of _ (by decide +kernel)) ggL_law_X10_parts
