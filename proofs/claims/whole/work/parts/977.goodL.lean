set_option maxRecDepth 20000 in
theorem ggL_law_L_kth : GoodIn wsL_law wsL_kth := goodIn_ca (goodIn_ca (goodIn_r _ [693, 337, 118, 694, 695, 696, 2, 697, 342, 343, 344, 345, 346, 347, 17, 348, 205, 206, 16, 207, 50, 51, 698, 699, 700, 129, 130, 701, 702, 703, 49, 704, 705, 706, 707, 708, 709, 710, 711, 712, 658, 659, 660, 661, 353, 221, 222, 223, 57, 662, 663, 664, 713, 655, 656, 657, 484, 485, 714, 1084, 1085, 1086, 1087, 1088, 1089, 1090, 1091, 1092, 1108, 1109, 1127] (by decide +kernel) (by decide +kernel)) (goodIn_sub (fun _ h => List.mem_append_right _ h) (by decide +kernel))) (goodIn_sub (fun _ h => List.mem_append_left _ (List.mem_append_right _ h)) (by decide +kernel))
set_option maxRecDepth 20000 in
theorem gL_law_L_kth : GoodIn wsL_law (va_wsS RL 182 yL_kth wsL_kth) := goodIn_app (goodIn_of _ (by decide +kernel)) ggL_law_L_kth
set_option maxRecDepth 20000 in
theorem ggL_law_X10_kth : GoodIn wsL_law wsX10_kth := goodIn_r _ [718, 105, 391, 392, 5, 393, 150, 151, 152, 153, 154, 155, 156, 157, 719, 720, 721, 265, 266, 267, 268, 722, 723, 724, 269, 270, 271, 1093, 1094, 1095, 1096, 1097, 1098, 1099, 1100, 1101, 1102, 1103, 1104, 1105, 1106, 1107] (by decide +kernel) (by decide +kernel)
set_option maxRecDepth 20000 in
theorem gL_law_X10_kth : GoodIn wsL_law (wsV RL 184 RX10 yX10_kth wsX10_kth) := goodIn_app (goodIn_of _ (by decide +kernel)) ggL_law_X10_kth
set_option maxRecDepth 20000 in
theorem ggL_law_L_rank : GoodIn wsL_law wsL_rank := goodIn_ca (goodIn_r _ [727, 337, 728, 729, 730, 2, 731, 416, 417, 418, 419, 346, 347, 342, 343, 344, 345, 17, 348, 205, 206, 16, 207, 50, 51, 356, 357, 358, 49, 359, 353, 221, 222, 223, 57, 732, 733, 734, 735, 713, 655, 656, 657, 658, 659, 660, 661, 662, 663, 664, 1084, 1085, 1086, 1087, 1088, 1089, 1090, 1091, 1092, 1108, 1109, 1127] (by decide +kernel) (by decide +kernel)) (goodIn_sub (fun _ h => List.mem_append_right _ h) (by decide +kernel))
set_option maxRecDepth 20000 in
theorem gL_law_L_rank : GoodIn wsL_law (va_wsS RL 185 yL_rank wsL_rank) := goodIn_app (goodIn_of _ (by decide +kernel)) ggL_law_L_rank
set_option maxRecDepth 20000 in
theorem ggL_law_X10_rank : GoodIn wsL_law wsX10_rank := goodIn_r _ [739, 105, 424, 425, 426, 5, 427, 391, 392, 393, 150, 151, 152, 428, 429, 430, 265, 266, 267, 268, 153, 154, 155, 156, 157, 722, 723, 724, 269, 270, 271, 1093, 1094, 1095, 1096, 1097, 1098, 1099, 1100, 1101, 1102, 1103, 1104, 1105, 1106, 1107] (by decide +kernel) (by decide +kernel)
set_option maxRecDepth 20000 in
theorem gL_law_X10_rank : GoodIn wsL_law (wsV RL 187 RX10 yX10_rank wsX10_rank) := goodIn_app (goodIn_of _ (by decide +kernel)) ggL_law_X10_rank
set_option maxRecDepth 20000 in
theorem ggL_law_L_windowCount : GoodIn wsL_law wsL_windowCount := goodIn_ca (goodIn_ca (goodIn_r _ [742, 337, 118, 743, 744, 745, 2, 746, 342, 343, 344, 345, 346, 347, 17, 348, 205, 206, 16, 207, 50, 51, 747, 748, 749, 126, 127, 128, 129, 130, 750, 751, 752, 753, 684, 218, 685, 754, 659, 660, 49, 661, 353, 221, 222, 223, 57, 662, 663, 664, 1084, 1085, 1086, 1087, 1088, 1089, 1090, 1091, 1092, 1108, 1109, 1127] (by decide +kernel) (by decide +kernel)) (goodIn_sub (fun _ h => List.mem_append_right _ h) (by decide +kernel))) (goodIn_sub (fun _ h => List.mem_append_left _ (List.mem_append_right _ h)) (by decide +kernel))
set_option maxRecDepth 20000 in
theorem gL_law_L_windowCount : GoodIn wsL_law (va_wsS RL 188 yL_windowCount wsL_windowCount) := goodIn_app (goodIn_of _ (by decide +kernel)) ggL_law_L_windowCount
set_option maxRecDepth 20000 in
theorem ggL_law_X10_windowCount : GoodIn wsL_law wsX10_windowCount := goodIn_r _ [758, 105, 391, 392, 5, 393, 150, 151, 152, 759, 760, 761, 268, 762, 499, 500, 501, 502, 153, 154, 155, 156, 157, 669, 670, 671, 265, 266, 267, 269, 270, 271, 1093, 1094, 1095, 1096, 1097, 1098, 1099, 1100, 1101, 1102, 1103, 1104, 1105, 1106, 1107] (by decide +kernel) (by decide +kernel)
set_option maxRecDepth 20000 in
theorem gL_law_X10_windowCount : GoodIn wsL_law (wsV RL 191 RX10 yX10_windowCount wsX10_windowCount) := goodIn_app (goodIn_of _ (by decide +kernel)) ggL_law_X10_windowCount
set_option maxRecDepth 20000 in
theorem ggL_law_L_windowKth : GoodIn wsL_law wsL_windowKth := goodIn_ca (goodIn_ca (goodIn_r _ [765, 337, 118, 766, 767, 768, 2, 769, 342, 343, 344, 345, 346, 347, 17, 348, 205, 206, 16, 207, 50, 51, 747, 748, 749, 126, 127, 128, 129, 130, 698, 699, 700, 750, 751, 752, 753, 684, 218, 685, 770, 710, 711, 49, 712, 658, 659, 660, 661, 353, 221, 222, 223, 57, 662, 663, 664, 1084, 1085, 1086, 1087, 1088, 1089, 1090, 1091, 1092, 1108, 1109, 1127] (by decide +kernel) (by decide +kernel)) (goodIn_sub (fun _ h => List.mem_append_right _ h) (by decide +kernel))) (goodIn_sub (fun _ h => List.mem_append_left _ (List.mem_append_right _ h)) (by decide +kernel))
set_option maxRecDepth 20000 in
theorem gL_law_L_windowKth : GoodIn wsL_law (va_wsS RL 192 yL_windowKth wsL_windowKth) := goodIn_app (goodIn_of _ (by decide +kernel)) ggL_law_L_windowKth
set_option maxRecDepth 20000 in
theorem ggL_law_X10_windowKth : GoodIn wsL_law wsX10_windowKth := goodIn_r _ [774, 105, 391, 392, 5, 393, 150, 151, 152, 759, 760, 761, 268, 762, 153, 154, 155, 156, 157, 669, 670, 671, 265, 266, 267, 269, 270, 271, 1093, 1094, 1095, 1096, 1097, 1098, 1099, 1100, 1101, 1102, 1103, 1104, 1105, 1106, 1107] (by decide +kernel) (by decide +kernel)
set_option maxRecDepth 20000 in
theorem gL_law_X10_windowKth : GoodIn wsL_law (wsV RL 194 RX10 yX10_windowKth wsX10_windowKth) := goodIn_app (goodIn_of _ (by decide +kernel)) ggL_law_X10_windowKth
set_option maxRecDepth 20000 in
theorem ggL_law_L_kthOfBoth : GoodIn wsL_law wsL_kthOfBoth := goodIn_ca (goodIn_r _ [777, 118, 778, 779, 780, 2, 781, 17, 698, 699, 700, 129, 130, 782, 783, 784, 16, 785, 786, 787, 788, 789, 50, 51, 790, 655, 656, 49, 657, 658, 659, 660, 661, 353, 221, 222, 223, 57, 662, 663, 664, 791, 792, 793, 794, 1084, 1085, 1086, 1087, 1088, 1089, 1090, 1091, 1092, 1108, 1109, 1127] (by decide +kernel) (by decide +kernel)) (goodIn_sub (fun _ h => List.mem_append_left _ (List.mem_append_right _ h)) (by decide +kernel))
set_option maxRecDepth 20000 in
theorem gL_law_L_kthOfBoth : GoodIn wsL_law (va_wsS RL 195 yL_kthOfBoth wsL_kthOfBoth) := goodIn_app (goodIn_of _ (by decide +kernel)) ggL_law_L_kthOfBoth
set_option maxRecDepth 20000 in
theorem ggL_law_X10_kthOfBoth : GoodIn wsL_law wsX10_kthOfBoth := goodIn_r _ [798, 105, 153, 154, 155, 5, 156, 157, 799, 800, 801, 669, 670, 671, 265, 266, 267, 268, 150, 151, 152, 269, 270, 271, 1093, 1094, 1095, 1096, 1097, 1098, 1099, 1100, 1101, 1102, 1103, 1104, 1105, 1106, 1107] (by decide +kernel) (by decide +kernel)
set_option maxRecDepth 20000 in
theorem gL_law_X10_kthOfBoth : GoodIn wsL_law (wsV RL 198 RX10 yX10_kthOfBoth wsX10_kthOfBoth) := goodIn_app (goodIn_of _ (by decide +kernel)) ggL_law_X10_kthOfBoth
set_option maxRecDepth 20000 in
theorem ggL_law_L_pairs : GoodIn wsL_law wsL_pairs := goodIn_ca (goodIn_r _ [804, 118, 805, 806, 807, 2, 808, 17, 126, 127, 128, 129, 130, 809, 810, 811, 16, 812, 50, 51, 813, 357, 358, 49, 359, 353, 221, 222, 223, 57, 574, 790, 655, 656, 657, 658, 659, 660, 661, 662, 663, 664, 1084, 1085, 1086, 1087, 1088, 1089, 1090, 1091, 1092, 1108, 1109, 1127] (by decide +kernel) (by decide +kernel)) (goodIn_sub (fun _ h => List.mem_append_left _ (List.mem_append_right _ h)) (by decide +kernel))
set_option maxRecDepth 20000 in
theorem gL_law_L_pairs : GoodIn wsL_law (va_wsS RL 199 yL_pairs wsL_pairs) := goodIn_app (goodIn_of _ (by decide +kernel)) ggL_law_L_pairs
set_option maxRecDepth 20000 in
theorem ggL_law_X10_pairs : GoodIn wsL_law wsX10_pairs := goodIn_r _ [817, 818, 105, 150, 151, 5, 152, 153, 154, 155, 156, 157, 819, 820, 821, 265, 266, 267, 268, 269, 270, 271, 799, 800, 801, 669, 670, 671, 1093, 1094, 1095, 1096, 1097, 1098, 1099, 1100, 1101, 1102, 1103, 1104, 1105, 1106, 1107] (by decide +kernel) (by decide +kernel)
set_option maxRecDepth 20000 in
theorem gL_law_X10_pairs : GoodIn wsL_law (wsV RL 201 RX10 yX10_pairs wsX10_pairs) := goodIn_app (goodIn_of _ (by decide +kernel)) ggL_law_X10_pairs
set_option maxRecDepth 20000 in
theorem ggL_law_L_kthSum : GoodIn wsL_law wsL_kthSum := goodIn_ca (goodIn_r _ [824, 118, 825, 826, 827, 2, 828, 17, 698, 699, 700, 129, 130, 829, 830, 831, 16, 832, 833, 810, 811, 812, 50, 51, 813, 357, 358, 49, 359, 353, 221, 222, 223, 57, 574, 790, 655, 656, 657, 658, 659, 660, 661, 662, 663, 664, 1084, 1085, 1086, 1087, 1088, 1089, 1090, 1091, 1092, 1108, 1109, 1127] (by decide +kernel) (by decide +kernel)) (goodIn_sub (fun _ h => List.mem_append_left _ (List.mem_append_right _ h)) (by decide +kernel))
set_option maxRecDepth 20000 in
theorem gL_law_L_kthSum : GoodIn wsL_law (va_wsS RL 202 yL_kthSum wsL_kthSum) := goodIn_app (goodIn_of _ (by decide +kernel)) ggL_law_L_kthSum
set_option maxRecDepth 20000 in
theorem ggL_law_X10_kthSum : GoodIn wsL_law wsX10_kthSum := goodIn_r _ [837, 105, 153, 154, 155, 5, 156, 157, 819, 820, 821, 265, 266, 267, 268, 150, 151, 152, 269, 270, 271, 799, 800, 801, 669, 670, 671, 1093, 1094, 1095, 1096, 1097, 1098, 1099, 1100, 1101, 1102, 1103, 1104, 1105, 1106, 1107] (by decide +kernel) (by decide +kernel)
set_option maxRecDepth 20000 in
theorem gL_law_X10_kthSum : GoodIn wsL_law (wsV RL 204 RX10 yX10_kthSum wsX10_kthSum) := goodIn_app (goodIn_of _ (by decide +kernel)) ggL_law_X10_kthSum
set_option maxRecDepth 20000 in
theorem ggL_law_L_corner : GoodIn wsL_law wsL_corner := goodIn_ca (goodIn_ca (goodIn_r _ [840, 337, 118, 841, 842, 843, 2, 844, 342, 343, 344, 345, 346, 347, 17, 348, 205, 206, 16, 207, 50, 51, 698, 699, 700, 129, 130, 845, 846, 847, 49, 848, 374, 375, 376, 377, 378, 379, 380, 381, 319, 209, 210, 211, 57, 382, 383, 384, 385, 484, 485, 1084, 1085, 1086, 1087, 1088, 1089, 1090, 1091, 1092, 1108, 1109, 1127] (by decide +kernel) (by decide +kernel)) (goodIn_sub (fun _ h => List.mem_append_right _ h) (by decide +kernel))) (goodIn_sub (fun _ h => List.mem_append_left _ (List.mem_append_right _ h)) (by decide +kernel))
set_option maxRecDepth 20000 in
theorem gL_law_L_corner : GoodIn wsL_law (va_wsS RL 205 yL_corner wsL_corner) := goodIn_app (goodIn_of _ (by decide +kernel)) ggL_law_L_corner
set_option maxRecDepth 20000 in
theorem ggL_law_X10_corner : GoodIn wsL_law wsX10_corner := goodIn_r _ [852, 105, 391, 392, 5, 393, 150, 151, 152, 153, 154, 155, 156, 157, 397, 398, 399, 265, 266, 267, 268, 394, 395, 396, 1093, 1094, 1095, 1096, 1097, 1098, 1099, 1100, 1101, 1102, 1103, 1104, 1105, 1106, 1107] (by decide +kernel) (by decide +kernel)
set_option maxRecDepth 20000 in
theorem gL_law_X10_corner : GoodIn wsL_law (wsV RL 207 RX10 yX10_corner wsX10_corner) := goodIn_app (goodIn_of _ (by decide +kernel)) ggL_law_X10_corner
set_option maxRecDepth 20000 in
theorem ggL_law_L_hook : GoodIn wsL_law wsL_hook := goodIn_ca (goodIn_r _ [855, 337, 856, 857, 858, 2, 859, 416, 417, 418, 419, 346, 347, 342, 343, 344, 345, 17, 348, 205, 206, 16, 207, 50, 51, 356, 357, 358, 49, 359, 353, 221, 222, 223, 57, 860, 861, 862, 863, 319, 209, 210, 211, 864, 350, 351, 352, 1084, 1085, 1086, 1087, 1088, 1089, 1090, 1091, 1092, 1108, 1109, 1127] (by decide +kernel) (by decide +kernel)) (goodIn_sub (fun _ h => List.mem_append_right _ h) (by decide +kernel))
set_option maxRecDepth 20000 in
theorem gL_law_L_hook : GoodIn wsL_law (va_wsS RL 208 yL_hook wsL_hook) := goodIn_app (goodIn_of _ (by decide +kernel)) ggL_law_L_hook
set_option maxRecDepth 20000 in
theorem ggL_law_X10_hook : GoodIn wsL_law wsX10_hook := goodIn_r _ [868, 105, 424, 425, 426, 5, 427, 391, 392, 393, 150, 151, 152, 428, 429, 430, 265, 266, 267, 268, 153, 154, 155, 156, 157, 869, 870, 871, 442, 443, 444, 1093, 1094, 1095, 1096, 1097, 1098, 1099, 1100, 1101, 1102, 1103, 1104, 1105, 1106, 1107] (by decide +kernel) (by decide +kernel)
