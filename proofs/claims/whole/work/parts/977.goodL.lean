set_option maxRecDepth 20000 in
theorem ggL_law_L_kth : GoodIn wsL_law wsL_kth := goodIn_ca (goodIn_ca (goodIn_r _ [690, 334, 119, 691, 692, 693, 2, 694, 339, 340, 341, 342, 343, 344, 17, 345, 206, 207, 16, 208, 50, 51, 695, 696, 697, 698, 127, 128, 129, 130, 131, 699, 700, 701, 49, 702, 703, 704, 705, 706, 707, 708, 709, 710, 655, 656, 657, 658, 350, 222, 223, 224, 57, 659, 660, 661, 711, 652, 653, 654, 481, 482, 712, 1082, 1083, 1084, 1085, 1086, 1087, 1088, 1089, 1090, 1106, 1107, 1126] (by decide +kernel) (by decide +kernel)) (goodIn_sub (fun _ h => List.mem_append_right _ h) (by decide +kernel))) (goodIn_sub (fun _ h => List.mem_append_left _ (List.mem_append_right _ h)) (by decide +kernel))
set_option maxRecDepth 20000 in
theorem gL_law_L_kth : GoodIn wsL_law (va_wsS RL 182 yL_kth wsL_kth) := goodIn_app (goodIn_of _ (by decide +kernel)) ggL_law_L_kth
set_option maxRecDepth 20000 in
theorem ggL_law_X10_kth : GoodIn wsL_law wsX10_kth := goodIn_r _ [716, 106, 388, 389, 5, 390, 151, 152, 153, 154, 155, 156, 157, 158, 717, 718, 719, 266, 267, 268, 269, 720, 721, 722, 270, 271, 272, 1091, 1092, 1093, 1094, 1095, 1096, 1097, 1098, 1099, 1100, 1101, 1102, 1103, 1104, 1105] (by decide +kernel) (by decide +kernel)
set_option maxRecDepth 20000 in
theorem gL_law_X10_kth : GoodIn wsL_law (wsV RL 184 RX10 yX10_kth wsX10_kth) := goodIn_app (goodIn_of _ (by decide +kernel)) ggL_law_X10_kth
set_option maxRecDepth 20000 in
theorem ggL_law_L_rank : GoodIn wsL_law wsL_rank := goodIn_ca (goodIn_r _ [725, 334, 726, 727, 728, 2, 729, 413, 414, 415, 416, 343, 344, 339, 340, 341, 342, 17, 345, 206, 207, 16, 208, 50, 51, 353, 354, 355, 49, 356, 350, 222, 223, 224, 57, 730, 731, 732, 733, 711, 652, 653, 654, 655, 656, 657, 658, 659, 660, 661, 1082, 1083, 1084, 1085, 1086, 1087, 1088, 1089, 1090, 1106, 1107, 1126] (by decide +kernel) (by decide +kernel)) (goodIn_sub (fun _ h => List.mem_append_right _ h) (by decide +kernel))
set_option maxRecDepth 20000 in
theorem gL_law_L_rank : GoodIn wsL_law (va_wsS RL 185 yL_rank wsL_rank) := goodIn_app (goodIn_of _ (by decide +kernel)) ggL_law_L_rank
set_option maxRecDepth 20000 in
theorem ggL_law_X10_rank : GoodIn wsL_law wsX10_rank := goodIn_r _ [737, 106, 421, 422, 423, 5, 424, 388, 389, 390, 151, 152, 153, 425, 426, 427, 266, 267, 268, 269, 154, 155, 156, 157, 158, 720, 721, 722, 270, 271, 272, 1091, 1092, 1093, 1094, 1095, 1096, 1097, 1098, 1099, 1100, 1101, 1102, 1103, 1104, 1105] (by decide +kernel) (by decide +kernel)
set_option maxRecDepth 20000 in
theorem gL_law_X10_rank : GoodIn wsL_law (wsV RL 187 RX10 yX10_rank wsX10_rank) := goodIn_app (goodIn_of _ (by decide +kernel)) ggL_law_X10_rank
set_option maxRecDepth 20000 in
theorem ggL_law_L_windowCount : GoodIn wsL_law wsL_windowCount := goodIn_ca (goodIn_ca (goodIn_r _ [740, 334, 119, 741, 742, 743, 2, 744, 339, 340, 341, 342, 343, 344, 17, 345, 206, 207, 16, 208, 50, 51, 745, 746, 747, 127, 128, 129, 130, 131, 748, 749, 750, 751, 681, 219, 682, 752, 656, 657, 49, 658, 350, 222, 223, 224, 57, 659, 660, 661, 1082, 1083, 1084, 1085, 1086, 1087, 1088, 1089, 1090, 1106, 1107, 1126] (by decide +kernel) (by decide +kernel)) (goodIn_sub (fun _ h => List.mem_append_right _ h) (by decide +kernel))) (goodIn_sub (fun _ h => List.mem_append_left _ (List.mem_append_right _ h)) (by decide +kernel))
set_option maxRecDepth 20000 in
theorem gL_law_L_windowCount : GoodIn wsL_law (va_wsS RL 188 yL_windowCount wsL_windowCount) := goodIn_app (goodIn_of _ (by decide +kernel)) ggL_law_L_windowCount
set_option maxRecDepth 20000 in
theorem ggL_law_X10_windowCount : GoodIn wsL_law wsX10_windowCount := goodIn_r _ [756, 106, 388, 389, 5, 390, 151, 152, 153, 757, 758, 759, 269, 760, 496, 497, 498, 499, 154, 155, 156, 157, 158, 666, 667, 668, 266, 267, 268, 270, 271, 272, 1091, 1092, 1093, 1094, 1095, 1096, 1097, 1098, 1099, 1100, 1101, 1102, 1103, 1104, 1105] (by decide +kernel) (by decide +kernel)
set_option maxRecDepth 20000 in
theorem gL_law_X10_windowCount : GoodIn wsL_law (wsV RL 191 RX10 yX10_windowCount wsX10_windowCount) := goodIn_app (goodIn_of _ (by decide +kernel)) ggL_law_X10_windowCount
set_option maxRecDepth 20000 in
theorem ggL_law_L_windowKth : GoodIn wsL_law wsL_windowKth := goodIn_ca (goodIn_ca (goodIn_r _ [763, 334, 119, 764, 765, 766, 2, 767, 339, 340, 341, 342, 343, 344, 17, 345, 206, 207, 16, 208, 50, 51, 745, 746, 747, 127, 128, 129, 130, 131, 695, 696, 697, 698, 748, 749, 750, 751, 681, 219, 682, 768, 708, 709, 49, 710, 655, 656, 657, 658, 350, 222, 223, 224, 57, 659, 660, 661, 1082, 1083, 1084, 1085, 1086, 1087, 1088, 1089, 1090, 1106, 1107, 1126] (by decide +kernel) (by decide +kernel)) (goodIn_sub (fun _ h => List.mem_append_right _ h) (by decide +kernel))) (goodIn_sub (fun _ h => List.mem_append_left _ (List.mem_append_right _ h)) (by decide +kernel))
set_option maxRecDepth 20000 in
theorem gL_law_L_windowKth : GoodIn wsL_law (va_wsS RL 192 yL_windowKth wsL_windowKth) := goodIn_app (goodIn_of _ (by decide +kernel)) ggL_law_L_windowKth
set_option maxRecDepth 20000 in
theorem ggL_law_X10_windowKth : GoodIn wsL_law wsX10_windowKth := goodIn_r _ [772, 106, 388, 389, 5, 390, 151, 152, 153, 757, 758, 759, 269, 760, 154, 155, 156, 157, 158, 666, 667, 668, 266, 267, 268, 270, 271, 272, 1091, 1092, 1093, 1094, 1095, 1096, 1097, 1098, 1099, 1100, 1101, 1102, 1103, 1104, 1105] (by decide +kernel) (by decide +kernel)
set_option maxRecDepth 20000 in
theorem gL_law_X10_windowKth : GoodIn wsL_law (wsV RL 194 RX10 yX10_windowKth wsX10_windowKth) := goodIn_app (goodIn_of _ (by decide +kernel)) ggL_law_X10_windowKth
set_option maxRecDepth 20000 in
theorem ggL_law_L_kthOfBoth : GoodIn wsL_law wsL_kthOfBoth := goodIn_ca (goodIn_r _ [775, 119, 776, 777, 778, 2, 779, 17, 695, 696, 697, 698, 127, 128, 129, 130, 131, 780, 781, 782, 16, 783, 784, 785, 786, 787, 50, 51, 788, 652, 653, 49, 654, 655, 656, 657, 658, 350, 222, 223, 224, 57, 659, 660, 661, 789, 790, 791, 792, 1082, 1083, 1084, 1085, 1086, 1087, 1088, 1089, 1090, 1106, 1107, 1126] (by decide +kernel) (by decide +kernel)) (goodIn_sub (fun _ h => List.mem_append_left _ (List.mem_append_right _ h)) (by decide +kernel))
set_option maxRecDepth 20000 in
theorem gL_law_L_kthOfBoth : GoodIn wsL_law (va_wsS RL 195 yL_kthOfBoth wsL_kthOfBoth) := goodIn_app (goodIn_of _ (by decide +kernel)) ggL_law_L_kthOfBoth
set_option maxRecDepth 20000 in
theorem ggL_law_X10_kthOfBoth : GoodIn wsL_law wsX10_kthOfBoth := goodIn_r _ [796, 106, 154, 155, 156, 5, 157, 158, 797, 798, 799, 666, 667, 668, 266, 267, 268, 269, 151, 152, 153, 270, 271, 272, 1091, 1092, 1093, 1094, 1095, 1096, 1097, 1098, 1099, 1100, 1101, 1102, 1103, 1104, 1105] (by decide +kernel) (by decide +kernel)
set_option maxRecDepth 20000 in
theorem gL_law_X10_kthOfBoth : GoodIn wsL_law (wsV RL 198 RX10 yX10_kthOfBoth wsX10_kthOfBoth) := goodIn_app (goodIn_of _ (by decide +kernel)) ggL_law_X10_kthOfBoth
set_option maxRecDepth 20000 in
theorem ggL_law_L_pairs : GoodIn wsL_law wsL_pairs := goodIn_ca (goodIn_r _ [802, 119, 803, 804, 805, 2, 806, 17, 127, 128, 129, 130, 131, 807, 808, 809, 16, 810, 50, 51, 811, 354, 355, 49, 356, 350, 222, 223, 224, 57, 571, 788, 652, 653, 654, 655, 656, 657, 658, 659, 660, 661, 1082, 1083, 1084, 1085, 1086, 1087, 1088, 1089, 1090, 1106, 1107, 1126] (by decide +kernel) (by decide +kernel)) (goodIn_sub (fun _ h => List.mem_append_left _ (List.mem_append_right _ h)) (by decide +kernel))
set_option maxRecDepth 20000 in
theorem gL_law_L_pairs : GoodIn wsL_law (va_wsS RL 199 yL_pairs wsL_pairs) := goodIn_app (goodIn_of _ (by decide +kernel)) ggL_law_L_pairs
set_option maxRecDepth 20000 in
theorem ggL_law_X10_pairs : GoodIn wsL_law wsX10_pairs := goodIn_r _ [815, 816, 106, 151, 152, 5, 153, 154, 155, 156, 157, 158, 817, 818, 819, 266, 267, 268, 269, 270, 271, 272, 797, 798, 799, 666, 667, 668, 1091, 1092, 1093, 1094, 1095, 1096, 1097, 1098, 1099, 1100, 1101, 1102, 1103, 1104, 1105] (by decide +kernel) (by decide +kernel)
set_option maxRecDepth 20000 in
theorem gL_law_X10_pairs : GoodIn wsL_law (wsV RL 201 RX10 yX10_pairs wsX10_pairs) := goodIn_app (goodIn_of _ (by decide +kernel)) ggL_law_X10_pairs
set_option maxRecDepth 20000 in
theorem ggL_law_L_kthSum : GoodIn wsL_law wsL_kthSum := goodIn_ca (goodIn_r _ [822, 119, 823, 824, 825, 2, 826, 17, 695, 696, 697, 698, 127, 128, 129, 130, 131, 827, 828, 829, 16, 830, 831, 808, 809, 810, 50, 51, 811, 354, 355, 49, 356, 350, 222, 223, 224, 57, 571, 788, 652, 653, 654, 655, 656, 657, 658, 659, 660, 661, 1082, 1083, 1084, 1085, 1086, 1087, 1088, 1089, 1090, 1106, 1107, 1126] (by decide +kernel) (by decide +kernel)) (goodIn_sub (fun _ h => List.mem_append_left _ (List.mem_append_right _ h)) (by decide +kernel))
set_option maxRecDepth 20000 in
theorem gL_law_L_kthSum : GoodIn wsL_law (va_wsS RL 202 yL_kthSum wsL_kthSum) := goodIn_app (goodIn_of _ (by decide +kernel)) ggL_law_L_kthSum
set_option maxRecDepth 20000 in
theorem ggL_law_X10_kthSum : GoodIn wsL_law wsX10_kthSum := goodIn_r _ [835, 106, 154, 155, 156, 5, 157, 158, 817, 818, 819, 266, 267, 268, 269, 151, 152, 153, 270, 271, 272, 797, 798, 799, 666, 667, 668, 1091, 1092, 1093, 1094, 1095, 1096, 1097, 1098, 1099, 1100, 1101, 1102, 1103, 1104, 1105] (by decide +kernel) (by decide +kernel)
set_option maxRecDepth 20000 in
theorem gL_law_X10_kthSum : GoodIn wsL_law (wsV RL 204 RX10 yX10_kthSum wsX10_kthSum) := goodIn_app (goodIn_of _ (by decide +kernel)) ggL_law_X10_kthSum
set_option maxRecDepth 20000 in
theorem ggL_law_L_corner : GoodIn wsL_law wsL_corner := goodIn_ca (goodIn_ca (goodIn_r _ [838, 334, 119, 839, 840, 841, 2, 842, 339, 340, 341, 342, 343, 344, 17, 345, 206, 207, 16, 208, 50, 51, 695, 696, 697, 698, 127, 128, 129, 130, 131, 843, 844, 845, 49, 846, 371, 372, 373, 374, 375, 376, 377, 378, 316, 210, 211, 212, 57, 379, 380, 381, 382, 481, 482, 1082, 1083, 1084, 1085, 1086, 1087, 1088, 1089, 1090, 1106, 1107, 1126] (by decide +kernel) (by decide +kernel)) (goodIn_sub (fun _ h => List.mem_append_right _ h) (by decide +kernel))) (goodIn_sub (fun _ h => List.mem_append_left _ (List.mem_append_right _ h)) (by decide +kernel))
set_option maxRecDepth 20000 in
theorem gL_law_L_corner : GoodIn wsL_law (va_wsS RL 205 yL_corner wsL_corner) := goodIn_app (goodIn_of _ (by decide +kernel)) ggL_law_L_corner
set_option maxRecDepth 20000 in
theorem ggL_law_X10_corner : GoodIn wsL_law wsX10_corner := goodIn_r _ [850, 106, 388, 389, 5, 390, 151, 152, 153, 154, 155, 156, 157, 158, 394, 395, 396, 266, 267, 268, 269, 391, 392, 393, 1091, 1092, 1093, 1094, 1095, 1096, 1097, 1098, 1099, 1100, 1101, 1102, 1103, 1104, 1105] (by decide +kernel) (by decide +kernel)
set_option maxRecDepth 20000 in
theorem gL_law_X10_corner : GoodIn wsL_law (wsV RL 207 RX10 yX10_corner wsX10_corner) := goodIn_app (goodIn_of _ (by decide +kernel)) ggL_law_X10_corner
set_option maxRecDepth 20000 in
theorem ggL_law_L_hook : GoodIn wsL_law wsL_hook := goodIn_ca (goodIn_r _ [853, 334, 854, 855, 856, 2, 857, 413, 414, 415, 416, 343, 344, 339, 340, 341, 342, 17, 345, 206, 207, 16, 208, 50, 51, 353, 354, 355, 49, 356, 350, 222, 223, 224, 57, 858, 859, 860, 861, 316, 210, 211, 212, 862, 347, 348, 349, 1082, 1083, 1084, 1085, 1086, 1087, 1088, 1089, 1090, 1106, 1107, 1126] (by decide +kernel) (by decide +kernel)) (goodIn_sub (fun _ h => List.mem_append_right _ h) (by decide +kernel))
set_option maxRecDepth 20000 in
theorem gL_law_L_hook : GoodIn wsL_law (va_wsS RL 208 yL_hook wsL_hook) := goodIn_app (goodIn_of _ (by decide +kernel)) ggL_law_L_hook
set_option maxRecDepth 20000 in
theorem ggL_law_X10_hook : GoodIn wsL_law wsX10_hook := goodIn_r _ [866, 106, 421, 422, 423, 5, 424, 388, 389, 390, 151, 152, 153, 425, 426, 427, 266, 267, 268, 269, 154, 155, 156, 157, 158, 867, 868, 869, 439, 440, 441, 1091, 1092, 1093, 1094, 1095, 1096, 1097, 1098, 1099, 1100, 1101, 1102, 1103, 1104, 1105] (by decide +kernel) (by decide +kernel)
