set_option maxRecDepth 20000 in
theorem gL_law_L_insert : GoodIn wsL_law (va_wsS RL 153 yL_insert wsL_insert) := goodIn_app (goodIn_of _ (by decide +kernel)) ggL_law_L_insert
set_option maxRecDepth 20000 in
theorem ggL_law_X10_insert : GoodIn wsL_law wsX10_insert := goodIn_r _ [495, 106, 388, 389, 5, 390, 151, 152, 153, 496, 497, 498, 499, 500, 501, 502, 394, 395, 396, 266, 267, 268, 269, 154, 155, 156, 157, 158, 503, 504, 505, 506, 321, 108, 322, 323, 324, 507, 508, 509, 510, 511, 278, 279, 280, 512, 513, 514, 515, 270, 271, 272, 1091, 1092, 1093, 1094, 1095, 1096, 1097, 1098, 1099, 1100, 1101, 1102, 1103, 1104, 1105] (by decide +kernel) (by decide +kernel)
set_option maxRecDepth 20000 in
theorem gL_law_X10_insert : GoodIn wsL_law (wsV RL 155 RX10 yX10_insert wsX10_insert) := goodIn_app (goodIn_of _ (by decide +kernel)) ggL_law_X10_insert
set_option maxRecDepth 20000 in
theorem ggL_law_L_remove : GoodIn wsL_law wsL_remove := goodIn_ca (goodIn_r _ [518, 334, 519, 520, 521, 2, 522, 22, 17, 413, 414, 415, 416, 343, 344, 339, 340, 341, 342, 345, 206, 207, 16, 208, 50, 51, 353, 354, 355, 49, 356, 350, 222, 223, 224, 57, 357, 457, 458, 459, 21, 460, 67, 66, 65, 461, 462, 463, 464, 465, 466, 467, 468, 469, 470, 471, 472, 296, 297, 298, 299, 523, 524, 525, 526, 487, 230, 231, 232, 527, 528, 529, 530, 531, 532, 533, 481, 482, 483, 484, 485, 486, 1082, 1083, 1084, 1085, 1086, 1087, 1088, 1089, 1090, 1106, 1107, 1126, 1108, 1109, 1110] (by decide +kernel) (by decide +kernel)) (goodIn_sub (fun _ h => List.mem_append_right _ h) (by decide +kernel))
set_option maxRecDepth 20000 in
theorem gL_law_L_remove : GoodIn wsL_law (va_wsS RL 156 yL_remove wsL_remove) := goodIn_app (goodIn_of _ (by decide +kernel)) ggL_law_L_remove
set_option maxRecDepth 20000 in
theorem ggL_law_X10_remove : GoodIn wsL_law wsX10_remove := goodIn_r _ [537, 106, 421, 422, 423, 5, 424, 388, 389, 390, 151, 152, 153, 425, 426, 427, 266, 267, 268, 269, 154, 155, 156, 157, 158, 503, 504, 505, 506, 321, 108, 322, 323, 324, 270, 271, 272, 538, 539, 540, 278, 279, 280, 1091, 1092, 1093, 1094, 1095, 1096, 1097, 1098, 1099, 1100, 1101, 1102, 1103, 1104, 1105] (by decide +kernel) (by decide +kernel)
set_option maxRecDepth 20000 in
theorem gL_law_X10_remove : GoodIn wsL_law (wsV RL 158 RX10 yX10_remove wsX10_remove) := goodIn_app (goodIn_of _ (by decide +kernel)) ggL_law_X10_remove
set_option maxRecDepth 20000 in
theorem ggL_law_L_change : GoodIn wsL_law wsL_change := goodIn_ca (goodIn_ca (goodIn_r _ [543, 334, 119, 544, 545, 546, 2, 547, 22, 17, 413, 414, 415, 416, 343, 344, 339, 340, 341, 342, 345, 206, 207, 16, 208, 50, 51, 353, 354, 355, 49, 356, 350, 222, 223, 224, 57, 127, 128, 129, 130, 131, 457, 458, 459, 21, 460, 67, 66, 65, 461, 462, 463, 464, 465, 466, 467, 468, 469, 470, 471, 472, 296, 297, 298, 299, 548, 549, 550, 551, 487, 230, 231, 232, 488, 489, 490, 491, 481, 482, 483, 484, 485, 486, 527, 528, 529, 530, 531, 532, 533, 1082, 1083, 1084, 1085, 1086, 1087, 1088, 1089, 1090, 1106, 1107, 1126, 1108, 1109, 1110] (by decide +kernel) (by decide +kernel)) (goodIn_sub (fun _ h => List.mem_append_right _ h) (by decide +kernel))) (goodIn_sub (fun _ h => List.mem_append_left _ (List.mem_append_right _ h)) (by decide +kernel))
set_option maxRecDepth 20000 in
theorem gL_law_L_change : GoodIn wsL_law (va_wsS RL 159 yL_change wsL_change) := goodIn_app (goodIn_of _ (by decide +kernel)) ggL_law_L_change
set_option maxRecDepth 20000 in
theorem ggL_law_X10_change : GoodIn wsL_law wsX10_change := goodIn_r _ [555, 106, 421, 422, 423, 5, 424, 388, 389, 390, 151, 152, 153, 425, 426, 427, 266, 267, 268, 269, 496, 497, 498, 499, 154, 155, 156, 157, 158, 503, 504, 505, 506, 321, 108, 322, 323, 324, 278, 279, 280, 512, 513, 514, 515, 511, 270, 271, 272, 556, 557, 558, 1091, 1092, 1093, 1094, 1095, 1096, 1097, 1098, 1099, 1100, 1101, 1102, 1103, 1104, 1105] (by decide +kernel) (by decide +kernel)
set_option maxRecDepth 20000 in
theorem gL_law_X10_change : GoodIn wsL_law (wsV RL 162 RX10 yX10_change wsX10_change) := goodIn_app (goodIn_of _ (by decide +kernel)) ggL_law_X10_change
set_option maxRecDepth 20000 in
theorem ggL_law_L_transfer : GoodIn wsL_law wsL_transfer := goodIn_ca (goodIn_ca (goodIn_r _ [561, 334, 120, 562, 563, 564, 2, 565, 17, 22, 413, 414, 415, 416, 343, 344, 339, 340, 341, 342, 345, 206, 207, 16, 208, 50, 51, 353, 354, 355, 49, 356, 350, 222, 223, 224, 57, 449, 450, 451, 125, 126, 452, 453, 454, 455, 456, 457, 458, 459, 21, 460, 67, 66, 65, 461, 462, 463, 464, 465, 466, 467, 468, 469, 470, 471, 472, 296, 297, 298, 299, 566, 567, 568, 569, 570, 571, 572, 524, 525, 526, 487, 230, 231, 232, 527, 528, 529, 530, 531, 532, 533, 481, 482, 483, 484, 485, 486, 573, 474, 475, 476, 477, 478, 479, 480, 316, 210, 211, 212, 488, 489, 490, 491, 1082, 1083, 1084, 1085, 1086, 1087, 1088, 1089, 1090, 1106, 1107, 1126, 1108, 1109, 1110] (by decide +kernel) (by decide +kernel)) (goodIn_sub (fun _ h => List.mem_append_right _ h) (by decide +kernel))) (goodIn_sub (fun _ h => List.mem_append_left _ (List.mem_append_left _ (List.mem_append_right _ h))) (by decide +kernel))
set_option maxRecDepth 20000 in
theorem gL_law_L_transfer : GoodIn wsL_law (va_wsS RL 163 yL_transfer wsL_transfer) := goodIn_app (goodIn_of _ (by decide +kernel)) ggL_law_L_transfer
set_option maxRecDepth 20000 in
theorem ggL_law_X10_transfer : GoodIn wsL_law wsX10_transfer := goodIn_r _ [577, 106, 421, 422, 423, 5, 424, 388, 389, 390, 151, 152, 153, 425, 426, 427, 266, 267, 268, 269, 500, 501, 502, 394, 395, 396, 154, 155, 156, 157, 158, 503, 504, 505, 506, 321, 108, 322, 323, 324, 270, 271, 272, 538, 539, 540, 278, 279, 280, 507, 508, 509, 510, 511, 512, 513, 514, 515, 1091, 1092, 1093, 1094, 1095, 1096, 1097, 1098, 1099, 1100, 1101, 1102, 1103, 1104, 1105] (by decide +kernel) (by decide +kernel)
set_option maxRecDepth 20000 in
theorem gL_law_X10_transfer : GoodIn wsL_law (wsV RL 165 RX10 yX10_transfer wsX10_transfer) := goodIn_app (goodIn_of _ (by decide +kernel)) ggL_law_X10_transfer
set_option maxRecDepth 20000 in
theorem ggL_law_L_transpose : GoodIn wsL_law wsL_transpose := goodIn_ca (goodIn_r _ [580, 334, 581, 582, 583, 2, 584, 22, 17, 339, 340, 341, 342, 343, 344, 345, 206, 207, 16, 208, 50, 51, 457, 458, 459, 21, 460, 67, 66, 65, 461, 462, 463, 464, 465, 466, 467, 468, 469, 470, 471, 49, 472, 57, 296, 297, 298, 299, 585, 586, 587, 588, 350, 222, 223, 224, 487, 230, 231, 232, 346, 347, 348, 349, 1082, 1083, 1084, 1085, 1086, 1087, 1088, 1089, 1090, 1106, 1107, 1108, 1109, 1110, 1126] (by decide +kernel) (by decide +kernel)) (goodIn_sub (fun _ h => List.mem_append_right _ h) (by decide +kernel))
set_option maxRecDepth 20000 in
theorem gL_law_L_transpose : GoodIn wsL_law (va_wsS RL 166 yL_transpose wsL_transpose) := goodIn_app (goodIn_of _ (by decide +kernel)) ggL_law_L_transpose
set_option maxRecDepth 20000 in
theorem ggL_law_X10_transpose : GoodIn wsL_law wsX10_transpose := goodIn_r _ [592, 106, 388, 389, 5, 390, 151, 152, 153, 154, 155, 156, 157, 158, 503, 504, 505, 506, 321, 108, 322, 323, 324, 593, 594, 595, 596, 114, 439, 440, 441, 266, 267, 268, 269, 270, 271, 272, 397, 398, 399, 1091, 1092, 1093, 1094, 1095, 1096, 1097, 1098, 1099, 1100, 1101, 1102, 1103, 1104, 1105] (by decide +kernel) (by decide +kernel)
set_option maxRecDepth 20000 in
theorem gL_law_X10_transpose : GoodIn wsL_law (wsV RL 168 RX10 yX10_transpose wsX10_transpose) := goodIn_app (goodIn_of _ (by decide +kernel)) ggL_law_X10_transpose
set_option maxRecDepth 20000 in
theorem ggL_law_X9_exchange : GoodIn wsL_law wsX9_exchange := goodIn_r _ [600, 22, 17, 457, 458, 459, 21, 460, 67, 66, 65, 461, 462, 463, 464, 465, 466, 467, 16, 468, 50, 51, 469, 470, 471, 49, 472, 57, 296, 297, 298, 299, 601, 602, 603, 604, 605, 606, 607, 608, 345, 206, 207, 208, 352, 313, 314, 315, 316, 210, 211, 212, 1082, 1083, 1084, 1085, 1086, 1087, 1088, 1089, 1090, 1108, 1109, 1110, 1106, 1107, 1126] (by decide +kernel) (by decide +kernel)
set_option maxRecDepth 20000 in
theorem gL_law_X9_exchange : GoodIn wsL_law (wsV RL 169 RX9 yX9_exchange wsX9_exchange) := goodIn_app (goodIn_of _ (by decide +kernel)) ggL_law_X9_exchange
set_option maxRecDepth 20000 in
theorem ggL_law_X10_exchange : GoodIn wsL_law wsX10_exchange := goodIn_r _ [612, 158, 106, 114, 503, 504, 505, 5, 506, 321, 108, 322, 323, 324, 328, 329, 330, 266, 267, 268, 269, 151, 152, 153, 1091, 1092, 1093, 1094, 1095, 1096, 1097, 1098, 1099, 1100, 1101, 1102, 1103, 1104, 1105] (by decide +kernel) (by decide +kernel)
set_option maxRecDepth 20000 in
theorem gL_law_X10_exchange : GoodIn wsL_law (wsV RL 172 RX10 yX10_exchange wsX10_exchange) := goodIn_app (goodIn_of _ (by decide +kernel)) ggL_law_X10_exchange
set_option maxRecDepth 20000 in
theorem ggL_law_L_undo : GoodIn wsL_law wsL_undo := goodIn_ca (goodIn_r _ [615, 120, 616, 617, 618, 2, 619, 125, 126, 22, 17, 620, 621, 622, 21, 623, 67, 624, 625, 626, 627, 65, 461, 462, 463, 464, 66, 628, 629, 630, 16, 631, 50, 51, 632, 633, 634, 49, 635, 57, 296, 297, 298, 299, 636, 637, 638, 639, 1082, 1083, 1084, 1085, 1086, 1087, 1088, 1089, 1090, 1108, 1109, 1110, 1106, 1107, 1126] (by decide +kernel) (by decide +kernel)) (goodIn_sub (fun _ h => List.mem_append_left _ (List.mem_append_left _ (List.mem_append_right _ h))) (by decide +kernel))
set_option maxRecDepth 20000 in
theorem gL_law_L_undo : GoodIn wsL_law (va_wsS RL 173 yL_undo wsL_undo) := goodIn_app (goodIn_of _ (by decide +kernel)) ggL_law_L_undo
set_option maxRecDepth 20000 in
theorem ggL_law_X10_undo : GoodIn wsL_law wsX10_undo := goodIn_r _ [643, 321, 108, 106, 154, 155, 156, 5, 157, 158, 322, 323, 324, 1091, 1092, 1093, 1094, 1095, 1096, 1097, 1098, 1099, 1100, 1101, 1102, 1103, 1104, 1105] (by decide +kernel) (by decide +kernel)
set_option maxRecDepth 20000 in
theorem gL_law_X10_undo : GoodIn wsL_law (wsV RL 175 RX10 yX10_undo wsX10_undo) := goodIn_app (goodIn_of _ (by decide +kernel)) ggL_law_X10_undo
set_option maxRecDepth 20000 in
theorem ggL_law_L_count : GoodIn wsL_law wsL_count := goodIn_ca (goodIn_ca (goodIn_r _ [646, 334, 119, 647, 648, 649, 2, 650, 339, 340, 341, 342, 343, 344, 17, 345, 206, 207, 16, 208, 50, 51, 127, 128, 129, 130, 131, 651, 652, 653, 49, 654, 655, 656, 657, 658, 350, 222, 223, 224, 57, 659, 660, 661, 1082, 1083, 1084, 1085, 1086, 1087, 1088, 1089, 1090, 1106, 1107, 1126] (by decide +kernel) (by decide +kernel)) (goodIn_sub (fun _ h => List.mem_append_right _ h) (by decide +kernel))) (goodIn_sub (fun _ h => List.mem_append_left _ (List.mem_append_right _ h)) (by decide +kernel))
set_option maxRecDepth 20000 in
theorem gL_law_L_count : GoodIn wsL_law (va_wsS RL 176 yL_count wsL_count) := goodIn_app (goodIn_of _ (by decide +kernel)) ggL_law_L_count
set_option maxRecDepth 20000 in
theorem ggL_law_X10_count : GoodIn wsL_law wsX10_count := goodIn_r _ [665, 106, 388, 389, 5, 390, 151, 152, 153, 496, 497, 498, 499, 154, 155, 156, 157, 158, 666, 667, 668, 266, 267, 268, 269, 270, 271, 272, 1091, 1092, 1093, 1094, 1095, 1096, 1097, 1098, 1099, 1100, 1101, 1102, 1103, 1104, 1105] (by decide +kernel) (by decide +kernel)
set_option maxRecDepth 20000 in
theorem gL_law_X10_count : GoodIn wsL_law (wsV RL 178 RX10 yX10_count wsX10_count) := goodIn_app (goodIn_of _ (by decide +kernel)) ggL_law_X10_count
set_option maxRecDepth 20000 in
theorem ggL_law_L_walk : GoodIn wsL_law wsL_walk := goodIn_ca (goodIn_ca (goodIn_r _ [671, 334, 119, 672, 673, 674, 2, 675, 339, 340, 341, 342, 343, 344, 17, 345, 206, 207, 16, 208, 50, 51, 127, 128, 129, 130, 131, 676, 677, 678, 49, 679, 680, 681, 219, 682, 316, 210, 211, 212, 57, 456, 354, 355, 356, 350, 222, 223, 224, 481, 482, 1082, 1083, 1084, 1085, 1086, 1087, 1088, 1089, 1090, 1106, 1107, 1126] (by decide +kernel) (by decide +kernel)) (goodIn_sub (fun _ h => List.mem_append_right _ h) (by decide +kernel))) (goodIn_sub (fun _ h => List.mem_append_left _ (List.mem_append_right _ h)) (by decide +kernel))
set_option maxRecDepth 20000 in
theorem gL_law_L_walk : GoodIn wsL_law (va_wsS RL 179 yL_walk wsL_walk) := goodIn_app (goodIn_of _ (by decide +kernel)) ggL_law_L_walk
set_option maxRecDepth 20000 in
theorem ggL_law_X10_walk : GoodIn wsL_law wsX10_walk := goodIn_r _ [686, 687, 106, 388, 389, 5, 390, 151, 152, 153, 496, 497, 498, 499, 154, 155, 156, 157, 158, 266, 267, 268, 269, 270, 271, 272, 1091, 1092, 1093, 1094, 1095, 1096, 1097, 1098, 1099, 1100, 1101, 1102, 1103, 1104, 1105] (by decide +kernel) (by decide +kernel)
set_option maxRecDepth 20000 in
theorem gL_law_X10_walk : GoodIn wsL_law (wsV RL 181 RX10 yX10_walk wsX10_walk) := goodIn_app (goodIn_of _ (by decide +kernel)) ggL_law_X10_walk
