set_option maxRecDepth 20000 in
theorem gL_law_L_insert : GoodIn wsL_law (va_wsS RL 153 yL_insert wsL_insert) := goodIn_app (goodIn_of _ (by decide +kernel)) ggL_law_L_insert
set_option maxRecDepth 20000 in
theorem ggL_law_X10_insert : GoodIn wsL_law wsX10_insert := goodIn_r _ [498, 105, 391, 392, 5, 393, 150, 151, 152, 499, 500, 501, 502, 503, 504, 505, 397, 398, 399, 265, 266, 267, 268, 153, 154, 155, 156, 157, 506, 507, 508, 509, 324, 107, 325, 326, 327, 510, 511, 512, 513, 514, 277, 278, 279, 515, 516, 517, 518, 269, 270, 271, 1093, 1094, 1095, 1096, 1097, 1098, 1099, 1100, 1101, 1102, 1103, 1104, 1105, 1106, 1107] (by decide +kernel) (by decide +kernel)
set_option maxRecDepth 20000 in
theorem gL_law_X10_insert : GoodIn wsL_law (wsV RL 155 RX10 yX10_insert wsX10_insert) := goodIn_app (goodIn_of _ (by decide +kernel)) ggL_law_X10_insert
set_option maxRecDepth 20000 in
theorem ggL_law_L_remove : GoodIn wsL_law wsL_remove := goodIn_ca (goodIn_r _ [521, 337, 522, 523, 524, 2, 525, 22, 17, 416, 417, 418, 419, 346, 347, 342, 343, 344, 345, 348, 205, 206, 16, 207, 50, 51, 356, 357, 358, 49, 359, 353, 221, 222, 223, 57, 360, 460, 461, 462, 21, 463, 67, 66, 65, 464, 465, 466, 467, 468, 469, 470, 471, 472, 473, 474, 475, 299, 300, 301, 302, 526, 527, 528, 529, 490, 229, 230, 231, 530, 531, 532, 533, 534, 535, 536, 484, 485, 486, 487, 488, 489, 1084, 1085, 1086, 1087, 1088, 1089, 1090, 1091, 1092, 1108, 1109, 1127, 1110, 1111, 1112] (by decide +kernel) (by decide +kernel)) (goodIn_sub (fun _ h => List.mem_append_right _ h) (by decide +kernel))
set_option maxRecDepth 20000 in
theorem gL_law_L_remove : GoodIn wsL_law (va_wsS RL 156 yL_remove wsL_remove) := goodIn_app (goodIn_of _ (by decide +kernel)) ggL_law_L_remove
set_option maxRecDepth 20000 in
theorem ggL_law_X10_remove : GoodIn wsL_law wsX10_remove := goodIn_r _ [540, 105, 424, 425, 426, 5, 427, 391, 392, 393, 150, 151, 152, 428, 429, 430, 265, 266, 267, 268, 153, 154, 155, 156, 157, 506, 507, 508, 509, 324, 107, 325, 326, 327, 269, 270, 271, 541, 542, 543, 277, 278, 279, 1093, 1094, 1095, 1096, 1097, 1098, 1099, 1100, 1101, 1102, 1103, 1104, 1105, 1106, 1107] (by decide +kernel) (by decide +kernel)
set_option maxRecDepth 20000 in
theorem gL_law_X10_remove : GoodIn wsL_law (wsV RL 158 RX10 yX10_remove wsX10_remove) := goodIn_app (goodIn_of _ (by decide +kernel)) ggL_law_X10_remove
set_option maxRecDepth 20000 in
theorem ggL_law_L_change : GoodIn wsL_law wsL_change := goodIn_ca (goodIn_ca (goodIn_r _ [546, 337, 118, 547, 548, 549, 2, 550, 22, 17, 416, 417, 418, 419, 346, 347, 342, 343, 344, 345, 348, 205, 206, 16, 207, 50, 51, 356, 357, 358, 49, 359, 353, 221, 222, 223, 57, 126, 127, 128, 129, 130, 460, 461, 462, 21, 463, 67, 66, 65, 464, 465, 466, 467, 468, 469, 470, 471, 472, 473, 474, 475, 299, 300, 301, 302, 551, 552, 553, 554, 490, 229, 230, 231, 491, 492, 493, 494, 484, 485, 486, 487, 488, 489, 530, 531, 532, 533, 534, 535, 536, 1084, 1085, 1086, 1087, 1088, 1089, 1090, 1091, 1092, 1108, 1109, 1127, 1110, 1111, 1112] (by decide +kernel) (by decide +kernel)) (goodIn_sub (fun _ h => List.mem_append_right _ h) (by decide +kernel))) (goodIn_sub (fun _ h => List.mem_append_left _ (List.mem_append_right _ h)) (by decide +kernel))
set_option maxRecDepth 20000 in
theorem gL_law_L_change : GoodIn wsL_law (va_wsS RL 159 yL_change wsL_change) := goodIn_app (goodIn_of _ (by decide +kernel)) ggL_law_L_change
set_option maxRecDepth 20000 in
theorem ggL_law_X10_change : GoodIn wsL_law wsX10_change := goodIn_r _ [558, 105, 424, 425, 426, 5, 427, 391, 392, 393, 150, 151, 152, 428, 429, 430, 265, 266, 267, 268, 499, 500, 501, 502, 153, 154, 155, 156, 157, 506, 507, 508, 509, 324, 107, 325, 326, 327, 277, 278, 279, 515, 516, 517, 518, 514, 269, 270, 271, 559, 560, 561, 1093, 1094, 1095, 1096, 1097, 1098, 1099, 1100, 1101, 1102, 1103, 1104, 1105, 1106, 1107] (by decide +kernel) (by decide +kernel)
set_option maxRecDepth 20000 in
theorem gL_law_X10_change : GoodIn wsL_law (wsV RL 162 RX10 yX10_change wsX10_change) := goodIn_app (goodIn_of _ (by decide +kernel)) ggL_law_X10_change
set_option maxRecDepth 20000 in
theorem ggL_law_L_transfer : GoodIn wsL_law wsL_transfer := goodIn_ca (goodIn_ca (goodIn_r _ [564, 337, 119, 565, 566, 567, 2, 568, 17, 22, 416, 417, 418, 419, 346, 347, 342, 343, 344, 345, 348, 205, 206, 16, 207, 50, 51, 356, 357, 358, 49, 359, 353, 221, 222, 223, 57, 452, 453, 454, 124, 125, 455, 456, 457, 458, 459, 460, 461, 462, 21, 463, 67, 66, 65, 464, 465, 466, 467, 468, 469, 470, 471, 472, 473, 474, 475, 299, 300, 301, 302, 569, 570, 571, 572, 573, 574, 575, 527, 528, 529, 490, 229, 230, 231, 530, 531, 532, 533, 534, 535, 536, 484, 485, 486, 487, 488, 489, 576, 477, 478, 479, 480, 481, 482, 483, 319, 209, 210, 211, 491, 492, 493, 494, 1084, 1085, 1086, 1087, 1088, 1089, 1090, 1091, 1092, 1108, 1109, 1127, 1110, 1111, 1112] (by decide +kernel) (by decide +kernel)) (goodIn_sub (fun _ h => List.mem_append_right _ h) (by decide +kernel))) (goodIn_sub (fun _ h => List.mem_append_left _ (List.mem_append_left _ (List.mem_append_right _ h))) (by decide +kernel))
set_option maxRecDepth 20000 in
theorem gL_law_L_transfer : GoodIn wsL_law (va_wsS RL 163 yL_transfer wsL_transfer) := goodIn_app (goodIn_of _ (by decide +kernel)) ggL_law_L_transfer
set_option maxRecDepth 20000 in
theorem ggL_law_X10_transfer : GoodIn wsL_law wsX10_transfer := goodIn_r _ [580, 105, 424, 425, 426, 5, 427, 391, 392, 393, 150, 151, 152, 428, 429, 430, 265, 266, 267, 268, 503, 504, 505, 397, 398, 399, 153, 154, 155, 156, 157, 506, 507, 508, 509, 324, 107, 325, 326, 327, 269, 270, 271, 541, 542, 543, 277, 278, 279, 510, 511, 512, 513, 514, 515, 516, 517, 518, 1093, 1094, 1095, 1096, 1097, 1098, 1099, 1100, 1101, 1102, 1103, 1104, 1105, 1106, 1107] (by decide +kernel) (by decide +kernel)
set_option maxRecDepth 20000 in
theorem gL_law_X10_transfer : GoodIn wsL_law (wsV RL 165 RX10 yX10_transfer wsX10_transfer) := goodIn_app (goodIn_of _ (by decide +kernel)) ggL_law_X10_transfer
set_option maxRecDepth 20000 in
theorem ggL_law_L_transpose : GoodIn wsL_law wsL_transpose := goodIn_ca (goodIn_r _ [583, 337, 584, 585, 586, 2, 587, 22, 17, 342, 343, 344, 345, 346, 347, 348, 205, 206, 16, 207, 50, 51, 460, 461, 462, 21, 463, 67, 66, 65, 464, 465, 466, 467, 468, 469, 470, 471, 472, 473, 474, 49, 475, 57, 299, 300, 301, 302, 588, 589, 590, 591, 353, 221, 222, 223, 490, 229, 230, 231, 349, 350, 351, 352, 1084, 1085, 1086, 1087, 1088, 1089, 1090, 1091, 1092, 1108, 1109, 1110, 1111, 1112, 1127] (by decide +kernel) (by decide +kernel)) (goodIn_sub (fun _ h => List.mem_append_right _ h) (by decide +kernel))
set_option maxRecDepth 20000 in
theorem gL_law_L_transpose : GoodIn wsL_law (va_wsS RL 166 yL_transpose wsL_transpose) := goodIn_app (goodIn_of _ (by decide +kernel)) ggL_law_L_transpose
set_option maxRecDepth 20000 in
theorem ggL_law_X10_transpose : GoodIn wsL_law wsX10_transpose := goodIn_r _ [595, 105, 391, 392, 5, 393, 150, 151, 152, 153, 154, 155, 156, 157, 506, 507, 508, 509, 324, 107, 325, 326, 327, 596, 597, 598, 599, 113, 442, 443, 444, 265, 266, 267, 268, 269, 270, 271, 400, 401, 402, 1093, 1094, 1095, 1096, 1097, 1098, 1099, 1100, 1101, 1102, 1103, 1104, 1105, 1106, 1107] (by decide +kernel) (by decide +kernel)
set_option maxRecDepth 20000 in
theorem gL_law_X10_transpose : GoodIn wsL_law (wsV RL 168 RX10 yX10_transpose wsX10_transpose) := goodIn_app (goodIn_of _ (by decide +kernel)) ggL_law_X10_transpose
set_option maxRecDepth 20000 in
theorem ggL_law_X9_exchange : GoodIn wsL_law wsX9_exchange := goodIn_r _ [603, 22, 17, 460, 461, 462, 21, 463, 67, 66, 65, 464, 465, 466, 467, 468, 469, 470, 16, 471, 50, 51, 472, 473, 474, 49, 475, 57, 299, 300, 301, 302, 604, 605, 606, 607, 608, 609, 610, 611, 348, 205, 206, 207, 355, 316, 317, 318, 319, 209, 210, 211, 1084, 1085, 1086, 1087, 1088, 1089, 1090, 1091, 1092, 1110, 1111, 1112, 1108, 1109, 1127] (by decide +kernel) (by decide +kernel)
set_option maxRecDepth 20000 in
theorem gL_law_X9_exchange : GoodIn wsL_law (wsV RL 169 RX9 yX9_exchange wsX9_exchange) := goodIn_app (goodIn_of _ (by decide +kernel)) ggL_law_X9_exchange
set_option maxRecDepth 20000 in
theorem ggL_law_X10_exchange : GoodIn wsL_law wsX10_exchange := goodIn_r _ [615, 157, 105, 113, 506, 507, 508, 5, 509, 324, 107, 325, 326, 327, 331, 332, 333, 265, 266, 267, 268, 150, 151, 152, 1093, 1094, 1095, 1096, 1097, 1098, 1099, 1100, 1101, 1102, 1103, 1104, 1105, 1106, 1107] (by decide +kernel) (by decide +kernel)
set_option maxRecDepth 20000 in
theorem gL_law_X10_exchange : GoodIn wsL_law (wsV RL 172 RX10 yX10_exchange wsX10_exchange) := goodIn_app (goodIn_of _ (by decide +kernel)) ggL_law_X10_exchange
set_option maxRecDepth 20000 in
theorem ggL_law_L_undo : GoodIn wsL_law wsL_undo := goodIn_ca (goodIn_r _ [618, 119, 619, 620, 621, 2, 622, 124, 125, 22, 17, 623, 624, 625, 21, 626, 67, 627, 628, 629, 630, 65, 464, 465, 466, 467, 66, 631, 632, 633, 16, 634, 50, 51, 635, 636, 637, 49, 638, 57, 299, 300, 301, 302, 639, 640, 641, 642, 1084, 1085, 1086, 1087, 1088, 1089, 1090, 1091, 1092, 1110, 1111, 1112, 1108, 1109, 1127] (by decide +kernel) (by decide +kernel)) (goodIn_sub (fun _ h => List.mem_append_left _ (List.mem_append_left _ (List.mem_append_right _ h))) (by decide +kernel))
set_option maxRecDepth 20000 in
theorem gL_law_L_undo : GoodIn wsL_law (va_wsS RL 173 yL_undo wsL_undo) := goodIn_app (goodIn_of _ (by decide +kernel)) ggL_law_L_undo
set_option maxRecDepth 20000 in
theorem ggL_law_X10_undo : GoodIn wsL_law wsX10_undo := goodIn_r _ [646, 324, 107, 105, 153, 154, 155, 5, 156, 157, 325, 326, 327, 1093, 1094, 1095, 1096, 1097, 1098, 1099, 1100, 1101, 1102, 1103, 1104, 1105, 1106, 1107] (by decide +kernel) (by decide +kernel)
set_option maxRecDepth 20000 in
theorem gL_law_X10_undo : GoodIn wsL_law (wsV RL 175 RX10 yX10_undo wsX10_undo) := goodIn_app (goodIn_of _ (by decide +kernel)) ggL_law_X10_undo
set_option maxRecDepth 20000 in
theorem ggL_law_L_count : GoodIn wsL_law wsL_count := goodIn_ca (goodIn_ca (goodIn_r _ [649, 337, 118, 650, 651, 652, 2, 653, 342, 343, 344, 345, 346, 347, 17, 348, 205, 206, 16, 207, 50, 51, 126, 127, 128, 129, 130, 654, 655, 656, 49, 657, 658, 659, 660, 661, 353, 221, 222, 223, 57, 662, 663, 664, 1084, 1085, 1086, 1087, 1088, 1089, 1090, 1091, 1092, 1108, 1109, 1127] (by decide +kernel) (by decide +kernel)) (goodIn_sub (fun _ h => List.mem_append_right _ h) (by decide +kernel))) (goodIn_sub (fun _ h => List.mem_append_left _ (List.mem_append_right _ h)) (by decide +kernel))
set_option maxRecDepth 20000 in
theorem gL_law_L_count : GoodIn wsL_law (va_wsS RL 176 yL_count wsL_count) := goodIn_app (goodIn_of _ (by decide +kernel)) ggL_law_L_count
set_option maxRecDepth 20000 in
theorem ggL_law_X10_count : GoodIn wsL_law wsX10_count := goodIn_r _ [668, 105, 391, 392, 5, 393, 150, 151, 152, 499, 500, 501, 502, 153, 154, 155, 156, 157, 669, 670, 671, 265, 266, 267, 268, 269, 270, 271, 1093, 1094, 1095, 1096, 1097, 1098, 1099, 1100, 1101, 1102, 1103, 1104, 1105, 1106, 1107] (by decide +kernel) (by decide +kernel)
set_option maxRecDepth 20000 in
theorem gL_law_X10_count : GoodIn wsL_law (wsV RL 178 RX10 yX10_count wsX10_count) := goodIn_app (goodIn_of _ (by decide +kernel)) ggL_law_X10_count
set_option maxRecDepth 20000 in
theorem ggL_law_L_walk : GoodIn wsL_law wsL_walk := goodIn_ca (goodIn_ca (goodIn_r _ [674, 337, 118, 675, 676, 677, 2, 678, 342, 343, 344, 345, 346, 347, 17, 348, 205, 206, 16, 207, 50, 51, 126, 127, 128, 129, 130, 679, 680, 681, 49, 682, 683, 684, 218, 685, 319, 209, 210, 211, 57, 459, 357, 358, 359, 353, 221, 222, 223, 484, 485, 1084, 1085, 1086, 1087, 1088, 1089, 1090, 1091, 1092, 1108, 1109, 1127] (by decide +kernel) (by decide +kernel)) (goodIn_sub (fun _ h => List.mem_append_right _ h) (by decide +kernel))) (goodIn_sub (fun _ h => List.mem_append_left _ (List.mem_append_right _ h)) (by decide +kernel))
set_option maxRecDepth 20000 in
theorem gL_law_L_walk : GoodIn wsL_law (va_wsS RL 179 yL_walk wsL_walk) := goodIn_app (goodIn_of _ (by decide +kernel)) ggL_law_L_walk
set_option maxRecDepth 20000 in
theorem ggL_law_X10_walk : GoodIn wsL_law wsX10_walk := goodIn_r _ [689, 690, 105, 391, 392, 5, 393, 150, 151, 152, 499, 500, 501, 502, 153, 154, 155, 156, 157, 265, 266, 267, 268, 269, 270, 271, 1093, 1094, 1095, 1096, 1097, 1098, 1099, 1100, 1101, 1102, 1103, 1104, 1105, 1106, 1107] (by decide +kernel) (by decide +kernel)
set_option maxRecDepth 20000 in
theorem gL_law_X10_walk : GoodIn wsL_law (wsV RL 181 RX10 yX10_walk wsX10_walk) := goodIn_app (goodIn_of _ (by decide +kernel)) ggL_law_X10_walk
