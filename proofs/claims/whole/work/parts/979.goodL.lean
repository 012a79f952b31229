set_option maxRecDepth 20000 in
theorem ggL_law_X9_init : GoodIn wsL_law wsX9_init := goodIn_r _ [10, 11, 12, 13, 14, 15, 16, 17, 18, 19, 20, 21, 22, 23, 24, 25, 26, 27, 28, 29, 30, 31, 32, 33, 34, 35, 36, 37, 38, 39, 40, 41, 42, 43, 44, 45, 46, 47, 48, 49, 50, 51, 52, 53, 54, 55, 56, 57, 58, 59, 60, 61, 62, 63, 64, 65, 66, 67, 68, 69, 70, 71, 72, 73, 74, 75, 76, 77, 78, 79, 80, 81, 82, 83, 84, 85, 86, 87, 88, 89, 90, 91, 92, 93, 94, 95, 96, 97, 98, 99, 1106, 1107, 1082, 1083, 1084, 1085, 1086, 1087, 1088, 1089, 1090, 1108, 1109, 1110, 1111, 1112, 1113, 1114, 1115, 1116, 1117, 1118, 1119, 1120, 1121, 1122, 1123, 1124, 1125, 1126] (by decide +kernel) (by decide +kernel)
set_option maxRecDepth 20000 in
theorem gL_law_X9_init : GoodIn wsL_law (wsX9_init) := ggL_law_X9_init
set_option maxRecDepth 20000 in
theorem ggL_law_X10_init : GoodIn wsL_law wsX10_init := goodIn_r _ [102, 103, 12, 13, 56, 104, 105, 106, 107, 108, 109, 110, 111, 112, 113, 114, 1091, 1092, 1093, 1094, 1095, 1096, 1097, 1098, 1099, 1100, 1101, 1102, 1103, 1104, 1105] (by decide +kernel) (by decide +kernel)
set_option maxRecDepth 20000 in
theorem gL_law_X10_init : GoodIn wsL_law (wsX10_init) := ggL_law_X10_init
set_option maxRecDepth 20000 in
theorem ggL_law_L_append : GoodIn wsL_law wsL_append := goodIn_ca (goodIn_ca (goodIn_r _ [118, 119, 120, 121, 122, 123, 2, 124, 125, 126, 26, 127, 128, 129, 130, 131, 132, 133, 134, 25, 135, 72, 136, 137, 138, 139, 71, 140, 141, 142, 143, 144, 1082, 1083, 1084, 1085, 1086, 1087, 1088, 1089, 1090, 1111, 1112] (by decide +kernel) (by decide +kernel)) (goodIn_sub (fun _ h => List.mem_append_left _ (List.mem_append_left _ (List.mem_append_right _ h))) (by decide +kernel))) (goodIn_sub (fun _ h => List.mem_append_left _ (List.mem_append_right _ h)) (by decide +kernel))
set_option maxRecDepth 20000 in
theorem gL_law_L_append : GoodIn wsL_law (va_wsS RL 120 yL_append wsL_append) := goodIn_app (goodIn_of _ (by decide +kernel)) ggL_law_L_append
set_option maxRecDepth 20000 in
theorem ggL_law_X10_append : GoodIn wsL_law wsX10_append := goodIn_r _ [148, 149, 150, 104, 151, 152, 5, 153, 154, 155, 156, 157, 158, 1091, 1092, 1093, 1094, 1095, 1096, 1097, 1098, 1099, 1100, 1101, 1102, 1103, 1104, 1105] (by decide +kernel) (by decide +kernel)
set_option maxRecDepth 20000 in
theorem gL_law_X10_append : GoodIn wsL_law (wsV RL 125 RX10 yX10_append wsX10_append) := goodIn_app (goodIn_of _ (by decide +kernel)) ggL_law_X10_append
set_option maxRecDepth 20000 in
theorem ggL_law_X10_thrown : GoodIn wsL_law wsX10_thrown := goodIn_r _ [162, 158, 1091, 1092, 1093, 1094, 1095, 1096, 1097, 1098, 1099, 1100, 1101, 1102, 1103, 1104, 1105] (by decide +kernel) (by decide +kernel)
set_option maxRecDepth 20000 in
theorem gL_law_X10_thrown : GoodIn wsL_law (wsV RL 126 RX10 yX10_thrown wsX10_thrown) := goodIn_app (goodIn_of _ (by decide +kernel)) ggL_law_X10_thrown
set_option maxRecDepth 20000 in
theorem ggL_law_X9_clearText : GoodIn wsL_law wsX9_clearText := goodIn_r _ [166, 26, 141, 142, 143, 25, 144, 72, 167, 168, 169, 170, 1082, 1083, 1084, 1085, 1086, 1087, 1088, 1089, 1090, 1111, 1112] (by decide +kernel) (by decide +kernel)
set_option maxRecDepth 20000 in
theorem gL_law_X9_clearText : GoodIn wsL_law (wsV RL 129 RX9 yX9_clearText wsX9_clearText) := goodIn_app (goodIn_of _ (by decide +kernel)) ggL_law_X9_clearText
set_option maxRecDepth 20000 in
theorem ggL_law_X10_clearText : GoodIn wsL_law wsX10_clearText := goodIn_r _ [174, 158, 150, 1091, 1092, 1093, 1094, 1095, 1096, 1097, 1098, 1099, 1100, 1101, 1102, 1103, 1104, 1105] (by decide +kernel) (by decide +kernel)
set_option maxRecDepth 20000 in
theorem gL_law_X10_clearText : GoodIn wsL_law (wsV RL 132 RX10 yX10_clearText wsX10_clearText) := goodIn_app (goodIn_of _ (by decide +kernel)) ggL_law_X10_clearText
set_option maxRecDepth 20000 in
theorem ggL_law_X9_errorPosition : GoodIn wsL_law wsX9_errorPosition := goodIn_r _ [178, 30, 179, 180, 181, 29, 182, 83, 77, 82, 78, 183, 184, 185, 16, 186, 50, 51, 187, 59, 60, 49, 61, 57, 188, 189, 190, 191, 79, 80, 81, 192, 142, 143, 25, 144, 72, 193, 194, 195, 196, 71, 197, 198, 199, 200, 201, 202, 203, 204, 205, 206, 207, 208, 209, 210, 211, 212, 213, 214, 215, 216, 217, 218, 219, 220, 221, 222, 223, 224, 225, 226, 227, 228, 229, 230, 231, 232, 233, 234, 235, 236, 237, 238, 239, 240, 241, 242, 243, 244, 1082, 1083, 1084, 1085, 1086, 1087, 1088, 1089, 1090, 1113, 1114, 1115, 1116, 1117, 1118, 1119, 1106, 1107, 1126, 1111, 1112] (by decide +kernel) (by decide +kernel)
set_option maxRecDepth 20000 in
theorem gL_law_X9_errorPosition : GoodIn wsL_law (wsV RL 133 RX9 yX9_errorPosition wsX9_errorPosition) := goodIn_app (goodIn_of _ (by decide +kernel)) ggL_law_X9_errorPosition
set_option maxRecDepth 20000 in
theorem ggL_law_X10_errorPosition : GoodIn wsL_law wsX10_errorPosition := goodIn_r _ [248, 158, 249, 250, 251, 5, 252, 105, 253, 150, 254, 255, 256, 257, 104, 258, 259, 260, 261, 262, 263, 264, 265, 266, 267, 268, 269, 151, 152, 153, 270, 271, 272, 273, 274, 275, 276, 277, 278, 279, 280, 1091, 1092, 1093, 1094, 1095, 1096, 1097, 1098, 1099, 1100, 1101, 1102, 1103, 1104, 1105] (by decide +kernel) (by decide +kernel)
set_option maxRecDepth 20000 in
theorem gL_law_X10_errorPosition : GoodIn wsL_law (wsV RL 136 RX10 yX10_errorPosition wsX10_errorPosition) := goodIn_app (goodIn_of _ (by decide +kernel)) ggL_law_X10_errorPosition
set_option maxRecDepth 20000 in
theorem ggL_law_L_load : GoodIn wsL_law wsL_load := goodIn_ca (goodIn_r _ [283, 120, 284, 285, 286, 2, 287, 125, 126, 30, 17, 18, 22, 34, 35, 179, 180, 181, 29, 182, 83, 77, 82, 78, 183, 184, 185, 16, 186, 50, 51, 187, 59, 60, 49, 61, 57, 188, 189, 190, 191, 79, 80, 81, 192, 142, 143, 25, 144, 72, 193, 194, 195, 196, 71, 197, 198, 199, 200, 201, 202, 203, 204, 205, 206, 207, 208, 209, 210, 211, 212, 213, 214, 215, 216, 217, 218, 219, 220, 221, 222, 223, 224, 225, 226, 227, 228, 229, 230, 231, 232, 233, 234, 235, 236, 237, 238, 239, 240, 241, 242, 243, 244, 288, 289, 290, 291, 292, 293, 294, 295, 296, 297, 298, 299, 300, 301, 302, 21, 303, 67, 304, 305, 306, 33, 307, 89, 308, 309, 310, 311, 312, 313, 314, 315, 316, 1082, 1083, 1084, 1085, 1086, 1087, 1088, 1089, 1090, 1113, 1114, 1115, 1116, 1117, 1118, 1119, 1106, 1107, 1126, 1111, 1112, 1108, 1109, 1110, 1120, 1121] (by decide +kernel) (by decide +kernel)) (goodIn_sub (fun _ h => List.mem_append_left _ (List.mem_append_left _ (List.mem_append_right _ h))) (by decide +kernel))
set_option maxRecDepth 20000 in
theorem gL_law_L_load : GoodIn wsL_law (va_wsS RL 137 yL_load wsL_load) := goodIn_app (goodIn_of _ (by decide +kernel)) ggL_law_L_load
set_option maxRecDepth 20000 in
theorem ggL_law_X10_load : GoodIn wsL_law wsX10_load := goodIn_r _ [320, 105, 106, 321, 111, 249, 250, 251, 5, 252, 253, 150, 254, 255, 256, 257, 104, 258, 259, 260, 261, 262, 263, 264, 265, 266, 267, 268, 269, 151, 152, 153, 270, 271, 272, 273, 274, 275, 276, 277, 278, 279, 280, 154, 155, 156, 157, 158, 322, 323, 324, 325, 326, 327, 328, 329, 330, 1091, 1092, 1093, 1094, 1095, 1096, 1097, 1098, 1099, 1100, 1101, 1102, 1103, 1104, 1105] (by decide +kernel) (by decide +kernel)
set_option maxRecDepth 20000 in
theorem gL_law_X10_load : GoodIn wsL_law (wsV RL 140 RX10 yX10_load wsX10_load) := goodIn_app (goodIn_of _ (by decide +kernel)) ggL_law_X10_load
set_option maxRecDepth 20000 in
theorem ggL_law_L_about : GoodIn wsL_law wsL_about := goodIn_ca (goodIn_ca (goodIn_r _ [333, 334, 119, 335, 336, 337, 2, 338, 339, 340, 341, 342, 343, 344, 17, 345, 206, 207, 16, 208, 50, 51, 127, 128, 129, 130, 131, 346, 347, 348, 49, 349, 350, 222, 223, 224, 57, 351, 210, 211, 212, 352, 313, 314, 315, 316, 353, 354, 355, 356, 357, 358, 359, 360, 361, 362, 218, 219, 220, 363, 364, 365, 366, 367, 368, 369, 370, 371, 372, 373, 374, 375, 376, 377, 378, 379, 380, 381, 382, 1082, 1083, 1084, 1085, 1086, 1087, 1088, 1089, 1090, 1106, 1107, 1126] (by decide +kernel) (by decide +kernel)) (goodIn_sub (fun _ h => List.mem_append_right _ h) (by decide +kernel))) (goodIn_sub (fun _ h => List.mem_append_left _ (List.mem_append_right _ h)) (by decide +kernel))
set_option maxRecDepth 20000 in
theorem gL_law_L_about : GoodIn wsL_law (va_wsS RL 141 yL_about wsL_about) := goodIn_app (goodIn_of _ (by decide +kernel)) ggL_law_L_about
set_option maxRecDepth 20000 in
theorem ggL_law_X10_about : GoodIn wsL_law wsX10_about := goodIn_r _ [386, 387, 106, 388, 389, 5, 390, 151, 152, 153, 154, 155, 156, 157, 158, 391, 392, 393, 266, 267, 268, 269, 394, 395, 396, 397, 398, 399, 328, 329, 330, 400, 401, 402, 270, 271, 272, 403, 404, 405, 1091, 1092, 1093, 1094, 1095, 1096, 1097, 1098, 1099, 1100, 1101, 1102, 1103, 1104, 1105] (by decide +kernel) (by decide +kernel)
set_option maxRecDepth 20000 in
theorem gL_law_X10_about : GoodIn wsL_law (wsV RL 144 RX10 yX10_about wsX10_about) := goodIn_app (goodIn_of _ (by decide +kernel)) ggL_law_X10_about
set_option maxRecDepth 20000 in
theorem ggL_law_L_cell : GoodIn wsL_law wsL_cell := goodIn_ca (goodIn_r _ [408, 334, 409, 410, 411, 2, 412, 413, 414, 415, 416, 343, 344, 339, 340, 341, 342, 17, 345, 206, 207, 16, 208, 50, 51, 353, 354, 355, 49, 356, 350, 222, 223, 224, 57, 357, 1082, 1083, 1084, 1085, 1086, 1087, 1088, 1089, 1090, 1106, 1107, 1126] (by decide +kernel) (by decide +kernel)) (goodIn_sub (fun _ h => List.mem_append_right _ h) (by decide +kernel))
set_option maxRecDepth 20000 in
theorem gL_law_L_cell : GoodIn wsL_law (va_wsS RL 145 yL_cell wsL_cell) := goodIn_app (goodIn_of _ (by decide +kernel)) ggL_law_L_cell
set_option maxRecDepth 20000 in
theorem ggL_law_X10_cell : GoodIn wsL_law wsX10_cell := goodIn_r _ [420, 106, 421, 422, 423, 5, 424, 388, 389, 390, 151, 152, 153, 425, 426, 427, 266, 267, 268, 269, 154, 155, 156, 157, 158, 270, 271, 272, 1091, 1092, 1093, 1094, 1095, 1096, 1097, 1098, 1099, 1100, 1101, 1102, 1103, 1104, 1105] (by decide +kernel) (by decide +kernel)
set_option maxRecDepth 20000 in
theorem gL_law_X10_cell : GoodIn wsL_law (wsV RL 148 RX10 yX10_cell wsX10_cell) := goodIn_app (goodIn_of _ (by decide +kernel)) ggL_law_X10_cell
set_option maxRecDepth 20000 in
theorem ggL_law_L_size : GoodIn wsL_law wsL_size := goodIn_ca (goodIn_ca (goodIn_r _ [430, 334, 119, 431, 432, 433, 2, 434, 339, 340, 341, 342, 343, 344, 17, 345, 206, 207, 16, 208, 50, 51, 127, 128, 129, 130, 131, 346, 347, 348, 49, 349, 350, 222, 223, 224, 57, 351, 210, 211, 212, 1082, 1083, 1084, 1085, 1086, 1087, 1088, 1089, 1090, 1106, 1107, 1126] (by decide +kernel) (by decide +kernel)) (goodIn_sub (fun _ h => List.mem_append_right _ h) (by decide +kernel))) (goodIn_sub (fun _ h => List.mem_append_left _ (List.mem_append_right _ h)) (by decide +kernel))
set_option maxRecDepth 20000 in
theorem gL_law_L_size : GoodIn wsL_law (va_wsS RL 149 yL_size wsL_size) := goodIn_app (goodIn_of _ (by decide +kernel)) ggL_law_L_size
set_option maxRecDepth 20000 in
theorem ggL_law_X10_size : GoodIn wsL_law wsX10_size := goodIn_r _ [438, 269, 106, 388, 389, 5, 390, 151, 152, 153, 154, 155, 156, 157, 158, 439, 440, 441, 266, 267, 268, 1091, 1092, 1093, 1094, 1095, 1096, 1097, 1098, 1099, 1100, 1101, 1102, 1103, 1104, 1105] (by decide +kernel) (by decide +kernel)
set_option maxRecDepth 20000 in
theorem gL_law_X10_size : GoodIn wsL_law (wsV RL 152 RX10 yX10_size wsX10_size) := goodIn_app (goodIn_of _ (by decide +kernel)) ggL_law_X10_size
set_option maxRecDepth 20000 in
theorem ggL_law_L_insert : GoodIn wsL_law wsL_insert := goodIn_ca (goodIn_ca (goodIn_ca (goodIn_r _ [444, 334, 119, 120, 445, 446, 447, 2, 448, 22, 17, 339, 340, 341, 342, 343, 344, 345, 206, 207, 16, 208, 50, 51, 127, 128, 129, 130, 131, 449, 450, 451, 125, 126, 452, 453, 454, 49, 455, 456, 354, 355, 356, 350, 222, 223, 224, 57, 457, 458, 459, 21, 460, 67, 66, 65, 461, 462, 463, 464, 465, 466, 467, 468, 469, 470, 471, 472, 296, 297, 298, 299, 473, 474, 475, 476, 477, 478, 479, 480, 316, 210, 211, 212, 481, 482, 483, 484, 485, 486, 487, 230, 231, 232, 488, 489, 490, 491, 1082, 1083, 1084, 1085, 1086, 1087, 1088, 1089, 1090, 1106, 1107, 1126, 1108, 1109, 1110] (by decide +kernel) (by decide +kernel)) (goodIn_sub (fun _ h => List.mem_append_right _ h) (by decide +kernel))) (goodIn_sub (fun _ h => List.mem_append_left _ (List.mem_append_right _ h)) (by decide +kernel))) (goodIn_sub (fun _ h => List.mem_append_left _ (List.mem_append_left _ (List.mem_append_right _ h))) (by decide +kernel))
set_option maxRecDepth 20000 in
theorem gL_law_L_insert : GoodIn wsL_law (va_wsS RL 153 yL_insert wsL_insert) := goodIn_app (goodIn_of _ (by decide +kernel)) ggL_law_L_insert
set_option maxRecDepth 20000 in
theorem ggL_law_X10_insert : GoodIn wsL_law wsX10_insert := goodIn_r _ [495, 106, 388, 389, 5, 390, 151, 152, 153, 496, 497, 498, 499, 500, 501, 502, 394, 395, 396, 266, 267, 268, 269, 154, 155, 156, 157, 158, 503, 504, 505, 506, 321, 108, 322, 323, 324, 507, 508, 509, 510, 511, 278, 279, 280, 512, 513, 514, 515, 270, 271, 272, 1091, 1092, 1093, 1094, 1095, 1096, 1097, 1098, 1099, 1100, 1101, 1102, 1103, 1104, 1105] (by decide +kernel) (by decide +kernel)
set_option maxRecDepth 20000 in
theorem gL_law_X10_insert : GoodIn wsL_law (wsV RL 155 RX10 yX10_insert wsX10_insert) := goodIn_app (goodIn_of _ (by decide +kernel)) ggL_law_X10_insert
set_option maxRecDepth 20000 in
theorem ggL_law_L_remove : GoodIn wsL_law wsL_remove := goodIn_ca (goodIn_r _ [518, 334, 519, 520, 521, 2, 522, 22, 17, 413, 414, 415, 416, 343, 344, 339, 340, 341, 342, 345, 206, 207, 16, 208, 50, 51, 353, 354, 355, 49, 356, 350, 222, 223, 224, 57, 357, 457, 458, 459, 21, 460, 67, 66, 65, 461, 462, 463, 464, 465, 466, 467, 468, 469, 470, 471, 472, 296, 297, 298, 299, 523, 524, 525, 526, 487, 230, 231, 232, 527, 528, 529, 530, 531, 532, 533, 481, 482, 483, 484, 485, 486, 1082, 1083, 1084, 1085, 1086, 1087, 1088, 1089, 1090, 1106, 1107, 1126, 1108, 1109, 1110] (by decide +kernel) (by decide +kernel)) (goodIn_sub (fun _ h => List.mem_append_right _ h) (by decide +kernel))
set_option maxRecDepth 20000 in
theorem gL_law_L_remove : GoodIn wsL_law (va_wsS RL 156 yL_remove wsL_remove) := goodIn_app (goodIn_of _ (by decide +kernel)) ggL_law_L_remove
set_option maxRecDepth 20000 in
theorem ggL_law_X10_remove : GoodIn wsL_law wsX10_remove := goodIn_r _ [537, 106, 421, 422, 423, 5, 424, 388, 389, 390, 151, 152, 153, 425, 426, 427, 266, 267, 268, 269, 154, 155, 156, 157, 158, 503, 504, 505, 506, 321, 108, 322, 323, 324, 270, 271, 272, 538, 539, 540, 278, 279, 280, 1091, 1092, 1093, 1094, 1095, 1096, 1097, 1098, 1099, 1100, 1101, 1102, 1103, 1104, 1105] (by decide +kernel) (by decide +kernel)
set_option maxRecDepth 20000 in
theorem gL_law_X10_remove : GoodIn wsL_law (wsV RL 158 RX10 yX10_remove wsX10_remove) := goodIn_app (goodIn_of _ (by decide +kernel)) ggL_law_X10_remove
set_option maxRecDepth 20000 in
theorem ggL_law_L_change : GoodIn wsL_law wsL_change := goodIn_ca (goodIn_ca (goodIn_r _ [543, 334, 119, 544, 545, 546, 2, 547, 22, 17, 413, 414, 415, 416, 343, 344, 339, 340, 341, 342, 345, 206, 207, 16, 208, 50, 51, 353, 354, 355, 49, 356, 350, 222, 223, 224, 57, 127, 128, 129, 130, 131, 457, 458, 459, 21, 460, 67, 66, 65, 461, 462, 463, 464, 465, 466, 467, 468, 469, 470, 471, 472, 296, 297, 298, 299, 548, 549, 550, 551, 487, 230, 231, 232, 488, 489, 490, 491, 481, 482, 483, 484, 485, 486, 527, 528, 529, 530, 531, 532, 533, 1082, 1083, 1084, 1085, 1086, 1087, 1088, 1089, 1090, 1106, 1107, 1126, 1108, 1109, 1110] (by decide +kernel) (by decide +kernel)) (goodIn_sub (fun _ h => List.mem_append_right _ h) (by decide +kernel))) (goodIn_sub (fun _ h => List.mem_append_left _ (List.mem_append_right _ h)) (by decide +kernel))
set_option maxRecDepth 20000 in
theorem gL_law_L_change : GoodIn wsL_law (va_wsS RL 159 yL_change wsL_change) := goodIn_app (goodIn_of _ (by decide +kernel)) ggL_law_L_change
set_option maxRecDepth 20000 in
theorem ggL_law_X10_change : GoodIn wsL_law wsX10_change := goodIn_r _ [555, 106, 421, 422, 423, 5, 424, 388, 389, 390, 151, 152, 153, 425, 426, 427, 266, 267, 268, 269, 496, 497, 498, 499, 154, 155, 156, 157, 158, 503, 504, 505, 506, 321, 108, 322, 323, 324, 278, 279, 280, 512, 513, 514, 515, 511, 270, 271, 272, 556, 557, 558, 1091, 1092, 1093, 1094, 1095, 1096, 1097, 1098, 1099, 1100, 1101, 1102, 1103, 1104, 1105] (by decide +kernel) (by decide +kernel)
set_option maxRecDepth 20000 in
theorem gL_law_X10_change : GoodIn wsL_law (wsV RL 162 RX10 yX10_change wsX10_change) := goodIn_app (goodIn_of _ (by decide +kernel)) ggL_law_X10_change
set_option maxRecDepth 20000 in
theorem ggL_law_L_transfer : GoodIn wsL_law wsL_transfer := goodIn_ca (goodIn_ca (goodIn_r _ [561, 334, 120, 562, 563, 564, 2, 565, 17, 22, 413, 414, 415, 416, 343, 344, 339, 340, 341, 342, 345, 206, 207, 16, 208, 50, 51, 353, 354, 355, 49, 356, 350, 222, 223, 224, 57, 449, 450, 451, 125, 126, 452, 453, 454, 455, 456, 457, 458, 459, 21, 460, 67, 66, 65, 461, 462, 463, 464, 465, 466, 467, 468, 469, 470, 471, 472, 296, 297, 298, 299, 566, 567, 568, 569, 570, 571, 572, 524, 525, 526, 487, 230, 231, 232, 527, 528, 529, 530, 531, 532, 533, 481, 482, 483, 484, 485, 486, 573, 474, 475, 476, 477, 478, 479, 480, 316, 210, 211, 212, 488, 489, 490, 491, 1082, 1083, 1084, 1085, 1086, 1087, 1088, 1089, 1090, 1106, 1107, 1126, 1108, 1109, 1110] (by decide +kernel) (by decide +kernel)) (goodIn_sub (fun _ h => List.mem_append_right _ h) (by decide +kernel))) (goodIn_sub (fun _ h => List.mem_append_left _ (List.mem_append_left _ (List.mem_append_right _ h))) (by decide +kernel))
set_option maxRecDepth 20000 in
theorem gL_law_L_transfer : GoodIn wsL_law (va_wsS RL 163 yL_transfer wsL_transfer) := goodIn_app (goodIn_of _ (by decide +kernel)) ggL_law_L_transfer
set_option maxRecDepth 20000 in
theorem ggL_law_X10_transfer : GoodIn wsL_law wsX10_transfer := goodIn_r _ [577, 106, 421, 422, 423, 5, 424, 388, 389, 390, 151, 152, 153, 425, 426, 427, 266, 267, 268, 269, 500, 501, 502, 394, 395, 396, 154, 155, 156, 157, 158, 503, 504, 505, 506, 321, 108, 322, 323, 324, 270, 271, 272, 538, 539, 540, 278, 279, 280, 507, 508, 509, 510, 511, 512, 513, 514, 515, 1091, 1092, 1093, 1094, 1095, 1096, 1097, 1098, 1099, 1100, 1101, 1102, 1103, 1104, 1105] (by decide +kernel) (by decide +kernel)
set_option maxRecDepth 20000 in
theorem gL_law_X10_transfer : GoodIn wsL_law (wsV RL 165 RX10 yX10_transfer wsX10_transfer) := goodIn_app (goodIn_of _ (by decide +kernel)) ggL_law_X10_transfer
set_option maxRecDepth 20000 in
theorem ggL_law_L_transpose : GoodIn wsL_law wsL_transpose := goodIn_ca (goodIn_r _ [580, 334, 581, 582, 583, 2, 584, 22, 17, 339, 340, 341, 342, 343, 344, 345, 206, 207, 16, 208, 50, 51, 457, 458, 459, 21, 460, 67, 66, 65, 461, 462, 463, 464, 465, 466, 467, 468, 469, 470, 471, 49, 472, 57, 296, 297, 298, 299, 585, 586, 587, 588, 350, 222, 223, 224, 487, 230, 231, 232, 346, 347, 348, 349, 1082, 1083, 1084, 1085, 1086, 1087, 1088, 1089, 1090, 1106, 1107, 1108, 1109, 1110, 1126] (by decide +kernel) (by decide +kernel)) (goodIn_sub (fun _ h => List.mem_append_right _ h) (by decide +kernel))
set_option maxRecDepth 20000 in
theorem gL_law_L_transpose : GoodIn wsL_law (va_wsS RL 166 yL_transpose wsL_transpose) := goodIn_app (goodIn_of _ (by decide +kernel)) ggL_law_L_transpose
set_option maxRecDepth 20000 in
theorem ggL_law_X10_transpose : GoodIn wsL_law wsX10_transpose := goodIn_r _ [592, 106, 388, 389, 5, 390, 151, 152, 153, 154, 155, 156, 157, 158, 503, 504, 505, 506, 321, 108, 322, 323, 324, 593, 594, 595, 596, 114, 439, 440, 441, 266, 267, 268, 269, 270, 271, 272, 397, 398, 399, 1091, 1092, 1093, 1094, 1095, 1096, 1097, 1098, 1099, 1100, 1101, 1102, 1103, 1104, 1105] (by decide +kernel) (by decide +kernel)
set_option maxRecDepth 20000 in
theorem gL_law_X10_transpose : GoodIn wsL_law (wsV RL 168 RX10 yX10_transpose wsX10_transpose) := goodIn_app (goodIn_of _ (by decide +kernel)) ggL_law_X10_transpose
set_option maxRecDepth 20000 in
theorem ggL_law_X9_exchange : GoodIn wsL_law wsX9_exchange := goodIn_r _ [600, 22, 17, 457, 458, 459, 21, 460, 67, 66, 65, 461, 462, 463, 464, 465, 466, 467, 16, 468, 50, 51, 469, 470, 471, 49, 472, 57, 296, 297, 298, 299, 601, 602, 603, 604, 605, 606, 607, 608, 345, 206, 207, 208, 352, 313, 314, 315, 316, 210, 211, 212, 1082, 1083, 1084, 1085, 1086, 1087, 1088, 1089, 1090, 1108, 1109, 1110, 1106, 1107, 1126] (by decide +kernel) (by decide +kernel)
set_option maxRecDepth 20000 in
theorem gL_law_X9_exchange : GoodIn wsL_law (wsV RL 169 RX9 yX9_exchange wsX9_exchange) := goodIn_app (goodIn_of _ (by decide +kernel)) ggL_law_X9_exchange
set_option maxRecDepth 20000 in
theorem ggL_law_X10_exchange : GoodIn wsL_law wsX10_exchange := goodIn_r _ [612, 158, 106, 114, 503, 504, 505, 5, 506, 321, 108, 322, 323, 324, 328, 329, 330, 266, 267, 268, 269, 151, 152, 153, 1091, 1092, 1093, 1094, 1095, 1096, 1097, 1098, 1099, 1100, 1101, 1102, 1103, 1104, 1105] (by decide +kernel) (by decide +kernel)
set_option maxRecDepth 20000 in
theorem gL_law_X10_exchange : GoodIn wsL_law (wsV RL 172 RX10 yX10_exchange wsX10_exchange) := goodIn_app (goodIn_of _ (by decide +kernel)) ggL_law_X10_exchange
set_option maxRecDepth 20000 in
theorem ggL_law_L_undo : GoodIn wsL_law wsL_undo := goodIn_ca (goodIn_r _ [615, 120, 616, 617, 618, 2, 619, 125, 126, 22, 17, 620, 621, 622, 21, 623, 67, 624, 625, 626, 627, 65, 461, 462, 463, 464, 66, 628, 629, 630, 16, 631, 50, 51, 632, 633, 634, 49, 635, 57, 296, 297, 298, 299, 636, 637, 638, 639, 1082, 1083, 1084, 1085, 1086, 1087, 1088, 1089, 1090, 1108, 1109, 1110, 1106, 1107, 1126] (by decide +kernel) (by decide +kernel)) (goodIn_sub (fun _ h => List.mem_append_left _ (List.mem_append_left _ (List.mem_append_right _ h))) (by decide +kernel))
set_option maxRecDepth 20000 in
theorem gL_law_L_undo : GoodIn wsL_law (va_wsS RL 173 yL_undo wsL_undo) := goodIn_app (goodIn_of _ (by decide +kernel)) ggL_law_L_undo
set_option maxRecDepth 20000 in
theorem ggL_law_X10_undo : GoodIn wsL_law wsX10_undo := goodIn_r _ [643, 321, 108, 106, 154, 155, 156, 5, 157, 158, 322, 323, 324, 1091, 1092, 1093, 1094, 1095, 1096, 1097, 1098, 1099, 1100, 1101, 1102, 1103, 1104, 1105] (by decide +kernel) (by decide +kernel)
set_option maxRecDepth 20000 in
theorem gL_law_X10_undo : GoodIn wsL_law (wsV RL 175 RX10 yX10_undo wsX10_undo) := goodIn_app (goodIn_of _ (by decide +kernel)) ggL_law_X10_undo
set_option maxRecDepth 20000 in
theorem ggL_law_L_count : GoodIn wsL_law wsL_count := goodIn_ca (goodIn_ca (goodIn_r _ [646, 334, 119, 647, 648, 649, 2, 650, 339, 340, 341, 342, 343, 344, 17, 345, 206, 207, 16, 208, 50, 51, 127, 128, 129, 130, 131, 651, 652, 653, 49, 654, 655, 656, 657, 658, 350, 222, 223, 224, 57, 659, 660, 661, 1082, 1083, 1084, 1085, 1086, 1087, 1088, 1089, 1090, 1106, 1107, 1126] (by decide +kernel) (by decide +kernel)) (goodIn_sub (fun _ h => List.mem_append_right _ h) (by decide +kernel))) (goodIn_sub (fun _ h => List.mem_append_left _ (List.mem_append_right _ h)) (by decide +kernel))
set_option maxRecDepth 20000 in
theorem gL_law_L_count : GoodIn wsL_law (va_wsS RL 176 yL_count wsL_count) := goodIn_app (goodIn_of _ (by decide +kernel)) ggL_law_L_count
set_option maxRecDepth 20000 in
theorem ggL_law_X10_count : GoodIn wsL_law wsX10_count := goodIn_r _ [665, 106, 388, 389, 5, 390, 151, 152, 153, 496, 497, 498, 499, 154, 155, 156, 157, 158, 666, 667, 668, 266, 267, 268, 269, 270, 271, 272, 1091, 1092, 1093, 1094, 1095, 1096, 1097, 1098, 1099, 1100, 1101, 1102, 1103, 1104, 1105] (by decide +kernel) (by decide +kernel)
set_option maxRecDepth 20000 in
theorem gL_law_X10_count : GoodIn wsL_law (wsV RL 178 RX10 yX10_count wsX10_count) := goodIn_app (goodIn_of _ (by decide +kernel)) ggL_law_X10_count
set_option maxRecDepth 20000 in
theorem ggL_law_L_walk : GoodIn wsL_law wsL_walk := goodIn_ca (goodIn_ca (goodIn_r _ [671, 334, 119, 672, 673, 674, 2, 675, 339, 340, 341, 342, 343, 344, 17, 345, 206, 207, 16, 208, 50, 51, 127, 128, 129, 130, 131, 676, 677, 678, 49, 679, 680, 681, 219, 682, 316, 210, 211, 212, 57, 456, 354, 355, 356, 350, 222, 223, 224, 481, 482, 1082, 1083, 1084, 1085, 1086, 1087, 1088, 1089, 1090, 1106, 1107, 1126] (by decide +kernel) (by decide +kernel)) (goodIn_sub (fun _ h => List.mem_append_right _ h) (by decide +kernel))) (goodIn_sub (fun _ h => List.mem_append_left _ (List.mem_append_right _ h)) (by decide +kernel))
set_option maxRecDepth 20000 in
theorem gL_law_L_walk : GoodIn wsL_law (va_wsS RL 179 yL_walk wsL_walk) := goodIn_app (goodIn_of _ (by decide +kernel)) ggL_law_L_walk
set_option maxRecDepth 20000 in
theorem ggL_law_X10_walk : GoodIn wsL_law wsX10_walk := goodIn_r _ [686, 687, 106, 388, 389, 5, 390, 151, 152, 153, 496, 497, 498, 499, 154, 155, 156, 157, 158, 266, 267, 268, 269, 270, 271, 272, 1091, 1092, 1093, 1094, 1095, 1096, 1097, 1098, 1099, 1100, 1101, 1102, 1103, 1104, 1105] (by decide +kernel) (by decide +kernel)
set_option maxRecDepth 20000 in
theorem gL_law_X10_walk : GoodIn wsL_law (wsV RL 181 RX10 yX10_walk wsX10_walk) := goodIn_app (goodIn_of _ (by decide +kernel)) ggL_law_X10_walk
set_option maxRecDepth 20000 in
theorem ggL_law_L_kth : GoodIn wsL_law wsL_kth := goodIn_ca (goodIn_ca (goodIn_r _ [690, 334, 119, 691, 692, 693, 2, 694, 339, 340, 341, 342, 343, 344, 17, 345, 206, 207, 16, 208, 50, 51, 695, 696, 697, 698, 127, 128, 129, 130, 131, 699, 700, 701, 49, 702, 703, 704, 705, 706, 707, 708, 709, 710, 655, 656, 657, 658, 350, 222, 223, 224, 57, 659, 660, 661, 711, 652, 653, 654, 481, 482, 712, 1082, 1083, 1084, 1085, 1086, 1087, 1088, 1089, 1090, 1106, 1107, 1126] (by decide +kernel) (by decide +kernel)) (goodIn_sub (fun _ h => List.mem_append_right _ h) (by decide +kernel))) (goodIn_sub (fun _ h => List.mem_append_left _ (List.mem_append_right _ h)) (by decide +kernel))
set_option maxRecDepth 20000 in
theorem gL_law_L_kth : GoodIn wsL_law (va_wsS RL 182 yL_kth wsL_kth) := goodIn_app (goodIn_of _ (by decide +kernel)) ggL_law_L_kth
set_option maxRecDepth 20000 in
theorem ggL_law_X10_kth : GoodIn wsL_law wsX10_kth := goodIn_r _ [716, 106, 388, 389, 5, 390, 151, 152, 153, 154, 155, 156, 157, 158, 717, 718, 719, 266, 267, 268, 269, 720, 721, 722, 270, 271, 272, 1091, 1092, 1093, 1094, 1095, 1096, 1097, 1098, 1099, 1100, 1101, 1102, 1103, 1104, 1105] (by decide +kernel) (by decide +kernel)
set_option maxRecDepth 20000 in
theorem gL_law_X10_kth : GoodIn wsL_law (wsV RL 184 RX10 yX10_kth wsX10_kth) := goodIn_app (goodIn_of _ (by decide +kernel)) ggL_law_X10_kth
set_option maxRecDepth 20000 in
theorem ggL_law_L_rank : GoodIn wsL_law wsL_rank := goodIn_ca (goodIn_r _ [725, 334, 726, 727, 728, 2, 729, 413, 414, 415, 416, 343, 344, 339, 340, 341, 342, 17, 345, 206, 207, 16, 208, 50, 51, 353, 354, 355, 49, 356, 350, 222, 223, 224, 57, 730, 731, 732, 733, 711, 652, 653, 654, 655, 656, 657, 658, 659, 660, 661, 1082, 1083, 1084, 1085, 1086, 1087, 1088, 1089, 1090, 1106, 1107, 1126] (by decide +kernel) (by decide +kernel)) (goodIn_sub (fun _ h => List.mem_append_right _ h) (by decide +kernel))
set_option maxRecDepth 20000 in
theorem gL_law_L_rank : GoodIn wsL_law (va_wsS RL 185 yL_rank wsL_rank) := goodIn_app (goodIn_of _ (by decide +kernel)) ggL_law_L_rank
set_option maxRecDepth 20000 in
theorem ggL_law_X10_rank : GoodIn wsL_law wsX10_rank := goodIn_r _ [737, 106, 421, 422, 423, 5, 424, 388, 389, 390, 151, 152, 153, 425, 426, 427, 266, 267, 268, 269, 154, 155, 156, 157, 158, 720, 721, 722, 270, 271, 272, 1091, 1092, 1093, 1094, 1095, 1096, 1097, 1098, 1099, 1100, 1101, 1102, 1103, 1104, 1105] (by decide +kernel) (by decide +kernel)
set_option maxRecDepth 20000 in
theorem gL_law_X10_rank : GoodIn wsL_law (wsV RL 187 RX10 yX10_rank wsX10_rank) := goodIn_app (goodIn_of _ (by decide +kernel)) ggL_law_X10_rank
set_option maxRecDepth 20000 in
theorem ggL_law_L_windowCount : GoodIn wsL_law wsL_windowCount := goodIn_ca (goodIn_ca (goodIn_r _ [740, 334, 119, 741, 742, 743, 2, 744, 339, 340, 341, 342, 343, 344, 17, 345, 206, 207, 16, 208, 50, 51, 745, 746, 747, 127, 128, 129, 130, 131, 748, 749, 750, 751, 681, 219, 682, 752, 656, 657, 49, 658, 350, 222, 223, 224, 57, 659, 660, 661, 1082, 1083, 1084, 1085, 1086, 1087, 1088, 1089, 1090, 1106, 1107, 1126] (by decide +kernel) (by decide +kernel)) (goodIn_sub (fun _ h => List.mem_append_right _ h) (by decide +kernel))) (goodIn_sub (fun _ h => List.mem_append_left _ (List.mem_append_right _ h)) (by decide +kernel))
set_option maxRecDepth 20000 in
theorem gL_law_L_windowCount : GoodIn wsL_law (va_wsS RL 188 yL_windowCount wsL_windowCount) := goodIn_app (goodIn_of _ (by decide +kernel)) ggL_law_L_windowCount
set_option maxRecDepth 20000 in
theorem ggL_law_X10_windowCount : GoodIn wsL_law wsX10_windowCount := goodIn_r _ [756, 106, 388, 389, 5, 390, 151, 152, 153, 757, 758, 759, 269, 760, 496, 497, 498, 499, 154, 155, 156, 157, 158, 666, 667, 668, 266, 267, 268, 270, 271, 272, 1091, 1092, 1093, 1094, 1095, 1096, 1097, 1098, 1099, 1100, 1101, 1102, 1103, 1104, 1105] (by decide +kernel) (by decide +kernel)
set_option maxRecDepth 20000 in
theorem gL_law_X10_windowCount : GoodIn wsL_law (wsV RL 191 RX10 yX10_windowCount wsX10_windowCount) := goodIn_app (goodIn_of _ (by decide +kernel)) ggL_law_X10_windowCount
set_option maxRecDepth 20000 in
theorem ggL_law_L_windowKth : GoodIn wsL_law wsL_windowKth := goodIn_ca (goodIn_ca (goodIn_r _ [763, 334, 119, 764, 765, 766, 2, 767, 339, 340, 341, 342, 343, 344, 17, 345, 206, 207, 16, 208, 50, 51, 745, 746, 747, 127, 128, 129, 130, 131, 695, 696, 697, 698, 748, 749, 750, 751, 681, 219, 682, 768, 708, 709, 49, 710, 655, 656, 657, 658, 350, 222, 223, 224, 57, 659, 660, 661, 1082, 1083, 1084, 1085, 1086, 1087, 1088, 1089, 1090, 1106, 1107, 1126] (by decide +kernel) (by decide +kernel)) (goodIn_sub (fun _ h => List.mem_append_right _ h) (by decide +kernel))) (goodIn_sub (fun _ h => List.mem_append_left _ (List.mem_append_right _ h)) (by decide +kernel))
set_option maxRecDepth 20000 in
theorem gL_law_L_windowKth : GoodIn wsL_law (va_wsS RL 192 yL_windowKth wsL_windowKth) := goodIn_app (goodIn_of _ (by decide +kernel)) ggL_law_L_windowKth
set_option maxRecDepth 20000 in
theorem ggL_law_X10_windowKth : GoodIn wsL_law wsX10_windowKth := goodIn_r _ [772, 106, 388, 389, 5, 390, 151, 152, 153, 757, 758, 759, 269, 760, 154, 155, 156, 157, 158, 666, 667, 668, 266, 267, 268, 270, 271, 272, 1091, 1092, 1093, 1094, 1095, 1096, 1097, 1098, 1099, 1100, 1101, 1102, 1103, 1104, 1105] (by decide +kernel) (by decide +kernel)
set_option maxRecDepth 20000 in
theorem gL_law_X10_windowKth : GoodIn wsL_law (wsV RL 194 RX10 yX10_windowKth wsX10_windowKth) := goodIn_app (goodIn_of _ (by decide +kernel)) ggL_law_X10_windowKth
set_option maxRecDepth 20000 in
theorem ggL_law_L_kthOfBoth : GoodIn wsL_law wsL_kthOfBoth := goodIn_ca (goodIn_r _ [775, 119, 776, 777, 778, 2, 779, 17, 695, 696, 697, 698, 127, 128, 129, 130, 131, 780, 781, 782, 16, 783, 784, 785, 786, 787, 50, 51, 788, 652, 653, 49, 654, 655, 656, 657, 658, 350, 222, 223, 224, 57, 659, 660, 661, 789, 790, 791, 792, 1082, 1083, 1084, 1085, 1086, 1087, 1088, 1089, 1090, 1106, 1107, 1126] (by decide +kernel) (by decide +kernel)) (goodIn_sub (fun _ h => List.mem_append_left _ (List.mem_append_right _ h)) (by decide +kernel))
set_option maxRecDepth 20000 in
theorem gL_law_L_kthOfBoth : GoodIn wsL_law (va_wsS RL 195 yL_kthOfBoth wsL_kthOfBoth) := goodIn_app (goodIn_of _ (by decide +kernel)) ggL_law_L_kthOfBoth
set_option maxRecDepth 20000 in
theorem ggL_law_X10_kthOfBoth : GoodIn wsL_law wsX10_kthOfBoth := goodIn_r _ [796, 106, 154, 155, 156, 5, 157, 158, 797, 798, 799, 666, 667, 668, 266, 267, 268, 269, 151, 152, 153, 270, 271, 272, 1091, 1092, 1093, 1094, 1095, 1096, 1097, 1098, 1099, 1100, 1101, 1102, 1103, 1104, 1105] (by decide +kernel) (by decide +kernel)
set_option maxRecDepth 20000 in
theorem gL_law_X10_kthOfBoth : GoodIn wsL_law (wsV RL 198 RX10 yX10_kthOfBoth wsX10_kthOfBoth) := goodIn_app (goodIn_of _ (by decide +kernel)) ggL_law_X10_kthOfBoth
set_option maxRecDepth 20000 in
theorem ggL_law_L_pairs : GoodIn wsL_law wsL_pairs := goodIn_ca (goodIn_r _ [802, 119, 803, 804, 805, 2, 806, 17, 127, 128, 129, 130, 131, 807, 808, 809, 16, 810, 50, 51, 811, 354, 355, 49, 356, 350, 222, 223, 224, 57, 571, 788, 652, 653, 654, 655, 656, 657, 658, 659, 660, 661, 1082, 1083, 1084, 1085, 1086, 1087, 1088, 1089, 1090, 1106, 1107, 1126] (by decide +kernel) (by decide +kernel)) (goodIn_sub (fun _ h => List.mem_append_left _ (List.mem_append_right _ h)) (by decide +kernel))
set_option maxRecDepth 20000 in
theorem gL_law_L_pairs : GoodIn wsL_law (va_wsS RL 199 yL_pairs wsL_pairs) := goodIn_app (goodIn_of _ (by decide +kernel)) ggL_law_L_pairs
set_option maxRecDepth 20000 in
theorem ggL_law_X10_pairs : GoodIn wsL_law wsX10_pairs := goodIn_r _ [815, 816, 106, 151, 152, 5, 153, 154, 155, 156, 157, 158, 817, 818, 819, 266, 267, 268, 269, 270, 271, 272, 797, 798, 799, 666, 667, 668, 1091, 1092, 1093, 1094, 1095, 1096, 1097, 1098, 1099, 1100, 1101, 1102, 1103, 1104, 1105] (by decide +kernel) (by decide +kernel)
set_option maxRecDepth 20000 in
theorem gL_law_X10_pairs : GoodIn wsL_law (wsV RL 201 RX10 yX10_pairs wsX10_pairs) := goodIn_app (goodIn_of _ (by decide +kernel)) ggL_law_X10_pairs
set_option maxRecDepth 20000 in
theorem ggL_law_L_kthSum : GoodIn wsL_law wsL_kthSum := goodIn_ca (goodIn_r _ [822, 119, 823, 824, 825, 2, 826, 17, 695, 696, 697, 698, 127, 128, 129, 130, 131, 827, 828, 829, 16, 830, 831, 808, 809, 810, 50, 51, 811, 354, 355, 49, 356, 350, 222, 223, 224, 57, 571, 788, 652, 653, 654, 655, 656, 657, 658, 659, 660, 661, 1082, 1083, 1084, 1085, 1086, 1087, 1088, 1089, 1090, 1106, 1107, 1126] (by decide +kernel) (by decide +kernel)) (goodIn_sub (fun _ h => List.mem_append_left _ (List.mem_append_right _ h)) (by decide +kernel))
set_option maxRecDepth 20000 in
theorem gL_law_L_kthSum : GoodIn wsL_law (va_wsS RL 202 yL_kthSum wsL_kthSum) := goodIn_app (goodIn_of _ (by decide +kernel)) ggL_law_L_kthSum
set_option maxRecDepth 20000 in
theorem ggL_law_X10_kthSum : GoodIn wsL_law wsX10_kthSum := goodIn_r _ [835, 106, 154, 155, 156, 5, 157, 158, 817, 818, 819, 266, 267, 268, 269, 151, 152, 153, 270, 271, 272, 797, 798, 799, 666, 667, 668, 1091, 1092, 1093, 1094, 1095, 1096, 1097, 1098, 1099, 1100, 1101, 1102, 1103, 1104, 1105] (by decide +kernel) (by decide +kernel)
set_option maxRecDepth 20000 in
theorem gL_law_X10_kthSum : GoodIn wsL_law (wsV RL 204 RX10 yX10_kthSum wsX10_kthSum) := goodIn_app (goodIn_of _ (by decide +kernel)) ggL_law_X10_kthSum
set_option maxRecDepth 20000 in
theorem ggL_law_L_corner : GoodIn wsL_law wsL_corner := goodIn_ca (goodIn_ca (goodIn_r _ [838, 334, 119, 839, 840, 841, 2, 842, 339, 340, 341, 342, 343, 344, 17, 345, 206, 207, 16, 208, 50, 51, 695, 696, 697, 698, 127, 128, 129, 130, 131, 843, 844, 845, 49, 846, 371, 372, 373, 374, 375, 376, 377, 378, 316, 210, 211, 212, 57, 379, 380, 381, 382, 481, 482, 1082, 1083, 1084, 1085, 1086, 1087, 1088, 1089, 1090, 1106, 1107, 1126] (by decide +kernel) (by decide +kernel)) (goodIn_sub (fun _ h => List.mem_append_right _ h) (by decide +kernel))) (goodIn_sub (fun _ h => List.mem_append_left _ (List.mem_append_right _ h)) (by decide +kernel))
set_option maxRecDepth 20000 in
theorem gL_law_L_corner : GoodIn wsL_law (va_wsS RL 205 yL_corner wsL_corner) := goodIn_app (goodIn_of _ (by decide +kernel)) ggL_law_L_corner
set_option maxRecDepth 20000 in
theorem ggL_law_X10_corner : GoodIn wsL_law wsX10_corner := goodIn_r _ [850, 106, 388, 389, 5, 390, 151, 152, 153, 154, 155, 156, 157, 158, 394, 395, 396, 266, 267, 268, 269, 391, 392, 393, 1091, 1092, 1093, 1094, 1095, 1096, 1097, 1098, 1099, 1100, 1101, 1102, 1103, 1104, 1105] (by decide +kernel) (by decide +kernel)
set_option maxRecDepth 20000 in
theorem gL_law_X10_corner : GoodIn wsL_law (wsV RL 207 RX10 yX10_corner wsX10_corner) := goodIn_app (goodIn_of _ (by decide +kernel)) ggL_law_X10_corner
set_option maxRecDepth 20000 in
theorem ggL_law_L_hook : GoodIn wsL_law wsL_hook := goodIn_ca (goodIn_r _ [853, 334, 854, 855, 856, 2, 857, 413, 414, 415, 416, 343, 344, 339, 340, 341, 342, 17, 345, 206, 207, 16, 208, 50, 51, 353, 354, 355, 49, 356, 350, 222, 223, 224, 57, 858, 859, 860, 861, 316, 210, 211, 212, 862, 347, 348, 349, 1082, 1083, 1084, 1085, 1086, 1087, 1088, 1089, 1090, 1106, 1107, 1126] (by decide +kernel) (by decide +kernel)) (goodIn_sub (fun _ h => List.mem_append_right _ h) (by decide +kernel))
set_option maxRecDepth 20000 in
theorem gL_law_L_hook : GoodIn wsL_law (va_wsS RL 208 yL_hook wsL_hook) := goodIn_app (goodIn_of _ (by decide +kernel)) ggL_law_L_hook
set_option maxRecDepth 20000 in
theorem ggL_law_X10_hook : GoodIn wsL_law wsX10_hook := goodIn_r _ [866, 106, 421, 422, 423, 5, 424, 388, 389, 390, 151, 152, 153, 425, 426, 427, 266, 267, 268, 269, 154, 155, 156, 157, 158, 867, 868, 869, 439, 440, 441, 1091, 1092, 1093, 1094, 1095, 1096, 1097, 1098, 1099, 1100, 1101, 1102, 1103, 1104, 1105] (by decide +kernel) (by decide +kernel)
set_option maxRecDepth 20000 in
theorem gL_law_X10_hook : GoodIn wsL_law (wsV RL 210 RX10 yX10_hook wsX10_hook) := goodIn_app (goodIn_of _ (by decide +kernel)) ggL_law_X10_hook
set_option maxRecDepth 20000 in
theorem ggL_law_L_fillings : GoodIn wsL_law wsL_fillings := goodIn_ca (goodIn_r _ [872, 334, 873, 874, 875, 2, 876, 43, 339, 340, 341, 342, 343, 344, 17, 345, 206, 207, 16, 208, 50, 51, 877, 878, 879, 42, 880, 99, 881, 313, 314, 49, 315, 316, 210, 211, 212, 57, 882, 883, 884, 885, 886, 354, 355, 356, 350, 222, 223, 224, 887, 859, 860, 861, 862, 347, 348, 349, 888, 889, 890, 891, 892, 893, 894, 1082, 1083, 1084, 1085, 1086, 1087, 1088, 1089, 1090, 1106, 1107, 1125, 1126] (by decide +kernel) (by decide +kernel)) (goodIn_sub (fun _ h => List.mem_append_right _ h) (by decide +kernel))
set_option maxRecDepth 20000 in
theorem gL_law_L_fillings : GoodIn wsL_law (va_wsS RL 211 yL_fillings wsL_fillings) := goodIn_app (goodIn_of _ (by decide +kernel)) ggL_law_L_fillings
set_option maxRecDepth 20000 in
theorem ggL_law_X10_fillings : GoodIn wsL_law wsX10_fillings := goodIn_r _ [898, 113, 106, 388, 389, 5, 390, 151, 152, 153, 154, 155, 156, 157, 158, 328, 329, 330, 266, 267, 268, 269, 899, 900, 901, 902, 867, 868, 869, 439, 440, 441, 1091, 1092, 1093, 1094, 1095, 1096, 1097, 1098, 1099, 1100, 1101, 1102, 1103, 1104, 1105] (by decide +kernel) (by decide +kernel)
set_option maxRecDepth 20000 in
theorem gL_law_X10_fillings : GoodIn wsL_law (wsV RL 213 RX10 yX10_fillings wsX10_fillings) := goodIn_app (goodIn_of _ (by decide +kernel)) ggL_law_X10_fillings
set_option maxRecDepth 20000 in
theorem ggL_law_L_path : GoodIn wsL_law wsL_path := goodIn_ca (goodIn_ca (goodIn_r _ [905, 334, 119, 906, 907, 908, 2, 909, 39, 339, 340, 341, 342, 343, 344, 17, 345, 206, 207, 16, 208, 50, 51, 127, 128, 129, 130, 131, 910, 911, 912, 38, 913, 94, 95, 93, 914, 915, 916, 917, 918, 218, 219, 220, 919, 354, 355, 49, 356, 350, 222, 223, 224, 57, 920, 921, 380, 381, 382, 316, 210, 211, 212, 922, 923, 924, 925, 926, 481, 482, 927, 928, 929, 930, 931, 932, 933, 934, 1082, 1083, 1084, 1085, 1086, 1087, 1088, 1089, 1090, 1106, 1107, 1122, 1123, 1124, 1126] (by decide +kernel) (by decide +kernel)) (goodIn_sub (fun _ h => List.mem_append_right _ h) (by decide +kernel))) (goodIn_sub (fun _ h => List.mem_append_left _ (List.mem_append_right _ h)) (by decide +kernel))
set_option maxRecDepth 20000 in
theorem gL_law_L_path : GoodIn wsL_law (va_wsS RL 214 yL_path wsL_path) := goodIn_app (goodIn_of _ (by decide +kernel)) ggL_law_L_path
set_option maxRecDepth 20000 in
theorem ggL_law_X10_path : GoodIn wsL_law wsX10_path := goodIn_r _ [938, 106, 112, 388, 389, 5, 390, 151, 152, 153, 154, 155, 156, 157, 158, 266, 267, 268, 269, 270, 271, 272, 391, 392, 393, 1091, 1092, 1093, 1094, 1095, 1096, 1097, 1098, 1099, 1100, 1101, 1102, 1103, 1104, 1105] (by decide +kernel) (by decide +kernel)
set_option maxRecDepth 20000 in
theorem gL_law_X10_path : GoodIn wsL_law (wsV RL 216 RX10 yX10_path wsX10_path) := goodIn_app (goodIn_of _ (by decide +kernel)) ggL_law_X10_path
set_option maxRecDepth 20000 in
theorem ggL_law_L_ifInserted : GoodIn wsL_law wsL_ifInserted := goodIn_ca (goodIn_ca (goodIn_r _ [941, 334, 119, 942, 943, 944, 2, 945, 18, 339, 340, 341, 342, 343, 344, 17, 345, 206, 207, 16, 208, 50, 51, 127, 128, 129, 130, 131, 452, 453, 454, 49, 455, 456, 354, 355, 356, 350, 222, 223, 224, 57, 946, 478, 479, 480, 316, 210, 211, 212, 481, 482, 947, 293, 294, 295, 296, 297, 298, 299, 473, 474, 475, 476, 477, 483, 484, 485, 486, 487, 230, 231, 232, 488, 489, 490, 491, 948, 949, 950, 951, 952, 1082, 1083, 1084, 1085, 1086, 1087, 1088, 1089, 1090, 1106, 1107, 1126] (by decide +kernel) (by decide +kernel)) (goodIn_sub (fun _ h => List.mem_append_right _ h) (by decide +kernel))) (goodIn_sub (fun _ h => List.mem_append_left _ (List.mem_append_right _ h)) (by decide +kernel))
set_option maxRecDepth 20000 in
theorem gL_law_L_ifInserted : GoodIn wsL_law (va_wsS RL 217 yL_ifInserted wsL_ifInserted) := goodIn_app (goodIn_of _ (by decide +kernel)) ggL_law_L_ifInserted
set_option maxRecDepth 20000 in
theorem ggL_law_X10_ifInserted : GoodIn wsL_law wsX10_ifInserted := goodIn_r _ [956, 106, 107, 511, 388, 389, 5, 390, 151, 152, 153, 496, 497, 498, 499, 154, 155, 156, 157, 158, 500, 501, 502, 394, 395, 396, 266, 267, 268, 269, 322, 323, 324, 507, 508, 509, 510, 278, 279, 280, 512, 513, 514, 515, 270, 271, 272, 1091, 1092, 1093, 1094, 1095, 1096, 1097, 1098, 1099, 1100, 1101, 1102, 1103, 1104, 1105] (by decide +kernel) (by decide +kernel)
set_option maxRecDepth 20000 in
theorem gL_law_X10_ifInserted : GoodIn wsL_law (wsV RL 219 RX10 yX10_ifInserted wsX10_ifInserted) := goodIn_app (goodIn_of _ (by decide +kernel)) ggL_law_X10_ifInserted
set_option maxRecDepth 20000 in
theorem ggL_law_L_ifRemoved : GoodIn wsL_law wsL_ifRemoved := goodIn_ca (goodIn_r _ [959, 334, 960, 961, 962, 2, 963, 18, 413, 414, 415, 416, 343, 344, 339, 340, 341, 342, 17, 345, 206, 207, 16, 208, 50, 51, 353, 354, 355, 49, 356, 350, 222, 223, 224, 57, 947, 293, 294, 295, 296, 297, 298, 299, 523, 524, 525, 526, 487, 230, 231, 232, 527, 528, 529, 530, 531, 532, 533, 481, 482, 483, 484, 485, 486, 1082, 1083, 1084, 1085, 1086, 1087, 1088, 1089, 1090, 1106, 1107, 1126] (by decide +kernel) (by decide +kernel)) (goodIn_sub (fun _ h => List.mem_append_right _ h) (by decide +kernel))
set_option maxRecDepth 20000 in
theorem gL_law_L_ifRemoved : GoodIn wsL_law (va_wsS RL 220 yL_ifRemoved wsL_ifRemoved) := goodIn_app (goodIn_of _ (by decide +kernel)) ggL_law_L_ifRemoved
set_option maxRecDepth 20000 in
theorem ggL_law_X10_ifRemoved : GoodIn wsL_law wsX10_ifRemoved := goodIn_r _ [967, 106, 107, 421, 422, 423, 5, 424, 388, 389, 390, 151, 152, 153, 425, 426, 427, 266, 267, 268, 269, 154, 155, 156, 157, 158, 322, 323, 324, 538, 539, 540, 270, 271, 272, 278, 279, 280, 1091, 1092, 1093, 1094, 1095, 1096, 1097, 1098, 1099, 1100, 1101, 1102, 1103, 1104, 1105] (by decide +kernel) (by decide +kernel)
set_option maxRecDepth 20000 in
theorem gL_law_X10_ifRemoved : GoodIn wsL_law (wsV RL 222 RX10 yX10_ifRemoved wsX10_ifRemoved) := goodIn_app (goodIn_of _ (by decide +kernel)) ggL_law_X10_ifRemoved
set_option maxRecDepth 20000 in
theorem ggL_law_L_runScript : GoodIn wsL_law wsL_runScript := goodIn_ca (goodIn_r _ [970, 119, 971, 972, 973, 2, 974, 130, 131, 18, 17, 127, 128, 129, 975, 976, 977, 978, 979, 288, 289, 290, 16, 291, 50, 51, 292, 293, 294, 49, 295, 57, 296, 297, 298, 299, 980, 981, 982, 983, 984, 985, 986, 987, 988, 483, 484, 485, 486, 989, 206, 207, 208, 990, 354, 355, 356, 350, 222, 223, 224, 991, 524, 525, 526, 487, 230, 231, 232, 527, 528, 529, 530, 531, 532, 533, 481, 482, 992, 453, 454, 455, 456, 993, 567, 568, 569, 570, 571, 572, 573, 474, 475, 476, 477, 478, 479, 480, 316, 210, 211, 212, 488, 489, 490, 491, 994, 995, 996, 997, 586, 587, 588, 998, 808, 809, 810, 811, 788, 652, 653, 654, 655, 656, 657, 658, 659, 660, 661, 999, 1000, 1001, 1002, 1003, 313, 314, 315, 1004, 1005, 359, 360, 361, 362, 218, 219, 220, 1082, 1083, 1084, 1085, 1086, 1087, 1088, 1089, 1090, 1106, 1107, 1126] (by decide +kernel) (by decide +kernel)) (goodIn_sub (fun _ h => List.mem_append_left _ (List.mem_append_right _ h)) (by decide +kernel))
set_option maxRecDepth 20000 in
theorem gL_law_L_runScript : GoodIn wsL_law (va_wsS RL 225 yL_runScript wsL_runScript) := goodIn_app (goodIn_of _ (by decide +kernel)) ggL_law_L_runScript
set_option maxRecDepth 20000 in
theorem ggL_law_X10_runScript : GoodIn wsL_law wsX10_runScript := goodIn_r _ [1009, 1010, 106, 107, 1011, 151, 152, 5, 153, 1012, 1013, 1014, 1015, 154, 155, 156, 157, 158, 322, 323, 324, 1016, 1017, 1018, 1019, 817, 818, 819, 266, 267, 268, 269, 270, 271, 272, 797, 798, 799, 666, 667, 668, 388, 389, 390, 500, 501, 502, 394, 395, 396, 507, 508, 509, 510, 511, 278, 279, 280, 512, 513, 514, 515, 425, 426, 427, 538, 539, 540, 593, 594, 595, 596, 114, 439, 440, 441, 328, 329, 330, 1020, 1021, 1022, 400, 401, 402, 1091, 1092, 1093, 1094, 1095, 1096, 1097, 1098, 1099, 1100, 1101, 1102, 1103, 1104, 1105] (by decide +kernel) (by decide +kernel)
set_option maxRecDepth 20000 in
theorem gL_law_X10_runScript : GoodIn wsL_law (wsV RL 228 RX10 yX10_runScript wsX10_runScript) := goodIn_app (goodIn_of _ (by decide +kernel)) ggL_law_X10_runScript
set_option maxRecDepth 20000 in
theorem ggL_law_L_simulate : GoodIn wsL_law wsL_simulate := goodIn_ca (goodIn_r _ [1025, 119, 1026, 1027, 1028, 2, 1029, 18, 17, 1030, 1031, 127, 128, 129, 130, 131, 288, 289, 290, 16, 291, 50, 51, 292, 293, 294, 49, 295, 57, 296, 297, 298, 299, 1032, 1033, 1034, 1035, 345, 206, 207, 208, 352, 313, 314, 315, 316, 210, 211, 212, 699, 700, 701, 702, 703, 704, 705, 706, 707, 708, 709, 710, 655, 656, 657, 658, 350, 222, 223, 224, 659, 660, 661, 711, 652, 653, 654, 481, 482, 951, 483, 484, 952, 485, 486, 523, 524, 525, 526, 487, 230, 231, 232, 527, 528, 529, 530, 531, 532, 533, 452, 453, 454, 455, 456, 354, 355, 356, 473, 474, 475, 476, 477, 478, 479, 480, 488, 489, 490, 491, 363, 364, 365, 366, 1082, 1083, 1084, 1085, 1086, 1087, 1088, 1089, 1090, 1106, 1107, 1126] (by decide +kernel) (by decide +kernel)) (goodIn_sub (fun _ h => List.mem_append_left _ (List.mem_append_right _ h)) (by decide +kernel))
set_option maxRecDepth 20000 in
theorem gL_law_L_simulate : GoodIn wsL_law (va_wsS RL 229 yL_simulate wsL_simulate) := goodIn_app (goodIn_of _ (by decide +kernel)) ggL_law_L_simulate
set_option maxRecDepth 20000 in
theorem ggL_law_X10_simulate : GoodIn wsL_law wsX10_simulate := goodIn_r _ [1039, 1040, 106, 107, 1041, 1042, 151, 152, 5, 153, 154, 155, 156, 157, 158, 322, 323, 324, 328, 329, 330, 266, 267, 268, 269, 717, 718, 719, 720, 721, 722, 270, 271, 272, 538, 539, 540, 425, 426, 427, 278, 279, 280, 500, 501, 502, 394, 395, 396, 507, 508, 509, 510, 511, 512, 513, 514, 515, 403, 404, 405, 1091, 1092, 1093, 1094, 1095, 1096, 1097, 1098, 1099, 1100, 1101, 1102, 1103, 1104, 1105] (by decide +kernel) (by decide +kernel)
set_option maxRecDepth 20000 in
theorem gL_law_X10_simulate : GoodIn wsL_law (wsV RL 232 RX10 yX10_simulate wsX10_simulate) := goodIn_app (goodIn_of _ (by decide +kernel)) ggL_law_X10_simulate
set_option maxRecDepth 20000 in
theorem ggL_law_L_save : GoodIn wsL_law wsL_save := goodIn_ca (goodIn_r _ [1045, 334, 1046, 1047, 1048, 2, 1049, 17, 1050, 1051, 1052, 1053, 343, 344, 34, 35, 1054, 1055, 1056, 33, 1057, 88, 89, 1058, 289, 290, 16, 291, 50, 51, 292, 293, 294, 49, 295, 57, 296, 297, 298, 299, 308, 309, 310, 311, 312, 313, 314, 315, 316, 210, 211, 212, 1082, 1083, 1084, 1085, 1086, 1087, 1088, 1089, 1090, 1120, 1121, 1106, 1107, 1126] (by decide +kernel) (by decide +kernel)) (goodIn_sub (fun _ h => List.mem_append_right _ h) (by decide +kernel))
set_option maxRecDepth 20000 in
theorem gL_law_L_save : GoodIn wsL_law (va_wsS RL 233 yL_save wsL_save) := goodIn_app (goodIn_of _ (by decide +kernel)) ggL_law_L_save
set_option maxRecDepth 20000 in
theorem ggL_law_X10_save : GoodIn wsL_law wsX10_save := goodIn_r _ [1062, 111, 106, 109, 151, 152, 5, 153, 154, 155, 156, 157, 158, 322, 323, 324, 325, 326, 327, 328, 329, 330, 266, 267, 268, 269, 1091, 1092, 1093, 1094, 1095, 1096, 1097, 1098, 1099, 1100, 1101, 1102, 1103, 1104, 1105] (by decide +kernel) (by decide +kernel)
set_option maxRecDepth 20000 in
theorem gL_law_X10_save : GoodIn wsL_law (wsV RL 235 RX10 yX10_save wsX10_save) := goodIn_app (goodIn_of _ (by decide +kernel)) ggL_law_X10_save
set_option maxRecDepth 20000 in
theorem ggL_law_L_restore : GoodIn wsL_law wsL_restore := goodIn_ca (goodIn_ca (goodIn_r _ [1065, 334, 120, 1066, 1067, 1068, 2, 1069, 125, 126, 17, 22, 1050, 1051, 1052, 1053, 343, 344, 34, 35, 1070, 1071, 1072, 33, 1073, 89, 1074, 1075, 1076, 1077, 88, 288, 289, 290, 16, 291, 50, 51, 292, 293, 294, 49, 295, 57, 296, 297, 298, 299, 300, 301, 302, 21, 303, 67, 308, 309, 310, 311, 312, 313, 314, 315, 316, 210, 211, 212, 1082, 1083, 1084, 1085, 1086, 1087, 1088, 1089, 1090, 1120, 1121, 1106, 1107, 1126, 1108, 1109, 1110] (by decide +kernel) (by decide +kernel)) (goodIn_sub (fun _ h => List.mem_append_left _ (List.mem_append_left _ (List.mem_append_right _ h))) (by decide +kernel))) (goodIn_sub (fun _ h => List.mem_append_right _ h) (by decide +kernel))
set_option maxRecDepth 20000 in
theorem gL_law_L_restore : GoodIn wsL_law (va_wsS RL 236 yL_restore wsL_restore) := goodIn_app (goodIn_of _ (by decide +kernel)) ggL_law_L_restore
set_option maxRecDepth 20000 in
theorem ggL_law_X10_restore : GoodIn wsL_law wsX10_restore := goodIn_r _ [1081, 111, 109, 106, 321, 151, 152, 5, 153, 154, 155, 156, 157, 158, 322, 323, 324, 325, 326, 327, 328, 329, 330, 266, 267, 268, 269, 1091, 1092, 1093, 1094, 1095, 1096, 1097, 1098, 1099, 1100, 1101, 1102, 1103, 1104, 1105] (by decide +kernel) (by decide +kernel)
set_option maxRecDepth 20000 in
theorem gL_law_X10_restore : GoodIn wsL_law (wsV RL 238 RX10 yX10_restore wsX10_restore) := goodIn_app (goodIn_of _ (by decide +kernel)) ggL_law_X10_restore
