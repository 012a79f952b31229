set_option maxRecDepth 20000 in
theorem ggL_law_X9_init : GoodIn wsL_law wsX9_init := goodIn_r _ [10, 11, 12, 13, 14, 15, 16, 17, 18, 19, 20, 21, 22, 23, 24, 25, 26, 27, 28, 29, 30, 31, 32, 33, 34, 35, 36, 37, 38, 39, 40, 41, 42, 43, 44, 45, 46, 47, 48, 49, 50, 51, 52, 53, 54, 55, 56, 57, 58, 59, 60, 61, 62, 63, 64, 65, 66, 67, 68, 69, 70, 71, 72, 73, 74, 75, 76, 77, 78, 79, 80, 81, 82, 83, 84, 85, 86, 87, 88, 89, 90, 91, 92, 93, 94, 95, 96, 97, 98, 99, 1106, 1107, 1082, 1083, 1084, 1085, 1086, 1087, 1088, 1089, 1090, 1108, 1109, 1110, 1111, 1112, 1113, 1114, 1115, 1116, 1117, 1118, 1119, 1120, 1121, 1122, 1123, 1124, 1125, 1126] (by decide +kernel) (by decide +kernel)
set_option maxRecDepth 20000 in
theorem gL_law_X9_init : GoodIn wsL_law (wsX9_init) := ggL_law_X9_init
set_option maxRecDepth 20000 in
theorem ggL_law_X10_init : GoodIn wsL_law wsX10_init := goodIn_r _ [102, 103, 12, 13, 56, 104, 105, 106, 107, 108, 109, 110, 111, 112, 113, 114, 1091, 1092, 1093, 1094, 1095, 1096, 1097, 1098, 1099, 1100, 1101, 1102, 1103, 1104, 1105] (by decide +kernel) (by decide +kernel)
set_option maxRecDepth 20000 in
theorem gL_law_X10_init : GoodIn wsL_law (wsX10_init) := ggL_law_X10_init
set_option maxRecDepth 20000 in
theorem ggL_law_L_append : GoodIn wsL_law wsL_append := goodIn_ca (goodIn_ca (goodIn_r _ [118, 119, 120, 121, 122, 123, 2, 124, 125, 126, 26, 127, 128, 129, 130, 131, 132, 133, 134, 25, 135, 72, 136, 137, 138, 139, 71, 140, 141, 142, 143, 144, 1082, 1083, 1084, 1085, 1086, 1087, 1088, 1089, 1090, 1111, 1112] (by decide +kernel) (by decide +kernel)) (goodIn_sub (fun _ h => List.mem_append_left _ (List.mem_append_left _ (List.mem_append_right _ h))) (by decide +kernel))) (goodIn_sub (fun _ h => List.mem_append_left _ (List.mem_append_right _ h)) (by decide +kernel))
set_option maxRecDepth 20000 in
theorem gL_law_L_append : GoodIn wsL_law (va_wsS RL 120 yL_append wsL_append) := goodIn_app (goodIn_of _ (by decide +kernel)) ggL_law_L_append
set_option maxRecDepth 20000 in
theorem ggL_law_X10_append : GoodIn wsL_law wsX10_append := goodIn_r _ [148, 149, 150, 104, 151, 152, 5, 153, 154, 155, 156, 157, 158, 1091, 1092, 1093, 1094, 1095, 1096, 1097, 1098, 1099, 1100, 1101, 1102, 1103, 1104, 1105] (by decide +kernel) (by decide +kernel)
set_option maxRecDepth 20000 in
theorem gL_law_X10_append : GoodIn wsL_law (wsV RL 125 RX10 yX10_append wsX10_append) := goodIn_app (goodIn_of _ (by decide +kernel)) ggL_law_X10_append
set_option maxRecDepth 20000 in
theorem ggL_law_X10_thrown : GoodIn wsL_law wsX10_thrown := goodIn_r _ [162, 158, 1091, 1092, 1093, 1094, 1095, 1096, 1097, 1098, 1099, 1100, 1101, 1102, 1103, 1104, 1105] (by decide +kernel) (by decide +kernel)
set_option maxRecDepth 20000 in
theorem gL_law_X10_thrown : GoodIn wsL_law (wsV RL 126 RX10 yX10_thrown wsX10_thrown) := goodIn_app (goodIn_of _ (by decide +kernel)) ggL_law_X10_thrown
set_option maxRecDepth 20000 in
theorem ggL_law_X9_clearText : GoodIn wsL_law wsX9_clearText := goodIn_r _ [166, 26, 141, 142, 143, 25, 144, 72, 167, 168, 169, 170, 1082, 1083, 1084, 1085, 1086, 1087, 1088, 1089, 1090, 1111, 1112] (by decide +kernel) (by decide +kernel)
set_option maxRecDepth 20000 in
theorem gL_law_X9_clearText : GoodIn wsL_law (wsV RL 129 RX9 yX9_clearText wsX9_clearText) := goodIn_app (goodIn_of _ (by decide +kernel)) ggL_law_X9_clearText
set_option maxRecDepth 20000 in
theorem ggL_law_X10_clearText : GoodIn wsL_law wsX10_clearText := goodIn_r _ [174, 158, 150, 1091, 1092, 1093, 1094, 1095, 1096, 1097, 1098, 1099, 1100, 1101, 1102, 1103, 1104, 1105] (by decide +kernel) (by decide +kernel)
set_option maxRecDepth 20000 in
theorem gL_law_X10_clearText : GoodIn wsL_law (wsV RL 132 RX10 yX10_clearText wsX10_clearText) := goodIn_app (goodIn_of _ (by decide +kernel)) ggL_law_X10_clearText
set_option maxRecDepth 20000 in
theorem ggL_law_X9_errorPosition : GoodIn wsL_law wsX9_errorPosition := goodIn_r _ [178, 30, 179, 180, 181, 29, 182, 83, 77, 82, 78, 183, 184, 185, 16, 186, 50, 51, 187, 59, 60, 49, 61, 57, 188, 189, 190, 191, 79, 80, 81, 192, 142, 143, 25, 144, 72, 193, 194, 195, 196, 71, 197, 198, 199, 200, 201, 202, 203, 204, 205, 206, 207, 208, 209, 210, 211, 212, 213, 214, 215, 216, 217, 218, 219, 220, 221, 222, 223, 224, 225, 226, 227, 228, 229, 230, 231, 232, 233, 234, 235, 236, 237, 238, 239, 240, 241, 242, 243, 244, 1082, 1083, 1084, 1085, 1086, 1087, 1088, 1089, 1090, 1113, 1114, 1115, 1116, 1117, 1118, 1119, 1106, 1107, 1126, 1111, 1112] (by decide +kernel) (by decide +kernel)
set_option maxRecDepth 20000 in
theorem gL_law_X9_errorPosition : GoodIn wsL_law (wsV RL 133 RX9 yX9_errorPosition wsX9_errorPosition) := goodIn_app (goodIn_of _ (by decide +kernel)) ggL_law_X9_errorPosition
set_option maxRecDepth 20000 in
theorem ggL_law_X10_errorPosition : GoodIn wsL_law wsX10_errorPosition := goodIn_r _ [248, 158, 249, 250, 251, 5, 252, 105, 253, 150, 254, 255, 256, 257, 104, 258, 259, 260, 261, 262, 263, 264, 265, 266, 267, 268, 269, 151, 152, 153, 270, 271, 272, 273, 274, 275, 276, 277, 278, 279, 280, 1091, 1092, 1093, 1094, 1095, 1096, 1097, 1098, 1099, 1100, 1101, 1102, 1103, 1104, 1105] (by decide +kernel) (by decide +kernel)
set_option maxRecDepth 20000 in
theorem gL_law_X10_errorPosition : GoodIn wsL_law (wsV RL 136 RX10 yX10_errorPosition wsX10_errorPosition) := goodIn_app (goodIn_of _ (by decide +kernel)) ggL_law_X10_errorPosition
set_option maxRecDepth 20000 in
theorem ggL_law_L_load : GoodIn wsL_law wsL_load := goodIn_ca (goodIn_r _ [283, 120, 284, 285, 286, 2, 287, 125, 126, 30, 17, 18, 22, 34, 35, 179, 180, 181, 29, 182, 83, 77, 82, 78, 183, 184, 185, 16, 186, 50, 51, 187, 59, 60, 49, 61, 57, 188, 189, 190, 191, 79, 80, 81, 192, 142, 143, 25, 144, 72, 193, 194, 195, 196, 71, 197, 198, 199, 200, 201, 202, 203, 204, 205, 206, 207, 208, 209, 210, 211, 212, 213, 214, 215, 216, 217, 218, 219, 220, 221, 222, 223, 224, 225, 226, 227, 228, 229, 230, 231, 232, 233, 234, 235, 236, 237, 238, 239, 240, 241, 242, 243, 244, 288, 289, 290, 291, 292, 293, 294, 295, 296, 297, 298, 299, 300, 301, 302, 21, 303, 67, 304, 305, 306, 33, 307, 89, 308, 309, 310, 311, 312, 313, 314, 315, 316, 1082, 1083, 1084, 1085, 1086, 1087, 1088, 1089, 1090, 1113, 1114, 1115, 1116, 1117, 1118, 1119, 1106, 1107, 1126, 1111, 1112, 1108, 1109, 1110, 1120, 1121] (by decide +kernel) (by decide +kernel)) (goodIn_sub (fun _ h => List.mem_append_left _ (List.mem_append_left _ (List.mem_append_right _ h))) (by decide +kernel))
set_option maxRecDepth 20000 in
theorem gL_law_L_load : GoodIn wsL_law (va_wsS RL 137 yL_load wsL_load) := goodIn_app (goodIn_of _ (by decide +kernel)) ggL_law_L_load
set_option maxRecDepth 20000 in
theorem ggL_law_X10_load : GoodIn wsL_law wsX10_load := goodIn_r _ [320, 105, 106, 321, 111, 249, 250, 251, 5, 252, 253, 150, 254, 255, 256, 257, 104, 258, 259, 260, 261, 262, 263, 264, 265, 266, 267, 268, 269, 151, 152, 153, 270, 271, 272, 273, 274, 275, 276, 277, 278, 279, 280, 154, 155, 156, 157, 158, 322, 323, 324, 325, 326, 327, 328, 329, 330, 1091, 1092, 1093, 1094, 1095, 1096, 1097, 1098, 1099, 1100, 1101, 1102, 1103, 1104, 1105] (by decide +kernel) (by decide +kernel)
set_option maxRecDepth 20000 in
theorem gL_law_X10_load : GoodIn wsL_law (wsV RL 140 RX10 yX10_load wsX10_load) := goodIn_app (goodIn_of _ (by decide +kernel)) ggL_law_X10_load
set_option maxRecDepth 20000 in
theorem ggL_law_L_about : GoodIn wsL_law wsL_about := goodIn_ca (goodIn_ca (goodIn_r _ [333, 334, 119, 335, 336, 337, 2, 338, 339, 340, 341, 342, 343, 344, 17, 345, 206, 207, 16, 208, 50, 51, 127, 128, 129, 130, 131, 346, 347, 348, 49, 349, 350, 222, 223, 224, 57, 351, 210, 211, 212, 352, 313, 314, 315, 316, 353, 354, 355, 356, 357, 358, 359, 360, 361, 362, 218, 219, 220, 363, 364, 365, 366, 367, 368, 369, 370, 371, 372, 373, 374, 375, 376, 377, 378, 379, 380, 381, 382, 1082, 1083, 1084, 1085, 1086, 1087, 1088, 1089, 1090, 1106, 1107, 1126] (by decide +kernel) (by decide +kernel)) (goodIn_sub (fun _ h => List.mem_append_right _ h) (by decide +kernel))) (goodIn_sub (fun _ h => List.mem_append_left _ (List.mem_append_right _ h)) (by decide +kernel))
set_option maxRecDepth 20000 in
theorem gL_law_L_about : GoodIn wsL_law (va_wsS RL 141 yL_about wsL_about) := goodIn_app (goodIn_of _ (by decide +kernel)) ggL_law_L_about
set_option maxRecDepth 20000 in
theorem ggL_law_X10_about : GoodIn wsL_law wsX10_about := goodIn_r _ [386, 387, 106, 388, 389, 5, 390, 151, 152, 153, 154, 155, 156, 157, 158, 391, 392, 393, 266, 267, 268, 269, 394, 395, 396, 397, 398, 399, 328, 329, 330, 400, 401, 402, 270, 271, 272, 403, 404, 405, 1091, 1092, 1093, 1094, 1095, 1096, 1097, 1098, 1099, 1100, 1101, 1102, 1103, 1104, 1105] (by decide +kernel) (by decide +kernel)
set_option maxRecDepth 20000 in
theorem gL_law_X10_about : GoodIn wsL_law (wsV RL 144 RX10 yX10_about wsX10_about) := goodIn_app (goodIn_of _ (by decide +kernel)) ggL_law_X10_about
set_option maxRecDepth 20000 in
theorem ggL_law_L_cell : GoodIn wsL_law wsL_cell := goodIn_ca (goodIn_r _ [408, 334, 409, 410, 411, 2, 412, 413, 414, 415, 416, 343, 344, 339, 340, 341, 342, 17, 345, 206, 207, 16, 208, 50, 51, 353, 354, 355, 49, 356, 350, 222, 223, 224, 57, 357, 1082, 1083, 1084, 1085, 1086, 1087, 1088, 1089, 1090, 1106, 1107, 1126] (by decide +kernel) (by decide +kernel)) (goodIn_sub (fun _ h => List.mem_append_right _ h) (by decide +kernel))
set_option maxRecDepth 20000 in
theorem gL_law_L_cell : GoodIn wsL_law (va_wsS RL 145 yL_cell wsL_cell) := goodIn_app (goodIn_of _ (by decide +kernel)) ggL_law_L_cell
set_option maxRecDepth 20000 in
theorem ggL_law_X10_cell : GoodIn wsL_law wsX10_cell := goodIn_r _ [420, 106, 421, 422, 423, 5, 424, 388, 389, 390, 151, 152, 153, 425, 426, 427, 266, 267, 268, 269, 154, 155, 156, 157, 158, 270, 271, 272, 1091, 1092, 1093, 1094, 1095, 1096, 1097, 1098, 1099, 1100, 1101, 1102, 1103, 1104, 1105] (by decide +kernel) (by decide +kernel)
set_option maxRecDepth 20000 in
theorem gL_law_X10_cell : GoodIn wsL_law (wsV RL 148 RX10 yX10_cell wsX10_cell) := goodIn_app (goodIn_of _ (by decide +kernel)) ggL_law_X10_cell
set_option maxRecDepth 20000 in
theorem ggL_law_L_size : GoodIn wsL_law wsL_size := goodIn_ca (goodIn_ca (goodIn_r _ [430, 334, 119, 431, 432, 433, 2, 434, 339, 340, 341, 342, 343, 344, 17, 345, 206, 207, 16, 208, 50, 51, 127, 128, 129, 130, 131, 346, 347, 348, 49, 349, 350, 222, 223, 224, 57, 351, 210, 211, 212, 1082, 1083, 1084, 1085, 1086, 1087, 1088, 1089, 1090, 1106, 1107, 1126] (by decide +kernel) (by decide +kernel)) (goodIn_sub (fun _ h => List.mem_append_right _ h) (by decide +kernel))) (goodIn_sub (fun _ h => List.mem_append_left _ (List.mem_append_right _ h)) (by decide +kernel))
set_option maxRecDepth 20000 in
theorem gL_law_L_size : GoodIn wsL_law (va_wsS RL 149 yL_size wsL_size) := goodIn_app (goodIn_of _ (by decide +kernel)) ggL_law_L_size
set_option maxRecDepth 20000 in
theorem ggL_law_X10_size : GoodIn wsL_law wsX10_size := goodIn_r _ [438, 269, 106, 388, 389, 5, 390, 151, 152, 153, 154, 155, 156, 157, 158, 439, 440, 441, 266, 267, 268, 1091, 1092, 1093, 1094, 1095, 1096, 1097, 1098, 1099, 1100, 1101, 1102, 1103, 1104, 1105] (by decide +kernel) (by decide +kernel)
set_option maxRecDepth 20000 in
theorem gL_law_X10_size : GoodIn wsL_law (wsV RL 152 RX10 yX10_size wsX10_size) := goodIn_app (goodIn_of _ (by decide +kernel)) ggL_law_X10_size
set_option maxRecDepth 20000 in
theorem ggL_law_L_insert : GoodIn wsL_law wsL_insert := goodIn_ca (goodIn_ca (goodIn_ca (goodIn_r _ [444, 334, 119, 120, 445, 446, 447, 2, 448, 22, 17, 339, 340, 341, 342, 343, 344, 345, 206, 207, 16, 208, 50, 51, 127, 128, 129, 130, 131, 449, 450, 451, 125, 126, 452, 453, 454, 49, 455, 456, 354, 355, 356, 350, 222, 223, 224, 57, 457, 458, 459, 21, 460, 67, 66, 65, 461, 462, 463, 464, 465, 466, 467, 468, 469, 470, 471, 472, 296, 297, 298, 299, 473, 474, 475, 476, 477, 478, 479, 480, 316, 210, 211, 212, 481, 482, 483, 484, 485, 486, 487, 230, 231, 232, 488, 489, 490, 491, 1082, 1083, 1084, 1085, 1086, 1087, 1088, 1089, 1090, 1106, 1107, 1126, 1108, 1109, 1110] (by decide +kernel) (by decide +kernel)) (goodIn_sub (fun _ h => List.mem_append_right _ h) (by decide +kernel))) (goodIn_sub (fun _ h => List.mem_append_left _ (List.mem_append_right _ h)) (by decide +kernel))) (goodIn_sub (fun _ h => List.mem_append_left _ (List.mem_append_left _ (List.mem_append_right _ h))) (by decide +kernel))
