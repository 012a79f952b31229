set_option maxRecDepth 20000 in
theorem ggL_law_X9_init : GoodIn wsL_law wsX9_init := goodIn_r _ [10, 11, 12, 13, 14, 15, 16, 17, 18, 19, 20, 21, 22, 23, 24, 25, 26, 27, 28, 29, 30, 31, 32, 33, 34, 35, 36, 37, 38, 39, 40, 41, 42, 43, 44, 45, 46, 47, 48, 49, 50, 51, 52, 53, 54, 55, 56, 57, 58, 59, 60, 61, 62, 63, 64, 65, 66, 67, 68, 69, 70, 71, 72, 73, 74, 75, 76, 77, 78, 79, 80, 81, 82, 83, 84, 85, 86, 87, 88, 89, 90, 91, 92, 93, 94, 95, 96, 97, 98, 1108, 1109, 1084, 1085, 1086, 1087, 1088, 1089, 1090, 1091, 1092, 1110, 1111, 1112, 1113, 1114, 1115, 1116, 1117, 1118, 1119, 1120, 1121, 1122, 1123, 1124, 1125, 1126, 1127] (by decide +kernel) (by decide +kernel)
set_option maxRecDepth 20000 in
theorem gL_law_X9_init : GoodIn wsL_law (wsX9_init) := ggL_law_X9_init
set_option maxRecDepth 20000 in
theorem ggL_law_X10_init : GoodIn wsL_law wsX10_init := goodIn_r _ [101, 102, 12, 13, 56, 103, 104, 105, 106, 107, 108, 109, 110, 111, 112, 113, 1093, 1094, 1095, 1096, 1097, 1098, 1099, 1100, 1101, 1102, 1103, 1104, 1105, 1106, 1107] (by decide +kernel) (by decide +kernel)
set_option maxRecDepth 20000 in
theorem gL_law_X10_init : GoodIn wsL_law (wsX10_init) := ggL_law_X10_init
set_option maxRecDepth 20000 in
theorem ggL_law_L_append : GoodIn wsL_law wsL_append := goodIn_ca (goodIn_ca (goodIn_r _ [117, 118, 119, 120, 121, 122, 2, 123, 124, 125, 26, 126, 127, 128, 129, 130, 131, 132, 133, 25, 134, 72, 135, 136, 137, 138, 71, 139, 140, 141, 142, 143, 1084, 1085, 1086, 1087, 1088, 1089, 1090, 1091, 1092, 1113, 1114] (by decide +kernel) (by decide +kernel)) (goodIn_sub (fun _ h => List.mem_append_left _ (List.mem_append_left _ (List.mem_append_right _ h))) (by decide +kernel))) (goodIn_sub (fun _ h => List.mem_append_left _ (List.mem_append_right _ h)) (by decide +kernel))
set_option maxRecDepth 20000 in
theorem gL_law_L_append : GoodIn wsL_law (va_wsS RL 120 yL_append wsL_append) := goodIn_app (goodIn_of _ (by decide +kernel)) ggL_law_L_append
set_option maxRecDepth 20000 in
theorem ggL_law_X10_append : GoodIn wsL_law wsX10_append := goodIn_r _ [147, 148, 149, 103, 150, 151, 5, 152, 153, 154, 155, 156, 157, 1093, 1094, 1095, 1096, 1097, 1098, 1099, 1100, 1101, 1102, 1103, 1104, 1105, 1106, 1107] (by decide +kernel) (by decide +kernel)
set_option maxRecDepth 20000 in
theorem gL_law_X10_append : GoodIn wsL_law (wsV RL 125 RX10 yX10_append wsX10_append) := goodIn_app (goodIn_of _ (by decide +kernel)) ggL_law_X10_append
set_option maxRecDepth 20000 in
theorem ggL_law_X10_thrown : GoodIn wsL_law wsX10_thrown := goodIn_r _ [161, 157, 1093, 1094, 1095, 1096, 1097, 1098, 1099, 1100, 1101, 1102, 1103, 1104, 1105, 1106, 1107] (by decide +kernel) (by decide +kernel)
set_option maxRecDepth 20000 in
theorem gL_law_X10_thrown : GoodIn wsL_law (wsV RL 126 RX10 yX10_thrown wsX10_thrown) := goodIn_app (goodIn_of _ (by decide +kernel)) ggL_law_X10_thrown
set_option maxRecDepth 20000 in
theorem ggL_law_X9_clearText : GoodIn wsL_law wsX9_clearText := goodIn_r _ [165, 26, 140, 141, 142, 25, 143, 72, 166, 167, 168, 169, 1084, 1085, 1086, 1087, 1088, 1089, 1090, 1091, 1092, 1113, 1114] (by decide +kernel) (by decide +kernel)
set_option maxRecDepth 20000 in
theorem gL_law_X9_clearText : GoodIn wsL_law (wsV RL 129 RX9 yX9_clearText wsX9_clearText) := goodIn_app (goodIn_of _ (by decide +kernel)) ggL_law_X9_clearText
set_option maxRecDepth 20000 in
theorem ggL_law_X10_clearText : GoodIn wsL_law wsX10_clearText := goodIn_r _ [173, 157, 149, 1093, 1094, 1095, 1096, 1097, 1098, 1099, 1100, 1101, 1102, 1103, 1104, 1105, 1106, 1107] (by decide +kernel) (by decide +kernel)
set_option maxRecDepth 20000 in
theorem gL_law_X10_clearText : GoodIn wsL_law (wsV RL 132 RX10 yX10_clearText wsX10_clearText) := goodIn_app (goodIn_of _ (by decide +kernel)) ggL_law_X10_clearText
set_option maxRecDepth 20000 in
theorem ggL_law_X9_errorPosition : GoodIn wsL_law wsX9_errorPosition := goodIn_r _ [177, 30, 26, 178, 179, 180, 29, 181, 77, 78, 79, 182, 183, 184, 16, 185, 50, 51, 186, 59, 60, 49, 61, 57, 187, 188, 189, 190, 80, 81, 82, 191, 141, 142, 25, 143, 72, 192, 193, 194, 195, 71, 196, 197, 198, 199, 200, 201, 202, 203, 204, 205, 206, 207, 208, 209, 210, 211, 212, 213, 214, 215, 216, 217, 218, 219, 220, 221, 222, 223, 224, 225, 226, 227, 228, 229, 230, 231, 232, 233, 234, 235, 236, 237, 238, 239, 240, 241, 242, 243, 1084, 1085, 1086, 1087, 1088, 1089, 1090, 1091, 1092, 1115, 1116, 1117, 1118, 1119, 1120, 1108, 1109, 1127, 1113, 1114] (by decide +kernel) (by decide +kernel)
set_option maxRecDepth 20000 in
theorem gL_law_X9_errorPosition : GoodIn wsL_law (wsV RL 133 RX9 yX9_errorPosition wsX9_errorPosition) := goodIn_app (goodIn_of _ (by decide +kernel)) ggL_law_X9_errorPosition
set_option maxRecDepth 20000 in
theorem ggL_law_X10_errorPosition : GoodIn wsL_law wsX10_errorPosition := goodIn_r _ [247, 157, 248, 249, 250, 5, 251, 104, 252, 149, 253, 254, 255, 256, 103, 257, 258, 259, 260, 261, 262, 263, 264, 265, 266, 267, 268, 150, 151, 152, 269, 270, 271, 272, 273, 274, 275, 276, 277, 278, 279, 1093, 1094, 1095, 1096, 1097, 1098, 1099, 1100, 1101, 1102, 1103, 1104, 1105, 1106, 1107] (by decide +kernel) (by decide +kernel)
set_option maxRecDepth 20000 in
theorem gL_law_X10_errorPosition : GoodIn wsL_law (wsV RL 136 RX10 yX10_errorPosition wsX10_errorPosition) := goodIn_app (goodIn_of _ (by decide +kernel)) ggL_law_X10_errorPosition
set_option maxRecDepth 20000 in
theorem ggL_law_L_load : GoodIn wsL_law wsL_load := goodIn_ca (goodIn_r _ [282, 119, 283, 284, 285, 2, 286, 124, 125, 30, 26, 17, 22, 34, 35, 178, 179, 180, 29, 181, 77, 78, 79, 182, 183, 184, 16, 185, 50, 51, 186, 59, 60, 49, 61, 57, 187, 188, 189, 190, 80, 81, 82, 191, 141, 142, 25, 143, 72, 192, 193, 194, 195, 71, 196, 197, 198, 199, 200, 201, 202, 203, 204, 205, 206, 207, 208, 209, 210, 211, 212, 213, 214, 215, 216, 217, 218, 219, 220, 221, 222, 223, 224, 225, 226, 227, 228, 229, 230, 231, 232, 233, 234, 235, 236, 237, 238, 239, 240, 241, 242, 243, 287, 288, 289, 290, 291, 292, 293, 294, 295, 296, 297, 298, 299, 300, 301, 302, 303, 304, 305, 21, 306, 67, 307, 308, 309, 33, 310, 88, 311, 312, 313, 314, 315, 316, 317, 318, 319, 1084, 1085, 1086, 1087, 1088, 1089, 1090, 1091, 1092, 1115, 1116, 1117, 1118, 1119, 1120, 1108, 1109, 1127, 1113, 1114, 1110, 1111, 1112, 1121, 1122] (by decide +kernel) (by decide +kernel)) (goodIn_sub (fun _ h => List.mem_append_left _ (List.mem_append_left _ (List.mem_append_right _ h))) (by decide +kernel))
set_option maxRecDepth 20000 in
theorem gL_law_L_load : GoodIn wsL_law (va_wsS RL 137 yL_load wsL_load) := goodIn_app (goodIn_of _ (by decide +kernel)) ggL_law_L_load
set_option maxRecDepth 20000 in
theorem ggL_law_X10_load : GoodIn wsL_law wsX10_load := goodIn_r _ [323, 104, 105, 324, 110, 248, 249, 250, 5, 251, 252, 149, 253, 254, 255, 256, 103, 257, 258, 259, 260, 261, 262, 263, 264, 265, 266, 267, 268, 150, 151, 152, 269, 270, 271, 272, 273, 274, 275, 276, 277, 278, 279, 153, 154, 155, 156, 157, 325, 326, 327, 328, 329, 330, 331, 332, 333, 1093, 1094, 1095, 1096, 1097, 1098, 1099, 1100, 1101, 1102, 1103, 1104, 1105, 1106, 1107] (by decide +kernel) (by decide +kernel)
set_option maxRecDepth 20000 in
theorem gL_law_X10_load : GoodIn wsL_law (wsV RL 140 RX10 yX10_load wsX10_load) := goodIn_app (goodIn_of _ (by decide +kernel)) ggL_law_X10_load
set_option maxRecDepth 20000 in
theorem ggL_law_L_about : GoodIn wsL_law wsL_about := goodIn_ca (goodIn_ca (goodIn_r _ [336, 337, 118, 338, 339, 340, 2, 341, 342, 343, 344, 345, 346, 347, 17, 348, 205, 206, 16, 207, 50, 51, 126, 127, 128, 129, 130, 349, 350, 351, 49, 352, 353, 221, 222, 223, 57, 354, 209, 210, 211, 355, 316, 317, 318, 319, 356, 357, 358, 359, 360, 361, 362, 363, 364, 365, 217, 218, 219, 366, 367, 368, 369, 370, 371, 372, 373, 374, 375, 376, 377, 378, 379, 380, 381, 382, 383, 384, 385, 1084, 1085, 1086, 1087, 1088, 1089, 1090, 1091, 1092, 1108, 1109, 1127] (by decide +kernel) (by decide +kernel)) (goodIn_sub (fun _ h => List.mem_append_right _ h) (by decide +kernel))) (goodIn_sub (fun _ h => List.mem_append_left _ (List.mem_append_right _ h)) (by decide +kernel))
set_option maxRecDepth 20000 in
theorem gL_law_L_about : GoodIn wsL_law (va_wsS RL 141 yL_about wsL_about) := goodIn_app (goodIn_of _ (by decide +kernel)) ggL_law_L_about
set_option maxRecDepth 20000 in
theorem ggL_law_X10_about : GoodIn wsL_law wsX10_about := goodIn_r _ [389, 390, 105, 391, 392, 5, 393, 150, 151, 152, 153, 154, 155, 156, 157, 394, 395, 396, 265, 266, 267, 268, 397, 398, 399, 400, 401, 402, 331, 332, 333, 403, 404, 405, 269, 270, 271, 406, 407, 408, 1093, 1094, 1095, 1096, 1097, 1098, 1099, 1100, 1101, 1102, 1103, 1104, 1105, 1106, 1107] (by decide +kernel) (by decide +kernel)
set_option maxRecDepth 20000 in
theorem gL_law_X10_about : GoodIn wsL_law (wsV RL 144 RX10 yX10_about wsX10_about) := goodIn_app (goodIn_of _ (by decide +kernel)) ggL_law_X10_about
set_option maxRecDepth 20000 in
theorem ggL_law_L_cell : GoodIn wsL_law wsL_cell := goodIn_ca (goodIn_r _ [411, 337, 412, 413, 414, 2, 415, 416, 417, 418, 419, 346, 347, 342, 343, 344, 345, 17, 348, 205, 206, 16, 207, 50, 51, 356, 357, 358, 49, 359, 353, 221, 222, 223, 57, 360, 1084, 1085, 1086, 1087, 1088, 1089, 1090, 1091, 1092, 1108, 1109, 1127] (by decide +kernel) (by decide +kernel)) (goodIn_sub (fun _ h => List.mem_append_right _ h) (by decide +kernel))
set_option maxRecDepth 20000 in
theorem gL_law_L_cell : GoodIn wsL_law (va_wsS RL 145 yL_cell wsL_cell) := goodIn_app (goodIn_of _ (by decide +kernel)) ggL_law_L_cell
set_option maxRecDepth 20000 in
theorem ggL_law_X10_cell : GoodIn wsL_law wsX10_cell := goodIn_r _ [423, 105, 424, 425, 426, 5, 427, 391, 392, 393, 150, 151, 152, 428, 429, 430, 265, 266, 267, 268, 153, 154, 155, 156, 157, 269, 270, 271, 1093, 1094, 1095, 1096, 1097, 1098, 1099, 1100, 1101, 1102, 1103, 1104, 1105, 1106, 1107] (by decide +kernel) (by decide +kernel)
set_option maxRecDepth 20000 in
theorem gL_law_X10_cell : GoodIn wsL_law (wsV RL 148 RX10 yX10_cell wsX10_cell) := goodIn_app (goodIn_of _ (by decide +kernel)) ggL_law_X10_cell
set_option maxRecDepth 20000 in
theorem ggL_law_L_size : GoodIn wsL_law wsL_size := goodIn_ca (goodIn_ca (goodIn_r _ [433, 337, 118, 434, 435, 436, 2, 437, 342, 343, 344, 345, 346, 347, 17, 348, 205, 206, 16, 207, 50, 51, 126, 127, 128, 129, 130, 349, 350, 351, 49, 352, 353, 221, 222, 223, 57, 354, 209, 210, 211, 1084, 1085, 1086, 1087, 1088, 1089, 1090, 1091, 1092, 1108, 1109, 1127] (by decide +kernel) (by decide +kernel)) (goodIn_sub (fun _ h => List.mem_append_right _ h) (by decide +kernel))) (goodIn_sub (fun _ h => List.mem_append_left _ (List.mem_append_right _ h)) (by decide +kernel))
set_option maxRecDepth 20000 in
theorem gL_law_L_size : GoodIn wsL_law (va_wsS RL 149 yL_size wsL_size) := goodIn_app (goodIn_of _ (by decide +kernel)) ggL_law_L_size
set_option maxRecDepth 20000 in
theorem ggL_law_X10_size : GoodIn wsL_law wsX10_size := goodIn_r _ [441, 268, 105, 391, 392, 5, 393, 150, 151, 152, 153, 154, 155, 156, 157, 442, 443, 444, 265, 266, 267, 1093, 1094, 1095, 1096, 1097, 1098, 1099, 1100, 1101, 1102, 1103, 1104, 1105, 1106, 1107] (by decide +kernel) (by decide +kernel)
set_option maxRecDepth 20000 in
theorem gL_law_X10_size : GoodIn wsL_law (wsV RL 152 RX10 yX10_size wsX10_size) := goodIn_app (goodIn_of _ (by decide +kernel)) ggL_law_X10_size
set_option maxRecDepth 20000 in
theorem ggL_law_L_insert : GoodIn wsL_law wsL_insert := goodIn_ca (goodIn_ca (goodIn_ca (goodIn_r _ [447, 337, 118, 119, 448, 449, 450, 2, 451, 22, 17, 342, 343, 344, 345, 346, 347, 348, 205, 206, 16, 207, 50, 51, 126, 127, 128, 129, 130, 452, 453, 454, 124, 125, 455, 456, 457, 49, 458, 459, 357, 358, 359, 353, 221, 222, 223, 57, 460, 461, 462, 21, 463, 67, 66, 65, 464, 465, 466, 467, 468, 469, 470, 471, 472, 473, 474, 475, 299, 300, 301, 302, 476, 477, 478, 479, 480, 481, 482, 483, 319, 209, 210, 211, 484, 485, 486, 487, 488, 489, 490, 229, 230, 231, 491, 492, 493, 494, 1084, 1085, 1086, 1087, 1088, 1089, 1090, 1091, 1092, 1108, 1109, 1127, 1110, 1111, 1112] (by decide +kernel) (by decide +kernel)) (goodIn_sub (fun _ h => List.mem_append_right _ h) (by decide +kernel))) (goodIn_sub (fun _ h => List.mem_append_left _ (List.mem_append_right _ h)) (by decide +kernel))) (goodIn_sub (fun _ h => List.mem_append_left _ (List.mem_append_left _ (List.mem_append_right _ h))) (by decide +kernel))
