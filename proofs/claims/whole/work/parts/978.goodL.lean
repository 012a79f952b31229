set_option maxRecDepth 20000 in
theorem gL_law_X10_hook : GoodIn wsL_law (wsV RL 210 RX10 yX10_hook wsX10_hook) := goodIn_app (goodIn_of _ (by decide +kernel)) ggL_law_X10_hook
set_option maxRecDepth 20000 in
theorem ggL_law_L_fillings : GoodIn wsL_law wsL_fillings := goodIn_ca (goodIn_r _ [874, 337, 875, 876, 877, 2, 878, 43, 342, 343, 344, 345, 346, 347, 17, 348, 205, 206, 16, 207, 50, 51, 879, 880, 881, 42, 882, 98, 883, 316, 317, 49, 318, 319, 209, 210, 211, 57, 884, 885, 886, 887, 888, 357, 358, 359, 353, 221, 222, 223, 889, 861, 862, 863, 864, 350, 351, 352, 890, 891, 892, 893, 894, 895, 896, 1084, 1085, 1086, 1087, 1088, 1089, 1090, 1091, 1092, 1108, 1109, 1126, 1127] (by decide +kernel) (by decide +kernel)) (goodIn_sub (fun _ h => List.mem_append_right _ h) (by decide +kernel))
set_option maxRecDepth 20000 in
theorem gL_law_L_fillings : GoodIn wsL_law (va_wsS RL 211 yL_fillings wsL_fillings) := goodIn_app (goodIn_of _ (by decide +kernel)) ggL_law_L_fillings
set_option maxRecDepth 20000 in
theorem ggL_law_X10_fillings : GoodIn wsL_law wsX10_fillings := goodIn_r _ [900, 112, 105, 391, 392, 5, 393, 150, 151, 152, 153, 154, 155, 156, 157, 331, 332, 333, 265, 266, 267, 268, 901, 902, 903, 904, 869, 870, 871, 442, 443, 444, 1093, 1094, 1095, 1096, 1097, 1098, 1099, 1100, 1101, 1102, 1103, 1104, 1105, 1106, 1107] (by decide +kernel) (by decide +kernel)
set_option maxRecDepth 20000 in
theorem gL_law_X10_fillings : GoodIn wsL_law (wsV RL 213 RX10 yX10_fillings wsX10_fillings) := goodIn_app (goodIn_of _ (by decide +kernel)) ggL_law_X10_fillings
set_option maxRecDepth 20000 in
theorem ggL_law_L_path : GoodIn wsL_law wsL_path := goodIn_ca (goodIn_ca (goodIn_r _ [907, 337, 118, 908, 909, 910, 2, 911, 39, 342, 343, 344, 345, 346, 347, 17, 348, 205, 206, 16, 207, 50, 51, 126, 127, 128, 129, 130, 912, 913, 914, 38, 915, 93, 94, 92, 916, 917, 918, 919, 920, 217, 218, 219, 921, 357, 358, 49, 359, 353, 221, 222, 223, 57, 922, 923, 383, 384, 385, 319, 209, 210, 211, 924, 925, 926, 927, 928, 484, 485, 929, 930, 931, 932, 933, 934, 935, 936, 1084, 1085, 1086, 1087, 1088, 1089, 1090, 1091, 1092, 1108, 1109, 1123, 1124, 1125, 1127] (by decide +kernel) (by decide +kernel)) (goodIn_sub (fun _ h => List.mem_append_right _ h) (by decide +kernel))) (goodIn_sub (fun _ h => List.mem_append_left _ (List.mem_append_right _ h)) (by decide +kernel))
set_option maxRecDepth 20000 in
theorem gL_law_L_path : GoodIn wsL_law (va_wsS RL 214 yL_path wsL_path) := goodIn_app (goodIn_of _ (by decide +kernel)) ggL_law_L_path
set_option maxRecDepth 20000 in
theorem ggL_law_X10_path : GoodIn wsL_law wsX10_path := goodIn_r _ [940, 105, 111, 391, 392, 5, 393, 150, 151, 152, 153, 154, 155, 156, 157, 265, 266, 267, 268, 269, 270, 271, 394, 395, 396, 1093, 1094, 1095, 1096, 1097, 1098, 1099, 1100, 1101, 1102, 1103, 1104, 1105, 1106, 1107] (by decide +kernel) (by decide +kernel)
set_option maxRecDepth 20000 in
theorem gL_law_X10_path : GoodIn wsL_law (wsV RL 216 RX10 yX10_path wsX10_path) := goodIn_app (goodIn_of _ (by decide +kernel)) ggL_law_X10_path
set_option maxRecDepth 20000 in
theorem ggL_law_L_ifInserted : GoodIn wsL_law wsL_ifInserted := goodIn_ca (goodIn_ca (goodIn_r _ [943, 337, 118, 944, 945, 946, 2, 947, 18, 342, 343, 344, 345, 346, 347, 17, 348, 205, 206, 16, 207, 50, 51, 126, 127, 128, 129, 130, 455, 456, 457, 49, 458, 459, 357, 358, 359, 353, 221, 222, 223, 57, 948, 481, 482, 483, 319, 209, 210, 211, 484, 485, 949, 296, 297, 298, 299, 300, 301, 302, 476, 477, 478, 479, 480, 486, 487, 488, 489, 490, 229, 230, 231, 491, 492, 493, 494, 950, 951, 952, 953, 954, 1084, 1085, 1086, 1087, 1088, 1089, 1090, 1091, 1092, 1108, 1109, 1127] (by decide +kernel) (by decide +kernel)) (goodIn_sub (fun _ h => List.mem_append_right _ h) (by decide +kernel))) (goodIn_sub (fun _ h => List.mem_append_left _ (List.mem_append_right _ h)) (by decide +kernel))
set_option maxRecDepth 20000 in
theorem gL_law_L_ifInserted : GoodIn wsL_law (va_wsS RL 217 yL_ifInserted wsL_ifInserted) := goodIn_app (goodIn_of _ (by decide +kernel)) ggL_law_L_ifInserted
set_option maxRecDepth 20000 in
theorem ggL_law_X10_ifInserted : GoodIn wsL_law wsX10_ifInserted := goodIn_r _ [958, 105, 106, 514, 391, 392, 5, 393, 150, 151, 152, 499, 500, 501, 502, 153, 154, 155, 156, 157, 503, 504, 505, 397, 398, 399, 265, 266, 267, 268, 325, 326, 327, 510, 511, 512, 513, 277, 278, 279, 515, 516, 517, 518, 269, 270, 271, 1093, 1094, 1095, 1096, 1097, 1098, 1099, 1100, 1101, 1102, 1103, 1104, 1105, 1106, 1107] (by decide +kernel) (by decide +kernel)
set_option maxRecDepth 20000 in
theorem gL_law_X10_ifInserted : GoodIn wsL_law (wsV RL 219 RX10 yX10_ifInserted wsX10_ifInserted) := goodIn_app (goodIn_of _ (by decide +kernel)) ggL_law_X10_ifInserted
set_option maxRecDepth 20000 in
theorem ggL_law_L_ifRemoved : GoodIn wsL_law wsL_ifRemoved := goodIn_ca (goodIn_r _ [961, 337, 962, 963, 964, 2, 965, 18, 416, 417, 418, 419, 346, 347, 342, 343, 344, 345, 17, 348, 205, 206, 16, 207, 50, 51, 356, 357, 358, 49, 359, 353, 221, 222, 223, 57, 949, 296, 297, 298, 299, 300, 301, 302, 526, 527, 528, 529, 490, 229, 230, 231, 530, 531, 532, 533, 534, 535, 536, 484, 485, 486, 487, 488, 489, 1084, 1085, 1086, 1087, 1088, 1089, 1090, 1091, 1092, 1108, 1109, 1127] (by decide +kernel) (by decide +kernel)) (goodIn_sub (fun _ h => List.mem_append_right _ h) (by decide +kernel))
set_option maxRecDepth 20000 in
theorem gL_law_L_ifRemoved : GoodIn wsL_law (va_wsS RL 220 yL_ifRemoved wsL_ifRemoved) := goodIn_app (goodIn_of _ (by decide +kernel)) ggL_law_L_ifRemoved
set_option maxRecDepth 20000 in
theorem ggL_law_X10_ifRemoved : GoodIn wsL_law wsX10_ifRemoved := goodIn_r _ [969, 105, 106, 424, 425, 426, 5, 427, 391, 392, 393, 150, 151, 152, 428, 429, 430, 265, 266, 267, 268, 153, 154, 155, 156, 157, 325, 326, 327, 541, 542, 543, 269, 270, 271, 277, 278, 279, 1093, 1094, 1095, 1096, 1097, 1098, 1099, 1100, 1101, 1102, 1103, 1104, 1105, 1106, 1107] (by decide +kernel) (by decide +kernel)
set_option maxRecDepth 20000 in
theorem gL_law_X10_ifRemoved : GoodIn wsL_law (wsV RL 222 RX10 yX10_ifRemoved wsX10_ifRemoved) := goodIn_app (goodIn_of _ (by decide +kernel)) ggL_law_X10_ifRemoved
set_option maxRecDepth 20000 in
theorem ggL_law_L_runScript : GoodIn wsL_law wsL_runScript := goodIn_ca (goodIn_r _ [972, 118, 973, 974, 975, 2, 976, 129, 130, 18, 17, 126, 127, 128, 977, 978, 979, 980, 981, 291, 292, 293, 16, 294, 50, 51, 295, 296, 297, 49, 298, 57, 299, 300, 301, 302, 982, 983, 984, 985, 986, 987, 988, 989, 990, 486, 487, 488, 489, 991, 205, 206, 207, 992, 357, 358, 359, 353, 221, 222, 223, 993, 527, 528, 529, 490, 229, 230, 231, 530, 531, 532, 533, 534, 535, 536, 484, 485, 994, 456, 457, 458, 459, 995, 570, 571, 572, 573, 574, 575, 576, 477, 478, 479, 480, 481, 482, 483, 319, 209, 210, 211, 491, 492, 493, 494, 996, 997, 998, 999, 589, 590, 591, 1000, 810, 811, 812, 813, 790, 655, 656, 657, 658, 659, 660, 661, 662, 663, 664, 1001, 1002, 1003, 1004, 1005, 316, 317, 318, 1006, 1007, 362, 363, 364, 365, 217, 218, 219, 1084, 1085, 1086, 1087, 1088, 1089, 1090, 1091, 1092, 1108, 1109, 1127] (by decide +kernel) (by decide +kernel)) (goodIn_sub (fun _ h => List.mem_append_left _ (List.mem_append_right _ h)) (by decide +kernel))
set_option maxRecDepth 20000 in
theorem gL_law_L_runScript : GoodIn wsL_law (va_wsS RL 225 yL_runScript wsL_runScript) := goodIn_app (goodIn_of _ (by decide +kernel)) ggL_law_L_runScript
set_option maxRecDepth 20000 in
theorem ggL_law_X10_runScript : GoodIn wsL_law wsX10_runScript := goodIn_r _ [1011, 1012, 105, 106, 1013, 150, 151, 5, 152, 1014, 1015, 1016, 1017, 153, 154, 155, 156, 157, 325, 326, 327, 1018, 1019, 1020, 1021, 819, 820, 821, 265, 266, 267, 268, 269, 270, 271, 799, 800, 801, 669, 670, 671, 391, 392, 393, 503, 504, 505, 397, 398, 399, 510, 511, 512, 513, 514, 277, 278, 279, 515, 516, 517, 518, 428, 429, 430, 541, 542, 543, 596, 597, 598, 599, 113, 442, 443, 444, 331, 332, 333, 1022, 1023, 1024, 403, 404, 405, 1093, 1094, 1095, 1096, 1097, 1098, 1099, 1100, 1101, 1102, 1103, 1104, 1105, 1106, 1107] (by decide +kernel) (by decide +kernel)
set_option maxRecDepth 20000 in
theorem gL_law_X10_runScript : GoodIn wsL_law (wsV RL 228 RX10 yX10_runScript wsX10_runScript) := goodIn_app (goodIn_of _ (by decide +kernel)) ggL_law_X10_runScript
set_option maxRecDepth 20000 in
theorem ggL_law_L_simulate : GoodIn wsL_law wsL_simulate := goodIn_ca (goodIn_r _ [1027, 118, 1028, 1029, 1030, 2, 1031, 18, 17, 1032, 1033, 126, 127, 128, 129, 130, 291, 292, 293, 16, 294, 50, 51, 295, 296, 297, 49, 298, 57, 299, 300, 301, 302, 1034, 1035, 1036, 1037, 348, 205, 206, 207, 355, 316, 317, 318, 319, 209, 210, 211, 701, 702, 703, 704, 705, 706, 707, 708, 709, 710, 711, 712, 658, 659, 660, 661, 353, 221, 222, 223, 662, 663, 664, 713, 655, 656, 657, 484, 485, 953, 486, 487, 954, 488, 489, 526, 527, 528, 529, 490, 229, 230, 231, 530, 531, 532, 533, 534, 535, 536, 455, 456, 457, 458, 459, 357, 358, 359, 476, 477, 478, 479, 480, 481, 482, 483, 491, 492, 493, 494, 366, 367, 368, 369, 1084, 1085, 1086, 1087, 1088, 1089, 1090, 1091, 1092, 1108, 1109, 1127] (by decide +kernel) (by decide +kernel)) (goodIn_sub (fun _ h => List.mem_append_left _ (List.mem_append_right _ h)) (by decide +kernel))
set_option maxRecDepth 20000 in
theorem gL_law_L_simulate : GoodIn wsL_law (va_wsS RL 229 yL_simulate wsL_simulate) := goodIn_app (goodIn_of _ (by decide +kernel)) ggL_law_L_simulate
set_option maxRecDepth 20000 in
theorem ggL_law_X10_simulate : GoodIn wsL_law wsX10_simulate := goodIn_r _ [1041, 1042, 105, 106, 1043, 1044, 150, 151, 5, 152, 153, 154, 155, 156, 157, 325, 326, 327, 331, 332, 333, 265, 266, 267, 268, 719, 720, 721, 722, 723, 724, 269, 270, 271, 541, 542, 543, 428, 429, 430, 277, 278, 279, 503, 504, 505, 397, 398, 399, 510, 511, 512, 513, 514, 515, 516, 517, 518, 406, 407, 408, 1093, 1094, 1095, 1096, 1097, 1098, 1099, 1100, 1101, 1102, 1103, 1104, 1105, 1106, 1107] (by decide +kernel) (by decide +kernel)
set_option maxRecDepth 20000 in
theorem gL_law_X10_simulate : GoodIn wsL_law (wsV RL 232 RX10 yX10_simulate wsX10_simulate) := goodIn_app (goodIn_of _ (by decide +kernel)) ggL_law_X10_simulate
set_option maxRecDepth 20000 in
theorem ggL_law_L_save : GoodIn wsL_law wsL_save := goodIn_ca (goodIn_r _ [1047, 337, 1048, 1049, 1050, 2, 1051, 17, 1052, 1053, 1054, 1055, 346, 347, 34, 35, 1056, 1057, 1058, 33, 1059, 87, 88, 1060, 292, 293, 16, 294, 50, 51, 295, 296, 297, 49, 298, 57, 299, 300, 301, 302, 311, 312, 313, 314, 315, 316, 317, 318, 319, 209, 210, 211, 1084, 1085, 1086, 1087, 1088, 1089, 1090, 1091, 1092, 1121, 1122, 1108, 1109, 1127] (by decide +kernel) (by decide +kernel)) (goodIn_sub (fun _ h => List.mem_append_right _ h) (by decide +kernel))
set_option maxRecDepth 20000 in
theorem gL_law_L_save : GoodIn wsL_law (va_wsS RL 233 yL_save wsL_save) := goodIn_app (goodIn_of _ (by decide +kernel)) ggL_law_L_save
set_option maxRecDepth 20000 in
theorem ggL_law_X10_save : GoodIn wsL_law wsX10_save := goodIn_r _ [1064, 110, 105, 108, 150, 151, 5, 152, 153, 154, 155, 156, 157, 325, 326, 327, 328, 329, 330, 331, 332, 333, 265, 266, 267, 268, 1093, 1094, 1095, 1096, 1097, 1098, 1099, 1100, 1101, 1102, 1103, 1104, 1105, 1106, 1107] (by decide +kernel) (by decide +kernel)
set_option maxRecDepth 20000 in
theorem gL_law_X10_save : GoodIn wsL_law (wsV RL 235 RX10 yX10_save wsX10_save) := goodIn_app (goodIn_of _ (by decide +kernel)) ggL_law_X10_save
set_option maxRecDepth 20000 in
theorem ggL_law_L_restore : GoodIn wsL_law wsL_restore := goodIn_ca (goodIn_ca (goodIn_r _ [1067, 337, 119, 1068, 1069, 1070, 2, 1071, 124, 125, 17, 22, 1052, 1053, 1054, 1055, 346, 347, 34, 35, 1072, 1073, 1074, 33, 1075, 88, 1076, 1077, 1078, 1079, 87, 291, 292, 293, 16, 294, 50, 51, 295, 296, 297, 49, 298, 57, 299, 300, 301, 302, 303, 304, 305, 21, 306, 67, 311, 312, 313, 314, 315, 316, 317, 318, 319, 209, 210, 211, 1084, 1085, 1086, 1087, 1088, 1089, 1090, 1091, 1092, 1121, 1122, 1108, 1109, 1127, 1110, 1111, 1112] (by decide +kernel) (by decide +kernel)) (goodIn_sub (fun _ h => List.mem_append_left _ (List.mem_append_left _ (List.mem_append_right _ h))) (by decide +kernel))) (goodIn_sub (fun _ h => List.mem_append_right _ h) (by decide +kernel))
set_option maxRecDepth 20000 in
theorem gL_law_L_restore : GoodIn wsL_law (va_wsS RL 236 yL_restore wsL_restore) := goodIn_app (goodIn_of _ (by decide +kernel)) ggL_law_L_restore
set_option maxRecDepth 20000 in
theorem ggL_law_X10_restore : GoodIn wsL_law wsX10_restore := goodIn_r _ [1083, 110, 108, 105, 324, 150, 151, 5, 152, 153, 154, 155, 156, 157, 325, 326, 327, 328, 329, 330, 331, 332, 333, 265, 266, 267, 268, 1093, 1094, 1095, 1096, 1097, 1098, 1099, 1100, 1101, 1102, 1103, 1104, 1105, 1106, 1107] (by decide +kernel) (by decide +kernel)
set_option maxRecDepth 20000 in
theorem gL_law_X10_restore : GoodIn wsL_law (wsV RL 238 RX10 yX10_restore wsX10_restore) := goodIn_app (goodIn_of _ (by decide +kernel)) ggL_law_X10_restore
