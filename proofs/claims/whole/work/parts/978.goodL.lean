set_option maxRecDepth 20000 in
theorem gL_law_X10_hook : GoodIn wsL_law (wsV RL 210 RX10 yX10_hook wsX10_hook) := goodIn_app (goodIn_of _ (by decide +kernel)) ggL_law_X10_hook
set_option maxRecDepth 20000 in
theorem ggL_law_L_fillings : GoodIn wsL_law wsL_fillings := goodIn_ca (goodIn_r _ [872, 334, 873, 874, 875, 2, 876, 43, 339, 340, 341, 342, 343, 344, 17, 345, 206, 207, 16, 208, 50, 51, 877, 878, 879, 42, 880, 99, 881, 313, 314, 49, 315, 316, 210, 211, 212, 57, 882, 883, 884, 885, 886, 354, 355, 356, 350, 222, 223, 224, 887, 859, 860, 861, 862, 347, 348, 349, 888, 889, 890, 891, 892, 893, 894, 1082, 1083, 1084, 1085, 1086, 1087, 1088, 1089, 1090, 1106, 1107, 1125, 1126] (by decide +kernel) (by decide +kernel)) (goodIn_sub (fun _ h => List.mem_append_right _ h) (by decide +kernel))
set_option maxRecDepth 20000 in
theorem gL_law_L_fillings : GoodIn wsL_law (va_wsS RL 211 yL_fillings wsL_fillings) := goodIn_app (goodIn_of _ (by decide +kernel)) ggL_law_L_fillings
set_option maxRecDepth 20000 in
theorem ggL_law_X10_fillings : GoodIn wsL_law wsX10_fillings := goodIn_r _ [898, 113, 106, 388, 389, 5, 390, 151, 152, 153, 154, 155, 156, 157, 158, 328, 329, 330, 266, 267, 268, 269, 899, 900, 901, 902, 867, 868, 869, 439, 440, 441, 1091, 1092, 1093, 1094, 1095, 1096, 1097, 1098, 1099, 1100, 1101, 1102, 1103, 1104, 1105] (by decide +kernel) (by decide +kernel)
set_option maxRecDepth 20000 in
theorem gL_law_X10_fillings : GoodIn wsL_law (wsV RL 213 RX10 yX10_fillings wsX10_fillings) := goodIn_app (goodIn_of _ (by decide +kernel)) ggL_law_X10_fillings
set_option maxRecDepth 20000 in
theorem ggL_law_L_path : GoodIn wsL_law wsL_path := goodIn_ca (goodIn_ca (goodIn_r _ [905, 334, 119, 906, 907, 908, 2, 909, 39, 339, 340, 341, 342, 343, 344, 17, 345, 206, 207, 16, 208, 50, 51, 127, 128, 129, 130, 131, 910, 911, 912, 38, 913, 94, 95, 93, 914, 915, 916, 917, 918, 218, 219, 220, 919, 354, 355, 49, 356, 350, 222, 223, 224, 57, 920, 921, 380, 381, 382, 316, 210, 211, 212, 922, 923, 924, 925, 926, 481, 482, 927, 928, 929, 930, 931, 932, 933, 934, 1082, 1083, 1084, 1085, 1086, 1087, 1088, 1089, 1090, 1106, 1107, 1122, 1123, 1124, 1126] (by decide +kernel) (by decide +kernel)) (goodIn_sub (fun _ h => List.mem_append_right _ h) (by decide +kernel))) (goodIn_sub (fun _ h => List.mem_append_left _ (List.mem_append_right _ h)) (by decide +kernel))
set_option maxRecDepth 20000 in
theorem gL_law_L_path : GoodIn wsL_law (va_wsS RL 214 yL_path wsL_path) := goodIn_app (goodIn_of _ (by decide +kernel)) ggL_law_L_path
set_option maxRecDepth 20000 in
theorem ggL_law_X10_path : GoodIn wsL_law wsX10_path := goodIn_r _ [938, 106, 112, 388, 389, 5, 390, 151, 152, 153, 154, 155, 156, 157, 158, 266, 267, 268, 269, 270, 271, 272, 391, 392, 393, 1091, 1092, 1093, 1094, 1095, 1096, 1097, 1098, 1099, 1100, 1101, 1102, 1103, 1104, 1105] (by decide +kernel) (by decide +kernel)
set_option maxRecDepth 20000 in
theorem gL_law_X10_path : GoodIn wsL_law (wsV RL 216 RX10 yX10_path wsX10_path) := goodIn_app (goodIn_of _ (by decide +kernel)) ggL_law_X10_path
set_option maxRecDepth 20000 in
theorem ggL_law_L_ifInserted : GoodIn wsL_law wsL_ifInserted := goodIn_ca (goodIn_ca (goodIn_r _ [941, 334, 119, 942, 943, 944, 2, 945, 18, 339, 340, 341, 342, 343, 344, 17, 345, 206, 207, 16, 208, 50, 51, 127, 128, 129, 130, 131, 452, 453, 454, 49, 455, 456, 354, 355, 356, 350, 222, 223, 224, 57, 946, 478, 479, 480, 316, 210, 211, 212, 481, 482, 947, 293, 294, 295, 296, 297, 298, 299, 473, 474, 475, 476, 477, 483, 484, 485, 486, 487, 230, 231, 232, 488, 489, 490, 491, 948, 949, 950, 951, 952, 1082, 1083, 1084, 1085, 1086, 1087, 1088, 1089, 1090, 1106, 1107, 1126] (by decide +kernel) (by decide +kernel)) (goodIn_sub (fun _ h => List.mem_append_right _ h) (by decide +kernel))) (goodIn_sub (fun _ h => List.mem_append_left _ (List.mem_append_right _ h)) (by decide +kernel))
set_option maxRecDepth 20000 in
theorem gL_law_L_ifInserted : GoodIn wsL_law (va_wsS RL 217 yL_ifInserted wsL_ifInserted) := goodIn_app (goodIn_of _ (by decide +kernel)) ggL_law_L_ifInserted
set_option maxRecDepth 20000 in
theorem ggL_law_X10_ifInserted : GoodIn wsL_law wsX10_ifInserted := goodIn_r _ [956, 106, 107, 511, 388, 389, 5, 390, 151, 152, 153, 496, 497, 498, 499, 154, 155, 156, 157, 158, 500, 501, 502, 394, 395, 396, 266, 267, 268, 269, 322, 323, 324, 507, 508, 509, 510, 278, 279, 280, 512, 513, 514, 515, 270, 271, 272, 1091, 1092, 1093, 1094, 1095, 1096, 1097, 1098, 1099, 1100, 1101, 1102, 1103, 1104, 1105] (by decide +kernel) (by decide +kernel)
set_option maxRecDepth 20000 in
theorem gL_law_X10_ifInserted : GoodIn wsL_law (wsV RL 219 RX10 yX10_ifInserted wsX10_ifInserted) := goodIn_app (goodIn_of _ (by decide +kernel)) ggL_law_X10_ifInserted
set_option maxRecDepth 20000 in
theorem ggL_law_L_ifRemoved : GoodIn wsL_law wsL_ifRemoved := goodIn_ca (goodIn_r _ [959, 334, 960, 961, 962, 2, 963, 18, 413, 414, 415, 416, 343, 344, 339, 340, 341, 342, 17, 345, 206, 207, 16, 208, 50, 51, 353, 354, 355, 49, 356, 350, 222, 223, 224, 57, 947, 293, 294, 295, 296, 297, 298, 299, 523, 524, 525, 526, 487, 230, 231, 232, 527, 528, 529, 530, 531, 532, 533, 481, 482, 483, 484, 485, 486, 1082, 1083, 1084, 1085, 1086, 1087, 1088, 1089, 1090, 1106, 1107, 1126] (by decide +kernel) (by decide +kernel)) (goodIn_sub (fun _ h => List.mem_append_right _ h) (by decide +kernel))
set_option maxRecDepth 20000 in
theorem gL_law_L_ifRemoved : GoodIn wsL_law (va_wsS RL 220 yL_ifRemoved wsL_ifRemoved) := goodIn_app (goodIn_of _ (by decide +kernel)) ggL_law_L_ifRemoved
set_option maxRecDepth 20000 in
theorem ggL_law_X10_ifRemoved : GoodIn wsL_law wsX10_ifRemoved := goodIn_r _ [967, 106, 107, 421, 422, 423, 5, 424, 388, 389, 390, 151, 152, 153, 425, 426, 427, 266, 267, 268, 269, 154, 155, 156, 157, 158, 322, 323, 324, 538, 539, 540, 270, 271, 272, 278, 279, 280, 1091, 1092, 1093, 1094, 1095, 1096, 1097, 1098, 1099, 1100, 1101, 1102, 1103, 1104, 1105] (by decide +kernel) (by decide +kernel)
set_option maxRecDepth 20000 in
theorem gL_law_X10_ifRemoved : GoodIn wsL_law (wsV RL 222 RX10 yX10_ifRemoved wsX10_ifRemoved) := goodIn_app (goodIn_of _ (by decide +kernel)) ggL_law_X10_ifRemoved
set_option maxRecDepth 20000 in
theorem ggL_law_L_runScript : GoodIn wsL_law wsL_runScript := goodIn_ca (goodIn_r _ [970, 119, 971, 972, 973, 2, 974, 130, 131, 18, 17, 127, 128, 129, 975, 976, 977, 978, 979, 288, 289, 290, 16, 291, 50, 51, 292, 293, 294, 49, 295, 57, 296, 297, 298, 299, 980, 981, 982, 983, 984, 985, 986, 987, 988, 483, 484, 485, 486, 989, 206, 207, 208, 990, 354, 355, 356, 350, 222, 223, 224, 991, 524, 525, 526, 487, 230, 231, 232, 527, 528, 529, 530, 531, 532, 533, 481, 482, 992, 453, 454, 455, 456, 993, 567, 568, 569, 570, 571, 572, 573, 474, 475, 476, 477, 478, 479, 480, 316, 210, 211, 212, 488, 489, 490, 491, 994, 995, 996, 997, 586, 587, 588, 998, 808, 809, 810, 811, 788, 652, 653, 654, 655, 656, 657, 658, 659, 660, 661, 999, 1000, 1001, 1002, 1003, 313, 314, 315, 1004, 1005, 359, 360, 361, 362, 218, 219, 220, 1082, 1083, 1084, 1085, 1086, 1087, 1088, 1089, 1090, 1106, 1107, 1126] (by decide +kernel) (by decide +kernel)) (goodIn_sub (fun _ h => List.mem_append_left _ (List.mem_append_right _ h)) (by decide +kernel))
set_option maxRecDepth 20000 in
theorem gL_law_L_runScript : GoodIn wsL_law (va_wsS RL 225 yL_runScript wsL_runScript) := goodIn_app (goodIn_of _ (by decide +kernel)) ggL_law_L_runScript
set_option maxRecDepth 20000 in
theorem ggL_law_X10_runScript : GoodIn wsL_law wsX10_runScript := goodIn_r _ [1009, 1010, 106, 107, 1011, 151, 152, 5, 153, 1012, 1013, 1014, 1015, 154, 155, 156, 157, 158, 322, 323, 324, 1016, 1017, 1018, 1019, 817, 818, 819, 266, 267, 268, 269, 270, 271, 272, 797, 798, 799, 666, 667, 668, 388, 389, 390, 500, 501, 502, 394, 395, 396, 507, 508, 509, 510, 511, 278, 279, 280, 512, 513, 514, 515, 425, 426, 427, 538, 539, 540, 593, 594, 595, 596, 114, 439, 440, 441, 328, 329, 330, 1020, 1021, 1022, 400, 401, 402, 1091, 1092, 1093, 1094, 1095, 1096, 1097, 1098, 1099, 1100, 1101, 1102, 1103, 1104, 1105] (by decide +kernel) (by decide +kernel)
set_option maxRecDepth 20000 in
theorem gL_law_X10_runScript : GoodIn wsL_law (wsV RL 228 RX10 yX10_runScript wsX10_runScript) := goodIn_app (goodIn_of _ (by decide +kernel)) ggL_law_X10_runScript
set_option maxRecDepth 20000 in
theorem ggL_law_L_simulate : GoodIn wsL_law wsL_simulate := goodIn_ca (goodIn_r _ [1025, 119, 1026, 1027, 1028, 2, 1029, 18, 17, 1030, 1031, 127, 128, 129, 130, 131, 288, 289, 290, 16, 291, 50, 51, 292, 293, 294, 49, 295, 57, 296, 297, 298, 299, 1032, 1033, 1034, 1035, 345, 206, 207, 208, 352, 313, 314, 315, 316, 210, 211, 212, 699, 700, 701, 702, 703, 704, 705, 706, 707, 708, 709, 710, 655, 656, 657, 658, 350, 222, 223, 224, 659, 660, 661, 711, 652, 653, 654, 481, 482, 951, 483, 484, 952, 485, 486, 523, 524, 525, 526, 487, 230, 231, 232, 527, 528, 529, 530, 531, 532, 533, 452, 453, 454, 455, 456, 354, 355, 356, 473, 474, 475, 476, 477, 478, 479, 480, 488, 489, 490, 491, 363, 364, 365, 366, 1082, 1083, 1084, 1085, 1086, 1087, 1088, 1089, 1090, 1106, 1107, 1126] (by decide +kernel) (by decide +kernel)) (goodIn_sub (fun _ h => List.mem_append_left _ (List.mem_append_right _ h)) (by decide +kernel))
set_option maxRecDepth 20000 in
theorem gL_law_L_simulate : GoodIn wsL_law (va_wsS RL 229 yL_simulate wsL_simulate) := goodIn_app (goodIn_of _ (by decide +kernel)) ggL_law_L_simulate
set_option maxRecDepth 20000 in
theorem ggL_law_X10_simulate : GoodIn wsL_law wsX10_simulate := goodIn_r _ [1039, 1040, 106, 107, 1041, 1042, 151, 152, 5, 153, 154, 155, 156, 157, 158, 322, 323, 324, 328, 329, 330, 266, 267, 268, 269, 717, 718, 719, 720, 721, 722, 270, 271, 272, 538, 539, 540, 425, 426, 427, 278, 279, 280, 500, 501, 502, 394, 395, 396, 507, 508, 509, 510, 511, 512, 513, 514, 515, 403, 404, 405, 1091, 1092, 1093, 1094, 1095, 1096, 1097, 1098, 1099, 1100, 1101, 1102, 1103, 1104, 1105] (by decide +kernel) (by decide +kernel)
set_option maxRecDepth 20000 in
theorem gL_law_X10_simulate : GoodIn wsL_law (wsV RL 232 RX10 yX10_simulate wsX10_simulate) := goodIn_app (goodIn_of _ (by decide +kernel)) ggL_law_X10_simulate
set_option maxRecDepth 20000 in
theorem ggL_law_L_save : GoodIn wsL_law wsL_save := goodIn_ca (goodIn_r _ [1045, 334, 1046, 1047, 1048, 2, 1049, 17, 1050, 1051, 1052, 1053, 343, 344, 34, 35, 1054, 1055, 1056, 33, 1057, 88, 89, 1058, 289, 290, 16, 291, 50, 51, 292, 293, 294, 49, 295, 57, 296, 297, 298, 299, 308, 309, 310, 311, 312, 313, 314, 315, 316, 210, 211, 212, 1082, 1083, 1084, 1085, 1086, 1087, 1088, 1089, 1090, 1120, 1121, 1106, 1107, 1126] (by decide +kernel) (by decide +kernel)) (goodIn_sub (fun _ h => List.mem_append_right _ h) (by decide +kernel))
set_option maxRecDepth 20000 in
theorem gL_law_L_save : GoodIn wsL_law (va_wsS RL 233 yL_save wsL_save) := goodIn_app (goodIn_of _ (by decide +kernel)) ggL_law_L_save
set_option maxRecDepth 20000 in
theorem ggL_law_X10_save : GoodIn wsL_law wsX10_save := goodIn_r _ [1062, 111, 106, 109, 151, 152, 5, 153, 154, 155, 156, 157, 158, 322, 323, 324, 325, 326, 327, 328, 329, 330, 266, 267, 268, 269, 1091, 1092, 1093, 1094, 1095, 1096, 1097, 1098, 1099, 1100, 1101, 1102, 1103, 1104, 1105] (by decide +kernel) (by decide +kernel)
set_option maxRecDepth 20000 in
theorem gL_law_X10_save : GoodIn wsL_law (wsV RL 235 RX10 yX10_save wsX10_save) := goodIn_app (goodIn_of _ (by decide +kernel)) ggL_law_X10_save
set_option maxRecDepth 20000 in
theorem ggL_law_L_restore : GoodIn wsL_law wsL_restore := goodIn_ca (goodIn_ca (goodIn_r _ [1065, 334, 120, 1066, 1067, 1068, 2, 1069, 125, 126, 17, 22, 1050, 1051, 1052, 1053, 343, 344, 34, 35, 1070, 1071, 1072, 33, 1073, 89, 1074, 1075, 1076, 1077, 88, 288, 289, 290, 16, 291, 50, 51, 292, 293, 294, 49, 295, 57, 296, 297, 298, 299, 300, 301, 302, 21, 303, 67, 308, 309, 310, 311, 312, 313, 314, 315, 316, 210, 211, 212, 1082, 1083, 1084, 1085, 1086, 1087, 1088, 1089, 1090, 1120, 1121, 1106, 1107, 1126, 1108, 1109, 1110] (by decide +kernel) (by decide +kernel)) (goodIn_sub (fun _ h => List.mem_append_left _ (List.mem_append_left _ (List.mem_append_right _ h))) (by decide +kernel))) (goodIn_sub (fun _ h => List.mem_append_right _ h) (by decide +kernel))
set_option maxRecDepth 20000 in
theorem gL_law_L_restore : GoodIn wsL_law (va_wsS RL 236 yL_restore wsL_restore) := goodIn_app (goodIn_of _ (by decide +kernel)) ggL_law_L_restore
set_option maxRecDepth 20000 in
theorem ggL_law_X10_restore : GoodIn wsL_law wsX10_restore := goodIn_r _ [1081, 111, 109, 106, 321, 151, 152, 5, 153, 154, 155, 156, 157, 158, 322, 323, 324, 325, 326, 327, 328, 329, 330, 266, 267, 268, 269, 1091, 1092, 1093, 1094, 1095, 1096, 1097, 1098, 1099, 1100, 1101, 1102, 1103, 1104, 1105] (by decide +kernel) (by decide +kernel)
set_option maxRecDepth 20000 in
theorem gL_law_X10_restore : GoodIn wsL_law (wsV RL 238 RX10 yX10_restore wsX10_restore) := goodIn_app (goodIn_of _ (by decide +kernel)) ggL_law_X10_restore
