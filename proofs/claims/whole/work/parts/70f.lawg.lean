set_option maxRecDepth 20000 in
theorem ggL_law_L_rollBack : GoodIn wsL_law wsL_rollBack := goodIn_ca (goodIn_ca (goodIn_ca (goodIn_r _ [884, 89, 885, 886, 887, 2, 888, 21, 17, 94, 95, 96, 20, 97, 98, 99, 100, 101, 59, 102, 103, 104, 105, 106, 107, 108, 109, 110, 16, 111, 37, 41, 112, 42, 113, 114, 115, 36, 116, 117, 118, 119, 120, 121, 122, 123, 124, 125, 48, 126, 127, 128, 129, 130, 131, 132, 40, 133, 134, 135, 136, 53, 137, 889, 890, 891, 892, 165, 166, 167, 168, 169, 170, 171, 172, 173, 174, 175, 176, 177, 178, 1076, 1077, 1078, 1079, 1098, 1099, 1100, 1094, 1095, 1096, 1097, 1109, 1110, 1111, 1112, 1113] (by decide +kernel) (by decide +kernel)) (goodIn_sub (fun _ h => List.mem_append_left _ (List.mem_append_left _ (List.mem_append_right _ h))) (by decide +kernel))) (goodIn_sub (fun _ h => List.mem_append_left _ (List.mem_append_right _ h)) (by decide +kernel))) (goodIn_sub (fun _ h => List.mem_append_right _ h) (by decide +kernel))
set_option maxRecDepth 20000 in
theorem gL_law_L_rollBack : GoodIn wsL_law (va_wsS RL 229 yL_rollBack wsL_rollBack) := goodIn_app (goodIn_of _ (by decide +kernel)) ggL_law_L_rollBack
set_option maxRecDepth 20000 in
theorem ggL_law_X8_rollBack : GoodIn wsL_law wsX8_rollBack := goodIn_r _ [896, 183, 77, 244, 245, 246, 5, 247, 206, 207, 208, 209, 210, 78, 1080, 1081, 1082, 1083, 1084, 1085, 1086, 1087, 1088, 1089, 1090, 1091, 1092, 1093] (by decide +kernel) (by decide +kernel)
set_option maxRecDepth 20000 in
theorem gL_law_X8_rollBack : GoodIn wsL_law (wsV RL 231 RX8 yX8_rollBack wsX8_rollBack) := goodIn_app (goodIn_of _ (by decide +kernel)) ggL_law_X8_rollBack
set_option maxRecDepth 20000 in
theorem ggL_law_L_append : GoodIn wsL_law wsL_append := goodIn_ca (goodIn_ca (goodIn_r _ [899, 88, 89, 900, 901, 902, 2, 903, 173, 174, 25, 904, 371, 372, 373, 171, 172, 374, 146, 147, 905, 906, 907, 24, 908, 909, 65, 1076, 1077, 1078, 1079, 1101, 1102, 1103, 1104, 1105] (by decide +kernel) (by decide +kernel)) (goodIn_sub (fun _ h => List.mem_append_right _ h) (by decide +kernel))) (goodIn_sub (fun _ h => List.mem_append_left _ (List.mem_append_right _ h)) (by decide +kernel))
set_option maxRecDepth 20000 in
theorem gL_law_L_append : GoodIn wsL_law (va_wsS RL 232 yL_append wsL_append) := goodIn_app (goodIn_of _ (by decide +kernel)) ggL_law_L_append
set_option maxRecDepth 20000 in
theorem ggL_law_X8_append : GoodIn wsL_law wsX8_append := goodIn_r _ [913, 183, 914, 915, 79, 195, 196, 5, 197, 244, 245, 246, 247, 1080, 1081, 1082, 1083, 1084, 1085, 1086, 1087, 1088, 1089, 1090, 1091, 1092, 1093] (by decide +kernel) (by decide +kernel)
set_option maxRecDepth 20000 in
theorem gL_law_X8_append : GoodIn wsL_law (wsV RL 234 RX8 yX8_append wsX8_append) := goodIn_app (goodIn_of _ (by decide +kernel)) ggL_law_X8_append
set_option maxRecDepth 20000 in
theorem ggL_law_X7_clearText : GoodIn wsL_law wsX7_clearText := goodIn_r _ [919, 25, 920, 921, 922, 24, 923, 909, 1076, 1077, 1078, 1079, 1101, 1102, 1103, 1104, 1105] (by decide +kernel) (by decide +kernel)
set_option maxRecDepth 20000 in
theorem gL_law_X7_clearText : GoodIn wsL_law (wsV RL 235 RX7 yX7_clearText wsX7_clearText) := goodIn_app (goodIn_of _ (by decide +kernel)) ggL_law_X7_clearText
set_option maxRecDepth 20000 in
theorem ggL_law_X8_clearText : GoodIn wsL_law wsX8_clearText := goodIn_r _ [927, 183, 915, 1080, 1081, 1082, 1083, 1084, 1085, 1086, 1087, 1088, 1089, 1090, 1091, 1092, 1093] (by decide +kernel) (by decide +kernel)
set_option maxRecDepth 20000 in
theorem gL_law_X8_clearText : GoodIn wsL_law (wsV RL 238 RX8 yX8_clearText wsX8_clearText) := goodIn_app (goodIn_of _ (by decide +kernel)) ggL_law_X8_clearText
set_option maxRecDepth 20000 in
theorem ggL_law_X7_carryOut : GoodIn wsL_law wsX7_carryOut := goodIn_r _ [931, 25, 21, 17, 932, 933, 934, 24, 935, 936, 909, 937, 938, 939, 940, 941, 942, 943, 944, 945, 946, 947, 948, 949, 65, 950, 951, 952, 953, 954, 955, 956, 66, 957, 958, 959, 960, 146, 2, 147, 94, 95, 96, 20, 97, 98, 99, 100, 101, 59, 102, 103, 104, 105, 106, 107, 108, 109, 110, 16, 111, 37, 41, 112, 42, 113, 114, 115, 36, 116, 117, 118, 119, 120, 121, 122, 123, 124, 125, 48, 126, 127, 128, 129, 130, 131, 132, 40, 133, 134, 135, 136, 53, 137, 961, 962, 963, 964, 965, 966, 967, 810, 344, 968, 969, 970, 971, 138, 139, 140, 141, 142, 143, 144, 145, 148, 149, 150, 151, 152, 153, 154, 155, 156, 157, 158, 159, 160, 161, 162, 163, 164, 256, 257, 258, 259, 260, 261, 262, 263, 264, 265, 266, 267, 268, 269, 270, 271, 272, 273, 328, 329, 330, 331, 305, 306, 307, 308, 775, 776, 777, 778, 779, 780, 781, 782, 783, 784, 785, 786, 787, 788, 789, 790, 811, 812, 813, 814, 815, 816, 817, 818, 819, 820, 393, 394, 395, 396, 397, 398, 399, 400, 401, 402, 403, 404, 405, 406, 407, 408, 821, 822, 466, 467, 468, 972, 973, 974, 975, 175, 176, 177, 178, 1076, 1077, 1078, 1079, 1101, 1102, 1103, 1104, 1105, 1098, 1099, 1100, 1094, 1095, 1096, 1097, 1109, 1110, 1111, 1112, 1113] (by decide +kernel) (by decide +kernel)
set_option maxRecDepth 20000 in
theorem gL_law_X7_carryOut : GoodIn wsL_law (wsV RL 239 RX7 yX7_carryOut wsX7_carryOut) := goodIn_app (goodIn_of _ (by decide +kernel)) ggL_law_X7_carryOut
set_option maxRecDepth 20000 in
theorem ggL_law_X8_carryOut : GoodIn wsL_law wsX8_carryOut := goodIn_r _ [979, 183, 980, 83, 77, 981, 982, 983, 984, 5, 985, 986, 987, 988, 989, 915, 79, 990, 991, 992, 993, 81, 994, 995, 996, 997, 998, 999, 1000, 1001, 1002, 82, 1003, 1004, 1005, 1006, 195, 196, 197, 1007, 1008, 1009, 1010, 184, 185, 186, 187, 188, 189, 190, 191, 192, 193, 194, 198, 199, 200, 201, 202, 203, 204, 205, 278, 279, 280, 281, 282, 283, 284, 285, 286, 287, 288, 289, 290, 291, 292, 293, 215, 216, 217, 336, 337, 338, 339, 313, 314, 315, 316, 237, 238, 239, 795, 796, 797, 798, 415, 416, 417, 240, 241, 242, 243, 1011, 1012, 1013, 1014, 1015, 1016, 1017, 1018, 211, 212, 213, 214, 294, 295, 296, 297, 317, 318, 319, 320, 799, 800, 801, 802, 803, 804, 805, 827, 828, 829, 830, 418, 419, 420, 421, 422, 423, 424, 425, 426, 427, 428, 429, 430, 431, 432, 433, 206, 207, 208, 209, 210, 78, 1080, 1081, 1082, 1083, 1084, 1085, 1086, 1087, 1088, 1089, 1090, 1091, 1092, 1093] (by decide +kernel) (by decide +kernel)
set_option maxRecDepth 20000 in
theorem gL_law_X8_carryOut : GoodIn wsL_law (wsV RL 242 RX8 yX8_carryOut wsX8_carryOut) := goodIn_app (goodIn_of _ (by decide +kernel)) ggL_law_X8_carryOut
set_option maxRecDepth 20000 in
theorem ggL_law_L_undo : GoodIn wsL_law wsL_undo := goodIn_ca (goodIn_r _ [1021, 89, 1022, 1023, 1024, 2, 1025, 173, 174, 21, 1026, 17, 1027, 1028, 1029, 20, 1030, 103, 1031, 973, 974, 975, 98, 99, 100, 101, 59, 102, 104, 105, 106, 107, 108, 109, 110, 16, 111, 37, 41, 112, 42, 113, 114, 115, 36, 116, 117, 118, 119, 120, 121, 122, 123, 124, 125, 48, 126, 127, 128, 129, 130, 131, 132, 40, 133, 134, 135, 136, 53, 137, 1076, 1077, 1078, 1079, 1098, 1099, 1100, 1094, 1095, 1096, 1097, 1109, 1110, 1111, 1112, 1113] (by decide +kernel) (by decide +kernel)) (goodIn_sub (fun _ h => List.mem_append_right _ h) (by decide +kernel))
set_option maxRecDepth 20000 in
theorem gL_law_L_undo : GoodIn wsL_law (va_wsS RL 243 yL_undo wsL_undo) := goodIn_app (goodIn_of _ (by decide +kernel)) ggL_law_L_undo
set_option maxRecDepth 20000 in
theorem ggL_law_X8_undo : GoodIn wsL_law wsX8_undo := goodIn_r _ [1035, 183, 210, 77, 78, 244, 245, 246, 5, 247, 1080, 1081, 1082, 1083, 1084, 1085, 1086, 1087, 1088, 1089, 1090, 1091, 1092, 1093] (by decide +kernel) (by decide +kernel)
set_option maxRecDepth 20000 in
theorem gL_law_X8_undo : GoodIn wsL_law (wsV RL 245 RX8 yX8_undo wsX8_undo) := goodIn_app (goodIn_of _ (by decide +kernel)) ggL_law_X8_undo
set_option maxRecDepth 20000 in
theorem ggL_law_X7_digest : GoodIn wsL_law wsX7_digest := goodIn_r _ [1039, 17, 344, 1040, 25, 904, 810, 1041, 29, 345, 21, 1026, 1042, 1043, 2, 1044, 1045, 1046, 1047, 1048, 36, 1049, 117, 118, 268, 269, 270, 271, 48, 1050, 1051, 1052, 40, 1053, 134, 816, 817, 818, 819, 53, 1054, 840, 841, 842, 1055, 844, 845, 846, 815, 500, 501, 502, 28, 503, 504, 72, 71, 505, 393, 394, 395, 396, 397, 398, 399, 400, 401, 402, 403, 404, 265, 266, 267, 405, 406, 407, 408, 506, 507, 508, 509, 510, 481, 482, 483, 123, 124, 121, 125, 119, 120, 122, 1056, 1057, 1058, 1059, 1060, 528, 529, 530, 531, 532, 533, 534, 535, 536, 537, 538, 539, 540, 541, 542, 555, 556, 557, 558, 559, 560, 561, 562, 1076, 1077, 1078, 1079, 1094, 1095, 1096, 1097, 1101, 1102, 1103, 1104, 1105, 1109, 1110, 1111, 1098, 1099, 1100, 1112, 1113, 1106, 1107, 1108] (by decide +kernel) (by decide +kernel)
set_option maxRecDepth 20000 in
theorem gL_law_X7_digest : GoodIn wsL_law (wsV RL 246 RX7 yX7_digest wsX7_digest) := goodIn_app (goodIn_of _ (by decide +kernel)) ggL_law_X7_digest
set_option maxRecDepth 20000 in
theorem ggL_law_X8_digest : GoodIn wsL_law wsX8_digest := goodIn_r _ [1064, 183, 1065, 1066, 915, 77, 515, 80, 210, 1067, 1068, 1069, 5, 1070, 1071, 1072, 1073, 1074, 1075, 803, 804, 805, 851, 852, 853, 854, 414, 516, 517, 518, 519, 418, 419, 420, 421, 422, 423, 424, 425, 286, 287, 288, 289, 290, 291, 292, 293, 215, 216, 217, 195, 196, 197, 426, 427, 428, 429, 430, 431, 432, 433, 567, 568, 569, 570, 1080, 1081, 1082, 1083, 1084, 1085, 1086, 1087, 1088, 1089, 1090, 1091, 1092, 1093] (by decide +kernel) (by decide +kernel)
set_option maxRecDepth 20000 in
theorem gL_law_X8_digest : GoodIn wsL_law (wsV RL 250 RX8 yX8_digest wsX8_digest) := goodIn_app (goodIn_of _ (by decide +kernel)) ggL_law_X8_digest
