set_option maxRecDepth 20000 in
theorem ggL_law_L_rollBack : GoodIn wsL_law wsL_rollBack := goodIn_ca (goodIn_ca (goodIn_ca (goodIn_r _ [883, 89, 884, 885, 886, 2, 887, 21, 17, 94, 95, 96, 20, 97, 98, 99, 100, 101, 59, 102, 103, 104, 105, 106, 107, 108, 109, 110, 16, 111, 37, 41, 112, 42, 113, 114, 115, 36, 116, 117, 118, 119, 120, 121, 122, 123, 124, 125, 48, 126, 127, 128, 129, 130, 131, 132, 40, 133, 134, 135, 136, 53, 137, 888, 889, 890, 891, 165, 166, 167, 168, 169, 170, 171, 172, 173, 174, 175, 176, 177, 178, 1075, 1076, 1077, 1078, 1097, 1098, 1099, 1093, 1094, 1095, 1096, 1108, 1109, 1110, 1111, 1112] (by decide +kernel) (by decide +kernel)) (goodIn_sub (fun _ h => List.mem_append_left _ (List.mem_append_left _ (List.mem_append_right _ h))) (by decide +kernel))) (goodIn_sub (fun _ h => List.mem_append_left _ (List.mem_append_right _ h)) (by decide +kernel))) (goodIn_sub (fun _ h => List.mem_append_right _ h) (by decide +kernel))
set_option maxRecDepth 20000 in
theorem gL_law_L_rollBack : GoodIn wsL_law (va_wsS RL 229 yL_rollBack wsL_rollBack) := goodIn_app (goodIn_of _ (by decide +kernel)) ggL_law_L_rollBack
set_option maxRecDepth 20000 in
theorem ggL_law_X8_rollBack : GoodIn wsL_law wsX8_rollBack := goodIn_r _ [895, 183, 77, 244, 245, 246, 5, 247, 206, 207, 208, 209, 210, 78, 1079, 1080, 1081, 1082, 1083, 1084, 1085, 1086, 1087, 1088, 1089, 1090, 1091, 1092] (by decide +kernel) (by decide +kernel)
set_option maxRecDepth 20000 in
theorem gL_law_X8_rollBack : GoodIn wsL_law (wsV RL 231 RX8 yX8_rollBack wsX8_rollBack) := goodIn_app (goodIn_of _ (by decide +kernel)) ggL_law_X8_rollBack
set_option maxRecDepth 20000 in
theorem ggL_law_L_append : GoodIn wsL_law wsL_append := goodIn_ca (goodIn_ca (goodIn_r _ [898, 88, 89, 899, 900, 901, 2, 902, 173, 174, 25, 903, 371, 372, 373, 171, 172, 374, 146, 147, 904, 905, 906, 24, 907, 908, 65, 1075, 1076, 1077, 1078, 1100, 1101, 1102, 1103, 1104] (by decide +kernel) (by decide +kernel)) (goodIn_sub (fun _ h => List.mem_append_right _ h) (by decide +kernel))) (goodIn_sub (fun _ h => List.mem_append_left _ (List.mem_append_right _ h)) (by decide +kernel))
set_option maxRecDepth 20000 in
theorem gL_law_L_append : GoodIn wsL_law (va_wsS RL 232 yL_append wsL_append) := goodIn_app (goodIn_of _ (by decide +kernel)) ggL_law_L_append
set_option maxRecDepth 20000 in
theorem ggL_law_X8_append : GoodIn wsL_law wsX8_append := goodIn_r _ [912, 183, 913, 914, 79, 195, 196, 5, 197, 244, 245, 246, 247, 1079, 1080, 1081, 1082, 1083, 1084, 1085, 1086, 1087, 1088, 1089, 1090, 1091, 1092] (by decide +kernel) (by decide +kernel)
set_option maxRecDepth 20000 in
theorem gL_law_X8_append : GoodIn wsL_law (wsV RL 234 RX8 yX8_append wsX8_append) := goodIn_app (goodIn_of _ (by decide +kernel)) ggL_law_X8_append
set_option maxRecDepth 20000 in
theorem ggL_law_X7_clearText : GoodIn wsL_law wsX7_clearText := goodIn_r _ [918, 25, 919, 920, 921, 24, 922, 908, 1075, 1076, 1077, 1078, 1100, 1101, 1102, 1103, 1104] (by decide +kernel) (by decide +kernel)
set_option maxRecDepth 20000 in
theorem gL_law_X7_clearText : GoodIn wsL_law (wsV RL 235 RX7 yX7_clearText wsX7_clearText) := goodIn_app (goodIn_of _ (by decide +kernel)) ggL_law_X7_clearText
set_option maxRecDepth 20000 in
theorem ggL_law_X8_clearText : GoodIn wsL_law wsX8_clearText := goodIn_r _ [926, 183, 914, 1079, 1080, 1081, 1082, 1083, 1084, 1085, 1086, 1087, 1088, 1089, 1090, 1091, 1092] (by decide +kernel) (by decide +kernel)
set_option maxRecDepth 20000 in
theorem gL_law_X8_clearText : GoodIn wsL_law (wsV RL 238 RX8 yX8_clearText wsX8_clearText) := goodIn_app (goodIn_of _ (by decide +kernel)) ggL_law_X8_clearText
set_option maxRecDepth 20000 in
theorem ggL_law_X7_carryOut : GoodIn wsL_law wsX7_carryOut := goodIn_r _ [930, 25, 21, 17, 931, 932, 933, 24, 934, 935, 908, 936, 937, 938, 939, 940, 941, 942, 943, 944, 945, 946, 947, 948, 65, 949, 950, 951, 952, 953, 954, 955, 66, 956, 957, 958, 959, 146, 2, 147, 94, 95, 96, 20, 97, 98, 99, 100, 101, 59, 102, 103, 104, 105, 106, 107, 108, 109, 110, 16, 111, 37, 41, 112, 42, 113, 114, 115, 36, 116, 117, 118, 119, 120, 121, 122, 123, 124, 125, 48, 126, 127, 128, 129, 130, 131, 132, 40, 133, 134, 135, 136, 53, 137, 960, 961, 962, 963, 964, 965, 966, 809, 344, 967, 968, 969, 970, 138, 139, 140, 141, 142, 143, 144, 145, 148, 149, 150, 151, 152, 153, 154, 155, 156, 157, 158, 159, 160, 161, 162, 163, 164, 256, 257, 258, 259, 260, 261, 262, 263, 264, 265, 266, 267, 268, 269, 270, 271, 272, 273, 328, 329, 330, 331, 305, 306, 307, 308, 774, 775, 776, 777, 778, 779, 780, 781, 782, 783, 784, 785, 786, 787, 788, 789, 810, 811, 812, 813, 814, 815, 816, 817, 818, 819, 393, 394, 395, 396, 397, 398, 399, 400, 401, 402, 403, 404, 405, 406, 407, 408, 820, 821, 465, 466, 467, 971, 972, 973, 974, 175, 176, 177, 178, 1075, 1076, 1077, 1078, 1100, 1101, 1102, 1103, 1104, 1097, 1098, 1099, 1093, 1094, 1095, 1096, 1108, 1109, 1110, 1111, 1112] (by decide +kernel) (by decide +kernel)
set_option maxRecDepth 20000 in
theorem gL_law_X7_carryOut : GoodIn wsL_law (wsV RL 239 RX7 yX7_carryOut wsX7_carryOut) := goodIn_app (goodIn_of _ (by decide +kernel)) ggL_law_X7_carryOut
set_option maxRecDepth 20000 in
theorem ggL_law_X8_carryOut : GoodIn wsL_law wsX8_carryOut := goodIn_r _ [978, 183, 979, 83, 77, 980, 981, 982, 983, 5, 984, 985, 986, 987, 988, 914, 79, 989, 990, 991, 992, 81, 993, 994, 995, 996, 997, 998, 999, 1000, 1001, 82, 1002, 1003, 1004, 1005, 195, 196, 197, 1006, 1007, 1008, 1009, 184, 185, 186, 187, 188, 189, 190, 191, 192, 193, 194, 198, 199, 200, 201, 202, 203, 204, 205, 278, 279, 280, 281, 282, 283, 284, 285, 286, 287, 288, 289, 290, 291, 292, 293, 215, 216, 217, 336, 337, 338, 339, 313, 314, 315, 316, 237, 238, 239, 794, 795, 796, 797, 415, 416, 417, 240, 241, 242, 243, 1010, 1011, 1012, 1013, 1014, 1015, 1016, 1017, 211, 212, 213, 214, 294, 295, 296, 297, 317, 318, 319, 320, 798, 799, 800, 801, 802, 803, 804, 826, 827, 828, 829, 418, 419, 420, 421, 422, 423, 424, 425, 426, 427, 428, 429, 430, 431, 432, 433, 206, 207, 208, 209, 210, 78, 1079, 1080, 1081, 1082, 1083, 1084, 1085, 1086, 1087, 1088, 1089, 1090, 1091, 1092] (by decide +kernel) (by decide +kernel)
set_option maxRecDepth 20000 in
theorem gL_law_X8_carryOut : GoodIn wsL_law (wsV RL 242 RX8 yX8_carryOut wsX8_carryOut) := goodIn_app (goodIn_of _ (by decide +kernel)) ggL_law_X8_carryOut
set_option maxRecDepth 20000 in
theorem ggL_law_L_undo : GoodIn wsL_law wsL_undo := goodIn_ca (goodIn_r _ [1020, 89, 1021, 1022, 1023, 2, 1024, 173, 174, 21, 1025, 17, 1026, 1027, 1028, 20, 1029, 103, 1030, 972, 973, 974, 98, 99, 100, 101, 59, 102, 104, 105, 106, 107, 108, 109, 110, 16, 111, 37, 41, 112, 42, 113, 114, 115, 36, 116, 117, 118, 119, 120, 121, 122, 123, 124, 125, 48, 126, 127, 128, 129, 130, 131, 132, 40, 133, 134, 135, 136, 53, 137, 1075, 1076, 1077, 1078, 1097, 1098, 1099, 1093, 1094, 1095, 1096, 1108, 1109, 1110, 1111, 1112] (by decide +kernel) (by decide +kernel)) (goodIn_sub (fun _ h => List.mem_append_right _ h) (by decide +kernel))
set_option maxRecDepth 20000 in
theorem gL_law_L_undo : GoodIn wsL_law (va_wsS RL 243 yL_undo wsL_undo) := goodIn_app (goodIn_of _ (by decide +kernel)) ggL_law_L_undo
set_option maxRecDepth 20000 in
theorem ggL_law_X8_undo : GoodIn wsL_law wsX8_undo := goodIn_r _ [1034, 183, 210, 77, 78, 244, 245, 246, 5, 247, 1079, 1080, 1081, 1082, 1083, 1084, 1085, 1086, 1087, 1088, 1089, 1090, 1091, 1092] (by decide +kernel) (by decide +kernel)
set_option maxRecDepth 20000 in
theorem gL_law_X8_undo : GoodIn wsL_law (wsV RL 245 RX8 yX8_undo wsX8_undo) := goodIn_app (goodIn_of _ (by decide +kernel)) ggL_law_X8_undo
set_option maxRecDepth 20000 in
theorem ggL_law_X7_digest : GoodIn wsL_law wsX7_digest := goodIn_r _ [1038, 17, 344, 1039, 25, 903, 809, 1040, 29, 345, 21, 1025, 1041, 1042, 2, 1043, 1044, 1045, 1046, 1047, 36, 1048, 117, 118, 268, 269, 270, 271, 48, 1049, 1050, 1051, 40, 1052, 134, 815, 816, 817, 818, 53, 1053, 839, 840, 841, 1054, 843, 844, 845, 814, 499, 500, 501, 28, 502, 503, 72, 71, 504, 393, 394, 395, 396, 397, 398, 399, 400, 401, 402, 403, 404, 265, 266, 267, 405, 406, 407, 408, 505, 506, 507, 508, 509, 480, 481, 482, 123, 124, 121, 125, 119, 120, 122, 1055, 1056, 1057, 1058, 1059, 527, 528, 529, 530, 531, 532, 533, 534, 535, 536, 537, 538, 539, 540, 541, 554, 555, 556, 557, 558, 559, 560, 561, 1075, 1076, 1077, 1078, 1093, 1094, 1095, 1096, 1100, 1101, 1102, 1103, 1104, 1108, 1109, 1110, 1097, 1098, 1099, 1111, 1112, 1105, 1106, 1107] (by decide +kernel) (by decide +kernel)
set_option maxRecDepth 20000 in
theorem gL_law_X7_digest : GoodIn wsL_law (wsV RL 246 RX7 yX7_digest wsX7_digest) := goodIn_app (goodIn_of _ (by decide +kernel)) ggL_law_X7_digest
set_option maxRecDepth 20000 in
theorem ggL_law_X8_digest : GoodIn wsL_law wsX8_digest := goodIn_r _ [1063, 183, 1064, 1065, 914, 77, 514, 80, 210, 1066, 1067, 1068, 5, 1069, 1070, 1071, 1072, 1073, 1074, 802, 803, 804, 850, 851, 852, 853, 414, 515, 516, 517, 518, 418, 419, 420, 421, 422, 423, 424, 425, 286, 287, 288, 289, 290, 291, 292, 293, 215, 216, 217, 195, 196, 197, 426, 427, 428, 429, 430, 431, 432, 433, 566, 567, 568, 569, 1079, 1080, 1081, 1082, 1083, 1084, 1085, 1086, 1087, 1088, 1089, 1090, 1091, 1092] (by decide +kernel) (by decide +kernel)
set_option maxRecDepth 20000 in
theorem gL_law_X8_digest : GoodIn wsL_law (wsV RL 250 RX8 yX8_digest wsX8_digest) := goodIn_app (goodIn_of _ (by decide +kernel)) ggL_law_X8_digest
