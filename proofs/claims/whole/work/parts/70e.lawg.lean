set_option maxRecDepth 20000 in
theorem ggL_law_X8_add : GoodIn wsL_law wsX8_add := goodIn_r _ [182, 183, 77, 184, 185, 186, 5, 187, 188, 189, 190, 191, 192, 193, 194, 195, 196, 197, 198, 199, 200, 201, 202, 203, 204, 205, 206, 207, 208, 209, 210, 78, 211, 212, 213, 214, 215, 216, 217, 1079, 1080, 1081, 1082, 1083, 1084, 1085, 1086, 1087, 1088, 1089, 1090, 1091, 1092] (by decide +kernel) (by decide +kernel)
set_option maxRecDepth 20000 in
theorem gL_law_X8_add : GoodIn wsL_law (wsV RL 123 RX8 yX8_add wsX8_add) := goodIn_app (goodIn_of _ (by decide +kernel)) ggL_law_X8_add
set_option maxRecDepth 20000 in
theorem ggL_law_X8_thrown : GoodIn wsL_law wsX8_thrown := goodIn_r _ [221, 183, 1079, 1080, 1081, 1082, 1083, 1084, 1085, 1086, 1087, 1088, 1089, 1090, 1091, 1092] (by decide +kernel) (by decide +kernel)
set_option maxRecDepth 20000 in
theorem gL_law_X8_thrown : GoodIn wsL_law (wsV RL 124 RX8 yX8_thrown wsX8_thrown) := goodIn_app (goodIn_of _ (by decide +kernel)) ggL_law_X8_thrown
set_option maxRecDepth 20000 in
theorem ggL_law_L_addThrough : GoodIn wsL_law wsL_addThrough := goodIn_ca (goodIn_ca (goodIn_ca (goodIn_r _ [224, 88, 89, 225, 226, 227, 2, 228, 21, 17, 94, 95, 96, 20, 97, 98, 99, 100, 101, 59, 102, 103, 104, 105, 106, 107, 108, 109, 110, 16, 111, 37, 41, 112, 42, 113, 114, 115, 36, 116, 117, 118, 119, 120, 121, 122, 123, 124, 125, 48, 126, 127, 128, 129, 130, 131, 132, 40, 133, 134, 135, 136, 53, 137, 229, 230, 231, 232, 146, 147, 148, 149, 150, 151, 152, 143, 144, 145, 153, 154, 155, 156, 157, 158, 159, 160, 161, 162, 163, 164, 165, 166, 167, 168, 169, 170, 171, 172, 173, 174, 175, 176, 177, 178, 1075, 1076, 1077, 1078, 1097, 1098, 1099, 1093, 1094, 1095, 1096, 1108, 1109, 1110, 1111, 1112] (by decide +kernel) (by decide +kernel)) (goodIn_sub (fun _ h => List.mem_append_left _ (List.mem_append_left _ (List.mem_append_right _ h))) (by decide +kernel))) (goodIn_sub (fun _ h => List.mem_append_left _ (List.mem_append_right _ h)) (by decide +kernel))) (goodIn_sub (fun _ h => List.mem_append_right _ h) (by decide +kernel))
set_option maxRecDepth 20000 in
theorem gL_law_L_addThrough : GoodIn wsL_law (va_wsS RL 127 yL_addThrough wsL_addThrough) := goodIn_app (goodIn_of _ (by decide +kernel)) ggL_law_L_addThrough
set_option maxRecDepth 20000 in
theorem ggL_law_X8_addThrough : GoodIn wsL_law wsX8_addThrough := goodIn_r _ [236, 183, 198, 199, 5, 200, 201, 195, 196, 197, 237, 238, 239, 193, 194, 240, 241, 242, 243, 244, 245, 246, 247, 188, 189, 190, 191, 192, 202, 203, 204, 205, 77, 206, 207, 208, 209, 210, 78, 211, 212, 213, 214, 215, 216, 217, 1079, 1080, 1081, 1082, 1083, 1084, 1085, 1086, 1087, 1088, 1089, 1090, 1091, 1092] (by decide +kernel) (by decide +kernel)
set_option maxRecDepth 20000 in
theorem gL_law_X8_addThrough : GoodIn wsL_law (wsV RL 130 RX8 yX8_addThrough wsX8_addThrough) := goodIn_app (goodIn_of _ (by decide +kernel)) ggL_law_X8_addThrough
set_option maxRecDepth 20000 in
theorem ggL_law_L_end : GoodIn wsL_law wsL_end := goodIn_ca (goodIn_ca (goodIn_ca (goodIn_r _ [250, 251, 89, 252, 253, 254, 2, 255, 21, 17, 94, 95, 96, 20, 97, 98, 99, 100, 101, 59, 102, 103, 104, 105, 106, 107, 108, 109, 110, 16, 111, 37, 41, 112, 42, 113, 114, 115, 36, 116, 117, 118, 119, 120, 121, 122, 123, 124, 125, 48, 126, 127, 128, 129, 130, 131, 132, 40, 133, 134, 135, 136, 53, 137, 256, 257, 258, 259, 142, 260, 261, 262, 263, 264, 265, 266, 267, 268, 269, 270, 271, 272, 162, 163, 164, 273, 165, 166, 167, 168, 169, 170, 171, 172, 173, 174, 175, 176, 177, 178, 1075, 1076, 1077, 1078, 1097, 1098, 1099, 1093, 1094, 1095, 1096, 1108, 1109, 1110, 1111, 1112] (by decide +kernel) (by decide +kernel)) (goodIn_sub (fun _ h => List.mem_append_left _ (List.mem_append_left _ (List.mem_append_right _ h))) (by decide +kernel))) (goodIn_sub (fun _ h => List.mem_append_left _ (List.mem_append_right _ h)) (by decide +kernel))) (goodIn_sub (fun _ h => List.mem_append_right _ h) (by decide +kernel))
set_option maxRecDepth 20000 in
theorem gL_law_L_end : GoodIn wsL_law (va_wsS RL 131 yL_end wsL_end) := goodIn_app (goodIn_of _ (by decide +kernel)) ggL_law_L_end
set_option maxRecDepth 20000 in
theorem ggL_law_X8_end : GoodIn wsL_law wsX8_end := goodIn_r _ [277, 183, 278, 279, 280, 5, 281, 77, 282, 283, 284, 285, 195, 196, 197, 286, 287, 288, 289, 290, 291, 292, 293, 215, 216, 217, 206, 207, 208, 209, 210, 78, 294, 295, 296, 297, 1079, 1080, 1081, 1082, 1083, 1084, 1085, 1086, 1087, 1088, 1089, 1090, 1091, 1092] (by decide +kernel) (by decide +kernel)
set_option maxRecDepth 20000 in
theorem gL_law_X8_end : GoodIn wsL_law (wsV RL 134 RX8 yX8_end wsX8_end) := goodIn_app (goodIn_of _ (by decide +kernel)) ggL_law_X8_end
set_option maxRecDepth 20000 in
theorem ggL_law_L_lift : GoodIn wsL_law wsL_lift := goodIn_ca (goodIn_ca (goodIn_ca (goodIn_r _ [300, 251, 88, 89, 301, 302, 303, 2, 304, 21, 17, 94, 95, 96, 20, 97, 98, 99, 100, 101, 59, 102, 103, 104, 105, 106, 107, 108, 109, 110, 16, 111, 37, 41, 112, 42, 113, 114, 115, 36, 116, 117, 118, 119, 120, 121, 122, 123, 124, 125, 48, 126, 127, 128, 129, 130, 131, 132, 40, 133, 134, 135, 136, 53, 137, 305, 306, 307, 308, 142, 260, 261, 262, 263, 148, 149, 150, 151, 152, 146, 147, 273, 269, 270, 271, 264, 265, 266, 267, 268, 153, 154, 155, 156, 272, 162, 163, 164, 157, 158, 159, 160, 161, 165, 166, 167, 168, 169, 170, 171, 172, 173, 174, 175, 176, 177, 178, 1075, 1076, 1077, 1078, 1097, 1098, 1099, 1093, 1094, 1095, 1096, 1108, 1109, 1110, 1111, 1112] (by decide +kernel) (by decide +kernel)) (goodIn_sub (fun _ h => List.mem_append_left _ (List.mem_append_left _ (List.mem_append_right _ h))) (by decide +kernel))) (goodIn_sub (fun _ h => List.mem_append_left _ (List.mem_append_right _ h)) (by decide +kernel))) (goodIn_sub (fun _ h => List.mem_append_right _ h) (by decide +kernel))
set_option maxRecDepth 20000 in
theorem gL_law_L_lift : GoodIn wsL_law (va_wsS RL 135 yL_lift wsL_lift) := goodIn_app (goodIn_of _ (by decide +kernel)) ggL_law_L_lift
set_option maxRecDepth 20000 in
theorem ggL_law_X8_lift : GoodIn wsL_law wsX8_lift := goodIn_r _ [312, 183, 313, 314, 315, 5, 316, 77, 282, 283, 284, 285, 195, 196, 197, 237, 238, 239, 193, 194, 290, 291, 292, 293, 215, 216, 217, 286, 287, 288, 289, 202, 203, 204, 205, 206, 207, 208, 209, 210, 78, 317, 318, 319, 320, 211, 212, 213, 214, 1079, 1080, 1081, 1082, 1083, 1084, 1085, 1086, 1087, 1088, 1089, 1090, 1091, 1092] (by decide +kernel) (by decide +kernel)
set_option maxRecDepth 20000 in
theorem gL_law_X8_lift : GoodIn wsL_law (wsV RL 138 RX8 yX8_lift wsX8_lift) := goodIn_app (goodIn_of _ (by decide +kernel)) ggL_law_X8_lift
set_option maxRecDepth 20000 in
theorem ggL_law_L_pass : GoodIn wsL_law wsL_pass := goodIn_ca (goodIn_ca (goodIn_ca (goodIn_r _ [323, 88, 89, 324, 325, 326, 2, 327, 21, 17, 94, 95, 96, 20, 97, 98, 99, 100, 101, 59, 102, 103, 104, 105, 106, 107, 108, 109, 110, 16, 111, 37, 41, 112, 42, 113, 114, 115, 36, 116, 117, 118, 119, 120, 121, 122, 123, 124, 125, 48, 126, 127, 128, 129, 130, 131, 132, 40, 133, 134, 135, 136, 53, 137, 328, 329, 330, 331, 142, 146, 147, 165, 166, 167, 168, 169, 170, 171, 172, 173, 174, 175, 176, 177, 178, 1075, 1076, 1077, 1078, 1097, 1098, 1099, 1093, 1094, 1095, 1096, 1108, 1109, 1110, 1111, 1112] (by decide +kernel) (by decide +kernel)) (goodIn_sub (fun _ h => List.mem_append_left _ (List.mem_append_left _ (List.mem_append_right _ h))) (by decide +kernel))) (goodIn_sub (fun _ h => List.mem_append_left _ (List.mem_append_right _ h)) (by decide +kernel))) (goodIn_sub (fun _ h => List.mem_append_right _ h) (by decide +kernel))
set_option maxRecDepth 20000 in
theorem gL_law_L_pass : GoodIn wsL_law (va_wsS RL 139 yL_pass wsL_pass) := goodIn_app (goodIn_of _ (by decide +kernel)) ggL_law_L_pass
set_option maxRecDepth 20000 in
theorem ggL_law_X8_pass : GoodIn wsL_law wsX8_pass := goodIn_r _ [335, 183, 77, 336, 337, 338, 5, 339, 192, 195, 196, 197, 206, 207, 208, 209, 210, 78, 1079, 1080, 1081, 1082, 1083, 1084, 1085, 1086, 1087, 1088, 1089, 1090, 1091, 1092] (by decide +kernel) (by decide +kernel)
set_option maxRecDepth 20000 in
theorem gL_law_X8_pass : GoodIn wsL_law (wsV RL 141 RX8 yX8_pass wsX8_pass) := goodIn_app (goodIn_of _ (by decide +kernel)) ggL_law_X8_pass
set_option maxRecDepth 20000 in
theorem ggL_law_X7_now : GoodIn wsL_law wsX7_now := goodIn_r _ [343, 17, 344, 345, 1075, 1076, 1077, 1078, 1093, 1094, 1095, 1096, 1108, 1109, 1110] (by decide +kernel) (by decide +kernel)
set_option maxRecDepth 20000 in
theorem gL_law_X7_now : GoodIn wsL_law (wsV RL 142 RX7 yX7_now wsX7_now) := goodIn_app (goodIn_of _ (by decide +kernel)) ggL_law_X7_now
set_option maxRecDepth 20000 in
theorem ggL_law_X8_now : GoodIn wsL_law wsX8_now := goodIn_r _ [349, 183, 77, 1079, 1080, 1081, 1082, 1083, 1084, 1085, 1086, 1087, 1088, 1089, 1090, 1091, 1092] (by decide +kernel) (by decide +kernel)
set_option maxRecDepth 20000 in
theorem gL_law_X8_now : GoodIn wsL_law (wsV RL 145 RX8 yX8_now wsX8_now) := goodIn_app (goodIn_of _ (by decide +kernel)) ggL_law_X8_now
set_option maxRecDepth 20000 in
theorem ggL_law_X7_segments : GoodIn wsL_law wsX7_segments := goodIn_r _ [353, 17, 344, 354, 1075, 1076, 1077, 1078, 1093, 1094, 1095, 1096, 1108, 1109, 1110] (by decide +kernel) (by decide +kernel)
set_option maxRecDepth 20000 in
theorem gL_law_X7_segments : GoodIn wsL_law (wsV RL 146 RX7 yX7_segments wsX7_segments) := goodIn_app (goodIn_of _ (by decide +kernel)) ggL_law_X7_segments
set_option maxRecDepth 20000 in
theorem ggL_law_X8_segments : GoodIn wsL_law wsX8_segments := goodIn_r _ [358, 183, 77, 1079, 1080, 1081, 1082, 1083, 1084, 1085, 1086, 1087, 1088, 1089, 1090, 1091, 1092] (by decide +kernel) (by decide +kernel)
set_option maxRecDepth 20000 in
theorem gL_law_X8_segments : GoodIn wsL_law (wsV RL 149 RX8 yX8_segments wsX8_segments) := goodIn_app (goodIn_of _ (by decide +kernel)) ggL_law_X8_segments
set_option maxRecDepth 20000 in
theorem ggL_law_L_segment : GoodIn wsL_law wsL_segment := goodIn_ca (goodIn_ca (goodIn_r _ [361, 251, 88, 362, 363, 364, 2, 365, 17, 344, 366, 367, 368, 369, 169, 170, 370, 261, 262, 36, 263, 118, 371, 372, 373, 171, 172, 374, 146, 147, 375, 269, 270, 271, 48, 1075, 1076, 1077, 1078, 1093, 1094, 1095, 1096, 1108, 1109, 1110] (by decide +kernel) (by decide +kernel)) (goodIn_sub (fun _ h => List.mem_append_left _ (List.mem_append_left _ (List.mem_append_right _ h))) (by decide +kernel))) (goodIn_sub (fun _ h => List.mem_append_left _ (List.mem_append_right _ h)) (by decide +kernel))
set_option maxRecDepth 20000 in
theorem gL_law_L_segment : GoodIn wsL_law (va_wsS RL 150 yL_segment wsL_segment) := goodIn_app (goodIn_of _ (by decide +kernel)) ggL_law_L_segment
set_option maxRecDepth 20000 in
theorem ggL_law_X8_segment : GoodIn wsL_law wsX8_segment := goodIn_r _ [379, 183, 380, 282, 283, 284, 5, 285, 77, 195, 196, 197, 244, 245, 246, 247, 290, 291, 292, 293, 215, 216, 217, 1079, 1080, 1081, 1082, 1083, 1084, 1085, 1086, 1087, 1088, 1089, 1090, 1091, 1092] (by decide +kernel) (by decide +kernel)
set_option maxRecDepth 20000 in
theorem gL_law_X8_segment : GoodIn wsL_law (wsV RL 152 RX8 yX8_segment wsX8_segment) := goodIn_app (goodIn_of _ (by decide +kernel)) ggL_law_X8_segment
set_option maxRecDepth 20000 in
theorem ggL_law_L_minimum : GoodIn wsL_law wsL_minimum := goodIn_ca (goodIn_r _ [383, 88, 384, 385, 386, 2, 387, 17, 344, 388, 389, 390, 391, 371, 372, 373, 171, 172, 374, 146, 147, 392, 393, 394, 36, 395, 118, 396, 397, 398, 399, 400, 401, 402, 403, 268, 269, 270, 271, 48, 404, 265, 266, 267, 405, 406, 407, 408, 409, 1075, 1076, 1077, 1078, 1093, 1094, 1095, 1096, 1108, 1109, 1110] (by decide +kernel) (by decide +kernel)) (goodIn_sub (fun _ h => List.mem_append_left _ (List.mem_append_right _ h)) (by decide +kernel))
set_option maxRecDepth 20000 in
theorem gL_law_L_minimum : GoodIn wsL_law (va_wsS RL 153 yL_minimum wsL_minimum) := goodIn_app (goodIn_of _ (by decide +kernel)) ggL_law_L_minimum
set_option maxRecDepth 20000 in
theorem ggL_law_X8_minimum : GoodIn wsL_law wsX8_minimum := goodIn_r _ [413, 183, 414, 415, 416, 5, 417, 198, 199, 200, 201, 195, 196, 197, 240, 241, 242, 243, 244, 245, 246, 247, 418, 419, 420, 421, 77, 422, 423, 424, 425, 286, 287, 288, 289, 290, 291, 292, 293, 215, 216, 217, 426, 427, 428, 429, 430, 431, 432, 433, 1079, 1080, 1081, 1082, 1083, 1084, 1085, 1086, 1087, 1088, 1089, 1090, 1091, 1092] (by decide +kernel) (by decide +kernel)
set_option maxRecDepth 20000 in
theorem gL_law_X8_minimum : GoodIn wsL_law (wsV RL 155 RX8 yX8_minimum wsX8_minimum) := goodIn_app (goodIn_of _ (by decide +kernel)) ggL_law_X8_minimum
set_option maxRecDepth 20000 in
theorem ggL_law_L_ranked : GoodIn wsL_law wsL_ranked := goodIn_ca (goodIn_r _ [436, 88, 437, 438, 439, 2, 440, 171, 172, 17, 344, 389, 390, 391, 371, 372, 373, 374, 146, 147, 441, 442, 443, 36, 444, 118, 396, 397, 398, 399, 400, 401, 402, 403, 268, 269, 270, 271, 48, 404, 265, 266, 267, 445, 446, 447, 448, 405, 406, 407, 408, 1075, 1076, 1077, 1078, 1093, 1094, 1095, 1096, 1108, 1109, 1110] (by decide +kernel) (by decide +kernel)) (goodIn_sub (fun _ h => List.mem_append_left _ (List.mem_append_right _ h)) (by decide +kernel))
set_option maxRecDepth 20000 in
theorem gL_law_L_ranked : GoodIn wsL_law (va_wsS RL 156 yL_ranked wsL_ranked) := goodIn_app (goodIn_of _ (by decide +kernel)) ggL_law_L_ranked
set_option maxRecDepth 20000 in
theorem ggL_law_X8_ranked : GoodIn wsL_law wsX8_ranked := goodIn_r _ [452, 183, 77, 415, 416, 5, 417, 198, 199, 200, 201, 195, 196, 197, 240, 241, 242, 243, 244, 245, 246, 247, 422, 423, 424, 425, 286, 287, 288, 289, 290, 291, 292, 293, 215, 216, 217, 453, 454, 455, 456, 426, 427, 428, 429, 430, 431, 432, 433, 1079, 1080, 1081, 1082, 1083, 1084, 1085, 1086, 1087, 1088, 1089, 1090, 1091, 1092] (by decide +kernel) (by decide +kernel)
set_option maxRecDepth 20000 in
theorem gL_law_X8_ranked : GoodIn wsL_law (wsV RL 159 RX8 yX8_ranked wsX8_ranked) := goodIn_app (goodIn_of _ (by decide +kernel)) ggL_law_X8_ranked
set_option maxRecDepth 20000 in
theorem ggL_law_L_below : GoodIn wsL_law wsL_below := goodIn_ca (goodIn_r _ [459, 88, 460, 461, 462, 2, 463, 17, 344, 389, 390, 391, 371, 372, 373, 171, 172, 374, 146, 147, 464, 465, 466, 36, 467, 118, 396, 397, 398, 399, 400, 401, 402, 403, 268, 269, 270, 271, 48, 404, 265, 266, 267, 405, 406, 407, 408, 1075, 1076, 1077, 1078, 1093, 1094, 1095, 1096, 1108, 1109, 1110] (by decide +kernel) (by decide +kernel)) (goodIn_sub (fun _ h => List.mem_append_left _ (List.mem_append_right _ h)) (by decide +kernel))
set_option maxRecDepth 20000 in
theorem gL_law_L_below : GoodIn wsL_law (va_wsS RL 162 yL_below wsL_below) := goodIn_app (goodIn_of _ (by decide +kernel)) ggL_law_L_below
set_option maxRecDepth 20000 in
theorem ggL_law_X8_below : GoodIn wsL_law wsX8_below := goodIn_r _ [471, 183, 77, 415, 416, 5, 417, 198, 199, 200, 201, 195, 196, 197, 240, 241, 242, 243, 244, 245, 246, 247, 422, 423, 424, 425, 286, 287, 288, 289, 290, 291, 292, 293, 215, 216, 217, 430, 431, 432, 433, 1079, 1080, 1081, 1082, 1083, 1084, 1085, 1086, 1087, 1088, 1089, 1090, 1091, 1092] (by decide +kernel) (by decide +kernel)
set_option maxRecDepth 20000 in
theorem gL_law_X8_below : GoodIn wsL_law (wsV RL 165 RX8 yX8_below wsX8_below) := goodIn_app (goodIn_of _ (by decide +kernel)) ggL_law_X8_below
set_option maxRecDepth 20000 in
theorem ggL_law_L_overtakes : GoodIn wsL_law wsL_overtakes := goodIn_ca (goodIn_r _ [474, 251, 475, 476, 477, 2, 478, 17, 344, 366, 367, 368, 369, 169, 170, 370, 261, 262, 36, 263, 118, 479, 480, 481, 482, 123, 124, 121, 125, 119, 120, 122, 268, 269, 270, 271, 48, 1075, 1076, 1077, 1078, 1093, 1094, 1095, 1096, 1108, 1109, 1110] (by decide +kernel) (by decide +kernel)) (goodIn_sub (fun _ h => List.mem_append_left _ (List.mem_append_left _ (List.mem_append_right _ h))) (by decide +kernel))
set_option maxRecDepth 20000 in
theorem gL_law_L_overtakes : GoodIn wsL_law (va_wsS RL 166 yL_overtakes wsL_overtakes) := goodIn_app (goodIn_of _ (by decide +kernel)) ggL_law_L_overtakes
set_option maxRecDepth 20000 in
theorem ggL_law_X8_overtakes : GoodIn wsL_law wsX8_overtakes := goodIn_r _ [486, 183, 282, 283, 284, 5, 285, 77, 195, 196, 197, 244, 245, 246, 247, 290, 291, 292, 293, 215, 216, 217, 430, 431, 432, 433, 1079, 1080, 1081, 1082, 1083, 1084, 1085, 1086, 1087, 1088, 1089, 1090, 1091, 1092] (by decide +kernel) (by decide +kernel)
set_option maxRecDepth 20000 in
theorem gL_law_X8_overtakes : GoodIn wsL_law (wsV RL 168 RX8 yX8_overtakes wsX8_overtakes) := goodIn_app (goodIn_of _ (by decide +kernel)) ggL_law_X8_overtakes
set_option maxRecDepth 20000 in
theorem ggL_law_L_pieces : GoodIn wsL_law wsL_pieces := goodIn_ca (goodIn_r _ [489, 88, 490, 491, 492, 2, 493, 29, 494, 495, 496, 497, 498, 17, 344, 371, 372, 373, 171, 172, 374, 146, 147, 499, 500, 501, 28, 502, 503, 72, 71, 504, 393, 394, 36, 395, 118, 396, 397, 398, 399, 400, 401, 402, 403, 268, 269, 270, 271, 48, 404, 265, 266, 267, 405, 406, 407, 408, 505, 506, 507, 508, 509, 480, 481, 482, 123, 124, 121, 125, 119, 120, 122, 1075, 1076, 1077, 1078, 1105, 1106, 1107, 1093, 1094, 1095, 1096, 1108, 1109, 1110] (by decide +kernel) (by decide +kernel)) (goodIn_sub (fun _ h => List.mem_append_left _ (List.mem_append_right _ h)) (by decide +kernel))
set_option maxRecDepth 20000 in
theorem gL_law_L_pieces : GoodIn wsL_law (va_wsS RL 169 yL_pieces wsL_pieces) := goodIn_app (goodIn_of _ (by decide +kernel)) ggL_law_L_pieces
set_option maxRecDepth 20000 in
theorem ggL_law_X8_pieces : GoodIn wsL_law wsX8_pieces := goodIn_r _ [513, 183, 514, 240, 241, 5, 242, 243, 195, 196, 197, 244, 245, 246, 247, 515, 516, 517, 518, 80, 418, 419, 420, 421, 77, 422, 423, 424, 425, 286, 287, 288, 289, 290, 291, 292, 293, 215, 216, 217, 426, 427, 428, 429, 430, 431, 432, 433, 1079, 1080, 1081, 1082, 1083, 1084, 1085, 1086, 1087, 1088, 1089, 1090, 1091, 1092] (by decide +kernel) (by decide +kernel)
set_option maxRecDepth 20000 in
theorem gL_law_X8_pieces : GoodIn wsL_law (wsV RL 171 RX8 yX8_pieces wsX8_pieces) := goodIn_app (goodIn_of _ (by decide +kernel)) ggL_law_X8_pieces
set_option maxRecDepth 20000 in
theorem ggL_law_L_piece : GoodIn wsL_law wsL_piece := goodIn_ca (goodIn_ca (goodIn_r _ [521, 88, 251, 522, 523, 524, 2, 525, 169, 170, 29, 494, 371, 372, 373, 171, 172, 374, 146, 147, 495, 496, 497, 498, 17, 344, 499, 500, 501, 28, 502, 503, 72, 71, 504, 393, 394, 36, 395, 118, 396, 397, 398, 399, 400, 401, 402, 403, 268, 269, 270, 271, 48, 404, 265, 266, 267, 405, 406, 407, 408, 505, 506, 507, 508, 509, 480, 481, 482, 123, 124, 121, 125, 119, 120, 122, 526, 527, 528, 529, 530, 531, 532, 533, 534, 535, 536, 537, 538, 539, 540, 541, 1075, 1076, 1077, 1078, 1105, 1106, 1107, 1093, 1094, 1095, 1096, 1108, 1109, 1110] (by decide +kernel) (by decide +kernel)) (goodIn_sub (fun _ h => List.mem_append_left _ (List.mem_append_left _ (List.mem_append_right _ h))) (by decide +kernel))) (goodIn_sub (fun _ h => List.mem_append_left _ (List.mem_append_right _ h)) (by decide +kernel))
set_option maxRecDepth 20000 in
theorem gL_law_L_piece : GoodIn wsL_law (va_wsS RL 172 yL_piece wsL_piece) := goodIn_app (goodIn_of _ (by decide +kernel)) ggL_law_L_piece
set_option maxRecDepth 20000 in
theorem ggL_law_X8_piece : GoodIn wsL_law wsX8_piece := goodIn_r _ [545, 183, 546, 514, 80, 240, 241, 5, 242, 243, 195, 196, 197, 244, 245, 246, 247, 515, 516, 517, 518, 418, 419, 420, 421, 77, 422, 423, 424, 425, 286, 287, 288, 289, 290, 291, 292, 293, 215, 216, 217, 426, 427, 428, 429, 430, 431, 432, 433, 1079, 1080, 1081, 1082, 1083, 1084, 1085, 1086, 1087, 1088, 1089, 1090, 1091, 1092] (by decide +kernel) (by decide +kernel)
set_option maxRecDepth 20000 in
theorem gL_law_X8_piece : GoodIn wsL_law (wsV RL 174 RX8 yX8_piece wsX8_piece) := goodIn_app (goodIn_of _ (by decide +kernel)) ggL_law_X8_piece
set_option maxRecDepth 20000 in
theorem ggL_law_L_sum : GoodIn wsL_law wsL_sum := goodIn_ca (goodIn_r _ [549, 88, 550, 551, 552, 2, 553, 29, 17, 344, 371, 372, 373, 171, 172, 374, 146, 147, 495, 496, 497, 498, 499, 500, 501, 28, 502, 503, 72, 71, 504, 393, 394, 36, 395, 118, 396, 397, 398, 399, 400, 401, 402, 403, 268, 269, 270, 271, 48, 404, 265, 266, 267, 405, 406, 407, 408, 505, 506, 507, 508, 509, 480, 481, 482, 123, 124, 121, 125, 119, 120, 122, 554, 555, 556, 557, 558, 559, 560, 530, 531, 532, 533, 534, 535, 536, 537, 538, 539, 540, 541, 561, 1075, 1076, 1077, 1078, 1093, 1094, 1095, 1096, 1105, 1106, 1107, 1108, 1109, 1110] (by decide +kernel) (by decide +kernel)) (goodIn_sub (fun _ h => List.mem_append_left _ (List.mem_append_right _ h)) (by decide +kernel))
set_option maxRecDepth 20000 in
theorem gL_law_L_sum : GoodIn wsL_law (va_wsS RL 175 yL_sum wsL_sum) := goodIn_app (goodIn_of _ (by decide +kernel)) ggL_law_L_sum
set_option maxRecDepth 20000 in
theorem ggL_law_X8_sum : GoodIn wsL_law wsX8_sum := goodIn_r _ [565, 183, 240, 241, 5, 242, 243, 195, 196, 197, 198, 199, 200, 201, 566, 567, 568, 569, 418, 419, 420, 421, 77, 422, 423, 424, 425, 286, 287, 288, 289, 290, 291, 292, 293, 215, 216, 217, 426, 427, 428, 429, 430, 431, 432, 433, 244, 245, 246, 247, 1079, 1080, 1081, 1082, 1083, 1084, 1085, 1086, 1087, 1088, 1089, 1090, 1091, 1092] (by decide +kernel) (by decide +kernel)
set_option maxRecDepth 20000 in
theorem gL_law_X8_sum : GoodIn wsL_law (wsV RL 177 RX8 yX8_sum wsX8_sum) := goodIn_app (goodIn_of _ (by decide +kernel)) ggL_law_X8_sum
set_option maxRecDepth 20000 in
theorem ggL_law_L_visible : GoodIn wsL_law wsL_visible := goodIn_ca (goodIn_ca (goodIn_r _ [572, 251, 88, 573, 574, 575, 2, 576, 29, 366, 367, 368, 369, 169, 170, 17, 344, 370, 261, 262, 36, 263, 118, 495, 496, 497, 498, 371, 372, 373, 171, 172, 374, 146, 147, 499, 500, 501, 28, 502, 503, 72, 71, 504, 393, 394, 395, 396, 397, 398, 399, 400, 401, 402, 403, 268, 269, 270, 271, 48, 404, 265, 266, 267, 405, 406, 407, 408, 505, 506, 507, 508, 509, 480, 481, 482, 123, 124, 121, 125, 119, 120, 122, 577, 578, 579, 580, 538, 539, 540, 541, 534, 535, 536, 537, 530, 531, 532, 533, 1075, 1076, 1077, 1078, 1093, 1094, 1095, 1096, 1108, 1109, 1110, 1105, 1106, 1107] (by decide +kernel) (by decide +kernel)) (goodIn_sub (fun _ h => List.mem_append_left _ (List.mem_append_left _ (List.mem_append_right _ h))) (by decide +kernel))) (goodIn_sub (fun _ h => List.mem_append_left _ (List.mem_append_right _ h)) (by decide +kernel))
set_option maxRecDepth 20000 in
theorem gL_law_L_visible : GoodIn wsL_law (va_wsS RL 178 yL_visible wsL_visible) := goodIn_app (goodIn_of _ (by decide +kernel)) ggL_law_L_visible
set_option maxRecDepth 20000 in
theorem ggL_law_X8_visible : GoodIn wsL_law wsX8_visible := goodIn_r _ [584, 183, 282, 283, 284, 5, 285, 77, 195, 196, 197, 244, 245, 246, 247, 240, 241, 242, 243, 585, 586, 587, 588, 418, 419, 420, 421, 422, 423, 424, 425, 286, 287, 288, 289, 290, 291, 292, 293, 215, 216, 217, 426, 427, 428, 429, 430, 431, 432, 433, 1079, 1080, 1081, 1082, 1083, 1084, 1085, 1086, 1087, 1088, 1089, 1090, 1091, 1092] (by decide +kernel) (by decide +kernel)
set_option maxRecDepth 20000 in
theorem gL_law_X8_visible : GoodIn wsL_law (wsV RL 180 RX8 yX8_visible wsX8_visible) := goodIn_app (goodIn_of _ (by decide +kernel)) ggL_law_X8_visible
set_option maxRecDepth 20000 in
theorem ggL_law_L_hidden : GoodIn wsL_law wsL_hidden := goodIn_ca (goodIn_r _ [591, 88, 592, 593, 594, 2, 595, 17, 344, 354, 29, 495, 496, 497, 498, 371, 372, 373, 171, 172, 374, 146, 147, 499, 500, 501, 28, 502, 503, 72, 71, 504, 393, 394, 36, 395, 118, 396, 397, 398, 399, 400, 401, 402, 403, 268, 269, 270, 271, 48, 404, 265, 266, 267, 405, 406, 407, 408, 505, 506, 507, 508, 509, 480, 481, 482, 123, 124, 121, 125, 119, 120, 122, 596, 577, 578, 579, 580, 538, 539, 540, 541, 534, 535, 536, 537, 530, 531, 532, 533, 1075, 1076, 1077, 1078, 1093, 1094, 1095, 1096, 1108, 1109, 1110, 1105, 1106, 1107] (by decide +kernel) (by decide +kernel)) (goodIn_sub (fun _ h => List.mem_append_left _ (List.mem_append_right _ h)) (by decide +kernel))
set_option maxRecDepth 20000 in
theorem gL_law_L_hidden : GoodIn wsL_law (va_wsS RL 181 yL_hidden wsL_hidden) := goodIn_app (goodIn_of _ (by decide +kernel)) ggL_law_L_hidden
set_option maxRecDepth 20000 in
theorem ggL_law_X8_hidden : GoodIn wsL_law wsX8_hidden := goodIn_r _ [600, 183, 77, 514, 80, 240, 241, 5, 242, 243, 195, 196, 197, 244, 245, 246, 247, 515, 516, 517, 518, 418, 419, 420, 421, 422, 423, 424, 425, 286, 287, 288, 289, 290, 291, 292, 293, 215, 216, 217, 426, 427, 428, 429, 430, 431, 432, 433, 1079, 1080, 1081, 1082, 1083, 1084, 1085, 1086, 1087, 1088, 1089, 1090, 1091, 1092] (by decide +kernel) (by decide +kernel)
set_option maxRecDepth 20000 in
theorem gL_law_X8_hidden : GoodIn wsL_law (wsV RL 183 RX8 yX8_hidden wsX8_hidden) := goodIn_app (goodIn_of _ (by decide +kernel)) ggL_law_X8_hidden
set_option maxRecDepth 20000 in
theorem ggL_law_L_extreme : GoodIn wsL_law wsL_extreme := goodIn_ca (goodIn_r _ [603, 88, 604, 605, 606, 2, 607, 29, 17, 344, 495, 496, 497, 498, 371, 372, 373, 171, 172, 374, 146, 147, 499, 500, 501, 28, 502, 503, 72, 71, 504, 393, 394, 36, 395, 118, 396, 397, 398, 399, 400, 401, 402, 403, 268, 269, 270, 271, 48, 404, 265, 266, 267, 405, 406, 407, 408, 505, 506, 507, 508, 509, 480, 481, 482, 123, 124, 121, 125, 119, 120, 122, 608, 609, 610, 611, 538, 539, 540, 541, 612, 534, 535, 536, 537, 530, 531, 532, 533, 561, 1075, 1076, 1077, 1078, 1093, 1094, 1095, 1096, 1105, 1106, 1107, 1108, 1109, 1110] (by decide +kernel) (by decide +kernel)) (goodIn_sub (fun _ h => List.mem_append_left _ (List.mem_append_right _ h)) (by decide +kernel))
set_option maxRecDepth 20000 in
theorem gL_law_L_extreme : GoodIn wsL_law (va_wsS RL 184 yL_extreme wsL_extreme) := goodIn_app (goodIn_of _ (by decide +kernel)) ggL_law_L_extreme
set_option maxRecDepth 20000 in
theorem ggL_law_X8_extreme : GoodIn wsL_law wsX8_extreme := goodIn_r _ [616, 183, 240, 241, 5, 242, 243, 195, 196, 197, 244, 245, 246, 247, 418, 419, 420, 421, 77, 422, 423, 424, 425, 286, 287, 288, 289, 290, 291, 292, 293, 215, 216, 217, 426, 427, 428, 429, 430, 431, 432, 433, 1079, 1080, 1081, 1082, 1083, 1084, 1085, 1086, 1087, 1088, 1089, 1090, 1091, 1092] (by decide +kernel) (by decide +kernel)
set_option maxRecDepth 20000 in
theorem gL_law_X8_extreme : GoodIn wsL_law (wsV RL 187 RX8 yX8_extreme wsX8_extreme) := goodIn_app (goodIn_of _ (by decide +kernel)) ggL_law_X8_extreme
set_option maxRecDepth 20000 in
theorem ggL_law_L_changes : GoodIn wsL_law wsL_changes := goodIn_ca (goodIn_r _ [619, 88, 620, 621, 622, 2, 623, 17, 344, 624, 625, 626, 371, 372, 373, 171, 172, 374, 146, 147, 627, 628, 629, 36, 630, 631, 632, 633, 634, 635, 393, 394, 395, 118, 396, 397, 398, 399, 400, 401, 402, 403, 268, 269, 270, 271, 48, 404, 265, 266, 267, 405, 406, 407, 408, 636, 637, 638, 639, 1075, 1076, 1077, 1078, 1093, 1094, 1095, 1096, 1108, 1109, 1110] (by decide +kernel) (by decide +kernel)) (goodIn_sub (fun _ h => List.mem_append_left _ (List.mem_append_right _ h)) (by decide +kernel))
set_option maxRecDepth 20000 in
theorem gL_law_L_changes : GoodIn wsL_law (va_wsS RL 188 yL_changes wsL_changes) := goodIn_app (goodIn_of _ (by decide +kernel)) ggL_law_L_changes
set_option maxRecDepth 20000 in
theorem ggL_law_X8_changes : GoodIn wsL_law wsX8_changes := goodIn_r _ [643, 183, 77, 644, 645, 5, 646, 198, 199, 200, 201, 195, 196, 197, 240, 241, 242, 243, 244, 245, 246, 247, 647, 648, 649, 650, 290, 291, 292, 293, 215, 216, 217, 651, 652, 653, 654, 655, 656, 657, 658, 418, 419, 420, 421, 422, 423, 424, 425, 286, 287, 288, 289, 426, 427, 428, 429, 430, 431, 432, 433, 1079, 1080, 1081, 1082, 1083, 1084, 1085, 1086, 1087, 1088, 1089, 1090, 1091, 1092] (by decide +kernel) (by decide +kernel)
set_option maxRecDepth 20000 in
theorem gL_law_X8_changes : GoodIn wsL_law (wsV RL 190 RX8 yX8_changes wsX8_changes) := goodIn_app (goodIn_of _ (by decide +kernel)) ggL_law_X8_changes
set_option maxRecDepth 20000 in
theorem ggL_law_L_nextChange : GoodIn wsL_law wsL_nextChange := goodIn_ca (goodIn_r _ [661, 88, 662, 663, 664, 2, 665, 17, 344, 389, 390, 391, 371, 372, 373, 171, 172, 374, 146, 147, 666, 632, 633, 36, 634, 635, 393, 394, 395, 118, 396, 397, 398, 399, 400, 401, 402, 403, 268, 269, 270, 271, 48, 404, 265, 266, 267, 405, 406, 407, 408, 636, 637, 638, 639, 1075, 1076, 1077, 1078, 1093, 1094, 1095, 1096, 1108, 1109, 1110] (by decide +kernel) (by decide +kernel)) (goodIn_sub (fun _ h => List.mem_append_left _ (List.mem_append_right _ h)) (by decide +kernel))
set_option maxRecDepth 20000 in
theorem gL_law_L_nextChange : GoodIn wsL_law (va_wsS RL 191 yL_nextChange wsL_nextChange) := goodIn_app (goodIn_of _ (by decide +kernel)) ggL_law_L_nextChange
set_option maxRecDepth 20000 in
theorem ggL_law_X8_nextChange : GoodIn wsL_law wsX8_nextChange := goodIn_r _ [670, 183, 77, 415, 416, 5, 417, 198, 199, 200, 201, 195, 196, 197, 240, 241, 242, 243, 244, 245, 246, 247, 647, 648, 649, 650, 290, 291, 292, 293, 215, 216, 217, 655, 656, 657, 658, 418, 419, 420, 421, 422, 423, 424, 425, 286, 287, 288, 289, 426, 427, 428, 429, 430, 431, 432, 433, 1079, 1080, 1081, 1082, 1083, 1084, 1085, 1086, 1087, 1088, 1089, 1090, 1091, 1092] (by decide +kernel) (by decide +kernel)
set_option maxRecDepth 20000 in
theorem gL_law_X8_nextChange : GoodIn wsL_law (wsV RL 193 RX8 yX8_nextChange wsX8_nextChange) := goodIn_app (goodIn_of _ (by decide +kernel)) ggL_law_X8_nextChange
set_option maxRecDepth 20000 in
theorem ggL_law_L_overTime : GoodIn wsL_law wsL_overTime := goodIn_ca (goodIn_r _ [673, 88, 674, 675, 676, 2, 677, 17, 344, 624, 625, 626, 371, 372, 373, 171, 172, 374, 146, 147, 678, 679, 680, 36, 681, 682, 635, 393, 394, 395, 118, 396, 397, 398, 399, 400, 401, 402, 403, 268, 269, 270, 271, 48, 404, 265, 266, 267, 405, 406, 407, 408, 636, 637, 638, 639, 1075, 1076, 1077, 1078, 1093, 1094, 1095, 1096, 1108, 1109, 1110] (by decide +kernel) (by decide +kernel)) (goodIn_sub (fun _ h => List.mem_append_left _ (List.mem_append_right _ h)) (by decide +kernel))
set_option maxRecDepth 20000 in
theorem gL_law_L_overTime : GoodIn wsL_law (va_wsS RL 194 yL_overTime wsL_overTime) := goodIn_app (goodIn_of _ (by decide +kernel)) ggL_law_L_overTime
set_option maxRecDepth 20000 in
theorem ggL_law_X8_overTime : GoodIn wsL_law wsX8_overTime := goodIn_r _ [686, 183, 77, 414, 644, 645, 5, 646, 198, 199, 200, 201, 195, 196, 197, 240, 241, 242, 243, 244, 245, 246, 247, 647, 648, 649, 650, 290, 291, 292, 293, 215, 216, 217, 418, 419, 420, 421, 422, 423, 424, 425, 286, 287, 288, 289, 426, 427, 428, 429, 430, 431, 432, 433, 1079, 1080, 1081, 1082, 1083, 1084, 1085, 1086, 1087, 1088, 1089, 1090, 1091, 1092] (by decide +kernel) (by decide +kernel)
set_option maxRecDepth 20000 in
theorem gL_law_X8_overTime : GoodIn wsL_law (wsV RL 197 RX8 yX8_overTime wsX8_overTime) := goodIn_app (goodIn_of _ (by decide +kernel)) ggL_law_X8_overTime
set_option maxRecDepth 20000 in
theorem ggL_law_L_leads : GoodIn wsL_law wsL_leads := goodIn_ca (goodIn_ca (goodIn_r _ [689, 251, 88, 690, 691, 692, 2, 693, 17, 344, 366, 367, 368, 369, 169, 170, 370, 261, 262, 36, 263, 118, 371, 372, 373, 171, 172, 374, 146, 147, 694, 695, 696, 697, 119, 120, 121, 122, 268, 269, 270, 271, 48, 636, 637, 638, 639, 400, 401, 402, 403, 635, 393, 394, 395, 396, 397, 398, 399, 404, 265, 266, 267, 405, 406, 407, 408, 1075, 1076, 1077, 1078, 1093, 1094, 1095, 1096, 1108, 1109, 1110] (by decide +kernel) (by decide +kernel)) (goodIn_sub (fun _ h => List.mem_append_left _ (List.mem_append_left _ (List.mem_append_right _ h))) (by decide +kernel))) (goodIn_sub (fun _ h => List.mem_append_left _ (List.mem_append_right _ h)) (by decide +kernel))
set_option maxRecDepth 20000 in
theorem gL_law_L_leads : GoodIn wsL_law (va_wsS RL 198 yL_leads wsL_leads) := goodIn_app (goodIn_of _ (by decide +kernel)) ggL_law_L_leads
set_option maxRecDepth 20000 in
theorem ggL_law_X8_leads : GoodIn wsL_law wsX8_leads := goodIn_r _ [701, 183, 282, 283, 284, 5, 285, 77, 195, 196, 197, 244, 245, 246, 247, 198, 199, 200, 201, 290, 291, 292, 293, 215, 216, 217, 702, 703, 704, 705, 647, 648, 649, 650, 418, 419, 420, 421, 422, 423, 424, 425, 286, 287, 288, 289, 426, 427, 428, 429, 430, 431, 432, 433, 1079, 1080, 1081, 1082, 1083, 1084, 1085, 1086, 1087, 1088, 1089, 1090, 1091, 1092] (by decide +kernel) (by decide +kernel)
set_option maxRecDepth 20000 in
theorem gL_law_X8_leads : GoodIn wsL_law (wsV RL 200 RX8 yX8_leads wsX8_leads) := goodIn_app (goodIn_of _ (by decide +kernel)) ggL_law_X8_leads
set_option maxRecDepth 20000 in
theorem ggL_law_L_intervals : GoodIn wsL_law wsL_intervals := goodIn_ca (goodIn_r _ [708, 251, 709, 710, 711, 2, 712, 17, 344, 366, 367, 368, 369, 169, 170, 370, 261, 262, 36, 263, 118, 375, 269, 270, 271, 48, 713, 714, 715, 716, 717, 718, 719, 1075, 1076, 1077, 1078, 1093, 1094, 1095, 1096, 1108, 1109, 1110] (by decide +kernel) (by decide +kernel)) (goodIn_sub (fun _ h => List.mem_append_left _ (List.mem_append_left _ (List.mem_append_right _ h))) (by decide +kernel))
set_option maxRecDepth 20000 in
theorem gL_law_L_intervals : GoodIn wsL_law (va_wsS RL 201 yL_intervals wsL_intervals) := goodIn_app (goodIn_of _ (by decide +kernel)) ggL_law_L_intervals
set_option maxRecDepth 20000 in
theorem ggL_law_X8_intervals : GoodIn wsL_law wsX8_intervals := goodIn_r _ [723, 183, 282, 283, 284, 5, 285, 77, 195, 196, 197, 724, 725, 726, 727, 290, 291, 292, 293, 215, 216, 217, 728, 729, 730, 244, 245, 246, 247, 1079, 1080, 1081, 1082, 1083, 1084, 1085, 1086, 1087, 1088, 1089, 1090, 1091, 1092] (by decide +kernel) (by decide +kernel)
set_option maxRecDepth 20000 in
theorem gL_law_X8_intervals : GoodIn wsL_law (wsV RL 203 RX8 yX8_intervals wsX8_intervals) := goodIn_app (goodIn_of _ (by decide +kernel)) ggL_law_X8_intervals
set_option maxRecDepth 20000 in
theorem ggL_law_L_interval : GoodIn wsL_law wsL_interval := goodIn_ca (goodIn_r _ [733, 251, 734, 735, 736, 2, 737, 169, 170, 17, 344, 366, 367, 368, 369, 370, 261, 262, 36, 263, 118, 375, 269, 270, 271, 48, 738, 739, 715, 740, 717, 718, 719, 741, 1075, 1076, 1077, 1078, 1093, 1094, 1095, 1096, 1108, 1109, 1110] (by decide +kernel) (by decide +kernel)) (goodIn_sub (fun _ h => List.mem_append_left _ (List.mem_append_left _ (List.mem_append_right _ h))) (by decide +kernel))
set_option maxRecDepth 20000 in
theorem gL_law_L_interval : GoodIn wsL_law (va_wsS RL 204 yL_interval wsL_interval) := goodIn_app (goodIn_of _ (by decide +kernel)) ggL_law_L_interval
set_option maxRecDepth 20000 in
theorem ggL_law_X8_interval : GoodIn wsL_law wsX8_interval := goodIn_r _ [745, 183, 282, 283, 284, 5, 285, 77, 195, 196, 197, 724, 725, 726, 727, 290, 291, 292, 293, 215, 216, 217, 728, 729, 730, 244, 245, 246, 247, 1079, 1080, 1081, 1082, 1083, 1084, 1085, 1086, 1087, 1088, 1089, 1090, 1091, 1092] (by decide +kernel) (by decide +kernel)
set_option maxRecDepth 20000 in
theorem gL_law_X8_interval : GoodIn wsL_law (wsV RL 207 RX8 yX8_interval wsX8_interval) := goodIn_app (goodIn_of _ (by decide +kernel)) ggL_law_X8_interval
set_option maxRecDepth 20000 in
theorem ggL_law_L_holders : GoodIn wsL_law wsL_holders := goodIn_ca (goodIn_r _ [748, 88, 749, 750, 751, 2, 752, 171, 172, 17, 344, 354, 753, 754, 715, 755, 146, 147, 375, 269, 270, 36, 271, 48, 756, 757, 758, 1075, 1076, 1077, 1078, 1093, 1094, 1095, 1096, 1108, 1109, 1110] (by decide +kernel) (by decide +kernel)) (goodIn_sub (fun _ h => List.mem_append_left _ (List.mem_append_right _ h)) (by decide +kernel))
set_option maxRecDepth 20000 in
theorem gL_law_L_holders : GoodIn wsL_law (va_wsS RL 208 yL_holders wsL_holders) := goodIn_app (goodIn_of _ (by decide +kernel)) ggL_law_L_holders
set_option maxRecDepth 20000 in
theorem ggL_law_X8_holders : GoodIn wsL_law wsX8_holders := goodIn_r _ [762, 183, 243, 77, 195, 196, 5, 197, 244, 245, 246, 247, 763, 764, 765, 766, 290, 291, 292, 293, 215, 216, 217, 728, 729, 730, 1079, 1080, 1081, 1082, 1083, 1084, 1085, 1086, 1087, 1088, 1089, 1090, 1091, 1092] (by decide +kernel) (by decide +kernel)
set_option maxRecDepth 20000 in
theorem gL_law_X8_holders : GoodIn wsL_law (wsV RL 210 RX8 yX8_holders wsX8_holders) := goodIn_app (goodIn_of _ (by decide +kernel)) ggL_law_X8_holders
set_option maxRecDepth 20000 in
theorem ggL_law_L_collect : GoodIn wsL_law wsL_collect := goodIn_ca (goodIn_ca (goodIn_ca (goodIn_r _ [769, 88, 89, 770, 771, 772, 2, 773, 21, 17, 94, 95, 96, 20, 97, 98, 99, 100, 101, 59, 102, 103, 104, 105, 106, 107, 108, 109, 110, 16, 111, 37, 41, 112, 42, 113, 114, 115, 36, 116, 117, 118, 119, 120, 121, 122, 123, 124, 125, 48, 126, 127, 128, 129, 130, 131, 132, 40, 133, 134, 135, 136, 53, 137, 774, 775, 776, 777, 146, 147, 778, 779, 780, 781, 782, 783, 784, 785, 786, 787, 788, 789, 165, 166, 167, 168, 169, 170, 171, 172, 173, 174, 175, 176, 177, 178, 1075, 1076, 1077, 1078, 1097, 1098, 1099, 1093, 1094, 1095, 1096, 1108, 1109, 1110, 1111, 1112] (by decide +kernel) (by decide +kernel)) (goodIn_sub (fun _ h => List.mem_append_left _ (List.mem_append_left _ (List.mem_append_right _ h))) (by decide +kernel))) (goodIn_sub (fun _ h => List.mem_append_left _ (List.mem_append_right _ h)) (by decide +kernel))) (goodIn_sub (fun _ h => List.mem_append_right _ h) (by decide +kernel))
set_option maxRecDepth 20000 in
theorem gL_law_L_collect : GoodIn wsL_law (va_wsS RL 211 yL_collect wsL_collect) := goodIn_app (goodIn_of _ (by decide +kernel)) ggL_law_L_collect
set_option maxRecDepth 20000 in
theorem ggL_law_X8_collect : GoodIn wsL_law wsX8_collect := goodIn_r _ [793, 183, 794, 795, 796, 5, 797, 77, 415, 416, 417, 198, 199, 200, 201, 195, 196, 197, 240, 241, 242, 243, 206, 207, 208, 209, 210, 78, 798, 799, 800, 801, 802, 803, 804, 1079, 1080, 1081, 1082, 1083, 1084, 1085, 1086, 1087, 1088, 1089, 1090, 1091, 1092] (by decide +kernel) (by decide +kernel)
set_option maxRecDepth 20000 in
theorem gL_law_X8_collect : GoodIn wsL_law (wsV RL 213 RX8 yX8_collect wsX8_collect) := goodIn_app (goodIn_of _ (by decide +kernel)) ggL_law_X8_collect
set_option maxRecDepth 20000 in
theorem ggL_law_X7_solve : GoodIn wsL_law wsX7_solve := goodIn_ca (goodIn_ca (goodIn_ca (goodIn_r _ [808, 21, 17, 809, 344, 94, 95, 96, 20, 97, 98, 99, 100, 101, 59, 102, 103, 104, 105, 106, 107, 108, 109, 110, 16, 111, 37, 41, 112, 42, 113, 114, 115, 36, 116, 117, 118, 119, 120, 121, 122, 123, 124, 125, 48, 126, 127, 128, 129, 130, 131, 132, 40, 133, 134, 135, 136, 53, 137, 810, 811, 812, 813, 814, 815, 816, 817, 818, 819, 393, 394, 395, 396, 397, 398, 399, 400, 401, 402, 403, 268, 269, 270, 271, 404, 265, 266, 267, 405, 406, 407, 408, 786, 787, 788, 789, 820, 821, 465, 466, 467, 165, 166, 167, 2, 168, 169, 170, 171, 172, 173, 174, 175, 176, 177, 178, 1075, 1076, 1077, 1078, 1093, 1094, 1095, 1096, 1097, 1098, 1099, 1108, 1109, 1110, 1111, 1112] (by decide +kernel) (by decide +kernel)) (goodIn_sub (fun _ h => List.mem_append_left _ (List.mem_append_left _ (List.mem_append_right _ h))) (by decide +kernel))) (goodIn_sub (fun _ h => List.mem_append_left _ (List.mem_append_right _ h)) (by decide +kernel))) (goodIn_sub (fun _ h => List.mem_append_right _ h) (by decide +kernel))
set_option maxRecDepth 20000 in
theorem gL_law_X7_solve : GoodIn wsL_law (wsV RL 214 RX7 yX7_solve wsX7_solve) := goodIn_app (goodIn_of _ (by decide +kernel)) ggL_law_X7_solve
set_option maxRecDepth 20000 in
theorem ggL_law_X8_solve : GoodIn wsL_law wsX8_solve := goodIn_r _ [825, 183, 206, 207, 208, 5, 209, 210, 78, 77, 826, 827, 828, 829, 802, 803, 804, 418, 419, 420, 421, 422, 423, 424, 425, 286, 287, 288, 289, 290, 291, 292, 293, 215, 216, 217, 195, 196, 197, 426, 427, 428, 429, 430, 431, 432, 433, 1079, 1080, 1081, 1082, 1083, 1084, 1085, 1086, 1087, 1088, 1089, 1090, 1091, 1092] (by decide +kernel) (by decide +kernel)
set_option maxRecDepth 20000 in
theorem gL_law_X8_solve : GoodIn wsL_law (wsV RL 217 RX8 yX8_solve wsX8_solve) := goodIn_app (goodIn_of _ (by decide +kernel)) ggL_law_X8_solve
set_option maxRecDepth 20000 in
theorem ggL_law_L_answer : GoodIn wsL_law wsL_answer := goodIn_ca (goodIn_ca (goodIn_ca (goodIn_r _ [832, 251, 88, 89, 833, 834, 835, 2, 836, 169, 170, 173, 174, 17, 809, 837, 371, 372, 373, 171, 172, 374, 146, 147, 838, 839, 840, 40, 841, 815, 816, 817, 818, 53, 842, 843, 844, 845, 814, 1075, 1076, 1077, 1078, 1093, 1094, 1095, 1096, 1111, 1112] (by decide +kernel) (by decide +kernel)) (goodIn_sub (fun _ h => List.mem_append_left _ (List.mem_append_left _ (List.mem_append_right _ h))) (by decide +kernel))) (goodIn_sub (fun _ h => List.mem_append_right _ h) (by decide +kernel))) (goodIn_sub (fun _ h => List.mem_append_left _ (List.mem_append_right _ h)) (by decide +kernel))
set_option maxRecDepth 20000 in
theorem gL_law_L_answer : GoodIn wsL_law (va_wsS RL 218 yL_answer wsL_answer) := goodIn_app (goodIn_of _ (by decide +kernel)) ggL_law_L_answer
set_option maxRecDepth 20000 in
theorem ggL_law_X8_answer : GoodIn wsL_law wsX8_answer := goodIn_r _ [849, 183, 77, 546, 195, 196, 5, 197, 244, 245, 246, 247, 802, 803, 804, 850, 851, 852, 853, 414, 1079, 1080, 1081, 1082, 1083, 1084, 1085, 1086, 1087, 1088, 1089, 1090, 1091, 1092] (by decide +kernel) (by decide +kernel)
set_option maxRecDepth 20000 in
theorem gL_law_X8_answer : GoodIn wsL_law (wsV RL 220 RX8 yX8_answer wsX8_answer) := goodIn_app (goodIn_of _ (by decide +kernel)) ggL_law_X8_answer
set_option maxRecDepth 20000 in
theorem ggL_law_X7_forget : GoodIn wsL_law wsX7_forget := goodIn_ca (goodIn_ca (goodIn_ca (goodIn_r _ [857, 21, 17, 809, 94, 95, 96, 20, 97, 98, 99, 100, 101, 59, 102, 103, 104, 105, 106, 107, 108, 109, 110, 16, 111, 37, 41, 112, 42, 113, 114, 115, 36, 116, 117, 118, 119, 120, 121, 122, 123, 124, 125, 48, 126, 127, 128, 129, 130, 131, 132, 40, 133, 134, 135, 136, 53, 137, 858, 859, 860, 861, 165, 166, 167, 2, 168, 169, 170, 171, 172, 173, 174, 175, 176, 177, 178, 1075, 1076, 1077, 1078, 1093, 1094, 1095, 1096, 1097, 1098, 1099, 1108, 1109, 1110, 1111, 1112] (by decide +kernel) (by decide +kernel)) (goodIn_sub (fun _ h => List.mem_append_left _ (List.mem_append_left _ (List.mem_append_right _ h))) (by decide +kernel))) (goodIn_sub (fun _ h => List.mem_append_left _ (List.mem_append_right _ h)) (by decide +kernel))) (goodIn_sub (fun _ h => List.mem_append_right _ h) (by decide +kernel))
set_option maxRecDepth 20000 in
theorem gL_law_X7_forget : GoodIn wsL_law (wsV RL 221 RX7 yX7_forget wsX7_forget) := goodIn_app (goodIn_of _ (by decide +kernel)) ggL_law_X7_forget
set_option maxRecDepth 20000 in
theorem ggL_law_X8_forget : GoodIn wsL_law wsX8_forget := goodIn_r _ [865, 183, 77, 206, 207, 208, 5, 209, 210, 78, 1079, 1080, 1081, 1082, 1083, 1084, 1085, 1086, 1087, 1088, 1089, 1090, 1091, 1092] (by decide +kernel) (by decide +kernel)
set_option maxRecDepth 20000 in
theorem gL_law_X8_forget : GoodIn wsL_law (wsV RL 224 RX8 yX8_forget wsX8_forget) := goodIn_app (goodIn_of _ (by decide +kernel)) ggL_law_X8_forget
set_option maxRecDepth 20000 in
theorem ggL_law_L_mark : GoodIn wsL_law wsL_mark := goodIn_ca (goodIn_ca (goodIn_ca (goodIn_r _ [868, 89, 869, 870, 871, 2, 872, 21, 17, 94, 95, 96, 20, 97, 98, 99, 100, 101, 59, 102, 103, 104, 105, 106, 107, 108, 109, 110, 16, 111, 37, 41, 112, 42, 113, 114, 115, 36, 116, 117, 118, 119, 120, 121, 122, 123, 124, 125, 48, 126, 127, 128, 129, 130, 131, 132, 40, 133, 134, 135, 136, 53, 137, 873, 874, 875, 876, 165, 166, 167, 168, 169, 170, 171, 172, 173, 174, 175, 176, 177, 178, 1075, 1076, 1077, 1078, 1097, 1098, 1099, 1093, 1094, 1095, 1096, 1108, 1109, 1110, 1111, 1112] (by decide +kernel) (by decide +kernel)) (goodIn_sub (fun _ h => List.mem_append_left _ (List.mem_append_left _ (List.mem_append_right _ h))) (by decide +kernel))) (goodIn_sub (fun _ h => List.mem_append_left _ (List.mem_append_right _ h)) (by decide +kernel))) (goodIn_sub (fun _ h => List.mem_append_right _ h) (by decide +kernel))
set_option maxRecDepth 20000 in
theorem gL_law_L_mark : GoodIn wsL_law (va_wsS RL 225 yL_mark wsL_mark) := goodIn_app (goodIn_of _ (by decide +kernel)) ggL_law_L_mark
set_option maxRecDepth 20000 in
theorem ggL_law_X8_mark : GoodIn wsL_law wsX8_mark := goodIn_r _ [880, 183, 77, 244, 245, 246, 5, 247, 206, 207, 208, 209, 210, 78, 1079, 1080, 1081, 1082, 1083, 1084, 1085, 1086, 1087, 1088, 1089, 1090, 1091, 1092] (by decide +kernel) (by decide +kernel)
set_option maxRecDepth 20000 in
theorem gL_law_X8_mark : GoodIn wsL_law (wsV RL 228 RX8 yX8_mark wsX8_mark) := goodIn_app (goodIn_of _ (by decide +kernel)) ggL_law_X8_mark
