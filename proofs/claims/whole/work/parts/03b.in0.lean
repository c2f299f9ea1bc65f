theorem zz_mem_r {big : List Cond} (ws : List Cond) (ps : List Nat) (hp : ws = ps.filterMap (fun i => big[i]?)) : ∀ w ∈ ws, w ∈ big := by
  intro w hw
  rw [hp] at hw
  obtain ⟨i, -, hi⟩ := List.mem_filterMap.mp hw
  exact List.mem_of_getElem? hi
set_option maxRecDepth 20000 in
theorem wsL_law0_r1_in : ∀ w ∈ wsL_law0_r1, w ∈ lw_tbl := zz_mem_r _ [75, 76, 58, 921, 922, 65, 1330, 1329, 77, 78, 79, 80, 81, 82, 83, 84, 59, 201, 140, 141, 62, 202, 160, 161] (by decide +kernel)
set_option maxRecDepth 20000 in
theorem wsL_law0_r2_in : ∀ w ∈ wsL_law0_r2, w ∈ lw_tbl := zz_mem_r _ [63, 203, 184, 185, 64, 204, 85, 86, 87, 88, 89, 90, 60, 124, 109, 110, 61, 126, 130, 91, 92, 93, 94, 108] (by decide +kernel)
set_option maxRecDepth 20000 in
theorem wsL_law0_r3_in : ∀ w ∈ wsL_law0_r3, w ∈ lw_tbl := zz_mem_r _ [100, 111, 112, 113, 114, 117, 142, 143, 144, 145, 146, 152, 148, 162, 163, 164, 165, 171, 172, 186, 187, 188, 189, 192] (by decide +kernel)
set_option maxRecDepth 20000 in
theorem wsL_law0_r4_in : ∀ w ∈ wsL_law0_r4, w ∈ lw_tbl := zz_mem_r _ [193, 923, 924, 925, 926, 927, 928, 930, 934, 937, 938, 939, 600, 601, 57, 602, 603, 604, 605, 606, 607, 608, 226, 227] (by decide +kernel)
set_option maxRecDepth 20000 in
theorem wsL_law0_r5_in : ∀ w ∈ wsL_law0_r5, w ∈ lw_tbl := zz_mem_r _ [228, 229, 230, 232, 0, 233, 151, 149, 234, 235, 66, 236, 237, 238, 239, 240, 128, 241, 242, 243, 244, 95, 98, 245] (by decide +kernel)
set_option maxRecDepth 20000 in
theorem wsL_law0_r6_in : ∀ w ∈ wsL_law0_r6, w ∈ lw_tbl := zz_mem_r _ [246, 66, 247, 248, 249, 250, 251, 253, 252, 67, 254, 255, 256, 257, 115, 258, 259, 260, 471, 472, 473, 474, 96, 475] (by decide +kernel)
set_option maxRecDepth 20000 in
theorem wsL_law0_r7_in : ∀ w ∈ wsL_law0_r7, w ∈ lw_tbl := zz_mem_r _ [476, 477, 459, 460, 479, 480, 481, 482, 483, 484, 485, 486, 487, 488, 489, 490, 491, 492, 493, 494, 495, 303, 305, 3] (by decide +kernel)
set_option maxRecDepth 20000 in
theorem wsL_law0_r8_in : ∀ w ∈ wsL_law0_r8, w ∈ lw_tbl := zz_mem_r _ [306, 307, 71, 375, 72, 391, 73, 407, 408, 409, 410, 974, 975, 976, 977, 932, 978, 980, 16, 981, 982, 983, 984, 985] (by decide +kernel)
set_option maxRecDepth 20000 in
theorem wsL_law0_r9_in : ∀ w ∈ wsL_law0_r9, w ∈ lw_tbl := zz_mem_r _ [986, 990, 991, 987, 988, 989, 992, 993, 994, 995, 996, 998, 17, 999, 1000, 1002, 18, 1003, 929, 1004, 1006, 19, 1007, 1008] (by decide +kernel)
set_option maxRecDepth 20000 in
theorem wsL_law0_r10_in : ∀ w ∈ wsL_law0_r10, w ∈ lw_tbl := zz_mem_r _ [1009, 1010, 970, 971, 972, 973, 609, 610, 611, 612, 613, 614, 615, 616, 617, 618, 619, 1011, 1012, 1013, 1014, 1015, 1016, 1017] (by decide +kernel)
set_option maxRecDepth 20000 in
theorem wsL_law0_r11_in : ∀ w ∈ wsL_law0_r11, w ∈ lw_tbl := zz_mem_r _ [1018, 1019, 1020, 1021, 1022, 1024, 20, 1025, 620, 621, 622, 623, 624, 625, 626, 627, 496, 497, 498, 499, 500, 501, 502, 503] (by decide +kernel)
set_option maxRecDepth 20000 in
theorem wsL_law0_r12_in : ∀ w ∈ wsL_law0_r12, w ∈ lw_tbl := zz_mem_r _ [504, 286, 287, 288, 281, 282, 283, 284, 505, 506, 1026, 1027, 1028, 1029, 1030, 1032, 21, 1033, 1034, 1036, 22, 1037, 1038, 1040] (by decide +kernel)
set_option maxRecDepth 20000 in
theorem wsL_law0_r13_in : ∀ w ∈ wsL_law0_r13, w ∈ lw_tbl := zz_mem_r _ [23, 1041, 1042, 1044, 24, 1045, 1046, 1048, 25, 1049, 628, 629, 630, 631, 632, 633, 634, 511, 512, 513, 514, 1050, 1051, 1052] (by decide +kernel)
set_option maxRecDepth 20000 in
theorem wsL_law0_r14_in : ∀ w ∈ wsL_law0_r14, w ∈ lw_tbl := zz_mem_r _ [1053, 1054, 1056, 26, 1057, 1058, 1060, 27, 1061, 635, 636, 637, 638, 639, 640, 641, 507, 508, 509, 510, 1062, 1063, 1064, 1065] (by decide +kernel)
set_option maxRecDepth 20000 in
theorem wsL_law0_r15_in : ∀ w ∈ wsL_law0_r15, w ∈ lw_tbl := zz_mem_r _ [1066, 1068, 28, 1069, 214, 215, 216, 217, 125, 97, 1070, 1071, 1072, 1073, 218, 219, 220, 221, 99, 1074, 1075, 1076, 1077, 642] (by decide +kernel)
set_option maxRecDepth 20000 in
theorem wsL_law0_r16_in : ∀ w ∈ wsL_law0_r16, w ∈ lw_tbl := zz_mem_r _ [643, 644, 645, 646, 647, 648, 649, 651, 12, 652, 653, 654, 655, 656, 657, 658, 1078, 1079, 1080, 1081, 1082, 659, 660, 661] (by decide +kernel)
set_option maxRecDepth 20000 in
theorem wsL_law0_r17_in : ∀ w ∈ wsL_law0_r17, w ∈ lw_tbl := zz_mem_r _ [662, 663, 664, 665, 670, 666, 667, 668, 669, 270, 271, 272, 273, 274, 275, 276, 277, 278, 279, 280, 285, 289, 290, 291] (by decide +kernel)
set_option maxRecDepth 20000 in
theorem wsL_law0_r18_in : ∀ w ∈ wsL_law0_r18, w ∈ lw_tbl := zz_mem_r _ [292, 671, 1083, 1084, 1085, 1086, 1106, 1087, 1088, 1089, 1090, 1092, 29, 1093, 1094, 1096, 30, 1097, 1098, 1100, 31, 1101, 1102, 1104] (by decide +kernel)
set_option maxRecDepth 20000 in
theorem wsL_law0_r19_in : ∀ w ∈ wsL_law0_r19, w ∈ lw_tbl := zz_mem_r _ [32, 1105, 672, 673, 674, 675, 676, 677, 678, 680, 681, 682, 683, 684, 686, 13, 687, 1107, 1108, 1109, 1110, 1111, 1113, 33] (by decide +kernel)
set_option maxRecDepth 20000 in
theorem wsL_law0_r20_in : ∀ w ∈ wsL_law0_r20, w ∈ lw_tbl := zz_mem_r _ [1114, 688, 689, 690, 691, 692, 693, 694, 695, 300, 301, 302, 1115, 1116, 1117, 1118, 696, 697, 698, 699, 700, 701, 702, 703] (by decide +kernel)
set_option maxRecDepth 20000 in
theorem wsL_law0_r21_in : ∀ w ∈ wsL_law0_r21, w ∈ lw_tbl := zz_mem_r _ [568, 569, 570, 1119, 1120, 1121, 1122, 704, 705, 706, 707, 708, 709, 710, 191, 711, 713, 14, 714, 558, 559, 560, 561, 190] (by decide +kernel)
set_option maxRecDepth 20000 in
theorem wsL_law0_r22_in : ∀ w ∈ wsL_law0_r22, w ∈ lw_tbl := zz_mem_r _ [562, 563, 564, 565, 566, 567, 1123, 1124, 1125, 1126, 933, 1127, 1129, 34, 1130, 715, 716, 717, 718, 719, 720, 721, 723, 577] (by decide +kernel)
set_option maxRecDepth 20000 in
theorem wsL_law0_r23_in : ∀ w ∈ wsL_law0_r23, w ∈ lw_tbl := zz_mem_r _ [578, 579, 580, 582, 9, 583, 584, 586, 10, 587, 588, 590, 11, 591, 1131, 1132, 1133, 1134, 1135, 724, 725, 726, 727, 728] (by decide +kernel)
set_option maxRecDepth 20000 in
theorem wsL_law0_r24_in : ∀ w ∈ wsL_law0_r24, w ∈ lw_tbl := zz_mem_r _ [729, 730, 592, 593, 594, 595, 596, 597, 599, 598, 1136, 1137, 1138, 1139, 1140, 1142, 35, 1143, 731, 732, 733, 734, 735, 736] (by decide +kernel)
set_option maxRecDepth 20000 in
theorem wsL_law0_r25_in : ∀ w ∈ wsL_law0_r25, w ∈ lw_tbl := zz_mem_r _ [737, 738, 739, 740, 741, 1144, 1145, 1146, 1147, 1148, 1150, 36, 1151, 742, 743, 744, 745, 746, 747, 748, 749, 1152, 1153, 1154] (by decide +kernel)
set_option maxRecDepth 20000 in
theorem wsL_law0_r26_in : ∀ w ∈ wsL_law0_r26, w ∈ lw_tbl := zz_mem_r _ [1155, 750, 751, 752, 753, 754, 755, 756, 757, 758, 759, 760, 761, 1156, 1157, 1158, 1159, 762, 763, 764, 765, 766, 767, 768] (by decide +kernel)
set_option maxRecDepth 20000 in
theorem wsL_law0_r27_in : ∀ w ∈ wsL_law0_r27, w ∈ lw_tbl := zz_mem_r _ [769, 770, 771, 772, 773, 774, 775, 776, 777, 778, 779, 780, 781, 783, 15, 784, 1160, 1161, 1162, 1163, 1164, 1165, 1166, 1167] (by decide +kernel)
set_option maxRecDepth 20000 in
theorem wsL_law0_r28_in : ∀ w ∈ wsL_law0_r28, w ∈ lw_tbl := zz_mem_r _ [1169, 37, 1170, 1171, 1173, 38, 1174, 1175, 1177, 39, 1178, 785, 786, 787, 788, 789, 790, 791, 792, 1179, 1180, 1181, 1182, 793] (by decide +kernel)
set_option maxRecDepth 20000 in
theorem wsL_law0_r29_in : ∀ w ∈ wsL_law0_r29, w ∈ lw_tbl := zz_mem_r _ [794, 795, 796, 797, 798, 799, 800, 801, 802, 803, 804, 1183, 1184, 1185, 1186, 805, 806, 807, 808, 809, 810, 811, 812, 813] (by decide +kernel)
set_option maxRecDepth 20000 in
theorem wsL_law0_r30_in : ∀ w ∈ wsL_law0_r30, w ∈ lw_tbl := zz_mem_r _ [814, 815, 1187, 1188, 1189, 1190, 1191, 1193, 40, 1194, 816, 817, 818, 819, 820, 821, 822, 823, 824, 74, 825, 826, 827, 828] (by decide +kernel)
set_option maxRecDepth 20000 in
theorem wsL_law0_r31_in : ∀ w ∈ wsL_law0_r31, w ∈ lw_tbl := zz_mem_r _ [1195, 1196, 1197, 1198, 1199, 1201, 41, 1202, 1203, 1204, 1205, 829, 830, 831, 832, 833, 834, 835, 836, 837, 838, 840, 1206, 1207] (by decide +kernel)
set_option maxRecDepth 20000 in
theorem wsL_law0_r32_in : ∀ w ∈ wsL_law0_r32, w ∈ lw_tbl := zz_mem_r _ [1208, 1209, 841, 842, 843, 844, 845, 846, 847, 848, 849, 850, 853, 854, 855, 1210, 1211, 1212, 1213, 1214, 1216, 42, 1217, 856] (by decide +kernel)
set_option maxRecDepth 20000 in
theorem wsL_law0_r33_in : ∀ w ∈ wsL_law0_r33, w ∈ lw_tbl := zz_mem_r _ [857, 858, 859, 860, 861, 862, 515, 516, 517, 518, 519, 520, 521, 522, 523, 524, 525, 526, 293, 295, 2, 296, 1218, 1219] (by decide +kernel)
set_option maxRecDepth 20000 in
theorem wsL_law0_r34_in : ∀ w ∈ wsL_law0_r34, w ∈ lw_tbl := zz_mem_r _ [1220, 1221, 1222, 1224, 43, 1225, 1226, 1228, 44, 1229, 1230, 1231, 1232, 222, 223, 224, 225, 127, 261, 262, 263, 264, 298, 265] (by decide +kernel)
set_option maxRecDepth 20000 in
theorem wsL_law0_r35_in : ∀ w ∈ wsL_law0_r35, w ∈ lw_tbl := zz_mem_r _ [267, 1, 268, 269, 297, 299, 1233, 1234, 1235, 1236, 1237, 1239, 45, 1240, 863, 864, 865, 866, 867, 868, 869, 116, 871, 551] (by decide +kernel)
set_option maxRecDepth 20000 in
theorem wsL_law0_r36_in : ∀ w ∈ wsL_law0_r36, w ∈ lw_tbl := zz_mem_r _ [552, 553, 873, 555, 556, 557, 1241, 1242, 1243, 1244, 1245, 1247, 46, 1248, 411, 412, 413, 414, 415, 416, 417, 418, 1249, 1250] (by decide +kernel)
set_option maxRecDepth 20000 in
theorem wsL_law0_r37_in : ∀ w ∈ wsL_law0_r37, w ∈ lw_tbl := zz_mem_r _ [1251, 1252, 874, 875, 876, 877, 878, 879, 880, 881, 882, 883, 884, 1253, 1254, 1255, 1256, 885, 886, 887, 888, 889, 890, 891] (by decide +kernel)
set_option maxRecDepth 20000 in
theorem wsL_law0_r38_in : ∀ w ∈ wsL_law0_r38, w ∈ lw_tbl := zz_mem_r _ [892, 893, 894, 895, 1257, 1258, 1259, 1260, 896, 897, 898, 899, 900, 901, 902, 167, 904, 905, 906, 907, 166, 1261, 1262, 1263] (by decide +kernel)
set_option maxRecDepth 20000 in
theorem wsL_law0_r39_in : ∀ w ∈ wsL_law0_r39, w ∈ lw_tbl := zz_mem_r _ [1264, 1265, 931, 419, 420, 421, 422, 423, 424, 425, 426, 1266, 1267, 1268, 1269, 427, 428, 429, 430, 431, 432, 433, 434, 170] (by decide +kernel)
set_option maxRecDepth 20000 in
theorem wsL_law0_r40_in : ∀ w ∈ wsL_law0_r40, w ∈ lw_tbl := zz_mem_r _ [435, 436, 437, 438, 439, 440, 441, 442, 168, 443, 445, 5, 446, 447, 448, 449, 450, 452, 6, 453, 454, 456, 7, 457] (by decide +kernel)
set_option maxRecDepth 20000 in
theorem wsL_law0_r41_in : ∀ w ∈ wsL_law0_r41, w ∈ lw_tbl := zz_mem_r _ [461, 462, 463, 465, 8, 466, 169, 467, 468, 469, 470, 527, 528, 529, 530, 1270, 1271, 1272, 1273, 935, 936, 1274, 1276, 47] (by decide +kernel)
set_option maxRecDepth 20000 in
theorem wsL_law0_r42_in : ∀ w ∈ wsL_law0_r42, w ∈ lw_tbl := zz_mem_r _ [1277, 1278, 1280, 48, 1281, 1282, 1284, 49, 1285, 1286, 1287, 1288, 1289, 1291, 50, 1292, 1297, 1298, 1293, 1295, 51, 1296, 1299, 1301] (by decide +kernel)
set_option maxRecDepth 20000 in
theorem wsL_law0_r43_in : ∀ w ∈ wsL_law0_r43, w ∈ lw_tbl := zz_mem_r _ [52, 1302, 1303, 1305, 53, 1306, 1307, 1309, 54, 1310, 908, 909, 910, 911, 912, 913, 914, 150, 916, 917, 918, 919, 920, 1311] (by decide +kernel)
set_option maxRecDepth 20000 in
theorem wsL_law0_r44_in : ∀ w ∈ wsL_law0_r44, w ∈ lw_tbl := zz_mem_r _ [1312, 1313, 1314, 531, 532, 533, 534, 535, 129, 536, 537, 538, 539, 540, 541, 542, 543, 545, 546, 547, 548, 550, 554, 571] (by decide +kernel)
set_option maxRecDepth 20000 in
theorem wsL_law0_r45_in : ∀ w ∈ wsL_law0_r45, w ∈ lw_tbl := zz_mem_r _ [572, 573, 574, 576, 1315, 1316, 1317, 1318, 1319, 940, 1320, 1322, 55, 1323, 1324, 1325, 1327, 56, 1328] (by decide +kernel)
set_option maxRecDepth 20000 in
theorem wsX70_in : ∀ w ∈ wsX70, w ∈ lw_tbl := zz_mem_r _ [205, 207, 209, 211] (by decide +kernel)
set_option maxRecDepth 20000 in
theorem wsX80_in : ∀ w ∈ wsX80, w ∈ lw_tbl := zz_mem_r _ [941, 943, 945, 947, 949, 951, 953, 955, 957, 959, 961, 963, 965, 967] (by decide +kernel)
set_option maxRecDepth 20000 in
theorem wsX50_in : ∀ w ∈ wsX50, w ∈ lw_tbl := zz_mem_r _ [131, 133, 135, 137] (by decide +kernel)
set_option maxRecDepth 20000 in
theorem wsX20_in : ∀ w ∈ wsX20, w ∈ lw_tbl := zz_mem_r _ [153, 155, 157] (by decide +kernel)
set_option maxRecDepth 20000 in
theorem wsX40_in : ∀ w ∈ wsX40, w ∈ lw_tbl := zz_mem_r _ [173, 175, 177, 179, 181] (by decide +kernel)
set_option maxRecDepth 20000 in
theorem wsX10_in : ∀ w ∈ wsX10, w ∈ lw_tbl := zz_mem_r _ [194, 196, 198] (by decide +kernel)
set_option maxRecDepth 20000 in
theorem wsX60_in : ∀ w ∈ wsX60, w ∈ lw_tbl := zz_mem_r _ [101, 103, 105] (by decide +kernel)
set_option maxRecDepth 20000 in
theorem wsX30_in : ∀ w ∈ wsX30, w ∈ lw_tbl := zz_mem_r _ [118, 120] (by decide +kernel)
theorem wsL_law_in0 : ∀ w ∈ wsL_law0, w ∈ lw_tbl := by
  show ∀ w ∈ (wsL_law0_r1 ++ (wsL_law0_r2 ++ (wsL_law0_r3 ++ (wsL_law0_r4 ++ (wsL_law0_r5 ++ (wsL_law0_r6 ++ (wsL_law0_r7 ++ (wsL_law0_r8 ++ (wsL_law0_r9 ++ (wsL_law0_r10 ++ (wsL_law0_r11 ++ (wsL_law0_r12 ++ (wsL_law0_r13 ++ (wsL_law0_r14 ++ (wsL_law0_r15 ++ (wsL_law0_r16 ++ (wsL_law0_r17 ++ (wsL_law0_r18 ++ (wsL_law0_r19 ++ (wsL_law0_r20 ++ (wsL_law0_r21 ++ (wsL_law0_r22 ++ (wsL_law0_r23 ++ (wsL_law0_r24 ++ (wsL_law0_r25 ++ (wsL_law0_r26 ++ (wsL_law0_r27 ++ (wsL_law0_r28 ++ (wsL_law0_r29 ++ (wsL_law0_r30 ++ (wsL_law0_r31 ++ (wsL_law0_r32 ++ (wsL_law0_r33 ++ (wsL_law0_r34 ++ (wsL_law0_r35 ++ (wsL_law0_r36 ++ (wsL_law0_r37 ++ (wsL_law0_r38 ++ (wsL_law0_r39 ++ (wsL_law0_r40 ++ (wsL_law0_r41 ++ (wsL_law0_r42 ++ (wsL_law0_r43 ++ (wsL_law0_r44 ++ wsL_law0_r45)))))))))))))))))))))))))))))))))))))))))))) ++ wsX70 ++ wsX80 ++ wsX50 ++ wsX20 ++ wsX40 ++ wsX10 ++ wsX60 ++ wsX30 ++ ([] : List Cond), w ∈ lw_tbl
  exact List.forall_mem_append.mpr ⟨List.forall_mem_append.mpr ⟨List.forall_mem_append.mpr ⟨List.forall_mem_append.mpr ⟨List.forall_mem_append.mpr ⟨List.forall_mem_append.mpr ⟨List.forall_mem_append.mpr ⟨List.forall_mem_append.mpr ⟨List.forall_mem_append.mpr ⟨List.forall_mem_append.mpr ⟨wsL_law0_r1_in, List.forall_mem_append.mpr ⟨wsL_law0_r2_in, List.forall_mem_append.mpr ⟨wsL_law0_r3_in, List.forall_mem_append.mpr ⟨wsL_law0_r4_in, List.forall_mem_append.mpr ⟨wsL_law0_r5_in, List.forall_mem_append.mpr ⟨wsL_law0_r6_in, List.forall_mem_append.mpr ⟨wsL_law0_r7_in, List.forall_mem_append.mpr ⟨wsL_law0_r8_in, List.forall_mem_append.mpr ⟨wsL_law0_r9_in, List.forall_mem_append.mpr ⟨wsL_law0_r10_in, List.forall_mem_append.mpr ⟨wsL_law0_r11_in, List.forall_mem_append.mpr ⟨wsL_law0_r12_in, List.forall_mem_append.mpr ⟨wsL_law0_r13_in, List.forall_mem_append.mpr ⟨wsL_law0_r14_in, List.forall_mem_append.mpr ⟨wsL_law0_r15_in, List.forall_mem_append.mpr ⟨wsL_law0_r16_in, List.forall_mem_append.mpr ⟨wsL_law0_r17_in, List.forall_mem_append.mpr ⟨wsL_law0_r18_in, List.forall_mem_append.mpr ⟨wsL_law0_r19_in, List.forall_mem_append.mpr ⟨wsL_law0_r20_in, List.forall_mem_append.mpr ⟨wsL_law0_r21_in, List.forall_mem_append.mpr ⟨wsL_law0_r22_in, List.forall_mem_append.mpr ⟨wsL_law0_r23_in, List.forall_mem_append.mpr ⟨wsL_law0_r24_in, List.forall_mem_append.mpr ⟨wsL_law0_r25_in, List.forall_mem_append.mpr ⟨wsL_law0_r26_in, List.forall_mem_append.mpr ⟨wsL_law0_r27_in, List.forall_mem_append.mpr ⟨wsL_law0_r28_in, List.forall_mem_append.mpr ⟨wsL_law0_r29_in, List.forall_mem_append.mpr ⟨wsL_law0_r30_in, List.forall_mem_append.mpr ⟨wsL_law0_r31_in, List.forall_mem_append.mpr ⟨wsL_law0_r32_in, List.forall_mem_append.mpr ⟨wsL_law0_r33_in, List.forall_mem_append.mpr ⟨wsL_law0_r34_in, List.forall_mem_append.mpr ⟨wsL_law0_r35_in, List.forall_mem_append.mpr ⟨wsL_law0_r36_in, List.forall_mem_append.mpr ⟨wsL_law0_r37_in, List.forall_mem_append.mpr ⟨wsL_law0_r38_in, List.forall_mem_append.mpr ⟨wsL_law0_r39_in, List.forall_mem_append.mpr ⟨wsL_law0_r40_in, List.forall_mem_append.mpr ⟨wsL_law0_r41_in, List.forall_mem_append.mpr ⟨wsL_law0_r42_in, List.forall_mem_append.mpr ⟨wsL_law0_r43_in, List.forall_mem_append.mpr ⟨wsL_law0_r44_in, wsL_law0_r45_in⟩⟩⟩⟩⟩⟩⟩⟩⟩⟩⟩⟩⟩⟩⟩⟩⟩⟩⟩⟩⟩⟩⟩⟩⟩⟩⟩⟩⟩⟩⟩⟩⟩⟩⟩⟩⟩⟩⟩⟩⟩⟩⟩⟩, wsX70_in⟩, wsX80_in⟩, wsX50_in⟩, wsX20_in⟩, wsX40_in⟩, wsX10_in⟩, wsX60_in⟩, wsX30_in⟩, fun w h => absurd h List.not_mem_nil⟩
