/-! the words of the law, and of what it calls -/
def CWL : List Cond := lw_tbl.filter goodWord
theorem CWL_good : CWL.all goodWord = true := List.all_eq_true.mpr fun w h => (List.mem_filter.mp h).2
theorem mL {w : Cond} (h : w ∈ lw_tbl) (g : goodWord w = true) : w ∈ CWL := List.mem_filter.mpr ⟨h, g⟩
theorem gdown {ws : List Cond} (h : GoodIn CWL ws) : GoodIn lw_tbl ws := fun w hw => ⟨(List.mem_filter.mp (h w hw).1).1, (h w hw).2⟩
theorem gcons {a : Cond} {ws : List Cond} (h1 : a ∈ CWL) (h2 : ∀ w ∈ ws, w ∈ CWL) : GoodIn CWL (a :: ws) := fun w hw => by
  have hm : w ∈ CWL := (List.mem_cons.mp hw).elim (fun e => by rw [e]; exact h1) (h2 w)
  exact ⟨hm, good_of_word (cw_g CWL_good hm)⟩
theorem gV {ws : List Cond} {own C : String} {idx : Nat} {y : MethodName} (h1 : .methodLink own idx y ∈ CWL) (h2 : .instanceMethod y ∈ CWL) (h3 : .selects C y y ∈ CWL) (h4 : .initialized C ∈ CWL) (h5 : GoodIn CWL ws) : GoodIn CWL (wsV own idx C y ws) := by
  refine goodIn_app (fun w hw => ?_) h5
  have hm : w ∈ CWL := by
    simp only [List.mem_cons, List.not_mem_nil, or_false] at hw
    rcases hw with rfl | rfl | rfl | rfl
    · exact h1
    · exact h2
    · exact h3
    · exact h4
  exact ⟨hm, good_of_word (cw_g CWL_good hm)⟩
theorem gS {ws : List Cond} {own : String} {idx : Nat} {y : MethodName} (h1 : .methodLink own idx y ∈ CWL) (h2 : .static y ∈ CWL) (h3 : .initialized y.cls ∈ CWL) (h5 : GoodIn CWL ws) : GoodIn CWL (va_wsS own idx y ws) := by
  refine goodIn_app (fun w hw => ?_) h5
  have hm : w ∈ CWL := by
    simp only [List.mem_cons, List.not_mem_nil, or_false] at hw
    rcases hw with rfl | rfl | rfl
    · exact h1
    · exact h2
    · exact h3
  exact ⟨hm, good_of_word (cw_g CWL_good hm)⟩
theorem m_idx {ws L : List Cond} (ps : List Nat) (h : ∀ k, k < ws.length → L[ps.getD k 0]? = ws[k]?) : ∀ w ∈ ws, w ∈ L := by
  intro w hw
  obtain ⟨k, hk⟩ := List.mem_iff_getElem?.mp hw
  exact List.mem_of_getElem? ((h k (List.getElem?_eq_some_iff.mp hk).1).trans hk)
theorem c9_0 : ∀ w ∈ CW9_0, w ∈ lw_tbl := m_idx [660, 81, 82, 83, 84, 336, 86, 54, 210, 211, 59, 337, 338, 249, 250, 61, 339, 340, 309, 310, 62, 341, 323, 324] (by decide +kernel)
theorem c9_1 : ∀ w ∈ CW9_1, w ∈ lw_tbl := m_idx [63, 342, 343, 344, 87, 88, 89, 90, 91, 92, 55, 183, 184, 109, 110, 57, 185, 131, 132, 58, 187, 108, 189, 190] (by decide +kernel)
theorem c9_2 : ∀ w ∈ CW9_2, w ∈ lw_tbl := m_idx [191, 181, 192, 93, 94, 95, 96, 101, 97, 102, 98, 99, 56, 100, 111, 112, 113, 114, 115, 116, 117, 118, 119, 133] (by decide +kernel)
theorem c9_3 : ∀ w ∈ CW9_3, w ∈ lw_tbl := m_idx [134, 135, 136, 137, 138, 139, 141, 142, 143, 144, 180, 145, 140, 146, 182, 212, 213, 214, 215, 216, 217, 60, 229, 231] (by decide +kernel)
theorem c9_4 : ∀ w ∈ CW9_4, w ∈ lw_tbl := m_idx [232, 233, 234, 235, 218, 219, 220, 221, 222, 223, 251, 252, 253, 254, 285, 255, 256, 257, 258, 267, 270, 273, 276, 279] (by decide +kernel)
theorem c9_5 : ∀ w ∈ CW9_5, w ∈ lw_tbl := m_idx [282, 287, 259, 260, 261, 262, 286, 263, 264, 265, 266, 311, 312, 313, 314, 322, 315, 316, 325, 326, 327, 328, 329, 330] (by decide +kernel)
theorem c9_6 : ∀ w ∈ CW9_6, w ∈ lw_tbl := m_idx [80, 436, 437, 68, 657, 658, 659, 53, 433, 435, 4, 664, 665, 69, 654, 656, 11, 662, 663, 681, 682, 683, 684, 685] (by decide +kernel)
theorem c9_7 : ∀ w ∈ CW9_7, w ∈ lw_tbl := m_idx [686, 687, 688, 689, 690, 691, 692, 653, 700, 701, 702, 703, 699, 711, 511, 512, 513, 710, 719, 720, 721, 722, 723, 724] (by decide +kernel)
theorem c9_8 : ∀ w ∈ CW9_8, w ∈ lw_tbl := m_idx [725, 727, 12, 728, 729, 718, 738, 739, 740, 741, 742, 743, 744, 745, 746, 747, 518, 70, 519, 737, 504, 505, 506, 507] (by decide +kernel)
theorem c9_9 : ∀ w ∈ CW9_9, w ∈ lw_tbl := m_idx [509, 425, 426, 508, 405, 406, 407, 412, 413, 414, 408, 409, 410, 411, 510, 514, 515, 516, 517, 520, 521, 70, 522, 523] (by decide +kernel)
theorem c9_10 : ∀ w ∈ CW9_10, w ∈ lw_tbl := m_idx [525, 6, 526, 527, 528, 529, 530, 531, 532, 533, 534, 535, 536, 537, 538, 539, 540, 541, 542, 543, 544, 545, 546, 547] (by decide +kernel)
theorem c9_11 : ∀ w ∈ CW9_11, w ∈ lw_tbl := m_idx [548, 549, 550, 551, 552, 553, 554, 555, 556, 558, 7, 559, 148, 147, 150, 149, 560, 562, 8, 563, 564, 565, 566, 567] (by decide +kernel)
theorem c9_12 : ∀ w ∈ CW9_12, w ∈ lw_tbl := m_idx [568, 569, 570, 572, 9, 573, 574, 575, 576, 577, 578, 579, 580, 582, 10, 583, 584, 585, 586, 587, 588, 589, 590, 591] (by decide +kernel)
theorem c9_13 : ∀ w ∈ CW9_13, w ∈ lw_tbl := m_idx [592, 432, 429, 431, 3, 755, 754, 762, 772, 773, 774, 776, 770, 771, 775, 777, 778, 779, 780, 769, 788, 789, 787, 797] (by decide +kernel)
theorem c9_14 : ∀ w ∈ CW9_14, w ∈ lw_tbl := m_idx [798, 799, 800, 796, 808, 809, 810, 811, 807, 819, 818, 827, 602, 603, 604, 826, 367, 368, 369, 370, 371, 372, 373, 374] (by decide +kernel)
theorem c9_15 : ∀ w ∈ CW9_15, w ∈ lw_tbl := m_idx [375, 376, 377, 378, 379, 835, 836, 837, 838, 839, 840, 842, 13, 843, 844, 846, 14, 847, 848, 849, 850, 851, 852, 854] (by decide +kernel)
theorem c9_16 : ∀ w ∈ CW9_16, w ∈ lw_tbl := m_idx [15, 855, 856, 858, 16, 859, 860, 862, 17, 863, 866, 868, 18, 869, 870, 871, 872, 71, 873, 1448, 874, 875, 876, 877] (by decide +kernel)
theorem c9_17 : ∀ w ∈ CW9_17, w ∈ lw_tbl := m_idx [878, 1449, 880, 881, 882, 883, 884, 885, 886, 887, 888, 889, 72, 890, 891, 892, 893, 894, 896, 897, 73, 898, 899, 900] (by decide +kernel)
theorem c9_18 : ∀ w ∈ CW9_18, w ∈ lw_tbl := m_idx [74, 901, 902, 903, 904, 905, 906, 907, 908, 909, 910, 911, 912, 914, 916, 923, 925, 19, 926, 927, 929, 20, 930, 931] (by decide +kernel)
theorem c9_19 : ∀ w ∈ CW9_19, w ∈ lw_tbl := m_idx [932, 934, 21, 935, 939, 936, 937, 938, 940, 941, 943, 22, 944, 946, 948, 23, 949, 950, 951, 952, 953, 954, 955, 956] (by decide +kernel)
theorem c9_20 : ∀ w ∈ CW9_20, w ∈ lw_tbl := m_idx [957, 958, 959, 960, 961, 962, 964, 963, 75, 834, 383, 384, 385, 386, 387, 971, 972, 973, 974, 975, 976, 403, 415, 404] (by decide +kernel)
theorem c9_21 : ∀ w ∈ CW9_21, w ∈ lw_tbl := m_idx [400, 402, 2, 416, 417, 418, 419, 399, 396, 398, 1, 984, 598, 599, 600, 601, 605, 606, 607, 608, 983, 420, 421, 422] (by decide +kernel)
theorem c9_22 : ∀ w ∈ CW9_22, w ∈ lw_tbl := m_idx [423, 424, 427, 428, 593, 594, 595, 596, 597, 609, 610, 611, 612, 613, 614, 615, 616, 395, 392, 394, 0, 617, 618, 619] (by decide +kernel)
theorem c9_23 : ∀ w ∈ CW9_23, w ∈ lw_tbl := m_idx [620, 391, 992, 993, 994, 995, 996, 997, 998, 999, 1000, 1001, 991, 625, 626, 627, 628, 624, 633, 634, 635, 636, 632, 1009] (by decide +kernel)
theorem c9_24 : ∀ w ∈ CW9_24, w ∈ lw_tbl := m_idx [1010, 1011, 1012, 1013, 1014, 1015, 1016, 1008, 1023, 1024, 641, 642, 643, 644, 640] (by decide +kernel)
theorem c10_0 : ∀ w ∈ CW10_0, w ∈ lw_tbl := m_idx [1033, 1030, 82, 83, 108, 1036, 1037, 1038, 1039, 1040, 1041, 1042, 1043, 1044, 1045, 1046, 1047, 1048, 1050, 1051, 180, 1052, 1053, 1054] (by decide +kernel)
theorem c10_1 : ∀ w ∈ CW10_1, w ∈ lw_tbl := m_idx [503, 1060, 1065, 1067, 1068, 1069, 1070, 1071, 1072, 1073, 1074, 1082, 1084, 1085, 1087, 1034, 1031, 1032, 64, 1029, 1201, 1035, 1217, 1213] (by decide +kernel)
theorem c10_2 : ∀ w ∈ CW10_2, w ∈ lw_tbl := m_idx [1209, 1210, 1212, 25, 1220, 1205, 1206, 1208, 24, 1214, 1216, 26, 1218, 1219, 1224, 1232, 1228, 1229, 1231, 27, 1236, 1237, 1238, 1249] (by decide +kernel)
theorem c10_3 : ∀ w ∈ CW10_3, w ∈ lw_tbl := m_idx [1246, 1247, 1248, 1243, 1245, 28, 1242, 1257, 1261, 1254, 1256, 29, 1258, 1260, 30, 1253, 1265, 1272, 1273, 1274, 1269, 1270, 1271, 1278] (by decide +kernel)
theorem c10_4 : ∀ w ∈ CW10_4, w ∈ lw_tbl := m_idx [1294, 1295, 1056, 1057, 1058, 1059, 1290, 1291, 1293, 33, 1302, 1299, 1300, 1301, 1049, 1055, 1287, 1289, 32, 1296, 1298, 34, 1286, 1319] (by decide +kernel)
theorem c10_5 : ∀ w ∈ CW10_5, w ∈ lw_tbl := m_idx [1314, 1315, 1316, 1318, 36, 1283, 1285, 31, 1282, 1306, 1311, 1313, 35, 1310, 1327, 1324, 1326, 37, 1323, 1331, 1061, 1343, 1062, 1339] (by decide +kernel)
theorem c10_6 : ∀ w ∈ CW10_6, w ∈ lw_tbl := m_idx [1063, 1340, 1342, 39, 1377, 1366, 1064, 1336, 1338, 38, 1361, 871, 872, 71, 873, 1448, 874, 875, 876, 877, 878, 1449, 1362, 881] (by decide +kernel)
theorem c10_7 : ∀ w ∈ CW10_7, w ∈ lw_tbl := m_idx [882, 883, 884, 885, 886, 887, 888, 889, 72, 890, 891, 892, 893, 894, 896, 897, 73, 898, 899, 900, 74, 901, 902, 903] (by decide +kernel)
theorem c10_8 : ∀ w ∈ CW10_8, w ∈ lw_tbl := m_idx [904, 905, 906, 907, 908, 909, 910, 911, 912, 914, 916, 1360, 1350, 1348, 1349, 1357, 1359, 41, 1347, 1374, 1083, 1375, 1376, 1363] (by decide +kernel)
theorem c10_9 : ∀ w ∈ CW10_9, w ∈ lw_tbl := m_idx [1365, 42, 1075, 1076, 1077, 1078, 1079, 1080, 1081, 1344, 1346, 40, 1371, 1373, 44, 1370, 1066, 1367, 1369, 43, 1335, 1382, 1386, 1086] (by decide +kernel)
theorem c10_10 : ∀ w ∈ CW10_10, w ∈ lw_tbl := m_idx [1406, 1398, 1402, 1403, 1405, 48, 1394, 1395, 1397, 46, 1391, 1393, 45, 1399, 1401, 47, 1390, 1418, 1414, 1411, 1413, 49, 1415, 1417] (by decide +kernel)
theorem c10_11 : ∀ w ∈ CW10_11, w ∈ lw_tbl := m_idx [50, 1410, 1426, 1423, 1425, 51, 1422, 1430, 1088, 1434, 1438, 1442, 1446] (by decide +kernel)
theorem cu_X9 : ∀ w ∈ wsX90, w ∈ lw_tbl := m_idx [345, 347, 349, 351, 353, 355, 357, 359, 361] (by decide +kernel)
theorem cu_X6 : ∀ w ∈ wsX60, w ∈ lw_tbl := m_idx [193, 195, 197, 199, 201, 203, 205, 207] (by decide +kernel)
theorem cu_X2 : ∀ w ∈ wsX20, w ∈ lw_tbl := m_idx [103, 105] (by decide +kernel)
theorem cu_X0 : ∀ w ∈ wsX00, w ∈ lw_tbl := m_idx [120, 122, 124, 126, 128] (by decide +kernel)
theorem cu_X1 : ∀ w ∈ wsX10, w ∈ lw_tbl := m_idx [151, 153, 155, 157, 159, 161, 163, 165, 167, 169, 171, 173, 175, 177] (by decide +kernel)
theorem cu_X3 : ∀ w ∈ wsX30, w ∈ lw_tbl := m_idx [290, 292, 294, 296, 298, 300, 302, 304, 306] (by decide +kernel)
theorem cu_X4 : ∀ w ∈ wsX40, w ∈ lw_tbl := m_idx [236, 238, 240, 242, 244, 246] (by decide +kernel)
theorem cu_X5 : ∀ w ∈ wsX50, w ∈ lw_tbl := m_idx [224, 226] (by decide +kernel)
theorem cu_X7 : ∀ w ∈ wsX70, w ∈ lw_tbl := m_idx [317, 319] (by decide +kernel)
theorem cu_X8 : ∀ w ∈ wsX80, w ∈ lw_tbl := m_idx [331, 333] (by decide +kernel)
theorem cu_X10 : ∀ w ∈ wsX100, w ∈ lw_tbl := m_idx [1089, 1091, 1093, 1095, 1097, 1099, 1101, 1103, 1105, 1107, 1109, 1111, 1113, 1115, 1117, 1119, 1121, 1123, 1125, 1127, 1129, 1131, 1133, 1135, 1137, 1139, 1141, 1143, 1145, 1147, 1149, 1151, 1153, 1155, 1157, 1159, 1161, 1163, 1165, 1167, 1169, 1171, 1173, 1175, 1177, 1179, 1181, 1183, 1185, 1187, 1189, 1191, 1193, 1195] (by decide +kernel)
