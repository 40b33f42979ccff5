/-! THE CONSTANTS AT THE START, out of what the Statement gives -/
abbrev FLN : List Cond := flatC (Jvm.Cond.and given_1 narrow_1)
def syD : String := "LPinEngines$Symbol;"
def syC : String := "PinEngines$Symbol"
def syS : List Nat := [273, 273, 273, 273, 273, 283, 286, 289, 292, 295, 299, 302, 305, 308, 311, 314, 317, 320, 323, 326, 329, 332, 335, 338, 341, 344, 347, 350, 353, 356, 359, 362, 365, 368, 371, 374, 377, 380, 383, 386, 389, 392, 395, 398, 401, 404, 407, 410, 413, 416, 419, 422, 425, 428, 431, 434, 437, 440, 443, 446, 449, 452, 455, 458, 461, 464, 467, 470, 473, 476, 479, 482, 485, 488]
def caO : List String := ["PinEnginesModel", "PinEnginesModel", "PinEnginesModel", "PinEnginesModel", "PinEnginesModel", "PinEnginesModel", "PinEnginesModel", "PinEnginesModel", "PinEnginesModel", "PinEnginesModel", "PinEnginesModel", "PinEnginesModel", "PinEnginesModel", "PinEnginesModel", "PinEnginesModel", "PinEnginesModel", "PinEnginesModel", "PinEnginesModel", "PinEnginesModel", "PinEnginesModel", "PinEnginesModel", "PinEnginesModel", "PinEnginesModel", "PinEnginesModel", "PinEnginesModel", "PinEnginesModel", "PinEnginesModel", "PinEnginesModel", "PinEnginesModel", "PinEnginesModel", "PinEnginesModel", "PinEnginesModel", "PinEnginesModel", "PinEnginesModel", "PinEnginesModel", "PinEnginesModel", "PinEnginesModel", "PinEnginesModel", "PinEnginesModel", "PinEnginesModel", "PinEnginesModel", "PinEnginesModel", "PinEnginesModel", "PinEnginesModel", "PinEnginesModel", "PinEnginesModel", "PinEnginesModel", "PinEnginesModel", "PinEnginesModel", "PinEnginesModel", "PinEnginesModel", "PinEnginesModel", "PinEnginesModel", "PinEnginesModel", "PinEnginesModel", "PinEnginesModel", "PinEnginesModel", "PinEnginesModel", "PinEnginesModel", "PinEnginesModel", "PinEnginesModel", "PinEnginesModel", "PinEnginesModel", "PinEngines$Symbol", "PinEngines$Symbol", "PinEngines$Symbol", "PinEngines$Symbol", "PinEngines$Symbol", "PinEngines$Symbol", "PinEngines$Symbol"]
def caI : List Nat := [59, 61, 63, 65, 67, 69, 71, 73, 75, 77, 79, 81, 83, 89, 91, 93, 95, 97, 99, 101, 103, 108, 110, 112, 114, 116, 118, 120, 122, 124, 129, 131, 133, 135, 137, 139, 141, 143, 145, 147, 149, 151, 153, 155, 157, 159, 161, 163, 165, 167, 169, 171, 173, 175, 177, 179, 181, 183, 185, 187, 189, 191, 193, 283, 286, 289, 295, 302, 292, 299]
def caT (k : Nat) : Term := .string (caO.getD k "") (caI.getD k 0)
def syTm (i : Nat) : Term := .static syC (syN.getD i "") syD
def fl_ex_p : List Nat := [8, 4, 23, 19, 106, 199, 227, 473, 485, 477, 501, 481, 110, 114, 195, 219, 223, 505, 509, 513, 517, 521, 525, 529, 533, 537, 541, 545, 549, 553, 557, 561, 565, 569, 573, 577, 581, 585, 589, 593, 597, 231, 235, 601, 605, 609, 613, 617, 203, 621, 625, 259, 239, 243, 629, 247, 633, 263, 637, 641, 207, 215, 211, 251, 255, 497, 645, 493, 489, 649, 653, 657, 661, 665]
set_option maxRecDepth 100000 in
theorem fl_ex_a : ∀ i, i < 74 → FLN[fl_ex_p.getD i 0]? = some (Cond.exactly (syTm i) syC) := by decide +kernel
theorem fl_ex : ∀ i, i < 74 → Cond.exactly (syTm i) syC ∈ FLN := fun i hi => List.mem_of_getElem? (fl_ex_a i hi)
def fl_ord_p : List Nat := [9, 5, 24, 20, 107, 200, 228, 474, 486, 478, 502, 482, 111, 115, 196, 220, 224, 506, 510, 514, 518, 522, 526, 530, 534, 538, 542, 546, 550, 554, 558, 562, 566, 570, 574, 578, 582, 586, 590, 594, 598, 232, 236, 602, 606, 610, 614, 618, 204, 622, 626, 260, 240, 244, 630, 248, 634, 264, 638, 642, 208, 216, 212, 252, 256, 498, 646, 494, 490, 650, 654, 658, 662, 666]
set_option maxRecDepth 100000 in
theorem fl_ord_a : ∀ i, i < 74 → FLN[fl_ord_p.getD i 0]? = some (Cond.eq (.field (syTm i) "java/lang/Enum" "ordinal" "I") (.int (syO.getD i 0))) := by decide +kernel
theorem fl_ord : ∀ i, i < 74 → Cond.eq (.field (syTm i) "java/lang/Enum" "ordinal" "I") (.int (syO.getD i 0)) ∈ FLN := fun i hi => List.mem_of_getElem? (fl_ord_a i hi)
def fl_rol_p : List Nat := [11, 7, 26, 22, 109, 202, 230, 476, 488, 480, 504, 484, 113, 117, 198, 222, 226, 508, 512, 516, 520, 524, 528, 532, 536, 540, 544, 548, 552, 556, 560, 564, 568, 572, 576, 580, 584, 588, 592, 596, 600, 234, 238, 604, 608, 612, 616, 620, 206, 624, 628, 262, 242, 246, 632, 250, 636, 266, 640, 644, 210, 218, 214, 254, 258, 500, 648, 496, 492, 652, 656, 660, 664, 668]
set_option maxRecDepth 100000 in
theorem fl_rol_a : ∀ i, i < 74 → FLN[fl_rol_p.getD i 0]? = some (Cond.eq (.field (syTm i) "PinEngines$Symbol" "roles" "I") (.int (syR.getD i 0))) := by decide +kernel
theorem fl_rol : ∀ i, i < 74 → Cond.eq (.field (syTm i) "PinEngines$Symbol" "roles" "I") (.int (syR.getD i 0)) ∈ FLN := fun i hi => List.mem_of_getElem? (fl_rol_a i hi)
def fl_txt_p : List Nat := [10, 6, 25, 21, 108, 201, 229, 475, 487, 479, 503, 483, 112, 116, 197, 221, 225, 507, 511, 515, 519, 523, 527, 531, 535, 539, 543, 547, 551, 555, 559, 563, 567, 571, 575, 579, 583, 587, 591, 595, 599, 233, 237, 603, 607, 611, 615, 619, 205, 623, 627, 261, 241, 245, 631, 249, 635, 265, 639, 643, 209, 217, 213, 253, 257, 499, 647, 495, 491, 651, 655, 659, 663, 667]
set_option maxRecDepth 100000 in
theorem fl_txt_a : ∀ i, i < 74 → FLN[fl_txt_p.getD i 0]? = some (Cond.eq (.field (syTm i) "PinEngines$Symbol" "text" "Ljava/lang/String;") (.string "PinEngines$Symbol" (syS.getD i 0))) := by decide +kernel
theorem fl_txt : ∀ i, i < 74 → Cond.eq (.field (syTm i) "PinEngines$Symbol" "text" "Ljava/lang/String;") (.string "PinEngines$Symbol" (syS.getD i 0)) ∈ FLN := fun i hi => List.mem_of_getElem? (fl_txt_a i hi)
def fl_all_p : List Nat := [32, 33, 34, 35, 36, 37, 38, 39, 40, 41, 42, 43, 44, 45, 46, 47, 48, 49, 50, 51, 52, 53, 54, 55, 56, 57, 58, 59, 60, 61, 62, 63, 64, 65, 66, 67, 68, 69, 70, 71, 72, 73, 74, 75, 76, 77, 78, 79, 80, 81, 82, 83, 84, 85, 86, 87, 88, 89, 90, 91, 92, 93, 94, 95, 96, 97, 98, 99, 100, 101, 102, 103, 104, 105]
set_option maxRecDepth 100000 in
theorem fl_all_a : ∀ i, i < 74 → FLN[fl_all_p.getD i 0]? = some (Cond.eq (.elem (.static syC "ALL" "[LPinEngines$Symbol;") (.int (Int32.ofNat i))) (syTm i)) := by decide +kernel
theorem fl_all : ∀ i, i < 74 → Cond.eq (.elem (.static syC "ALL" "[LPinEngines$Symbol;") (.int (Int32.ofNat i))) (syTm i) ∈ FLN := fun i hi => List.mem_of_getElem? (fl_all_a i hi)
def fl_map_p : List Nat := [121, 122, 123, 124, 125, 126, 127, 128, 129, 130, 131, 132, 133, 134, 135, 136, 137, 138, 139, 140, 141, 142, 143, 144, 145, 146, 147, 148, 149, 150, 151, 152, 153, 154, 155, 156, 157, 158, 159, 160, 161, 162, 163, 164, 165, 166, 167, 168, 169, 170, 171, 172, 173, 174, 175, 176, 177, 178, 179, 180, 181, 182, 183, 184, 185, 186, 187, 188, 189, 190, 191, 192, 193, 194]
set_option maxRecDepth 100000 in
theorem fl_map_a : ∀ i, i < 74 → FLN[fl_map_p.getD i 0]? = some (Cond.eq (.elem (.static "PinEngines$1" "$SwitchMap$PinEngines$Symbol" "[I") (.int (Int32.ofNat i))) (.int (smL.getD i 0))) := by decide +kernel
theorem fl_map : ∀ i, i < 74 → Cond.eq (.elem (.static "PinEngines$1" "$SwitchMap$PinEngines$Symbol" "[I") (.int (Int32.ofNat i))) (.int (smL.getD i 0)) ∈ FLN := fun i hi => List.mem_of_getElem? (fl_map_a i hi)
def fl_d1_p : List Nat := [270, 271, 272, 273, 274, 275, 276, 277, 278, 279, 280, 281, 282, 283, 284, 285, 286, 287, 288, 289, 290, 291, 292, 293, 294, 295, 296, 297, 298, 299, 300, 301, 302, 303, 304, 305, 306, 307, 308, 309, 310, 311, 312, 313, 314, 315, 316, 317, 318, 319, 320, 321, 322, 323, 324, 325, 326, 327, 328, 329, 330, 331, 332, 333, 334, 335, 336, 337, 338, 339, 340, 341, 342, 343, 344, 345, 346, 347, 348, 349, 350, 351, 352, 353, 354, 355, 356, 357, 358, 359, 360, 361, 362, 363, 364, 365, 366, 367, 368, 369]
set_option maxRecDepth 100000 in
theorem fl_d1_a : ∀ i, i < 100 → FLN[fl_d1_p.getD i 0]? = some (Cond.eq (.elem (.static "java/lang/Integer" "DigitOnes" "[B") (.int (Int32.ofNat i))) (.int (nI (48 + i % 10)))) := by decide +kernel
theorem fl_d1 : ∀ i, i < 100 → Cond.eq (.elem (.static "java/lang/Integer" "DigitOnes" "[B") (.int (Int32.ofNat i))) (.int (nI (48 + i % 10))) ∈ FLN := fun i hi => List.mem_of_getElem? (fl_d1_a i hi)
def fl_d2_p : List Nat := [373, 374, 375, 376, 377, 378, 379, 380, 381, 382, 383, 384, 385, 386, 387, 388, 389, 390, 391, 392, 393, 394, 395, 396, 397, 398, 399, 400, 401, 402, 403, 404, 405, 406, 407, 408, 409, 410, 411, 412, 413, 414, 415, 416, 417, 418, 419, 420, 421, 422, 423, 424, 425, 426, 427, 428, 429, 430, 431, 432, 433, 434, 435, 436, 437, 438, 439, 440, 441, 442, 443, 444, 445, 446, 447, 448, 449, 450, 451, 452, 453, 454, 455, 456, 457, 458, 459, 460, 461, 462, 463, 464, 465, 466, 467, 468, 469, 470, 471, 472]
set_option maxRecDepth 100000 in
theorem fl_d2_a : ∀ i, i < 100 → FLN[fl_d2_p.getD i 0]? = some (Cond.eq (.elem (.static "java/lang/Integer" "DigitTens" "[B") (.int (Int32.ofNat i))) (.int (nI (48 + i / 10)))) := by decide +kernel
theorem fl_d2 : ∀ i, i < 100 → Cond.eq (.elem (.static "java/lang/Integer" "DigitTens" "[B") (.int (Int32.ofNat i))) (.int (nI (48 + i / 10))) ∈ FLN := fun i hi => List.mem_of_getElem? (fl_d2_a i hi)
def fl_sx_p : List Nat := [828, 835, 843, 849, 856, 864, 872, 879, 888, 897, 907, 914, 922, 931, 935, 944, 953, 961, 969, 979, 986, 994, 1002, 1007, 1012, 1020, 1027, 1034, 1044, 1052, 1058, 1068, 1077, 1086, 1094, 1103, 1112, 1120, 1131, 1142, 1154, 1164, 1175, 1185, 1196, 1208, 1220, 1230, 1241, 1249, 1259, 1270, 1281, 1288, 1299, 1307, 1316, 1322, 1329, 1337, 1346, 1355, 1364, 1410, 1477, 1559, 1564, 1569, 1574, 1604]
set_option maxRecDepth 100000 in
theorem fl_sx_a : ∀ i, i < 70 → FLN[fl_sx_p.getD i 0]? = some (Cond.exactly (caT i) "java/lang/String") := by decide +kernel
theorem fl_sx : ∀ i, i < 70 → Cond.exactly (caT i) "java/lang/String" ∈ FLN := fun i hi => List.mem_of_getElem? (fl_sx_a i hi)
def fl_sc_p : List Nat := [829, 836, 844, 850, 857, 865, 873, 880, 889, 898, 908, 915, 923, 932, 936, 945, 954, 962, 970, 980, 987, 995, 1003, 1008, 1013, 1021, 1028, 1035, 1045, 1053, 1059, 1069, 1078, 1087, 1095, 1104, 1113, 1121, 1132, 1143, 1155, 1165, 1176, 1186, 1197, 1209, 1221, 1231, 1242, 1250, 1260, 1271, 1282, 1289, 1300, 1308, 1317, 1323, 1330, 1338, 1347, 1356, 1365, 1411, 1478, 1560, 1565, 1570, 1575, 1605]
set_option maxRecDepth 100000 in
theorem fl_sc_a : ∀ i, i < 70 → FLN[fl_sc_p.getD i 0]? = some (Cond.eq (.field (caT i) "java/lang/String" "coder" "B") (.int 0)) := by decide +kernel
theorem fl_sc : ∀ i, i < 70 → Cond.eq (.field (caT i) "java/lang/String" "coder" "B") (.int 0) ∈ FLN := fun i hi => List.mem_of_getElem? (fl_sc_a i hi)
def fl_sa_p : List Nat := [830, 837, 845, 851, 858, 866, 874, 881, 890, 899, 909, 916, 924, 933, 937, 946, 955, 963, 971, 981, 988, 996, 1004, 1009, 1014, 1022, 1029, 1036, 1046, 1054, 1060, 1070, 1079, 1088, 1096, 1105, 1114, 1122, 1133, 1144, 1156, 1166, 1177, 1187, 1198, 1210, 1222, 1232, 1243, 1251, 1261, 1272, 1283, 1290, 1301, 1309, 1318, 1324, 1331, 1339, 1348, 1357, 1366, 1412, 1479, 1561, 1566, 1571, 1576, 1606]
set_option maxRecDepth 100000 in
theorem fl_sa_a : ∀ i, i < 70 → FLN[fl_sa_p.getD i 0]? = some (Cond.arrayOf (.field (caT i) "java/lang/String" "value" "[B") .byte) := by decide +kernel
theorem fl_sa : ∀ i, i < 70 → Cond.arrayOf (.field (caT i) "java/lang/String" "value" "[B") .byte ∈ FLN := fun i hi => List.mem_of_getElem? (fl_sa_a i hi)
def fl_sl_p : List Nat := [831, 838, 846, 852, 859, 867, 875, 882, 891, 900, 910, 917, 925, 934, 938, 947, 956, 964, 972, 982, 989, 997, 1005, 1010, 1015, 1023, 1030, 1037, 1047, 1055, 1061, 1071, 1080, 1089, 1097, 1106, 1115, 1123, 1134, 1145, 1157, 1167, 1178, 1188, 1199, 1211, 1223, 1233, 1244, 1252, 1262, 1273, 1284, 1291, 1302, 1310, 1319, 1325, 1332, 1340, 1349, 1358, 1367, 1413, 1480, 1562, 1567, 1572, 1577, 1607]
set_option maxRecDepth 100000 in
theorem fl_sl_a : ∀ i, i < 70 → FLN[fl_sl_p.getD i 0]? = some (Cond.eq (.length (.field (caT i) "java/lang/String" "value" "[B")) (.int (Int32.ofNat (txN.getD i 0)))) := by decide +kernel
theorem fl_sl : ∀ i, i < 70 → Cond.eq (.length (.field (caT i) "java/lang/String" "value" "[B")) (.int (Int32.ofNat (txN.getD i 0))) ∈ FLN := fun i hi => List.mem_of_getElem? (fl_sl_a i hi)
def fl_se_p : List (List Nat) := [[832, 833, 834], [839, 840, 841, 842], [847, 848], [853, 854, 855], [860, 861, 862, 863], [868, 869, 870, 871], [876, 877, 878], [883, 884, 885, 886, 887], [892, 893, 894, 895, 896], [901, 902, 903, 904, 905, 906], [911, 912, 913], [918, 919, 920, 921], [926, 927, 928, 929, 930], [], [939, 940, 941, 942, 943], [948, 949, 950, 951, 952], [957, 958, 959, 960], [965, 966, 967, 968], [973, 974, 975, 976, 977, 978], [983, 984, 985], [990, 991, 992, 993], [998, 999, 1000, 1001], [1006], [1011], [1016, 1017, 1018, 1019], [1024, 1025, 1026], [1031, 1032, 1033], [1038, 1039, 1040, 1041, 1042, 1043], [1048, 1049, 1050, 1051], [1056, 1057], [1062, 1063, 1064, 1065, 1066, 1067], [1072, 1073, 1074, 1075, 1076], [1081, 1082, 1083, 1084, 1085], [1090, 1091, 1092, 1093], [1098, 1099, 1100, 1101, 1102], [1107, 1108, 1109, 1110, 1111], [1116, 1117, 1118, 1119], [1124, 1125, 1126, 1127, 1128, 1129, 1130], [1135, 1136, 1137, 1138, 1139, 1140, 1141], [1146, 1147, 1148, 1149, 1150, 1151, 1152, 1153], [1158, 1159, 1160, 1161, 1162, 1163], [1168, 1169, 1170, 1171, 1172, 1173, 1174], [1179, 1180, 1181, 1182, 1183, 1184], [1189, 1190, 1191, 1192, 1193, 1194, 1195], [1200, 1201, 1202, 1203, 1204, 1205, 1206, 1207], [1212, 1213, 1214, 1215, 1216, 1217, 1218, 1219], [1224, 1225, 1226, 1227, 1228, 1229], [1234, 1235, 1236, 1237, 1238, 1239, 1240], [1245, 1246, 1247, 1248], [1253, 1254, 1255, 1256, 1257, 1258], [1263, 1264, 1265, 1266, 1267, 1268, 1269], [1274, 1275, 1276, 1277, 1278, 1279, 1280], [1285, 1286, 1287], [1292, 1293, 1294, 1295, 1296, 1297, 1298], [1303, 1304, 1305, 1306], [1311, 1312, 1313, 1314, 1315], [1320, 1321], [1326, 1327, 1328], [1333, 1334, 1335, 1336], [1341, 1342, 1343, 1344, 1345], [1350, 1351, 1352, 1353, 1354], [1359, 1360, 1361, 1362, 1363], [1368, 1369, 1370, 1371, 1372, 1373], [1414], [1481], [1563], [1568], [1573], [1578], [1608]]
set_option maxRecDepth 100000 in
theorem fl_se_a : ∀ i, i < 70 → ∀ j, j < txN.getD i 0 → FLN[(fl_se_p.getD i []).getD j 0]? = some (Cond.eq (.elem (.field (caT i) "java/lang/String" "value" "[B") (.int (Int32.ofNat j))) (.int ((txI.getD i []).getD j 0))) := by decide +kernel
theorem fl_se : ∀ i, i < 70 → ∀ j, j < txN.getD i 0 → Cond.eq (.elem (.field (caT i) "java/lang/String" "value" "[B") (.int (Int32.ofNat j))) (.int ((txI.getD i []).getD j 0)) ∈ FLN := fun i hi j hj => List.mem_of_getElem? (fl_se_a i hi j hj)
set_option maxRecDepth 100000 in
theorem fl_mR_a : ∀ q ∈ txR, Term.string "PinEnginesModel" q.1 = caT q.2.2 ∧ q.2.2 < 70 := by decide +kernel
theorem fl_mR : ∀ q ∈ txR, (Term.string "PinEnginesModel" q.1 = caT q.2.2 ∨ Cond.eq (.string "PinEnginesModel" q.1) (caT q.2.2) ∈ FLN) ∧ q.2.2 < 70 := fun q hq => ⟨Or.inl (fl_mR_a q hq).1, (fl_mR_a q hq).2⟩
def fl_sR_p : List (Option Nat) := [some 1378, some 1378, some 1378, some 1378, some 1378, none, none, none, none, none, none, none, some 1389, some 1399, some 1409, some 1466, some 1476, some 1618, some 1627, some 1639, some 1651, some 1664, some 1675, some 1687, some 1698, some 1710, some 1723, some 1736, some 1747, some 1759, some 1767, some 1776, some 1783, some 1791, some 1800, some 1809, some 1817, some 1827, some 1837, some 1848, some 1856, some 1490, some 1500, some 1866, some 1876, some 1885, some 1894, some 1905, some 1422, some 1914, some 1923, some 1549, some 1506, some 1512, some 1932, some 1520, some 1940, some 1558, some 1947, some 1958, some 1433, some 1457, some 1445, some 1528, some 1540, some 1603, some 1968, some 1594, some 1587, some 1977, some 1987, some 1997, some 2007, some 2018]
set_option maxRecDepth 100000 in
theorem fl_sR_a : ∀ i, i < 74 → (match fl_sR_p.getD i none with | none => decide (Term.string "PinEngines$Symbol" (syS.getD i 0) = caT (syT.getD i 0)) | some p => decide (FLN[p]? = some (Cond.eq (caT (syT.getD i 0)) (.string "PinEngines$Symbol" (syS.getD i 0))))) = true := by decide +kernel
theorem fl_sR : ∀ i, i < 74 → (Term.string "PinEngines$Symbol" (syS.getD i 0) = caT (syT.getD i 0) ∨ Cond.eq (caT (syT.getD i 0)) (.string "PinEngines$Symbol" (syS.getD i 0)) ∈ FLN) := by
  intro i hi
  have h := fl_sR_a i hi
  split at h
  · exact Or.inl (of_decide_eq_true h)
  · exact Or.inr (List.mem_of_getElem? (of_decide_eq_true h))
set_option maxRecDepth 100000 in
theorem fl_c1 : Cond.eq (.static "java/lang/String" "COMPACT_STRINGS" "Z") (.int 1) ∈ FLN := List.mem_of_getElem? (i := 12) (by decide +kernel)
set_option maxRecDepth 100000 in
theorem fl_c2 : Cond.isRef (.static "jdk/internal/util/Preconditions" "SIOOBE_FORMATTER" "Ljava/util/function/BiFunction;") ∈ FLN := List.mem_of_getElem? (i := 13) (by decide +kernel)
set_option maxRecDepth 100000 in
theorem fl_c3 : Cond.isRef (.static "java/lang/Throwable" "UNASSIGNED_STACK" "[Ljava/lang/StackTraceElement;") ∈ FLN := List.mem_of_getElem? (i := 17) (by decide +kernel)
set_option maxRecDepth 100000 in
theorem fl_c4 : Cond.isRef (.static "java/lang/Throwable" "SUPPRESSED_SENTINEL" "Ljava/util/List;") ∈ FLN := List.mem_of_getElem? (i := 18) (by decide +kernel)
set_option maxRecDepth 100000 in
theorem fl_c5 : Cond.arrayOf (.static syC "ALL" "[LPinEngines$Symbol;") (.object "PinEngines$Symbol") ∈ FLN := List.mem_of_getElem? (i := 29) (by decide +kernel)
set_option maxRecDepth 100000 in
theorem fl_c6 : Cond.eq (.length (.static syC "ALL" "[LPinEngines$Symbol;")) (.int (Int32.ofNat 74)) ∈ FLN := List.mem_of_getElem? (i := 30) (by decide +kernel)
set_option maxRecDepth 100000 in
theorem fl_c7 : Cond.arrayOf (.static "PinEngines$1" "$SwitchMap$PinEngines$Symbol" "[I") .int ∈ FLN := List.mem_of_getElem? (i := 119) (by decide +kernel)
set_option maxRecDepth 100000 in
theorem fl_c8 : Cond.eq (.length (.static "PinEngines$1" "$SwitchMap$PinEngines$Symbol" "[I")) (.int (Int32.ofNat 74)) ∈ FLN := List.mem_of_getElem? (i := 120) (by decide +kernel)
set_option maxRecDepth 100000 in
theorem fl_c9 : Cond.arrayOf (.static "java/lang/Integer" "DigitOnes" "[B") .byte ∈ FLN := List.mem_of_getElem? (i := 268) (by decide +kernel)
set_option maxRecDepth 100000 in
theorem fl_c10 : Cond.eq (.length (.static "java/lang/Integer" "DigitOnes" "[B")) (.int (Int32.ofNat 100)) ∈ FLN := List.mem_of_getElem? (i := 269) (by decide +kernel)
set_option maxRecDepth 100000 in
theorem fl_c11 : Cond.arrayOf (.static "java/lang/Integer" "DigitTens" "[B") .byte ∈ FLN := List.mem_of_getElem? (i := 371) (by decide +kernel)
set_option maxRecDepth 100000 in
theorem fl_c12 : Cond.eq (.length (.static "java/lang/Integer" "DigitTens" "[B")) (.int (Int32.ofNat 100)) ∈ FLN := List.mem_of_getElem? (i := 372) (by decide +kernel)
set_option maxRecDepth 100000 in
theorem fl_c13 : Cond.not (.castable "java/lang/IllegalArgumentException" "java/util/NoSuchElementException") ∈ FLN := List.mem_of_getElem? (i := 699) (by decide +kernel)
theorem tl_sy : ∀ i, i < 74 → Cond.laysStatic syC (syN.getD i "") syD ∈ lw_tbl := fun i hi => match i, hi with
  | 0, _ => lw_c1 (List.mem_of_getElem? (i := 101) (by decide +kernel))
  | 1, _ => lw_c1 (List.mem_of_getElem? (i := 50) (by decide +kernel))
  | 2, _ => lw_c4 (List.mem_of_getElem? (i := 111) (by decide +kernel))
  | 3, _ => lw_c4 (List.mem_of_getElem? (i := 102) (by decide +kernel))
  | 4, _ => lw_c4 (List.mem_of_getElem? (i := 152) (by decide +kernel))
  | 5, _ => lw_c5 (List.mem_of_getElem? (i := 45) (by decide +kernel))
  | 6, _ => lw_c5 (List.mem_of_getElem? (i := 94) (by decide +kernel))
  | 7, _ => lw_c8 (List.mem_of_getElem? (i := 127) (by decide +kernel))
  | 8, _ => lw_c8 (List.mem_of_getElem? (i := 159) (by decide +kernel))
  | 9, _ => lw_c8 (List.mem_of_getElem? (i := 152) (by decide +kernel))
  | 10, _ => lw_c12 (List.mem_of_getElem? (i := 125) (by decide +kernel))
  | 11, _ => lw_c8 (List.mem_of_getElem? (i := 154) (by decide +kernel))
  | 12, _ => lw_c4 (List.mem_of_getElem? (i := 177) (by decide +kernel))
  | 13, _ => lw_c4 (List.mem_of_getElem? (i := 209) (by decide +kernel))
  | 14, _ => lw_c5 (List.mem_of_getElem? (i := 31) (by decide +kernel))
  | 15, _ => lw_c5 (List.mem_of_getElem? (i := 90) (by decide +kernel))
  | 16, _ => lw_c5 (List.mem_of_getElem? (i := 92) (by decide +kernel))
  | 17, _ => lw_c12 (List.mem_of_getElem? (i := 126) (by decide +kernel))
  | 18, _ => lw_c12 (List.mem_of_getElem? (i := 127) (by decide +kernel))
  | 19, _ => lw_c12 (List.mem_of_getElem? (i := 128) (by decide +kernel))
  | 20, _ => lw_c12 (List.mem_of_getElem? (i := 129) (by decide +kernel))
  | 21, _ => lw_c12 (List.mem_of_getElem? (i := 130) (by decide +kernel))
  | 22, _ => lw_c12 (List.mem_of_getElem? (i := 131) (by decide +kernel))
  | 23, _ => lw_c12 (List.mem_of_getElem? (i := 132) (by decide +kernel))
  | 24, _ => lw_c12 (List.mem_of_getElem? (i := 133) (by decide +kernel))
  | 25, _ => lw_c12 (List.mem_of_getElem? (i := 134) (by decide +kernel))
  | 26, _ => lw_c12 (List.mem_of_getElem? (i := 135) (by decide +kernel))
  | 27, _ => lw_c12 (List.mem_of_getElem? (i := 136) (by decide +kernel))
  | 28, _ => lw_c12 (List.mem_of_getElem? (i := 137) (by decide +kernel))
  | 29, _ => lw_c12 (List.mem_of_getElem? (i := 138) (by decide +kernel))
  | 30, _ => lw_c12 (List.mem_of_getElem? (i := 139) (by decide +kernel))
  | 31, _ => lw_c12 (List.mem_of_getElem? (i := 140) (by decide +kernel))
  | 32, _ => lw_c12 (List.mem_of_getElem? (i := 141) (by decide +kernel))
  | 33, _ => lw_c12 (List.mem_of_getElem? (i := 142) (by decide +kernel))
  | 34, _ => lw_c12 (List.mem_of_getElem? (i := 143) (by decide +kernel))
  | 35, _ => lw_c12 (List.mem_of_getElem? (i := 144) (by decide +kernel))
  | 36, _ => lw_c12 (List.mem_of_getElem? (i := 145) (by decide +kernel))
  | 37, _ => lw_c12 (List.mem_of_getElem? (i := 146) (by decide +kernel))
  | 38, _ => lw_c12 (List.mem_of_getElem? (i := 147) (by decide +kernel))
  | 39, _ => lw_c12 (List.mem_of_getElem? (i := 148) (by decide +kernel))
  | 40, _ => lw_c12 (List.mem_of_getElem? (i := 149) (by decide +kernel))
  | 41, _ => lw_c6 (List.mem_of_getElem? (i := 153) (by decide +kernel))
  | 42, _ => lw_c6 (List.mem_of_getElem? (i := 155) (by decide +kernel))
  | 43, _ => lw_c12 (List.mem_of_getElem? (i := 150) (by decide +kernel))
  | 44, _ => lw_c12 (List.mem_of_getElem? (i := 151) (by decide +kernel))
  | 45, _ => lw_c12 (List.mem_of_getElem? (i := 152) (by decide +kernel))
  | 46, _ => lw_c12 (List.mem_of_getElem? (i := 153) (by decide +kernel))
  | 47, _ => lw_c12 (List.mem_of_getElem? (i := 154) (by decide +kernel))
  | 48, _ => lw_c5 (List.mem_of_getElem? (i := 69) (by decide +kernel))
  | 49, _ => lw_c12 (List.mem_of_getElem? (i := 155) (by decide +kernel))
  | 50, _ => lw_c12 (List.mem_of_getElem? (i := 156) (by decide +kernel))
  | 51, _ => lw_c7 (List.mem_of_getElem? (i := 46) (by decide +kernel))
  | 52, _ => lw_c6 (List.mem_of_getElem? (i := 172) (by decide +kernel))
  | 53, _ => lw_c6 (List.mem_of_getElem? (i := 174) (by decide +kernel))
  | 54, _ => lw_c12 (List.mem_of_getElem? (i := 157) (by decide +kernel))
  | 55, _ => lw_c7 (List.mem_of_getElem? (i := 7) (by decide +kernel))
  | 56, _ => lw_c12 (List.mem_of_getElem? (i := 158) (by decide +kernel))
  | 57, _ => lw_c7 (List.mem_of_getElem? (i := 48) (by decide +kernel))
  | 58, _ => lw_c12 (List.mem_of_getElem? (i := 159) (by decide +kernel))
  | 59, _ => lw_c12 (List.mem_of_getElem? (i := 160) (by decide +kernel))
  | 60, _ => lw_c5 (List.mem_of_getElem? (i := 75) (by decide +kernel))
  | 61, _ => lw_c5 (List.mem_of_getElem? (i := 83) (by decide +kernel))
  | 62, _ => lw_c5 (List.mem_of_getElem? (i := 81) (by decide +kernel))
  | 63, _ => lw_c7 (List.mem_of_getElem? (i := 24) (by decide +kernel))
  | 64, _ => lw_c7 (List.mem_of_getElem? (i := 26) (by decide +kernel))
  | 65, _ => lw_c8 (List.mem_of_getElem? (i := 171) (by decide +kernel))
  | 66, _ => lw_c12 (List.mem_of_getElem? (i := 161) (by decide +kernel))
  | 67, _ => lw_c8 (List.mem_of_getElem? (i := 164) (by decide +kernel))
  | 68, _ => lw_c8 (List.mem_of_getElem? (i := 162) (by decide +kernel))
  | 69, _ => lw_c12 (List.mem_of_getElem? (i := 162) (by decide +kernel))
  | 70, _ => lw_c12 (List.mem_of_getElem? (i := 163) (by decide +kernel))
  | 71, _ => lw_c12 (List.mem_of_getElem? (i := 164) (by decide +kernel))
  | 72, _ => lw_c12 (List.mem_of_getElem? (i := 165) (by decide +kernel))
  | 73, _ => lw_c12 (List.mem_of_getElem? (i := 166) (by decide +kernel))
  | i + 74, hi => absurd hi (by omega)
theorem tl_t1 : Cond.laysStatic "PinEngines$Symbol" "ALL" "[LPinEngines$Symbol;" ∈ lw_tbl := lw_c4 (List.mem_of_getElem? (i := 116) (by decide +kernel))
theorem tl_t1i : Cond.initialized "PinEngines$Symbol" ∈ lw_tbl := lw_c1 (List.mem_of_getElem? (i := 4) (by decide +kernel))
theorem tl_t2 : Cond.laysStatic "PinEngines$1" "$SwitchMap$PinEngines$Symbol" "[I" ∈ lw_tbl := lw_c5 (List.mem_of_getElem? (i := 7) (by decide +kernel))
theorem tl_t2i : Cond.initialized "PinEngines$1" ∈ lw_tbl := lw_c1 (List.mem_of_getElem? (i := 26) (by decide +kernel))
theorem tl_t3 : Cond.laysStatic "java/lang/String" "COMPACT_STRINGS" "Z" ∈ lw_tbl := lw_c3 (List.mem_of_getElem? (i := 53) (by decide +kernel))
theorem tl_t3i : Cond.initialized "java/lang/String" ∈ lw_tbl := lw_c1 (List.mem_of_getElem? (i := 16) (by decide +kernel))
theorem tl_t4 : Cond.laysStatic "jdk/internal/util/Preconditions" "SIOOBE_FORMATTER" "Ljava/util/function/BiFunction;" ∈ lw_tbl := lw_c3 (List.mem_of_getElem? (i := 212) (by decide +kernel))
theorem tl_t4i : Cond.initialized "jdk/internal/util/Preconditions" ∈ lw_tbl := lw_c1 (List.mem_of_getElem? (i := 25) (by decide +kernel))
theorem tl_t5 : Cond.laysStatic "java/lang/Integer" "DigitOnes" "[B" ∈ lw_tbl := lw_c7 (List.mem_of_getElem? (i := 236) (by decide +kernel))
theorem tl_t5i : Cond.initialized "java/lang/Integer" ∈ lw_tbl := lw_c1 (List.mem_of_getElem? (i := 30) (by decide +kernel))
theorem tl_t6 : Cond.laysStatic "java/lang/Integer" "DigitTens" "[B" ∈ lw_tbl := lw_c7 (List.mem_of_getElem? (i := 238) (by decide +kernel))
theorem tl_t6i : Cond.initialized "java/lang/Integer" ∈ lw_tbl := lw_c1 (List.mem_of_getElem? (i := 30) (by decide +kernel))
theorem tl_t7 : Cond.laysStatic "java/lang/Throwable" "UNASSIGNED_STACK" "[Ljava/lang/StackTraceElement;" ∈ lw_tbl := lw_c4 (List.mem_of_getElem? (i := 56) (by decide +kernel))
theorem tl_t7i : Cond.initialized "java/lang/Throwable" ∈ lw_tbl := lw_c1 (List.mem_of_getElem? (i := 20) (by decide +kernel))
theorem tl_t8 : Cond.laysStatic "java/lang/Throwable" "SUPPRESSED_SENTINEL" "Ljava/util/List;" ∈ lw_tbl := lw_c4 (List.mem_of_getElem? (i := 58) (by decide +kernel))
theorem tl_t8i : Cond.initialized "java/lang/Throwable" ∈ lw_tbl := lw_c1 (List.mem_of_getElem? (i := 20) (by decide +kernel))
theorem tl_sR : ∀ q ∈ txR, Cond.stringRef "PinEnginesModel" q.1 q.2.1 ∈ lw_tbl := List.forall_mem_cons.mpr ⟨lw_c8 (List.mem_of_getElem? (i := 186) (by decide +kernel)), List.forall_mem_cons.mpr ⟨lw_c8 (List.mem_of_getElem? (i := 187) (by decide +kernel)), List.forall_mem_cons.mpr ⟨lw_c8 (List.mem_of_getElem? (i := 188) (by decide +kernel)), List.forall_mem_cons.mpr ⟨lw_c8 (List.mem_of_getElem? (i := 189) (by decide +kernel)), List.forall_mem_cons.mpr ⟨lw_c8 (List.mem_of_getElem? (i := 190) (by decide +kernel)), List.forall_mem_cons.mpr ⟨lw_c8 (List.mem_of_getElem? (i := 191) (by decide +kernel)), List.forall_mem_cons.mpr ⟨lw_c8 (List.mem_of_getElem? (i := 192) (by decide +kernel)), List.forall_mem_cons.mpr ⟨lw_c8 (List.mem_of_getElem? (i := 193) (by decide +kernel)), List.forall_mem_cons.mpr ⟨lw_c8 (List.mem_of_getElem? (i := 194) (by decide +kernel)), List.forall_mem_cons.mpr ⟨lw_c8 (List.mem_of_getElem? (i := 195) (by decide +kernel)), List.forall_mem_cons.mpr ⟨lw_c8 (List.mem_of_getElem? (i := 196) (by decide +kernel)), List.forall_mem_cons.mpr ⟨lw_c8 (List.mem_of_getElem? (i := 197) (by decide +kernel)), List.forall_mem_cons.mpr ⟨lw_c8 (List.mem_of_getElem? (i := 198) (by decide +kernel)), List.forall_mem_cons.mpr ⟨lw_c8 (List.mem_of_getElem? (i := 199) (by decide +kernel)), List.forall_mem_cons.mpr ⟨lw_c8 (List.mem_of_getElem? (i := 200) (by decide +kernel)), List.forall_mem_cons.mpr ⟨lw_c8 (List.mem_of_getElem? (i := 201) (by decide +kernel)), List.forall_mem_cons.mpr ⟨lw_c8 (List.mem_of_getElem? (i := 202) (by decide +kernel)), List.forall_mem_cons.mpr ⟨lw_c8 (List.mem_of_getElem? (i := 203) (by decide +kernel)), List.forall_mem_cons.mpr ⟨lw_c8 (List.mem_of_getElem? (i := 204) (by decide +kernel)), List.forall_mem_cons.mpr ⟨lw_c8 (List.mem_of_getElem? (i := 205) (by decide +kernel)), List.forall_mem_cons.mpr ⟨lw_c8 (List.mem_of_getElem? (i := 206) (by decide +kernel)), List.forall_mem_cons.mpr ⟨lw_c8 (List.mem_of_getElem? (i := 207) (by decide +kernel)), List.forall_mem_cons.mpr ⟨lw_c8 (List.mem_of_getElem? (i := 208) (by decide +kernel)), List.forall_mem_cons.mpr ⟨lw_c8 (List.mem_of_getElem? (i := 209) (by decide +kernel)), List.forall_mem_cons.mpr ⟨lw_c8 (List.mem_of_getElem? (i := 210) (by decide +kernel)), List.forall_mem_cons.mpr ⟨lw_c8 (List.mem_of_getElem? (i := 211) (by decide +kernel)), List.forall_mem_cons.mpr ⟨lw_c8 (List.mem_of_getElem? (i := 212) (by decide +kernel)), List.forall_mem_cons.mpr ⟨lw_c8 (List.mem_of_getElem? (i := 213) (by decide +kernel)), List.forall_mem_cons.mpr ⟨lw_c8 (List.mem_of_getElem? (i := 214) (by decide +kernel)), List.forall_mem_cons.mpr ⟨lw_c8 (List.mem_of_getElem? (i := 215) (by decide +kernel)), List.forall_mem_cons.mpr ⟨lw_c8 (List.mem_of_getElem? (i := 216) (by decide +kernel)), List.forall_mem_cons.mpr ⟨lw_c8 (List.mem_of_getElem? (i := 217) (by decide +kernel)), List.forall_mem_cons.mpr ⟨lw_c8 (List.mem_of_getElem? (i := 218) (by decide +kernel)), List.forall_mem_cons.mpr ⟨lw_c8 (List.mem_of_getElem? (i := 219) (by decide +kernel)), List.forall_mem_cons.mpr ⟨lw_c8 (List.mem_of_getElem? (i := 220) (by decide +kernel)), List.forall_mem_cons.mpr ⟨lw_c8 (List.mem_of_getElem? (i := 221) (by decide +kernel)), List.forall_mem_cons.mpr ⟨lw_c8 (List.mem_of_getElem? (i := 222) (by decide +kernel)), List.forall_mem_cons.mpr ⟨lw_c8 (List.mem_of_getElem? (i := 223) (by decide +kernel)), List.forall_mem_cons.mpr ⟨lw_c8 (List.mem_of_getElem? (i := 224) (by decide +kernel)), List.forall_mem_cons.mpr ⟨lw_c8 (List.mem_of_getElem? (i := 225) (by decide +kernel)), List.forall_mem_cons.mpr ⟨lw_c8 (List.mem_of_getElem? (i := 226) (by decide +kernel)), List.forall_mem_cons.mpr ⟨lw_c8 (List.mem_of_getElem? (i := 227) (by decide +kernel)), List.forall_mem_cons.mpr ⟨lw_c8 (List.mem_of_getElem? (i := 228) (by decide +kernel)), List.forall_mem_cons.mpr ⟨lw_c8 (List.mem_of_getElem? (i := 229) (by decide +kernel)), List.forall_mem_cons.mpr ⟨lw_c8 (List.mem_of_getElem? (i := 230) (by decide +kernel)), List.forall_mem_cons.mpr ⟨lw_c8 (List.mem_of_getElem? (i := 231) (by decide +kernel)), List.forall_mem_cons.mpr ⟨lw_c8 (List.mem_of_getElem? (i := 232) (by decide +kernel)), List.forall_mem_cons.mpr ⟨lw_c8 (List.mem_of_getElem? (i := 233) (by decide +kernel)), List.forall_mem_cons.mpr ⟨lw_c8 (List.mem_of_getElem? (i := 234) (by decide +kernel)), List.forall_mem_cons.mpr ⟨lw_c8 (List.mem_of_getElem? (i := 235) (by decide +kernel)), List.forall_mem_cons.mpr ⟨lw_c8 (List.mem_of_getElem? (i := 236) (by decide +kernel)), List.forall_mem_cons.mpr ⟨lw_c8 (List.mem_of_getElem? (i := 237) (by decide +kernel)), List.forall_mem_cons.mpr ⟨lw_c8 (List.mem_of_getElem? (i := 238) (by decide +kernel)), List.forall_mem_cons.mpr ⟨lw_c8 (List.mem_of_getElem? (i := 239) (by decide +kernel)), List.forall_mem_cons.mpr ⟨lw_c9 (List.mem_of_getElem? (i := 0) (by decide +kernel)), List.forall_mem_cons.mpr ⟨lw_c9 (List.mem_of_getElem? (i := 1) (by decide +kernel)), List.forall_mem_cons.mpr ⟨lw_c9 (List.mem_of_getElem? (i := 2) (by decide +kernel)), List.forall_mem_cons.mpr ⟨lw_c9 (List.mem_of_getElem? (i := 3) (by decide +kernel)), List.forall_mem_cons.mpr ⟨lw_c9 (List.mem_of_getElem? (i := 4) (by decide +kernel)), List.forall_mem_cons.mpr ⟨lw_c9 (List.mem_of_getElem? (i := 5) (by decide +kernel)), List.forall_mem_cons.mpr ⟨lw_c9 (List.mem_of_getElem? (i := 6) (by decide +kernel)), List.forall_mem_cons.mpr ⟨lw_c9 (List.mem_of_getElem? (i := 7) (by decide +kernel)), List.forall_mem_cons.mpr ⟨lw_c9 (List.mem_of_getElem? (i := 8) (by decide +kernel)), fun _ h => absurd h List.not_mem_nil⟩⟩⟩⟩⟩⟩⟩⟩⟩⟩⟩⟩⟩⟩⟩⟩⟩⟩⟩⟩⟩⟩⟩⟩⟩⟩⟩⟩⟩⟩⟩⟩⟩⟩⟩⟩⟩⟩⟩⟩⟩⟩⟩⟩⟩⟩⟩⟩⟩⟩⟩⟩⟩⟩⟩⟩⟩⟩⟩⟩⟩⟩⟩
theorem eqv2 {args : Array Value} {s : State} {t u : Term} {v : Value} (h : (Cond.eq t u).before args s = true) (ht : t.eval args s none [] s = some v) : u.eval args s none [] s = some v := by
  cases hu : u.eval args s none [] s with
  | none => simp [Cond.before, Cond.holds, Cond.value, ht, hu] at h
  | some w => exact (va_eqv h hu).symm.trans ht ▸ rfl
theorem not_eq {args : Array Value} {s : State} {t u : Term} {a b : Nat} (ht : t.eval args s none [] s = some (.ref a)) (hu : u.eval args s none [] s = some (.ref b)) (hab : a ≠ b) : (Cond.not (.eq t u)).before args s = true := by
  simp [Cond.before, Cond.holds, Cond.value, ht, hu]
  exact hab
