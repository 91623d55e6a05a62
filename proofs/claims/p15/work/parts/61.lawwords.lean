/-! the law's words are among the tables, piece by piece (by their places) -/
set_option maxRecDepth 20000 in
theorem in_wsL_law0_r1 : ∀ w ∈ wsL_law0_r1, w ∈ lw_tbl := fun w h => (goodIn_r wsL_law0_r1 [111, 112, 93, 1061, 1062, 100, 1571, 113, 114, 115, 116, 117, 118, 147, 374, 376, 119, 120, 94, 377, 148, 149, 95, 378] rfl (by decide +kernel) w h).1
set_option maxRecDepth 20000 in
theorem in_wsL_law0_r2 : ∀ w ∈ wsL_law0_r2, w ∈ lw_tbl := fun w h => (goodIn_r wsL_law0_r2 [379, 344, 380, 381, 346, 99, 122, 123, 124, 125, 131, 150, 151, 152, 153, 154, 316, 156, 318, 320, 158, 96, 257, 98] rfl (by decide +kernel) w h).1
set_option maxRecDepth 20000 in
theorem in_wsL_law0_r3 : ∀ w ∈ wsL_law0_r3, w ∈ lw_tbl := fun w h => (goodIn_r wsL_law0_r3 [159, 160, 161, 162, 225, 228, 231, 163, 233, 165, 97, 167, 168, 169, 259, 260, 261, 348, 349, 350, 351, 1063, 1064, 1065] rfl (by decide +kernel) w h).1
set_option maxRecDepth 20000 in
theorem in_wsL_law0_r4 : ∀ w ∈ wsL_law0_r4, w ∈ lw_tbl := fun w h => (goodIn_r wsL_law0_r4 [1066, 1068, 1072, 1073, 1074, 1077, 1078, 1079, 1080, 1083, 1084, 1085, 1086, 1087, 402, 403, 404, 405, 375, 406, 407, 408, 409, 411] rfl (by decide +kernel) w h).1
set_option maxRecDepth 20000 in
theorem in_wsL_law0_r5 : ∀ w ∈ wsL_law0_r5, w ∈ lw_tbl := fun w h => (goodIn_r wsL_law0_r5 [0, 412, 1131, 1132, 1133, 1134, 1067, 1069, 1135, 1136, 1137, 413, 414, 415, 416, 417, 418, 419, 1138, 1139, 1140, 1141, 1142, 1143] rfl (by decide +kernel) w h).1
set_option maxRecDepth 20000 in
theorem in_wsL_law0_r6 : ∀ w ∈ wsL_law0_r6, w ∈ lw_tbl := fun w h => (goodIn_r wsL_law0_r6 [1144, 420, 421, 422, 423, 424, 425, 426, 427, 428, 429, 101, 430, 126, 127, 128, 129, 130, 431, 433, 1, 434, 435, 437] rfl (by decide +kernel) w h).1
set_option maxRecDepth 20000 in
theorem in_wsL_law0_r7 : ∀ w ∈ wsL_law0_r7, w ∈ lw_tbl := fun w h => (goodIn_r wsL_law0_r7 [438, 439, 440, 442, 2, 443, 444, 446, 3, 447, 448, 450, 4, 451, 452, 454, 5, 455, 456, 457, 458, 460, 461, 462] rfl (by decide +kernel) w h).1
set_option maxRecDepth 20000 in
theorem in_wsL_law0_r8 : ∀ w ∈ wsL_law0_r8, w ∈ lw_tbl := fun w h => (goodIn_r wsL_law0_r8 [102, 463, 1585, 464, 465, 466, 467, 468, 1584, 470, 471, 103, 472, 473, 474, 475, 476, 478, 479, 104, 480, 481, 482, 105] rfl (by decide +kernel) w h).1
set_option maxRecDepth 20000 in
theorem in_wsL_law0_r9 : ∀ w ∈ wsL_law0_r9, w ∈ lw_tbl := fun w h => (goodIn_r wsL_law0_r9 [483, 484, 485, 486, 487, 488, 489, 490, 491, 492, 493, 494, 496, 498, 500, 502, 6, 503, 508, 510, 504, 506, 7, 507] rfl (by decide +kernel) w h).1
set_option maxRecDepth 20000 in
theorem in_wsL_law0_r10 : ∀ w ∈ wsL_law0_r10, w ∈ lw_tbl := fun w h => (goodIn_r wsL_law0_r10 [1145, 1146, 1147, 1148, 1149, 1151, 36, 1152, 1070, 1071, 1075, 1076, 1153, 1155, 37, 1156, 1157, 1158, 1159, 1160, 1162, 38, 1163, 1164] rfl (by decide +kernel) w h).1
set_option maxRecDepth 20000 in
theorem in_wsL_law0_r11 : ∀ w ∈ wsL_law0_r11, w ∈ lw_tbl := fun w h => (goodIn_r wsL_law0_r11 [1166, 39, 1167, 1168, 1170, 40, 1171, 1172, 1174, 41, 1175, 1176, 1177, 1178, 1179, 1180, 1181, 1182, 1183, 1184, 1185, 1186, 1187, 1188] rfl (by decide +kernel) w h).1
set_option maxRecDepth 20000 in
theorem in_wsL_law0_r12 : ∀ w ∈ wsL_law0_r12, w ∈ lw_tbl := fun w h => (goodIn_r wsL_law0_r12 [1190, 42, 1191, 1192, 1193, 1194, 1195, 1197, 43, 1198, 514, 515, 516, 517, 382, 303, 518, 519, 520, 521, 306, 308, 300, 304] rfl (by decide +kernel) w h).1
set_option maxRecDepth 20000 in
theorem in_wsL_law0_r13 : ∀ w ∈ wsL_law0_r13, w ∈ lw_tbl := fun w h => (goodIn_r wsL_law0_r13 [302, 545, 527, 528, 522, 523, 524, 525, 526, 529, 530, 531, 532, 533, 534, 535, 536, 537, 539, 8, 540, 310, 312, 314] rfl (by decide +kernel) w h).1
set_option maxRecDepth 20000 in
theorem in_wsL_law0_r14 : ∀ w ∈ wsL_law0_r14, w ∈ lw_tbl := fun w h => (goodIn_r wsL_law0_r14 [541, 542, 543, 544, 546, 547, 548, 549, 207, 210, 213, 216, 219, 222, 550, 551, 552, 553, 554, 555, 556, 557, 170, 173] rfl (by decide +kernel) w h).1
set_option maxRecDepth 20000 in
theorem in_wsL_law0_r15 : ∀ w ∈ wsL_law0_r15, w ∈ lw_tbl := fun w h => (goodIn_r wsL_law0_r15 [176, 179, 183, 186, 189, 558, 559, 560, 561, 562, 563, 564, 565, 262, 264, 266, 268, 271, 274, 277, 280, 566, 567, 568] rfl (by decide +kernel) w h).1
set_option maxRecDepth 20000 in
theorem in_wsL_law0_r16 : ∀ w ∈ wsL_law0_r16, w ∈ lw_tbl := fun w h => (goodIn_r wsL_law0_r16 [569, 352, 353, 355, 357, 359, 1199, 1200, 1201, 1202, 1081, 1082, 1203, 1205, 44, 1206, 1211, 1207, 1209, 45, 1210, 1212, 1214, 46] rfl (by decide +kernel) w h).1
set_option maxRecDepth 20000 in
theorem in_wsL_law0_r17 : ∀ w ∈ wsL_law0_r17, w ∈ lw_tbl := fun w h => (goodIn_r wsL_law0_r17 [1215, 1216, 1217, 1218, 1219, 1220, 1221, 1222, 1223, 1224, 570, 571, 572, 573, 574, 301, 305, 307, 309, 311, 1352, 1353, 1354, 1355] rfl (by decide +kernel) w h).1
set_option maxRecDepth 20000 in
theorem in_wsL_law0_r18 : ∀ w ∈ wsL_law0_r18, w ∈ lw_tbl := fun w h => (goodIn_r wsL_law0_r18 [1356, 1229, 1231, 47, 1232, 967, 968, 92, 969, 970, 971, 972, 973, 974, 975, 109, 317, 208, 211, 214, 217, 220, 583, 585] rfl (by decide +kernel) w h).1
set_option maxRecDepth 20000 in
theorem in_wsL_law0_r19 : ∀ w ∈ wsL_law0_r19, w ∈ lw_tbl := fun w h => (goodIn_r wsL_law0_r19 [10, 586, 1040, 1041, 1042, 1043, 1044, 1045, 1046, 1047, 1048, 1049, 1050, 1051, 1357, 1358, 1359, 1360, 1316, 1318, 66, 1319, 1361, 1363] rfl (by decide +kernel) w h).1
set_option maxRecDepth 20000 in
theorem in_wsL_law0_r20 : ∀ w ∈ wsL_law0_r20, w ∈ lw_tbl := fun w h => (goodIn_r wsL_law0_r20 [70, 1364, 1365, 1367, 71, 1368, 1052, 1053, 1054, 1055, 1056, 1057, 1058, 319, 263, 265, 267, 270, 273, 275, 587, 589, 11, 590] rfl (by decide +kernel) w h).1
set_option maxRecDepth 20000 in
theorem in_wsL_law0_r21 : ∀ w ∈ wsL_law0_r21, w ∈ lw_tbl := fun w h => (goodIn_r wsL_law0_r21 [1060, 882, 883, 884, 841, 617, 618, 619, 842, 605, 606, 607, 1369, 1370, 1371, 1372, 1324, 1326, 67, 1327, 1373, 1375, 72, 1376] rfl (by decide +kernel) w h).1
set_option maxRecDepth 20000 in
theorem in_wsL_law0_r22 : ∀ w ∈ wsL_law0_r22, w ∈ lw_tbl := fun w h => (goodIn_r wsL_law0_r22 [575, 576, 577, 578, 579, 581, 9, 582, 591, 592, 593, 235, 171, 174, 177, 181, 184, 187, 191, 594, 595, 596, 597, 598] rfl (by decide +kernel) w h).1
set_option maxRecDepth 20000 in
theorem in_wsL_law0_r23 : ∀ w ∈ wsL_law0_r23, w ∈ lw_tbl := fun w h => (goodIn_r wsL_law0_r23 [599, 600, 601, 603, 602, 604, 1377, 1378, 1379, 1380, 1340, 1342, 69, 1343, 1381, 1383, 73, 1384, 1283, 1285, 59, 1286, 1248, 1249] rfl (by decide +kernel) w h).1
set_option maxRecDepth 20000 in
theorem in_wsL_law0_r24 : ∀ w ∈ wsL_law0_r24, w ∈ lw_tbl := fun w h => (goodIn_r wsL_law0_r24 [1250, 1279, 1281, 58, 1282, 608, 609, 610, 611, 612, 614, 12, 615, 616, 1385, 1386, 1387, 1388, 1389, 1391, 74, 1392, 1245, 1246] rfl (by decide +kernel) w h).1
set_option maxRecDepth 20000 in
theorem in_wsL_law0_r25 : ∀ w ∈ wsL_law0_r25, w ∈ lw_tbl := fun w h => (goodIn_r wsL_law0_r25 [1247, 620, 621, 622, 623, 227, 230, 624, 625, 626, 627, 1393, 1394, 1395, 1396, 628, 629, 630, 631, 632, 634, 13, 635, 636] rfl (by decide +kernel) w h).1
set_option maxRecDepth 20000 in
theorem in_wsL_law0_r26 : ∀ w ∈ wsL_law0_r26, w ∈ lw_tbl := fun w h => (goodIn_r wsL_law0_r26 [638, 14, 639, 279, 282, 640, 641, 642, 643, 644, 646, 15, 647, 226, 229, 234, 232, 648, 649, 650, 651, 653, 654, 655] rfl (by decide +kernel) w h).1
set_option maxRecDepth 20000 in
theorem in_wsL_law0_r27 : ∀ w ∈ wsL_law0_r27, w ∈ lw_tbl := fun w h => (goodIn_r wsL_law0_r27 [657, 16, 658, 218, 209, 175, 659, 660, 662, 17, 663, 278, 269, 272, 664, 665, 666, 667, 668, 670, 18, 671, 281, 276] rfl (by decide +kernel) w h).1
set_option maxRecDepth 20000 in
theorem in_wsL_law0_r28 : ∀ w ∈ wsL_law0_r28, w ∈ lw_tbl := fun w h => (goodIn_r wsL_law0_r28 [672, 673, 674, 675, 676, 678, 19, 679, 188, 215, 680, 682, 20, 683, 223, 221, 172, 190, 684, 686, 21, 687, 182, 688] rfl (by decide +kernel) w h).1
set_option maxRecDepth 20000 in
theorem in_wsL_law0_r29 : ∀ w ∈ wsL_law0_r29, w ∈ lw_tbl := fun w h => (goodIn_r wsL_law0_r29 [689, 691, 22, 692, 185, 693, 694, 695, 696, 697, 698, 699, 700, 701, 703, 23, 704, 709, 705, 706, 707, 708, 212, 710] rfl (by decide +kernel) w h).1
set_option maxRecDepth 20000 in
theorem in_wsL_law0_r30 : ∀ w ∈ wsL_law0_r30, w ∈ lw_tbl := fun w h => (goodIn_r wsL_law0_r30 [711, 712, 713, 180, 715, 714, 716, 717, 718, 719, 720, 721, 722, 723, 728, 724, 725, 726, 727, 1225, 1226, 1227, 1228, 1233] rfl (by decide +kernel) w h).1
set_option maxRecDepth 20000 in
theorem in_wsL_law0_r31 : ∀ w ∈ wsL_law0_r31, w ∈ lw_tbl := fun w h => (goodIn_r wsL_law0_r31 [1235, 48, 1236, 1237, 1239, 49, 1240, 1241, 1243, 50, 1244, 1251, 1253, 51, 1254, 1255, 1257, 52, 1258, 1259, 1261, 53, 1262, 1263] rfl (by decide +kernel) w h).1
set_option maxRecDepth 20000 in
theorem in_wsL_law0_r32 : ∀ w ∈ wsL_law0_r32, w ∈ lw_tbl := fun w h => (goodIn_r wsL_law0_r32 [1265, 54, 1266, 1267, 1269, 55, 1270, 1271, 1273, 56, 1274, 1275, 1277, 57, 1278, 1287, 1289, 60, 1290, 1291, 1293, 61, 1294, 1295] rfl (by decide +kernel) w h).1
set_option maxRecDepth 20000 in
theorem in_wsL_law0_r33 : ∀ w ∈ wsL_law0_r33, w ∈ lw_tbl := fun w h => (goodIn_r wsL_law0_r33 [1297, 62, 1298, 1299, 1301, 63, 1302, 1307, 1303, 1305, 64, 1306, 1308, 1310, 65, 1311, 729, 730, 731, 732, 1312, 1313, 1314, 1315] rfl (by decide +kernel) w h).1
set_option maxRecDepth 20000 in
theorem in_wsL_law0_r34 : ∀ w ∈ wsL_law0_r34, w ∈ lw_tbl := fun w h => (goodIn_r wsL_law0_r34 [733, 734, 735, 736, 1320, 1321, 1322, 1323, 737, 738, 739, 740, 1328, 1329, 1330, 1331, 741, 742, 743, 744, 745, 747, 24, 748] rfl (by decide +kernel) w h).1
set_option maxRecDepth 20000 in
theorem in_wsL_law0_r35 : ∀ w ∈ wsL_law0_r35, w ∈ lw_tbl := fun w h => (goodIn_r wsL_law0_r35 [749, 751, 25, 752, 754, 753, 1332, 1333, 1334, 1335, 1336, 1338, 68, 1339, 755, 756, 757, 758, 759, 1344, 1345, 1346, 1347, 760] rfl (by decide +kernel) w h).1
set_option maxRecDepth 20000 in
theorem in_wsL_law0_r36 : ∀ w ∈ wsL_law0_r36, w ∈ lw_tbl := fun w h => (goodIn_r wsL_law0_r36 [761, 762, 763, 1348, 1349, 1350, 1351, 764, 765, 766, 767, 768, 770, 26, 771, 772, 773, 774, 775, 791, 782, 781, 110, 776] rfl (by decide +kernel) w h).1
set_option maxRecDepth 20000 in
theorem in_wsL_law0_r37 : ∀ w ∈ wsL_law0_r37, w ∈ lw_tbl := fun w h => (goodIn_r wsL_law0_r37 [777, 778, 779, 780, 783, 784, 785, 786, 787, 788, 789, 790, 792, 793, 794, 795, 796, 1397, 1398, 1399, 1400, 1401, 1402, 1403] rfl (by decide +kernel) w h).1
set_option maxRecDepth 20000 in
theorem in_wsL_law0_r38 : ∀ w ∈ wsL_law0_r38, w ∈ lw_tbl := fun w h => (goodIn_r wsL_law0_r38 [1404, 1406, 75, 1407, 1408, 1410, 76, 1411, 1412, 1414, 77, 1415, 797, 798, 799, 800, 1416, 1417, 1418, 1419, 801, 802, 803, 804] rfl (by decide +kernel) w h).1
set_option maxRecDepth 20000 in
theorem in_wsL_law0_r39 : ∀ w ∈ wsL_law0_r39, w ∈ lw_tbl := fun w h => (goodIn_r wsL_law0_r39 [805, 807, 27, 808, 809, 810, 811, 812, 813, 815, 28, 816, 1420, 1421, 1422, 1423, 1424, 1426, 78, 1427, 1428, 1430, 79, 1431] rfl (by decide +kernel) w h).1
set_option maxRecDepth 20000 in
theorem in_wsL_law0_r40 : ∀ w ∈ wsL_law0_r40, w ∈ lw_tbl := fun w h => (goodIn_r wsL_law0_r40 [817, 818, 819, 820, 224, 1432, 1433, 1434, 1435, 821, 822, 823, 824, 825, 827, 29, 828, 829, 831, 30, 832, 1436, 1437, 1438] rfl (by decide +kernel) w h).1
set_option maxRecDepth 20000 in
theorem in_wsL_law0_r41 : ∀ w ∈ wsL_law0_r41, w ∈ lw_tbl := fun w h => (goodIn_r wsL_law0_r41 [1439, 1440, 1442, 80, 1443, 1444, 1446, 81, 1447, 833, 834, 835, 836, 837, 838, 839, 840, 1452, 1453, 1454, 1455, 1456, 1458, 82] rfl (by decide +kernel) w h).1
set_option maxRecDepth 20000 in
theorem in_wsL_law0_r42 : ∀ w ∈ wsL_law0_r42, w ∈ lw_tbl := fun w h => (goodIn_r wsL_law0_r42 [1459, 843, 844, 845, 846, 847, 848, 849, 850, 178, 851, 852, 853, 854, 1460, 1461, 1462, 1463, 1464, 1466, 83, 1467, 1468, 1470] rfl (by decide +kernel) w h).1
set_option maxRecDepth 20000 in
theorem in_wsL_law0_r43 : ∀ w ∈ wsL_law0_r43, w ∈ lw_tbl := fun w h => (goodIn_r wsL_law0_r43 [84, 1471, 855, 856, 857, 858, 859, 861, 31, 862, 1472, 1473, 1474, 1475, 1476, 1478, 85, 1479, 1480, 1482, 86, 1483, 863, 864] rfl (by decide +kernel) w h).1
set_option maxRecDepth 20000 in
theorem in_wsL_law0_r44 : ∀ w ∈ wsL_law0_r44, w ∈ lw_tbl := fun w h => (goodIn_r wsL_law0_r44 [865, 866, 867, 1488, 1489, 1490, 1491, 922, 923, 924, 925, 926, 927, 928, 929, 931, 34, 932, 933, 934, 935, 936, 1528, 1529] rfl (by decide +kernel) w h).1
set_option maxRecDepth 20000 in
theorem in_wsL_law0_r45 : ∀ w ∈ wsL_law0_r45, w ∈ lw_tbl := fun w h => (goodIn_r wsL_law0_r45 [1530, 1531, 1532, 1533, 1534, 1535, 1537, 90, 1538, 937, 938, 939, 940, 1539, 1540, 1541, 1542, 941, 942, 943, 944, 1543, 1544, 1545] rfl (by decide +kernel) w h).1
set_option maxRecDepth 20000 in
theorem in_wsL_law0_r46 : ∀ w ∈ wsL_law0_r46, w ∈ lw_tbl := fun w h => (goodIn_r wsL_law0_r46 [1546, 945, 946, 947, 948, 949, 1547, 1548, 1549, 1550, 950, 951, 952, 953, 1551, 1552, 1553, 1554, 1555, 1557, 91, 1558, 954, 955] rfl (by decide +kernel) w h).1
set_option maxRecDepth 20000 in
theorem in_wsL_law0_r47 : ∀ w ∈ wsL_law0_r47, w ∈ lw_tbl := fun w h => (goodIn_r wsL_law0_r47 [956, 957, 356, 358, 360, 1559, 1560, 1561, 1562, 958, 959, 960, 961, 354, 962, 1563, 1564, 1565, 1566, 868, 869, 870, 871, 872] rfl (by decide +kernel) w h).1
set_option maxRecDepth 20000 in
theorem in_wsL_law0_r48 : ∀ w ∈ wsL_law0_r48, w ∈ lw_tbl := fun w h => (goodIn_r wsL_law0_r48 [1492, 1493, 1494, 1495, 873, 874, 875, 876, 877, 878, 879, 880, 881, 885, 886, 887, 888, 1496, 1497, 1498, 1499, 1500, 1502, 87] rfl (by decide +kernel) w h).1
set_option maxRecDepth 20000 in
theorem in_wsL_law0_r49 : ∀ w ∈ wsL_law0_r49, w ∈ lw_tbl := fun w h => (goodIn_r wsL_law0_r49 [1503, 889, 890, 891, 892, 893, 895, 32, 896, 1504, 1505, 1506, 1507, 1508, 1510, 88, 1511, 897, 898, 899, 900, 1512, 1513, 1514] rfl (by decide +kernel) w h).1
set_option maxRecDepth 20000 in
theorem in_wsL_law0_r50 : ∀ w ∈ wsL_law0_r50, w ∈ lw_tbl := fun w h => (goodIn_r wsL_law0_r50 [1515, 901, 902, 903, 904, 1484, 1485, 1486, 1487, 905, 906, 907, 908, 909, 911, 33, 912, 913, 1516, 1517, 1518, 1519, 1520, 1522] rfl (by decide +kernel) w h).1
set_option maxRecDepth 20000 in
theorem in_wsL_law0_r51 : ∀ w ∈ wsL_law0_r51, w ∈ lw_tbl := fun w h => (goodIn_r wsL_law0_r51 [89, 1523, 914, 915, 916, 917, 1524, 1525, 1526, 1527, 918, 919, 920, 921, 1448, 1449, 1450, 1451, 963, 964, 965, 966, 313, 315] rfl (by decide +kernel) w h).1
set_option maxRecDepth 20000 in
theorem in_wsL_law0_r52 : ∀ w ∈ wsL_law0_r52, w ∈ lw_tbl := fun w h => (goodIn_r wsL_law0_r52 [1567, 1568, 1569, 1570] rfl (by decide +kernel) w h).1
set_option maxRecDepth 20000 in
theorem inX6 : ∀ w ∈ wsX60, w ∈ lw_tbl := fun w h => (goodIn_r wsX60 [383, 385, 387, 389, 391, 393, 395, 397, 399] (by decide +kernel) (by decide +kernel) w h).1
set_option maxRecDepth 20000 in
theorem inX7 : ∀ w ∈ wsX70, w ∈ lw_tbl := fun w h => (goodIn_r wsX70 [1088, 1090, 1092, 1094, 1096, 1098, 1100, 1102, 1104, 1106, 1108, 1110, 1112, 1114, 1116, 1118, 1120, 1122, 1124, 1126, 1128] (by decide +kernel) (by decide +kernel) w h).1
set_option maxRecDepth 20000 in
theorem inX4 : ∀ w ∈ wsX40, w ∈ lw_tbl := fun w h => (goodIn_r wsX40 [132, 134, 136, 138, 140, 142, 144] (by decide +kernel) (by decide +kernel) w h).1
set_option maxRecDepth 20000 in
theorem inX3 : ∀ w ∈ wsX30, w ∈ lw_tbl := fun w h => (goodIn_r wsX30 [321, 323, 325, 327, 329, 331, 333, 335, 337, 339, 341] (by decide +kernel) (by decide +kernel) w h).1
set_option maxRecDepth 20000 in
theorem inX5 : ∀ w ∈ wsX50, w ∈ lw_tbl := fun w h => (goodIn_r wsX50 [361, 363, 365, 367, 369, 371] (by decide +kernel) (by decide +kernel) w h).1
set_option maxRecDepth 20000 in
theorem inX2 : ∀ w ∈ wsX20, w ∈ lw_tbl := fun w h => (goodIn_r wsX20 [236, 238, 240, 242, 244, 246, 248, 250, 252, 254] (by decide +kernel) (by decide +kernel) w h).1
set_option maxRecDepth 20000 in
theorem inX0 : ∀ w ∈ wsX00, w ∈ lw_tbl := fun w h => (goodIn_r wsX00 [283, 285, 287, 289, 291, 293, 295, 297] (by decide +kernel) (by decide +kernel) w h).1
set_option maxRecDepth 20000 in
theorem inX1 : ∀ w ∈ wsX10, w ∈ lw_tbl := fun w h => (goodIn_r wsX10 [192, 194, 196, 198, 200, 202, 204] (by decide +kernel) (by decide +kernel) w h).1
set_option maxRecDepth 20000 in
theorem in_atS : ∀ w ∈ oxG, w ∈ lw_tbl := by decide +kernel
theorem in_ap {a b c : List Cond} (h1 : ∀ w ∈ a, w ∈ c) (h2 : ∀ w ∈ b, w ∈ c) : ∀ w ∈ a ++ b, w ∈ c := fun w h => (List.mem_append.mp h).elim (h1 w) (h2 w)
set_option maxRecDepth 20000 in
theorem wsL_law_in0 : ∀ w ∈ wsL_law0, w ∈ lw_tbl := (in_ap (in_ap (in_ap (in_ap (in_ap (in_ap (in_ap (in_ap (in_ap (in_ap in_wsL_law0_r1 (in_ap in_wsL_law0_r2 (in_ap in_wsL_law0_r3 (in_ap in_wsL_law0_r4 (in_ap in_wsL_law0_r5 (in_ap in_wsL_law0_r6 (in_ap in_wsL_law0_r7 (in_ap in_wsL_law0_r8 (in_ap in_wsL_law0_r9 (in_ap in_wsL_law0_r10 (in_ap in_wsL_law0_r11 (in_ap in_wsL_law0_r12 (in_ap in_wsL_law0_r13 (in_ap in_wsL_law0_r14 (in_ap in_wsL_law0_r15 (in_ap in_wsL_law0_r16 (in_ap in_wsL_law0_r17 (in_ap in_wsL_law0_r18 (in_ap in_wsL_law0_r19 (in_ap in_wsL_law0_r20 (in_ap in_wsL_law0_r21 (in_ap in_wsL_law0_r22 (in_ap in_wsL_law0_r23 (in_ap in_wsL_law0_r24 (in_ap in_wsL_law0_r25 (in_ap in_wsL_law0_r26 (in_ap in_wsL_law0_r27 (in_ap in_wsL_law0_r28 (in_ap in_wsL_law0_r29 (in_ap in_wsL_law0_r30 (in_ap in_wsL_law0_r31 (in_ap in_wsL_law0_r32 (in_ap in_wsL_law0_r33 (in_ap in_wsL_law0_r34 (in_ap in_wsL_law0_r35 (in_ap in_wsL_law0_r36 (in_ap in_wsL_law0_r37 (in_ap in_wsL_law0_r38 (in_ap in_wsL_law0_r39 (in_ap in_wsL_law0_r40 (in_ap in_wsL_law0_r41 (in_ap in_wsL_law0_r42 (in_ap in_wsL_law0_r43 (in_ap in_wsL_law0_r44 (in_ap in_wsL_law0_r45 (in_ap in_wsL_law0_r46 (in_ap in_wsL_law0_r47 (in_ap in_wsL_law0_r48 (in_ap in_wsL_law0_r49 (in_ap in_wsL_law0_r50 (in_ap in_wsL_law0_r51 in_wsL_law0_r52))))))))))))))))))))))))))))))))))))))))))))))))))) inX6) inX7) inX4) inX3) inX5) inX2) inX0) inX1) (fun _ h => nomatch h))
theorem wsL_law_in : ∀ w ∈ wsL_law, w ∈ lw_tbl := in_ap wsL_law_in0 in_atS
