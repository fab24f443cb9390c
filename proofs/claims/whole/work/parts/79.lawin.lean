theorem goodIn_q {big : List Cond} (ws : List Cond) (ps : List Nat) (hp : ws = ps.filterMap (fun i => big[i]?)) : ∀ w ∈ ws, w ∈ big := by
  intro w hw
  rw [hp] at hw
  obtain ⟨i, -, hi⟩ := List.mem_filterMap.mp hw
  exact List.mem_of_getElem? hi
set_option maxRecDepth 20000 in
theorem wsL_in_r1 : ∀ w ∈ wsL_law0_r1, w ∈ lw_tbl := goodIn_q wsL_law0_r1 [86, 87, 63, 1052, 1053, 74, 1511, 88, 89, 90, 91, 92, 93, 94, 95, 64, 108, 109, 65, 117, 118, 66, 127, 128] rfl
set_option maxRecDepth 20000 in
theorem wsL_in_r2 : ∀ w ∈ wsL_law0_r2, w ∈ lw_tbl := goodIn_q wsL_law0_r2 [67, 136, 137, 68, 145, 146, 69, 331, 154, 155, 70, 332, 333, 334, 274, 336, 276, 72, 307, 337, 309, 73, 249, 338] rfl
set_option maxRecDepth 20000 in
theorem wsL_in_r3 : ∀ w ∈ wsL_law0_r3, w ∈ lw_tbl := goodIn_q wsL_law0_r3 [339, 340, 96, 97, 98, 99, 100, 102, 110, 111, 112, 113, 119, 120, 121, 122, 129, 130, 131, 132, 138, 139, 140, 141] rfl
set_option maxRecDepth 20000 in
theorem wsL_in_r4 : ∀ w ∈ wsL_law0_r4, w ∈ lw_tbl := goodIn_q wsL_law0_r4 [147, 148, 149, 150, 156, 157, 158, 159, 160, 250, 259, 261, 162, 71, 163, 164, 165, 166, 209, 211, 167, 277, 278, 279] rfl
set_option maxRecDepth 20000 in
theorem wsL_in_r5 : ∀ w ∈ wsL_law0_r5, w ∈ lw_tbl := goodIn_q wsL_law0_r5 [280, 281, 292, 283, 310, 311, 312, 313, 320, 316, 1054, 1055, 1056, 1057, 1060, 1061, 1062, 1067, 1068, 1070, 1072, 1073, 1074, 1075] rfl
set_option maxRecDepth 20000 in
theorem wsL_in_r6 : ∀ w ∈ wsL_law0_r6, w ∈ lw_tbl := goodIn_q wsL_law0_r6 [1076, 1077, 1078, 365, 366, 367, 368, 287, 289, 369, 371, 0, 372, 373, 375, 1, 376, 282, 377, 378, 379, 380, 381, 382] rfl
set_option maxRecDepth 20000 in
theorem wsL_in_r7 : ∀ w ∈ wsL_law0_r7, w ∈ lw_tbl := goodIn_q wsL_law0_r7 [383, 384, 75, 385, 291, 386, 387, 388, 389, 391, 392, 393, 395, 396, 397, 398, 253, 256, 399, 400, 401, 402, 170, 173] rfl
set_option maxRecDepth 20000 in
theorem wsL_in_r8 : ∀ w ∈ wsL_law0_r8, w ∈ lw_tbl := goodIn_q wsL_law0_r8 [177, 183, 187, 191, 197, 200, 203, 207, 215, 217, 403, 404, 405, 406, 407, 408, 255, 409, 410, 411, 412, 413, 414, 416] rfl
set_option maxRecDepth 20000 in
theorem wsL_in_r9 : ∀ w ∈ wsL_law0_r9, w ∈ lw_tbl := goodIn_q wsL_law0_r9 [417, 418, 419, 420, 421, 422, 423, 424, 425, 426, 427, 428, 429, 430, 431, 432, 433, 435, 436, 437, 438, 439, 252, 258] rfl
set_option maxRecDepth 20000 in
theorem wsL_in_r10 : ∀ w ∈ wsL_law0_r10, w ∈ lw_tbl := goodIn_q wsL_law0_r10 [440, 441, 442, 443, 444, 445, 446, 447, 449, 450, 451, 452, 453, 454, 455, 456, 457, 458, 459, 460, 461, 462, 463, 464] rfl
set_option maxRecDepth 20000 in
theorem wsL_in_r11 : ∀ w ∈ wsL_law0_r11, w ∈ lw_tbl := goodIn_q wsL_law0_r11 [465, 466, 467, 468, 469, 470, 471, 472, 473, 474, 476, 2, 477, 199, 194, 169, 478, 481, 482, 479, 495, 198, 175, 189] rfl
set_option maxRecDepth 20000 in
theorem wsL_in_r12 : ∀ w ∈ wsL_law0_r12, w ∈ lw_tbl := goodIn_q wsL_law0_r12 [193, 179, 478, 480, 483, 484, 485, 479, 486, 487, 488, 186, 489, 490, 76, 491, 496, 497, 499, 3, 500, 501, 503, 4] rfl
set_option maxRecDepth 20000 in
theorem wsL_in_r13 : ∀ w ∈ wsL_law0_r13, w ∈ lw_tbl := goodIn_q wsL_law0_r13 [504, 213, 190, 505, 506, 507, 508, 509, 510, 511, 512, 513, 514, 515, 516, 185, 517, 520, 518, 521, 522, 523, 181, 524] rfl
set_option maxRecDepth 20000 in
theorem wsL_in_r14 : ∀ w ∈ wsL_law0_r14, w ∈ lw_tbl := goodIn_q wsL_law0_r14 [525, 526, 527, 539, 517, 518, 519, 528, 529, 530, 531, 1512, 144, 532, 533, 534, 535, 171, 182, 537, 536, 135, 538, 540] rfl
set_option maxRecDepth 20000 in
theorem wsL_in_r15 : ∀ w ∈ wsL_law0_r15, w ∈ lw_tbl := goodIn_q wsL_law0_r15 [541, 542, 543, 544, 546, 5, 547, 548, 551, 552, 549, 559, 548, 550, 553, 549, 554, 555, 556, 195, 557, 558, 560, 561] rfl
set_option maxRecDepth 20000 in
theorem wsL_in_r16 : ∀ w ∈ wsL_law0_r16, w ∈ lw_tbl := goodIn_q wsL_law0_r16 [562, 563, 1125, 1126, 1127, 1128, 1065, 1066, 1129, 1130, 1131, 1132, 1133, 1134, 1135, 1137, 16, 1138, 1139, 1141, 17, 1142, 1143, 1145] rfl
set_option maxRecDepth 20000 in
theorem wsL_in_r17 : ∀ w ∈ wsL_law0_r17, w ∈ lw_tbl := goodIn_q wsL_law0_r17 [18, 1146, 1058, 1059, 1147, 1149, 19, 1150, 1151, 1153, 20, 1154, 1155, 1157, 21, 1158, 1159, 1161, 22, 1162, 1163, 1164, 1165, 1166] rfl
set_option maxRecDepth 20000 in
theorem wsL_in_r18 : ∀ w ∈ wsL_law0_r18, w ∈ lw_tbl := goodIn_q wsL_law0_r18 [1168, 23, 1169, 1170, 1172, 24, 1173, 1174, 1176, 25, 1177, 1178, 1180, 26, 1181, 1182, 1184, 27, 1185, 1186, 1188, 28, 1189, 1190] rfl
set_option maxRecDepth 20000 in
theorem wsL_in_r19 : ∀ w ∈ wsL_law0_r19, w ∈ lw_tbl := goodIn_q wsL_law0_r19 [1192, 29, 1193, 1194, 1196, 30, 1197, 1063, 1064, 1231, 1198, 1200, 31, 1201, 1202, 1204, 32, 1205, 1206, 1208, 33, 1209, 1210, 1212] rfl
set_option maxRecDepth 20000 in
theorem wsL_in_r20 : ∀ w ∈ wsL_law0_r20, w ∈ lw_tbl := goodIn_q wsL_law0_r20 [34, 1213, 1214, 1216, 35, 1217, 1230, 1218, 1220, 36, 1221, 1222, 1224, 37, 1225, 1226, 1228, 38, 1229, 1232, 1234, 39, 1235, 1236] rfl
set_option maxRecDepth 20000 in
theorem wsL_in_r21 : ∀ w ∈ wsL_law0_r21, w ∈ lw_tbl := goodIn_q wsL_law0_r21 [1238, 40, 1239, 1240, 1242, 41, 1243, 1244, 1246, 42, 1247, 564, 565, 566, 567, 251, 168, 101, 172, 174, 178, 184, 188, 192] rfl
set_option maxRecDepth 20000 in
theorem wsL_in_r22 : ∀ w ∈ wsL_law0_r22, w ∈ lw_tbl := goodIn_q wsL_law0_r22 [196, 206, 201, 204, 568, 569, 570, 570, 1248, 1249, 1250, 1251, 571, 572, 573, 574, 210, 212, 214, 216, 1252, 1253, 1254, 1255] rfl
set_option maxRecDepth 20000 in
theorem wsL_in_r23 : ∀ w ∈ wsL_law0_r23, w ∈ lw_tbl := goodIn_q wsL_law0_r23 [575, 576, 577, 578, 254, 284, 286, 579, 580, 582, 6, 583, 584, 1256, 1257, 1258, 1259, 1260, 1262, 43, 1263, 585, 586, 587] rfl
set_option maxRecDepth 20000 in
theorem wsL_in_r24 : ∀ w ∈ wsL_law0_r24, w ∈ lw_tbl := goodIn_q wsL_law0_r24 [588, 257, 589, 590, 1264, 1265, 1266, 1267, 591, 592, 593, 594, 595, 1268, 1269, 1270, 1271, 1272, 1274, 44, 1275, 596, 597, 598] rfl
set_option maxRecDepth 20000 in
theorem wsL_in_r25 : ∀ w ∈ wsL_law0_r25, w ∈ lw_tbl := goodIn_q wsL_law0_r25 [599, 600, 601, 602, 603, 604, 605, 606, 607, 608, 609, 202, 1276, 1277, 1278, 1279, 1280, 1282, 45, 1283, 610, 611, 612, 613] rfl
set_option maxRecDepth 20000 in
theorem wsL_in_r26 : ∀ w ∈ wsL_law0_r26, w ∈ lw_tbl := goodIn_q wsL_law0_r26 [614, 615, 616, 617, 1284, 1285, 1286, 1287, 1288, 1290, 46, 1291, 1292, 1294, 47, 1295, 1296, 1298, 48, 1299, 618, 619, 620, 621] rfl
set_option maxRecDepth 20000 in
theorem wsL_in_r27 : ∀ w ∈ wsL_law0_r27, w ∈ lw_tbl := goodIn_q wsL_law0_r27 [260, 262, 1300, 1301, 1302, 1303, 622, 623, 624, 625, 626, 627, 628, 629, 208, 630, 631, 632, 633, 634, 1304, 1305, 1306, 1307] rfl
set_option maxRecDepth 20000 in
theorem wsL_in_r28 : ∀ w ∈ wsL_law0_r28, w ∈ lw_tbl := goodIn_q wsL_law0_r28 [1308, 1310, 49, 1311, 635, 636, 637, 638, 639, 641, 7, 642, 643, 645, 8, 646, 647, 649, 9, 650, 1312, 1313, 1314, 1315] rfl
set_option maxRecDepth 20000 in
theorem wsL_in_r29 : ∀ w ∈ wsL_law0_r29, w ∈ lw_tbl := goodIn_q wsL_law0_r29 [1316, 1318, 50, 1319, 651, 652, 653, 654, 1320, 1321, 1322, 1323, 655, 656, 657, 658, 659, 1324, 1325, 1326, 1327, 660, 661, 662] rfl
set_option maxRecDepth 20000 in
theorem wsL_in_r30 : ∀ w ∈ wsL_law0_r30, w ∈ lw_tbl := goodIn_q wsL_law0_r30 [663, 664, 665, 666, 667, 180, 176, 1328, 1329, 1330, 1331, 1332, 1334, 51, 1335, 668, 669, 670, 671, 672, 1336, 1337, 1338, 1339] rfl
set_option maxRecDepth 20000 in
theorem wsL_in_r31 : ∀ w ∈ wsL_law0_r31, w ∈ lw_tbl := goodIn_q wsL_law0_r31 [673, 674, 675, 676, 1340, 1341, 1342, 1343, 677, 678, 679, 680, 1344, 1345, 1346, 1347, 681, 682, 683, 684, 685, 1348, 1349, 1350] rfl
set_option maxRecDepth 20000 in
theorem wsL_in_r32 : ∀ w ∈ wsL_law0_r32, w ∈ lw_tbl := goodIn_q wsL_law0_r32 [1351, 1352, 1354, 52, 1355, 686, 687, 688, 689, 690, 1356, 1357, 1358, 1359, 691, 692, 693, 694, 695, 697, 10, 698, 699, 700] rfl
set_option maxRecDepth 20000 in
theorem wsL_in_r33 : ∀ w ∈ wsL_law0_r33, w ∈ lw_tbl := goodIn_q wsL_law0_r33 [701, 702, 288, 704, 703, 1360, 1361, 1362, 1363, 1364, 1366, 53, 1367, 1368, 1370, 54, 1371, 1372, 705, 706, 707, 708, 709, 710] rfl
set_option maxRecDepth 20000 in
theorem wsL_in_r34 : ∀ w ∈ wsL_law0_r34, w ∈ lw_tbl := goodIn_q wsL_law0_r34 [712, 11, 713, 1373, 1374, 1375, 1376, 1377, 1379, 55, 1380, 714, 715, 716, 717, 718, 719, 721, 12, 722, 723, 724, 77, 725] rfl
set_option maxRecDepth 20000 in
theorem wsL_in_r35 : ∀ w ∈ wsL_law0_r35, w ∈ lw_tbl := goodIn_q wsL_law0_r35 [726, 727, 728, 729, 730, 731, 732, 733, 734, 1381, 1382, 1383, 1384, 1385, 1386, 1387, 1388, 735, 736, 737, 738, 1389, 1390, 1391] rfl
set_option maxRecDepth 20000 in
theorem wsL_in_r36 : ∀ w ∈ wsL_law0_r36, w ∈ lw_tbl := goodIn_q wsL_law0_r36 [1392, 739, 740, 741, 742, 743, 744, 745, 746, 1393, 1394, 1395, 1396, 1402, 1397, 1399, 56, 1400, 1401, 747, 748, 749, 750, 751] rfl
set_option maxRecDepth 20000 in
theorem wsL_in_r37 : ∀ w ∈ wsL_law0_r37, w ∈ lw_tbl := goodIn_q wsL_law0_r37 [752, 753, 754, 755, 1403, 1404, 1405, 1406, 1407, 1408, 1409, 756, 757, 758, 759, 1410, 1411, 1412, 1413, 760, 761, 762, 763, 1414] rfl
set_option maxRecDepth 20000 in
theorem wsL_in_r38 : ∀ w ∈ wsL_law0_r38, w ∈ lw_tbl := goodIn_q wsL_law0_r38 [1415, 1416, 1417, 764, 765, 766, 767, 341, 768, 770, 13, 771, 772, 774, 14, 775, 776, 777, 778, 779, 780, 781, 205, 1418] rfl
set_option maxRecDepth 20000 in
theorem wsL_in_r39 : ∀ w ∈ wsL_law0_r39, w ∈ lw_tbl := goodIn_q wsL_law0_r39 [1419, 1420, 1421, 1071, 1422, 1424, 57, 1425, 1426, 1428, 58, 1429, 1430, 1432, 59, 1433, 1434, 1435, 1436, 782, 783, 784, 785, 335] rfl
set_option maxRecDepth 20000 in
theorem wsL_in_r40 : ∀ w ∈ wsL_law0_r40, w ∈ lw_tbl := goodIn_q wsL_law0_r40 [1437, 1438, 1439, 1440, 1069, 786, 787, 788, 789, 1441, 1442, 1443, 1444, 790, 791, 792, 793, 794, 795, 796, 797, 798, 1445, 1446] rfl
set_option maxRecDepth 20000 in
theorem wsL_in_r41 : ∀ w ∈ wsL_law0_r41, w ∈ lw_tbl := goodIn_q wsL_law0_r41 [1447, 1448, 1449, 1451, 60, 1452, 799, 800, 801, 802, 803, 804, 805, 806, 807, 808, 809, 314, 318, 810, 811, 78, 812, 1453] rfl
set_option maxRecDepth 20000 in
theorem wsL_in_r42 : ∀ w ∈ wsL_law0_r42, w ∈ lw_tbl := goodIn_q wsL_law0_r42 [1454, 1455, 1456, 1457, 1458, 1459, 813, 814, 815, 816, 315, 321, 317, 817, 818, 819, 820, 822, 825, 826, 823, 831, 822, 824] rfl
set_option maxRecDepth 20000 in
theorem wsL_in_r43 : ∀ w ∈ wsL_law0_r43, w ∈ lw_tbl := goodIn_q wsL_law0_r43 [827, 828, 829, 830, 1460, 1461, 1462, 1463, 1464, 1465, 1466, 832, 833, 834, 835, 1467, 1468, 1469, 1470, 836, 837, 838, 839, 319] rfl
set_option maxRecDepth 20000 in
theorem wsL_in_r44 : ∀ w ∈ wsL_law0_r44, w ∈ lw_tbl := goodIn_q wsL_law0_r44 [840, 841, 842, 843, 844, 846, 845, 79, 1471, 1472, 1473, 1474, 847, 848, 849, 850, 851, 852, 853, 854, 285, 1475, 1476, 1477] rfl
set_option maxRecDepth 20000 in
theorem wsL_in_r45 : ∀ w ∈ wsL_law0_r45, w ∈ lw_tbl := goodIn_q wsL_law0_r45 [1478, 855, 856, 857, 858, 859, 860, 861, 862, 290, 863, 1479, 1480, 1481, 1482, 864, 865, 866, 867, 868, 869, 870, 871, 872] rfl
set_option maxRecDepth 20000 in
theorem wsL_in_r46 : ∀ w ∈ wsL_law0_r46, w ∈ lw_tbl := goodIn_q wsL_law0_r46 [873, 874, 875, 1483, 1484, 1485, 1486, 1024, 1025, 62, 1026, 1027, 1028, 1029, 1030, 1031, 1032, 912, 83, 911, 84, 1491, 1492, 1493] rfl
set_option maxRecDepth 20000 in
theorem wsL_in_r47 : ∀ w ∈ wsL_law0_r47, w ∈ lw_tbl := goodIn_q wsL_law0_r47 [1494, 1079, 1487, 1488, 1489, 1490, 876, 877, 878, 879, 293, 880, 1495, 1496, 1497, 1498, 881, 882, 883, 884, 885, 888, 886, 889] rfl
set_option maxRecDepth 20000 in
theorem wsL_in_r48 : ∀ w ∈ wsL_law0_r48, w ∈ lw_tbl := goodIn_q wsL_law0_r48 [890, 891, 906, 885, 886, 887, 892, 893, 894, 895, 896, 897, 898, 899, 900, 901, 1513, 902, 903, 904, 905, 1514, 153, 1499] rfl
set_option maxRecDepth 20000 in
theorem wsL_in_r49 : ∀ w ∈ wsL_law0_r49, w ∈ lw_tbl := goodIn_q wsL_law0_r49 [1500, 1501, 1502, 1503, 1505, 61, 1506, 907, 908, 909, 910, 913, 914, 917, 915, 918, 919, 920, 921, 1008, 914, 915, 916, 1009] rfl
set_option maxRecDepth 20000 in
theorem wsL_in_r50 : ∀ w ∈ wsL_law0_r50, w ∈ lw_tbl := goodIn_q wsL_law0_r50 [985, 986, 987, 988, 989, 990, 991, 992, 993, 85, 1507, 1508, 1509, 1510] rfl
set_option maxRecDepth 20000 in
theorem wsL_in_wsX110 : ∀ w ∈ wsX110, w ∈ lw_tbl := by decide +kernel
set_option maxRecDepth 20000 in
theorem wsL_in_wsX120 : ∀ w ∈ wsX120, w ∈ lw_tbl := by decide +kernel
set_option maxRecDepth 20000 in
theorem wsL_in_wsX10 : ∀ w ∈ wsX10, w ∈ lw_tbl := by decide +kernel
set_option maxRecDepth 20000 in
theorem wsL_in_wsX00 : ∀ w ∈ wsX00, w ∈ lw_tbl := by decide +kernel
set_option maxRecDepth 20000 in
theorem wsL_in_wsX40 : ∀ w ∈ wsX40, w ∈ lw_tbl := by decide +kernel
set_option maxRecDepth 20000 in
theorem wsL_in_wsX70 : ∀ w ∈ wsX70, w ∈ lw_tbl := by decide +kernel
set_option maxRecDepth 20000 in
theorem wsL_in_wsX20 : ∀ w ∈ wsX20, w ∈ lw_tbl := by decide +kernel
set_option maxRecDepth 20000 in
theorem wsL_in_wsX90 : ∀ w ∈ wsX90, w ∈ lw_tbl := by decide +kernel
set_option maxRecDepth 20000 in
theorem wsL_in_wsX30 : ∀ w ∈ wsX30, w ∈ lw_tbl := by decide +kernel
set_option maxRecDepth 20000 in
theorem wsL_in_wsX60 : ∀ w ∈ wsX60, w ∈ lw_tbl := by decide +kernel
set_option maxRecDepth 20000 in
theorem wsL_in_wsX100 : ∀ w ∈ wsX100, w ∈ lw_tbl := by decide +kernel
set_option maxRecDepth 20000 in
theorem wsL_in_wsX50 : ∀ w ∈ wsX50, w ∈ lw_tbl := by decide +kernel
theorem wsL_app {a b c : List Cond} (ha : ∀ w ∈ a, w ∈ c) (hb : ∀ w ∈ b, w ∈ c) : ∀ w ∈ a ++ b, w ∈ c := fun w h => (List.mem_append.mp h).elim (ha w) (hb w)
theorem wsL_law_in0 : ∀ w ∈ wsL_law0, w ∈ lw_tbl := (wsL_app (wsL_app (wsL_app (wsL_app (wsL_app (wsL_app (wsL_app (wsL_app (wsL_app (wsL_app (wsL_app (wsL_app (wsL_app (wsL_app wsL_in_r1 (wsL_app wsL_in_r2 (wsL_app wsL_in_r3 (wsL_app wsL_in_r4 (wsL_app wsL_in_r5 (wsL_app wsL_in_r6 (wsL_app wsL_in_r7 (wsL_app wsL_in_r8 (wsL_app wsL_in_r9 (wsL_app wsL_in_r10 (wsL_app wsL_in_r11 (wsL_app wsL_in_r12 (wsL_app wsL_in_r13 (wsL_app wsL_in_r14 (wsL_app wsL_in_r15 (wsL_app wsL_in_r16 (wsL_app wsL_in_r17 (wsL_app wsL_in_r18 (wsL_app wsL_in_r19 (wsL_app wsL_in_r20 (wsL_app wsL_in_r21 (wsL_app wsL_in_r22 (wsL_app wsL_in_r23 (wsL_app wsL_in_r24 (wsL_app wsL_in_r25 (wsL_app wsL_in_r26 (wsL_app wsL_in_r27 (wsL_app wsL_in_r28 (wsL_app wsL_in_r29 (wsL_app wsL_in_r30 (wsL_app wsL_in_r31 (wsL_app wsL_in_r32 (wsL_app wsL_in_r33 (wsL_app wsL_in_r34 (wsL_app wsL_in_r35 (wsL_app wsL_in_r36 (wsL_app wsL_in_r37 (wsL_app wsL_in_r38 (wsL_app wsL_in_r39 (wsL_app wsL_in_r40 (wsL_app wsL_in_r41 (wsL_app wsL_in_r42 (wsL_app wsL_in_r43 (wsL_app wsL_in_r44 (wsL_app wsL_in_r45 (wsL_app wsL_in_r46 (wsL_app wsL_in_r47 (wsL_app wsL_in_r48 (wsL_app wsL_in_r49 wsL_in_r50))))))))))))))))))))))))))))))))))))))))))))))))) wsL_in_wsX110) wsL_in_wsX120) wsL_in_wsX10) wsL_in_wsX00) wsL_in_wsX40) wsL_in_wsX70) wsL_in_wsX20) wsL_in_wsX90) wsL_in_wsX30) wsL_in_wsX60) wsL_in_wsX100) wsL_in_wsX50) (fun _ h => absurd h List.not_mem_nil))
theorem wsL_law_x0 : ∀ w ∈ (vx_atS RX11 377 "java/lang/IllegalArgumentException" ["java/lang/RuntimeException", "java/lang/Exception"]).filter goodWord, w ∈ lw_tbl := by decide +kernel
theorem wsL_law_x1 : ∀ w ∈ (vx_atS RX11 384 "java/lang/IllegalStateException" ["java/lang/RuntimeException", "java/lang/Exception"]).filter goodWord, w ∈ lw_tbl := by decide +kernel
theorem wsL_law_x2 : ∀ w ∈ (vx_at0 RX0 26 "java/lang/IllegalArgumentException" ["java/lang/RuntimeException", "java/lang/Exception"]).filter goodWord, w ∈ lw_tbl := by decide +kernel
theorem wsL_law_x3 : ∀ w ∈ (vx_at0 RX1 38 "java/lang/IllegalStateException" ["java/lang/RuntimeException", "java/lang/Exception"]).filter goodWord, w ∈ lw_tbl := by decide +kernel
theorem wsL_law_x4 : ∀ w ∈ (vx_at0 RX9 29 "java/lang/UnsupportedOperationException" ["java/lang/RuntimeException", "java/lang/Exception"]).filter goodWord, w ∈ lw_tbl := by decide +kernel
theorem wsL_law_in : ∀ w ∈ wsL_law, w ∈ lw_tbl := fun w h => (List.mem_append.mp h).elim (fun h => (List.mem_append.mp h).elim (fun h => (List.mem_append.mp h).elim (fun h => (List.mem_append.mp h).elim (fun h => (List.mem_append.mp h).elim (fun h => wsL_law_in0 w h) (fun h => wsL_law_x0 w h)) (fun h => wsL_law_x1 w h)) (fun h => wsL_law_x2 w h)) (fun h => wsL_law_x3 w h)) (fun h => wsL_law_x4 w h)
theorem inlX0 : ∀ w ∈ wsX00, w ∈ wsL_law := fun _ h => List.mem_append_left _ (List.mem_append_left _ (List.mem_append_left _ (List.mem_append_left _ (List.mem_append_left _ (List.mem_append_left _ (List.mem_append_left _ (List.mem_append_left _ (List.mem_append_left _ (List.mem_append_left _ (List.mem_append_left _ (List.mem_append_left _ (List.mem_append_left _ (List.mem_append_left _ (List.mem_append_right _ h))))))))))))))
theorem inlX1 : ∀ w ∈ wsX10, w ∈ wsL_law := fun _ h => List.mem_append_left _ (List.mem_append_left _ (List.mem_append_left _ (List.mem_append_left _ (List.mem_append_left _ (List.mem_append_left _ (List.mem_append_left _ (List.mem_append_left _ (List.mem_append_left _ (List.mem_append_left _ (List.mem_append_left _ (List.mem_append_left _ (List.mem_append_left _ (List.mem_append_left _ (List.mem_append_left _ (List.mem_append_right _ h)))))))))))))))
theorem inlX2 : ∀ w ∈ wsX20, w ∈ wsL_law := fun _ h => List.mem_append_left _ (List.mem_append_left _ (List.mem_append_left _ (List.mem_append_left _ (List.mem_append_left _ (List.mem_append_left _ (List.mem_append_left _ (List.mem_append_left _ (List.mem_append_left _ (List.mem_append_left _ (List.mem_append_left _ (List.mem_append_right _ h)))))))))))
theorem inlX3 : ∀ w ∈ wsX30, w ∈ wsL_law := fun _ h => List.mem_append_left _ (List.mem_append_left _ (List.mem_append_left _ (List.mem_append_left _ (List.mem_append_left _ (List.mem_append_left _ (List.mem_append_left _ (List.mem_append_left _ (List.mem_append_left _ (List.mem_append_right _ h)))))))))
theorem inlX4 : ∀ w ∈ wsX40, w ∈ wsL_law := fun _ h => List.mem_append_left _ (List.mem_append_left _ (List.mem_append_left _ (List.mem_append_left _ (List.mem_append_left _ (List.mem_append_left _ (List.mem_append_left _ (List.mem_append_left _ (List.mem_append_left _ (List.mem_append_left _ (List.mem_append_left _ (List.mem_append_left _ (List.mem_append_left _ (List.mem_append_right _ h)))))))))))))
theorem inlX5 : ∀ w ∈ wsX50, w ∈ wsL_law := fun _ h => List.mem_append_left _ (List.mem_append_left _ (List.mem_append_left _ (List.mem_append_left _ (List.mem_append_left _ (List.mem_append_left _ (List.mem_append_right _ h))))))
theorem inlX6 : ∀ w ∈ wsX60, w ∈ wsL_law := fun _ h => List.mem_append_left _ (List.mem_append_left _ (List.mem_append_left _ (List.mem_append_left _ (List.mem_append_left _ (List.mem_append_left _ (List.mem_append_left _ (List.mem_append_left _ (List.mem_append_right _ h))))))))
theorem inlX7 : ∀ w ∈ wsX70, w ∈ wsL_law := fun _ h => List.mem_append_left _ (List.mem_append_left _ (List.mem_append_left _ (List.mem_append_left _ (List.mem_append_left _ (List.mem_append_left _ (List.mem_append_left _ (List.mem_append_left _ (List.mem_append_left _ (List.mem_append_left _ (List.mem_append_left _ (List.mem_append_left _ (List.mem_append_right _ h))))))))))))
theorem inlX9 : ∀ w ∈ wsX90, w ∈ wsL_law := fun _ h => List.mem_append_left _ (List.mem_append_left _ (List.mem_append_left _ (List.mem_append_left _ (List.mem_append_left _ (List.mem_append_left _ (List.mem_append_left _ (List.mem_append_left _ (List.mem_append_left _ (List.mem_append_left _ (List.mem_append_right _ h))))))))))
theorem inlX10 : ∀ w ∈ wsX100, w ∈ wsL_law := fun _ h => List.mem_append_left _ (List.mem_append_left _ (List.mem_append_left _ (List.mem_append_left _ (List.mem_append_left _ (List.mem_append_left _ (List.mem_append_left _ (List.mem_append_right _ h)))))))
theorem inlX11 : ∀ w ∈ wsX110, w ∈ wsL_law := fun _ h => List.mem_append_left _ (List.mem_append_left _ (List.mem_append_left _ (List.mem_append_left _ (List.mem_append_left _ (List.mem_append_left _ (List.mem_append_left _ (List.mem_append_left _ (List.mem_append_left _ (List.mem_append_left _ (List.mem_append_left _ (List.mem_append_left _ (List.mem_append_left _ (List.mem_append_left _ (List.mem_append_left _ (List.mem_append_left _ (List.mem_append_left _ (List.mem_append_right _ h)))))))))))))))))
theorem inlX12 : ∀ w ∈ wsX120, w ∈ wsL_law := fun _ h => List.mem_append_left _ (List.mem_append_left _ (List.mem_append_left _ (List.mem_append_left _ (List.mem_append_left _ (List.mem_append_left _ (List.mem_append_left _ (List.mem_append_left _ (List.mem_append_left _ (List.mem_append_left _ (List.mem_append_left _ (List.mem_append_left _ (List.mem_append_left _ (List.mem_append_left _ (List.mem_append_left _ (List.mem_append_left _ (List.mem_append_right _ h))))))))))))))))
