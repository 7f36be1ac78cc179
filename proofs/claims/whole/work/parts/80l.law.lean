/-! names of the law, part l. Packed by wip/gen/lawparts.py -/
theorem dL_law_1334 : decode cL_law 1334 = .ok (.iconst 0, 1) := by decide +kernel
theorem dL_law_1335 : decode cL_law 1335 = .ok (.ireturn, 1) := by decide +kernel
theorem dL_law_1336 : decode cL_law 1336 = .ok (.iload 5, 2) := by decide +kernel
theorem dL_law_1338 : decode cL_law 1338 = .ok (.ifCond .ne 15, 3) := by decide +kernel
theorem dL_law_1341 : decode cL_law 1341 = .ok (.aload_n 3, 1) := by decide +kernel
theorem dL_law_1342 : decode cL_law 1342 = .ok (.iconst 0, 1) := by decide +kernel
theorem dL_law_1343 : decode cL_law 1343 = .ok (.laload, 1) := by decide +kernel
theorem dL_law_1344 : decode cL_law 1344 = .ok (.iload 6, 2) := by decide +kernel
theorem dL_law_1346 : decode cL_law 1346 = .ok (.i2l, 1) := by decide +kernel
theorem dL_law_1347 : decode cL_law 1347 = .ok (.lcmp, 1) := by decide +kernel
theorem dL_law_1348 : decode cL_law 1348 = .ok (.ifCond .eq 5, 3) := by decide +kernel
theorem dL_law_1351 : decode cL_law 1351 = .ok (.iconst 0, 1) := by decide +kernel
theorem dL_law_1352 : decode cL_law 1352 = .ok (.ireturn, 1) := by decide +kernel
theorem dL_law_1353 : decode cL_law 1353 = .ok (.goto 86, 3) := by decide +kernel
theorem dL_law_1356 : decode cL_law 1356 = .ok (.aload_n 1, 1) := by decide +kernel
theorem dL_law_1357 : decode cL_law 1357 = .ok (.aload_n 0, 1) := by decide +kernel
theorem dL_law_1358 : decode cL_law 1358 = .ok (.iload 4, 2) := by decide +kernel


theorem dL_law_1360 : decode cL_law 1360 = .ok (.iconst 1, 1) := by decide +kernel
theorem dL_law_1361 : decode cL_law 1361 = .ok (.iadd, 1) := by decide +kernel
theorem dL_law_1362 : decode cL_law 1362 = .ok (.iaload, 1) := by decide +kernel
theorem dL_law_1363 : decode cL_law 1363 = .ok (.aload_n 3, 1) := by decide +kernel
theorem dL_law_1364 : decode cL_law 1364 = .ok (.invokestatic 159, 3) := by decide +kernel
theorem dL_law_1367 : decode cL_law 1367 = .ok (.istore 5, 2) := by decide +kernel
theorem dL_law_1369 : decode cL_law 1369 = .ok (.aload_n 2, 1) := by decide +kernel
theorem dL_law_1370 : decode cL_law 1370 = .ok (.aload_n 0, 1) := by decide +kernel
theorem dL_law_1371 : decode cL_law 1371 = .ok (.iload 4, 2) := by decide +kernel
theorem dL_law_1373 : decode cL_law 1373 = .ok (.iconst 1, 1) := by decide +kernel
theorem dL_law_1374 : decode cL_law 1374 = .ok (.iadd, 1) := by decide +kernel
theorem dL_law_1375 : decode cL_law 1375 = .ok (.iaload, 1) := by decide +kernel
theorem dL_law_1376 : decode cL_law 1376 = .ok (.invokevirtual 161, 3) := by decide +kernel
theorem dL_law_1379 : decode cL_law 1379 = .ok (.istore 6, 2) := by decide +kernel
theorem dL_law_1381 : decode cL_law 1381 = .ok (.aload_n 2, 1) := by decide +kernel
theorem dL_law_1382 : decode cL_law 1382 = .ok (.invokevirtual 94, 3) := by decide +kernel
theorem dL_law_1385 : decode cL_law 1385 = .ok (.iload 5, 2) := by decide +kernel
theorem dL_law_1387 : decode cL_law 1387 = .ok (.if_icmp .eq 5, 3) := by decide +kernel
theorem dL_law_1390 : decode cL_law 1390 = .ok (.iconst 0, 1) := by decide +kernel
theorem dL_law_1391 : decode cL_law 1391 = .ok (.ireturn, 1) := by decide +kernel
theorem dL_law_1392 : decode cL_law 1392 = .ok (.iload 5, 2) := by decide +kernel
theorem dL_law_1394 : decode cL_law 1394 = .ok (.ifCond .ne 15, 3) := by decide +kernel
theorem dL_law_1397 : decode cL_law 1397 = .ok (.aload_n 3, 1) := by decide +kernel
theorem dL_law_1398 : decode cL_law 1398 = .ok (.iconst 0, 1) := by decide +kernel
theorem dL_law_1399 : decode cL_law 1399 = .ok (.laload, 1) := by decide +kernel
theorem dL_law_1400 : decode cL_law 1400 = .ok (.iload 6, 2) := by decide +kernel
theorem dL_law_1402 : decode cL_law 1402 = .ok (.i2l, 1) := by decide +kernel
theorem dL_law_1403 : decode cL_law 1403 = .ok (.lcmp, 1) := by decide +kernel
theorem dL_law_1404 : decode cL_law 1404 = .ok (.ifCond .eq 5, 3) := by decide +kernel
theorem dL_law_1407 : decode cL_law 1407 = .ok (.iconst 0, 1) := by decide +kernel
theorem dL_law_1408 : decode cL_law 1408 = .ok (.ireturn, 1) := by decide +kernel
theorem dL_law_1409 : decode cL_law 1409 = .ok (.goto 30, 3) := by decide +kernel
theorem dL_law_1412 : decode cL_law 1412 = .ok (.aload_n 1, 1) := by decide +kernel
theorem dL_law_1413 : decode cL_law 1413 = .ok (.invokevirtual 162, 3) := by decide +kernel
theorem dL_law_1416 : decode cL_law 1416 = .ok (.aload_n 2, 1) := by decide +kernel
theorem dL_law_1417 : decode cL_law 1417 = .ok (.invokevirtual 165, 3) := by decide +kernel
theorem dL_law_1420 : decode cL_law 1420 = .ok (.if_icmp .eq 19, 3) := by decide +kernel
theorem dL_law_1423 : decode cL_law 1423 = .ok (.iconst 0, 1) := by decide +kernel
theorem dL_law_1424 : decode cL_law 1424 = .ok (.ireturn, 1) := by decide +kernel
theorem dL_law_1425 : decode cL_law 1425 = .ok (.aload_n 1, 1) := by decide +kernel
theorem dL_law_1426 : decode cL_law 1426 = .ok (.invokevirtual 166, 3) := by decide +kernel
theorem dL_law_1429 : decode cL_law 1429 = .ok (.aload_n 2, 1) := by decide +kernel
theorem dL_law_1430 : decode cL_law 1430 = .ok (.invokevirtual 170, 3) := by decide +kernel
theorem dL_law_1433 : decode cL_law 1433 = .ok (.lcmp, 1) := by decide +kernel
theorem dL_law_1434 : decode cL_law 1434 = .ok (.ifCond .eq 5, 3) := by decide +kernel
theorem dL_law_1437 : decode cL_law 1437 = .ok (.iconst 0, 1) := by decide +kernel
theorem dL_law_1438 : decode cL_law 1438 = .ok (.ireturn, 1) := by decide +kernel
theorem dL_law_1439 : decode cL_law 1439 = .ok (.iinc 4 5, 3) := by decide +kernel
theorem dL_law_1442 : decode cL_law 1442 = .ok (.goto (-1419), 3) := by decide +kernel
theorem dL_law_1445 : decode cL_law 1445 = .ok (.iconst 1, 1) := by decide +kernel
theorem dL_law_1446 : decode cL_law 1446 = .ok (.ireturn, 1) := by decide +kernel

theorem mem_pos {big ws : List Cond} (ps : List Nat) (hp : ws = ps.filterMap (fun i => big[i]?)) : ∀ w ∈ ws, w ∈ big := by
  intro w hw
  rw [hp] at hw
  obtain ⟨i, -, hi⟩ := List.mem_filterMap.mp hw
  exact List.mem_of_getElem? hi
set_option maxRecDepth 100000 in
theorem inL_r1 : ∀ w ∈ wsL_law0_r1, w ∈ lw_tbl := mem_pos [98, 99, 68, 1212, 1213, 78, 1613, 100, 101, 102, 103, 104, 105, 106, 107, 71, 339, 132, 133, 72, 340, 341, 212, 213] (by decide +kernel)
set_option maxRecDepth 100000 in
theorem inL_r2 : ∀ w ∈ wsL_law0_r2, w ∈ lw_tbl := mem_pos [74, 214, 215, 75, 342, 343, 344, 345, 346, 108, 109, 110, 118, 120, 111, 112, 70, 113, 122, 114, 115, 69, 116, 117] (by decide +kernel)
set_option maxRecDepth 100000 in
theorem inL_r3 : ∀ w ∈ wsL_law0_r3, w ∈ lw_tbl := mem_pos [134, 135, 136, 137, 138, 169, 160, 170, 171, 140, 172, 173, 174, 142, 175, 144, 73, 176, 177, 178, 180, 181, 183, 139] (by decide +kernel)
set_option maxRecDepth 100000 in
theorem inL_r4 : ∀ w ∈ wsL_law0_r4, w ∈ lw_tbl := mem_pos [146, 147, 148, 149, 150, 151, 161, 163, 0, 164, 165, 166, 167, 168, 123, 124, 121, 216, 217, 218, 219, 220, 223, 225] (by decide +kernel)
set_option maxRecDepth 100000 in
theorem inL_r5 : ∀ w ∈ wsL_law0_r5, w ∈ lw_tbl := mem_pos [226, 236, 237, 238, 239, 274, 277, 279, 282, 285, 288, 291, 240, 241, 76, 297, 300, 257, 258, 77, 303, 306, 309, 294] (by decide +kernel)
set_option maxRecDepth 100000 in
theorem inL_r6 : ∀ w ∈ wsL_law0_r6, w ∈ lw_tbl := mem_pos [243, 244, 245, 246, 248, 260, 261, 262, 263, 264, 266, 1214, 1215, 1216, 1217, 1220, 1223, 1224, 1226, 1228, 1231, 1232, 1233, 1234] (by decide +kernel)
set_option maxRecDepth 100000 in
theorem inL_r7 : ∀ w ∈ wsL_law0_r7, w ∈ lw_tbl := mem_pos [1235, 1236, 1237, 1238, 1239, 1240, 1241, 1242, 1243, 1244, 1245, 1246, 1247, 1248, 1249, 1250, 1254, 1366, 1255, 1256, 1257, 1258, 1259, 1260] (by decide +kernel)
set_option maxRecDepth 100000 in
theorem inL_r8 : ∀ w ∈ wsL_law0_r8, w ∈ lw_tbl := mem_pos [1261, 1262, 1264, 1265, 449, 450, 67, 451, 452, 453, 454, 455, 456, 457, 458, 82, 526, 83, 1371, 1372, 1373, 1374, 1218, 1375] (by decide +kernel)
set_option maxRecDepth 100000 in
theorem inL_r9 : ∀ w ∈ wsL_law0_r9, w ∈ lw_tbl := mem_pos [1376, 1377, 1378, 1380, 32, 1381, 1266, 1367, 1368, 1369, 1370, 542, 543, 544, 545, 546, 547, 548, 1382, 1383, 1384, 1385, 1219, 550] (by decide +kernel)
set_option maxRecDepth 100000 in
theorem inL_r10 : ∀ w ∈ wsL_law0_r10, w ∈ lw_tbl := mem_pos [551, 552, 553, 554, 555, 556, 557, 295, 558, 560, 3, 561, 563, 84, 212, 562, 373, 374, 375, 579, 377, 378, 379, 380] (by decide +kernel)
set_option maxRecDepth 100000 in
theorem inL_r11 : ∀ w ∈ wsL_law0_r11, w ∈ lw_tbl := mem_pos [381, 85, 382, 383, 384, 86, 385, 386, 387, 388, 389, 581, 582, 583, 1386, 1387, 1388, 1389, 1221, 1222, 1390, 1391, 1392, 1393] (by decide +kernel)
set_option maxRecDepth 100000 in
theorem inL_r12 : ∀ w ∈ wsL_law0_r12, w ∈ lw_tbl := mem_pos [1395, 33, 1396, 1229, 586, 587, 588, 589, 590, 591, 592, 301, 298, 251, 594, 595, 596, 597, 1397, 1398, 1399, 1400, 1227, 1225] (by decide +kernel)
set_option maxRecDepth 100000 in
theorem inL_r13 : ∀ w ∈ wsL_law0_r13, w ∈ lw_tbl := mem_pos [599, 600, 601, 602, 603, 604, 605, 289, 292, 606, 608, 4, 609, 610, 612, 5, 613, 615, 616, 617, 621, 623, 6, 624] (by decide +kernel)
set_option maxRecDepth 100000 in
theorem inL_r14 : ∀ w ∈ wsL_law0_r14, w ∈ lw_tbl := mem_pos [629, 630, 631, 632, 634, 7, 635, 276, 278, 281, 284, 287, 636, 637, 638, 639, 640, 642, 8, 643, 644, 646, 9, 647] (by decide +kernel)
set_option maxRecDepth 100000 in
theorem inL_r15 : ∀ w ∈ wsL_law0_r15, w ∈ lw_tbl := mem_pos [648, 650, 10, 651, 695, 656, 88, 657, 696, 652, 653, 87, 654, 655, 658, 659, 660, 661, 662, 663, 89, 664, 665, 1639] (by decide +kernel)
set_option maxRecDepth 100000 in
theorem inL_r16 : ∀ w ∈ wsL_law0_r16, w ∈ lw_tbl := mem_pos [666, 682, 683, 684, 685, 686, 688, 689, 690, 691, 692, 694, 693, 90, 697, 698, 699, 700, 390, 275, 372, 376, 701, 703] (by decide +kernel)
set_option maxRecDepth 100000 in
theorem inL_r17 : ∀ w ∈ wsL_law0_r17, w ∈ lw_tbl := mem_pos [11, 704, 280, 296, 221, 224, 304, 265, 705, 706, 707, 708, 709, 710, 711, 712, 407, 408, 409, 410, 713, 715, 12, 716] (by decide +kernel)
set_option maxRecDepth 100000 in
theorem inL_r18 : ∀ w ∈ wsL_law0_r18, w ∈ lw_tbl := mem_pos [307, 310, 717, 718, 719, 720, 721, 722, 723, 724, 725, 726, 727, 728, 729, 730, 732, 13, 733, 734, 735, 736, 737, 979] (by decide +kernel)
set_option maxRecDepth 100000 in
theorem inL_r19 : ∀ w ∈ wsL_law0_r19, w ∈ lw_tbl := mem_pos [738, 740, 14, 741, 980, 982, 16, 983, 283, 286, 984, 986, 17, 987, 290, 293, 988, 990, 18, 991, 424, 425, 426, 427] (by decide +kernel)
set_option maxRecDepth 100000 in
theorem inL_r20 : ∀ w ∈ wsL_law0_r20, w ∈ lw_tbl := mem_pos [428, 429, 430, 431, 992, 994, 19, 995, 299, 996, 998, 20, 999, 302, 1000, 1001, 1002, 1003, 1004, 1006, 21, 1007, 250, 1008] (by decide +kernel)
set_option maxRecDepth 100000 in
theorem inL_r21 : ∀ w ∈ wsL_law0_r21, w ∈ lw_tbl := mem_pos [247, 1009, 1010, 1011, 1012, 1013, 1015, 22, 1016, 1017, 1019, 23, 1020, 1021, 1022, 1023, 1024, 1025, 1026, 1027, 1028, 1029, 1031, 24] (by decide +kernel)
set_option maxRecDepth 100000 in
theorem inL_r22 : ∀ w ∈ wsL_law0_r22, w ∈ lw_tbl := mem_pos [1032, 1033, 1034, 1035, 1036, 1037, 1039, 25, 1040, 1041, 1043, 26, 1044, 1045, 1047, 27, 1048, 1049, 1051, 28, 1052, 1053, 1055, 29] (by decide +kernel)
set_option maxRecDepth 100000 in
theorem inL_r23 : ∀ w ∈ wsL_law0_r23, w ∈ lw_tbl := mem_pos [1056, 1057, 1059, 30, 1060, 1061, 1062, 1063, 1401, 1402, 1403, 1404, 1230, 1405, 1407, 34, 1408, 1409, 1410, 1411, 1412, 1414, 35, 1415] (by decide +kernel)
set_option maxRecDepth 100000 in
theorem inL_r24 : ∀ w ∈ wsL_law0_r24, w ∈ lw_tbl := mem_pos [1416, 1418, 36, 1419, 1064, 1065, 1066, 1067, 1068, 1069, 1070, 1072, 1073, 1074, 1075, 249, 1420, 1421, 1422, 1423, 1077, 1078, 1079, 1080] (by decide +kernel)
set_option maxRecDepth 100000 in
theorem inL_r25 : ∀ w ∈ wsL_law0_r25, w ∈ lw_tbl := mem_pos [1081, 1082, 1083, 222, 305, 1084, 1086, 1087, 1088, 1089, 1424, 1425, 1426, 1427, 1428, 1430, 37, 1431, 1090, 1091, 1092, 1093, 1094, 1095] (by decide +kernel)
set_option maxRecDepth 100000 in
theorem inL_r26 : ∀ w ∈ wsL_law0_r26, w ∈ lw_tbl := mem_pos [1096, 308, 1432, 1433, 1434, 1435, 1098, 1099, 1100, 1101, 1102, 1103, 1104, 311, 1436, 1437, 1438, 1439, 1107, 1108, 1109, 1110, 1111, 1112] (by decide +kernel)
set_option maxRecDepth 100000 in
theorem inL_r27 : ∀ w ∈ wsL_law0_r27, w ∈ lw_tbl := mem_pos [1113, 1116, 1117, 1118, 1119, 1440, 1441, 1442, 1443, 1251, 1252, 1253, 1444, 1446, 38, 1447, 1448, 1450, 39, 1451, 1452, 1454, 40, 1455] (by decide +kernel)
set_option maxRecDepth 100000 in
theorem inL_r28 : ∀ w ∈ wsL_law0_r28, w ∈ lw_tbl := mem_pos [1456, 1458, 41, 1459, 1460, 1462, 42, 1463, 1464, 1466, 43, 1467, 1263, 1468, 1470, 44, 1471, 1472, 1474, 45, 1475, 1476, 1478, 46] (by decide +kernel)
set_option maxRecDepth 100000 in
theorem inL_r29 : ∀ w ∈ wsL_law0_r29, w ∈ lw_tbl := mem_pos [1479, 1480, 1482, 47, 1483, 1484, 1486, 48, 1487, 1488, 1490, 49, 1491, 1492, 1494, 50, 1495, 1496, 1498, 51, 1499, 1500, 1502, 52] (by decide +kernel)
set_option maxRecDepth 100000 in
theorem inL_r30 : ∀ w ∈ wsL_law0_r30, w ∈ lw_tbl := mem_pos [1503, 1504, 1506, 53, 1507, 1508, 1510, 54, 1511, 1512, 1514, 55, 1515, 1516, 1518, 56, 1519, 1520, 1522, 57, 1523, 1524, 1526, 58] (by decide +kernel)
set_option maxRecDepth 100000 in
theorem inL_r31 : ∀ w ∈ wsL_law0_r31, w ∈ lw_tbl := mem_pos [1527, 1528, 1530, 59, 1531, 1532, 1534, 60, 1535, 1536, 1538, 61, 1539, 1120, 1121, 1122, 1123, 1124, 1125, 1126, 1128, 1129, 1130, 1131] (by decide +kernel)
set_option maxRecDepth 100000 in
theorem inL_r32 : ∀ w ∈ wsL_law0_r32, w ∈ lw_tbl := mem_pos [1540, 1541, 1542, 1543, 1544, 1546, 62, 1547, 1548, 1550, 63, 1551, 1552, 1553, 1554, 1132, 1133, 1134, 1135, 1136, 1137, 1138, 1139, 1555] (by decide +kernel)
set_option maxRecDepth 100000 in
theorem inL_r33 : ∀ w ∈ wsL_law0_r33, w ∈ lw_tbl := mem_pos [1556, 1557, 1558, 1559, 1561, 64, 1562, 1140, 1141, 1142, 1143, 1144, 1145, 1146, 1147, 1148, 1563, 1564, 1565, 1566, 1149, 1150, 1151, 1152] (by decide +kernel)
set_option maxRecDepth 100000 in
theorem inL_r34 : ∀ w ∈ wsL_law0_r34, w ∈ lw_tbl := mem_pos [1153, 1154, 1155, 1156, 421, 422, 423, 1567, 1568, 1569, 1570, 1157, 1158, 1159, 1160, 1161, 1162, 1163, 1164, 1166, 31, 1167, 1168, 434] (by decide +kernel)
set_option maxRecDepth 100000 in
theorem inL_r35 : ∀ w ∈ wsL_law0_r35, w ∈ lw_tbl := mem_pos [435, 436, 437, 438, 439, 440, 1571, 1572, 1573, 1574, 1575, 1577, 65, 1578, 1579, 1581, 66, 1582, 1169, 1170, 1171, 1172, 1173, 1174] (by decide +kernel)
set_option maxRecDepth 100000 in
theorem inL_r36 : ∀ w ∈ wsL_law0_r36, w ∈ lw_tbl := mem_pos [1175, 1176, 1177, 1178, 1179, 1180, 400, 401, 402, 403, 404, 405, 406, 1583, 1584, 1585, 1586, 1181, 1182, 1183, 1184, 1185, 1186, 1187] (by decide +kernel)
set_option maxRecDepth 100000 in
theorem inL_r37 : ∀ w ∈ wsL_law0_r37, w ∈ lw_tbl := mem_pos [1188, 442, 443, 444, 445, 446, 447, 448, 1587, 1588, 1589, 1590, 1189, 1190, 1191, 1192, 1193, 1194, 1195, 1196, 1591, 1592, 1593, 1594] (by decide +kernel)
set_option maxRecDepth 100000 in
theorem inL_r38 : ∀ w ∈ wsL_law0_r38, w ∈ lw_tbl := mem_pos [1197, 1198, 1199, 1200, 1201, 1202, 1203, 1204, 1595, 1596, 1597, 1598, 1205, 1206, 1207, 1208, 1209, 1210, 1211, 1599, 1600, 1601, 1602, 364] (by decide +kernel)
set_option maxRecDepth 100000 in
theorem inL_r39 : ∀ w ∈ wsL_law0_r39, w ∈ lw_tbl := mem_pos [365, 366, 367, 368, 369, 370, 371, 391, 393, 1, 394, 395, 396, 397, 398, 399, 1603, 1604, 1605, 1606, 411, 412, 413, 414] (by decide +kernel)
set_option maxRecDepth 100000 in
theorem inL_r40 : ∀ w ∈ wsL_law0_r40, w ∈ lw_tbl := mem_pos [415, 416, 417, 418, 419, 432, 420, 433, 441, 1607, 1608, 1609, 1610, 1611, 1612] (by decide +kernel)
set_option maxRecDepth 100000 in
theorem inL_X6 : ∀ w ∈ wsX60, w ∈ lw_tbl := mem_pos [347, 349, 351, 353, 355, 357, 359, 361] (by decide +kernel)
set_option maxRecDepth 100000 in
theorem inL_X7 : ∀ w ∈ wsX70, w ∈ lw_tbl := mem_pos [1267, 1269, 1271, 1273, 1275, 1277, 1279, 1281, 1283, 1285, 1287, 1289, 1291, 1293, 1295, 1297, 1299, 1301, 1303, 1305, 1307, 1309, 1311, 1313, 1315, 1317, 1319, 1321, 1323, 1325, 1327, 1329, 1331, 1333, 1335, 1337, 1339, 1341, 1343, 1345, 1347, 1349, 1351, 1353, 1355, 1357, 1359, 1361, 1363] (by decide +kernel)
set_option maxRecDepth 100000 in
theorem inL_Jx4a65c : ∀ w ∈ wsJx4a65c0, w ∈ lw_tbl := mem_pos [129, 125, 127] (by decide +kernel)
set_option maxRecDepth 100000 in
theorem inL_X5 : ∀ w ∈ wsX50, w ∈ lw_tbl := mem_pos [185, 187, 189, 191, 193, 195, 197, 199, 201, 203, 205, 207, 209] (by decide +kernel)
set_option maxRecDepth 100000 in
theorem inL_X0 : ∀ w ∈ wsX00, w ∈ lw_tbl := mem_pos [312, 314, 316, 318, 320, 322, 324, 326, 328, 330, 332, 334, 336] (by decide +kernel)
set_option maxRecDepth 100000 in
theorem inL_X3 : ∀ w ∈ wsX30, w ∈ lw_tbl := mem_pos [227, 229, 231, 233] (by decide +kernel)
set_option maxRecDepth 100000 in
theorem inL_X4 : ∀ w ∈ wsX40, w ∈ lw_tbl := mem_pos [153, 155, 157] (by decide +kernel)
set_option maxRecDepth 100000 in
theorem inL_X2 : ∀ w ∈ wsX20, w ∈ lw_tbl := mem_pos [252, 254] (by decide +kernel)
set_option maxRecDepth 100000 in
theorem inL_X1 : ∀ w ∈ wsX10, w ∈ lw_tbl := mem_pos [267, 269, 271] (by decide +kernel)
theorem wsL_law_in0 : ∀ w ∈ wsL_law0, w ∈ lw_tbl := fun w h => (fun h => (List.mem_append.mp h).elim (fun h => (List.mem_append.mp h).elim (fun h => (List.mem_append.mp h).elim (fun h => (List.mem_append.mp h).elim (fun h => (List.mem_append.mp h).elim (fun h => (List.mem_append.mp h).elim (fun h => (List.mem_append.mp h).elim (fun h => (List.mem_append.mp h).elim (fun h => (List.mem_append.mp h).elim (fun h => (List.mem_append.mp h).elim (fun h => (List.mem_append.mp h).elim (fun h => inL_r1 w h) (fun h => (List.mem_append.mp h).elim (fun h => inL_r2 w h) (fun h => (List.mem_append.mp h).elim (fun h => inL_r3 w h) (fun h => (List.mem_append.mp h).elim (fun h => inL_r4 w h) (fun h => (List.mem_append.mp h).elim (fun h => inL_r5 w h) (fun h => (List.mem_append.mp h).elim (fun h => inL_r6 w h) (fun h => (List.mem_append.mp h).elim (fun h => inL_r7 w h) (fun h => (List.mem_append.mp h).elim (fun h => inL_r8 w h) (fun h => (List.mem_append.mp h).elim (fun h => inL_r9 w h) (fun h => (List.mem_append.mp h).elim (fun h => inL_r10 w h) (fun h => (List.mem_append.mp h).elim (fun h => inL_r11 w h) (fun h => (List.mem_append.mp h).elim (fun h => inL_r12 w h) (fun h => (List.mem_append.mp h).elim (fun h => inL_r13 w h) (fun h => (List.mem_append.mp h).elim (fun h => inL_r14 w h) (fun h => (List.mem_append.mp h).elim (fun h => inL_r15 w h) (fun h => (List.mem_append.mp h).elim (fun h => inL_r16 w h) (fun h => (List.mem_append.mp h).elim (fun h => inL_r17 w h) (fun h => (List.mem_append.mp h).elim (fun h => inL_r18 w h) (fun h => (List.mem_append.mp h).elim (fun h => inL_r19 w h) (fun h => (List.mem_append.mp h).elim (fun h => inL_r20 w h) (fun h => (List.mem_append.mp h).elim (fun h => inL_r21 w h) (fun h => (List.mem_append.mp h).elim (fun h => inL_r22 w h) (fun h => (List.mem_append.mp h).elim (fun h => inL_r23 w h) (fun h => (List.mem_append.mp h).elim (fun h => inL_r24 w h) (fun h => (List.mem_append.mp h).elim (fun h => inL_r25 w h) (fun h => (List.mem_append.mp h).elim (fun h => inL_r26 w h) (fun h => (List.mem_append.mp h).elim (fun h => inL_r27 w h) (fun h => (List.mem_append.mp h).elim (fun h => inL_r28 w h) (fun h => (List.mem_append.mp h).elim (fun h => inL_r29 w h) (fun h => (List.mem_append.mp h).elim (fun h => inL_r30 w h) (fun h => (List.mem_append.mp h).elim (fun h => inL_r31 w h) (fun h => (List.mem_append.mp h).elim (fun h => inL_r32 w h) (fun h => (List.mem_append.mp h).elim (fun h => inL_r33 w h) (fun h => (List.mem_append.mp h).elim (fun h => inL_r34 w h) (fun h => (List.mem_append.mp h).elim (fun h => inL_r35 w h) (fun h => (List.mem_append.mp h).elim (fun h => inL_r36 w h) (fun h => (List.mem_append.mp h).elim (fun h => inL_r37 w h) (fun h => (List.mem_append.mp h).elim (fun h => inL_r38 w h) (fun h => (List.mem_append.mp h).elim (fun h => inL_r39 w h) (fun h => inL_r40 w h)))))))))))))))))))))))))))))))))))))))) (fun h => inL_X6 w h)) (fun h => inL_X7 w h)) (fun h => inL_Jx4a65c w h)) (fun h => inL_X5 w h)) (fun h => inL_X0 w h)) (fun h => inL_X3 w h)) (fun h => inL_X4 w h)) (fun h => inL_X2 w h)) (fun h => inL_X1 w h)) (fun h => absurd h List.not_mem_nil)) h

theorem wsL_law_x0 : ∀ w ∈ (vx_atS RX6 57 "java/lang/IllegalArgumentException" ["java/lang/RuntimeException", "java/lang/Exception"]).filter goodWord, w ∈ lw_tbl := by decide +kernel
theorem wsL_law_x1 : ∀ w ∈ (vx_atS RX6 64 "java/lang/IllegalStateException" ["java/lang/RuntimeException", "java/lang/Exception"]).filter goodWord, w ∈ lw_tbl := by decide +kernel
theorem wsL_law_x2 : ∀ w ∈ (vx_atS RX6 193 "java/lang/IndexOutOfBoundsException" ["java/lang/RuntimeException", "java/lang/Exception"]).filter goodWord, w ∈ lw_tbl := by decide +kernel
theorem wsL_law_in : ∀ w ∈ wsL_law, w ∈ lw_tbl := fun w h => (List.mem_append.mp h).elim (fun h => (List.mem_append.mp h).elim (fun h => (List.mem_append.mp h).elim (fun h => wsL_law_in0 w h) (fun h => wsL_law_x0 w h)) (fun h => wsL_law_x1 w h)) (fun h => wsL_law_x2 w h)
theorem inlX0 : ∀ w ∈ wsX00, w ∈ wsL_law := fun _ h => List.mem_append_left _ (List.mem_append_left _ (List.mem_append_left _ (List.mem_append_left _ (List.mem_append_left _ (List.mem_append_left _ (List.mem_append_left _ (List.mem_append_left _ (List.mem_append_right _ h))))))))
theorem inX0 : ∀ w ∈ wsX00, w ∈ lw_tbl := fun w h => wsL_law_in w (inlX0 w h)
theorem inlX1 : ∀ w ∈ wsX10, w ∈ wsL_law := fun _ h => List.mem_append_left _ (List.mem_append_left _ (List.mem_append_left _ (List.mem_append_left _ (List.mem_append_right _ h))))
theorem inX1 : ∀ w ∈ wsX10, w ∈ lw_tbl := fun w h => wsL_law_in w (inlX1 w h)
theorem inlX2 : ∀ w ∈ wsX20, w ∈ wsL_law := fun _ h => List.mem_append_left _ (List.mem_append_left _ (List.mem_append_left _ (List.mem_append_left _ (List.mem_append_left _ (List.mem_append_right _ h)))))
theorem inX2 : ∀ w ∈ wsX20, w ∈ lw_tbl := fun w h => wsL_law_in w (inlX2 w h)
theorem inlX3 : ∀ w ∈ wsX30, w ∈ wsL_law := fun _ h => List.mem_append_left _ (List.mem_append_left _ (List.mem_append_left _ (List.mem_append_left _ (List.mem_append_left _ (List.mem_append_left _ (List.mem_append_left _ (List.mem_append_right _ h)))))))
theorem inX3 : ∀ w ∈ wsX30, w ∈ lw_tbl := fun w h => wsL_law_in w (inlX3 w h)
theorem inlX4 : ∀ w ∈ wsX40, w ∈ wsL_law := fun _ h => List.mem_append_left _ (List.mem_append_left _ (List.mem_append_left _ (List.mem_append_left _ (List.mem_append_left _ (List.mem_append_left _ (List.mem_append_right _ h))))))
theorem inX4 : ∀ w ∈ wsX40, w ∈ lw_tbl := fun w h => wsL_law_in w (inlX4 w h)
theorem inlX5 : ∀ w ∈ wsX50, w ∈ wsL_law := fun _ h => List.mem_append_left _ (List.mem_append_left _ (List.mem_append_left _ (List.mem_append_left _ (List.mem_append_left _ (List.mem_append_left _ (List.mem_append_left _ (List.mem_append_left _ (List.mem_append_left _ (List.mem_append_right _ h)))))))))
theorem inX5 : ∀ w ∈ wsX50, w ∈ lw_tbl := fun w h => wsL_law_in w (inlX5 w h)
theorem inlX6 : ∀ w ∈ wsX60, w ∈ wsL_law := fun _ h => List.mem_append_left _ (List.mem_append_left _ (List.mem_append_left _ (List.mem_append_left _ (List.mem_append_left _ (List.mem_append_left _ (List.mem_append_left _ (List.mem_append_left _ (List.mem_append_left _ (List.mem_append_left _ (List.mem_append_left _ (List.mem_append_left _ (List.mem_append_right _ h))))))))))))
theorem inX6 : ∀ w ∈ wsX60, w ∈ lw_tbl := fun w h => wsL_law_in w (inlX6 w h)
