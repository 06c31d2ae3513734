theorem sub_r {big ws : List Cond} (ps : List Nat) (hp : ws = ps.filterMap (fun i => big[i]?)) : ∀ w ∈ ws, w ∈ big := by
  intro w hw
  rw [hp] at hw
  obtain ⟨i, -, hi⟩ := List.mem_filterMap.mp hw
  first | exact List.mem_of_getElem? hi | exact List.getElem?_mem hi
set_option maxRecDepth 100000 in
theorem in_wsL_law0_r1 : ∀ w ∈ wsL_law0_r1, w ∈ lw_tbl := sub_r [104, 105, 82, 1135, 1136, 95, 209, 1718, 106, 107, 108, 109, 110, 111, 112, 113, 83, 441, 210, 211, 88, 442, 443, 292] rfl
set_option maxRecDepth 100000 in
theorem in_wsL_law0_r2 : ∀ w ∈ wsL_law0_r2, w ∈ lw_tbl := sub_r [293, 90, 444, 445, 312, 313, 91, 446, 447, 371, 372, 92, 448, 392, 393, 93, 449, 412, 450, 414, 94, 114, 115, 116] rfl
set_option maxRecDepth 100000 in
theorem in_wsL_law0_r3 : ∀ w ∈ wsL_law0_r3, w ∈ lw_tbl := sub_r [117, 208, 174, 175, 119, 120, 121, 84, 122, 1733, 123, 124, 125, 126, 127, 1734, 129, 130, 131, 132, 133, 134, 135, 136] rfl
set_option maxRecDepth 100000 in
theorem in_wsL_law0_r4 : ∀ w ∈ wsL_law0_r4, w ∈ lw_tbl := sub_r [137, 138, 85, 139, 140, 141, 142, 143, 145, 146, 86, 147, 148, 149, 87, 150, 151, 152, 153, 154, 155, 156, 157, 158] rfl
set_option maxRecDepth 100000 in
theorem in_wsL_law0_r5 : ∀ w ∈ wsL_law0_r5, w ∈ lw_tbl := sub_r [159, 160, 161, 163, 165, 167, 168, 169, 170, 171, 172, 173, 213, 214, 215, 239, 238, 240, 243, 245, 247, 250, 216, 217] rfl
set_option maxRecDepth 100000 in
theorem in_wsL_law0_r6 : ∀ w ∈ wsL_law0_r6, w ∈ lw_tbl := sub_r [89, 251, 257, 260, 219, 220, 221, 222, 223, 224, 295, 296, 297, 298, 299, 300, 315, 316, 317, 318, 321, 323, 325, 327] rfl
set_option maxRecDepth 100000 in
theorem in_wsL_law0_r7 : ∀ w ∈ wsL_law0_r7, w ∈ lw_tbl := sub_r [329, 331, 341, 374, 375, 376, 377, 378, 391, 379, 394, 395, 396, 397, 398, 401, 416, 417, 418, 419, 425, 421, 427, 423] rfl
set_option maxRecDepth 100000 in
theorem in_wsL_law0_r8 : ∀ w ∈ wsL_law0_r8, w ∈ lw_tbl := sub_r [429, 1137, 1138, 1139, 1140, 1155, 1163, 1164, 1165, 1166, 1167, 1168, 1169, 1170, 1171, 1172, 1175, 1176, 1177, 1178, 1179, 1180, 1181, 1182] rfl
set_option maxRecDepth 100000 in
theorem in_wsL_law0_r9 : ∀ w ∈ wsL_law0_r9, w ∈ lw_tbl := sub_r [1183, 1184, 1185, 1186, 1188, 1189, 1190, 1191, 1192, 1193, 1194, 1195, 1196, 1197, 1198, 1199, 1200, 1201, 1203, 1207, 1208, 1209, 1141, 1143] rfl
set_option maxRecDepth 100000 in
theorem in_wsL_law0_r10 : ∀ w ∈ wsL_law0_r10, w ∈ lw_tbl := sub_r [27, 1144, 1145, 1147, 28, 1148, 1149, 1151, 29, 1152, 475, 476, 477, 478, 176, 479, 480, 481, 482, 483, 177, 1328, 1329, 1330] rfl
set_option maxRecDepth 100000 in
theorem in_wsL_law0_r11 : ∀ w ∈ wsL_law0_r11, w ∈ lw_tbl := sub_r [1331, 1153, 1332, 1154, 484, 485, 486, 487, 187, 488, 489, 490, 491, 178, 188, 492, 493, 494, 495, 179, 181, 180, 496, 498] rfl
set_option maxRecDepth 100000 in
theorem in_wsL_law0_r12 : ∀ w ∈ wsL_law0_r12, w ∈ lw_tbl := sub_r [0, 499, 185, 500, 501, 502, 503, 505, 1, 506, 508, 509, 510, 511, 512, 513, 514, 515, 516, 517, 518, 519, 523, 524] rfl
set_option maxRecDepth 100000 in
theorem in_wsL_law0_r13 : ∀ w ∈ wsL_law0_r13, w ∈ lw_tbl := sub_r [96, 525, 526, 527, 528, 520, 521, 522, 529, 530, 531, 532, 533, 534, 535, 536, 537, 538, 539, 540, 541, 542, 543, 544] rfl
set_option maxRecDepth 100000 in
theorem in_wsL_law0_r14 : ∀ w ∈ wsL_law0_r14, w ∈ lw_tbl := sub_r [545, 546, 547, 548, 549, 550, 551, 552, 553, 554, 555, 556, 557, 97, 558, 559, 560, 561, 562, 563, 564, 565, 566, 567] rfl
set_option maxRecDepth 100000 in
theorem in_wsL_law0_r15 : ∀ w ∈ wsL_law0_r15, w ∈ lw_tbl := sub_r [568, 569, 570, 571, 572, 573, 574, 253, 256, 263, 264, 575, 576, 577, 578, 225, 579, 580, 581, 582, 583, 584, 585, 586] rfl
set_option maxRecDepth 100000 in
theorem in_wsL_law0_r16 : ∀ w ∈ wsL_law0_r16, w ∈ lw_tbl := sub_r [587, 589, 2, 590, 184, 591, 592, 593, 594, 595, 596, 597, 598, 599, 600, 601, 602, 603, 604, 605, 606, 607, 608, 609] rfl
set_option maxRecDepth 100000 in
theorem in_wsL_law0_r17 : ∀ w ∈ wsL_law0_r17, w ∈ lw_tbl := sub_r [610, 611, 612, 613, 614, 615, 616, 617, 618, 619, 620, 621, 622, 623, 625, 626, 627, 629, 3, 630, 631, 633, 4, 634] rfl
set_option maxRecDepth 100000 in
theorem in_wsL_law0_r18 : ∀ w ∈ wsL_law0_r18, w ∈ lw_tbl := sub_r [635, 637, 5, 638, 183, 639, 640, 641, 642, 643, 644, 645, 646, 647, 648, 649, 650, 651, 652, 653, 654, 656, 6, 675] rfl
set_option maxRecDepth 100000 in
theorem in_wsL_law0_r19 : ∀ w ∈ wsL_law0_r19, w ∈ lw_tbl := sub_r [676, 677, 660, 661, 662, 663, 664, 678, 679, 680, 669, 665, 667, 7, 668, 657, 182, 658, 659, 670, 671, 672, 673, 674] rfl
set_option maxRecDepth 100000 in
theorem in_wsL_law0_r20 : ∀ w ∈ wsL_law0_r20, w ∈ lw_tbl := sub_r [681, 682, 683, 684, 685, 686, 688, 8, 689, 431, 690, 691, 692, 693, 335, 339, 694, 696, 9, 697, 337, 333, 254, 244] rfl
set_option maxRecDepth 100000 in
theorem in_wsL_law0_r21 : ∀ w ∈ wsL_law0_r21, w ∈ lw_tbl := sub_r [246, 698, 699, 700, 701, 301, 702, 703, 704, 705, 380, 706, 707, 708, 709, 403, 1333, 1334, 1335, 1336, 1162, 1202, 1337, 1339] rfl
set_option maxRecDepth 100000 in
theorem in_wsL_law0_r22 : ∀ w ∈ wsL_law0_r22, w ∈ lw_tbl := sub_r [30, 1340, 1174, 1173, 1159, 1355, 1375, 1376, 1377, 1378, 1341, 1343, 31, 1344, 1156, 1157, 1345, 1347, 32, 1348, 1158, 1160, 1161, 1353] rfl
set_option maxRecDepth 100000 in
theorem in_wsL_law0_r23 : ∀ w ∈ wsL_law0_r23, w ∈ lw_tbl := sub_r [1354, 1349, 1351, 33, 1352, 1356, 1358, 34, 1359, 1360, 1362, 35, 1363, 1383, 1384, 1385, 1386, 1372, 1187, 1373, 1374, 1364, 1366, 36] rfl
set_option maxRecDepth 100000 in
theorem in_wsL_law0_r24 : ∀ w ∈ wsL_law0_r24, w ∈ lw_tbl := sub_r [1367, 1368, 1370, 37, 1371, 1379, 1380, 1381, 1382, 1387, 1388, 1389, 1390, 1392, 38, 1393, 1394, 1396, 39, 1397, 1398, 1400, 40, 1401] rfl
set_option maxRecDepth 100000 in
theorem in_wsL_law0_r25 : ∀ w ∈ wsL_law0_r25, w ∈ lw_tbl := sub_r [1402, 1403, 1404, 1405, 1407, 41, 1408, 1409, 1411, 42, 1412, 1413, 1415, 43, 1416, 1417, 1419, 44, 1420, 1421, 1423, 45, 1424, 1425] rfl
set_option maxRecDepth 100000 in
theorem in_wsL_law0_r26 : ∀ w ∈ wsL_law0_r26, w ∈ lw_tbl := sub_r [1427, 46, 1428, 1429, 1431, 47, 1432, 1433, 1434, 1435, 1436, 1437, 1439, 48, 1440, 1441, 1443, 49, 1444, 1445, 1446, 1447, 710, 711] rfl
set_option maxRecDepth 100000 in
theorem in_wsL_law0_r27 : ∀ w ∈ wsL_law0_r27, w ∈ lw_tbl := sub_r [712, 713, 714, 715, 716, 717, 718, 719, 720, 722, 10, 723, 724, 725, 726, 727, 728, 729, 186, 730, 731, 732, 734, 11] rfl
set_option maxRecDepth 100000 in
theorem in_wsL_law0_r28 : ∀ w ∈ wsL_law0_r28, w ∈ lw_tbl := sub_r [735, 736, 737, 1448, 1449, 1450, 1451, 1452, 1454, 50, 1455, 1456, 1458, 51, 1459, 1460, 1462, 52, 1463, 738, 739, 740, 741, 241] rfl
set_option maxRecDepth 100000 in
theorem in_wsL_law0_r29 : ∀ w ∈ wsL_law0_r29, w ∈ lw_tbl := sub_r [320, 322, 248, 328, 324, 326, 332, 742, 744, 12, 745, 255, 1464, 1465, 1466, 1467, 1468, 1470, 53, 1471, 1472, 1474, 54, 1475] rfl
set_option maxRecDepth 100000 in
theorem in_wsL_law0_r30 : ∀ w ∈ wsL_law0_r30, w ∈ lw_tbl := sub_r [1476, 746, 747, 748, 749, 750, 752, 13, 753, 754, 755, 756, 757, 758, 759, 760, 761, 762, 402, 763, 764, 765, 766, 767] rfl
set_option maxRecDepth 100000 in
theorem in_wsL_law0_r31 : ∀ w ∈ wsL_law0_r31, w ∈ lw_tbl := sub_r [769, 768, 98, 770, 771, 772, 773, 775, 774, 1477, 1478, 1479, 1480, 1481, 1483, 55, 1484, 1485, 1487, 56, 1488, 1489, 1491, 57] rfl
set_option maxRecDepth 100000 in
theorem in_wsL_law0_r32 : ∀ w ∈ wsL_law0_r32, w ∈ lw_tbl := sub_r [1492, 1493, 1494, 1495, 1496, 1498, 58, 1499, 776, 777, 778, 779, 780, 781, 782, 783, 1500, 1501, 1502, 1503, 1504, 1506, 59, 1507] rfl
set_option maxRecDepth 100000 in
theorem in_wsL_law0_r33 : ∀ w ∈ wsL_law0_r33, w ∈ lw_tbl := sub_r [784, 785, 786, 787, 788, 789, 790, 791, 792, 793, 794, 795, 796, 1508, 1509, 1510, 1511, 1512, 1514, 60, 1515, 797, 798, 799] rfl
set_option maxRecDepth 100000 in
theorem in_wsL_law0_r34 : ∀ w ∈ wsL_law0_r34, w ∈ lw_tbl := sub_r [800, 801, 802, 803, 804, 805, 806, 807, 808, 809, 810, 811, 812, 813, 814, 815, 816, 343, 258, 825, 817, 818, 819, 820] rfl
set_option maxRecDepth 100000 in
theorem in_wsL_law0_r35 : ∀ w ∈ wsL_law0_r35, w ∈ lw_tbl := sub_r [242, 821, 823, 14, 824, 826, 828, 15, 829, 830, 831, 832, 833, 834, 836, 16, 837, 261, 252, 249, 838, 839, 840, 841] rfl
set_option maxRecDepth 100000 in
theorem in_wsL_law0_r36 : ∀ w ∈ wsL_law0_r36, w ∈ lw_tbl := sub_r [226, 853, 854, 842, 844, 17, 845, 846, 848, 18, 849, 850, 851, 852, 1516, 1517, 1518, 1519, 1520, 1522, 61, 1523, 1204, 1524] rfl
set_option maxRecDepth 100000 in
theorem in_wsL_law0_r37 : ∀ w ∈ wsL_law0_r37, w ∈ lw_tbl := sub_r [1526, 62, 1527, 1528, 1529, 1530, 1531, 1533, 63, 1534, 1539, 1535, 1537, 64, 1538, 1540, 1542, 65, 1543, 1544, 1546, 66, 1547, 1548] rfl
set_option maxRecDepth 100000 in
theorem in_wsL_law0_r38 : ∀ w ∈ wsL_law0_r38, w ∈ lw_tbl := sub_r [1550, 67, 1551, 1552, 1554, 68, 1555, 1556, 1558, 69, 1559, 1560, 1562, 70, 1563, 1564, 1566, 71, 1567, 1568, 1570, 72, 1571, 1572] rfl
set_option maxRecDepth 100000 in
theorem in_wsL_law0_r39 : ∀ w ∈ wsL_law0_r39, w ∈ lw_tbl := sub_r [1573, 1574, 855, 856, 857, 858, 859, 860, 861, 862, 1575, 1576, 1577, 1578, 863, 864, 865, 866, 302, 336, 340, 867, 868, 869] rfl
set_option maxRecDepth 100000 in
theorem in_wsL_law0_r40 : ∀ w ∈ wsL_law0_r40, w ∈ lw_tbl := sub_r [870, 871, 872, 873, 874, 1579, 1580, 1581, 1582, 1583, 1585, 73, 1586, 875, 876, 877, 878, 879, 880, 881, 882, 883, 1587, 1588] rfl
set_option maxRecDepth 100000 in
theorem in_wsL_law0_r41 : ∀ w ∈ wsL_law0_r41, w ∈ lw_tbl := sub_r [1589, 1590, 1591, 1593, 74, 1594, 1205, 1206, 884, 885, 886, 887, 888, 890, 19, 891, 342, 1595, 1596, 1597, 1598, 892, 893, 894] rfl
set_option maxRecDepth 100000 in
theorem in_wsL_law0_r42 : ∀ w ∈ wsL_law0_r42, w ∈ lw_tbl := sub_r [895, 334, 896, 897, 898, 899, 900, 1599, 1600, 1601, 1602, 1603, 1605, 75, 1606, 901, 902, 903, 904, 905, 907, 20, 908, 1611] rfl
set_option maxRecDepth 100000 in
theorem in_wsL_law0_r43 : ∀ w ∈ wsL_law0_r43, w ∈ lw_tbl := sub_r [1612, 1613, 1614, 909, 910, 911, 912, 1615, 1616, 1617, 1618, 913, 914, 915, 916, 1619, 1620, 1621, 1622, 917, 918, 919, 920, 1623] rfl
set_option maxRecDepth 100000 in
theorem in_wsL_law0_r44 : ∀ w ∈ wsL_law0_r44, w ∈ lw_tbl := sub_r [1624, 1625, 1626, 921, 922, 923, 924, 925, 927, 21, 928, 1627, 1628, 1629, 1630, 929, 930, 931, 932, 1631, 1632, 1633, 1634, 933] rfl
set_option maxRecDepth 100000 in
theorem in_wsL_law0_r45 : ∀ w ∈ wsL_law0_r45, w ∈ lw_tbl := sub_r [934, 935, 936, 1635, 1636, 1637, 1638, 937, 938, 939, 940, 941, 942, 943, 944, 1639, 1640, 1641, 1642, 945, 946, 947, 948, 330] rfl
set_option maxRecDepth 100000 in
theorem in_wsL_law0_r46 : ∀ w ∈ wsL_law0_r46, w ∈ lw_tbl := sub_r [949, 950, 951, 952, 1607, 1608, 1609, 1610, 953, 954, 955, 956, 1643, 1644, 1645, 1646, 957, 958, 959, 960, 259, 961, 1647, 1648] rfl
set_option maxRecDepth 100000 in
theorem in_wsL_law0_r47 : ∀ w ∈ wsL_law0_r47, w ∈ lw_tbl := sub_r [1649, 1650, 962, 963, 964, 965, 966, 967, 1651, 1652, 1653, 1654, 968, 969, 970, 971, 972, 973, 974, 975, 1655, 1656, 1657, 1658] rfl
set_option maxRecDepth 100000 in
theorem in_wsL_law0_r48 : ∀ w ∈ wsL_law0_r48, w ∈ lw_tbl := sub_r [976, 977, 978, 979, 980, 982, 22, 983, 984, 985, 986, 987, 988, 989, 990, 991, 992, 319, 1659, 1660, 1661, 1662, 1663, 1665] rfl
set_option maxRecDepth 100000 in
theorem in_wsL_law0_r49 : ∀ w ∈ wsL_law0_r49, w ∈ lw_tbl := sub_r [76, 1666, 1667, 1669, 77, 1670, 993, 994, 995, 996, 997, 998, 99, 999, 1000, 1001, 1002, 1003, 1004, 1005, 1006, 1671, 1672, 1673] rfl
set_option maxRecDepth 100000 in
theorem in_wsL_law0_r50 : ∀ w ∈ wsL_law0_r50, w ∈ lw_tbl := sub_r [1674, 1675, 1007, 1008, 1009, 1010, 1011, 1013, 23, 1014, 1015, 1016, 1017, 1018, 1676, 1677, 1678, 1679, 1680, 1681, 1055, 1056, 81, 1057] rfl
set_option maxRecDepth 100000 in
theorem in_wsL_law0_r51 : ∀ w ∈ wsL_law0_r51, w ∈ lw_tbl := sub_r [1058, 1059, 1060, 1061, 1062, 1063, 103, 1128, 1129, 1130, 1131, 1132, 1133, 1682, 1683, 1684, 1685, 1686, 1687, 1688, 1019, 1020, 1021, 1022] rfl
set_option maxRecDepth 100000 in
theorem in_wsL_law0_r52 : ∀ w ∈ wsL_law0_r52, w ∈ lw_tbl := sub_r [1023, 451, 1024, 1026, 24, 1027, 1028, 1030, 25, 1031, 1032, 1033, 1034, 1035, 1689, 1690, 1691, 1692, 1693, 1210, 1694, 1696, 78, 1697] rfl
set_option maxRecDepth 100000 in
theorem in_wsL_law0_r53 : ∀ w ∈ wsL_law0_r53, w ∈ lw_tbl := sub_r [1698, 1700, 79, 1701, 1702, 1703, 1704, 1705, 1036, 1037, 1038, 1039, 426, 428, 430, 1040, 1041, 1042, 1043, 1044, 1045, 1046, 1047, 1048] rfl
set_option maxRecDepth 100000 in
theorem in_wsL_law0_r54 : ∀ w ∈ wsL_law0_r54, w ∈ lw_tbl := sub_r [1049, 1706, 1707, 1708, 1709, 1710, 1712, 80, 1713, 1050, 1051, 1052, 1053, 262, 338, 381, 404, 1054, 1714, 1715, 1716, 1717] rfl
set_option maxRecDepth 100000 in
theorem inX0 : ∀ w ∈ wsX00, w ∈ lw_tbl := sub_r [227, 229, 231, 233, 235] rfl
set_option maxRecDepth 100000 in
theorem inX1 : ∀ w ∈ wsX10, w ∈ lw_tbl := sub_r [303, 305, 307, 309] rfl
set_option maxRecDepth 100000 in
theorem inX2 : ∀ w ∈ wsX20, w ∈ lw_tbl := sub_r [432, 434, 436, 438] rfl
set_option maxRecDepth 100000 in
theorem inX3 : ∀ w ∈ wsX30, w ∈ lw_tbl := sub_r [405, 407, 409] rfl
set_option maxRecDepth 100000 in
theorem inX4 : ∀ w ∈ wsX40, w ∈ lw_tbl := sub_r [344, 346, 348, 350, 352, 354, 356, 358, 360, 362, 364, 366, 368] rfl
set_option maxRecDepth 100000 in
theorem inX5 : ∀ w ∈ wsX50, w ∈ lw_tbl := sub_r [382, 384, 386, 388] rfl
set_option maxRecDepth 100000 in
theorem inX6 : ∀ w ∈ wsX60, w ∈ lw_tbl := sub_r [189, 191, 193, 195, 197, 199, 201, 203, 205] rfl
set_option maxRecDepth 100000 in
theorem inX7 : ∀ w ∈ wsX70, w ∈ lw_tbl := sub_r [265, 267, 269, 271, 273, 275, 277, 279, 281, 283, 285, 287, 289] rfl
set_option maxRecDepth 100000 in
theorem inX8 : ∀ w ∈ wsX80, w ∈ lw_tbl := sub_r [452, 454, 456, 458, 460, 462, 464, 466, 468, 470, 472] rfl
set_option maxRecDepth 100000 in
theorem inX9 : ∀ w ∈ wsX90, w ∈ lw_tbl := sub_r [1211, 1213, 1215, 1217, 1219, 1221, 1223, 1225, 1227, 1229, 1231, 1233, 1235, 1237, 1239, 1241, 1243, 1245, 1247, 1249, 1251, 1253, 1255, 1257, 1259, 1261, 1263, 1265, 1267, 1269, 1271, 1273, 1275, 1277, 1279, 1281, 1283, 1285, 1287, 1289, 1291, 1293, 1295, 1297, 1299, 1301, 1303, 1305, 1307, 1309, 1311, 1313, 1315, 1317, 1319, 1321, 1323, 1325] rfl
set_option maxRecDepth 100000 in
theorem wsL_law_in0 : ∀ w ∈ wsL_law0, w ∈ lw_tbl := (List.forall_mem_append.mpr ⟨(List.forall_mem_append.mpr ⟨(List.forall_mem_append.mpr ⟨(List.forall_mem_append.mpr ⟨(List.forall_mem_append.mpr ⟨(List.forall_mem_append.mpr ⟨(List.forall_mem_append.mpr ⟨(List.forall_mem_append.mpr ⟨(List.forall_mem_append.mpr ⟨(List.forall_mem_append.mpr ⟨(List.forall_mem_append.mpr ⟨(List.forall_mem_append.mpr ⟨in_wsL_law0_r1, List.forall_mem_append.mpr ⟨in_wsL_law0_r2, List.forall_mem_append.mpr ⟨in_wsL_law0_r3, List.forall_mem_append.mpr ⟨in_wsL_law0_r4, List.forall_mem_append.mpr ⟨in_wsL_law0_r5, List.forall_mem_append.mpr ⟨in_wsL_law0_r6, List.forall_mem_append.mpr ⟨in_wsL_law0_r7, List.forall_mem_append.mpr ⟨in_wsL_law0_r8, List.forall_mem_append.mpr ⟨in_wsL_law0_r9, List.forall_mem_append.mpr ⟨in_wsL_law0_r10, List.forall_mem_append.mpr ⟨in_wsL_law0_r11, List.forall_mem_append.mpr ⟨in_wsL_law0_r12, List.forall_mem_append.mpr ⟨in_wsL_law0_r13, List.forall_mem_append.mpr ⟨in_wsL_law0_r14, List.forall_mem_append.mpr ⟨in_wsL_law0_r15, List.forall_mem_append.mpr ⟨in_wsL_law0_r16, List.forall_mem_append.mpr ⟨in_wsL_law0_r17, List.forall_mem_append.mpr ⟨in_wsL_law0_r18, List.forall_mem_append.mpr ⟨in_wsL_law0_r19, List.forall_mem_append.mpr ⟨in_wsL_law0_r20, List.forall_mem_append.mpr ⟨in_wsL_law0_r21, List.forall_mem_append.mpr ⟨in_wsL_law0_r22, List.forall_mem_append.mpr ⟨in_wsL_law0_r23, List.forall_mem_append.mpr ⟨in_wsL_law0_r24, List.forall_mem_append.mpr ⟨in_wsL_law0_r25, List.forall_mem_append.mpr ⟨in_wsL_law0_r26, List.forall_mem_append.mpr ⟨in_wsL_law0_r27, List.forall_mem_append.mpr ⟨in_wsL_law0_r28, List.forall_mem_append.mpr ⟨in_wsL_law0_r29, List.forall_mem_append.mpr ⟨in_wsL_law0_r30, List.forall_mem_append.mpr ⟨in_wsL_law0_r31, List.forall_mem_append.mpr ⟨in_wsL_law0_r32, List.forall_mem_append.mpr ⟨in_wsL_law0_r33, List.forall_mem_append.mpr ⟨in_wsL_law0_r34, List.forall_mem_append.mpr ⟨in_wsL_law0_r35, List.forall_mem_append.mpr ⟨in_wsL_law0_r36, List.forall_mem_append.mpr ⟨in_wsL_law0_r37, List.forall_mem_append.mpr ⟨in_wsL_law0_r38, List.forall_mem_append.mpr ⟨in_wsL_law0_r39, List.forall_mem_append.mpr ⟨in_wsL_law0_r40, List.forall_mem_append.mpr ⟨in_wsL_law0_r41, List.forall_mem_append.mpr ⟨in_wsL_law0_r42, List.forall_mem_append.mpr ⟨in_wsL_law0_r43, List.forall_mem_append.mpr ⟨in_wsL_law0_r44, List.forall_mem_append.mpr ⟨in_wsL_law0_r45, List.forall_mem_append.mpr ⟨in_wsL_law0_r46, List.forall_mem_append.mpr ⟨in_wsL_law0_r47, List.forall_mem_append.mpr ⟨in_wsL_law0_r48, List.forall_mem_append.mpr ⟨in_wsL_law0_r49, List.forall_mem_append.mpr ⟨in_wsL_law0_r50, List.forall_mem_append.mpr ⟨in_wsL_law0_r51, List.forall_mem_append.mpr ⟨in_wsL_law0_r52, List.forall_mem_append.mpr ⟨in_wsL_law0_r53, in_wsL_law0_r54⟩⟩⟩⟩⟩⟩⟩⟩⟩⟩⟩⟩⟩⟩⟩⟩⟩⟩⟩⟩⟩⟩⟩⟩⟩⟩⟩⟩⟩⟩⟩⟩⟩⟩⟩⟩⟩⟩⟩⟩⟩⟩⟩⟩⟩⟩⟩⟩⟩⟩⟩⟩⟩), inX8⟩), inX9⟩), inX6⟩), inX7⟩), inX1⟩), inX4⟩), inX5⟩), inX3⟩), inX2⟩), inX0⟩), fun _ h => absurd h List.not_mem_nil⟩)
