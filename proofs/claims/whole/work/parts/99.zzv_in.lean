theorem posIn {T ws : List Cond} (ps : List Nat) (h : ws = ps.filterMap (fun i => T[i]?)) : ∀ w ∈ ws, w ∈ T := fun w hw => by
  rw [h] at hw
  obtain ⟨i, -, hi⟩ := List.mem_filterMap.mp hw
  exact List.mem_of_getElem? hi
set_option maxRecDepth 100000 in
set_option maxHeartbeats 4000000 in
theorem in_cW_0 : ∀ w ∈ cW_0, w ∈ lw_tbl := posIn [226, 227, 111, 112, 228, 302, 303, 225, 83, 923, 924, 301, 85, 1028, 1013, 1014, 1007, 305, 1005, 1010, 229, 230, 1011, 1676, 926, 1012, 626, 212, 682, 738, 739, 213, 740, 624, 625, 82, 741, 680, 681, 1042] (by decide +kernel)
set_option maxRecDepth 100000 in
set_option maxHeartbeats 4000000 in
theorem in_cW_1 : ∀ w ∈ cW_1, w ∈ lw_tbl := posIn [1043, 103, 907, 908, 1017, 1018, 910, 849, 795, 123, 124, 127, 205, 129, 131, 133, 136, 138, 141, 145, 147, 149, 150, 125, 151, 153, 156, 159, 161, 164, 165, 577, 568, 509, 494, 622, 491, 492, 493, 81] (by decide +kernel)
set_option maxRecDepth 100000 in
set_option maxHeartbeats 4000000 in
theorem in_cW_2 : ∀ w ∈ cW_2, w ∈ lw_tbl := posIn [955, 375, 376, 378, 377, 87, 485, 482, 484, 79, 489, 490, 501, 498, 500, 513, 505, 506, 507, 508, 510, 512, 12, 517, 521, 534, 545, 560, 759, 556, 537, 530, 529, 531, 532, 533, 535, 536, 541, 542] (by decide +kernel)
set_option maxRecDepth 100000 in
set_option maxHeartbeats 4000000 in
theorem in_cW_3 : ∀ w ∈ cW_3, w ∈ lw_tbl := posIn [543, 544, 549, 553, 554, 555, 557, 558, 559, 526, 528, 13, 538, 540, 14, 546, 548, 15, 550, 552, 16, 525, 915, 916, 906, 93, 1021, 231, 232, 1022, 1677, 918, 1016, 852, 1114, 1115, 104, 287, 288, 289] (by decide +kernel)
set_option maxRecDepth 100000 in
set_option maxHeartbeats 4000000 in
theorem in_cW_4 : ∀ w ∈ cW_4, w ∈ lw_tbl := posIn [290, 394, 397, 407, 1703, 415, 416, 1704, 411, 412, 413, 414, 88, 425, 436, 431, 432, 434, 435, 90, 428, 429, 430, 445, 442, 443, 444, 91, 446, 449, 450, 452, 454, 439, 440, 441, 447, 448, 422, 423] (by decide +kernel)
set_option maxRecDepth 100000 in
set_option maxHeartbeats 4000000 in
theorem in_cW_5 : ∀ w ∈ cW_5, w ∈ lw_tbl := posIn [424, 426, 427, 89, 437, 438, 421, 466, 463, 391, 393, 6, 84, 464, 465, 459, 460, 462, 8, 470, 395, 396, 404, 405, 406, 408, 409, 410, 418, 419, 420, 456, 458, 7, 467, 469, 9, 390, 387, 389] (by decide +kernel)
set_option maxRecDepth 100000 in
set_option maxHeartbeats 4000000 in
theorem in_cW_6 : ∀ w ∈ cW_6, w ∈ lw_tbl := posIn [5, 386, 479, 480, 481, 486, 487, 488, 495, 496, 497, 502, 503, 504, 514, 515, 516, 518, 519, 520, 478, 475, 477, 11, 474, 972, 383, 385, 4, 471, 473, 10, 382, 967, 968, 969, 971, 986, 998, 990] (by decide +kernel)
set_option maxRecDepth 100000 in
set_option maxHeartbeats 4000000 in
theorem in_cW_7 : ∀ w ∈ cW_7, w ∈ lw_tbl := posIn [695, 696, 855, 748, 872, 801, 1135, 1136, 102, 746, 210, 211, 221, 215, 564, 139, 565, 566, 567, 718, 719, 700, 702, 701, 634, 166, 635, 672, 663, 664, 775, 144, 780, 764, 646, 654, 655, 643, 647, 648] (by decide +kernel)
set_option maxRecDepth 100000 in
set_option maxHeartbeats 4000000 in
theorem in_cW_8 : ∀ w ∈ cW_8, w ∈ lw_tbl := posIn [92, 649, 650, 644, 645, 651, 653, 19, 931, 932, 1026, 233, 234, 1027, 934, 871, 800, 1134, 118, 119, 120, 239, 206, 207, 241, 242, 222, 223, 243, 246, 122, 209, 224, 117, 714, 244, 247, 248, 250, 252] (by decide +kernel)
set_option maxRecDepth 100000 in
set_option maxHeartbeats 4000000 in
theorem in_cW_9 : ∀ w ∈ cW_9, w ∈ lw_tbl := posIn [249, 710, 711, 713, 21, 80, 715, 716, 717, 731, 143, 158, 245, 753, 754, 755, 756, 757, 758, 760, 752, 749, 751, 24, 860, 859, 842, 845, 846, 843, 843, 847, 848, 850, 851, 94, 842, 844, 853, 854] (by decide +kernel)
set_option maxRecDepth 100000 in
set_option maxHeartbeats 4000000 in
theorem in_cW_10 : ∀ w ∈ cW_10, w ∈ lw_tbl := posIn [856, 858, 31, 861, 864, 865, 862, 866, 867, 861, 863, 868, 862, 869, 870, 96, 761, 762, 763, 766, 641, 642, 841, 154, 802, 562, 563, 728, 730, 23, 838, 840, 30, 837, 732, 735, 733, 736, 737, 95] (by decide +kernel)
set_option maxRecDepth 100000 in
set_option maxHeartbeats 4000000 in
theorem in_cW_11 : ∀ w ∈ cW_11, w ∈ lw_tbl := posIn [742, 733, 743, 732, 734, 744, 745, 747, 765, 632, 633, 727, 162, 135, 771, 772, 773, 774, 776, 575, 576, 777, 778, 779, 781, 782, 661, 662, 783, 770, 788, 791, 792, 789, 789, 793, 794, 796, 788, 790] (by decide +kernel)
set_option maxRecDepth 100000 in
set_option maxHeartbeats 4000000 in
theorem in_cW_12 : ∀ w ∈ cW_12, w ∈ lw_tbl := posIn [797, 798, 799, 787, 803, 724, 726, 22, 767, 769, 25, 784, 786, 26, 723, 110, 113, 114, 309, 240, 310, 279, 311, 312, 281, 313, 314, 315, 283, 284, 316, 296, 317, 298, 299, 318, 319, 307, 320, 321] (by decide +kernel)
set_option maxRecDepth 100000 in
set_option maxHeartbeats 4000000 in
theorem in_cW_13 : ∀ w ∈ cW_13, w ∈ lw_tbl := posIn [116, 286, 297, 300, 109, 359, 356, 357, 358, 371, 367, 368, 370, 3, 353, 355, 0, 363, 364, 366, 2, 970, 360, 362, 1, 372, 373, 374, 379, 380, 381, 522, 523, 524, 561, 352, 573, 130, 132, 134] (by decide +kernel)
set_option maxRecDepth 100000 in
set_option maxHeartbeats 4000000 in
theorem in_cW_14 : ∀ w ∈ cW_14, w ∈ lw_tbl := posIn [574, 581, 140, 142, 146, 582, 586, 152, 587, 588, 592, 155, 157, 596, 160, 600, 163, 604, 605, 613, 609, 167, 610, 612, 17, 614, 619, 620, 621, 623, 618, 640, 639, 631, 636, 638, 18, 630, 660, 659] (by decide +kernel)
set_option maxRecDepth 100000 in
set_option maxHeartbeats 4000000 in
theorem in_cW_15 : ∀ w ∈ cW_15, w ∈ lw_tbl := posIn [669, 670, 671, 668, 677, 678, 214, 679, 683, 676, 691, 973, 137, 692, 693, 694, 97, 697, 698, 699, 688, 690, 20, 687, 707, 708, 709, 720, 721, 722, 706, 815, 816, 813, 814, 821, 812, 817, 818, 820] (by decide +kernel)
set_option maxRecDepth 100000 in
set_option maxHeartbeats 4000000 in
theorem in_cW_16 : ∀ w ∈ cW_16, w ∈ lw_tbl := posIn [28, 811, 825, 808, 810, 27, 822, 824, 29, 807, 829, 251, 253, 834, 835, 836, 833, 879, 883, 877, 878, 880, 882, 32, 876, 887, 898, 895, 896, 897, 903, 904, 911, 912, 919, 920, 927, 928, 905, 913] (by decide +kernel)
set_option maxRecDepth 100000 in
set_option maxHeartbeats 4000000 in
theorem in_cW_17 : ∀ w ∈ cW_17, w ∈ lw_tbl := posIn [914, 921, 922, 929, 930, 902, 899, 892, 893, 894, 900, 901, 891, 938, 942, 946, 950, 128, 148, 951, 952, 953, 954, 959, 963, 964, 965, 966, 983, 984, 985, 987, 988, 989, 982, 1160, 1161, 101, 1035, 999] (by decide +kernel)
set_option maxRecDepth 100000 in
set_option maxHeartbeats 4000000 in
theorem in_cW_18 : ∀ w ∈ cW_18, w ∈ lw_tbl := posIn [995, 996, 997, 994, 1004, 1005, 1008, 1009, 1015, 1019, 1020, 1004, 1006, 1023, 1024, 1025, 1003, 1033, 1034, 235, 1036, 1039, 1037, 1040, 1041, 1111, 1037, 1112, 1113, 1036, 1038, 1131, 1132, 1133, 1032, 649] (by decide +kernel)
set_option maxRecDepth 100000 in
set_option maxHeartbeats 4000000 in
theorem in_wsX00 : ∀ w ∈ wsX00, w ∈ lw_tbl := by decide +kernel
set_option maxRecDepth 100000 in
set_option maxHeartbeats 4000000 in
theorem in_wsX10 : ∀ w ∈ wsX10, w ∈ lw_tbl := by decide +kernel
set_option maxRecDepth 100000 in
set_option maxHeartbeats 4000000 in
theorem in_wsX20 : ∀ w ∈ wsX20, w ∈ lw_tbl := by decide +kernel
set_option maxRecDepth 100000 in
set_option maxHeartbeats 4000000 in
theorem in_wsX30 : ∀ w ∈ wsX30, w ∈ lw_tbl := by decide +kernel
set_option maxRecDepth 100000 in
set_option maxHeartbeats 4000000 in
theorem in_wsX40 : ∀ w ∈ wsX40, w ∈ lw_tbl := by decide +kernel
set_option maxRecDepth 100000 in
set_option maxHeartbeats 4000000 in
theorem in_wsX50 : ∀ w ∈ wsX50, w ∈ lw_tbl := by decide +kernel
set_option maxRecDepth 100000 in
set_option maxHeartbeats 4000000 in
theorem in_wsX60 : ∀ w ∈ wsX60, w ∈ lw_tbl := by decide +kernel
set_option maxRecDepth 100000 in
set_option maxHeartbeats 4000000 in
theorem in_wsX70 : ∀ w ∈ wsX70, w ∈ lw_tbl := by decide +kernel
set_option maxRecDepth 100000 in
set_option maxHeartbeats 4000000 in
theorem in_wsX80 : ∀ w ∈ wsX80, w ∈ lw_tbl := by decide +kernel
set_option maxRecDepth 100000 in
set_option maxHeartbeats 4000000 in
theorem in_wsX90 : ∀ w ∈ wsX90, w ∈ lw_tbl := by decide +kernel
set_option maxRecDepth 100000 in
set_option maxHeartbeats 4000000 in
theorem in_wsX100 : ∀ w ∈ wsX100, w ∈ lw_tbl := by decide +kernel
set_option maxRecDepth 100000 in
set_option maxHeartbeats 4000000 in
theorem in_wsX110 : ∀ w ∈ wsX110, w ∈ lw_tbl := by decide +kernel
theorem cW_tbl : ∀ w ∈ cW, w ∈ lw_tbl := List.forall_mem_append.mpr ⟨in_cW_0, List.forall_mem_append.mpr ⟨in_cW_1, List.forall_mem_append.mpr ⟨in_cW_2, List.forall_mem_append.mpr ⟨in_cW_3, List.forall_mem_append.mpr ⟨in_cW_4, List.forall_mem_append.mpr ⟨in_cW_5, List.forall_mem_append.mpr ⟨in_cW_6, List.forall_mem_append.mpr ⟨in_cW_7, List.forall_mem_append.mpr ⟨in_cW_8, List.forall_mem_append.mpr ⟨in_cW_9, List.forall_mem_append.mpr ⟨in_cW_10, List.forall_mem_append.mpr ⟨in_cW_11, List.forall_mem_append.mpr ⟨in_cW_12, List.forall_mem_append.mpr ⟨in_cW_13, List.forall_mem_append.mpr ⟨in_cW_14, List.forall_mem_append.mpr ⟨in_cW_15, List.forall_mem_append.mpr ⟨in_cW_16, List.forall_mem_append.mpr ⟨in_cW_17, List.forall_mem_append.mpr ⟨in_cW_18, List.forall_mem_append.mpr ⟨in_wsX00, List.forall_mem_append.mpr ⟨in_wsX10, List.forall_mem_append.mpr ⟨in_wsX20, List.forall_mem_append.mpr ⟨in_wsX30, List.forall_mem_append.mpr ⟨in_wsX40, List.forall_mem_append.mpr ⟨in_wsX50, List.forall_mem_append.mpr ⟨in_wsX60, List.forall_mem_append.mpr ⟨in_wsX70, List.forall_mem_append.mpr ⟨in_wsX80, List.forall_mem_append.mpr ⟨in_wsX90, List.forall_mem_append.mpr ⟨in_wsX100, in_wsX110⟩⟩⟩⟩⟩⟩⟩⟩⟩⟩⟩⟩⟩⟩⟩⟩⟩⟩⟩⟩⟩⟩⟩⟩⟩⟩⟩⟩⟩⟩
set_option maxRecDepth 100000 in
set_option maxHeartbeats 4000000 in
theorem in_mW_0 : ∀ w ∈ mW_0, w ∈ lw_tbl := posIn [1184, 111, 112, 205, 1186, 1187, 1188, 1190, 1191, 1192, 1194, 1195, 1196, 1198, 221, 1199, 1206, 1207, 1208, 1209, 1210, 1211, 1212, 1213, 1214, 1220, 1221, 1223, 1226, 1227, 1228, 1229, 1230, 1231, 1232, 1200, 1183, 1333, 1345, 1407] (by decide +kernel)
set_option maxRecDepth 100000 in
set_option maxHeartbeats 4000000 in
theorem in_mW_1 : ∀ w ∈ mW_1, w ∈ lw_tbl := posIn [1342, 1343, 1344, 86, 1399, 1189, 1378, 1470, 1375, 1377, 41, 1353, 1203, 1202, 1201, 1367, 1204, 1350, 1352, 36, 1361, 1362, 1363, 1357, 1358, 1360, 38, 1205, 1354, 1356, 37, 1364, 1366, 39, 1349, 1382, 1372, 1185, 1373, 1374] (by decide +kernel)
set_option maxRecDepth 100000 in
set_option maxHeartbeats 4000000 in
theorem in_mW_2 : ∀ w ∈ mW_2, w ∈ lw_tbl := posIn [1193, 1197, 1379, 1381, 42, 1371, 1341, 1386, 1338, 1340, 34, 1346, 1348, 35, 1368, 1370, 40, 1383, 1385, 43, 1337, 1390, 1391, 1395, 1396, 1398, 44, 1403, 1404, 1406, 45, 1411, 1412, 1425, 1429, 1421, 1420, 1422, 1424, 47] (by decide +kernel)
set_option maxRecDepth 100000 in
set_option maxHeartbeats 4000000 in
theorem in_mW_3 : ∀ w ∈ mW_3, w ∈ lw_tbl := posIn [1426, 1428, 48, 1441, 1437, 1438, 1440, 50, 1417, 1419, 46, 1416, 1434, 1436, 49, 1433, 1449, 1446, 1448, 51, 1445, 1462, 1457, 1458, 1454, 1456, 52, 1459, 1461, 53, 1453, 1497, 1494, 1498, 1495, 1496, 1474, 1478, 1490, 1491] (by decide +kernel)
set_option maxRecDepth 100000 in
set_option maxHeartbeats 4000000 in
theorem in_mW_4 : ∀ w ∈ mW_4, w ∈ lw_tbl := posIn [1493, 59, 1475, 1477, 56, 1467, 1469, 54, 1471, 1473, 55, 1466, 1486, 1483, 1485, 57, 1487, 1489, 58, 1482, 1506, 1503, 1505, 60, 1502, 1510, 1520, 1515, 1516, 1517, 1519, 61, 1514, 1525, 1526, 1527, 1524, 1543, 1215, 1216] (by decide +kernel)
set_option maxRecDepth 100000 in
set_option maxHeartbeats 4000000 in
theorem in_mW_5 : ∀ w ∈ mW_5, w ∈ lw_tbl := posIn [1219, 1544, 1545, 1546, 1550, 1540, 1542, 64, 1547, 1549, 65, 1539, 1554, 1558, 1217, 1218, 1536, 1538, 63, 1551, 1553, 66, 1555, 1557, 67, 1535, 1532, 1534, 62, 1531, 1567, 1566, 1563, 1565, 68, 1562, 1571, 1579, 1583, 1576] (by decide +kernel)
set_option maxRecDepth 100000 in
set_option maxHeartbeats 4000000 in
theorem in_mW_6 : ∀ w ∈ mW_6, w ∈ lw_tbl := posIn [1578, 69, 1580, 1582, 70, 1575, 1596, 1591, 1592, 1588, 1590, 71, 1593, 1595, 72, 1587, 1601, 1600, 1606, 1607, 1608, 1605, 1612, 1628, 1225, 1224, 1624, 1625, 1627, 75, 1621, 1623, 74, 1620, 1222, 1617, 1619, 73, 1616, 1632] (by decide +kernel)
set_option maxRecDepth 100000 in
set_option maxHeartbeats 4000000 in
theorem in_mW_7 : ∀ w ∈ mW_7, w ∈ lw_tbl := posIn [1636, 1640, 1651, 1644, 1648, 1649, 1650, 1655, 1659, 1671, 1667, 1663, 1664, 1666, 76, 1668, 1670, 77, 1675] (by decide +kernel)
set_option maxRecDepth 100000 in
set_option maxHeartbeats 4000000 in
theorem in_wsX120 : ∀ w ∈ wsX120, w ∈ lw_tbl := by decide +kernel
theorem mW_tbl : ∀ w ∈ mW, w ∈ lw_tbl := List.forall_mem_append.mpr ⟨in_mW_0, List.forall_mem_append.mpr ⟨in_mW_1, List.forall_mem_append.mpr ⟨in_mW_2, List.forall_mem_append.mpr ⟨in_mW_3, List.forall_mem_append.mpr ⟨in_mW_4, List.forall_mem_append.mpr ⟨in_mW_5, List.forall_mem_append.mpr ⟨in_mW_6, List.forall_mem_append.mpr ⟨in_mW_7, in_wsX120⟩⟩⟩⟩⟩⟩⟩⟩
set_option maxRecDepth 100000 in
set_option maxHeartbeats 4000000 in
theorem in_elW : ∀ w ∈ elW, w ∈ lw_tbl := posIn [1155, 1156, 1157, 1158, 1159, 79] (by decide +kernel)
theorem elW_tbl : ∀ w ∈ elW, w ∈ lw_tbl := in_elW
