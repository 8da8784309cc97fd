set_option maxRecDepth 20000 in
theorem in_wsL_law_r30 : ∀ w ∈ wsL_law_r30, w ∈ lw_tbl := fun w h => (goodIn_r (big := lw_tbl) wsL_law_r30 [1383, 1384, 1386, 52, 1387, 669, 670, 671, 672, 673, 1388, 1389, 1390, 1391, 674, 675, 676, 677, 678, 679, 680, 681, 1392, 1393] (by decide +kernel) (by decide +kernel) w h).1
set_option maxRecDepth 20000 in
theorem in_wsL_law_r31 : ∀ w ∈ wsL_law_r31, w ∈ lw_tbl := fun w h => (goodIn_r (big := lw_tbl) wsL_law_r31 [1394, 1395, 1396, 1398, 53, 1399, 682, 683, 684, 685, 686, 687, 688, 689, 1400, 1401, 1402, 1403, 1404, 1406, 54, 1407, 690, 691] (by decide +kernel) (by decide +kernel) w h).1
set_option maxRecDepth 20000 in
theorem in_wsL_law_r32 : ∀ w ∈ wsL_law_r32, w ∈ lw_tbl := fun w h => (goodIn_r (big := lw_tbl) wsL_law_r32 [692, 693, 124, 1408, 1409, 1410, 1411, 694, 695, 696, 697, 698, 699, 700, 701, 1412, 1413, 1414, 1415, 1416, 1418, 55, 1419, 702] (by decide +kernel) (by decide +kernel) w h).1
set_option maxRecDepth 20000 in
theorem in_wsL_law_r33 : ∀ w ∈ wsL_law_r33, w ∈ lw_tbl := fun w h => (goodIn_r (big := lw_tbl) wsL_law_r33 [703, 704, 705, 706, 707, 708, 709, 710, 711, 712, 713, 714, 715, 716, 717, 718, 719, 720, 721, 722, 723, 725, 16, 726] (by decide +kernel) (by decide +kernel) w h).1
set_option maxRecDepth 20000 in
theorem in_wsL_law_r34 : ∀ w ∈ wsL_law_r34, w ∈ lw_tbl := fun w h => (goodIn_r (big := lw_tbl) wsL_law_r34 [1420, 1421, 1422, 1423, 1424, 1425, 1426, 1427, 1428, 1430, 56, 1431, 1432, 1434, 57, 1435, 727, 728, 729, 730, 1436, 1437, 1438, 1439] (by decide +kernel) (by decide +kernel) w h).1
set_option maxRecDepth 20000 in
theorem in_wsL_law_r35 : ∀ w ∈ wsL_law_r35, w ∈ lw_tbl := fun w h => (goodIn_r (big := lw_tbl) wsL_law_r35 [731, 732, 733, 734, 735, 736, 737, 738, 739, 1440, 1441, 1442, 1443, 740, 741, 742, 743, 744, 745, 746, 747, 748, 749, 750] (by decide +kernel) (by decide +kernel) w h).1
set_option maxRecDepth 20000 in
theorem in_wsL_law_r36 : ∀ w ∈ wsL_law_r36, w ∈ lw_tbl := fun w h => (goodIn_r (big := lw_tbl) wsL_law_r36 [751, 1444, 1445, 1446, 1447, 752, 753, 754, 755, 756, 757, 758, 759, 760, 1448, 1449, 1450, 1451, 762, 763, 764, 765, 766, 767] (by decide +kernel) (by decide +kernel) w h).1
set_option maxRecDepth 20000 in
theorem in_wsL_law_r37 : ∀ w ∈ wsL_law_r37, w ∈ lw_tbl := fun w h => (goodIn_r (big := lw_tbl) wsL_law_r37 [768, 769, 107, 770, 771, 772, 773, 775, 17, 776, 777, 778, 779, 780, 781, 782, 1452, 1453, 1454, 1455, 1456, 1458, 58, 1459] (by decide +kernel) (by decide +kernel) w h).1
set_option maxRecDepth 20000 in
theorem in_wsL_law_r38 : ∀ w ∈ wsL_law_r38, w ∈ lw_tbl := fun w h => (goodIn_r (big := lw_tbl) wsL_law_r38 [783, 784, 785, 786, 110, 787, 788, 789, 790, 791, 792, 1460, 1461, 1462, 1463, 793, 794, 795, 796, 797, 798, 799, 800, 801] (by decide +kernel) (by decide +kernel) w h).1
set_option maxRecDepth 20000 in
theorem in_wsL_law_r39 : ∀ w ∈ wsL_law_r39, w ∈ lw_tbl := fun w h => (goodIn_r (big := lw_tbl) wsL_law_r39 [803, 18, 804, 115, 805, 806, 807, 808, 809, 810, 811, 127, 816, 108, 812, 814, 19, 815, 818, 819, 821, 822, 823, 824] (by decide +kernel) (by decide +kernel) w h).1
set_option maxRecDepth 20000 in
theorem in_wsL_law_r40 : ∀ w ∈ wsL_law_r40, w ∈ lw_tbl := fun w h => (goodIn_r (big := lw_tbl) wsL_law_r40 [825, 826, 827, 828, 1464, 1465, 1466, 1467, 1468, 1108, 1469, 1471, 59, 1472, 829, 830, 831, 832, 833, 834, 835, 836, 837, 839] (by decide +kernel) (by decide +kernel) w h).1
set_option maxRecDepth 20000 in
theorem in_wsL_law_r41 : ∀ w ∈ wsL_law_r41, w ∈ lw_tbl := fun w h => (goodIn_r (big := lw_tbl) wsL_law_r41 [20, 840, 841, 842, 843, 844, 845, 1473, 1474, 1475, 1476, 1477, 1479, 60, 1480, 846, 847, 848, 849, 850, 851, 852, 853, 854] (by decide +kernel) (by decide +kernel) w h).1
set_option maxRecDepth 20000 in
theorem in_wsL_law_r42 : ∀ w ∈ wsL_law_r42, w ∈ lw_tbl := fun w h => (goodIn_r (big := lw_tbl) wsL_law_r42 [855, 856, 857, 858, 860, 21, 861, 1481, 1482, 1483, 1484, 1485, 1487, 61, 1488, 862, 863, 864, 865, 866, 867, 868, 869, 1502] (by decide +kernel) (by decide +kernel) w h).1
set_option maxRecDepth 20000 in
theorem in_wsL_law_r43 : ∀ w ∈ wsL_law_r43, w ∈ lw_tbl := fun w h => (goodIn_r (big := lw_tbl) wsL_law_r43 [1503, 1504, 1505, 1506, 1508, 63, 1509, 870, 871, 872, 873, 1514, 1515, 1516, 1517, 874, 875, 876, 877, 878, 879, 880, 881, 882] (by decide +kernel) (by decide +kernel) w h).1
set_option maxRecDepth 20000 in
theorem in_wsL_law_r44 : ∀ w ∈ wsL_law_r44, w ∈ lw_tbl := fun w h => (goodIn_r (big := lw_tbl) wsL_law_r44 [1510, 1511, 1512, 1513, 883, 884, 885, 886, 887, 1567, 1568, 1569, 1570, 888, 889, 890, 891, 892, 893, 894, 895, 896, 897, 898] (by decide +kernel) (by decide +kernel) w h).1
set_option maxRecDepth 20000 in
theorem in_wsL_law_r45 : ∀ w ∈ wsL_law_r45, w ∈ lw_tbl := fun w h => (goodIn_r (big := lw_tbl) wsL_law_r45 [899, 900, 901, 1489, 1490, 1491, 1492, 1493, 902, 903, 904, 905, 906, 907, 908, 909, 910, 912, 22, 913, 112, 1494, 1495, 1496] (by decide +kernel) (by decide +kernel) w h).1
set_option maxRecDepth 20000 in
theorem in_wsL_law_r46 : ∀ w ∈ wsL_law_r46, w ∈ lw_tbl := fun w h => (goodIn_r (big := lw_tbl) wsL_law_r46 [1497, 1498, 1500, 62, 1501, 914, 915, 916, 917, 918, 919, 920, 921, 1518, 1519, 1520, 1521, 922, 923, 924, 925, 926, 927, 928] (by decide +kernel) (by decide +kernel) w h).1
set_option maxRecDepth 20000 in
theorem in_wsL_law_r47 : ∀ w ∈ wsL_law_r47, w ∈ lw_tbl := fun w h => (goodIn_r (big := lw_tbl) wsL_law_r47 [929, 930, 931, 932, 933, 934, 935, 1522, 1523, 1524, 1525, 1526, 1528, 64, 1529, 1530, 1531, 1533, 65, 1534, 936, 937, 938, 939] (by decide +kernel) (by decide +kernel) w h).1
set_option maxRecDepth 20000 in
theorem in_wsL_law_r48 : ∀ w ∈ wsL_law_r48, w ∈ lw_tbl := fun w h => (goodIn_r (big := lw_tbl) wsL_law_r48 [940, 1535, 1536, 1537, 1538, 941, 942, 943, 944, 945, 947, 23, 948, 949, 950, 951, 952, 953, 954, 955, 957, 24, 958, 959] (by decide +kernel) (by decide +kernel) w h).1
set_option maxRecDepth 20000 in
theorem in_wsL_law_r49 : ∀ w ∈ wsL_law_r49, w ∈ lw_tbl := fun w h => (goodIn_r (big := lw_tbl) wsL_law_r49 [106, 102, 960, 962, 25, 963, 964, 966, 26, 967, 968, 970, 1539, 1540, 1541, 1542, 1543, 1545, 66, 1546, 1547, 1549, 67, 1550] (by decide +kernel) (by decide +kernel) w h).1
set_option maxRecDepth 20000 in
theorem in_wsL_law_r50 : ∀ w ∈ wsL_law_r50, w ∈ lw_tbl := fun w h => (goodIn_r (big := lw_tbl) wsL_law_r50 [1551, 1553, 68, 1554, 971, 972, 973, 974, 1555, 1556, 1557, 1558, 975, 976, 977, 978, 979, 981, 27, 982, 983, 984, 985, 986] (by decide +kernel) (by decide +kernel) w h).1
set_option maxRecDepth 20000 in
theorem in_wsL_law_r51 : ∀ w ∈ wsL_law_r51, w ∈ lw_tbl := fun w h => (goodIn_r (big := lw_tbl) wsL_law_r51 [987, 988, 989, 990, 991, 1559, 1560, 1561, 1562, 1563, 1565, 69, 1566, 992, 993, 994, 995, 996, 997, 998, 999, 1000, 1002, 28] (by decide +kernel) (by decide +kernel) w h).1
set_option maxRecDepth 20000 in
theorem in_wsL_law_r52 : ∀ w ∈ wsL_law_r52, w ∈ lw_tbl := fun w h => (goodIn_r (big := lw_tbl) wsL_law_r52 [1003, 130, 1571, 1572, 1573, 1574, 1575, 1577, 70, 1578, 1005, 1006, 1007, 1008, 1009, 1010, 1011, 1012, 1013, 1579, 1580, 1581, 1582, 1014] (by decide +kernel) (by decide +kernel) w h).1
set_option maxRecDepth 20000 in
theorem in_wsL_law_r53 : ∀ w ∈ wsL_law_r53, w ∈ lw_tbl := fun w h => (goodIn_r (big := lw_tbl) wsL_law_r53 [1015, 1016, 1017, 1583, 1584, 1585, 1586, 1018, 1019, 1020, 1021, 1022, 1023, 1024, 1025, 1026, 1028, 29, 1029, 1030, 1031, 1587, 1588, 1589] (by decide +kernel) (by decide +kernel) w h).1
set_option maxRecDepth 20000 in
theorem in_wsL_law_r54 : ∀ w ∈ wsL_law_r54, w ∈ lw_tbl := fun w h => (goodIn_r (big := lw_tbl) wsL_law_r54 [1590, 1591, 1593, 71, 1594, 1595, 1032, 1033, 1034, 1035, 1036, 1596, 1597, 1598, 1599, 1037, 1038, 1039, 1040, 120, 1041, 1042, 1043, 1044] (by decide +kernel) (by decide +kernel) w h).1
set_option maxRecDepth 20000 in
theorem in_wsL_law_r55 : ∀ w ∈ wsL_law_r55, w ∈ lw_tbl := fun w h => (goodIn_r (big := lw_tbl) wsL_law_r55 [1600, 1601, 1602, 1603, 1045, 1046, 1047, 1048, 122, 1604, 1605, 1606, 1607, 1049, 1050, 1051, 1052, 1608, 1609, 1610, 1611, 1096, 1053, 1054] (by decide +kernel) (by decide +kernel) w h).1
set_option maxRecDepth 20000 in
theorem in_wsL_law_r56 : ∀ w ∈ wsL_law_r56, w ∈ lw_tbl := fun w h => (goodIn_r (big := lw_tbl) wsL_law_r56 [1055, 1056, 1057, 1058, 1059, 1060, 1612, 1613, 1614, 1615, 1061, 1062, 1063, 1064, 113, 116, 118, 1065, 1066, 1067, 1068, 1616, 1617, 1618] (by decide +kernel) (by decide +kernel) w h).1
set_option maxRecDepth 20000 in
theorem in_wsL_law_r57 : ∀ w ∈ wsL_law_r57, w ∈ lw_tbl := fun w h => (goodIn_r (big := lw_tbl) wsL_law_r57 [1619, 1620, 1621] (by decide +kernel) (by decide +kernel) w h).1
