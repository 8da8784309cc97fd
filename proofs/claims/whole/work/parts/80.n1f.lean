set_option maxRecDepth 20000 in
theorem ggL_law_X6_alone : GoodIn wsL_law wsX6_alone := goodIn_r _ [1026, 16, 1027, 1028, 1029, 15, 1030, 46, 55, 1031, 834, 835, 836, 1347, 1348, 1349, 1350, 1351, 1352, 1353, 1354, 1355, 1356, 1390, 1391, 1392, 1393, 1394, 1395, 1396, 1397, 1398, 1399, 1400, 1401, 1402, 1403] (by decide +kernel) (by decide +kernel)
set_option maxRecDepth 20000 in
theorem gL_law_X6_alone : GoodIn wsL_law (wsV RL 159 RX6 yX6_alone wsX6_alone) := goodIn_app (goodIn_of _ (by decide +kernel)) ggL_law_X6_alone
set_option maxRecDepth 20000 in
theorem ggL_law_X7_alone : GoodIn wsL_law wsX7_alone := goodIn_r _ [1035, 256, 120, 1357, 1358, 1359, 1360, 1361, 1362, 1363, 1364, 1365, 1366, 1367, 1368, 1369, 1370, 1371, 1372, 1373, 1374, 1375, 1376, 1377, 1378, 1379, 1380, 1381, 1382, 1383, 1384, 1385, 1386, 1387, 1388, 1389] (by decide +kernel) (by decide +kernel)
set_option maxRecDepth 20000 in
theorem gL_law_X7_alone : GoodIn wsL_law (wsV RL 162 RX7 yX7_alone wsX7_alone) := goodIn_app (goodIn_of _ (by decide +kernel)) ggL_law_X7_alone
set_option maxRecDepth 20000 in
theorem ggL_law_X6_barred : GoodIn wsL_law wsX6_barred := goodIn_r _ [1039, 16, 366, 367, 368, 15, 369, 45, 1040, 984, 985, 986, 46, 279, 280, 281, 282, 47, 52, 53, 286, 2, 287, 382, 383, 137, 138, 139, 140, 40, 1347, 1348, 1349, 1350, 1351, 1352, 1353, 1354, 1355, 1356, 1390, 1391, 1392, 1393, 1394, 1395, 1396, 1397, 1398, 1399, 1400, 1401, 1402, 1403] (by decide +kernel) (by decide +kernel)
set_option maxRecDepth 20000 in
theorem gL_law_X6_barred : GoodIn wsL_law (wsV RL 163 RX6 yX6_barred wsX6_barred) := goodIn_app (goodIn_of _ (by decide +kernel)) ggL_law_X6_barred
set_option maxRecDepth 20000 in
theorem ggL_law_X7_barred : GoodIn wsL_law wsX7_barred := goodIn_r _ [1044, 389, 390, 391, 5, 392, 114, 152, 153, 154, 995, 996, 997, 998, 256, 314, 315, 316, 317, 121, 117, 118, 322, 323, 324, 155, 156, 157, 158, 113, 1357, 1358, 1359, 1360, 1361, 1362, 1363, 1364, 1365, 1366, 1367, 1368, 1369, 1370, 1371, 1372, 1373, 1374, 1375, 1376, 1377, 1378, 1379, 1380, 1381, 1382, 1383, 1384, 1385, 1386, 1387, 1388, 1389] (by decide +kernel) (by decide +kernel)
set_option maxRecDepth 20000 in
theorem gL_law_X7_barred : GoodIn wsL_law (wsV RL 166 RX7 yX7_barred wsX7_barred) := goodIn_app (goodIn_of _ (by decide +kernel)) ggL_law_X7_barred
set_option maxRecDepth 20000 in
theorem ggL_law_X6_blind : GoodIn wsL_law wsX6_blind := goodIn_r _ [1048, 16, 1049, 30, 240, 241, 242, 15, 243, 46, 771, 772, 2, 773, 134, 135, 136, 137, 138, 139, 140, 40, 1050, 1051, 1052, 29, 1053, 81, 80, 1054, 775, 776, 777, 778, 474, 475, 476, 45, 47, 48, 49, 50, 51, 52, 477, 205, 206, 207, 53, 54, 55, 56, 57, 779, 780, 781, 782, 783, 784, 785, 786, 58, 288, 289, 290, 291, 279, 280, 281, 282, 292, 293, 294, 295, 296, 297, 298, 299, 300, 301, 787, 731, 732, 733, 286, 287, 272, 273, 274, 275, 276, 277, 278, 788, 789, 790, 791, 962, 756, 757, 758, 689, 690, 691, 692, 1055, 1056, 1057, 1058, 1347, 1348, 1349, 1350, 1351, 1352, 1353, 1354, 1355, 1356, 1390, 1391, 1392, 1393, 1394, 1395, 1396, 1397, 1398, 1399, 1400, 1401, 1402, 1403, 1413, 1414] (by decide +kernel) (by decide +kernel)
set_option maxRecDepth 20000 in
theorem gL_law_X6_blind : GoodIn wsL_law (wsV RL 167 RX6 yX6_blind wsX6_blind) := goodIn_app (goodIn_of _ (by decide +kernel)) ggL_law_X6_blind
set_option maxRecDepth 20000 in
theorem ggL_law_X7_blind : GoodIn wsL_law wsX7_blind := goodIn_r _ [1062, 1063, 115, 119, 117, 118, 252, 253, 254, 5, 255, 256, 152, 153, 154, 796, 797, 798, 799, 155, 156, 157, 158, 113, 800, 801, 802, 803, 609, 610, 611, 612, 613, 614, 4, 615, 102, 103, 104, 11, 12, 39, 105, 106, 107, 108, 65, 109, 110, 111, 112, 114, 116, 120, 121, 122, 123, 124, 125, 126, 616, 617, 618, 619, 620, 621, 622, 623, 804, 805, 806, 807, 310, 311, 312, 313, 314, 315, 316, 317, 318, 319, 320, 321, 322, 323, 324, 738, 739, 740, 741, 325, 326, 327, 763, 764, 765, 766, 697, 698, 699, 700, 1357, 1358, 1359, 1360, 1361, 1362, 1363, 1364, 1365, 1366, 1367, 1368, 1369, 1370, 1371, 1372, 1373, 1374, 1375, 1376, 1377, 1378, 1379, 1380, 1381, 1382, 1383, 1384, 1385, 1386, 1387, 1388, 1389] (by decide +kernel) (by decide +kernel)
set_option maxRecDepth 20000 in
theorem gL_law_X7_blind : GoodIn wsL_law (wsV RL 170 RX7 yX7_blind wsX7_blind) := goodIn_app (goodIn_of _ (by decide +kernel)) ggL_law_X7_blind
set_option maxRecDepth 20000 in
theorem ggL_law_X6_dusk : GoodIn wsL_law wsX6_dusk := goodIn_r _ [1067, 30, 1049, 771, 772, 2, 773, 134, 135, 136, 1068, 1069, 1070, 29, 1071, 1072, 1073, 1074, 1075, 81, 80, 1076, 778, 474, 475, 15, 476, 45, 46, 47, 48, 49, 50, 51, 52, 477, 205, 206, 207, 53, 54, 55, 56, 57, 779, 780, 781, 782, 783, 784, 785, 786, 58, 288, 289, 290, 291, 279, 280, 281, 282, 292, 293, 294, 295, 296, 297, 298, 299, 300, 301, 787, 731, 732, 733, 286, 287, 272, 273, 274, 275, 276, 277, 278, 788, 789, 790, 791, 962, 756, 757, 758, 689, 690, 691, 692, 137, 138, 139, 140, 40, 1347, 1348, 1349, 1350, 1351, 1352, 1353, 1354, 1355, 1356, 1413, 1414, 1390, 1391, 1392, 1393, 1394, 1395, 1396, 1397, 1398, 1399, 1400, 1401, 1402, 1403] (by decide +kernel) (by decide +kernel)
set_option maxRecDepth 20000 in
theorem gL_law_X6_dusk : GoodIn wsL_law (wsV RL 171 RX6 yX6_dusk wsX6_dusk) := goodIn_app (goodIn_of _ (by decide +kernel)) ggL_law_X6_dusk
set_option maxRecDepth 20000 in
theorem ggL_law_X7_dusk : GoodIn wsL_law wsX7_dusk := goodIn_r _ [1080, 1063, 796, 797, 5, 798, 799, 152, 153, 154, 1081, 1082, 1083, 1084, 121, 609, 610, 611, 612, 613, 614, 4, 615, 102, 103, 104, 11, 12, 39, 105, 106, 107, 108, 65, 109, 110, 111, 112, 113, 114, 115, 116, 117, 118, 119, 120, 122, 123, 124, 125, 126, 616, 617, 618, 619, 256, 620, 621, 622, 623, 804, 805, 806, 807, 310, 311, 312, 313, 314, 315, 316, 317, 318, 319, 320, 321, 322, 323, 324, 738, 739, 740, 741, 325, 326, 327, 763, 764, 765, 766, 697, 698, 699, 700, 155, 156, 157, 158, 1357, 1358, 1359, 1360, 1361, 1362, 1363, 1364, 1365, 1366, 1367, 1368, 1369, 1370, 1371, 1372, 1373, 1374, 1375, 1376, 1377, 1378, 1379, 1380, 1381, 1382, 1383, 1384, 1385, 1386, 1387, 1388, 1389] (by decide +kernel) (by decide +kernel)
set_option maxRecDepth 20000 in
theorem gL_law_X7_dusk : GoodIn wsL_law (wsV RL 174 RX7 yX7_dusk wsX7_dusk) := goodIn_app (goodIn_of _ (by decide +kernel)) ggL_law_X7_dusk
set_option maxRecDepth 20000 in
theorem ggL_law_X6_loudest : GoodIn wsL_law wsX6_loudest := goodIn_r _ [1088, 16, 892, 137, 138, 139, 2, 140, 40, 1089, 1090, 1091, 15, 1092, 46, 288, 289, 290, 291, 56, 54, 49, 279, 280, 281, 282, 47, 52, 53, 292, 293, 294, 295, 45, 296, 297, 298, 299, 55, 300, 301, 272, 273, 274, 275, 276, 277, 278, 1347, 1348, 1349, 1350, 1351, 1352, 1353, 1354, 1355, 1356, 1390, 1391, 1392, 1393, 1394, 1395, 1396, 1397, 1398, 1399, 1400, 1401, 1402, 1403] (by decide +kernel) (by decide +kernel)
set_option maxRecDepth 20000 in
theorem gL_law_X6_loudest : GoodIn wsL_law (wsV RL 175 RX6 yX6_loudest wsX6_loudest) := goodIn_app (goodIn_of _ (by decide +kernel)) ggL_law_X6_loudest
set_option maxRecDepth 20000 in
theorem ggL_law_X7_loudest : GoodIn wsL_law wsX7_loudest := goodIn_r _ [1096, 256, 155, 156, 157, 5, 158, 113, 310, 311, 312, 313, 115, 119, 120, 117, 121, 114, 314, 315, 316, 317, 118, 318, 319, 320, 321, 322, 323, 324, 325, 326, 327, 1357, 1358, 1359, 1360, 1361, 1362, 1363, 1364, 1365, 1366, 1367, 1368, 1369, 1370, 1371, 1372, 1373, 1374, 1375, 1376, 1377, 1378, 1379, 1380, 1381, 1382, 1383, 1384, 1385, 1386, 1387, 1388, 1389] (by decide +kernel) (by decide +kernel)
set_option maxRecDepth 20000 in
theorem gL_law_X7_loudest : GoodIn wsL_law (wsV RL 178 RX7 yX7_loudest wsX7_loudest) := goodIn_app (goodIn_of _ (by decide +kernel)) ggL_law_X7_loudest
set_option maxRecDepth 20000 in
theorem ggL_law_X6_whom : GoodIn wsL_law wsX6_whom := goodIn_r _ [1100, 22, 16, 134, 135, 2, 136, 163, 164, 165, 21, 166, 62, 63, 132, 133, 137, 138, 139, 140, 40, 833, 834, 835, 15, 836, 46, 1101, 1102, 1103, 1104, 1105, 273, 274, 275, 276, 277, 278, 1106, 1107, 1108, 1109, 1110, 217, 218, 219, 66, 1347, 1348, 1349, 1350, 1351, 1352, 1353, 1354, 1355, 1356, 1404, 1405, 1406, 1390, 1391, 1392, 1393, 1394, 1395, 1396, 1397, 1398, 1399, 1400, 1401, 1402, 1403] (by decide +kernel) (by decide +kernel)
set_option maxRecDepth 20000 in
theorem gL_law_X6_whom : GoodIn wsL_law (wsV RL 179 RX6 yX6_whom wsX6_whom) := goodIn_app (goodIn_of _ (by decide +kernel)) ggL_law_X6_whom
set_option maxRecDepth 20000 in
theorem ggL_law_X7_whom : GoodIn wsL_law wsX7_whom := goodIn_r _ [1114, 256, 1115, 1116, 1117, 5, 1118, 149, 1119, 107, 152, 153, 154, 155, 156, 157, 158, 113, 182, 183, 184, 185, 105, 325, 326, 327, 1120, 1121, 1122, 1123, 109, 1357, 1358, 1359, 1360, 1361, 1362, 1363, 1364, 1365, 1366, 1367, 1368, 1369, 1370, 1371, 1372, 1373, 1374, 1375, 1376, 1377, 1378, 1379, 1380, 1381, 1382, 1383, 1384, 1385, 1386, 1387, 1388, 1389] (by decide +kernel) (by decide +kernel)
set_option maxRecDepth 20000 in
theorem gL_law_X7_whom : GoodIn wsL_law (wsV RL 182 RX7 yX7_whom wsX7_whom) := goodIn_app (goodIn_of _ (by decide +kernel)) ggL_law_X7_whom
set_option maxRecDepth 20000 in
theorem ggL_law_X6_parts : GoodIn wsL_law wsX6_parts := goodIn_r _ [1127, 16, 22, 134, 135, 2, 136, 833, 834, 835, 15, 836, 46, 163, 164, 165, 21, 166, 62, 63, 132, 133, 137, 138, 139, 140, 40, 1128, 1107, 1108, 1109, 1110, 217, 218, 219, 66, 1347, 1348, 1349, 1350, 1351, 1352, 1353, 1354, 1355, 1356, 1390, 1391, 1392, 1393, 1394, 1395, 1396, 1397, 1398, 1399, 1400, 1401, 1402, 1403, 1404, 1405, 1406] (by decide +kernel) (by decide +kernel)
set_option maxRecDepth 20000 in
theorem gL_law_X6_parts : GoodIn wsL_law (wsV RL 183 RX6 yX6_parts wsX6_parts) := goodIn_app (goodIn_of _ (by decide +kernel)) ggL_law_X6_parts
set_option maxRecDepth 20000 in
theorem ggL_law_X7_parts : GoodIn wsL_law wsX7_parts := goodIn_r _ [1132, 149, 1119, 256, 152, 153, 5, 154, 155, 156, 157, 158, 113, 1115, 1116, 1117, 1118, 107, 182, 183, 184, 185, 105, 1120, 1121, 1122, 1123, 109, 1357, 1358, 1359, 1360, 1361, 1362, 1363, 1364, 1365, 1366, 1367, 1368, 1369, 1370, 1371, 1372, 1373, 1374, 1375, 1376, 1377, 1378, 1379, 1380, 1381, 1382, 1383, 1384, 1385, 1386, 1387, 1388, 1389] (by decide +kernel) (by decide +kernel)
set_option maxRecDepth 20000 in
theorem gL_law_X7_parts : GoodIn wsL_law (wsV RL 186 RX7 yX7_parts wsX7_parts) := goodIn_app (goodIn_of _ (by decide +kernel)) ggL_law_X7_parts
