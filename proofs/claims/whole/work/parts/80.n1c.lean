set_option maxRecDepth 20000 in
theorem ggL_law_X6_feed : GoodIn wsL_law wsX6_feed := goodIn_r _ [448, 26, 449, 134, 135, 2, 136, 137, 138, 139, 140, 40, 450, 451, 452, 25, 453, 70, 72, 1347, 1348, 1349, 1350, 1351, 1352, 1353, 1354, 1355, 1356, 1407, 1408, 1409, 1410, 1411, 1412] (by decide +kernel) (by decide +kernel)
set_option maxRecDepth 20000 in
theorem gL_law_X6_feed : GoodIn wsL_law (wsV RL 74 RX6 yX6_feed wsX6_feed) := goodIn_app (goodIn_of _ (by decide +kernel)) ggL_law_X6_feed
set_option maxRecDepth 20000 in
theorem ggL_law_X7_feed : GoodIn wsL_law wsX7_feed := goodIn_r _ [457, 458, 459, 112, 152, 153, 5, 154, 155, 156, 157, 158, 113, 1357, 1358, 1359, 1360, 1361, 1362, 1363, 1364, 1365, 1366, 1367, 1368, 1369, 1370, 1371, 1372, 1373, 1374, 1375, 1376, 1377, 1378, 1379, 1380, 1381, 1382, 1383, 1384, 1385, 1386, 1387, 1388, 1389] (by decide +kernel) (by decide +kernel)
set_option maxRecDepth 20000 in
theorem gL_law_X7_feed : GoodIn wsL_law (wsV RL 77 RX7 yX7_feed wsX7_feed) := goodIn_app (goodIn_of _ (by decide +kernel)) ggL_law_X7_feed
set_option maxRecDepth 20000 in
theorem ggL_law_X6_wipe : GoodIn wsL_law wsX6_wipe := goodIn_r _ [463, 26, 449, 1347, 1348, 1349, 1350, 1351, 1352, 1353, 1354, 1355, 1356, 1407, 1408, 1409, 1410, 1411, 1412] (by decide +kernel) (by decide +kernel)
set_option maxRecDepth 20000 in
theorem gL_law_X6_wipe : GoodIn wsL_law (wsV RL 78 RX6 yX6_wipe wsX6_wipe) := goodIn_app (goodIn_of _ (by decide +kernel)) ggL_law_X6_wipe
set_option maxRecDepth 20000 in
theorem ggL_law_X7_wipe : GoodIn wsL_law wsX7_wipe := goodIn_r _ [467, 459, 1357, 1358, 1359, 1360, 1361, 1362, 1363, 1364, 1365, 1366, 1367, 1368, 1369, 1370, 1371, 1372, 1373, 1374, 1375, 1376, 1377, 1378, 1379, 1380, 1381, 1382, 1383, 1384, 1385, 1386, 1387, 1388, 1389] (by decide +kernel) (by decide +kernel)
set_option maxRecDepth 20000 in
theorem gL_law_X7_wipe : GoodIn wsL_law (wsV RL 82 RX7 yX7_wipe wsX7_wipe) := goodIn_app (goodIn_of _ (by decide +kernel)) ggL_law_X7_wipe
set_option maxRecDepth 20000 in
theorem ggL_law_X6_town : GoodIn wsL_law wsX6_town := goodIn_r _ [471, 18, 16, 26, 449, 472, 473, 474, 475, 15, 476, 45, 46, 47, 48, 49, 50, 51, 52, 477, 205, 206, 207, 53, 54, 55, 56, 57, 478, 479, 480, 25, 481, 75, 73, 74, 71, 482, 483, 484, 485, 70, 486, 487, 488, 489, 72, 490, 491, 492, 493, 494, 495, 496, 497, 498, 499, 500, 501, 502, 503, 504, 505, 506, 507, 508, 509, 510, 511, 512, 513, 514, 515, 516, 517, 518, 519, 520, 521, 522, 523, 524, 525, 526, 527, 528, 529, 530, 531, 532, 533, 534, 535, 536, 537, 538, 539, 540, 541, 542, 543, 544, 545, 546, 547, 548, 549, 550, 551, 552, 553, 554, 555, 556, 557, 558, 135, 2, 136, 286, 287, 559, 346, 347, 348, 560, 561, 562, 563, 564, 565, 566, 567, 568, 350, 351, 352, 569, 570, 571, 572, 573, 379, 380, 381, 382, 383, 574, 575, 576, 577, 578, 403, 404, 405, 579, 580, 581, 582, 583, 584, 585, 586, 587, 588, 589, 590, 591, 592, 593, 594, 595, 596, 416, 417, 418, 597, 598, 599, 600, 601, 428, 429, 602, 435, 436, 437, 137, 138, 139, 140, 40, 1347, 1348, 1349, 1350, 1351, 1352, 1353, 1354, 1355, 1356, 1407, 1408, 1409, 1410, 1411, 1412, 1390, 1391, 1392, 1393, 1394, 1395, 1396, 1397, 1398, 1399, 1400, 1401, 1402, 1403] (by decide +kernel) (by decide +kernel)
set_option maxRecDepth 20000 in
theorem gL_law_X6_town : GoodIn wsL_law (wsV RL 83 RX6 yX6_town wsX6_town) := goodIn_app (goodIn_of _ (by decide +kernel)) ggL_law_X6_town
set_option maxRecDepth 20000 in
theorem ggL_law_X7_town : GoodIn wsL_law wsX7_town := goodIn_r _ [606, 459, 607, 608, 609, 610, 611, 5, 612, 613, 614, 4, 615, 102, 103, 104, 11, 12, 39, 105, 106, 107, 108, 65, 109, 110, 111, 112, 113, 114, 115, 116, 117, 118, 119, 120, 121, 122, 123, 124, 125, 126, 616, 617, 618, 619, 256, 620, 621, 622, 623, 624, 625, 626, 627, 628, 629, 630, 631, 632, 633, 634, 635, 636, 637, 638, 639, 640, 641, 642, 643, 644, 645, 646, 647, 648, 649, 650, 651, 502, 503, 504, 505, 506, 507, 508, 509, 510, 511, 512, 652, 514, 515, 516, 517, 518, 519, 520, 521, 522, 523, 524, 525, 526, 527, 528, 529, 530, 531, 532, 533, 534, 535, 536, 537, 538, 539, 540, 541, 542, 543, 544, 545, 546, 547, 548, 549, 653, 654, 655, 656, 657, 658, 659, 660, 152, 153, 154, 661, 662, 663, 664, 665, 666, 667, 668, 358, 359, 360, 361, 393, 394, 395, 396, 669, 670, 671, 672, 673, 674, 675, 676, 677, 678, 679, 680, 442, 443, 444, 155, 156, 157, 158, 1357, 1358, 1359, 1360, 1361, 1362, 1363, 1364, 1365, 1366, 1367, 1368, 1369, 1370, 1371, 1372, 1373, 1374, 1375, 1376, 1377, 1378, 1379, 1380, 1381, 1382, 1383, 1384, 1385, 1386, 1387, 1388, 1389] (by decide +kernel) (by decide +kernel)
set_option maxRecDepth 20000 in
theorem gL_law_X7_town : GoodIn wsL_law (wsV RL 86 RX7 yX7_town wsX7_town) := goodIn_app (goodIn_of _ (by decide +kernel)) ggL_law_X7_town
set_option maxRecDepth 20000 in
theorem ggL_law_X6_personOf : GoodIn wsL_law wsX6_personOf := goodIn_r _ [684, 16, 240, 241, 242, 15, 243, 46, 134, 135, 2, 136, 137, 138, 139, 140, 40, 685, 686, 687, 688, 56, 57, 52, 53, 54, 55, 689, 690, 691, 692, 279, 280, 281, 282, 47, 1347, 1348, 1349, 1350, 1351, 1352, 1353, 1354, 1355, 1356, 1390, 1391, 1392, 1393, 1394, 1395, 1396, 1397, 1398, 1399, 1400, 1401, 1402, 1403] (by decide +kernel) (by decide +kernel)
set_option maxRecDepth 20000 in
theorem gL_law_X6_personOf : GoodIn wsL_law (wsV RL 87 RX6 yX6_personOf wsX6_personOf) := goodIn_app (goodIn_of _ (by decide +kernel)) ggL_law_X6_personOf
set_option maxRecDepth 20000 in
theorem ggL_law_X7_personOf : GoodIn wsL_law wsX7_personOf := goodIn_r _ [696, 149, 115, 116, 117, 118, 119, 120, 252, 253, 254, 5, 255, 256, 152, 153, 154, 155, 156, 157, 158, 113, 697, 698, 699, 700, 314, 315, 316, 317, 121, 1357, 1358, 1359, 1360, 1361, 1362, 1363, 1364, 1365, 1366, 1367, 1368, 1369, 1370, 1371, 1372, 1373, 1374, 1375, 1376, 1377, 1378, 1379, 1380, 1381, 1382, 1383, 1384, 1385, 1386, 1387, 1388, 1389] (by decide +kernel) (by decide +kernel)
set_option maxRecDepth 20000 in
theorem gL_law_X7_personOf : GoodIn wsL_law (wsV RL 90 RX7 yX7_personOf wsX7_personOf) := goodIn_app (goodIn_of _ (by decide +kernel)) ggL_law_X7_personOf
set_option maxRecDepth 20000 in
theorem ggL_law_X6_may : GoodIn wsL_law wsX6_may := goodIn_r _ [704, 16, 240, 241, 242, 15, 243, 46, 366, 367, 368, 369, 45, 137, 138, 139, 2, 140, 40, 705, 289, 290, 291, 56, 54, 49, 279, 280, 281, 282, 47, 52, 53, 292, 293, 294, 295, 296, 297, 298, 299, 55, 300, 301, 285, 286, 287, 1347, 1348, 1349, 1350, 1351, 1352, 1353, 1354, 1355, 1356, 1390, 1391, 1392, 1393, 1394, 1395, 1396, 1397, 1398, 1399, 1400, 1401, 1402, 1403] (by decide +kernel) (by decide +kernel)
set_option maxRecDepth 20000 in
theorem gL_law_X6_may : GoodIn wsL_law (wsV RL 91 RX6 yX6_may wsX6_may) := goodIn_app (goodIn_of _ (by decide +kernel)) ggL_law_X6_may
set_option maxRecDepth 20000 in
theorem ggL_law_X7_may : GoodIn wsL_law wsX7_may := goodIn_r _ [709, 252, 253, 254, 5, 255, 256, 152, 153, 154, 389, 390, 391, 392, 114, 155, 156, 157, 158, 113, 310, 311, 312, 313, 115, 119, 120, 117, 121, 314, 315, 316, 317, 118, 318, 319, 320, 321, 322, 323, 324, 1357, 1358, 1359, 1360, 1361, 1362, 1363, 1364, 1365, 1366, 1367, 1368, 1369, 1370, 1371, 1372, 1373, 1374, 1375, 1376, 1377, 1378, 1379, 1380, 1381, 1382, 1383, 1384, 1385, 1386, 1387, 1388, 1389] (by decide +kernel) (by decide +kernel)
set_option maxRecDepth 20000 in
theorem gL_law_X7_may : GoodIn wsL_law (wsV RL 94 RX7 yX7_may wsX7_may) := goodIn_app (goodIn_of _ (by decide +kernel)) ggL_law_X7_may
set_option maxRecDepth 20000 in
theorem ggL_law_X6_mouths : GoodIn wsL_law wsX6_mouths := goodIn_r _ [713, 16, 366, 367, 368, 15, 369, 45, 714, 715, 716, 717, 46, 288, 289, 290, 291, 56, 54, 49, 279, 280, 281, 282, 47, 52, 53, 292, 293, 294, 295, 296, 297, 298, 299, 55, 300, 2, 301, 286, 287, 382, 383, 137, 138, 139, 140, 40, 1347, 1348, 1349, 1350, 1351, 1352, 1353, 1354, 1355, 1356, 1390, 1391, 1392, 1393, 1394, 1395, 1396, 1397, 1398, 1399, 1400, 1401, 1402, 1403] (by decide +kernel) (by decide +kernel)
set_option maxRecDepth 20000 in
theorem gL_law_X6_mouths : GoodIn wsL_law (wsV RL 95 RX6 yX6_mouths wsX6_mouths) := goodIn_app (goodIn_of _ (by decide +kernel)) ggL_law_X6_mouths
set_option maxRecDepth 20000 in
theorem ggL_law_X7_mouths : GoodIn wsL_law wsX7_mouths := goodIn_r _ [721, 389, 390, 391, 5, 392, 114, 152, 153, 154, 722, 723, 724, 725, 256, 310, 311, 312, 313, 115, 119, 120, 117, 121, 314, 315, 316, 317, 118, 318, 319, 320, 321, 322, 323, 324, 155, 156, 157, 158, 113, 1357, 1358, 1359, 1360, 1361, 1362, 1363, 1364, 1365, 1366, 1367, 1368, 1369, 1370, 1371, 1372, 1373, 1374, 1375, 1376, 1377, 1378, 1379, 1380, 1381, 1382, 1383, 1384, 1385, 1386, 1387, 1388, 1389] (by decide +kernel) (by decide +kernel)
set_option maxRecDepth 20000 in
theorem gL_law_X7_mouths : GoodIn wsL_law (wsV RL 98 RX7 yX7_mouths wsX7_mouths) := goodIn_app (goodIn_of _ (by decide +kernel)) ggL_law_X7_mouths
set_option maxRecDepth 20000 in
theorem ggL_law_X6_say : GoodIn wsL_law wsX6_say := goodIn_r _ [729, 16, 240, 241, 242, 15, 243, 46, 366, 367, 368, 369, 45, 137, 138, 139, 2, 140, 40, 705, 289, 290, 291, 56, 54, 49, 279, 280, 281, 282, 47, 52, 53, 292, 293, 294, 295, 296, 297, 298, 299, 55, 300, 301, 285, 286, 287, 730, 731, 732, 733, 272, 273, 274, 275, 276, 277, 278, 1347, 1348, 1349, 1350, 1351, 1352, 1353, 1354, 1355, 1356, 1390, 1391, 1392, 1393, 1394, 1395, 1396, 1397, 1398, 1399, 1400, 1401, 1402, 1403] (by decide +kernel) (by decide +kernel)
set_option maxRecDepth 20000 in
theorem gL_law_X6_say : GoodIn wsL_law (wsV RL 99 RX6 yX6_say wsX6_say) := goodIn_app (goodIn_of _ (by decide +kernel)) ggL_law_X6_say
set_option maxRecDepth 20000 in
theorem ggL_law_X7_say : GoodIn wsL_law wsX7_say := goodIn_r _ [737, 252, 253, 254, 5, 255, 256, 152, 153, 154, 389, 390, 391, 392, 114, 155, 156, 157, 158, 113, 310, 311, 312, 313, 115, 119, 120, 117, 121, 314, 315, 316, 317, 118, 318, 319, 320, 321, 322, 323, 324, 738, 739, 740, 741, 325, 326, 327, 1357, 1358, 1359, 1360, 1361, 1362, 1363, 1364, 1365, 1366, 1367, 1368, 1369, 1370, 1371, 1372, 1373, 1374, 1375, 1376, 1377, 1378, 1379, 1380, 1381, 1382, 1383, 1384, 1385, 1386, 1387, 1388, 1389] (by decide +kernel) (by decide +kernel)
set_option maxRecDepth 20000 in
theorem gL_law_X7_say : GoodIn wsL_law (wsV RL 102 RX7 yX7_say wsX7_say) := goodIn_app (goodIn_of _ (by decide +kernel)) ggL_law_X7_say
