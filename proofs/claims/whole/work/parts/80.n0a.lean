set_option maxRecDepth 20000 in
theorem in_wsL_law_r1 : ∀ w ∈ wsL_law_r1, w ∈ lw_tbl := fun w h => (goodIn_r (big := lw_tbl) wsL_law_r1 [87, 88, 73, 1069, 1070, 80, 1622, 89, 90, 91, 92, 93, 94, 95, 96, 74, 270, 271, 272, 165, 166, 75, 273, 184] (by decide +kernel) (by decide +kernel) w h).1
set_option maxRecDepth 20000 in
theorem in_wsL_law_r2 : ∀ w ∈ wsL_law_r2, w ∈ lw_tbl := fun w h => (goodIn_r (big := lw_tbl) wsL_law_r2 [185, 76, 274, 211, 212, 77, 275, 224, 225, 78, 276, 254, 255, 79, 277, 164, 278, 279, 98, 99, 100, 101, 105, 111] (by decide +kernel) (by decide +kernel) w h).1
set_option maxRecDepth 20000 in
theorem in_wsL_law_r3 : ∀ w ∈ wsL_law_r3, w ∈ lw_tbl := fun w h => (goodIn_r (big := lw_tbl) wsL_law_r3 [114, 117, 119, 121, 123, 125, 126, 129, 132, 133, 134, 168, 169, 170, 173, 174, 171, 183, 175, 187, 188, 189, 190, 192] (by decide +kernel) (by decide +kernel) w h).1
set_option maxRecDepth 20000 in
theorem in_wsL_law_r4 : ∀ w ∈ wsL_law_r4, w ∈ lw_tbl := fun w h => (goodIn_r (big := lw_tbl) wsL_law_r4 [194, 195, 196, 197, 213, 214, 215, 216, 217, 218, 226, 227, 228, 229, 230, 234, 235, 236, 237, 238, 232, 233, 256, 257] (by decide +kernel) (by decide +kernel) w h).1
set_option maxRecDepth 20000 in
theorem in_wsL_law_r5 : ∀ w ∈ wsL_law_r5, w ∈ lw_tbl := fun w h => (goodIn_r (big := lw_tbl) wsL_law_r5 [258, 259, 260, 261, 262, 1071, 1072, 1073, 1074, 1076, 1077, 1078, 1075, 1079, 1080, 1081, 1082, 1084, 1085, 1087, 1088, 1089, 1090, 1091] (by decide +kernel) (by decide +kernel) w h).1
set_option maxRecDepth 20000 in
theorem in_wsL_law_r6 : ∀ w ∈ wsL_law_r6, w ∈ lw_tbl := fun w h => (goodIn_r (big := lw_tbl) wsL_law_r6 [1092, 1093, 1095, 1103, 1105, 1106, 1107, 301, 302, 303, 304, 305, 306, 307, 308, 309, 310, 311, 313, 0, 314, 315, 316, 317] (by decide +kernel) (by decide +kernel) w h).1
set_option maxRecDepth 20000 in
theorem in_wsL_law_r7 : ∀ w ∈ wsL_law_r7, w ∈ lw_tbl := fun w h => (goodIn_r (big := lw_tbl) wsL_law_r7 [318, 1176, 1177, 1178, 1179, 1180, 1184, 1185, 1181, 1182, 1183, 1186, 1188, 30, 1189, 319, 320, 321, 322, 323, 324, 325, 326, 328] (by decide +kernel) (by decide +kernel) w h).1
set_option maxRecDepth 20000 in
theorem in_wsL_law_r8 : ∀ w ∈ wsL_law_r8, w ∈ lw_tbl := fun w h => (goodIn_r (big := lw_tbl) wsL_law_r8 [329, 330, 331, 332, 333, 334, 335, 336, 337, 338, 1190, 1191, 1192, 1193, 1194, 1196, 31, 1197, 1198, 1199, 1200, 339, 340, 341] (by decide +kernel) (by decide +kernel) w h).1
set_option maxRecDepth 20000 in
theorem in_wsL_law_r9 : ∀ w ∈ wsL_law_r9, w ∈ lw_tbl := fun w h => (goodIn_r (big := lw_tbl) wsL_law_r9 [342, 343, 344, 345, 346, 347, 348, 349, 350, 351, 352, 353, 354, 356, 355, 81, 1201, 1202, 1203, 1204, 357, 358, 359, 360] (by decide +kernel) (by decide +kernel) w h).1
set_option maxRecDepth 20000 in
theorem in_wsL_law_r10 : ∀ w ∈ wsL_law_r10, w ∈ lw_tbl := fun w h => (goodIn_r (big := lw_tbl) wsL_law_r10 [361, 362, 363, 364, 1205, 1206, 1207, 1208, 365, 366, 367, 368, 369, 370, 371, 372, 1209, 1210, 1211, 1212, 373, 374, 375, 376] (by decide +kernel) (by decide +kernel) w h).1
set_option maxRecDepth 20000 in
theorem in_wsL_law_r11 : ∀ w ∈ wsL_law_r11, w ∈ lw_tbl := fun w h => (goodIn_r (big := lw_tbl) wsL_law_r11 [377, 378, 379, 380, 381, 382, 383, 384, 1213, 1214, 1215, 1216, 1217, 1219, 32, 1220, 1086, 385, 386, 387, 388, 389, 390, 391] (by decide +kernel) (by decide +kernel) w h).1
set_option maxRecDepth 20000 in
theorem in_wsL_law_r12 : ∀ w ∈ wsL_law_r12, w ∈ lw_tbl := fun w h => (goodIn_r (big := lw_tbl) wsL_law_r12 [392, 393, 394, 395, 396, 397, 398, 399, 400, 401, 82, 402, 403, 404, 405, 406, 407, 408, 409, 411, 412, 413, 414, 415] (by decide +kernel) (by decide +kernel) w h).1
set_option maxRecDepth 20000 in
theorem in_wsL_law_r13 : ∀ w ∈ wsL_law_r13, w ∈ lw_tbl := fun w h => (goodIn_r (big := lw_tbl) wsL_law_r13 [416, 417, 418, 419, 420, 421, 422, 423, 424, 426, 1, 427, 429, 430, 1221, 1222, 1223, 1224, 1225, 1226, 1227, 1228, 1229, 1231] (by decide +kernel) (by decide +kernel) w h).1
set_option maxRecDepth 20000 in
theorem in_wsL_law_r14 : ∀ w ∈ wsL_law_r14, w ∈ lw_tbl := fun w h => (goodIn_r (big := lw_tbl) wsL_law_r14 [33, 1232, 1233, 1235, 34, 1236, 1237, 1239, 35, 1240, 1241, 1242, 1243, 1244, 1245, 1246, 1247, 1248, 1249, 431, 432, 433, 434, 103] (by decide +kernel) (by decide +kernel) w h).1
set_option maxRecDepth 20000 in
theorem in_wsL_law_r15 : ∀ w ∈ wsL_law_r15, w ∈ lw_tbl := fun w h => (goodIn_r (big := lw_tbl) wsL_law_r15 [1250, 1251, 1252, 1253, 1254, 435, 436, 437, 438, 439, 440, 441, 442, 443, 444, 445, 446, 1255, 1256, 1257, 1258, 1259, 1260, 1262] (by decide +kernel) (by decide +kernel) w h).1
set_option maxRecDepth 20000 in
theorem in_wsL_law_r16 : ∀ w ∈ wsL_law_r16, w ∈ lw_tbl := fun w h => (goodIn_r (big := lw_tbl) wsL_law_r16 [36, 1263, 447, 448, 449, 450, 451, 452, 453, 454, 455, 456, 457, 458, 459, 460, 461, 462, 464, 465, 466, 467, 469, 470] (by decide +kernel) (by decide +kernel) w h).1
set_option maxRecDepth 20000 in
theorem in_wsL_law_r17 : ∀ w ∈ wsL_law_r17, w ∈ lw_tbl := fun w h => (goodIn_r (big := lw_tbl) wsL_law_r17 [1264, 1265, 1266, 1267, 1272, 1268, 1270, 37, 1271, 1273, 1275, 38, 1276, 471, 472, 473, 474, 128, 475, 476, 477, 478, 1277, 1278] (by decide +kernel) (by decide +kernel) w h).1
set_option maxRecDepth 20000 in
theorem in_wsL_law_r18 : ∀ w ∈ wsL_law_r18, w ∈ lw_tbl := fun w h => (goodIn_r (big := lw_tbl) wsL_law_r18 [1279, 1280, 479, 480, 481, 482, 131, 483, 484, 485, 486, 1281, 1282, 1283, 1284, 487, 488, 489, 490, 491, 492, 493, 494, 495] (by decide +kernel) (by decide +kernel) w h).1
set_option maxRecDepth 20000 in
theorem in_wsL_law_r19 : ∀ w ∈ wsL_law_r19, w ∈ lw_tbl := fun w h => (goodIn_r (big := lw_tbl) wsL_law_r19 [496, 497, 498, 499, 500, 501, 1285, 1286, 1287, 1288, 1289, 1290, 1291, 502, 503, 504, 505, 191, 506, 507, 508, 509, 1292, 1293] (by decide +kernel) (by decide +kernel) w h).1
set_option maxRecDepth 20000 in
theorem in_wsL_law_r20 : ∀ w ∈ wsL_law_r20, w ∈ lw_tbl := fun w h => (goodIn_r (big := lw_tbl) wsL_law_r20 [1294, 1295, 1296, 1083, 510, 511, 512, 513, 1297, 1298, 1299, 1300, 514, 515, 516, 517, 193, 518, 519, 520, 521, 522, 523, 524] (by decide +kernel) (by decide +kernel) w h).1
set_option maxRecDepth 20000 in
theorem in_wsL_law_r21 : ∀ w ∈ wsL_law_r21, w ∈ lw_tbl := fun w h => (goodIn_r (big := lw_tbl) wsL_law_r21 [525, 526, 527, 529, 2, 530, 531, 533, 3, 534, 535, 536, 537, 538, 540, 4, 541, 543, 545, 5, 546, 547, 548, 549] (by decide +kernel) (by decide +kernel) w h).1
set_option maxRecDepth 20000 in
theorem in_wsL_law_r22 : ∀ w ∈ wsL_law_r22, w ∈ lw_tbl := fun w h => (goodIn_r (big := lw_tbl) wsL_law_r22 [83, 550, 1623, 551, 552, 553, 554, 555, 1624, 557, 558, 559, 560, 561, 562, 563, 564, 565, 566, 84, 567, 568, 569, 570] (by decide +kernel) (by decide +kernel) w h).1
set_option maxRecDepth 20000 in
theorem in_wsL_law_r23 : ∀ w ∈ wsL_law_r23, w ∈ lw_tbl := fun w h => (goodIn_r (big := lw_tbl) wsL_law_r23 [571, 573, 574, 85, 575, 576, 577, 86, 578, 579, 580, 581, 582, 583, 584, 585, 586, 587, 588, 589, 591, 593, 595, 597] (by decide +kernel) (by decide +kernel) w h).1
set_option maxRecDepth 20000 in
theorem in_wsL_law_r24 : ∀ w ∈ wsL_law_r24, w ∈ lw_tbl := fun w h => (goodIn_r (big := lw_tbl) wsL_law_r24 [6, 598, 104, 599, 601, 7, 602, 606, 607, 609, 8, 610, 611, 613, 9, 614, 615, 617, 619, 10, 620, 621, 623, 625] (by decide +kernel) (by decide +kernel) w h).1
set_option maxRecDepth 20000 in
theorem in_wsL_law_r25 : ∀ w ∈ wsL_law_r25, w ∈ lw_tbl := fun w h => (goodIn_r (big := lw_tbl) wsL_law_r25 [11, 626, 627, 628, 630, 12, 631, 109, 632, 633, 634, 635, 637, 639, 13, 640, 642, 644, 14, 645, 646, 648, 650, 15] (by decide +kernel) (by decide +kernel) w h).1
set_option maxRecDepth 20000 in
theorem in_wsL_law_r26 : ∀ w ∈ wsL_law_r26, w ∈ lw_tbl := fun w h => (goodIn_r (big := lw_tbl) wsL_law_r26 [651, 652, 653, 1301, 1302, 1303, 1304, 1102, 1104, 1305, 1307, 39, 1308, 1097, 1309, 1310, 1311, 1313, 40, 1314, 1094, 1315, 1316, 1317] (by decide +kernel) (by decide +kernel) w h).1
set_option maxRecDepth 20000 in
theorem in_wsL_law_r27 : ∀ w ∈ wsL_law_r27, w ∈ lw_tbl := fun w h => (goodIn_r (big := lw_tbl) wsL_law_r27 [1318, 1320, 41, 1321, 1098, 1099, 1322, 1324, 42, 1325, 1100, 1101, 1332, 1326, 1327, 1328, 1329, 1330, 1331, 1333, 1335, 43, 1336, 1338] (by decide +kernel) (by decide +kernel) w h).1
set_option maxRecDepth 20000 in
theorem in_wsL_law_r28 : ∀ w ∈ wsL_law_r28, w ∈ lw_tbl := fun w h => (goodIn_r (big := lw_tbl) wsL_law_r28 [1340, 44, 1341, 1342, 1343, 1344, 1346, 45, 1347, 1348, 1350, 46, 1351, 1352, 1354, 47, 1355, 1357, 1359, 48, 1360, 1363, 1365, 49] (by decide +kernel) (by decide +kernel) w h).1
set_option maxRecDepth 20000 in
theorem in_wsL_law_r29 : ∀ w ∈ wsL_law_r29, w ∈ lw_tbl := fun w h => (goodIn_r (big := lw_tbl) wsL_law_r29 [1366, 1369, 1371, 50, 1372, 1374, 1376, 51, 1377, 657, 658, 659, 660, 661, 662, 663, 664, 665, 666, 667, 668, 1380, 1381, 1382] (by decide +kernel) (by decide +kernel) w h).1
