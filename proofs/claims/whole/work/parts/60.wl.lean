theorem memapp {a b big : List Cond} (h1 : ∀ w ∈ a, noE w = true → w ∈ big) (h2 : ∀ w ∈ b, noE w = true → w ∈ big) : ∀ w ∈ a ++ b, noE w = true → w ∈ big := fun w h e => (List.mem_append.mp h).elim (fun h => h1 w h e) (fun h => h2 w h e)
set_option maxRecDepth 20000 in
theorem wl_wsL_law0_r1 : ∀ w ∈ wsL_law0_r1, w ∈ lw_tbl := fun w h => (goodIn_r (wsL_law0_r1) [111, 112, 93, 1084, 1085, 98, 1500, 113, 114, 115, 116, 117, 118, 119, 120, 94, 260, 208, 209, 96, 261, 228, 229, 97] (by decide +kernel) (by decide +kernel) w h).1
theorem wf_wsL_law0_r1 : ∀ w ∈ wsL_law0_r1, noE w = true → w ∈ lw_tbl := fun w h _ => wl_wsL_law0_r1 w h
set_option maxRecDepth 20000 in
theorem wl_wsL_law0_r2 : ∀ w ∈ wsL_law0_r2, w ∈ lw_tbl := fun w h => (goodIn_r (wsL_law0_r2) [262, 121, 122, 123, 124, 125, 126, 95, 176, 162, 177, 178, 179, 180, 181, 182, 184, 185, 186, 127, 128, 129, 130, 134] (by decide +kernel) (by decide +kernel) w h).1
theorem wf_wsL_law0_r2 : ∀ w ∈ wsL_law0_r2, noE w = true → w ∈ lw_tbl := fun w h _ => wl_wsL_law0_r2 w h
set_option maxRecDepth 20000 in
theorem wl_wsL_law0_r3 : ∀ w ∈ wsL_law0_r3, w ∈ lw_tbl := fun w h => (goodIn_r (wsL_law0_r3) [135, 136, 137, 138, 139, 140, 141, 142, 132, 133, 164, 165, 166, 167, 169, 170, 171, 172, 173, 174, 210, 211, 212, 213] (by decide +kernel) (by decide +kernel) w h).1
theorem wf_wsL_law0_r3 : ∀ w ∈ wsL_law0_r3, noE w = true → w ∈ lw_tbl := fun w h _ => wl_wsL_law0_r3 w h
set_option maxRecDepth 20000 in
theorem wl_wsL_law0_r4 : ∀ w ∈ wsL_law0_r4, w ∈ lw_tbl := fun w h => (goodIn_r (wsL_law0_r4) [214, 217, 218, 220, 216, 231, 232, 233, 234, 235, 237, 238, 239, 241, 243, 1086, 1087, 1088, 1089, 1090, 1091, 1092, 1094, 1098] (by decide +kernel) (by decide +kernel) w h).1
theorem wf_wsL_law0_r4 : ∀ w ∈ wsL_law0_r4, noE w = true → w ∈ lw_tbl := fun w h _ => wl_wsL_law0_r4 w h
set_option maxRecDepth 20000 in
theorem wl_wsL_law0_r5 : ∀ w ∈ wsL_law0_r5, w ∈ lw_tbl := fun w h => (goodIn_r (wsL_law0_r5) [1101, 893, 894, 92, 895, 896, 897, 898, 899, 900, 453, 454, 455, 456, 706, 707, 708, 709, 102, 777, 103, 793, 104, 418] (by decide +kernel) (by decide +kernel) w h).1
theorem wf_wsL_law0_r5 : ∀ w ∈ wsL_law0_r5, noE w = true → w ∈ lw_tbl := fun w h _ => wl_wsL_law0_r5 w h
set_option maxRecDepth 20000 in
theorem wl_wsL_law0_r6 : ∀ w ∈ wsL_law0_r6, w ∈ lw_tbl := fun w h => (goodIn_r (wsL_law0_r6) [419, 420, 421, 438, 288, 105, 289, 422, 424, 10, 425, 426, 427, 428, 429, 430, 431, 432, 433, 435, 436, 571, 572, 573] (by decide +kernel) (by decide +kernel) w h).1
theorem wf_wsL_law0_r6 : ∀ w ∈ wsL_law0_r6, noE w = true → w ∈ lw_tbl := fun w h _ => wl_wsL_law0_r6 w h
set_option maxRecDepth 20000 in
theorem wl_wsL_law0_r7 : ∀ w ∈ wsL_law0_r7, w ∈ lw_tbl := fun w h => (goodIn_r (wsL_law0_r7) [574, 575, 576, 577, 578, 579, 580, 581, 582, 561, 562, 583, 584, 585, 586, 1134, 1135, 1136, 1137, 1138, 1140, 32, 1141, 1097] (by decide +kernel) (by decide +kernel) w h).1
theorem wf_wsL_law0_r7 : ∀ w ∈ wsL_law0_r7, noE w = true → w ∈ lw_tbl := fun w h _ => wl_wsL_law0_r7 w h
set_option maxRecDepth 20000 in
theorem wl_wsL_law0_r8 : ∀ w ∈ wsL_law0_r8, w ∈ lw_tbl := fun w h => (goodIn_r (wsL_law0_r8) [1142, 1143, 1144, 1145, 1147, 33, 1148, 1149, 1151, 34, 1152, 1153, 1155, 35, 1156, 1157, 1159, 36, 1160, 1161, 1163, 37, 1164, 1096] (by decide +kernel) (by decide +kernel) w h).1
theorem wf_wsL_law0_r8 : ∀ w ∈ wsL_law0_r8, noE w = true → w ∈ lw_tbl := fun w h _ => wl_wsL_law0_r8 w h
set_option maxRecDepth 20000 in
theorem wl_wsL_law0_r9 : ∀ w ∈ wsL_law0_r9, w ∈ lw_tbl := fun w h => (goodIn_r (wsL_law0_r9) [1093, 1130, 1131, 1132, 1133, 901, 902, 903, 904, 905, 906, 907, 908, 457, 458, 459, 460, 462, 463, 464, 465, 466, 467, 468] (by decide +kernel) (by decide +kernel) w h).1
theorem wf_wsL_law0_r9 : ∀ w ∈ wsL_law0_r9, noE w = true → w ∈ lw_tbl := fun w h _ => wl_wsL_law0_r9 w h
set_option maxRecDepth 20000 in
theorem wl_wsL_law0_r10 : ∀ w ∈ wsL_law0_r10, w ∈ lw_tbl := fun w h => (goodIn_r (wsL_law0_r10) [469, 470, 471, 472, 473, 474, 475, 476, 477, 478, 479, 480, 481, 482, 483, 484, 485, 486, 487, 488, 490, 12, 491, 492] (by decide +kernel) (by decide +kernel) w h).1
theorem wf_wsL_law0_r10 : ∀ w ∈ wsL_law0_r10, noE w = true → w ∈ lw_tbl := fun w h _ => wl_wsL_law0_r10 w h
set_option maxRecDepth 20000 in
theorem wl_wsL_law0_r11 : ∀ w ∈ wsL_law0_r11, w ∈ lw_tbl := fun w h => (goodIn_r (wsL_law0_r11) [493, 494, 495, 497, 498, 499, 500, 501, 502, 503, 504, 505, 507, 13, 508, 278, 279, 280, 281, 282, 283, 284, 285, 286] (by decide +kernel) (by decide +kernel) w h).1
theorem wf_wsL_law0_r11 : ∀ w ∈ wsL_law0_r11, noE w = true → w ∈ lw_tbl := fun w h _ => wl_wsL_law0_r11 w h
set_option maxRecDepth 20000 in
theorem wl_wsL_law0_r12 : ∀ w ∈ wsL_law0_r12, w ∈ lw_tbl := fun w h => (goodIn_r (wsL_law0_r12) [287, 509, 510, 511, 512, 294, 295, 296, 297, 514, 515, 516, 517, 587, 588, 589, 590, 591, 593, 17, 594, 595, 597, 18] (by decide +kernel) (by decide +kernel) w h).1
theorem wf_wsL_law0_r12 : ∀ w ∈ wsL_law0_r12, noE w = true → w ∈ lw_tbl := fun w h _ => wl_wsL_law0_r12 w h
set_option maxRecDepth 20000 in
theorem wl_wsL_law0_r13 : ∀ w ∈ wsL_law0_r13, w ∈ lw_tbl := fun w h => (goodIn_r (wsL_law0_r13) [598, 290, 291, 292, 293, 298, 300, 0, 301, 599, 600, 601, 602, 603, 604, 605, 606, 607, 608, 609, 610, 611, 612, 614] (by decide +kernel) (by decide +kernel) w h).1
theorem wf_wsL_law0_r13 : ∀ w ∈ wsL_law0_r13, noE w = true → w ∈ lw_tbl := fun w h _ => wl_wsL_law0_r13 w h
set_option maxRecDepth 20000 in
theorem wl_wsL_law0_r14 : ∀ w ∈ wsL_law0_r14, w ∈ lw_tbl := fun w h => (goodIn_r (wsL_law0_r14) [19, 615, 616, 617, 618, 619, 620, 622, 20, 623, 532, 533, 534, 535, 624, 625, 626, 627, 628, 629, 630, 631, 632, 634] (by decide +kernel) (by decide +kernel) w h).1
theorem wf_wsL_law0_r14 : ∀ w ∈ wsL_law0_r14, noE w = true → w ∈ lw_tbl := fun w h _ => wl_wsL_law0_r14 w h
set_option maxRecDepth 20000 in
theorem wl_wsL_law0_r15 : ∀ w ∈ wsL_law0_r15, w ∈ lw_tbl := fun w h => (goodIn_r (wsL_law0_r15) [21, 635, 636, 637, 638, 639, 640, 641, 642, 643, 644, 645, 646, 1165, 1166, 1167, 1168, 1169, 1171, 38, 1172, 1173, 1174, 1175] (by decide +kernel) (by decide +kernel) w h).1
theorem wf_wsL_law0_r15 : ∀ w ∈ wsL_law0_r15, noE w = true → w ∈ lw_tbl := fun w h _ => wl_wsL_law0_r15 w h
set_option maxRecDepth 20000 in
theorem wl_wsL_law0_r16 : ∀ w ∈ wsL_law0_r16, w ∈ lw_tbl := fun w h => (goodIn_r (wsL_law0_r16) [1176, 1178, 39, 1179, 1180, 1182, 40, 1183, 1184, 1186, 41, 1187, 1188, 1190, 42, 1191, 1192, 1194, 43, 1195, 1196, 1198, 44, 1199] (by decide +kernel) (by decide +kernel) w h).1
theorem wf_wsL_law0_r16 : ∀ w ∈ wsL_law0_r16, noE w = true → w ∈ lw_tbl := fun w h _ => wl_wsL_law0_r16 w h
set_option maxRecDepth 20000 in
theorem wl_wsL_law0_r17 : ∀ w ∈ wsL_law0_r17, w ∈ lw_tbl := fun w h => (goodIn_r (wsL_law0_r17) [1200, 1202, 45, 1203, 1204, 1206, 46, 1207, 1208, 1210, 47, 1211, 1212, 1214, 48, 1215, 1216, 1218, 49, 1219, 1220, 1222, 50, 1223] (by decide +kernel) (by decide +kernel) w h).1
theorem wf_wsL_law0_r17 : ∀ w ∈ wsL_law0_r17, noE w = true → w ∈ lw_tbl := fun w h _ => wl_wsL_law0_r17 w h
set_option maxRecDepth 20000 in
theorem wl_wsL_law0_r18 : ∀ w ∈ wsL_law0_r18, w ∈ lw_tbl := fun w h => (goodIn_r (wsL_law0_r18) [1224, 1226, 51, 1227, 1228, 1230, 52, 1231, 1232, 1234, 53, 1235, 1236, 1238, 54, 1239, 1240, 1242, 55, 1243, 1244, 1246, 56, 1247] (by decide +kernel) (by decide +kernel) w h).1
theorem wf_wsL_law0_r18 : ∀ w ∈ wsL_law0_r18, noE w = true → w ∈ lw_tbl := fun w h _ => wl_wsL_law0_r18 w h
set_option maxRecDepth 20000 in
theorem wl_wsL_law0_r19 : ∀ w ∈ wsL_law0_r19, w ∈ lw_tbl := fun w h => (goodIn_r (wsL_law0_r19) [1248, 1250, 57, 1251, 1252, 1254, 58, 1255, 1256, 1258, 59, 1259, 1260, 1262, 60, 1263, 1264, 1266, 61, 1267, 1268, 1270, 62, 1271] (by decide +kernel) (by decide +kernel) w h).1
theorem wf_wsL_law0_r19 : ∀ w ∈ wsL_law0_r19, noE w = true → w ∈ lw_tbl := fun w h _ => wl_wsL_law0_r19 w h
set_option maxRecDepth 20000 in
theorem wl_wsL_law0_r20 : ∀ w ∈ wsL_law0_r20, w ∈ lw_tbl := fun w h => (goodIn_r (wsL_law0_r20) [1272, 1274, 63, 1275, 909, 910, 911, 912, 913, 914, 915, 518, 519, 520, 521, 522, 523, 524, 525, 526, 527, 528, 529, 530] (by decide +kernel) (by decide +kernel) w h).1
theorem wf_wsL_law0_r20 : ∀ w ∈ wsL_law0_r20, noE w = true → w ∈ lw_tbl := fun w h _ => wl_wsL_law0_r20 w h
set_option maxRecDepth 20000 in
theorem wl_wsL_law0_r21 : ∀ w ∈ wsL_law0_r21, w ∈ lw_tbl := fun w h => (goodIn_r (wsL_law0_r21) [531, 536, 538, 14, 539, 647, 648, 649, 650, 651, 652, 653, 654, 655, 656, 657, 658, 1276, 1277, 1278, 1279, 1280, 1282, 64] (by decide +kernel) (by decide +kernel) w h).1
theorem wf_wsL_law0_r21 : ∀ w ∈ wsL_law0_r21, noE w = true → w ∈ lw_tbl := fun w h _ => wl_wsL_law0_r21 w h
set_option maxRecDepth 20000 in
theorem wl_wsL_law0_r22 : ∀ w ∈ wsL_law0_r22, w ∈ lw_tbl := fun w h => (goodIn_r (wsL_law0_r22) [1283, 1284, 1286, 65, 1287, 916, 917, 918, 919, 920, 921, 922, 540, 541, 542, 543, 659, 660, 661, 662, 663, 665, 22, 666] (by decide +kernel) (by decide +kernel) w h).1
theorem wf_wsL_law0_r22 : ∀ w ∈ wsL_law0_r22, noE w = true → w ∈ lw_tbl := fun w h _ => wl_wsL_law0_r22 w h
set_option maxRecDepth 20000 in
theorem wl_wsL_law0_r23 : ∀ w ∈ wsL_law0_r23, w ∈ lw_tbl := fun w h => (goodIn_r (wsL_law0_r23) [667, 669, 23, 670, 671, 672, 673, 674, 675, 676, 677, 678, 679, 680, 681, 682, 1288, 1289, 1290, 1291, 1292, 1294, 66, 1295] (by decide +kernel) (by decide +kernel) w h).1
theorem wf_wsL_law0_r23 : ∀ w ∈ wsL_law0_r23, noE w = true → w ∈ lw_tbl := fun w h _ => wl_wsL_law0_r23 w h
set_option maxRecDepth 20000 in
theorem wl_wsL_law0_r24 : ∀ w ∈ wsL_law0_r24, w ∈ lw_tbl := fun w h => (goodIn_r (wsL_law0_r24) [1296, 1298, 67, 1299, 1300, 1302, 68, 1303, 923, 924, 925, 926, 927, 928, 929, 544, 545, 546, 547, 683, 1304, 1305, 1306, 1307] (by decide +kernel) (by decide +kernel) w h).1
theorem wf_wsL_law0_r24 : ∀ w ∈ wsL_law0_r24, noE w = true → w ∈ lw_tbl := fun w h _ => wl_wsL_law0_r24 w h
set_option maxRecDepth 20000 in
theorem wl_wsL_law0_r25 : ∀ w ∈ wsL_law0_r25, w ∈ lw_tbl := fun w h => (goodIn_r (wsL_law0_r25) [1308, 1310, 69, 1311, 930, 931, 932, 933, 934, 935, 936, 548, 549, 550, 551, 552, 554, 15, 555, 556, 557, 558, 559, 684] (by decide +kernel) (by decide +kernel) w h).1
theorem wf_wsL_law0_r25 : ∀ w ∈ wsL_law0_r25, noE w = true → w ∈ lw_tbl := fun w h _ => wl_wsL_law0_r25 w h
set_option maxRecDepth 20000 in
theorem wl_wsL_law0_r26 : ∀ w ∈ wsL_law0_r26, w ∈ lw_tbl := fun w h => (goodIn_r (wsL_law0_r26) [685, 686, 687, 1312, 1313, 1314, 1315, 1316, 1318, 70, 1319, 937, 938, 939, 940, 941, 942, 943, 944, 563, 564, 565, 566, 688] (by decide +kernel) (by decide +kernel) w h).1
theorem wf_wsL_law0_r26 : ∀ w ∈ wsL_law0_r26, noE w = true → w ∈ lw_tbl := fun w h _ => wl_wsL_law0_r26 w h
set_option maxRecDepth 20000 in
theorem wl_wsL_law0_r27 : ∀ w ∈ wsL_law0_r27, w ∈ lw_tbl := fun w h => (goodIn_r (wsL_law0_r27) [689, 690, 691, 1320, 1321, 1322, 1323, 1324, 1326, 71, 1327, 1328, 1330, 72, 1331, 945, 946, 947, 948, 949, 950, 951, 952, 953] (by decide +kernel) (by decide +kernel) w h).1
theorem wf_wsL_law0_r27 : ∀ w ∈ wsL_law0_r27, noE w = true → w ∈ lw_tbl := fun w h _ => wl_wsL_law0_r27 w h
set_option maxRecDepth 20000 in
theorem wl_wsL_law0_r28 : ∀ w ∈ wsL_law0_r28, w ∈ lw_tbl := fun w h => (goodIn_r (wsL_law0_r28) [954, 705, 955, 956, 957, 958, 1332, 1333, 1334, 1335, 1336, 1337, 1338, 1339, 1341, 73, 1342, 959, 960, 961, 962, 963, 964, 965] (by decide +kernel) (by decide +kernel) w h).1
theorem wf_wsL_law0_r28 : ∀ w ∈ wsL_law0_r28, noE w = true → w ∈ lw_tbl := fun w h _ => wl_wsL_law0_r28 w h
set_option maxRecDepth 20000 in
theorem wl_wsL_law0_r29 : ∀ w ∈ wsL_law0_r29, w ∈ lw_tbl := fun w h => (goodIn_r (wsL_law0_r29) [966, 967, 968, 969, 892, 1343, 1344, 1345, 1346, 970, 971, 972, 973, 974, 975, 976, 977, 978, 979, 980, 981, 982, 983, 984] (by decide +kernel) (by decide +kernel) w h).1
theorem wf_wsL_law0_r29 : ∀ w ∈ wsL_law0_r29, noE w = true → w ∈ lw_tbl := fun w h _ => wl_wsL_law0_r29 w h
set_option maxRecDepth 20000 in
theorem wl_wsL_law0_r30 : ∀ w ∈ wsL_law0_r30, w ∈ lw_tbl := fun w h => (goodIn_r (wsL_law0_r30) [1347, 1348, 1349, 1350, 1351, 1352, 1353, 985, 986, 987, 988, 989, 990, 991, 874, 814, 815, 816, 817, 818, 819, 820, 992, 993] (by decide +kernel) (by decide +kernel) w h).1
theorem wf_wsL_law0_r30 : ∀ w ∈ wsL_law0_r30, noE w = true → w ∈ lw_tbl := fun w h _ => wl_wsL_law0_r30 w h
set_option maxRecDepth 20000 in
theorem wl_wsL_law0_r31 : ∀ w ∈ wsL_law0_r31, w ∈ lw_tbl := fun w h => (goodIn_r (wsL_law0_r31) [994, 875, 876, 877, 878, 879, 880, 881, 882, 883, 885, 30, 886, 1354, 1355, 1356, 1357, 1358, 1360, 74, 1361, 1362, 1364, 75] (by decide +kernel) (by decide +kernel) w h).1
theorem wf_wsL_law0_r31 : ∀ w ∈ wsL_law0_r31, noE w = true → w ∈ lw_tbl := fun w h _ => wl_wsL_law0_r31 w h
set_option maxRecDepth 20000 in
theorem wl_wsL_law0_r32 : ∀ w ∈ wsL_law0_r32, w ∈ lw_tbl := fun w h => (goodIn_r (wsL_law0_r32) [1365, 995, 996, 997, 998, 999, 1000, 1001, 845, 846, 847, 848, 1366, 1367, 1368, 1369, 1370, 1372, 76, 1373, 1002, 1003, 1004, 1005] (by decide +kernel) (by decide +kernel) w h).1
theorem wf_wsL_law0_r32 : ∀ w ∈ wsL_law0_r32, noE w = true → w ∈ lw_tbl := fun w h _ => wl_wsL_law0_r32 w h
set_option maxRecDepth 20000 in
theorem wl_wsL_law0_r33 : ∀ w ∈ wsL_law0_r33, w ∈ lw_tbl := fun w h => (goodIn_r (wsL_law0_r33) [1006, 1007, 1008, 853, 854, 855, 856, 1374, 1375, 1376, 1377, 1378, 1380, 77, 1381, 1009, 1010, 1011, 1012, 1013, 1014, 1015, 861, 862] (by decide +kernel) (by decide +kernel) w h).1
theorem wf_wsL_law0_r33 : ∀ w ∈ wsL_law0_r33, noE w = true → w ∈ lw_tbl := fun w h _ => wl_wsL_law0_r33 w h
set_option maxRecDepth 20000 in
theorem wl_wsL_law0_r34 : ∀ w ∈ wsL_law0_r34, w ∈ lw_tbl := fun w h => (goodIn_r (wsL_law0_r34) [863, 864, 865, 866, 867, 868, 1382, 1383, 1384, 1385, 1386, 1388, 78, 1389, 1016, 1017, 1018, 1019, 702, 703, 704, 809, 810, 811] (by decide +kernel) (by decide +kernel) w h).1
theorem wf_wsL_law0_r34 : ∀ w ∈ wsL_law0_r34, noE w = true → w ∈ lw_tbl := fun w h _ => wl_wsL_law0_r34 w h
set_option maxRecDepth 20000 in
theorem wl_wsL_law0_r35 : ∀ w ∈ wsL_law0_r35, w ∈ lw_tbl := fun w h => (goodIn_r (wsL_law0_r35) [812, 813, 821, 823, 25, 824, 825, 826, 827, 828, 829, 830, 831, 832, 833, 834, 835, 836, 837, 838, 839, 840, 1390, 1391] (by decide +kernel) (by decide +kernel) w h).1
theorem wf_wsL_law0_r35 : ∀ w ∈ wsL_law0_r35, noE w = true → w ∈ lw_tbl := fun w h _ => wl_wsL_law0_r35 w h
set_option maxRecDepth 20000 in
theorem wl_wsL_law0_r36 : ∀ w ∈ wsL_law0_r36, w ∈ lw_tbl := fun w h => (goodIn_r (wsL_law0_r36) [1392, 1393, 1394, 1396, 79, 1397, 1095, 1398, 1400, 80, 1401, 1402, 1404, 81, 1405, 1406, 1408, 82, 1409, 270, 271, 272, 273, 274] (by decide +kernel) (by decide +kernel) w h).1
theorem wf_wsL_law0_r36 : ∀ w ∈ wsL_law0_r36, noE w = true → w ∈ lw_tbl := fun w h _ => wl_wsL_law0_r36 w h
set_option maxRecDepth 20000 in
theorem wl_wsL_law0_r37 : ∀ w ∈ wsL_law0_r37, w ∈ lw_tbl := fun w h => (goodIn_r (wsL_law0_r37) [275, 276, 277, 1410, 1411, 1412, 1413, 1414, 1416, 83, 1417, 1020, 1021, 1022, 1023, 1024, 1025, 1026, 1027, 1418, 1419, 1420, 1421, 1028] (by decide +kernel) (by decide +kernel) w h).1
theorem wf_wsL_law0_r37 : ∀ w ∈ wsL_law0_r37, noE w = true → w ∈ lw_tbl := fun w h _ => wl_wsL_law0_r37 w h
set_option maxRecDepth 20000 in
theorem wl_wsL_law0_r38 : ∀ w ∈ wsL_law0_r38, w ∈ lw_tbl := fun w h => (goodIn_r (wsL_law0_r38) [1029, 1030, 1031, 1032, 1033, 1034, 1035, 1422, 1423, 1424, 1425, 1036, 1037, 1038, 1039, 1040, 1041, 1042, 1043, 1426, 1427, 1428, 1429, 1044] (by decide +kernel) (by decide +kernel) w h).1
theorem wf_wsL_law0_r38 : ∀ w ∈ wsL_law0_r38, noE w = true → w ∈ lw_tbl := fun w h _ => wl_wsL_law0_r38 w h
set_option maxRecDepth 20000 in
theorem wl_wsL_law0_r39 : ∀ w ∈ wsL_law0_r39, w ∈ lw_tbl := fun w h => (goodIn_r (wsL_law0_r39) [1045, 1046, 1047, 1048, 1049, 1050, 1051, 1052, 1053, 1054, 1055, 1056, 1430, 1431, 1432, 1433, 1057, 1058, 1059, 1060, 1061, 1062, 1063, 1064] (by decide +kernel) (by decide +kernel) w h).1
theorem wf_wsL_law0_r39 : ∀ w ∈ wsL_law0_r39, noE w = true → w ∈ lw_tbl := fun w h _ => wl_wsL_law0_r39 w h
set_option maxRecDepth 20000 in
theorem wl_wsL_law0_r40 : ∀ w ∈ wsL_law0_r40, w ∈ lw_tbl := fun w h => (goodIn_r (wsL_law0_r40) [1065, 1066, 1067, 1068, 1069, 1070, 1071, 1434, 1435, 1436, 1437, 302, 303, 304, 305, 306, 307, 308, 309, 1438, 1439, 1440, 1441, 310] (by decide +kernel) (by decide +kernel) w h).1
theorem wf_wsL_law0_r40 : ∀ w ∈ wsL_law0_r40, noE w = true → w ∈ lw_tbl := fun w h _ => wl_wsL_law0_r40 w h
set_option maxRecDepth 20000 in
theorem wl_wsL_law0_r41 : ∀ w ∈ wsL_law0_r41, w ∈ lw_tbl := fun w h => (goodIn_r (wsL_law0_r41) [311, 312, 313, 314, 315, 316, 317, 318, 319, 320, 321, 322, 323, 324, 325, 326, 328, 1, 329, 330, 332, 2, 333, 334] (by decide +kernel) (by decide +kernel) w h).1
theorem wf_wsL_law0_r41 : ∀ w ∈ wsL_law0_r41, noE w = true → w ∈ lw_tbl := fun w h _ => wl_wsL_law0_r41 w h
set_option maxRecDepth 20000 in
theorem wl_wsL_law0_r42 : ∀ w ∈ wsL_law0_r42, w ∈ lw_tbl := fun w h => (goodIn_r (wsL_law0_r42) [335, 336, 337, 339, 3, 340, 341, 343, 4, 344, 345, 347, 5, 348, 351, 353, 6, 354, 355, 356, 357, 106, 358, 1503] (by decide +kernel) (by decide +kernel) w h).1
theorem wf_wsL_law0_r42 : ∀ w ∈ wsL_law0_r42, noE w = true → w ∈ lw_tbl := fun w h _ => wl_wsL_law0_r42 w h
set_option maxRecDepth 20000 in
theorem wl_wsL_law0_r43 : ∀ w ∈ wsL_law0_r43, w ∈ lw_tbl := fun w h => (goodIn_r (wsL_law0_r43) [359, 360, 361, 362, 363, 1504, 365, 366, 367, 368, 369, 370, 371, 372, 373, 374, 107, 375, 376, 377, 378, 379, 381, 382] (by decide +kernel) (by decide +kernel) w h).1
theorem wf_wsL_law0_r43 : ∀ w ∈ wsL_law0_r43, noE w = true → w ∈ lw_tbl := fun w h _ => wl_wsL_law0_r43 w h
set_option maxRecDepth 20000 in
theorem wl_wsL_law0_r44 : ∀ w ∈ wsL_law0_r44, w ∈ lw_tbl := fun w h => (goodIn_r (wsL_law0_r44) [108, 383, 384, 385, 109, 386, 387, 388, 389, 390, 391, 392, 393, 394, 395, 396, 397, 399, 401, 403, 405, 7, 406, 407] (by decide +kernel) (by decide +kernel) w h).1
theorem wf_wsL_law0_r44 : ∀ w ∈ wsL_law0_r44, noE w = true → w ∈ lw_tbl := fun w h _ => wl_wsL_law0_r44 w h
set_option maxRecDepth 20000 in
theorem wl_wsL_law0_r45 : ∀ w ∈ wsL_law0_r45.filter noE, w ∈ lw_tbl := fun w h => (goodIn_r (wsL_law0_r45.filter noE) [409, 8, 410, 411, 412, 413, 414, 416, 9, 417, 439, 440, 441, 443, 11, 444, 445, 447, 448, 450, 451, 452, 1506] (by decide +kernel) (by decide +kernel) w h).1
theorem wf_wsL_law0_r45 : ∀ w ∈ wsL_law0_r45, noE w = true → w ∈ lw_tbl := fun w h e => wl_wsL_law0_r45 w (List.mem_filter.mpr ⟨h, e⟩)
set_option maxRecDepth 20000 in
theorem wl_wsL_law0_r46 : ∀ w ∈ wsL_law0_r46, w ∈ lw_tbl := fun w h => (goodIn_r (wsL_law0_r46) [567, 569, 16, 570, 1442, 1443, 1444, 1445, 1099, 1446, 1448, 84, 1449, 1450, 1452, 85, 1453, 1454, 1456, 86, 1457, 1100, 1458, 1460] (by decide +kernel) (by decide +kernel) w h).1
theorem wf_wsL_law0_r46 : ∀ w ∈ wsL_law0_r46, noE w = true → w ∈ lw_tbl := fun w h _ => wl_wsL_law0_r46 w h
set_option maxRecDepth 20000 in
theorem wl_wsL_law0_r47 : ∀ w ∈ wsL_law0_r47, w ∈ lw_tbl := fun w h => (goodIn_r (wsL_law0_r47) [87, 1461, 1462, 1463, 1464, 1465, 1466, 1467, 1468, 1469, 1470, 1471, 1472, 1473, 1474, 1476, 88, 1477, 1478, 1480, 89, 1481, 1073, 1074] (by decide +kernel) (by decide +kernel) w h).1
theorem wf_wsL_law0_r47 : ∀ w ∈ wsL_law0_r47, noE w = true → w ∈ lw_tbl := fun w h _ => wl_wsL_law0_r47 w h
set_option maxRecDepth 20000 in
theorem wl_wsL_law0_r48 : ∀ w ∈ wsL_law0_r48, w ∈ lw_tbl := fun w h => (goodIn_r (wsL_law0_r48) [1075, 1076, 1077, 1078, 1079, 1080, 1081, 1082, 1083, 1482, 1483, 1484, 1485, 692, 693, 694, 695, 696, 697, 698, 699, 700, 701, 841] (by decide +kernel) (by decide +kernel) w h).1
theorem wf_wsL_law0_r48 : ∀ w ∈ wsL_law0_r48, noE w = true → w ∈ lw_tbl := fun w h _ => wl_wsL_law0_r48 w h
set_option maxRecDepth 20000 in
theorem wl_wsL_law0_r49 : ∀ w ∈ wsL_law0_r49, w ∈ lw_tbl := fun w h => (goodIn_r (wsL_law0_r49) [843, 26, 844, 849, 851, 27, 852, 857, 859, 28, 860, 870, 872, 29, 873, 887, 888, 890, 31, 891, 1486, 1487, 1488, 1489] (by decide +kernel) (by decide +kernel) w h).1
theorem wf_wsL_law0_r49 : ∀ w ∈ wsL_law0_r49, noE w = true → w ∈ lw_tbl := fun w h _ => wl_wsL_law0_r49 w h
set_option maxRecDepth 20000 in
theorem wl_wsL_law0_r50 : ∀ w ∈ wsL_law0_r50, w ∈ lw_tbl := fun w h => (goodIn_r (wsL_law0_r50) [1490, 1102, 1491, 1493, 90, 1494, 1495, 1496, 1498, 91, 1499] (by decide +kernel) (by decide +kernel) w h).1
theorem wf_wsL_law0_r50 : ∀ w ∈ wsL_law0_r50, noE w = true → w ∈ lw_tbl := fun w h _ => wl_wsL_law0_r50 w h
set_option maxRecDepth 20000 in
theorem wl_wsX60 : ∀ w ∈ wsX60, w ∈ lw_tbl := fun w h => (goodIn_r (wsX60) [263, 265, 267] (by decide +kernel) (by decide +kernel) w h).1
theorem wf_wsX60 : ∀ w ∈ wsX60, noE w = true → w ∈ lw_tbl := fun w h _ => wl_wsX60 w h
set_option maxRecDepth 20000 in
theorem wl_wsX70 : ∀ w ∈ wsX70, w ∈ lw_tbl := fun w h => (goodIn_r (wsX70) [1103, 1105, 1107, 1109, 1111, 1113, 1115, 1117, 1119, 1121, 1123, 1125, 1127] (by decide +kernel) (by decide +kernel) w h).1
theorem wf_wsX70 : ∀ w ∈ wsX70, noE w = true → w ∈ lw_tbl := fun w h _ => wl_wsX70 w h
set_option maxRecDepth 20000 in
theorem wl_wsX40 : ∀ w ∈ wsX40, w ∈ lw_tbl := fun w h => (goodIn_r (wsX40) [187, 189, 191, 193, 195, 197, 199, 201, 203, 205] (by decide +kernel) (by decide +kernel) w h).1
theorem wf_wsX40 : ∀ w ∈ wsX40, noE w = true → w ∈ lw_tbl := fun w h _ => wl_wsX40 w h
set_option maxRecDepth 20000 in
theorem wl_wsX50 : ∀ w ∈ wsX50, w ∈ lw_tbl := fun w h => (goodIn_r (wsX50) [221, 223, 225] (by decide +kernel) (by decide +kernel) w h).1
theorem wf_wsX50 : ∀ w ∈ wsX50, noE w = true → w ∈ lw_tbl := fun w h _ => wl_wsX50 w h
set_option maxRecDepth 20000 in
theorem wl_wsX30 : ∀ w ∈ wsX30, w ∈ lw_tbl := fun w h => (goodIn_r (wsX30) [245, 247, 249, 251, 253, 255, 257] (by decide +kernel) (by decide +kernel) w h).1
theorem wf_wsX30 : ∀ w ∈ wsX30, noE w = true → w ∈ lw_tbl := fun w h _ => wl_wsX30 w h
set_option maxRecDepth 20000 in
theorem wl_wsX10 : ∀ w ∈ wsX10, w ∈ lw_tbl := fun w h => (goodIn_r (wsX10) [143, 145, 147, 149, 151, 153, 155, 157, 159] (by decide +kernel) (by decide +kernel) w h).1
theorem wf_wsX10 : ∀ w ∈ wsX10, noE w = true → w ∈ lw_tbl := fun w h _ => wl_wsX10 w h
theorem wf_law0 : ∀ w ∈ wsL_law0, noE w = true → w ∈ lw_tbl := (memapp (memapp (memapp (memapp (memapp (memapp (memapp (memapp wf_wsL_law0_r1 (memapp wf_wsL_law0_r2 (memapp wf_wsL_law0_r3 (memapp wf_wsL_law0_r4 (memapp wf_wsL_law0_r5 (memapp wf_wsL_law0_r6 (memapp wf_wsL_law0_r7 (memapp wf_wsL_law0_r8 (memapp wf_wsL_law0_r9 (memapp wf_wsL_law0_r10 (memapp wf_wsL_law0_r11 (memapp wf_wsL_law0_r12 (memapp wf_wsL_law0_r13 (memapp wf_wsL_law0_r14 (memapp wf_wsL_law0_r15 (memapp wf_wsL_law0_r16 (memapp wf_wsL_law0_r17 (memapp wf_wsL_law0_r18 (memapp wf_wsL_law0_r19 (memapp wf_wsL_law0_r20 (memapp wf_wsL_law0_r21 (memapp wf_wsL_law0_r22 (memapp wf_wsL_law0_r23 (memapp wf_wsL_law0_r24 (memapp wf_wsL_law0_r25 (memapp wf_wsL_law0_r26 (memapp wf_wsL_law0_r27 (memapp wf_wsL_law0_r28 (memapp wf_wsL_law0_r29 (memapp wf_wsL_law0_r30 (memapp wf_wsL_law0_r31 (memapp wf_wsL_law0_r32 (memapp wf_wsL_law0_r33 (memapp wf_wsL_law0_r34 (memapp wf_wsL_law0_r35 (memapp wf_wsL_law0_r36 (memapp wf_wsL_law0_r37 (memapp wf_wsL_law0_r38 (memapp wf_wsL_law0_r39 (memapp wf_wsL_law0_r40 (memapp wf_wsL_law0_r41 (memapp wf_wsL_law0_r42 (memapp wf_wsL_law0_r43 (memapp wf_wsL_law0_r44 (memapp wf_wsL_law0_r45 (memapp wf_wsL_law0_r46 (memapp wf_wsL_law0_r47 (memapp wf_wsL_law0_r48 (memapp wf_wsL_law0_r49 wf_wsL_law0_r50))))))))))))))))))))))))))))))))))))))))))))))))) wf_wsX60) wf_wsX70) wf_wsX40) wf_wsX50) wf_wsX30) wf_wsX10) (fun _ h _ => absurd h List.not_mem_nil))
set_option maxRecDepth 20000 in
theorem wf_J1 : ∀ w ∈ (vx_atS RX6 239 "java/lang/IndexOutOfBoundsException" ["java/lang/RuntimeException", "java/lang/Exception"]).filter goodWord, noE w = true → w ∈ lw_tbl := fun w h _ => (goodIn_of (big := lw_tbl) _ (by decide +kernel) w h).1
set_option maxRecDepth 20000 in
theorem wf_J2 : ∀ w ∈ (vx_atS RX6 246 "java/lang/IllegalArgumentException" ["java/lang/RuntimeException", "java/lang/Exception"]).filter goodWord, noE w = true → w ∈ lw_tbl := fun w h _ => (goodIn_of (big := lw_tbl) _ (by decide +kernel) w h).1
set_option maxRecDepth 20000 in
theorem wf_J3 : ∀ w ∈ (vx_atS RX6 251 "java/lang/IllegalStateException" ["java/lang/RuntimeException", "java/lang/Exception"]).filter goodWord, noE w = true → w ∈ lw_tbl := fun w h _ => (goodIn_of (big := lw_tbl) _ (by decide +kernel) w h).1
theorem wf_law : ∀ w ∈ wsL_law, noE w = true → w ∈ lw_tbl := memapp (memapp (memapp wf_law0 wf_J1) wf_J2) wf_J3
def vsL_law : List Cond := wsL_law.filter noE
theorem vsL_law_in : ∀ w ∈ vsL_law, w ∈ lw_tbl := fun w h => wf_law w (List.mem_filter.mp h).1 (List.mem_filter.mp h).2
theorem goodIn_vsL {sub : List Cond} (h : GoodIn wsL_law sub) (hs : sub.all noE = true) : GoodIn vsL_law sub := fun w hw => ⟨List.mem_filter.mpr ⟨(h w hw).1, List.all_eq_true.mp hs w hw⟩, (h w hw).2⟩
