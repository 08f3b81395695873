theorem gtr {A B C : List Cond} (h : GoodIn A B) (h2 : GoodIn B C) : GoodIn A C := fun w hw => ⟨(h w (h2 w hw).1).1, (h2 w hw).2⟩
set_option maxRecDepth 20000 in
theorem inL_1 : GoodIn lw_tbl wsL_law_r1 := goodIn_r _ [77, 78, 54, 862, 863, 65, 79, 80, 81, 82, 83, 84, 85, 86, 55, 382, 105, 106, 56, 383, 132, 133, 57, 384] (by decide +kernel) (by decide +kernel)
set_option maxRecDepth 20000 in
theorem inL_2 : GoodIn lw_tbl wsL_law_r2 := goodIn_r _ [158, 159, 58, 385, 200, 201, 59, 386, 226, 227, 60, 387, 242, 243, 61, 388, 291, 292, 62, 389, 342, 343, 63, 390] (by decide +kernel) (by decide +kernel)
set_option maxRecDepth 20000 in
theorem inL_3 : GoodIn lw_tbl wsL_law_r3 := goodIn_r _ [357, 358, 64, 391, 87, 88, 89, 90, 104, 91, 107, 108, 109, 110, 111, 113, 114, 115, 116, 134, 135, 136, 137, 138] (by decide +kernel) (by decide +kernel)
set_option maxRecDepth 20000 in
theorem inL_4 : GoodIn lw_tbl wsL_law_r4 := goodIn_r _ [140, 142, 144, 160, 161, 162, 163, 164, 166, 168, 170, 172, 174, 199, 176, 202, 203, 204, 205, 206, 207, 208, 225, 209] (by decide +kernel) (by decide +kernel)
set_option maxRecDepth 20000 in
theorem inL_5 : GoodIn lw_tbl wsL_law_r5 := goodIn_r _ [210, 228, 229, 230, 231, 236, 232, 233, 234, 235, 244, 245, 246, 247, 258, 248, 250, 254, 256, 249, 293, 294, 295, 296] (by decide +kernel) (by decide +kernel)
set_option maxRecDepth 20000 in
theorem inL_6 : GoodIn lw_tbl wsL_law_r6 := goodIn_r _ [297, 299, 301, 303, 305, 307, 309, 311, 313, 315, 344, 345, 346, 347, 348, 359, 360, 361, 362, 365, 367, 369, 370, 864] (by decide +kernel) (by decide +kernel)
set_option maxRecDepth 20000 in
theorem inL_7 : GoodIn lw_tbl wsL_law_r7 := goodIn_r _ [865, 866, 867, 930, 931, 868, 869, 68, 932, 718, 933, 941, 942, 944, 945, 946, 947, 948, 951, 952, 953, 954, 955, 956] (by decide +kernel) (by decide +kernel)
set_option maxRecDepth 20000 in
theorem inL_8 : GoodIn lw_tbl wsL_law_r8 := goodIn_r _ [957, 958, 959, 960, 961, 962, 963, 970, 971, 972, 973, 974, 975, 976, 977, 978, 979, 981, 982, 905, 906, 907, 927, 928] (by decide +kernel) (by decide +kernel)
set_option maxRecDepth 20000 in
theorem inL_9 : GoodIn lw_tbl wsL_law_r9 := goodIn_r _ [929, 413, 414, 415, 416, 95, 417, 418, 419, 420, 96, 1090, 1091, 1092, 1093, 934, 1094, 1096, 25, 1097, 421, 422, 423, 424] (by decide +kernel) (by decide +kernel)
set_option maxRecDepth 20000 in
theorem inL_10 : GoodIn lw_tbl wsL_law_r10 := goodIn_r _ [1098, 1099, 1100, 1101, 1102, 1103, 1104, 425, 426, 427, 428, 117, 429, 430, 431, 432, 433, 434, 435, 436, 437, 438, 439, 440] (by decide +kernel) (by decide +kernel)
set_option maxRecDepth 20000 in
theorem inL_11 : GoodIn lw_tbl wsL_law_r11 := goodIn_r _ [441, 1174, 1175, 1176, 1177, 1190, 943, 1178, 1179, 1180, 1185, 1181, 1182, 1183, 1184, 1186, 1187, 1188, 1189, 1191, 1193, 35, 1194, 442] (by decide +kernel) (by decide +kernel)
set_option maxRecDepth 20000 in
theorem inL_12 : GoodIn lw_tbl wsL_law_r12 := goodIn_r _ [443, 444, 445, 112, 446, 448, 0, 449, 450, 451, 452, 453, 454, 456, 1, 457, 458, 459, 460, 461, 1195, 1196, 1197, 1198] (by decide +kernel) (by decide +kernel)
set_option maxRecDepth 20000 in
theorem inL_13 : GoodIn lw_tbl wsL_law_r13 := goodIn_r _ [1199, 1201, 36, 1202, 462, 463, 464, 465, 466, 467, 468, 469, 470, 471, 472, 473, 1203, 1204, 1205, 1206, 1219, 1207, 1209, 37] (by decide +kernel) (by decide +kernel)
set_option maxRecDepth 20000 in
theorem inL_14 : GoodIn lw_tbl wsL_law_r14 := goodIn_r _ [1210, 1211, 1213, 38, 1214, 1215, 1217, 39, 1218, 474, 475, 476, 477, 478, 479, 480, 481, 118, 483, 482, 1220, 1221, 1222, 1223] (by decide +kernel) (by decide +kernel)
set_option maxRecDepth 20000 in
theorem inL_15 : GoodIn lw_tbl wsL_law_r15 := goodIn_r _ [1224, 1226, 40, 1227, 1228, 1230, 41, 1231, 484, 485, 486, 487, 146, 488, 489, 490, 491, 492, 493, 494, 145, 1232, 1233, 1234] (by decide +kernel) (by decide +kernel)
set_option maxRecDepth 20000 in
theorem inL_16 : GoodIn lw_tbl wsL_law_r16 := goodIn_r _ [1235, 1171, 949, 495, 496, 497, 498, 499, 501, 2, 502, 503, 504, 505, 506, 507, 508, 509, 510, 1236, 1237, 1238, 1239, 1240] (by decide +kernel) (by decide +kernel)
set_option maxRecDepth 20000 in
theorem inL_17 : GoodIn lw_tbl wsL_law_r17 := goodIn_r _ [1242, 42, 1243, 511, 512, 513, 514, 181, 515, 516, 517, 518, 179, 1244, 1245, 1246, 1247, 1248, 950, 519, 520, 521, 522, 178] (by decide +kernel) (by decide +kernel)
set_option maxRecDepth 20000 in
theorem inL_18 : GoodIn lw_tbl wsL_law_r18 := goodIn_r _ [1249, 1250, 1251, 1252, 523, 524, 525, 526, 527, 528, 529, 530, 211, 180, 177, 165, 531, 532, 534, 3, 535, 173, 175, 169] (by decide +kernel) (by decide +kernel)
set_option maxRecDepth 20000 in
theorem inL_19 : GoodIn lw_tbl wsL_law_r19 := goodIn_r _ [171, 167, 536, 537, 538, 539, 540, 541, 542, 543, 544, 545, 546, 547, 548, 549, 69, 550, 551, 552, 553, 554, 555, 556] (by decide +kernel) (by decide +kernel)
set_option maxRecDepth 20000 in
theorem inL_20 : GoodIn lw_tbl wsL_law_r20 := goodIn_r _ [557, 558, 559, 560, 561, 562, 563, 564, 565, 566, 70, 567, 568, 569, 570, 571, 572, 573, 574, 575, 576, 577, 578, 579] (by decide +kernel) (by decide +kernel)
set_option maxRecDepth 20000 in
theorem inL_21 : GoodIn lw_tbl wsL_law_r21 := goodIn_r _ [580, 581, 582, 583, 584, 585, 586, 587, 588, 1253, 1254, 1255, 1256, 965, 966, 967, 968, 964, 1257, 1259, 43, 1260, 1261, 1263] (by decide +kernel) (by decide +kernel)
set_option maxRecDepth 20000 in
theorem inL_22 : GoodIn lw_tbl wsL_law_r22 := goodIn_r _ [44, 1264, 1265, 1266, 1267, 589, 590, 591, 592, 255, 251, 253, 593, 594, 595, 596, 252, 261, 262, 265, 264, 260, 98, 259] (by decide +kernel) (by decide +kernel)
set_option maxRecDepth 20000 in
theorem inL_23 : GoodIn lw_tbl wsL_law_r23 := goodIn_r _ [597, 598, 600, 4, 601, 93, 603, 604, 606, 607, 609, 610, 611, 613, 5, 614, 615, 617, 6, 618, 619, 620, 621, 630] (by decide +kernel) (by decide +kernel)
set_option maxRecDepth 20000 in
theorem inL_24 : GoodIn lw_tbl wsL_law_r24 := goodIn_r _ [632, 7, 633, 634, 635, 636, 71, 637, 1358, 638, 639, 640, 641, 642, 1359, 644, 645, 646, 647, 648, 649, 650, 651, 652] (by decide +kernel) (by decide +kernel)
set_option maxRecDepth 20000 in
theorem inL_25 : GoodIn lw_tbl wsL_law_r25 := goodIn_r _ [653, 72, 654, 655, 656, 657, 658, 660, 661, 73, 662, 663, 664, 74, 665, 666, 667, 668, 669, 670, 671, 672, 673, 674] (by decide +kernel) (by decide +kernel)
set_option maxRecDepth 20000 in
theorem inL_26 : GoodIn lw_tbl wsL_law_r26 := goodIn_r _ [675, 676, 678, 680, 682, 683, 684, 685, 687, 8, 688, 690, 692, 9, 693, 237, 696, 698, 10, 699, 263, 700, 702, 11] (by decide +kernel) (by decide +kernel)
set_option maxRecDepth 20000 in
theorem inL_27 : GoodIn lw_tbl wsL_law_r27 := goodIn_r _ [703, 704, 705, 706, 707, 709, 12, 710, 711, 712, 713, 714, 715, 717, 716, 75, 1105, 1106, 1107, 1108, 940, 1109, 1111, 26] (by decide +kernel) (by decide +kernel)
set_option maxRecDepth 20000 in
theorem inL_28 : GoodIn lw_tbl wsL_law_r28 := goodIn_r _ [1112, 935, 937, 1113, 1115, 27, 1116, 936, 938, 939, 1117, 1119, 28, 1120, 1121, 1122, 1123, 1124, 1125, 1126, 1127, 1129, 29, 1130] (by decide +kernel) (by decide +kernel)
set_option maxRecDepth 20000 in
theorem inL_29 : GoodIn lw_tbl wsL_law_r29 := goodIn_r _ [1131, 1133, 30, 1134, 1136, 1138, 31, 1139, 1140, 1141, 1153, 1155, 33, 1156, 1157, 1159, 34, 1160, 719, 720, 721, 722, 257, 1163] (by decide +kernel) (by decide +kernel)
set_option maxRecDepth 20000 in
theorem inL_30 : GoodIn lw_tbl wsL_law_r30 := goodIn_r _ [1164, 1165, 1166, 723, 724, 725, 726, 238, 1167, 1168, 1169, 1170, 1172, 1173, 727, 728, 729, 730, 318, 731, 732, 733, 734, 317] (by decide +kernel) (by decide +kernel)
set_option maxRecDepth 20000 in
theorem inL_31 : GoodIn lw_tbl wsL_law_r31 := goodIn_r _ [735, 736, 737, 738, 1268, 1269, 1270, 1271, 969, 739, 740, 741, 742, 743, 745, 13, 746, 747, 749, 14, 750, 298, 300, 302] (by decide +kernel) (by decide +kernel)
set_option maxRecDepth 20000 in
theorem inL_32 : GoodIn lw_tbl wsL_law_r32 := goodIn_r _ [141, 751, 752, 753, 754, 755, 757, 15, 758, 143, 304, 1272, 1273, 1274, 1275, 1276, 1278, 45, 1279, 1280, 1282, 46, 1283, 759] (by decide +kernel) (by decide +kernel)
set_option maxRecDepth 20000 in
theorem inL_33 : GoodIn lw_tbl wsL_law_r33 := goodIn_r _ [760, 761, 762, 306, 308, 763, 764, 765, 1284, 1285, 1286, 1287, 1288, 766, 767, 768, 769, 310, 770, 772, 16, 773, 1289, 1290] (by decide +kernel) (by decide +kernel)
set_option maxRecDepth 20000 in
theorem inL_34 : GoodIn lw_tbl wsL_law_r34 := goodIn_r _ [1291, 1292, 774, 775, 776, 777, 778, 780, 17, 781, 312, 782, 783, 784, 785, 350, 97, 92, 787, 788, 789, 792, 794, 18] (by decide +kernel) (by decide +kernel)
set_option maxRecDepth 20000 in
theorem inL_35 : GoodIn lw_tbl wsL_law_r35 := goodIn_r _ [795, 94, 796, 797, 799, 19, 800, 139, 801, 802, 803, 804, 806, 807, 808, 809, 351, 810, 812, 20, 813, 349, 814, 816] (by decide +kernel) (by decide +kernel)
set_option maxRecDepth 20000 in
theorem inL_36 : GoodIn lw_tbl wsL_law_r36 := goodIn_r _ [21, 817, 818, 820, 22, 821, 363, 822, 823, 824, 825, 364, 366, 368, 1293, 1294, 1295, 1296, 1297, 1298, 1314, 980, 1299, 1301] (by decide +kernel) (by decide +kernel)
set_option maxRecDepth 20000 in
theorem inL_37 : GoodIn lw_tbl wsL_law_r37 := goodIn_r _ [47, 1302, 1303, 1304, 1305, 1306, 1308, 48, 1309, 1310, 1312, 49, 1313, 1326, 1327, 76, 1328, 1315, 1317, 50, 1318, 1319, 1321, 51] (by decide +kernel) (by decide +kernel)
set_option maxRecDepth 20000 in
theorem inL_38 : GoodIn lw_tbl wsL_law_r38 := goodIn_r _ [1322, 1323, 1324, 1325, 826, 827, 828, 829, 314, 830, 832, 23, 833, 834, 835, 836, 837, 1329, 1330, 1331, 1332, 1333, 1335, 52] (by decide +kernel) (by decide +kernel)
set_option maxRecDepth 20000 in
theorem inL_39 : GoodIn lw_tbl wsL_law_r39 := goodIn_r _ [1336, 838, 839, 840, 841, 316, 1337, 1338, 1339, 1340, 842, 843, 844, 845, 1341, 1342, 1343, 1344, 846, 847, 848, 849, 1345, 1346] (by decide +kernel) (by decide +kernel)
set_option maxRecDepth 20000 in
theorem inL_40 : GoodIn lw_tbl wsL_law_r40 := goodIn_r _ [1347, 1348, 850, 851, 852, 853, 1349, 1350, 1351, 1352, 854, 855, 856, 857, 858, 859, 860, 861, 1353, 1354, 1355, 1356] (by decide +kernel) (by decide +kernel)
set_option maxRecDepth 20000 in
theorem inL_wsX100 : GoodIn lw_tbl wsX100 := goodIn_r _ [392, 394, 396, 398, 400, 402, 404, 406, 408, 410] (by decide +kernel) (by decide +kernel)
set_option maxRecDepth 20000 in
theorem inL_wsX120 : GoodIn lw_tbl wsX120 := goodIn_r _ [983, 985, 987, 989, 991, 993, 995, 997, 999, 1001, 1003, 1005, 1007, 1009, 1011, 1013, 1015, 1017, 1019, 1021, 1023, 1025, 1027, 1029, 1031, 1033, 1035, 1037, 1039, 1041, 1043, 1045, 1047, 1049, 1051, 1053, 1055, 1057, 1059, 1061, 1063, 1065, 1067, 1069, 1071, 1073, 1075, 1077, 1079, 1081, 1083, 1085, 1087] (by decide +kernel) (by decide +kernel)
set_option maxRecDepth 20000 in
theorem inL_wsX80 : GoodIn lw_tbl wsX80 := goodIn_r _ [99, 101] (by decide +kernel) (by decide +kernel)
set_option maxRecDepth 20000 in
theorem inL_wsX60 : GoodIn lw_tbl wsX60 := goodIn_r _ [119, 121, 123, 125, 127, 129] (by decide +kernel) (by decide +kernel)
set_option maxRecDepth 20000 in
theorem inL_wsX30 : GoodIn lw_tbl wsX30 := goodIn_r _ [147, 149, 151, 153, 155] (by decide +kernel) (by decide +kernel)
set_option maxRecDepth 20000 in
theorem inL_wsX20 : GoodIn lw_tbl wsX20 := goodIn_r _ [182, 184, 186, 188, 190, 192, 194, 196] (by decide +kernel) (by decide +kernel)
set_option maxRecDepth 20000 in
theorem inL_wsX70 : GoodIn lw_tbl wsX70 := goodIn_r _ [212, 214, 216, 218, 220, 222] (by decide +kernel) (by decide +kernel)
set_option maxRecDepth 20000 in
theorem inL_wsX40 : GoodIn lw_tbl wsX40 := goodIn_r _ [239] (by decide +kernel) (by decide +kernel)
set_option maxRecDepth 20000 in
theorem inL_wsX50 : GoodIn lw_tbl wsX50 := goodIn_r _ [266, 268, 270, 272, 274, 276, 278, 280, 282, 284, 286, 288] (by decide +kernel) (by decide +kernel)
set_option maxRecDepth 20000 in
theorem inL_wsX00 : GoodIn lw_tbl wsX00 := goodIn_r _ [319, 321, 323, 325, 327, 329, 331, 333, 335, 337, 339] (by decide +kernel) (by decide +kernel)
set_option maxRecDepth 20000 in
theorem inL_wsX90 : GoodIn lw_tbl wsX90 := goodIn_r _ [352, 354] (by decide +kernel) (by decide +kernel)
set_option maxRecDepth 20000 in
theorem inL_wsX10 : GoodIn lw_tbl wsX10 := goodIn_r _ [371, 373, 375, 377, 379] (by decide +kernel) (by decide +kernel)
set_option maxRecDepth 20000 in
theorem inL_wsX110 : GoodIn lw_tbl wsX110 := goodIn_r _ [877, 879, 881, 883, 885, 923] (by decide +kernel) (by decide +kernel)
theorem wsL_good : GoodIn lw_tbl wsL_law := goodIn_app (goodIn_app (goodIn_app (goodIn_app (goodIn_app (goodIn_app (goodIn_app (goodIn_app (goodIn_app (goodIn_app (goodIn_app (goodIn_app (goodIn_app (goodIn_app (goodIn_app inL_1 (goodIn_app inL_2 (goodIn_app inL_3 (goodIn_app inL_4 (goodIn_app inL_5 (goodIn_app inL_6 (goodIn_app inL_7 (goodIn_app inL_8 (goodIn_app inL_9 (goodIn_app inL_10 (goodIn_app inL_11 (goodIn_app inL_12 (goodIn_app inL_13 (goodIn_app inL_14 (goodIn_app inL_15 (goodIn_app inL_16 (goodIn_app inL_17 (goodIn_app inL_18 (goodIn_app inL_19 (goodIn_app inL_20 (goodIn_app inL_21 (goodIn_app inL_22 (goodIn_app inL_23 (goodIn_app inL_24 (goodIn_app inL_25 (goodIn_app inL_26 (goodIn_app inL_27 (goodIn_app inL_28 (goodIn_app inL_29 (goodIn_app inL_30 (goodIn_app inL_31 (goodIn_app inL_32 (goodIn_app inL_33 (goodIn_app inL_34 (goodIn_app inL_35 (goodIn_app inL_36 (goodIn_app inL_37 (goodIn_app inL_38 (goodIn_app inL_39 (inL_40)))))))))))))))))))))))))))))))))))))))) inL_wsX100) inL_wsX120) inL_wsX80) inL_wsX60) inL_wsX30) inL_wsX20) inL_wsX70) inL_wsX40) inL_wsX50) inL_wsX00) inL_wsX90) inL_wsX10) inL_wsX110) (fun w h => by cases h)
