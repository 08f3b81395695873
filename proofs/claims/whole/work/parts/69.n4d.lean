set_option maxRecDepth 20000 in
theorem gT_X10_line : GoodIn lw_tbl wsX10_line := goodIn_r _ [829, 389, 314, 830, 832, 23, 54, 833, 304, 743, 745, 13, 746, 318, 834, 835, 836, 62, 837, 311, 392, 394, 396, 398, 400, 402, 404, 406, 408, 410, 319, 321, 323, 325, 327, 329, 331, 333, 335, 337, 339] (by decide +kernel) (by decide +kernel)
set_option maxRecDepth 20000 in
theorem gF_X10_line : GoodIn lw_tbl [.methodLink RL 98 yX10_line, .instanceMethod yX10_line, .selects RX10 yX10_line yX10_line, .initialized RX10] := goodIn_r _ [826, 827, 828, 54] (by decide +kernel) (by decide +kernel)
theorem gV_X10_line : GoodIn lw_tbl (wsV RL 98 RX10 yX10_line wsX10_line) := goodIn_app gF_X10_line gT_X10_line
set_option maxRecDepth 20000 in
theorem gT_X12_line : GoodIn lw_tbl wsX12_line := goodIn_r _ [1332, 977, 978, 1333, 1335, 52, 65, 1336, 973, 1276, 1278, 45, 1279, 969, 1102, 1103, 1104, 983, 985, 987, 989, 991, 993, 995, 997, 999, 1001, 1003, 1005, 1007, 1009, 1011, 1013, 1015, 1017, 1019, 1021, 1023, 1025, 1027, 1029, 1031, 1033, 1035, 1037, 1039, 1041, 1043, 1045, 1047, 1049, 1051, 1053, 1055, 1057, 1059, 1061, 1063, 1065, 1067, 1069, 1071, 1073, 1075, 1077, 1079, 1081, 1083, 1085, 1087] (by decide +kernel) (by decide +kernel)
set_option maxRecDepth 20000 in
theorem gF_X12_line : GoodIn lw_tbl [.methodLink RL 101 yX12_line, .instanceMethod yX12_line, .selects RX12 yX12_line yX12_line, .initialized RX12] := goodIn_r _ [1329, 1330, 1331, 65] (by decide +kernel) (by decide +kernel)
theorem gV_X12_line : GoodIn lw_tbl (wsV RL 101 RX12 yX12_line wsX12_line) := goodIn_app gF_X12_line gT_X12_line
set_option maxRecDepth 20000 in
theorem gT_X10_wide : GoodIn lw_tbl wsX10_wide := goodIn_r _ [841, 389, 316, 830, 832, 23, 54, 833, 304, 743, 745, 13, 746, 318, 834, 835, 836, 62, 837, 311, 392, 394, 396, 398, 400, 402, 404, 406, 408, 410, 319, 321, 323, 325, 327, 329, 331, 333, 335, 337, 339] (by decide +kernel) (by decide +kernel)
set_option maxRecDepth 20000 in
theorem gF_X10_wide : GoodIn lw_tbl [.methodLink RL 102 yX10_wide, .instanceMethod yX10_wide, .selects RX10 yX10_wide yX10_wide, .initialized RX10] := goodIn_r _ [838, 839, 840, 54] (by decide +kernel) (by decide +kernel)
theorem gV_X10_wide : GoodIn lw_tbl (wsV RL 102 RX10 yX10_wide wsX10_wide) := goodIn_app gF_X10_wide gT_X10_wide
set_option maxRecDepth 20000 in
theorem gT_X12_wide : GoodIn lw_tbl wsX12_wide := goodIn_r _ [1340, 977, 979, 1333, 1335, 52, 65, 1336, 973, 1276, 1278, 45, 1279, 969, 1102, 1103, 1104, 983, 985, 987, 989, 991, 993, 995, 997, 999, 1001, 1003, 1005, 1007, 1009, 1011, 1013, 1015, 1017, 1019, 1021, 1023, 1025, 1027, 1029, 1031, 1033, 1035, 1037, 1039, 1041, 1043, 1045, 1047, 1049, 1051, 1053, 1055, 1057, 1059, 1061, 1063, 1065, 1067, 1069, 1071, 1073, 1075, 1077, 1079, 1081, 1083, 1085, 1087] (by decide +kernel) (by decide +kernel)
set_option maxRecDepth 20000 in
theorem gF_X12_wide : GoodIn lw_tbl [.methodLink RL 105 yX12_wide, .instanceMethod yX12_wide, .selects RX12 yX12_wide yX12_wide, .initialized RX12] := goodIn_r _ [1337, 1338, 1339, 65] (by decide +kernel) (by decide +kernel)
theorem gV_X12_wide : GoodIn lw_tbl (wsV RL 105 RX12 yX12_wide wsX12_wide) := goodIn_app gF_X12_wide gT_X12_wide
set_option maxRecDepth 20000 in
theorem gT_X10_down : GoodIn lw_tbl wsX10_down := goodIn_r _ [845, 389, 304, 387, 238, 743, 745, 13, 54, 746, 318, 763, 764, 765, 392, 394, 396, 398, 400, 402, 404, 406, 408, 410, 319, 321, 323, 325, 327, 329, 331, 333, 335, 337, 339, 239] (by decide +kernel) (by decide +kernel)
set_option maxRecDepth 20000 in
theorem gF_X10_down : GoodIn lw_tbl [.methodLink RL 106 yX10_down, .instanceMethod yX10_down, .selects RX10 yX10_down yX10_down, .initialized RX10] := goodIn_r _ [842, 843, 844, 54] (by decide +kernel) (by decide +kernel)
theorem gV_X10_down : GoodIn lw_tbl (wsV RL 106 RX10 yX10_down wsX10_down) := goodIn_app gF_X10_down gT_X10_down
set_option maxRecDepth 20000 in
theorem gT_X12_down : GoodIn lw_tbl wsX12_down := goodIn_r _ [1344, 1288, 973, 930, 1276, 1278, 45, 65, 1279, 969, 1102, 1103, 1104, 983, 985, 987, 989, 991, 993, 995, 997, 999, 1001, 1003, 1005, 1007, 1009, 1011, 1013, 1015, 1017, 1019, 1021, 1023, 1025, 1027, 1029, 1031, 1033, 1035, 1037, 1039, 1041, 1043, 1045, 1047, 1049, 1051, 1053, 1055, 1057, 1059, 1061, 1063, 1065, 1067, 1069, 1071, 1073, 1075, 1077, 1079, 1081, 1083, 1085, 1087] (by decide +kernel) (by decide +kernel)
set_option maxRecDepth 20000 in
theorem gF_X12_down : GoodIn lw_tbl [.methodLink RL 109 yX12_down, .instanceMethod yX12_down, .selects RX12 yX12_down yX12_down, .initialized RX12] := goodIn_r _ [1341, 1342, 1343, 65] (by decide +kernel) (by decide +kernel)
theorem gV_X12_down : GoodIn lw_tbl (wsV RL 109 RX12 yX12_down wsX12_down) := goodIn_app gF_X12_down gT_X12_down
set_option maxRecDepth 20000 in
theorem gT_X10_about : GoodIn lw_tbl wsX10_about := goodIn_r _ [849, 389, 298, 300, 302, 304, 306, 308, 310, 312, 743, 745, 13, 54, 746, 318, 392, 394, 396, 398, 400, 402, 404, 406, 408, 410, 319, 321, 323, 325, 327, 329, 331, 333, 335, 337, 339] (by decide +kernel) (by decide +kernel)
set_option maxRecDepth 20000 in
theorem gF_X10_about : GoodIn lw_tbl [.methodLink RL 110 yX10_about, .instanceMethod yX10_about, .selects RX10 yX10_about yX10_about, .initialized RX10] := goodIn_r _ [846, 847, 848, 54] (by decide +kernel) (by decide +kernel)
theorem gV_X10_about : GoodIn lw_tbl (wsV RL 110 RX10 yX10_about wsX10_about) := goodIn_app gF_X10_about gT_X10_about
set_option maxRecDepth 20000 in
theorem gT_X12_about : GoodIn lw_tbl wsX12_about := goodIn_r _ [1348, 970, 971, 972, 973, 974, 975, 976, 977, 1276, 1278, 45, 65, 1279, 969, 1102, 1103, 1104, 983, 985, 987, 989, 991, 993, 995, 997, 999, 1001, 1003, 1005, 1007, 1009, 1011, 1013, 1015, 1017, 1019, 1021, 1023, 1025, 1027, 1029, 1031, 1033, 1035, 1037, 1039, 1041, 1043, 1045, 1047, 1049, 1051, 1053, 1055, 1057, 1059, 1061, 1063, 1065, 1067, 1069, 1071, 1073, 1075, 1077, 1079, 1081, 1083, 1085, 1087] (by decide +kernel) (by decide +kernel)
set_option maxRecDepth 20000 in
theorem gF_X12_about : GoodIn lw_tbl [.methodLink RL 113 yX12_about, .instanceMethod yX12_about, .selects RX12 yX12_about yX12_about, .initialized RX12] := goodIn_r _ [1345, 1346, 1347, 65] (by decide +kernel) (by decide +kernel)
theorem gV_X12_about : GoodIn lw_tbl (wsV RL 113 RX12 yX12_about wsX12_about) := goodIn_app gF_X12_about gT_X12_about
set_option maxRecDepth 20000 in
theorem gT_X10_doubtful : GoodIn lw_tbl wsX10_doubtful := goodIn_r _ [853, 389, 318, 304, 747, 749, 14, 54, 750, 298, 300, 302, 386, 384, 141, 387, 238, 383, 527, 528, 529, 59, 530, 209, 210, 211, 208, 180, 177, 207, 165, 531, 504, 505, 57, 506, 144, 532, 534, 3, 535, 173, 175, 206, 169, 171, 167, 536, 468, 469, 56, 470, 115, 116, 114, 113, 454, 456, 1, 457, 111, 471, 472, 473, 537, 479, 480, 481, 118, 483, 482, 538, 539, 540, 541, 542, 543, 544, 545, 546, 547, 548, 549, 69, 550, 551, 552, 553, 579, 580, 581, 582, 583, 584, 70, 585, 586, 587, 588, 751, 752, 753, 754, 569, 570, 571, 572, 573, 574, 575, 576, 577, 578, 568, 392, 394, 396, 398, 400, 402, 404, 406, 408, 410, 319, 321, 323, 325, 327, 329, 331, 333, 335, 337, 339, 147, 149, 151, 153, 155, 239, 212, 214, 216, 218, 220, 222, 182, 184, 186, 188, 190, 192, 194, 196, 119, 121, 123, 125, 127, 129] (by decide +kernel) (by decide +kernel)
set_option maxRecDepth 20000 in
theorem gF_X10_doubtful : GoodIn lw_tbl [.methodLink RL 114 yX10_doubtful, .instanceMethod yX10_doubtful, .selects RX10 yX10_doubtful yX10_doubtful, .initialized RX10] := goodIn_r _ [850, 851, 852, 54] (by decide +kernel) (by decide +kernel)
theorem gV_X10_doubtful : GoodIn lw_tbl (wsV RL 114 RX10 yX10_doubtful wsX10_doubtful) := goodIn_app gF_X10_doubtful gT_X10_doubtful
set_option maxRecDepth 20000 in
theorem gT_X12_doubtful : GoodIn lw_tbl wsX12_doubtful := goodIn_r _ [1352, 969, 973, 1280, 1282, 46, 65, 1283, 970, 971, 972, 952, 930, 965, 964, 944, 948, 954, 953, 968, 1257, 1259, 43, 1260, 962, 963, 950, 959, 960, 957, 958, 956, 966, 967, 1261, 1263, 44, 1264, 961, 955, 1207, 1209, 37, 1210, 943, 947, 1211, 1213, 38, 1214, 945, 946, 1215, 1217, 39, 1218, 1224, 1226, 40, 1227, 1228, 1230, 41, 1231, 1265, 1266, 1267, 983, 985, 987, 989, 991, 993, 995, 997, 999, 1001, 1003, 1005, 1007, 1009, 1011, 1013, 1015, 1017, 1019, 1021, 1023, 1025, 1027, 1029, 1031, 1033, 1035, 1037, 1039, 1041, 1043, 1045, 1047, 1049, 1051, 1053, 1055, 1057, 1059, 1061, 1063, 1065, 1067, 1069, 1071, 1073, 1075, 1077, 1079, 1081, 1083, 1085, 1087] (by decide +kernel) (by decide +kernel)
set_option maxRecDepth 20000 in
theorem gF_X12_doubtful : GoodIn lw_tbl [.methodLink RL 117 yX12_doubtful, .instanceMethod yX12_doubtful, .selects RX12 yX12_doubtful yX12_doubtful, .initialized RX12] := goodIn_r _ [1349, 1350, 1351, 65] (by decide +kernel) (by decide +kernel)
theorem gV_X12_doubtful : GoodIn lw_tbl (wsV RL 117 RX12 yX12_doubtful wsX12_doubtful) := goodIn_app gF_X12_doubtful gT_X12_doubtful
set_option maxRecDepth 20000 in
theorem gT_X10_count : GoodIn lw_tbl wsX10_count := goodIn_r _ [857, 383, 117, 112, 384, 146, 385, 181, 389, 318, 382, 95, 858, 859, 860, 62, 861, 317, 303, 392, 394, 396, 398, 400, 402, 404, 406, 408, 410, 119, 121, 123, 125, 127, 129, 147, 149, 151, 153, 155, 182, 184, 186, 188, 190, 192, 194, 196, 319, 321, 323, 325, 327, 329, 331, 333, 335, 337, 339, 99, 101] (by decide +kernel) (by decide +kernel)
set_option maxRecDepth 20000 in
theorem gF_X10_count : GoodIn lw_tbl [.methodLink RL 118 yX10_count, .instanceMethod yX10_count, .selects RX10 yX10_count yX10_count, .initialized RX10] := goodIn_r _ [854, 855, 856, 54] (by decide +kernel) (by decide +kernel)
theorem gV_X10_count : GoodIn lw_tbl (wsV RL 118 RX10 yX10_count wsX10_count) := goodIn_app gF_X10_count gT_X10_count
set_option maxRecDepth 20000 in
theorem gT_X12_count : GoodIn lw_tbl wsX12_count := goodIn_r _ [1356, 1172, 1189, 943, 944, 949, 950, 969, 973, 934, 1102, 1103, 65, 1104, 983, 985, 987, 989, 991, 993, 995, 997, 999, 1001, 1003, 1005, 1007, 1009, 1011, 1013, 1015, 1017, 1019, 1021, 1023, 1025, 1027, 1029, 1031, 1033, 1035, 1037, 1039, 1041, 1043, 1045, 1047, 1049, 1051, 1053, 1055, 1057, 1059, 1061, 1063, 1065, 1067, 1069, 1071, 1073, 1075, 1077, 1079, 1081, 1083, 1085, 1087] (by decide +kernel) (by decide +kernel)
set_option maxRecDepth 20000 in
theorem gF_X12_count : GoodIn lw_tbl [.methodLink RL 121 yX12_count, .instanceMethod yX12_count, .selects RX12 yX12_count yX12_count, .initialized RX12] := goodIn_r _ [1353, 1354, 1355, 65] (by decide +kernel) (by decide +kernel)
theorem gV_X12_count : GoodIn lw_tbl (wsV RL 121 RX12 yX12_count wsX12_count) := goodIn_app gF_X12_count gT_X12_count
