set_option maxRecDepth 20000 in
theorem gT_X10_site : GoodIn lw_tbl wsX10_site := goodIn_r _ [428, 383, 117, 429, 430, 54, 431, 432, 433, 434, 435, 436, 437, 438, 439, 440, 56, 441, 111, 113, 114, 115, 116, 392, 394, 396, 398, 400, 402, 404, 406, 408, 410, 119, 121, 123, 125, 127, 129] (by decide +kernel) (by decide +kernel)
set_option maxRecDepth 20000 in
theorem gF_X10_site : GoodIn lw_tbl [.methodLink RL 23 yX10_site, .instanceMethod yX10_site, .selects RX10 yX10_site yX10_site, .initialized RX10] := goodIn_r _ [425, 426, 427, 54] (by decide +kernel) (by decide +kernel)
theorem gV_X10_site : GoodIn lw_tbl (wsV RL 23 RX10 yX10_site wsX10_site) := goodIn_app gF_X10_site gT_X10_site
set_option maxRecDepth 20000 in
theorem gT_X12_site : GoodIn lw_tbl wsX12_site := goodIn_r _ [1177, 1190, 943, 944, 1178, 1179, 65, 1180, 1185, 1181, 1182, 1183, 1184, 1102, 1103, 1104, 1186, 1187, 1188, 1189, 1191, 1193, 35, 1194, 945, 946, 947, 948, 983, 985, 987, 989, 991, 993, 995, 997, 999, 1001, 1003, 1005, 1007, 1009, 1011, 1013, 1015, 1017, 1019, 1021, 1023, 1025, 1027, 1029, 1031, 1033, 1035, 1037, 1039, 1041, 1043, 1045, 1047, 1049, 1051, 1053, 1055, 1057, 1059, 1061, 1063, 1065, 1067, 1069, 1071, 1073, 1075, 1077, 1079, 1081, 1083, 1085, 1087] (by decide +kernel) (by decide +kernel)
set_option maxRecDepth 20000 in
theorem gF_X12_site : GoodIn lw_tbl [.methodLink RL 27 yX12_site, .instanceMethod yX12_site, .selects RX12 yX12_site yX12_site, .initialized RX12] := goodIn_r _ [1174, 1175, 1176, 65] (by decide +kernel) (by decide +kernel)
theorem gV_X12_site : GoodIn lw_tbl (wsV RL 27 RX12 yX12_site wsX12_site) := goodIn_app gF_X12_site gT_X12_site
set_option maxRecDepth 20000 in
theorem gT_X10_renumber : GoodIn lw_tbl wsX10_renumber := goodIn_r _ [445, 383, 112, 446, 448, 0, 54, 449, 117, 429, 430, 431, 432, 433, 434, 435, 436, 437, 450, 451, 452, 56, 453, 116, 454, 456, 1, 457, 111, 458, 459, 460, 461, 114, 438, 439, 440, 441, 113, 115, 392, 394, 396, 398, 400, 402, 404, 406, 408, 410, 119, 121, 123, 125, 127, 129] (by decide +kernel) (by decide +kernel)
set_option maxRecDepth 20000 in
theorem gF_X10_renumber : GoodIn lw_tbl [.methodLink RL 28 yX10_renumber, .instanceMethod yX10_renumber, .selects RX10 yX10_renumber yX10_renumber, .initialized RX10] := goodIn_r _ [442, 443, 444, 54] (by decide +kernel) (by decide +kernel)
theorem gV_X10_renumber : GoodIn lw_tbl (wsV RL 28 RX10 yX10_renumber wsX10_renumber) := goodIn_app gF_X10_renumber gT_X10_renumber
set_option maxRecDepth 20000 in
theorem gT_X12_renumber : GoodIn lw_tbl wsX12_renumber := goodIn_r _ [1198, 1190, 944, 946, 948, 1199, 1201, 36, 65, 1202, 943, 1102, 1103, 1104, 1178, 1179, 1180, 1185, 1181, 1182, 1183, 1184, 1186, 1187, 1188, 1189, 1191, 1193, 35, 1194, 945, 947, 983, 985, 987, 989, 991, 993, 995, 997, 999, 1001, 1003, 1005, 1007, 1009, 1011, 1013, 1015, 1017, 1019, 1021, 1023, 1025, 1027, 1029, 1031, 1033, 1035, 1037, 1039, 1041, 1043, 1045, 1047, 1049, 1051, 1053, 1055, 1057, 1059, 1061, 1063, 1065, 1067, 1069, 1071, 1073, 1075, 1077, 1079, 1081, 1083, 1085, 1087] (by decide +kernel) (by decide +kernel)
set_option maxRecDepth 20000 in
theorem gF_X12_renumber : GoodIn lw_tbl [.methodLink RL 31 yX12_renumber, .instanceMethod yX12_renumber, .selects RX12 yX12_renumber yX12_renumber, .initialized RX12] := goodIn_r _ [1195, 1196, 1197, 65] (by decide +kernel) (by decide +kernel)
theorem gV_X12_renumber : GoodIn lw_tbl (wsV RL 31 RX12 yX12_renumber wsX12_renumber) := goodIn_app gF_X12_renumber gT_X12_renumber
set_option maxRecDepth 20000 in
theorem gT_X10_possible : GoodIn lw_tbl wsX10_possible := goodIn_r _ [465, 466, 383, 117, 435, 436, 54, 437, 432, 433, 434, 467, 468, 469, 56, 470, 115, 116, 114, 113, 454, 456, 1, 457, 111, 471, 472, 473, 392, 394, 396, 398, 400, 402, 404, 406, 408, 410, 119, 121, 123, 125, 127, 129] (by decide +kernel) (by decide +kernel)
set_option maxRecDepth 20000 in
theorem gF_X10_possible : GoodIn lw_tbl [.methodLink RL 32 yX10_possible, .instanceMethod yX10_possible, .selects RX10 yX10_possible yX10_possible, .initialized RX10] := goodIn_r _ [462, 463, 464, 54] (by decide +kernel) (by decide +kernel)
theorem gV_X10_possible : GoodIn lw_tbl (wsV RL 32 RX10 yX10_possible wsX10_possible) := goodIn_app gF_X10_possible gT_X10_possible
set_option maxRecDepth 20000 in
theorem gT_X12_possible : GoodIn lw_tbl wsX12_possible := goodIn_r _ [1206, 1190, 1219, 1186, 1187, 65, 1188, 1189, 1102, 1103, 1104, 1181, 1182, 1183, 1184, 1185, 1207, 1209, 37, 1210, 943, 944, 948, 947, 1211, 1213, 38, 1214, 945, 946, 1215, 1217, 39, 1218, 983, 985, 987, 989, 991, 993, 995, 997, 999, 1001, 1003, 1005, 1007, 1009, 1011, 1013, 1015, 1017, 1019, 1021, 1023, 1025, 1027, 1029, 1031, 1033, 1035, 1037, 1039, 1041, 1043, 1045, 1047, 1049, 1051, 1053, 1055, 1057, 1059, 1061, 1063, 1065, 1067, 1069, 1071, 1073, 1075, 1077, 1079, 1081, 1083, 1085, 1087] (by decide +kernel) (by decide +kernel)
set_option maxRecDepth 20000 in
theorem gF_X12_possible : GoodIn lw_tbl [.methodLink RL 36 yX12_possible, .instanceMethod yX12_possible, .selects RX12 yX12_possible yX12_possible, .initialized RX12] := goodIn_r _ [1203, 1204, 1205, 65] (by decide +kernel) (by decide +kernel)
theorem gV_X12_possible : GoodIn lw_tbl (wsV RL 36 RX12 yX12_possible wsX12_possible) := goodIn_app gF_X12_possible gT_X12_possible
set_option maxRecDepth 20000 in
theorem gT_X10_surely : GoodIn lw_tbl wsX10_surely := goodIn_r _ [477, 383, 117, 435, 436, 54, 437, 432, 433, 434, 478, 479, 480, 56, 481, 115, 116, 113, 114, 118, 483, 454, 456, 1, 457, 111, 471, 472, 473, 482, 468, 469, 470, 392, 394, 396, 398, 400, 402, 404, 406, 408, 410, 119, 121, 123, 125, 127, 129] (by decide +kernel) (by decide +kernel)
set_option maxRecDepth 20000 in
theorem gF_X10_surely : GoodIn lw_tbl [.methodLink RL 37 yX10_surely, .instanceMethod yX10_surely, .selects RX10 yX10_surely yX10_surely, .initialized RX10] := goodIn_r _ [474, 475, 476, 54] (by decide +kernel) (by decide +kernel)
theorem gV_X10_surely : GoodIn lw_tbl (wsV RL 37 RX10 yX10_surely wsX10_surely) := goodIn_app gF_X10_surely gT_X10_surely
set_option maxRecDepth 20000 in
theorem gT_X12_surely : GoodIn lw_tbl wsX12_surely := goodIn_r _ [1223, 1190, 1186, 1187, 65, 1188, 1189, 1102, 1103, 1104, 1181, 1182, 1183, 1184, 1185, 1224, 1226, 40, 1227, 944, 948, 947, 1207, 1209, 37, 1210, 943, 1211, 1213, 38, 1214, 945, 946, 1215, 1217, 39, 1218, 1228, 1230, 41, 1231, 983, 985, 987, 989, 991, 993, 995, 997, 999, 1001, 1003, 1005, 1007, 1009, 1011, 1013, 1015, 1017, 1019, 1021, 1023, 1025, 1027, 1029, 1031, 1033, 1035, 1037, 1039, 1041, 1043, 1045, 1047, 1049, 1051, 1053, 1055, 1057, 1059, 1061, 1063, 1065, 1067, 1069, 1071, 1073, 1075, 1077, 1079, 1081, 1083, 1085, 1087] (by decide +kernel) (by decide +kernel)
set_option maxRecDepth 20000 in
theorem gF_X12_surely : GoodIn lw_tbl [.methodLink RL 41 yX12_surely, .instanceMethod yX12_surely, .selects RX12 yX12_surely yX12_surely, .initialized RX12] := goodIn_r _ [1220, 1221, 1222, 65] (by decide +kernel) (by decide +kernel)
theorem gV_X12_surely : GoodIn lw_tbl (wsV RL 41 RX12 yX12_surely wsX12_surely) := goodIn_app gF_X12_surely gT_X12_surely
set_option maxRecDepth 20000 in
theorem gT_X10_person : GoodIn lw_tbl wsX10_person := goodIn_r _ [487, 384, 146, 432, 433, 54, 434, 488, 489, 490, 429, 430, 431, 491, 492, 493, 57, 494, 145, 138, 140, 142, 144, 392, 394, 396, 398, 400, 402, 404, 406, 408, 410, 147, 149, 151, 153, 155] (by decide +kernel) (by decide +kernel)
set_option maxRecDepth 20000 in
theorem gF_X10_person : GoodIn lw_tbl [.methodLink RL 42 yX10_person, .instanceMethod yX10_person, .selects RX10 yX10_person yX10_person, .initialized RX10] := goodIn_r _ [484, 485, 486, 54] (by decide +kernel) (by decide +kernel)
theorem gV_X10_person : GoodIn lw_tbl (wsV RL 42 RX10 yX10_person wsX10_person) := goodIn_app gF_X10_person gT_X10_person
set_option maxRecDepth 20000 in
theorem gT_X12_person : GoodIn lw_tbl wsX12_person := goodIn_r _ [1235, 1185, 1171, 949, 951, 952, 953, 954, 1181, 1182, 65, 1183, 1184, 1102, 1103, 1104, 983, 985, 987, 989, 991, 993, 995, 997, 999, 1001, 1003, 1005, 1007, 1009, 1011, 1013, 1015, 1017, 1019, 1021, 1023, 1025, 1027, 1029, 1031, 1033, 1035, 1037, 1039, 1041, 1043, 1045, 1047, 1049, 1051, 1053, 1055, 1057, 1059, 1061, 1063, 1065, 1067, 1069, 1071, 1073, 1075, 1077, 1079, 1081, 1083, 1085, 1087] (by decide +kernel) (by decide +kernel)
set_option maxRecDepth 20000 in
theorem gF_X12_person : GoodIn lw_tbl [.methodLink RL 45 yX12_person, .instanceMethod yX12_person, .selects RX12 yX12_person yX12_person, .initialized RX12] := goodIn_r _ [1232, 1233, 1234, 65] (by decide +kernel) (by decide +kernel)
theorem gV_X12_person : GoodIn lw_tbl (wsV RL 45 RX12 yX12_person wsX12_person) := goodIn_app gF_X12_person gT_X12_person
set_option maxRecDepth 20000 in
theorem gT_X10_join : GoodIn lw_tbl wsX10_join := goodIn_r _ [498, 384, 499, 501, 2, 54, 502, 146, 503, 504, 505, 57, 506, 144, 507, 508, 509, 510, 145, 392, 394, 396, 398, 400, 402, 404, 406, 408, 410, 147, 149, 151, 153, 155] (by decide +kernel) (by decide +kernel)
set_option maxRecDepth 20000 in
theorem gF_X10_join : GoodIn lw_tbl [.methodLink RL 46 yX10_join, .instanceMethod yX10_join, .selects RX10 yX10_join yX10_join, .initialized RX10] := goodIn_r _ [495, 496, 497, 54] (by decide +kernel) (by decide +kernel)
theorem gV_X10_join : GoodIn lw_tbl (wsV RL 46 RX10 yX10_join wsX10_join) := goodIn_app gF_X10_join gT_X10_join
set_option maxRecDepth 20000 in
theorem gT_X12_join : GoodIn lw_tbl wsX12_join := goodIn_r _ [1239, 954, 949, 1240, 1242, 42, 65, 1243, 1102, 1103, 1104, 983, 985, 987, 989, 991, 993, 995, 997, 999, 1001, 1003, 1005, 1007, 1009, 1011, 1013, 1015, 1017, 1019, 1021, 1023, 1025, 1027, 1029, 1031, 1033, 1035, 1037, 1039, 1041, 1043, 1045, 1047, 1049, 1051, 1053, 1055, 1057, 1059, 1061, 1063, 1065, 1067, 1069, 1071, 1073, 1075, 1077, 1079, 1081, 1083, 1085, 1087] (by decide +kernel) (by decide +kernel)
set_option maxRecDepth 20000 in
theorem gF_X12_join : GoodIn lw_tbl [.methodLink RL 50 yX12_join, .instanceMethod yX12_join, .selects RX12 yX12_join yX12_join, .initialized RX12] := goodIn_r _ [1236, 1237, 1238, 65] (by decide +kernel) (by decide +kernel)
theorem gV_X12_join : GoodIn lw_tbl (wsV RL 50 RX12 yX12_join wsX12_join) := goodIn_app gF_X12_join gT_X12_join
set_option maxRecDepth 20000 in
theorem gT_X10_paper : GoodIn lw_tbl wsX10_paper := goodIn_r _ [514, 385, 181, 499, 501, 2, 54, 502, 384, 146, 435, 436, 437, 429, 430, 431, 432, 433, 434, 515, 516, 517, 58, 518, 179, 164, 166, 168, 170, 172, 174, 392, 394, 396, 398, 400, 402, 404, 406, 408, 410, 182, 184, 186, 188, 190, 192, 194, 196, 147, 149, 151, 153, 155] (by decide +kernel) (by decide +kernel)
set_option maxRecDepth 20000 in
theorem gF_X10_paper : GoodIn lw_tbl [.methodLink RL 51 yX10_paper, .instanceMethod yX10_paper, .selects RX10 yX10_paper yX10_paper, .initialized RX10] := goodIn_r _ [511, 512, 513, 54] (by decide +kernel) (by decide +kernel)
theorem gV_X10_paper : GoodIn lw_tbl (wsV RL 51 RX10 yX10_paper wsX10_paper) := goodIn_app gF_X10_paper gT_X10_paper
set_option maxRecDepth 20000 in
theorem gT_X12_paper : GoodIn lw_tbl wsX12_paper := goodIn_r _ [1247, 1248, 1190, 950, 955, 956, 957, 958, 959, 960, 961, 1240, 1242, 42, 65, 1243, 949, 1102, 1103, 1104, 1186, 1187, 1188, 1189, 1178, 1179, 1180, 1185, 1181, 1182, 1183, 1184, 983, 985, 987, 989, 991, 993, 995, 997, 999, 1001, 1003, 1005, 1007, 1009, 1011, 1013, 1015, 1017, 1019, 1021, 1023, 1025, 1027, 1029, 1031, 1033, 1035, 1037, 1039, 1041, 1043, 1045, 1047, 1049, 1051, 1053, 1055, 1057, 1059, 1061, 1063, 1065, 1067, 1069, 1071, 1073, 1075, 1077, 1079, 1081, 1083, 1085, 1087] (by decide +kernel) (by decide +kernel)
set_option maxRecDepth 20000 in
theorem gF_X12_paper : GoodIn lw_tbl [.methodLink RL 55 yX12_paper, .instanceMethod yX12_paper, .selects RX12 yX12_paper yX12_paper, .initialized RX12] := goodIn_r _ [1244, 1245, 1246, 65] (by decide +kernel) (by decide +kernel)
theorem gV_X12_paper : GoodIn lw_tbl (wsV RL 55 RX12 yX12_paper wsX12_paper) := goodIn_app gF_X12_paper gT_X12_paper
set_option maxRecDepth 20000 in
theorem gT_X10_falsify : GoodIn lw_tbl wsX10_falsify := goodIn_r _ [522, 385, 181, 178, 392, 394, 396, 398, 400, 402, 404, 406, 408, 410, 182, 184, 186, 188, 190, 192, 194, 196] (by decide +kernel) (by decide +kernel)
set_option maxRecDepth 20000 in
theorem gF_X10_falsify : GoodIn lw_tbl [.methodLink RL 56 yX10_falsify, .instanceMethod yX10_falsify, .selects RX10 yX10_falsify yX10_falsify, .initialized RX10] := goodIn_r _ [519, 520, 521, 54] (by decide +kernel) (by decide +kernel)
theorem gV_X10_falsify : GoodIn lw_tbl (wsV RL 56 RX10 yX10_falsify wsX10_falsify) := goodIn_app gF_X10_falsify gT_X10_falsify
set_option maxRecDepth 20000 in
theorem gT_X12_falsify : GoodIn lw_tbl wsX12_falsify := goodIn_r _ [1252, 950, 961, 1102, 1103, 65, 1104, 983, 985, 987, 989, 991, 993, 995, 997, 999, 1001, 1003, 1005, 1007, 1009, 1011, 1013, 1015, 1017, 1019, 1021, 1023, 1025, 1027, 1029, 1031, 1033, 1035, 1037, 1039, 1041, 1043, 1045, 1047, 1049, 1051, 1053, 1055, 1057, 1059, 1061, 1063, 1065, 1067, 1069, 1071, 1073, 1075, 1077, 1079, 1081, 1083, 1085, 1087] (by decide +kernel) (by decide +kernel)
set_option maxRecDepth 20000 in
theorem gF_X12_falsify : GoodIn lw_tbl [.methodLink RL 60 yX12_falsify, .instanceMethod yX12_falsify, .selects RX12 yX12_falsify yX12_falsify, .initialized RX12] := goodIn_r _ [1249, 1250, 1251, 65] (by decide +kernel) (by decide +kernel)
theorem gV_X12_falsify : GoodIn lw_tbl (wsV RL 60 RX12 yX12_falsify wsX12_falsify) := goodIn_app gF_X12_falsify gT_X12_falsify
set_option maxRecDepth 20000 in
theorem gT_X10_lived : GoodIn lw_tbl wsX10_lived := goodIn_r _ [526, 386, 499, 501, 2, 54, 502, 384, 146, 446, 448, 0, 449, 383, 117, 527, 528, 529, 59, 530, 209, 210, 211, 208, 180, 177, 207, 165, 531, 504, 505, 57, 506, 144, 532, 534, 3, 535, 173, 175, 206, 169, 171, 167, 536, 468, 469, 56, 470, 115, 116, 114, 113, 454, 456, 1, 457, 111, 471, 472, 473, 537, 479, 480, 481, 118, 483, 482, 538, 539, 540, 541, 542, 543, 544, 545, 546, 547, 548, 549, 69, 550, 551, 552, 553, 554, 555, 556, 557, 558, 559, 560, 561, 562, 563, 564, 565, 566, 70, 567, 568, 569, 570, 571, 572, 573, 574, 575, 576, 577, 578, 579, 580, 581, 582, 583, 584, 585, 586, 587, 588, 392, 394, 396, 398, 400, 402, 404, 406, 408, 410, 147, 149, 151, 153, 155, 119, 121, 123, 125, 127, 129, 212, 214, 216, 218, 220, 222, 182, 184, 186, 188, 190, 192, 194, 196] (by decide +kernel) (by decide +kernel)
set_option maxRecDepth 20000 in
theorem gF_X10_lived : GoodIn lw_tbl [.methodLink RL 61 yX10_lived, .instanceMethod yX10_lived, .selects RX10 yX10_lived yX10_lived, .initialized RX10] := goodIn_r _ [523, 524, 525, 54] (by decide +kernel) (by decide +kernel)
theorem gV_X10_lived : GoodIn lw_tbl (wsV RL 61 RX10 yX10_lived wsX10_lived) := goodIn_app gF_X10_lived gT_X10_lived
set_option maxRecDepth 20000 in
theorem gT_X12_lived : GoodIn lw_tbl wsX12_lived := goodIn_r _ [1256, 965, 966, 967, 968, 964, 1240, 1242, 42, 65, 1243, 949, 1102, 1103, 1104, 1199, 1201, 36, 1202, 943, 1257, 1259, 43, 1260, 962, 963, 950, 959, 960, 957, 958, 956, 1261, 1263, 44, 1264, 961, 954, 955, 1207, 1209, 37, 1210, 944, 948, 947, 1211, 1213, 38, 1214, 945, 946, 1215, 1217, 39, 1218, 1224, 1226, 40, 1227, 1228, 1230, 41, 1231, 1265, 1266, 1267, 983, 985, 987, 989, 991, 993, 995, 997, 999, 1001, 1003, 1005, 1007, 1009, 1011, 1013, 1015, 1017, 1019, 1021, 1023, 1025, 1027, 1029, 1031, 1033, 1035, 1037, 1039, 1041, 1043, 1045, 1047, 1049, 1051, 1053, 1055, 1057, 1059, 1061, 1063, 1065, 1067, 1069, 1071, 1073, 1075, 1077, 1079, 1081, 1083, 1085, 1087] (by decide +kernel) (by decide +kernel)
set_option maxRecDepth 20000 in
theorem gF_X12_lived : GoodIn lw_tbl [.methodLink RL 64 yX12_lived, .instanceMethod yX12_lived, .selects RX12 yX12_lived yX12_lived, .initialized RX12] := goodIn_r _ [1253, 1254, 1255, 65] (by decide +kernel) (by decide +kernel)
theorem gV_X12_lived : GoodIn lw_tbl (wsV RL 64 RX12 yX12_lived wsX12_lived) := goodIn_app gF_X12_lived gT_X12_lived
set_option maxRecDepth 20000 in
theorem gT_X10_rules : GoodIn lw_tbl wsX10_rules := goodIn_r _ [592, 388, 382, 95, 255, 387, 251, 253, 593, 594, 595, 61, 596, 250, 252, 254, 256, 261, 262, 265, 264, 260, 258, 98, 259, 597, 233, 234, 60, 235, 236, 598, 600, 4, 601, 93, 603, 54, 604, 606, 607, 609, 610, 611, 613, 5, 614, 615, 617, 6, 618, 619, 620, 621, 630, 632, 7, 633, 634, 635, 636, 71, 637, 1358, 638, 639, 640, 641, 642, 1359, 644, 645, 646, 647, 648, 649, 650, 651, 652, 653, 72, 654, 655, 656, 657, 658, 660, 661, 73, 662, 663, 664, 74, 665, 666, 667, 668, 669, 670, 671, 672, 673, 674, 675, 676, 678, 680, 682, 683, 684, 685, 687, 8, 688, 690, 692, 9, 693, 237, 696, 698, 10, 699, 263, 700, 702, 11, 703, 704, 705, 706, 707, 709, 12, 710, 711, 712, 713, 714, 715, 717, 716, 75, 392, 394, 396, 398, 400, 402, 404, 406, 408, 410, 99, 101, 266, 268, 270, 272, 274, 276, 278, 280, 282, 284, 286, 288, 239] (by decide +kernel) (by decide +kernel)
set_option maxRecDepth 20000 in
theorem gF_X10_rules : GoodIn lw_tbl [.methodLink RL 65 yX10_rules, .instanceMethod yX10_rules, .selects RX10 yX10_rules yX10_rules, .initialized RX10] := goodIn_r _ [589, 590, 591, 54] (by decide +kernel) (by decide +kernel)
theorem gV_X10_rules : GoodIn lw_tbl (wsV RL 65 RX10 yX10_rules wsX10_rules) := goodIn_app gF_X10_rules gT_X10_rules
set_option maxRecDepth 20000 in
theorem gT_X12_rules : GoodIn lw_tbl wsX12_rules := goodIn_r _ [1108, 940, 941, 930, 931, 1109, 1111, 26, 65, 1112, 934, 935, 937, 1113, 1115, 27, 1116, 933, 936, 938, 939, 1117, 1119, 28, 1120, 1121, 1122, 1123, 1124, 1125, 1126, 1127, 1129, 29, 1130, 942, 927, 928, 929, 1131, 1133, 30, 1134, 1136, 1138, 31, 1139, 1140, 635, 636, 71, 637, 1358, 638, 639, 640, 641, 642, 1359, 1141, 645, 646, 647, 648, 649, 650, 651, 652, 653, 72, 654, 655, 656, 657, 658, 660, 661, 73, 662, 663, 664, 74, 665, 666, 667, 668, 669, 670, 671, 672, 673, 674, 675, 676, 678, 680, 1153, 1155, 33, 1156, 1157, 1159, 34, 1160, 983, 985, 987, 989, 991, 993, 995, 997, 999, 1001, 1003, 1005, 1007, 1009, 1011, 1013, 1015, 1017, 1019, 1021, 1023, 1025, 1027, 1029, 1031, 1033, 1035, 1037, 1039, 1041, 1043, 1045, 1047, 1049, 1051, 1053, 1055, 1057, 1059, 1061, 1063, 1065, 1067, 1069, 1071, 1073, 1075, 1077, 1079, 1081, 1083, 1085, 1087] (by decide +kernel) (by decide +kernel)
set_option maxRecDepth 20000 in
theorem gF_X12_rules : GoodIn lw_tbl [.methodLink RL 69 yX12_rules, .instanceMethod yX12_rules, .selects RX12 yX12_rules yX12_rules, .initialized RX12] := goodIn_r _ [1105, 1106, 1107, 65] (by decide +kernel) (by decide +kernel)
theorem gV_X12_rules : GoodIn lw_tbl (wsV RL 69 RX12 yX12_rules wsX12_rules) := goodIn_app gF_X12_rules gT_X12_rules
