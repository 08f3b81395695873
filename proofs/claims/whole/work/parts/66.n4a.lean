set_option maxRecDepth 20000 in
theorem gT_X10_init : GoodIn lw_tbl wsX10_init := goodIn_r _ [81, 82, 83, 84, 85, 86, 55, 382, 105, 106, 56, 383, 132, 133, 57, 384, 158, 159, 58, 385, 200, 201, 59, 386, 226, 227, 60, 387, 242, 243, 61, 388, 291, 292, 62, 389, 342, 343, 63, 390, 357, 358, 64, 391, 87, 88, 89, 90, 104, 91, 107, 108, 109, 110, 111, 113, 114, 115, 116, 134, 135, 136, 137, 138, 140, 142, 144, 160, 161, 162, 163, 164, 166, 168, 170, 172, 174, 199, 176, 202, 203, 204, 205, 206, 207, 208, 225, 209, 210, 228, 229, 230, 231, 236, 232, 233, 234, 235, 244, 245, 246, 247, 258, 248, 250, 254, 256, 249, 293, 294, 295, 296, 297, 299, 301, 303, 305, 307, 309, 311, 313, 315, 344, 345, 346, 347, 348, 359, 360, 361, 362, 365, 367, 369, 370, 99, 101, 392, 394, 396, 398, 400, 402, 404, 406, 408, 410, 119, 121, 123, 125, 127, 129, 147, 149, 151, 153, 155, 182, 184, 186, 188, 190, 192, 194, 196, 212, 214, 216, 218, 220, 222, 239, 266, 268, 270, 272, 274, 276, 278, 280, 282, 284, 286, 288, 319, 321, 323, 325, 327, 329, 331, 333, 335, 337, 339, 352, 354, 371, 373, 375, 377, 379] (by decide +kernel) (by decide +kernel)
set_option maxRecDepth 20000 in
theorem gT_X12_init : GoodIn lw_tbl wsX12_init := goodIn_r _ [866, 867, 83, 84, 104, 930, 931, 868, 869, 68, 932, 718, 933, 941, 199, 942, 944, 945, 946, 947, 948, 951, 952, 953, 954, 955, 956, 957, 958, 959, 960, 961, 962, 963, 970, 971, 972, 973, 974, 975, 976, 977, 978, 979, 981, 982, 905, 906, 907, 927, 928, 65, 929, 983, 985, 987, 989, 991, 993, 995, 997, 999, 1001, 1003, 1005, 1007, 1009, 1011, 1013, 1015, 1017, 1019, 1021, 1023, 1025, 1027, 1029, 1031, 1033, 1035, 1037, 1039, 1041, 1043, 1045, 1047, 1049, 1051, 1053, 1055, 1057, 1059, 1061, 1063, 1065, 1067, 1069, 1071, 1073, 1075, 1077, 1079, 1081, 1083, 1085, 1087, 877, 879, 881, 883, 885, 923] (by decide +kernel) (by decide +kernel)
set_option maxRecDepth 20000 in
theorem gT_X10_feed : GoodIn lw_tbl wsX10_feed := goodIn_r _ [416, 382, 95, 417, 418, 419, 55, 420, 96, 91, 392, 394, 396, 398, 400, 402, 404, 406, 408, 410, 99, 101] (by decide +kernel) (by decide +kernel)
set_option maxRecDepth 20000 in
theorem gF_X10_feed : GoodIn lw_tbl [.methodLink RL 13 yX10_feed, .instanceMethod yX10_feed, .selects RX10 yX10_feed yX10_feed, .initialized RX10] := goodIn_r _ [413, 414, 415, 54] (by decide +kernel) (by decide +kernel)
theorem gV_X10_feed : GoodIn lw_tbl (wsV RL 13 RX10 yX10_feed wsX10_feed) := goodIn_app gF_X10_feed gT_X10_feed
set_option maxRecDepth 20000 in
theorem gT_X12_feed : GoodIn lw_tbl wsX12_feed := goodIn_r _ [1093, 934, 1094, 1096, 25, 65, 1097, 933, 983, 985, 987, 989, 991, 993, 995, 997, 999, 1001, 1003, 1005, 1007, 1009, 1011, 1013, 1015, 1017, 1019, 1021, 1023, 1025, 1027, 1029, 1031, 1033, 1035, 1037, 1039, 1041, 1043, 1045, 1047, 1049, 1051, 1053, 1055, 1057, 1059, 1061, 1063, 1065, 1067, 1069, 1071, 1073, 1075, 1077, 1079, 1081, 1083, 1085, 1087] (by decide +kernel) (by decide +kernel)
set_option maxRecDepth 20000 in
theorem gF_X12_feed : GoodIn lw_tbl [.methodLink RL 17 yX12_feed, .instanceMethod yX12_feed, .selects RX12 yX12_feed yX12_feed, .initialized RX12] := goodIn_r _ [1090, 1091, 1092, 65] (by decide +kernel) (by decide +kernel)
theorem gV_X12_feed : GoodIn lw_tbl (wsV RL 17 RX12 yX12_feed wsX12_feed) := goodIn_app gF_X12_feed gT_X12_feed
set_option maxRecDepth 20000 in
theorem gT_X10_end : GoodIn lw_tbl wsX10_end := goodIn_r _ [424, 382, 95, 392, 394, 396, 398, 400, 402, 404, 406, 408, 410, 99, 101] (by decide +kernel) (by decide +kernel)
set_option maxRecDepth 20000 in
theorem gF_X10_end : GoodIn lw_tbl [.methodLink RL 18 yX10_end, .instanceMethod yX10_end, .selects RX10 yX10_end yX10_end, .initialized RX10] := goodIn_r _ [421, 422, 423, 54] (by decide +kernel) (by decide +kernel)
theorem gV_X10_end : GoodIn lw_tbl (wsV RL 18 RX10 yX10_end wsX10_end) := goodIn_app gF_X10_end gT_X10_end
set_option maxRecDepth 20000 in
theorem gT_X12_end : GoodIn lw_tbl wsX12_end := goodIn_r _ [1101, 934, 1102, 1103, 65, 1104, 983, 985, 987, 989, 991, 993, 995, 997, 999, 1001, 1003, 1005, 1007, 1009, 1011, 1013, 1015, 1017, 1019, 1021, 1023, 1025, 1027, 1029, 1031, 1033, 1035, 1037, 1039, 1041, 1043, 1045, 1047, 1049, 1051, 1053, 1055, 1057, 1059, 1061, 1063, 1065, 1067, 1069, 1071, 1073, 1075, 1077, 1079, 1081, 1083, 1085, 1087] (by decide +kernel) (by decide +kernel)
set_option maxRecDepth 20000 in
theorem gF_X12_end : GoodIn lw_tbl [.methodLink RL 22 yX12_end, .instanceMethod yX12_end, .selects RX12 yX12_end yX12_end, .initialized RX12] := goodIn_r _ [1098, 1099, 1100, 65] (by decide +kernel) (by decide +kernel)
theorem gV_X12_end : GoodIn lw_tbl (wsV RL 22 RX12 yX12_end wsX12_end) := goodIn_app gF_X12_end gT_X12_end
