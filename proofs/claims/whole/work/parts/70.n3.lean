set_option maxRecDepth 20000 in
theorem gL_wr : GoodIn lw_tbl wsWr := goodIn_r _ [1149, 1151, 32, 65, 1152, 940, 936, 941, 932, 983, 985, 987, 989, 991, 993, 995, 997, 999, 1001, 1003, 1005, 1007, 1009, 1011, 1013, 1015, 1017, 1019, 1021, 1023, 1025, 1027, 1029, 1031, 1033, 1035, 1037, 1039, 1041, 1043, 1045, 1047, 1049, 1051, 1053, 1055, 1057, 1059, 1061, 1063, 1065, 1067, 1069, 1071, 1073, 1075, 1077, 1079, 1081, 1083, 1085, 1087] (by decide +kernel) (by decide +kernel)
set_option maxRecDepth 20000 in
theorem gL_cl : GoodIn lw_tbl [.classLink RX12 127 "HereLivedModel$Stop"] := goodIn_r _ [868] (by decide +kernel) (by decide +kernel)
theorem gL_rules : GoodIn lw_tbl wT_rules := goodIn_app gT_X12_rules (goodIn_app gL_wr gL_cl)
set_option maxRecDepth 20000 in
theorem gL_rv : GoodIn lw_tbl [.methodLink RL 69 yX12_rules, .instanceMethod yX12_rules, .selects RX12 yX12_rules yX12_rules, .initialized RX12] := goodIn_r _ [1105, 1106, 1107, 65] (by decide +kernel) (by decide +kernel)
theorem gL_rulesV : GoodIn lw_tbl (wsV RL 69 RX12 yX12_rules wT_rules) := goodIn_app gL_rv gL_rules
set_option maxRecDepth 20000 in
theorem gL_wsT1h : GoodIn lw_tbl (.code yT1 cT1 5 none :: [.methodLink RT1 1 objectInit, .instanceMethod objectInit, .code objectInit object_method_1_code 1 none, .initialized RT1, .fieldLink RT1 7 "java/lang/Throwable" "cause" "Ljava/lang/Throwable;", .fieldLink RT1 13 "java/lang/Throwable" "UNASSIGNED_STACK" "[Ljava/lang/StackTraceElement;", .fieldLink RT1 17 "java/lang/Throwable" "stackTrace" "[Ljava/lang/StackTraceElement;", .fieldLink RT1 20 "java/lang/Throwable" "SUPPRESSED_SENTINEL" "Ljava/util/List;", .fieldLink RT1 24 "java/lang/Throwable" "suppressedExceptions" "Ljava/util/List;", .fieldLink RT1 31 "java/lang/Throwable" "detailMessage" "Ljava/lang/String;"]) := goodIn_r _ [913, 891, 83, 84, 66, 916, 892, 917, 894, 918, 915] (by decide +kernel) (by decide +kernel)
set_option maxRecDepth 20000 in
theorem gL_wsX110 : GoodIn lw_tbl wsX110 := goodIn_r _ [877, 879, 881, 883, 885, 923] (by decide +kernel) (by decide +kernel)
theorem gL_wsT1 : GoodIn lw_tbl wsT1 := goodIn_app (a := .code yT1 cT1 5 none :: [.methodLink RT1 1 objectInit, .instanceMethod objectInit, .code objectInit object_method_1_code 1 none, .initialized RT1, .fieldLink RT1 7 "java/lang/Throwable" "cause" "Ljava/lang/Throwable;", .fieldLink RT1 13 "java/lang/Throwable" "UNASSIGNED_STACK" "[Ljava/lang/StackTraceElement;", .fieldLink RT1 17 "java/lang/Throwable" "stackTrace" "[Ljava/lang/StackTraceElement;", .fieldLink RT1 20 "java/lang/Throwable" "SUPPRESSED_SENTINEL" "Ljava/util/List;", .fieldLink RT1 24 "java/lang/Throwable" "suppressedExceptions" "Ljava/util/List;", .fieldLink RT1 31 "java/lang/Throwable" "detailMessage" "Ljava/lang/String;"]) gL_wsT1h gL_wsX110
set_option maxRecDepth 20000 in
theorem gL_wsE1h : GoodIn lw_tbl (.code yE1 cE1 5 none :: [.methodLink RE1 16 yT1, .instanceMethod yT1, .initialized RT1, .initialized RE1]) := goodIn_r _ [910, 911, 912, 66, 67] (by decide +kernel) (by decide +kernel)
theorem gL_wsE1 : GoodIn lw_tbl wsE1 := goodIn_app (a := .code yE1 cE1 5 none :: [.methodLink RE1 16 yT1, .instanceMethod yT1, .initialized RT1, .initialized RE1]) gL_wsE1h gL_wsT1
set_option maxRecDepth 20000 in
theorem gL_wsS1h : GoodIn lw_tbl (.code yX11_init cX11_init 1 none :: [.methodLink RX11 1 yE1, .instanceMethod yE1, .initialized RE1, .initialized RX11]) := goodIn_r _ [907, 908, 909, 67, 68] (by decide +kernel) (by decide +kernel)
theorem gL_wsS1 : GoodIn lw_tbl wsS1 := goodIn_app (a := .code yX11_init cX11_init 1 none :: [.methodLink RX11 1 yE1, .instanceMethod yE1, .initialized RE1, .initialized RX11]) gL_wsS1h gL_wsE1
theorem gL_init12 : GoodIn lw_tbl wT_init := goodIn_app gT_X12_init gL_wsS1
