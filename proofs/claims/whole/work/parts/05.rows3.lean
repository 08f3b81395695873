set_option maxRecDepth 20000 in
theorem ggX10_decide_X10_isAsking : GoodIn wsX10_decide wsX10_isAsking := goodIn_r _ [8, 1, 9, 131, 132, 133, 134, 135, 136, 137, 138, 139, 140, 141, 142, 143, 144, 145, 146, 147, 148, 149, 150, 151] (by decide +kernel) (by decide +kernel)
set_option maxRecDepth 20000 in
theorem gX10_decide_X10_isAsking : GoodIn wsX10_decide (wsV RX10 204 RX10 yX10_isAsking wsX10_isAsking) := goodIn_app (goodIn_of _ (by decide +kernel)) ggX10_decide_X10_isAsking
set_option maxRecDepth 20000 in
theorem ggX10_decide_X10_factsAgainst : GoodIn wsX10_decide wsX10_factsAgainst := goodIn_r _ [13, 1, 14, 15, 16, 17, 18, 19, 20, 21, 22, 23, 24, 25, 26, 27, 28, 29, 30, 31, 32, 33, 34, 35, 36, 37, 38, 39, 40, 41, 42, 43, 44, 45, 46, 47, 48, 49, 50, 51, 52, 53, 54, 55, 56, 57, 58, 59, 60, 61, 62, 63, 64, 65, 66, 67, 68, 69, 70, 71, 72, 73, 74, 75, 76, 77, 78, 79, 80, 81, 82, 83, 84, 85, 86, 87, 88, 89, 90, 91, 92, 93, 94, 95, 96, 97, 98, 99, 100, 101, 102, 103, 104, 105, 106, 107, 108, 109, 110, 111, 112, 113, 114, 115, 116, 117, 118, 131, 132, 133, 134, 135, 136, 137, 138, 139, 140, 141, 142, 143, 144, 145, 146, 147, 148, 149, 150, 151, 152, 153, 154, 155, 156, 157, 158, 159, 160, 161, 162, 163, 164, 165, 166, 167, 168, 169, 170, 171, 172, 173, 174, 175, 176, 177] (by decide +kernel) (by decide +kernel)
set_option maxRecDepth 20000 in
theorem gX10_decide_X10_factsAgainst : GoodIn wsX10_decide (wsV RX10 207 RX10 yX10_factsAgainst wsX10_factsAgainst) := goodIn_app (goodIn_of _ (by decide +kernel)) ggX10_decide_X10_factsAgainst
set_option maxRecDepth 20000 in
theorem ggX10_decide_X10_plaquesAgainst : GoodIn wsX10_decide wsX10_plaquesAgainst := goodIn_r _ [122, 1, 14, 18, 123, 9, 2, 20, 21, 15, 124, 37, 38, 39, 40, 41, 131, 132, 133, 134, 135, 136, 137, 138, 139, 140, 141, 142, 143, 144, 145, 146, 147, 148, 149, 150, 151, 152, 153, 154, 155, 156, 157] (by decide +kernel) (by decide +kernel)
set_option maxRecDepth 20000 in
theorem gX10_decide_X10_plaquesAgainst : GoodIn wsX10_decide (wsV RX10 210 RX10 yX10_plaquesAgainst wsX10_plaquesAgainst) := goodIn_app (goodIn_of _ (by decide +kernel)) ggX10_decide_X10_plaquesAgainst
set_option maxRecDepth 20000 in
theorem ggX10_decide_X10_votesSuffice : GoodIn wsX10_decide wsX10_votesSuffice := goodIn_r _ [128, 1, 129, 130, 20, 21, 131, 132, 133, 134, 135, 136, 137, 138, 139, 140, 141, 142, 143, 144, 145, 146, 147, 148, 149, 150, 151, 157] (by decide +kernel) (by decide +kernel)
set_option maxRecDepth 20000 in
theorem gX10_decide_X10_votesSuffice : GoodIn wsX10_decide (wsV RX10 228 RX10 yX10_votesSuffice wsX10_votesSuffice) := goodIn_app (goodIn_of _ (by decide +kernel)) ggX10_decide_X10_votesSuffice
theorem dX10_decide_0 : decode cX10_decide 0 = .ok (.aload_n 0, 1) := by decide +kernel
theorem dX10_decide_1 : decode cX10_decide 1 = .ok (.iload_n 1, 1) := by decide +kernel
theorem dX10_decide_2 : decode cX10_decide 2 = .ok (.invokevirtual 204, 3) := by decide +kernel
theorem dX10_decide_5 : decode cX10_decide 5 = .ok (.ifCond .ne 6, 3) := by decide +kernel
theorem dX10_decide_8 : decode cX10_decide 8 = .ok (.bipush (-2), 2) := by decide +kernel
theorem dX10_decide_10 : decode cX10_decide 10 = .ok (.ireturn, 1) := by decide +kernel
theorem dX10_decide_11 : decode cX10_decide 11 = .ok (.aload_n 0, 1) := by decide +kernel
theorem dX10_decide_12 : decode cX10_decide 12 = .ok (.getfield 65, 3) := by decide +kernel
theorem dX10_decide_15 : decode cX10_decide 15 = .ok (.getfield 216, 3) := by decide +kernel
theorem dX10_decide_18 : decode cX10_decide 18 = .ok (.iload_n 1, 1) := by decide +kernel
theorem dX10_decide_19 : decode cX10_decide 19 = .ok (.iaload, 1) := by decide +kernel
theorem dX10_decide_20 : decode cX10_decide 20 = .ok (.ifCond .eq 6, 3) := by decide +kernel
theorem dX10_decide_23 : decode cX10_decide 23 = .ok (.bipush (-4), 2) := by decide +kernel
theorem dX10_decide_25 : decode cX10_decide 25 = .ok (.ireturn, 1) := by decide +kernel
theorem dX10_decide_26 : decode cX10_decide 26 = .ok (.aload_n 0, 1) := by decide +kernel
theorem dX10_decide_27 : decode cX10_decide 27 = .ok (.iload_n 1, 1) := by decide +kernel
theorem dX10_decide_28 : decode cX10_decide 28 = .ok (.invokevirtual 207, 3) := by decide +kernel
theorem dX10_decide_31 : decode cX10_decide 31 = .ok (.aload_n 0, 1) := by decide +kernel
theorem dX10_decide_32 : decode cX10_decide 32 = .ok (.iload_n 1, 1) := by decide +kernel
theorem dX10_decide_33 : decode cX10_decide 33 = .ok (.invokevirtual 210, 3) := by decide +kernel
theorem dX10_decide_36 : decode cX10_decide 36 = .ok (.ior, 1) := by decide +kernel
theorem dX10_decide_37 : decode cX10_decide 37 = .ok (.istore_n 2, 1) := by decide +kernel
theorem dX10_decide_38 : decode cX10_decide 38 = .ok (.aload_n 0, 1) := by decide +kernel
theorem dX10_decide_39 : decode cX10_decide 39 = .ok (.getfield 65, 3) := by decide +kernel
theorem dX10_decide_42 : decode cX10_decide 42 = .ok (.getfield 225, 3) := by decide +kernel
theorem dX10_decide_45 : decode cX10_decide 45 = .ok (.iload_n 1, 1) := by decide +kernel
theorem dX10_decide_46 : decode cX10_decide 46 = .ok (.iload_n 2, 1) := by decide +kernel
theorem dX10_decide_47 : decode cX10_decide 47 = .ok (.iastore, 1) := by decide +kernel
theorem dX10_decide_48 : decode cX10_decide 48 = .ok (.aload_n 0, 1) := by decide +kernel
theorem dX10_decide_49 : decode cX10_decide 49 = .ok (.getfield 65, 3) := by decide +kernel
theorem dX10_decide_52 : decode cX10_decide 52 = .ok (.getfield 216, 3) := by decide +kernel
theorem dX10_decide_55 : decode cX10_decide 55 = .ok (.iload_n 1, 1) := by decide +kernel
theorem dX10_decide_56 : decode cX10_decide 56 = .ok (.iload_n 2, 1) := by decide +kernel
theorem dX10_decide_57 : decode cX10_decide 57 = .ok (.ifCond .ne 15, 3) := by decide +kernel
theorem dX10_decide_60 : decode cX10_decide 60 = .ok (.aload_n 0, 1) := by decide +kernel
theorem dX10_decide_61 : decode cX10_decide 61 = .ok (.iload_n 1, 1) := by decide +kernel
theorem dX10_decide_62 : decode cX10_decide 62 = .ok (.invokevirtual 228, 3) := by decide +kernel
theorem dX10_decide_65 : decode cX10_decide 65 = .ok (.ifCond .eq 7, 3) := by decide +kernel
theorem dX10_decide_68 : decode cX10_decide 68 = .ok (.iconst 2, 1) := by decide +kernel
theorem dX10_decide_69 : decode cX10_decide 69 = .ok (.goto 4, 3) := by decide +kernel
theorem dX10_decide_72 : decode cX10_decide 72 = .ok (.iconst 1, 1) := by decide +kernel
theorem dX10_decide_73 : decode cX10_decide 73 = .ok (.iastore, 1) := by decide +kernel
theorem dX10_decide_74 : decode cX10_decide 74 = .ok (.aload_n 0, 1) := by decide +kernel
theorem dX10_decide_75 : decode cX10_decide 75 = .ok (.getfield 65, 3) := by decide +kernel
theorem dX10_decide_78 : decode cX10_decide 78 = .ok (.getfield 216, 3) := by decide +kernel
theorem dX10_decide_81 : decode cX10_decide 81 = .ok (.iload_n 1, 1) := by decide +kernel
theorem dX10_decide_82 : decode cX10_decide 82 = .ok (.iaload, 1) := by decide +kernel
theorem dX10_decide_83 : decode cX10_decide 83 = .ok (.ireturn, 1) := by decide +kernel
set_option maxRecDepth 20000 in
theorem ggX10_hang_X10_hangFromTape : GoodIn wsX10_hang wsX10_hangFromTape := goodIn_r _ [7, 8, 9, 10, 1, 11, 12, 13, 14, 15, 16, 17, 18, 6, 19, 20, 21, 22, 23, 24, 25, 26, 27, 28, 29, 30, 31, 32, 33, 34, 35, 36, 37, 38, 39, 40, 41, 42, 43, 44, 45, 46, 47, 48, 49, 50, 51, 52, 53, 54, 55, 56, 57, 58, 59, 60, 61, 62, 63, 64, 65, 66, 67, 68, 69, 70, 71, 72, 73, 74, 75, 76, 77, 78, 79, 80, 81, 82, 83, 84, 85, 86, 87, 88, 89, 90, 91, 92, 93, 94, 95, 96, 97, 98, 2, 99, 100, 101, 102, 103, 104, 105, 106, 107, 108, 109, 110, 111, 112, 113, 114, 115, 116, 117, 118, 119, 120, 121, 122, 123, 124, 125, 126, 127, 128, 129, 130, 131, 132, 133, 134, 135, 136, 137, 138, 139, 140, 141, 142, 143, 144, 145, 146, 147, 148, 149, 150, 151, 152, 153, 154, 155, 156, 157, 158, 161, 162, 163, 164, 165, 166, 167, 168, 169, 170, 171, 172, 173, 159, 160, 174, 175, 176, 177, 178, 179, 180, 181, 182, 183, 184, 185, 186, 187, 188, 189, 190, 191, 192, 193, 194, 195, 196, 197, 198, 199, 200, 201, 202, 203] (by decide +kernel) (by decide +kernel)
set_option maxRecDepth 20000 in
theorem gX10_hang_X10_hangFromTape : GoodIn wsX10_hang (wsV RX10 231 RX10 yX10_hangFromTape wsX10_hangFromTape) := goodIn_app (goodIn_of _ (by decide +kernel)) ggX10_hang_X10_hangFromTape
theorem dX10_hang_0 : decode cX10_hang 0 = .ok (.aload_n 0, 1) := by decide +kernel
theorem dX10_hang_1 : decode cX10_hang 1 = .ok (.iload_n 1, 1) := by decide +kernel
theorem dX10_hang_2 : decode cX10_hang 2 = .ok (.iload_n 2, 1) := by decide +kernel
theorem dX10_hang_3 : decode cX10_hang 3 = .ok (.iload_n 3, 1) := by decide +kernel
theorem dX10_hang_4 : decode cX10_hang 4 = .ok (.invokevirtual 231, 3) := by decide +kernel
theorem dX10_hang_7 : decode cX10_hang 7 = .ok (.istore 4, 2) := by decide +kernel
theorem dX10_hang_9 : decode cX10_hang 9 = .ok (.aload_n 0, 1) := by decide +kernel
theorem dX10_hang_10 : decode cX10_hang 10 = .ok (.getfield 10, 3) := by decide +kernel
theorem dX10_hang_13 : decode cX10_hang 13 = .ok (.iconst 0, 1) := by decide +kernel
theorem dX10_hang_14 : decode cX10_hang 14 = .ok (.putfield 83, 3) := by decide +kernel
theorem dX10_hang_17 : decode cX10_hang 17 = .ok (.iload 4, 2) := by decide +kernel
theorem dX10_hang_19 : decode cX10_hang 19 = .ok (.ireturn, 1) := by decide +kernel
set_option maxRecDepth 20000 in
theorem ggX10_line_X10_isPlaque : GoodIn wsX10_line wsX10_isPlaque := goodIn_r _ [7, 1, 8, 9, 10, 11, 6, 12, 13, 20, 21, 22, 23, 24, 25, 26, 27, 28, 29, 30, 31, 32, 33, 34, 35, 36, 37, 38, 39, 40] (by decide +kernel) (by decide +kernel)
set_option maxRecDepth 20000 in
theorem gX10_line_X10_isPlaque : GoodIn wsX10_line (wsV RX10 234 RX10 yX10_isPlaque wsX10_isPlaque) := goodIn_app (goodIn_of _ (by decide +kernel)) ggX10_line_X10_isPlaque
set_option maxRecDepth 20000 in
theorem ggX10_line_X0_hasLine : GoodIn wsX10_line wsX0_hasLine := goodIn_r _ [18, 19, 30, 31, 32, 33, 34, 35, 36, 37, 38, 39, 40] (by decide +kernel) (by decide +kernel)
set_option maxRecDepth 20000 in
theorem gX10_line_X0_hasLine : GoodIn wsX10_line (wsV RX10 237 RX0 yX0_hasLine wsX0_hasLine) := goodIn_app (goodIn_of _ (by decide +kernel)) ggX10_line_X0_hasLine
theorem dX10_line_0 : decode cX10_line 0 = .ok (.aload_n 0, 1) := by decide +kernel
theorem dX10_line_1 : decode cX10_line 1 = .ok (.iload_n 1, 1) := by decide +kernel
theorem dX10_line_2 : decode cX10_line 2 = .ok (.invokevirtual 234, 3) := by decide +kernel
theorem dX10_line_5 : decode cX10_line 5 = .ok (.ifCond .ne 6, 3) := by decide +kernel
theorem dX10_line_8 : decode cX10_line 8 = .ok (.bipush (-2), 2) := by decide +kernel
theorem dX10_line_10 : decode cX10_line 10 = .ok (.ireturn, 1) := by decide +kernel
theorem dX10_line_11 : decode cX10_line 11 = .ok (.aload_n 0, 1) := by decide +kernel
theorem dX10_line_12 : decode cX10_line 12 = .ok (.getfield 65, 3) := by decide +kernel
theorem dX10_line_15 : decode cX10_line 15 = .ok (.iload_n 1, 1) := by decide +kernel
theorem dX10_line_16 : decode cX10_line 16 = .ok (.iload_n 2, 1) := by decide +kernel
theorem dX10_line_17 : decode cX10_line 17 = .ok (.invokevirtual 237, 3) := by decide +kernel
theorem dX10_line_20 : decode cX10_line 20 = .ok (.ifCond .eq 20, 3) := by decide +kernel
theorem dX10_line_23 : decode cX10_line 23 = .ok (.aload_n 0, 1) := by decide +kernel
theorem dX10_line_24 : decode cX10_line 24 = .ok (.getfield 65, 3) := by decide +kernel
theorem dX10_line_27 : decode cX10_line 27 = .ok (.getfield 240, 3) := by decide +kernel
theorem dX10_line_30 : decode cX10_line 30 = .ok (.iload_n 1, 1) := by decide +kernel
theorem dX10_line_31 : decode cX10_line 31 = .ok (.bipush 8, 2) := by decide +kernel
theorem dX10_line_33 : decode cX10_line 33 = .ok (.imul, 1) := by decide +kernel
theorem dX10_line_34 : decode cX10_line 34 = .ok (.iload_n 2, 1) := by decide +kernel
theorem dX10_line_35 : decode cX10_line 35 = .ok (.iadd, 1) := by decide +kernel
theorem dX10_line_36 : decode cX10_line 36 = .ok (.iaload, 1) := by decide +kernel
theorem dX10_line_37 : decode cX10_line 37 = .ok (.goto 4, 3) := by decide +kernel
theorem dX10_line_40 : decode cX10_line 40 = .ok (.iconst (-1), 1) := by decide +kernel
theorem dX10_line_41 : decode cX10_line 41 = .ok (.ireturn, 1) := by decide +kernel
set_option maxRecDepth 20000 in
theorem ggX10_wide_X10_isPlaque : GoodIn wsX10_wide wsX10_isPlaque := goodIn_r _ [7, 1, 8, 9, 10, 11, 6, 12, 13, 20, 21, 22, 23, 24, 25, 26, 27, 28, 29, 30, 31, 32, 33, 34, 35, 36, 37, 38, 39, 40] (by decide +kernel) (by decide +kernel)
set_option maxRecDepth 20000 in
theorem gX10_wide_X10_isPlaque : GoodIn wsX10_wide (wsV RX10 234 RX10 yX10_isPlaque wsX10_isPlaque) := goodIn_app (goodIn_of _ (by decide +kernel)) ggX10_wide_X10_isPlaque
set_option maxRecDepth 20000 in
theorem ggX10_wide_X0_hasLine : GoodIn wsX10_wide wsX0_hasLine := goodIn_r _ [18, 19, 30, 31, 32, 33, 34, 35, 36, 37, 38, 39, 40] (by decide +kernel) (by decide +kernel)
set_option maxRecDepth 20000 in
theorem gX10_wide_X0_hasLine : GoodIn wsX10_wide (wsV RX10 237 RX0 yX0_hasLine wsX0_hasLine) := goodIn_app (goodIn_of _ (by decide +kernel)) ggX10_wide_X0_hasLine
theorem dX10_wide_0 : decode cX10_wide 0 = .ok (.aload_n 0, 1) := by decide +kernel
theorem dX10_wide_1 : decode cX10_wide 1 = .ok (.iload_n 1, 1) := by decide +kernel
theorem dX10_wide_2 : decode cX10_wide 2 = .ok (.invokevirtual 234, 3) := by decide +kernel
theorem dX10_wide_5 : decode cX10_wide 5 = .ok (.ifCond .ne 6, 3) := by decide +kernel
theorem dX10_wide_8 : decode cX10_wide 8 = .ok (.bipush (-2), 2) := by decide +kernel
theorem dX10_wide_10 : decode cX10_wide 10 = .ok (.ireturn, 1) := by decide +kernel
theorem dX10_wide_11 : decode cX10_wide 11 = .ok (.aload_n 0, 1) := by decide +kernel
theorem dX10_wide_12 : decode cX10_wide 12 = .ok (.getfield 65, 3) := by decide +kernel
theorem dX10_wide_15 : decode cX10_wide 15 = .ok (.iload_n 1, 1) := by decide +kernel
theorem dX10_wide_16 : decode cX10_wide 16 = .ok (.iload_n 2, 1) := by decide +kernel
theorem dX10_wide_17 : decode cX10_wide 17 = .ok (.invokevirtual 237, 3) := by decide +kernel
theorem dX10_wide_20 : decode cX10_wide 20 = .ok (.ifCond .eq 20, 3) := by decide +kernel
theorem dX10_wide_23 : decode cX10_wide 23 = .ok (.aload_n 0, 1) := by decide +kernel
theorem dX10_wide_24 : decode cX10_wide 24 = .ok (.getfield 65, 3) := by decide +kernel
theorem dX10_wide_27 : decode cX10_wide 27 = .ok (.getfield 243, 3) := by decide +kernel
theorem dX10_wide_30 : decode cX10_wide 30 = .ok (.iload_n 1, 1) := by decide +kernel
theorem dX10_wide_31 : decode cX10_wide 31 = .ok (.bipush 8, 2) := by decide +kernel
theorem dX10_wide_33 : decode cX10_wide 33 = .ok (.imul, 1) := by decide +kernel
theorem dX10_wide_34 : decode cX10_wide 34 = .ok (.iload_n 2, 1) := by decide +kernel
theorem dX10_wide_35 : decode cX10_wide 35 = .ok (.iadd, 1) := by decide +kernel
theorem dX10_wide_36 : decode cX10_wide 36 = .ok (.iaload, 1) := by decide +kernel
theorem dX10_wide_37 : decode cX10_wide 37 = .ok (.goto 4, 3) := by decide +kernel
theorem dX10_wide_40 : decode cX10_wide 40 = .ok (.iconst (-1), 1) := by decide +kernel
theorem dX10_wide_41 : decode cX10_wide 41 = .ok (.ireturn, 1) := by decide +kernel
set_option maxRecDepth 20000 in
theorem ggX10_down_X10_isAsking : GoodIn wsX10_down wsX10_isAsking := goodIn_r _ [9, 1, 10, 14, 15, 16, 17, 18, 19, 20, 21, 22, 23, 24, 25, 26, 27, 28, 29, 30, 31, 32, 33, 34] (by decide +kernel) (by decide +kernel)
set_option maxRecDepth 20000 in
theorem gX10_down_X10_isAsking : GoodIn wsX10_down (wsV RX10 204 RX10 yX10_isAsking wsX10_isAsking) := goodIn_app (goodIn_of _ (by decide +kernel)) ggX10_down_X10_isAsking
set_option maxRecDepth 20000 in
theorem ggX10_down_X10_isVotes : GoodIn wsX10_down wsX10_isVotes := goodIn_r _ [13] (by decide +kernel) (by decide +kernel)
set_option maxRecDepth 20000 in
theorem gX10_down_X10_isVotes : GoodIn wsX10_down (va_wsS RX10 213 yX10_isVotes wsX10_isVotes) := goodIn_app (goodIn_of _ (by decide +kernel)) ggX10_down_X10_isVotes
theorem dX10_down_0 : decode cX10_down 0 = .ok (.aload_n 0, 1) := by decide +kernel
theorem dX10_down_1 : decode cX10_down 1 = .ok (.iload_n 1, 1) := by decide +kernel
theorem dX10_down_2 : decode cX10_down 2 = .ok (.invokevirtual 204, 3) := by decide +kernel
theorem dX10_down_5 : decode cX10_down 5 = .ok (.ifCond .eq 17, 3) := by decide +kernel
theorem dX10_down_8 : decode cX10_down 8 = .ok (.iload_n 2, 1) := by decide +kernel
theorem dX10_down_9 : decode cX10_down 9 = .ok (.invokestatic 213, 3) := by decide +kernel
theorem dX10_down_12 : decode cX10_down 12 = .ok (.ifCond .eq 10, 3) := by decide +kernel
theorem dX10_down_15 : decode cX10_down 15 = .ok (.iload_n 3, 1) := by decide +kernel
theorem dX10_down_16 : decode cX10_down 16 = .ok (.invokestatic 213, 3) := by decide +kernel
theorem dX10_down_19 : decode cX10_down 19 = .ok (.ifCond .ne 6, 3) := by decide +kernel
theorem dX10_down_22 : decode cX10_down 22 = .ok (.bipush (-2), 2) := by decide +kernel
theorem dX10_down_24 : decode cX10_down 24 = .ok (.ireturn, 1) := by decide +kernel
theorem dX10_down_25 : decode cX10_down 25 = .ok (.aload_n 0, 1) := by decide +kernel
theorem dX10_down_26 : decode cX10_down 26 = .ok (.getfield 65, 3) := by decide +kernel
theorem dX10_down_29 : decode cX10_down 29 = .ok (.getfield 216, 3) := by decide +kernel
theorem dX10_down_32 : decode cX10_down 32 = .ok (.iload_n 1, 1) := by decide +kernel
theorem dX10_down_33 : decode cX10_down 33 = .ok (.iaload, 1) := by decide +kernel
theorem dX10_down_34 : decode cX10_down 34 = .ok (.iconst 3, 1) := by decide +kernel
theorem dX10_down_35 : decode cX10_down 35 = .ok (.if_icmp .eq 6, 3) := by decide +kernel
theorem dX10_down_38 : decode cX10_down 38 = .ok (.bipush (-4), 2) := by decide +kernel
theorem dX10_down_40 : decode cX10_down 40 = .ok (.ireturn, 1) := by decide +kernel
theorem dX10_down_41 : decode cX10_down 41 = .ok (.iload_n 2, 1) := by decide +kernel
theorem dX10_down_42 : decode cX10_down 42 = .ok (.iload_n 3, 1) := by decide +kernel
theorem dX10_down_43 : decode cX10_down 43 = .ok (.iadd, 1) := by decide +kernel
theorem dX10_down_44 : decode cX10_down 44 = .ok (.istore 4, 2) := by decide +kernel
theorem dX10_down_46 : decode cX10_down 46 = .ok (.iload 4, 2) := by decide +kernel
theorem dX10_down_48 : decode cX10_down 48 = .ok (.iconst 1, 1) := by decide +kernel
theorem dX10_down_49 : decode cX10_down 49 = .ok (.if_icmp .lt 33, 3) := by decide +kernel
theorem dX10_down_52 : decode cX10_down 52 = .ok (.iload_n 2, 1) := by decide +kernel
theorem dX10_down_53 : decode cX10_down 53 = .ok (.bipush 100, 2) := by decide +kernel
theorem dX10_down_55 : decode cX10_down 55 = .ok (.imul, 1) := by decide +kernel
theorem dX10_down_56 : decode cX10_down 56 = .ok (.aload_n 0, 1) := by decide +kernel
theorem dX10_down_57 : decode cX10_down 57 = .ok (.getfield 49, 3) := by decide +kernel
theorem dX10_down_60 : decode cX10_down 60 = .ok (.getfield 196, 3) := by decide +kernel
theorem dX10_down_63 : decode cX10_down 63 = .ok (.bipush 7, 2) := by decide +kernel
theorem dX10_down_65 : decode cX10_down 65 = .ok (.iaload, 1) := by decide +kernel
theorem dX10_down_66 : decode cX10_down 66 = .ok (.iload 4, 2) := by decide +kernel
theorem dX10_down_68 : decode cX10_down 68 = .ok (.imul, 1) := by decide +kernel
theorem dX10_down_69 : decode cX10_down 69 = .ok (.if_icmp .lt 13, 3) := by decide +kernel
theorem dX10_down_72 : decode cX10_down 72 = .ok (.aload_n 0, 1) := by decide +kernel
theorem dX10_down_73 : decode cX10_down 73 = .ok (.getfield 65, 3) := by decide +kernel
theorem dX10_down_76 : decode cX10_down 76 = .ok (.getfield 216, 3) := by decide +kernel
theorem dX10_down_79 : decode cX10_down 79 = .ok (.iload_n 1, 1) := by decide +kernel
theorem dX10_down_80 : decode cX10_down 80 = .ok (.iconst 4, 1) := by decide +kernel
theorem dX10_down_81 : decode cX10_down 81 = .ok (.iastore, 1) := by decide +kernel
theorem dX10_down_82 : decode cX10_down 82 = .ok (.aload_n 0, 1) := by decide +kernel
theorem dX10_down_83 : decode cX10_down 83 = .ok (.getfield 65, 3) := by decide +kernel
theorem dX10_down_86 : decode cX10_down 86 = .ok (.getfield 216, 3) := by decide +kernel
theorem dX10_down_89 : decode cX10_down 89 = .ok (.iload_n 1, 1) := by decide +kernel
theorem dX10_down_90 : decode cX10_down 90 = .ok (.iaload, 1) := by decide +kernel
theorem dX10_down_91 : decode cX10_down 91 = .ok (.ireturn, 1) := by decide +kernel
set_option maxRecDepth 20000 in
theorem ggX10_about_X10_isAsking : GoodIn wsX10_about wsX10_isAsking := goodIn_r _ [14, 1, 15, 16, 17, 18, 19, 20, 21, 22, 23, 24, 25, 26, 27, 28, 29, 30, 31, 32, 33, 34, 35, 36] (by decide +kernel) (by decide +kernel)
set_option maxRecDepth 20000 in
theorem gX10_about_X10_isAsking : GoodIn wsX10_about (wsV RX10 204 RX10 yX10_isAsking wsX10_isAsking) := goodIn_app (goodIn_of _ (by decide +kernel)) ggX10_about_X10_isAsking
theorem dX10_about_0 : decode cX10_about 0 = .ok (.aload_n 0, 1) := by decide +kernel
theorem dX10_about_1 : decode cX10_about 1 = .ok (.iload_n 1, 1) := by decide +kernel
theorem dX10_about_2 : decode cX10_about 2 = .ok (.invokevirtual 204, 3) := by decide +kernel
theorem dX10_about_5 : decode cX10_about 5 = .ok (.ifCond .ne 6, 3) := by decide +kernel
theorem dX10_about_8 : decode cX10_about 8 = .ok (.bipush (-9), 2) := by decide +kernel
theorem dX10_about_10 : decode cX10_about 10 = .ok (.ireturn, 1) := by decide +kernel
theorem dX10_about_11 : decode cX10_about 11 = .ok (.iload_n 2, 1) := by decide +kernel
theorem dX10_about_12 : decode cX10_about 12 = .ok (.tableswitch 128 0 7 #[48, 58, 68, 78, 88, 98, 108, 118], 48) := by decide +kernel
theorem dX10_about_60 : decode cX10_about 60 = .ok (.aload_n 0, 1) := by decide +kernel
theorem dX10_about_61 : decode cX10_about 61 = .ok (.getfield 65, 3) := by decide +kernel
theorem dX10_about_64 : decode cX10_about 64 = .ok (.getfield 246, 3) := by decide +kernel
theorem dX10_about_67 : decode cX10_about 67 = .ok (.iload_n 1, 1) := by decide +kernel
theorem dX10_about_68 : decode cX10_about 68 = .ok (.iaload, 1) := by decide +kernel
theorem dX10_about_69 : decode cX10_about 69 = .ok (.ireturn, 1) := by decide +kernel
theorem dX10_about_70 : decode cX10_about 70 = .ok (.aload_n 0, 1) := by decide +kernel
theorem dX10_about_71 : decode cX10_about 71 = .ok (.getfield 65, 3) := by decide +kernel
theorem dX10_about_74 : decode cX10_about 74 = .ok (.getfield 249, 3) := by decide +kernel
theorem dX10_about_77 : decode cX10_about 77 = .ok (.iload_n 1, 1) := by decide +kernel
theorem dX10_about_78 : decode cX10_about 78 = .ok (.iaload, 1) := by decide +kernel
theorem dX10_about_79 : decode cX10_about 79 = .ok (.ireturn, 1) := by decide +kernel
theorem dX10_about_80 : decode cX10_about 80 = .ok (.aload_n 0, 1) := by decide +kernel
theorem dX10_about_81 : decode cX10_about 81 = .ok (.getfield 65, 3) := by decide +kernel
theorem dX10_about_84 : decode cX10_about 84 = .ok (.getfield 252, 3) := by decide +kernel
theorem dX10_about_87 : decode cX10_about 87 = .ok (.iload_n 1, 1) := by decide +kernel
theorem dX10_about_88 : decode cX10_about 88 = .ok (.iaload, 1) := by decide +kernel
theorem dX10_about_89 : decode cX10_about 89 = .ok (.ireturn, 1) := by decide +kernel
theorem dX10_about_90 : decode cX10_about 90 = .ok (.aload_n 0, 1) := by decide +kernel
theorem dX10_about_91 : decode cX10_about 91 = .ok (.getfield 65, 3) := by decide +kernel
theorem dX10_about_94 : decode cX10_about 94 = .ok (.getfield 216, 3) := by decide +kernel
theorem dX10_about_97 : decode cX10_about 97 = .ok (.iload_n 1, 1) := by decide +kernel
theorem dX10_about_98 : decode cX10_about 98 = .ok (.iaload, 1) := by decide +kernel
theorem dX10_about_99 : decode cX10_about 99 = .ok (.ireturn, 1) := by decide +kernel
theorem dX10_about_100 : decode cX10_about 100 = .ok (.aload_n 0, 1) := by decide +kernel
theorem dX10_about_101 : decode cX10_about 101 = .ok (.getfield 65, 3) := by decide +kernel
theorem dX10_about_104 : decode cX10_about 104 = .ok (.getfield 219, 3) := by decide +kernel
theorem dX10_about_107 : decode cX10_about 107 = .ok (.iload_n 1, 1) := by decide +kernel
theorem dX10_about_108 : decode cX10_about 108 = .ok (.iaload, 1) := by decide +kernel
theorem dX10_about_109 : decode cX10_about 109 = .ok (.ireturn, 1) := by decide +kernel
theorem dX10_about_110 : decode cX10_about 110 = .ok (.aload_n 0, 1) := by decide +kernel
theorem dX10_about_111 : decode cX10_about 111 = .ok (.getfield 65, 3) := by decide +kernel
theorem dX10_about_114 : decode cX10_about 114 = .ok (.getfield 222, 3) := by decide +kernel
theorem dX10_about_117 : decode cX10_about 117 = .ok (.iload_n 1, 1) := by decide +kernel
theorem dX10_about_118 : decode cX10_about 118 = .ok (.iaload, 1) := by decide +kernel
theorem dX10_about_119 : decode cX10_about 119 = .ok (.ireturn, 1) := by decide +kernel
theorem dX10_about_120 : decode cX10_about 120 = .ok (.aload_n 0, 1) := by decide +kernel
theorem dX10_about_121 : decode cX10_about 121 = .ok (.getfield 65, 3) := by decide +kernel
theorem dX10_about_124 : decode cX10_about 124 = .ok (.getfield 225, 3) := by decide +kernel
theorem dX10_about_127 : decode cX10_about 127 = .ok (.iload_n 1, 1) := by decide +kernel
theorem dX10_about_128 : decode cX10_about 128 = .ok (.iaload, 1) := by decide +kernel
theorem dX10_about_129 : decode cX10_about 129 = .ok (.ireturn, 1) := by decide +kernel
theorem dX10_about_130 : decode cX10_about 130 = .ok (.aload_n 0, 1) := by decide +kernel
theorem dX10_about_131 : decode cX10_about 131 = .ok (.getfield 65, 3) := by decide +kernel
theorem dX10_about_134 : decode cX10_about 134 = .ok (.getfield 255, 3) := by decide +kernel
theorem dX10_about_137 : decode cX10_about 137 = .ok (.iload_n 1, 1) := by decide +kernel
theorem dX10_about_138 : decode cX10_about 138 = .ok (.iaload, 1) := by decide +kernel
theorem dX10_about_139 : decode cX10_about 139 = .ok (.ireturn, 1) := by decide +kernel
theorem dX10_about_140 : decode cX10_about 140 = .ok (.bipush (-9), 2) := by decide +kernel
theorem dX10_about_142 : decode cX10_about 142 = .ok (.ireturn, 1) := by decide +kernel
set_option maxRecDepth 20000 in
theorem ggX10_doubtful_X10_factsAgainst : GoodIn wsX10_doubtful wsX10_factsAgainst := goodIn_r _ [8, 1, 9, 10, 11, 12, 13, 14, 15, 16, 17, 18, 19, 20, 21, 22, 23, 24, 25, 26, 27, 28, 29, 30, 31, 32, 33, 34, 35, 36, 37, 38, 39, 40, 41, 42, 43, 44, 45, 46, 47, 48, 49, 50, 51, 52, 53, 54, 55, 56, 57, 58, 59, 60, 61, 62, 63, 64, 65, 66, 67, 68, 69, 70, 71, 72, 73, 74, 75, 76, 77, 78, 79, 80, 81, 82, 83, 84, 85, 86, 87, 88, 89, 90, 91, 92, 93, 94, 95, 96, 97, 98, 99, 100, 101, 102, 103, 104, 105, 106, 107, 108, 109, 110, 111, 112, 113, 114, 115, 116, 117, 118, 119, 120, 121, 122, 123, 124, 125, 126, 127, 128, 129, 130, 131, 132, 133, 134, 135, 136, 137, 138, 139, 140, 141, 142, 143, 144, 145, 146, 147, 148, 149, 150, 151, 152, 153, 154, 155, 156, 157, 158, 159, 160] (by decide +kernel) (by decide +kernel)
set_option maxRecDepth 20000 in
theorem gX10_doubtful_X10_factsAgainst : GoodIn wsX10_doubtful (wsV RX10 207 RX10 yX10_factsAgainst wsX10_factsAgainst) := goodIn_app (goodIn_of _ (by decide +kernel)) ggX10_doubtful_X10_factsAgainst
theorem dX10_doubtful_0 : decode cX10_doubtful 0 = .ok (.iconst 0, 1) := by decide +kernel
theorem dX10_doubtful_1 : decode cX10_doubtful 1 = .ok (.istore_n 1, 1) := by decide +kernel
theorem dX10_doubtful_2 : decode cX10_doubtful 2 = .ok (.iconst 0, 1) := by decide +kernel
theorem dX10_doubtful_3 : decode cX10_doubtful 3 = .ok (.istore_n 2, 1) := by decide +kernel
theorem dX10_doubtful_4 : decode cX10_doubtful 4 = .ok (.iload_n 2, 1) := by decide +kernel
theorem dX10_doubtful_5 : decode cX10_doubtful 5 = .ok (.aload_n 0, 1) := by decide +kernel
theorem dX10_doubtful_6 : decode cX10_doubtful 6 = .ok (.getfield 65, 3) := by decide +kernel
theorem dX10_doubtful_9 : decode cX10_doubtful 9 = .ok (.getfield 202, 3) := by decide +kernel
theorem dX10_doubtful_12 : decode cX10_doubtful 12 = .ok (.if_icmp .ge 33, 3) := by decide +kernel
theorem dX10_doubtful_15 : decode cX10_doubtful 15 = .ok (.aload_n 0, 1) := by decide +kernel
theorem dX10_doubtful_16 : decode cX10_doubtful 16 = .ok (.getfield 65, 3) := by decide +kernel
theorem dX10_doubtful_19 : decode cX10_doubtful 19 = .ok (.getfield 216, 3) := by decide +kernel
theorem dX10_doubtful_22 : decode cX10_doubtful 22 = .ok (.iload_n 2, 1) := by decide +kernel
theorem dX10_doubtful_23 : decode cX10_doubtful 23 = .ok (.iaload, 1) := by decide +kernel
theorem dX10_doubtful_24 : decode cX10_doubtful 24 = .ok (.iconst 3, 1) := by decide +kernel
theorem dX10_doubtful_25 : decode cX10_doubtful 25 = .ok (.if_icmp .ne 14, 3) := by decide +kernel
theorem dX10_doubtful_28 : decode cX10_doubtful 28 = .ok (.aload_n 0, 1) := by decide +kernel
theorem dX10_doubtful_29 : decode cX10_doubtful 29 = .ok (.iload_n 2, 1) := by decide +kernel
theorem dX10_doubtful_30 : decode cX10_doubtful 30 = .ok (.invokevirtual 207, 3) := by decide +kernel
theorem dX10_doubtful_33 : decode cX10_doubtful 33 = .ok (.ifCond .eq 6, 3) := by decide +kernel
theorem dX10_doubtful_36 : decode cX10_doubtful 36 = .ok (.iinc 1 1, 3) := by decide +kernel
theorem dX10_doubtful_39 : decode cX10_doubtful 39 = .ok (.iinc 2 1, 3) := by decide +kernel
theorem dX10_doubtful_42 : decode cX10_doubtful 42 = .ok (.goto (-38), 3) := by decide +kernel
theorem dX10_doubtful_45 : decode cX10_doubtful 45 = .ok (.iload_n 1, 1) := by decide +kernel
theorem dX10_doubtful_46 : decode cX10_doubtful 46 = .ok (.ireturn, 1) := by decide +kernel
set_option maxRecDepth 20000 in
theorem ggX10_count_X0_hanging : GoodIn wsX10_count wsX0_hanging := goodIn_r _ [16, 17, 18, 48, 49, 50, 51, 52, 53, 54, 55, 56, 57, 58] (by decide +kernel) (by decide +kernel)
set_option maxRecDepth 20000 in
theorem gX10_count_X0_hanging : GoodIn wsX10_count (wsV RX10 257 RX0 yX0_hanging wsX0_hanging) := goodIn_app (goodIn_of _ (by decide +kernel)) ggX10_count_X0_hanging
theorem dX10_count_0 : decode cX10_count 0 = .ok (.iload_n 1, 1) := by decide +kernel
theorem dX10_count_1 : decode cX10_count 1 = .ok (.bipush 10, 2) := by decide +kernel
theorem dX10_count_3 : decode cX10_count 3 = .ok (.if_icmp .lt 30, 3) := by decide +kernel
theorem dX10_count_6 : decode cX10_count 6 = .ok (.iload_n 1, 1) := by decide +kernel
theorem dX10_count_7 : decode cX10_count 7 = .ok (.bipush 10, 2) := by decide +kernel
theorem dX10_count_9 : decode cX10_count 9 = .ok (.aload_n 0, 1) := by decide +kernel
theorem dX10_count_10 : decode cX10_count 10 = .ok (.getfield 19, 3) := by decide +kernel
theorem dX10_count_13 : decode cX10_count 13 = .ok (.getfield 98, 3) := by decide +kernel
theorem dX10_count_16 : decode cX10_count 16 = .ok (.iadd, 1) := by decide +kernel
theorem dX10_count_17 : decode cX10_count 17 = .ok (.if_icmp .ge 16, 3) := by decide +kernel
theorem dX10_count_20 : decode cX10_count 20 = .ok (.aload_n 0, 1) := by decide +kernel
theorem dX10_count_21 : decode cX10_count 21 = .ok (.getfield 19, 3) := by decide +kernel
theorem dX10_count_24 : decode cX10_count 24 = .ok (.getfield 116, 3) := by decide +kernel
theorem dX10_count_27 : decode cX10_count 27 = .ok (.iload_n 1, 1) := by decide +kernel
theorem dX10_count_28 : decode cX10_count 28 = .ok (.bipush 10, 2) := by decide +kernel
theorem dX10_count_30 : decode cX10_count 30 = .ok (.isub, 1) := by decide +kernel
theorem dX10_count_31 : decode cX10_count 31 = .ok (.iaload, 1) := by decide +kernel
theorem dX10_count_32 : decode cX10_count 32 = .ok (.ireturn, 1) := by decide +kernel
theorem dX10_count_33 : decode cX10_count 33 = .ok (.iload_n 1, 1) := by decide +kernel
theorem dX10_count_34 : decode cX10_count 34 = .ok (.tableswitch 86 0 5 #[38, 46, 54, 62, 70, 78], 38) := by decide +kernel
theorem dX10_count_72 : decode cX10_count 72 = .ok (.aload_n 0, 1) := by decide +kernel
theorem dX10_count_73 : decode cX10_count 73 = .ok (.getfield 19, 3) := by decide +kernel
theorem dX10_count_76 : decode cX10_count 76 = .ok (.getfield 98, 3) := by decide +kernel
theorem dX10_count_79 : decode cX10_count 79 = .ok (.ireturn, 1) := by decide +kernel
theorem dX10_count_80 : decode cX10_count 80 = .ok (.aload_n 0, 1) := by decide +kernel
theorem dX10_count_81 : decode cX10_count 81 = .ok (.getfield 26, 3) := by decide +kernel
theorem dX10_count_84 : decode cX10_count 84 = .ok (.getfield 135, 3) := by decide +kernel
theorem dX10_count_87 : decode cX10_count 87 = .ok (.ireturn, 1) := by decide +kernel
theorem dX10_count_88 : decode cX10_count 88 = .ok (.aload_n 0, 1) := by decide +kernel
theorem dX10_count_89 : decode cX10_count 89 = .ok (.getfield 33, 3) := by decide +kernel
theorem dX10_count_92 : decode cX10_count 92 = .ok (.getfield 150, 3) := by decide +kernel
theorem dX10_count_95 : decode cX10_count 95 = .ok (.ireturn, 1) := by decide +kernel
theorem dX10_count_96 : decode cX10_count 96 = .ok (.aload_n 0, 1) := by decide +kernel
theorem dX10_count_97 : decode cX10_count 97 = .ok (.getfield 65, 3) := by decide +kernel
theorem dX10_count_100 : decode cX10_count 100 = .ok (.getfield 202, 3) := by decide +kernel
theorem dX10_count_103 : decode cX10_count 103 = .ok (.ireturn, 1) := by decide +kernel
theorem dX10_count_104 : decode cX10_count 104 = .ok (.aload_n 0, 1) := by decide +kernel
theorem dX10_count_105 : decode cX10_count 105 = .ok (.getfield 65, 3) := by decide +kernel
theorem dX10_count_108 : decode cX10_count 108 = .ok (.invokevirtual 257, 3) := by decide +kernel
theorem dX10_count_111 : decode cX10_count 111 = .ok (.ireturn, 1) := by decide +kernel
theorem dX10_count_112 : decode cX10_count 112 = .ok (.aload_n 0, 1) := by decide +kernel
theorem dX10_count_113 : decode cX10_count 113 = .ok (.getfield 10, 3) := by decide +kernel
theorem dX10_count_116 : decode cX10_count 116 = .ok (.getfield 83, 3) := by decide +kernel
theorem dX10_count_119 : decode cX10_count 119 = .ok (.ireturn, 1) := by decide +kernel
theorem dX10_count_120 : decode cX10_count 120 = .ok (.iconst (-1), 1) := by decide +kernel
theorem dX10_count_121 : decode cX10_count 121 = .ok (.ireturn, 1) := by decide +kernel
theorem dX10_isYear_0 : decode cX10_isYear 0 = .ok (.iload_n 0, 1) := by decide +kernel
theorem dX10_isYear_1 : decode cX10_isYear 1 = .ok (.sipush 1500, 3) := by decide +kernel
theorem dX10_isYear_4 : decode cX10_isYear 4 = .ok (.if_icmp .lt 14, 3) := by decide +kernel
theorem dX10_isYear_7 : decode cX10_isYear 7 = .ok (.iload_n 0, 1) := by decide +kernel
theorem dX10_isYear_8 : decode cX10_isYear 8 = .ok (.sipush 2100, 3) := by decide +kernel
theorem dX10_isYear_11 : decode cX10_isYear 11 = .ok (.if_icmp .gt 7, 3) := by decide +kernel
theorem dX10_isYear_14 : decode cX10_isYear 14 = .ok (.iconst 1, 1) := by decide +kernel
theorem dX10_isYear_15 : decode cX10_isYear 15 = .ok (.goto 4, 3) := by decide +kernel
theorem dX10_isYear_18 : decode cX10_isYear 18 = .ok (.iconst 0, 1) := by decide +kernel
theorem dX10_isYear_19 : decode cX10_isYear 19 = .ok (.ireturn, 1) := by decide +kernel
set_option maxRecDepth 20000 in
theorem ggX10_isSpan_X10_isYear : GoodIn wsX10_isSpan wsX10_isYear := goodIn_r _ [4] (by decide +kernel) (by decide +kernel)
set_option maxRecDepth 20000 in
theorem gX10_isSpan_X10_isYear : GoodIn wsX10_isSpan (va_wsS RX10 120 yX10_isYear wsX10_isYear) := goodIn_app (goodIn_of _ (by decide +kernel)) ggX10_isSpan_X10_isYear
theorem dX10_isSpan_0 : decode cX10_isSpan 0 = .ok (.iload_n 0, 1) := by decide +kernel
theorem dX10_isSpan_1 : decode cX10_isSpan 1 = .ok (.invokestatic 120, 3) := by decide +kernel
theorem dX10_isSpan_4 : decode cX10_isSpan 4 = .ok (.ifCond .eq 19, 3) := by decide +kernel
theorem dX10_isSpan_7 : decode cX10_isSpan 7 = .ok (.iload_n 1, 1) := by decide +kernel
theorem dX10_isSpan_8 : decode cX10_isSpan 8 = .ok (.invokestatic 120, 3) := by decide +kernel
theorem dX10_isSpan_11 : decode cX10_isSpan 11 = .ok (.ifCond .eq 12, 3) := by decide +kernel
theorem dX10_isSpan_14 : decode cX10_isSpan 14 = .ok (.iload_n 0, 1) := by decide +kernel
theorem dX10_isSpan_15 : decode cX10_isSpan 15 = .ok (.iload_n 1, 1) := by decide +kernel
theorem dX10_isSpan_16 : decode cX10_isSpan 16 = .ok (.if_icmp .gt 7, 3) := by decide +kernel
theorem dX10_isSpan_19 : decode cX10_isSpan 19 = .ok (.iconst 1, 1) := by decide +kernel
theorem dX10_isSpan_20 : decode cX10_isSpan 20 = .ok (.goto 4, 3) := by decide +kernel
theorem dX10_isSpan_23 : decode cX10_isSpan 23 = .ok (.iconst 0, 1) := by decide +kernel
theorem dX10_isSpan_24 : decode cX10_isSpan 24 = .ok (.ireturn, 1) := by decide +kernel
theorem dX10_isAddress_0 : decode cX10_isAddress 0 = .ok (.iload_n 0, 1) := by decide +kernel
theorem dX10_isAddress_1 : decode cX10_isAddress 1 = .ok (.ifCond .lt 25, 3) := by decide +kernel
theorem dX10_isAddress_4 : decode cX10_isAddress 4 = .ok (.iload_n 0, 1) := by decide +kernel
theorem dX10_isAddress_5 : decode cX10_isAddress 5 = .ok (.bipush 9, 2) := by decide +kernel
theorem dX10_isAddress_7 : decode cX10_isAddress 7 = .ok (.if_icmp .gt 19, 3) := by decide +kernel
theorem dX10_isAddress_10 : decode cX10_isAddress 10 = .ok (.iload_n 1, 1) := by decide +kernel
theorem dX10_isAddress_11 : decode cX10_isAddress 11 = .ok (.iconst 1, 1) := by decide +kernel
theorem dX10_isAddress_12 : decode cX10_isAddress 12 = .ok (.if_icmp .lt 14, 3) := by decide +kernel
theorem dX10_isAddress_15 : decode cX10_isAddress 15 = .ok (.iload_n 1, 1) := by decide +kernel
theorem dX10_isAddress_16 : decode cX10_isAddress 16 = .ok (.sipush 999, 3) := by decide +kernel
theorem dX10_isAddress_19 : decode cX10_isAddress 19 = .ok (.if_icmp .gt 7, 3) := by decide +kernel
theorem dX10_isAddress_22 : decode cX10_isAddress 22 = .ok (.iconst 1, 1) := by decide +kernel
theorem dX10_isAddress_23 : decode cX10_isAddress 23 = .ok (.goto 4, 3) := by decide +kernel
theorem dX10_isAddress_26 : decode cX10_isAddress 26 = .ok (.iconst 0, 1) := by decide +kernel
theorem dX10_isAddress_27 : decode cX10_isAddress 27 = .ok (.ireturn, 1) := by decide +kernel
theorem dX10_isTheme_0 : decode cX10_isTheme 0 = .ok (.iload_n 0, 1) := by decide +kernel
theorem dX10_isTheme_1 : decode cX10_isTheme 1 = .ok (.ifCond .lt 13, 3) := by decide +kernel
theorem dX10_isTheme_4 : decode cX10_isTheme 4 = .ok (.iload_n 0, 1) := by decide +kernel
theorem dX10_isTheme_5 : decode cX10_isTheme 5 = .ok (.bipush 7, 2) := by decide +kernel
theorem dX10_isTheme_7 : decode cX10_isTheme 7 = .ok (.if_icmp .gt 7, 3) := by decide +kernel
theorem dX10_isTheme_10 : decode cX10_isTheme 10 = .ok (.iconst 1, 1) := by decide +kernel
theorem dX10_isTheme_11 : decode cX10_isTheme 11 = .ok (.goto 4, 3) := by decide +kernel
theorem dX10_isTheme_14 : decode cX10_isTheme 14 = .ok (.iconst 0, 1) := by decide +kernel
theorem dX10_isTheme_15 : decode cX10_isTheme 15 = .ok (.ireturn, 1) := by decide +kernel
theorem dX10_isVotes_0 : decode cX10_isVotes 0 = .ok (.iload_n 0, 1) := by decide +kernel
theorem dX10_isVotes_1 : decode cX10_isVotes 1 = .ok (.ifCond .lt 13, 3) := by decide +kernel
theorem dX10_isVotes_4 : decode cX10_isVotes 4 = .ok (.iload_n 0, 1) := by decide +kernel
theorem dX10_isVotes_5 : decode cX10_isVotes 5 = .ok (.bipush 99, 2) := by decide +kernel
theorem dX10_isVotes_7 : decode cX10_isVotes 7 = .ok (.if_icmp .gt 7, 3) := by decide +kernel
theorem dX10_isVotes_10 : decode cX10_isVotes 10 = .ok (.iconst 1, 1) := by decide +kernel
theorem dX10_isVotes_11 : decode cX10_isVotes 11 = .ok (.goto 4, 3) := by decide +kernel
theorem dX10_isVotes_14 : decode cX10_isVotes 14 = .ok (.iconst 0, 1) := by decide +kernel
theorem dX10_isVotes_15 : decode cX10_isVotes 15 = .ok (.ireturn, 1) := by decide +kernel
theorem dX10_isSite_0 : decode cX10_isSite 0 = .ok (.iload_n 1, 1) := by decide +kernel
theorem dX10_isSite_1 : decode cX10_isSite 1 = .ok (.ifCond .lt 18, 3) := by decide +kernel
theorem dX10_isSite_4 : decode cX10_isSite 4 = .ok (.iload_n 1, 1) := by decide +kernel
theorem dX10_isSite_5 : decode cX10_isSite 5 = .ok (.aload_n 0, 1) := by decide +kernel
theorem dX10_isSite_6 : decode cX10_isSite 6 = .ok (.getfield 19, 3) := by decide +kernel
theorem dX10_isSite_9 : decode cX10_isSite 9 = .ok (.getfield 98, 3) := by decide +kernel
theorem dX10_isSite_12 : decode cX10_isSite 12 = .ok (.if_icmp .ge 7, 3) := by decide +kernel
theorem dX10_isSite_15 : decode cX10_isSite 15 = .ok (.iconst 1, 1) := by decide +kernel
theorem dX10_isSite_16 : decode cX10_isSite 16 = .ok (.goto 4, 3) := by decide +kernel
theorem dX10_isSite_19 : decode cX10_isSite 19 = .ok (.iconst 0, 1) := by decide +kernel
theorem dX10_isSite_20 : decode cX10_isSite 20 = .ok (.ireturn, 1) := by decide +kernel
theorem dX10_isPerson_0 : decode cX10_isPerson 0 = .ok (.iload_n 1, 1) := by decide +kernel
theorem dX10_isPerson_1 : decode cX10_isPerson 1 = .ok (.ifCond .lt 18, 3) := by decide +kernel
theorem dX10_isPerson_4 : decode cX10_isPerson 4 = .ok (.iload_n 1, 1) := by decide +kernel
theorem dX10_isPerson_5 : decode cX10_isPerson 5 = .ok (.aload_n 0, 1) := by decide +kernel
theorem dX10_isPerson_6 : decode cX10_isPerson 6 = .ok (.getfield 26, 3) := by decide +kernel
theorem dX10_isPerson_9 : decode cX10_isPerson 9 = .ok (.getfield 135, 3) := by decide +kernel
theorem dX10_isPerson_12 : decode cX10_isPerson 12 = .ok (.if_icmp .ge 7, 3) := by decide +kernel
theorem dX10_isPerson_15 : decode cX10_isPerson 15 = .ok (.iconst 1, 1) := by decide +kernel
theorem dX10_isPerson_16 : decode cX10_isPerson 16 = .ok (.goto 4, 3) := by decide +kernel
theorem dX10_isPerson_19 : decode cX10_isPerson 19 = .ok (.iconst 0, 1) := by decide +kernel
theorem dX10_isPerson_20 : decode cX10_isPerson 20 = .ok (.ireturn, 1) := by decide +kernel
theorem dX10_isAsking_0 : decode cX10_isAsking 0 = .ok (.iload_n 1, 1) := by decide +kernel
theorem dX10_isAsking_1 : decode cX10_isAsking 1 = .ok (.ifCond .lt 18, 3) := by decide +kernel
theorem dX10_isAsking_4 : decode cX10_isAsking 4 = .ok (.iload_n 1, 1) := by decide +kernel
theorem dX10_isAsking_5 : decode cX10_isAsking 5 = .ok (.aload_n 0, 1) := by decide +kernel
theorem dX10_isAsking_6 : decode cX10_isAsking 6 = .ok (.getfield 65, 3) := by decide +kernel
theorem dX10_isAsking_9 : decode cX10_isAsking 9 = .ok (.getfield 202, 3) := by decide +kernel
theorem dX10_isAsking_12 : decode cX10_isAsking 12 = .ok (.if_icmp .ge 7, 3) := by decide +kernel
theorem dX10_isAsking_15 : decode cX10_isAsking 15 = .ok (.iconst 1, 1) := by decide +kernel
theorem dX10_isAsking_16 : decode cX10_isAsking 16 = .ok (.goto 4, 3) := by decide +kernel
theorem dX10_isAsking_19 : decode cX10_isAsking 19 = .ok (.iconst 0, 1) := by decide +kernel
theorem dX10_isAsking_20 : decode cX10_isAsking 20 = .ok (.ireturn, 1) := by decide +kernel
set_option maxRecDepth 20000 in
theorem ggX10_isPlaque_X10_isAsking : GoodIn wsX10_isPlaque wsX10_isAsking := goodIn_r _ [7, 1, 8, 9, 10, 11, 12, 13, 14, 15, 16, 17, 18, 19, 20, 21, 22, 23, 24, 25, 26, 27, 28, 29] (by decide +kernel) (by decide +kernel)
set_option maxRecDepth 20000 in
theorem gX10_isPlaque_X10_isAsking : GoodIn wsX10_isPlaque (wsV RX10 204 RX10 yX10_isAsking wsX10_isAsking) := goodIn_app (goodIn_of _ (by decide +kernel)) ggX10_isPlaque_X10_isAsking
theorem dX10_isPlaque_0 : decode cX10_isPlaque 0 = .ok (.aload_n 0, 1) := by decide +kernel
theorem dX10_isPlaque_1 : decode cX10_isPlaque 1 = .ok (.iload_n 1, 1) := by decide +kernel
theorem dX10_isPlaque_2 : decode cX10_isPlaque 2 = .ok (.invokevirtual 204, 3) := by decide +kernel
theorem dX10_isPlaque_5 : decode cX10_isPlaque 5 = .ok (.ifCond .eq 33, 3) := by decide +kernel
theorem dX10_isPlaque_8 : decode cX10_isPlaque 8 = .ok (.aload_n 0, 1) := by decide +kernel
theorem dX10_isPlaque_9 : decode cX10_isPlaque 9 = .ok (.getfield 65, 3) := by decide +kernel
theorem dX10_isPlaque_12 : decode cX10_isPlaque 12 = .ok (.getfield 216, 3) := by decide +kernel
theorem dX10_isPlaque_15 : decode cX10_isPlaque 15 = .ok (.iload_n 1, 1) := by decide +kernel
theorem dX10_isPlaque_16 : decode cX10_isPlaque 16 = .ok (.iaload, 1) := by decide +kernel
theorem dX10_isPlaque_17 : decode cX10_isPlaque 17 = .ok (.iconst 3, 1) := by decide +kernel
theorem dX10_isPlaque_18 : decode cX10_isPlaque 18 = .ok (.if_icmp .eq 16, 3) := by decide +kernel
theorem dX10_isPlaque_21 : decode cX10_isPlaque 21 = .ok (.aload_n 0, 1) := by decide +kernel
theorem dX10_isPlaque_22 : decode cX10_isPlaque 22 = .ok (.getfield 65, 3) := by decide +kernel
theorem dX10_isPlaque_25 : decode cX10_isPlaque 25 = .ok (.getfield 216, 3) := by decide +kernel
theorem dX10_isPlaque_28 : decode cX10_isPlaque 28 = .ok (.iload_n 1, 1) := by decide +kernel
theorem dX10_isPlaque_29 : decode cX10_isPlaque 29 = .ok (.iaload, 1) := by decide +kernel
theorem dX10_isPlaque_30 : decode cX10_isPlaque 30 = .ok (.iconst 4, 1) := by decide +kernel
theorem dX10_isPlaque_31 : decode cX10_isPlaque 31 = .ok (.if_icmp .ne 7, 3) := by decide +kernel
theorem dX10_isPlaque_34 : decode cX10_isPlaque 34 = .ok (.iconst 1, 1) := by decide +kernel
theorem dX10_isPlaque_35 : decode cX10_isPlaque 35 = .ok (.goto 4, 3) := by decide +kernel
theorem dX10_isPlaque_38 : decode cX10_isPlaque 38 = .ok (.iconst 0, 1) := by decide +kernel
theorem dX10_isPlaque_39 : decode cX10_isPlaque 39 = .ok (.ireturn, 1) := by decide +kernel
set_option maxRecDepth 20000 in
theorem ggX10_factsAgainst_X7_study : GoodIn wsX10_factsAgainst wsX7_study := goodIn_r _ [15, 16, 17, 18, 19, 20, 21, 22, 23, 24, 25, 26, 27, 28, 29, 30, 31, 32, 14, 33, 34, 35, 36, 37, 38, 39, 40, 41, 42, 43, 44, 45, 46, 47, 48, 49, 50, 51, 52, 53, 54, 55, 56, 57, 58, 59, 60, 61, 62, 63, 64, 65, 66, 134, 135, 136, 137, 138, 139, 140, 141, 142, 143, 144, 145, 146, 147, 128, 129, 130, 131, 132, 148, 149, 150, 151, 152, 153] (by decide +kernel) (by decide +kernel)
set_option maxRecDepth 20000 in
theorem gX10_factsAgainst_X7_study : GoodIn wsX10_factsAgainst (wsV RX10 158 RX7 yX7_study wsX7_study) := goodIn_app (goodIn_of _ (by decide +kernel)) ggX10_factsAgainst_X7_study
set_option maxRecDepth 20000 in
theorem ggX10_factsAgainst_X7_sureYears : GoodIn wsX10_factsAgainst wsX7_sureYears := goodIn_r _ [70, 16, 71, 72, 14, 73, 74, 75, 76, 77, 78, 79, 80, 134, 135, 136, 137, 138, 139] (by decide +kernel) (by decide +kernel)
set_option maxRecDepth 20000 in
theorem gX10_factsAgainst_X7_sureYears : GoodIn wsX10_factsAgainst (wsV RX10 161 RX7 yX7_sureYears wsX7_sureYears) := goodIn_app (goodIn_of _ (by decide +kernel)) ggX10_factsAgainst_X7_sureYears
set_option maxRecDepth 20000 in
theorem ggX10_factsAgainst_X7_sources : GoodIn wsX10_factsAgainst wsX7_sources := goodIn_r _ [84, 18, 85, 86, 87, 88, 89, 90, 91, 134, 135, 136, 137, 138, 139] (by decide +kernel) (by decide +kernel)
set_option maxRecDepth 20000 in
theorem gX10_factsAgainst_X7_sources : GoodIn wsX10_factsAgainst (wsV RX10 174 RX7 yX7_sources wsX7_sources) := goodIn_app (goodIn_of _ (by decide +kernel)) ggX10_factsAgainst_X7_sources
set_option maxRecDepth 20000 in
theorem ggX10_factsAgainst_X6_surelyNumbered : GoodIn wsX10_factsAgainst wsX6_surelyNumbered := goodIn_r _ [95, 47, 48, 46, 49, 50, 51, 43, 52, 53, 148, 149, 150, 151, 152, 153] (by decide +kernel) (by decide +kernel)
set_option maxRecDepth 20000 in
theorem gX10_factsAgainst_X6_surelyNumbered : GoodIn wsX10_factsAgainst (wsV RX10 263 RX6 yX6_surelyNumbered wsX6_surelyNumbered) := goodIn_app (goodIn_of _ (by decide +kernel)) ggX10_factsAgainst_X6_surelyNumbered
set_option maxRecDepth 20000 in
theorem ggX10_factsAgainst_X7_lastSureYear : GoodIn wsX10_factsAgainst wsX7_lastSureYear := goodIn_r _ [99, 16, 100, 101, 76, 102, 103, 104, 87, 105, 106, 134, 135, 136, 137, 138, 139] (by decide +kernel) (by decide +kernel)
set_option maxRecDepth 20000 in
theorem gX10_factsAgainst_X7_lastSureYear : GoodIn wsX10_factsAgainst (wsV RX10 171 RX7 yX7_lastSureYear wsX7_lastSureYear) := goodIn_app (goodIn_of _ (by decide +kernel)) ggX10_factsAgainst_X7_lastSureYear
theorem dX10_factsAgainst_0 : decode cX10_factsAgainst 0 = .ok (.aload_n 0, 1) := by decide +kernel
theorem dX10_factsAgainst_1 : decode cX10_factsAgainst 1 = .ok (.getfield 65, 3) := by decide +kernel
theorem dX10_factsAgainst_4 : decode cX10_factsAgainst 4 = .ok (.getfield 246, 3) := by decide +kernel
theorem dX10_factsAgainst_7 : decode cX10_factsAgainst 7 = .ok (.iload_n 1, 1) := by decide +kernel
theorem dX10_factsAgainst_8 : decode cX10_factsAgainst 8 = .ok (.iaload, 1) := by decide +kernel
theorem dX10_factsAgainst_9 : decode cX10_factsAgainst 9 = .ok (.istore_n 2, 1) := by decide +kernel
theorem dX10_factsAgainst_10 : decode cX10_factsAgainst 10 = .ok (.aload_n 0, 1) := by decide +kernel
theorem dX10_factsAgainst_11 : decode cX10_factsAgainst 11 = .ok (.getfield 65, 3) := by decide +kernel
theorem dX10_factsAgainst_14 : decode cX10_factsAgainst 14 = .ok (.getfield 249, 3) := by decide +kernel
theorem dX10_factsAgainst_17 : decode cX10_factsAgainst 17 = .ok (.iload_n 1, 1) := by decide +kernel
theorem dX10_factsAgainst_18 : decode cX10_factsAgainst 18 = .ok (.iaload, 1) := by decide +kernel
theorem dX10_factsAgainst_19 : decode cX10_factsAgainst 19 = .ok (.istore_n 3, 1) := by decide +kernel
theorem dX10_factsAgainst_20 : decode cX10_factsAgainst 20 = .ok (.aload_n 0, 1) := by decide +kernel
theorem dX10_factsAgainst_21 : decode cX10_factsAgainst 21 = .ok (.getfield 65, 3) := by decide +kernel
theorem dX10_factsAgainst_24 : decode cX10_factsAgainst 24 = .ok (.getfield 252, 3) := by decide +kernel
theorem dX10_factsAgainst_27 : decode cX10_factsAgainst 27 = .ok (.iload_n 1, 1) := by decide +kernel
theorem dX10_factsAgainst_28 : decode cX10_factsAgainst 28 = .ok (.iaload, 1) := by decide +kernel
theorem dX10_factsAgainst_29 : decode cX10_factsAgainst 29 = .ok (.istore 4, 2) := by decide +kernel
theorem dX10_factsAgainst_31 : decode cX10_factsAgainst 31 = .ok (.aload_n 0, 1) := by decide +kernel
theorem dX10_factsAgainst_32 : decode cX10_factsAgainst 32 = .ok (.getfield 42, 3) := by decide +kernel
theorem dX10_factsAgainst_35 : decode cX10_factsAgainst 35 = .ok (.iload_n 2, 1) := by decide +kernel
theorem dX10_factsAgainst_36 : decode cX10_factsAgainst 36 = .ok (.iload_n 3, 1) := by decide +kernel
theorem dX10_factsAgainst_37 : decode cX10_factsAgainst 37 = .ok (.invokevirtual 158, 3) := by decide +kernel
theorem dX10_factsAgainst_40 : decode cX10_factsAgainst 40 = .ok (.iconst 0, 1) := by decide +kernel
theorem dX10_factsAgainst_41 : decode cX10_factsAgainst 41 = .ok (.istore 5, 2) := by decide +kernel
theorem dX10_factsAgainst_43 : decode cX10_factsAgainst 43 = .ok (.aload_n 0, 1) := by decide +kernel
theorem dX10_factsAgainst_44 : decode cX10_factsAgainst 44 = .ok (.getfield 26, 3) := by decide +kernel
theorem dX10_factsAgainst_47 : decode cX10_factsAgainst 47 = .ok (.getfield 260, 3) := by decide +kernel
theorem dX10_factsAgainst_50 : decode cX10_factsAgainst 50 = .ok (.iload_n 2, 1) := by decide +kernel
theorem dX10_factsAgainst_51 : decode cX10_factsAgainst 51 = .ok (.iaload, 1) := by decide +kernel
theorem dX10_factsAgainst_52 : decode cX10_factsAgainst 52 = .ok (.iconst (-1), 1) := by decide +kernel
theorem dX10_factsAgainst_53 : decode cX10_factsAgainst 53 = .ok (.if_icmp .eq 27, 3) := by decide +kernel
theorem dX10_factsAgainst_56 : decode cX10_factsAgainst 56 = .ok (.iload 4, 2) := by decide +kernel
theorem dX10_factsAgainst_58 : decode cX10_factsAgainst 58 = .ok (.aload_n 0, 1) := by decide +kernel
theorem dX10_factsAgainst_59 : decode cX10_factsAgainst 59 = .ok (.getfield 26, 3) := by decide +kernel
theorem dX10_factsAgainst_62 : decode cX10_factsAgainst 62 = .ok (.getfield 260, 3) := by decide +kernel
theorem dX10_factsAgainst_65 : decode cX10_factsAgainst 65 = .ok (.iload_n 2, 1) := by decide +kernel
theorem dX10_factsAgainst_66 : decode cX10_factsAgainst 66 = .ok (.iaload, 1) := by decide +kernel
theorem dX10_factsAgainst_67 : decode cX10_factsAgainst 67 = .ok (.isub, 1) := by decide +kernel
theorem dX10_factsAgainst_68 : decode cX10_factsAgainst 68 = .ok (.aload_n 0, 1) := by decide +kernel
theorem dX10_factsAgainst_69 : decode cX10_factsAgainst 69 = .ok (.getfield 49, 3) := by decide +kernel
theorem dX10_factsAgainst_72 : decode cX10_factsAgainst 72 = .ok (.getfield 196, 3) := by decide +kernel
theorem dX10_factsAgainst_75 : decode cX10_factsAgainst 75 = .ok (.iconst 0, 1) := by decide +kernel
theorem dX10_factsAgainst_76 : decode cX10_factsAgainst 76 = .ok (.iaload, 1) := by decide +kernel
theorem dX10_factsAgainst_77 : decode cX10_factsAgainst 77 = .ok (.if_icmp .ge 9, 3) := by decide +kernel
theorem dX10_factsAgainst_80 : decode cX10_factsAgainst 80 = .ok (.iload 5, 2) := by decide +kernel
theorem dX10_factsAgainst_82 : decode cX10_factsAgainst 82 = .ok (.iconst 1, 1) := by decide +kernel
theorem dX10_factsAgainst_83 : decode cX10_factsAgainst 83 = .ok (.ior, 1) := by decide +kernel
theorem dX10_factsAgainst_84 : decode cX10_factsAgainst 84 = .ok (.istore 5, 2) := by decide +kernel
theorem dX10_factsAgainst_86 : decode cX10_factsAgainst 86 = .ok (.aload_n 0, 1) := by decide +kernel
theorem dX10_factsAgainst_87 : decode cX10_factsAgainst 87 = .ok (.getfield 42, 3) := by decide +kernel
theorem dX10_factsAgainst_90 : decode cX10_factsAgainst 90 = .ok (.invokevirtual 161, 3) := by decide +kernel
theorem dX10_factsAgainst_93 : decode cX10_factsAgainst 93 = .ok (.aload_n 0, 1) := by decide +kernel
theorem dX10_factsAgainst_94 : decode cX10_factsAgainst 94 = .ok (.getfield 49, 3) := by decide +kernel
theorem dX10_factsAgainst_97 : decode cX10_factsAgainst 97 = .ok (.getfield 196, 3) := by decide +kernel
theorem dX10_factsAgainst_100 : decode cX10_factsAgainst 100 = .ok (.iconst 1, 1) := by decide +kernel
theorem dX10_factsAgainst_101 : decode cX10_factsAgainst 101 = .ok (.iaload, 1) := by decide +kernel
theorem dX10_factsAgainst_102 : decode cX10_factsAgainst 102 = .ok (.if_icmp .ge 9, 3) := by decide +kernel
theorem dX10_factsAgainst_105 : decode cX10_factsAgainst 105 = .ok (.iload 5, 2) := by decide +kernel
theorem dX10_factsAgainst_107 : decode cX10_factsAgainst 107 = .ok (.iconst 2, 1) := by decide +kernel
theorem dX10_factsAgainst_108 : decode cX10_factsAgainst 108 = .ok (.ior, 1) := by decide +kernel
theorem dX10_factsAgainst_109 : decode cX10_factsAgainst 109 = .ok (.istore 5, 2) := by decide +kernel
theorem dX10_factsAgainst_111 : decode cX10_factsAgainst 111 = .ok (.aload_n 0, 1) := by decide +kernel
theorem dX10_factsAgainst_112 : decode cX10_factsAgainst 112 = .ok (.getfield 42, 3) := by decide +kernel
theorem dX10_factsAgainst_115 : decode cX10_factsAgainst 115 = .ok (.invokevirtual 174, 3) := by decide +kernel
theorem dX10_factsAgainst_118 : decode cX10_factsAgainst 118 = .ok (.aload_n 0, 1) := by decide +kernel
theorem dX10_factsAgainst_119 : decode cX10_factsAgainst 119 = .ok (.getfield 49, 3) := by decide +kernel
theorem dX10_factsAgainst_122 : decode cX10_factsAgainst 122 = .ok (.getfield 196, 3) := by decide +kernel
theorem dX10_factsAgainst_125 : decode cX10_factsAgainst 125 = .ok (.iconst 2, 1) := by decide +kernel
theorem dX10_factsAgainst_126 : decode cX10_factsAgainst 126 = .ok (.iaload, 1) := by decide +kernel
theorem dX10_factsAgainst_127 : decode cX10_factsAgainst 127 = .ok (.if_icmp .ge 9, 3) := by decide +kernel
theorem dX10_factsAgainst_130 : decode cX10_factsAgainst 130 = .ok (.iload 5, 2) := by decide +kernel
theorem dX10_factsAgainst_132 : decode cX10_factsAgainst 132 = .ok (.iconst 4, 1) := by decide +kernel
theorem dX10_factsAgainst_133 : decode cX10_factsAgainst 133 = .ok (.ior, 1) := by decide +kernel
theorem dX10_factsAgainst_134 : decode cX10_factsAgainst 134 = .ok (.istore 5, 2) := by decide +kernel
theorem dX10_factsAgainst_136 : decode cX10_factsAgainst 136 = .ok (.aload_n 0, 1) := by decide +kernel
theorem dX10_factsAgainst_137 : decode cX10_factsAgainst 137 = .ok (.getfield 19, 3) := by decide +kernel
theorem dX10_factsAgainst_140 : decode cX10_factsAgainst 140 = .ok (.iload_n 3, 1) := by decide +kernel
theorem dX10_factsAgainst_141 : decode cX10_factsAgainst 141 = .ok (.iload 4, 2) := by decide +kernel
theorem dX10_factsAgainst_143 : decode cX10_factsAgainst 143 = .ok (.invokevirtual 263, 3) := by decide +kernel
theorem dX10_factsAgainst_146 : decode cX10_factsAgainst 146 = .ok (.ifCond .ne 10, 3) := by decide +kernel
theorem dX10_factsAgainst_149 : decode cX10_factsAgainst 149 = .ok (.iload 5, 2) := by decide +kernel
theorem dX10_factsAgainst_151 : decode cX10_factsAgainst 151 = .ok (.bipush 8, 2) := by decide +kernel
theorem dX10_factsAgainst_153 : decode cX10_factsAgainst 153 = .ok (.ior, 1) := by decide +kernel
theorem dX10_factsAgainst_154 : decode cX10_factsAgainst 154 = .ok (.istore 5, 2) := by decide +kernel
theorem dX10_factsAgainst_156 : decode cX10_factsAgainst 156 = .ok (.aload_n 0, 1) := by decide +kernel
theorem dX10_factsAgainst_157 : decode cX10_factsAgainst 157 = .ok (.getfield 42, 3) := by decide +kernel
theorem dX10_factsAgainst_160 : decode cX10_factsAgainst 160 = .ok (.invokevirtual 171, 3) := by decide +kernel
theorem dX10_factsAgainst_163 : decode cX10_factsAgainst 163 = .ok (.istore 6, 2) := by decide +kernel
theorem dX10_factsAgainst_165 : decode cX10_factsAgainst 165 = .ok (.iload 6, 2) := by decide +kernel
theorem dX10_factsAgainst_167 : decode cX10_factsAgainst 167 = .ok (.iconst (-1), 1) := by decide +kernel
theorem dX10_factsAgainst_168 : decode cX10_factsAgainst 168 = .ok (.if_icmp .eq 20, 3) := by decide +kernel
theorem dX10_factsAgainst_171 : decode cX10_factsAgainst 171 = .ok (.iload 4, 2) := by decide +kernel
theorem dX10_factsAgainst_173 : decode cX10_factsAgainst 173 = .ok (.iload 6, 2) := by decide +kernel
theorem dX10_factsAgainst_175 : decode cX10_factsAgainst 175 = .ok (.isub, 1) := by decide +kernel
theorem dX10_factsAgainst_176 : decode cX10_factsAgainst 176 = .ok (.aload_n 0, 1) := by decide +kernel
theorem dX10_factsAgainst_177 : decode cX10_factsAgainst 177 = .ok (.getfield 49, 3) := by decide +kernel
theorem dX10_factsAgainst_180 : decode cX10_factsAgainst 180 = .ok (.getfield 196, 3) := by decide +kernel
theorem dX10_factsAgainst_183 : decode cX10_factsAgainst 183 = .ok (.iconst 3, 1) := by decide +kernel
theorem dX10_factsAgainst_184 : decode cX10_factsAgainst 184 = .ok (.iaload, 1) := by decide +kernel
theorem dX10_factsAgainst_185 : decode cX10_factsAgainst 185 = .ok (.if_icmp .le 11, 3) := by decide +kernel
theorem dX10_factsAgainst_188 : decode cX10_factsAgainst 188 = .ok (.iload 5, 2) := by decide +kernel
theorem dX10_factsAgainst_190 : decode cX10_factsAgainst 190 = .ok (.sipush 128, 3) := by decide +kernel
theorem dX10_factsAgainst_193 : decode cX10_factsAgainst 193 = .ok (.ior, 1) := by decide +kernel
theorem dX10_factsAgainst_194 : decode cX10_factsAgainst 194 = .ok (.istore 5, 2) := by decide +kernel
theorem dX10_factsAgainst_196 : decode cX10_factsAgainst 196 = .ok (.iload 5, 2) := by decide +kernel
theorem dX10_factsAgainst_198 : decode cX10_factsAgainst 198 = .ok (.ireturn, 1) := by decide +kernel
set_option maxRecDepth 20000 in
theorem ggX10_plaquesAgainst_X3_areOne : GoodIn wsX10_plaquesAgainst wsX3_areOne := goodIn_r _ [14, 15, 37, 38, 39, 40, 41] (by decide +kernel) (by decide +kernel)
set_option maxRecDepth 20000 in
theorem gX10_plaquesAgainst_X3_areOne : GoodIn wsX10_plaquesAgainst (wsV RX10 143 RX3 yX3_areOne wsX3_areOne) := goodIn_app (goodIn_of _ (by decide +kernel)) ggX10_plaquesAgainst_X3_areOne
theorem dX10_plaquesAgainst_0 : decode cX10_plaquesAgainst 0 = .ok (.aload_n 0, 1) := by decide +kernel
theorem dX10_plaquesAgainst_1 : decode cX10_plaquesAgainst 1 = .ok (.getfield 65, 3) := by decide +kernel
theorem dX10_plaquesAgainst_4 : decode cX10_plaquesAgainst 4 = .ok (.getfield 246, 3) := by decide +kernel
theorem dX10_plaquesAgainst_7 : decode cX10_plaquesAgainst 7 = .ok (.iload_n 1, 1) := by decide +kernel
theorem dX10_plaquesAgainst_8 : decode cX10_plaquesAgainst 8 = .ok (.iaload, 1) := by decide +kernel
theorem dX10_plaquesAgainst_9 : decode cX10_plaquesAgainst 9 = .ok (.istore_n 2, 1) := by decide +kernel
theorem dX10_plaquesAgainst_10 : decode cX10_plaquesAgainst 10 = .ok (.aload_n 0, 1) := by decide +kernel
theorem dX10_plaquesAgainst_11 : decode cX10_plaquesAgainst 11 = .ok (.getfield 26, 3) := by decide +kernel
theorem dX10_plaquesAgainst_14 : decode cX10_plaquesAgainst 14 = .ok (.getfield 266, 3) := by decide +kernel
theorem dX10_plaquesAgainst_17 : decode cX10_plaquesAgainst 17 = .ok (.iload_n 2, 1) := by decide +kernel
theorem dX10_plaquesAgainst_18 : decode cX10_plaquesAgainst 18 = .ok (.iaload, 1) := by decide +kernel
theorem dX10_plaquesAgainst_19 : decode cX10_plaquesAgainst 19 = .ok (.istore_n 3, 1) := by decide +kernel
theorem dX10_plaquesAgainst_20 : decode cX10_plaquesAgainst 20 = .ok (.iconst 0, 1) := by decide +kernel
theorem dX10_plaquesAgainst_21 : decode cX10_plaquesAgainst 21 = .ok (.istore 4, 2) := by decide +kernel
theorem dX10_plaquesAgainst_23 : decode cX10_plaquesAgainst 23 = .ok (.iconst 0, 1) := by decide +kernel
theorem dX10_plaquesAgainst_24 : decode cX10_plaquesAgainst 24 = .ok (.istore 5, 2) := by decide +kernel
theorem dX10_plaquesAgainst_26 : decode cX10_plaquesAgainst 26 = .ok (.iconst 0, 1) := by decide +kernel
theorem dX10_plaquesAgainst_27 : decode cX10_plaquesAgainst 27 = .ok (.istore 6, 2) := by decide +kernel
theorem dX10_plaquesAgainst_29 : decode cX10_plaquesAgainst 29 = .ok (.iload 6, 2) := by decide +kernel
theorem dX10_plaquesAgainst_31 : decode cX10_plaquesAgainst 31 = .ok (.aload_n 0, 1) := by decide +kernel
theorem dX10_plaquesAgainst_32 : decode cX10_plaquesAgainst 32 = .ok (.getfield 65, 3) := by decide +kernel
theorem dX10_plaquesAgainst_35 : decode cX10_plaquesAgainst 35 = .ok (.getfield 202, 3) := by decide +kernel
theorem dX10_plaquesAgainst_38 : decode cX10_plaquesAgainst 38 = .ok (.if_icmp .ge 117, 3) := by decide +kernel
theorem dX10_plaquesAgainst_41 : decode cX10_plaquesAgainst 41 = .ok (.aload_n 0, 1) := by decide +kernel
theorem dX10_plaquesAgainst_42 : decode cX10_plaquesAgainst 42 = .ok (.getfield 65, 3) := by decide +kernel
theorem dX10_plaquesAgainst_45 : decode cX10_plaquesAgainst 45 = .ok (.getfield 216, 3) := by decide +kernel
theorem dX10_plaquesAgainst_48 : decode cX10_plaquesAgainst 48 = .ok (.iload 6, 2) := by decide +kernel
theorem dX10_plaquesAgainst_50 : decode cX10_plaquesAgainst 50 = .ok (.iaload, 1) := by decide +kernel
theorem dX10_plaquesAgainst_51 : decode cX10_plaquesAgainst 51 = .ok (.iconst 3, 1) := by decide +kernel
theorem dX10_plaquesAgainst_52 : decode cX10_plaquesAgainst 52 = .ok (.if_icmp .eq 6, 3) := by decide +kernel
theorem dX10_plaquesAgainst_55 : decode cX10_plaquesAgainst 55 = .ok (.goto 94, 3) := by decide +kernel
theorem dX10_plaquesAgainst_58 : decode cX10_plaquesAgainst 58 = .ok (.aload_n 0, 1) := by decide +kernel
theorem dX10_plaquesAgainst_59 : decode cX10_plaquesAgainst 59 = .ok (.getfield 65, 3) := by decide +kernel
theorem dX10_plaquesAgainst_62 : decode cX10_plaquesAgainst 62 = .ok (.getfield 246, 3) := by decide +kernel
theorem dX10_plaquesAgainst_65 : decode cX10_plaquesAgainst 65 = .ok (.iload 6, 2) := by decide +kernel
theorem dX10_plaquesAgainst_67 : decode cX10_plaquesAgainst 67 = .ok (.iaload, 1) := by decide +kernel
theorem dX10_plaquesAgainst_68 : decode cX10_plaquesAgainst 68 = .ok (.istore 7, 2) := by decide +kernel
theorem dX10_plaquesAgainst_70 : decode cX10_plaquesAgainst 70 = .ok (.aload_n 0, 1) := by decide +kernel
theorem dX10_plaquesAgainst_71 : decode cX10_plaquesAgainst 71 = .ok (.getfield 49, 3) := by decide +kernel
theorem dX10_plaquesAgainst_74 : decode cX10_plaquesAgainst 74 = .ok (.getfield 196, 3) := by decide +kernel
theorem dX10_plaquesAgainst_77 : decode cX10_plaquesAgainst 77 = .ok (.iconst 4, 1) := by decide +kernel
theorem dX10_plaquesAgainst_78 : decode cX10_plaquesAgainst 78 = .ok (.iaload, 1) := by decide +kernel
theorem dX10_plaquesAgainst_79 : decode cX10_plaquesAgainst 79 = .ok (.iconst 1, 1) := by decide +kernel
theorem dX10_plaquesAgainst_80 : decode cX10_plaquesAgainst 80 = .ok (.if_icmp .ne 23, 3) := by decide +kernel
theorem dX10_plaquesAgainst_83 : decode cX10_plaquesAgainst 83 = .ok (.aload_n 0, 1) := by decide +kernel
theorem dX10_plaquesAgainst_84 : decode cX10_plaquesAgainst 84 = .ok (.getfield 26, 3) := by decide +kernel
theorem dX10_plaquesAgainst_87 : decode cX10_plaquesAgainst 87 = .ok (.iload_n 2, 1) := by decide +kernel
theorem dX10_plaquesAgainst_88 : decode cX10_plaquesAgainst 88 = .ok (.iload 7, 2) := by decide +kernel
theorem dX10_plaquesAgainst_90 : decode cX10_plaquesAgainst 90 = .ok (.invokevirtual 143, 3) := by decide +kernel
theorem dX10_plaquesAgainst_93 : decode cX10_plaquesAgainst 93 = .ok (.ifCond .eq 10, 3) := by decide +kernel
theorem dX10_plaquesAgainst_96 : decode cX10_plaquesAgainst 96 = .ok (.iload 5, 2) := by decide +kernel
theorem dX10_plaquesAgainst_98 : decode cX10_plaquesAgainst 98 = .ok (.bipush 16, 2) := by decide +kernel
theorem dX10_plaquesAgainst_100 : decode cX10_plaquesAgainst 100 = .ok (.ior, 1) := by decide +kernel
theorem dX10_plaquesAgainst_101 : decode cX10_plaquesAgainst 101 = .ok (.istore 5, 2) := by decide +kernel
theorem dX10_plaquesAgainst_103 : decode cX10_plaquesAgainst 103 = .ok (.aload_n 0, 1) := by decide +kernel
theorem dX10_plaquesAgainst_104 : decode cX10_plaquesAgainst 104 = .ok (.getfield 65, 3) := by decide +kernel
theorem dX10_plaquesAgainst_107 : decode cX10_plaquesAgainst 107 = .ok (.getfield 249, 3) := by decide +kernel
theorem dX10_plaquesAgainst_110 : decode cX10_plaquesAgainst 110 = .ok (.iload 6, 2) := by decide +kernel
theorem dX10_plaquesAgainst_112 : decode cX10_plaquesAgainst 112 = .ok (.iaload, 1) := by decide +kernel
theorem dX10_plaquesAgainst_113 : decode cX10_plaquesAgainst 113 = .ok (.aload_n 0, 1) := by decide +kernel
theorem dX10_plaquesAgainst_114 : decode cX10_plaquesAgainst 114 = .ok (.getfield 65, 3) := by decide +kernel
theorem dX10_plaquesAgainst_117 : decode cX10_plaquesAgainst 117 = .ok (.getfield 249, 3) := by decide +kernel
theorem dX10_plaquesAgainst_120 : decode cX10_plaquesAgainst 120 = .ok (.iload_n 1, 1) := by decide +kernel
theorem dX10_plaquesAgainst_121 : decode cX10_plaquesAgainst 121 = .ok (.iaload, 1) := by decide +kernel
theorem dX10_plaquesAgainst_122 : decode cX10_plaquesAgainst 122 = .ok (.if_icmp .ne 10, 3) := by decide +kernel
theorem dX10_plaquesAgainst_125 : decode cX10_plaquesAgainst 125 = .ok (.iload 5, 2) := by decide +kernel
theorem dX10_plaquesAgainst_127 : decode cX10_plaquesAgainst 127 = .ok (.bipush 32, 2) := by decide +kernel
theorem dX10_plaquesAgainst_129 : decode cX10_plaquesAgainst 129 = .ok (.ior, 1) := by decide +kernel
theorem dX10_plaquesAgainst_130 : decode cX10_plaquesAgainst 130 = .ok (.istore 5, 2) := by decide +kernel
theorem dX10_plaquesAgainst_132 : decode cX10_plaquesAgainst 132 = .ok (.aload_n 0, 1) := by decide +kernel
theorem dX10_plaquesAgainst_133 : decode cX10_plaquesAgainst 133 = .ok (.getfield 26, 3) := by decide +kernel
theorem dX10_plaquesAgainst_136 : decode cX10_plaquesAgainst 136 = .ok (.getfield 266, 3) := by decide +kernel
theorem dX10_plaquesAgainst_139 : decode cX10_plaquesAgainst 139 = .ok (.iload 7, 2) := by decide +kernel
theorem dX10_plaquesAgainst_141 : decode cX10_plaquesAgainst 141 = .ok (.iaload, 1) := by decide +kernel
theorem dX10_plaquesAgainst_142 : decode cX10_plaquesAgainst 142 = .ok (.iload_n 3, 1) := by decide +kernel
theorem dX10_plaquesAgainst_143 : decode cX10_plaquesAgainst 143 = .ok (.if_icmp .ne 6, 3) := by decide +kernel
theorem dX10_plaquesAgainst_146 : decode cX10_plaquesAgainst 146 = .ok (.iinc 4 1, 3) := by decide +kernel
theorem dX10_plaquesAgainst_149 : decode cX10_plaquesAgainst 149 = .ok (.iinc 6 1, 3) := by decide +kernel
theorem dX10_plaquesAgainst_152 : decode cX10_plaquesAgainst 152 = .ok (.goto (-123), 3) := by decide +kernel
theorem dX10_plaquesAgainst_155 : decode cX10_plaquesAgainst 155 = .ok (.aload_n 0, 1) := by decide +kernel
theorem dX10_plaquesAgainst_156 : decode cX10_plaquesAgainst 156 = .ok (.getfield 49, 3) := by decide +kernel
theorem dX10_plaquesAgainst_159 : decode cX10_plaquesAgainst 159 = .ok (.getfield 196, 3) := by decide +kernel
theorem dX10_plaquesAgainst_162 : decode cX10_plaquesAgainst 162 = .ok (.bipush 10, 2) := by decide +kernel
theorem dX10_plaquesAgainst_164 : decode cX10_plaquesAgainst 164 = .ok (.iload_n 3, 1) := by decide +kernel
theorem dX10_plaquesAgainst_165 : decode cX10_plaquesAgainst 165 = .ok (.iadd, 1) := by decide +kernel
theorem dX10_plaquesAgainst_166 : decode cX10_plaquesAgainst 166 = .ok (.iaload, 1) := by decide +kernel
theorem dX10_plaquesAgainst_167 : decode cX10_plaquesAgainst 167 = .ok (.istore 6, 2) := by decide +kernel
theorem dX10_plaquesAgainst_169 : decode cX10_plaquesAgainst 169 = .ok (.iload 6, 2) := by decide +kernel
theorem dX10_plaquesAgainst_171 : decode cX10_plaquesAgainst 171 = .ok (.iconst (-1), 1) := by decide +kernel
theorem dX10_plaquesAgainst_172 : decode cX10_plaquesAgainst 172 = .ok (.if_icmp .eq 17, 3) := by decide +kernel
theorem dX10_plaquesAgainst_175 : decode cX10_plaquesAgainst 175 = .ok (.iload 4, 2) := by decide +kernel
theorem dX10_plaquesAgainst_177 : decode cX10_plaquesAgainst 177 = .ok (.iload 6, 2) := by decide +kernel
theorem dX10_plaquesAgainst_179 : decode cX10_plaquesAgainst 179 = .ok (.if_icmp .lt 10, 3) := by decide +kernel
theorem dX10_plaquesAgainst_182 : decode cX10_plaquesAgainst 182 = .ok (.iload 5, 2) := by decide +kernel
theorem dX10_plaquesAgainst_184 : decode cX10_plaquesAgainst 184 = .ok (.bipush 64, 2) := by decide +kernel
theorem dX10_plaquesAgainst_186 : decode cX10_plaquesAgainst 186 = .ok (.ior, 1) := by decide +kernel
theorem dX10_plaquesAgainst_187 : decode cX10_plaquesAgainst 187 = .ok (.istore 5, 2) := by decide +kernel
theorem dX10_plaquesAgainst_189 : decode cX10_plaquesAgainst 189 = .ok (.iload 5, 2) := by decide +kernel
theorem dX10_plaquesAgainst_191 : decode cX10_plaquesAgainst 191 = .ok (.ireturn, 1) := by decide +kernel
theorem dX10_votesSuffice_0 : decode cX10_votesSuffice 0 = .ok (.aload_n 0, 1) := by decide +kernel
theorem dX10_votesSuffice_1 : decode cX10_votesSuffice 1 = .ok (.getfield 65, 3) := by decide +kernel
theorem dX10_votesSuffice_4 : decode cX10_votesSuffice 4 = .ok (.getfield 219, 3) := by decide +kernel
theorem dX10_votesSuffice_7 : decode cX10_votesSuffice 7 = .ok (.iload_n 1, 1) := by decide +kernel
theorem dX10_votesSuffice_8 : decode cX10_votesSuffice 8 = .ok (.iaload, 1) := by decide +kernel
theorem dX10_votesSuffice_9 : decode cX10_votesSuffice 9 = .ok (.aload_n 0, 1) := by decide +kernel
theorem dX10_votesSuffice_10 : decode cX10_votesSuffice 10 = .ok (.getfield 65, 3) := by decide +kernel
theorem dX10_votesSuffice_13 : decode cX10_votesSuffice 13 = .ok (.getfield 222, 3) := by decide +kernel
theorem dX10_votesSuffice_16 : decode cX10_votesSuffice 16 = .ok (.iload_n 1, 1) := by decide +kernel
theorem dX10_votesSuffice_17 : decode cX10_votesSuffice 17 = .ok (.iaload, 1) := by decide +kernel
theorem dX10_votesSuffice_18 : decode cX10_votesSuffice 18 = .ok (.iadd, 1) := by decide +kernel
theorem dX10_votesSuffice_19 : decode cX10_votesSuffice 19 = .ok (.istore_n 2, 1) := by decide +kernel
theorem dX10_votesSuffice_20 : decode cX10_votesSuffice 20 = .ok (.iload_n 2, 1) := by decide +kernel
theorem dX10_votesSuffice_21 : decode cX10_votesSuffice 21 = .ok (.aload_n 0, 1) := by decide +kernel
theorem dX10_votesSuffice_22 : decode cX10_votesSuffice 22 = .ok (.getfield 49, 3) := by decide +kernel
theorem dX10_votesSuffice_25 : decode cX10_votesSuffice 25 = .ok (.getfield 196, 3) := by decide +kernel
theorem dX10_votesSuffice_28 : decode cX10_votesSuffice 28 = .ok (.iconst 5, 1) := by decide +kernel
theorem dX10_votesSuffice_29 : decode cX10_votesSuffice 29 = .ok (.iaload, 1) := by decide +kernel
theorem dX10_votesSuffice_30 : decode cX10_votesSuffice 30 = .ok (.if_icmp .lt 34, 3) := by decide +kernel
theorem dX10_votesSuffice_33 : decode cX10_votesSuffice 33 = .ok (.aload_n 0, 1) := by decide +kernel
theorem dX10_votesSuffice_34 : decode cX10_votesSuffice 34 = .ok (.getfield 65, 3) := by decide +kernel
theorem dX10_votesSuffice_37 : decode cX10_votesSuffice 37 = .ok (.getfield 219, 3) := by decide +kernel
theorem dX10_votesSuffice_40 : decode cX10_votesSuffice 40 = .ok (.iload_n 1, 1) := by decide +kernel
theorem dX10_votesSuffice_41 : decode cX10_votesSuffice 41 = .ok (.iaload, 1) := by decide +kernel
theorem dX10_votesSuffice_42 : decode cX10_votesSuffice 42 = .ok (.bipush 100, 2) := by decide +kernel
theorem dX10_votesSuffice_44 : decode cX10_votesSuffice 44 = .ok (.imul, 1) := by decide +kernel
theorem dX10_votesSuffice_45 : decode cX10_votesSuffice 45 = .ok (.aload_n 0, 1) := by decide +kernel
theorem dX10_votesSuffice_46 : decode cX10_votesSuffice 46 = .ok (.getfield 49, 3) := by decide +kernel
theorem dX10_votesSuffice_49 : decode cX10_votesSuffice 49 = .ok (.getfield 196, 3) := by decide +kernel
theorem dX10_votesSuffice_52 : decode cX10_votesSuffice 52 = .ok (.bipush 6, 2) := by decide +kernel
theorem dX10_votesSuffice_54 : decode cX10_votesSuffice 54 = .ok (.iaload, 1) := by decide +kernel
theorem dX10_votesSuffice_55 : decode cX10_votesSuffice 55 = .ok (.iload_n 2, 1) := by decide +kernel
theorem dX10_votesSuffice_56 : decode cX10_votesSuffice 56 = .ok (.imul, 1) := by decide +kernel
theorem dX10_votesSuffice_57 : decode cX10_votesSuffice 57 = .ok (.if_icmp .lt 7, 3) := by decide +kernel
theorem dX10_votesSuffice_60 : decode cX10_votesSuffice 60 = .ok (.iconst 1, 1) := by decide +kernel
theorem dX10_votesSuffice_61 : decode cX10_votesSuffice 61 = .ok (.goto 4, 3) := by decide +kernel
theorem dX10_votesSuffice_64 : decode cX10_votesSuffice 64 = .ok (.iconst 0, 1) := by decide +kernel
theorem dX10_votesSuffice_65 : decode cX10_votesSuffice 65 = .ok (.ireturn, 1) := by decide +kernel
set_option maxRecDepth 20000 in
theorem ggX10_hangFromTape_X10_isAsking : GoodIn wsX10_hangFromTape wsX10_isAsking := goodIn_r _ [14, 1, 15, 145, 146, 147, 148, 149, 150, 151, 152, 153, 154, 155, 156, 157, 158, 159, 160, 161, 162, 163, 164, 165] (by decide +kernel) (by decide +kernel)
set_option maxRecDepth 20000 in
theorem gX10_hangFromTape_X10_isAsking : GoodIn wsX10_hangFromTape (wsV RX10 204 RX10 yX10_isAsking wsX10_isAsking) := goodIn_app (goodIn_of _ (by decide +kernel)) ggX10_hangFromTape_X10_isAsking
set_option maxRecDepth 20000 in
theorem ggX10_hangFromTape_X9_split : GoodIn wsX10_hangFromTape wsX9_split := goodIn_r _ [20, 21, 22, 23, 24, 25, 13, 26, 27, 28, 19, 29, 30, 31, 32, 33, 166, 167, 168, 169] (by decide +kernel) (by decide +kernel)
set_option maxRecDepth 20000 in
theorem gX10_hangFromTape_X9_split : GoodIn wsX10_hangFromTape (wsV RX10 269 RX9 yX9_split wsX9_split) := goodIn_app (goodIn_of _ (by decide +kernel)) ggX10_hangFromTape_X9_split
set_option maxRecDepth 20000 in
theorem ggX10_hangFromTape_X7_study : GoodIn wsX10_hangFromTape wsX7_study := goodIn_r _ [38, 39, 40, 41, 42, 43, 44, 45, 46, 47, 48, 49, 50, 51, 52, 53, 54, 55, 37, 56, 57, 58, 59, 60, 61, 62, 63, 64, 65, 66, 67, 68, 69, 70, 71, 72, 73, 74, 75, 76, 77, 78, 79, 80, 81, 82, 83, 84, 85, 86, 87, 88, 89, 170, 171, 172, 173, 174, 175, 176, 177, 178, 179, 180, 181, 182, 183, 184, 185, 186, 187, 188, 189, 190, 191, 192, 193, 194] (by decide +kernel) (by decide +kernel)
set_option maxRecDepth 20000 in
theorem gX10_hangFromTape_X7_study : GoodIn wsX10_hangFromTape (wsV RX10 158 RX7 yX7_study wsX7_study) := goodIn_app (goodIn_of _ (by decide +kernel)) ggX10_hangFromTape_X7_study
set_option maxRecDepth 20000 in
theorem ggX10_hangFromTape_X10_yearsAreSure : GoodIn wsX10_hangFromTape wsX10_yearsAreSure := goodIn_r _ [93, 4, 94, 95, 96, 32, 13, 33, 97, 98, 99, 100, 101, 102, 103, 5, 104, 105, 106, 37, 107, 39, 108, 109, 145, 146, 147, 148, 149, 150, 151, 152, 153, 154, 168, 169, 184, 185, 186, 187, 188, 170, 171, 172, 173, 174, 175] (by decide +kernel) (by decide +kernel)
set_option maxRecDepth 20000 in
theorem gX10_hangFromTape_X10_yearsAreSure : GoodIn wsX10_hangFromTape (wsV RX10 273 RX10 yX10_yearsAreSure wsX10_yearsAreSure) := goodIn_app (goodIn_of _ (by decide +kernel)) ggX10_hangFromTape_X10_yearsAreSure
set_option maxRecDepth 20000 in
theorem ggX10_hangFromTape_X1_fits : GoodIn wsX10_hangFromTape wsX1_fits := goodIn_r _ [114, 115, 116, 117, 118, 119, 113, 120, 121, 122, 123, 124, 125, 126, 127, 128, 129, 130, 131, 132, 133, 166, 167, 195, 196, 197, 198, 199] (by decide +kernel) (by decide +kernel)
set_option maxRecDepth 20000 in
theorem gX10_hangFromTape_X1_fits : GoodIn wsX10_hangFromTape (wsV RX10 276 RX1 yX1_fits wsX1_fits) := goodIn_app (goodIn_of _ (by decide +kernel)) ggX10_hangFromTape_X1_fits
set_option maxRecDepth 20000 in
theorem ggX10_hangFromTape_X0_keepLines : GoodIn wsX10_hangFromTape wsX0_keepLines := goodIn_r _ [138, 139, 140, 141, 142, 143, 144, 155, 156, 157, 158, 159, 160, 161, 162, 163, 164, 165, 195, 196, 197, 198, 199] (by decide +kernel) (by decide +kernel)
set_option maxRecDepth 20000 in
theorem gX10_hangFromTape_X0_keepLines : GoodIn wsX10_hangFromTape (wsV RX10 280 RX0 yX0_keepLines wsX0_keepLines) := goodIn_app (goodIn_of _ (by decide +kernel)) ggX10_hangFromTape_X0_keepLines
theorem dX10_hangFromTape_0 : decode cX10_hangFromTape 0 = .ok (.aload_n 0, 1) := by decide +kernel
theorem dX10_hangFromTape_1 : decode cX10_hangFromTape 1 = .ok (.iload_n 1, 1) := by decide +kernel
theorem dX10_hangFromTape_2 : decode cX10_hangFromTape 2 = .ok (.invokevirtual 204, 3) := by decide +kernel
theorem dX10_hangFromTape_5 : decode cX10_hangFromTape 5 = .ok (.ifCond .eq 26, 3) := by decide +kernel
theorem dX10_hangFromTape_8 : decode cX10_hangFromTape 8 = .ok (.iload_n 2, 1) := by decide +kernel
theorem dX10_hangFromTape_9 : decode cX10_hangFromTape 9 = .ok (.iconst 1, 1) := by decide +kernel
theorem dX10_hangFromTape_10 : decode cX10_hangFromTape 10 = .ok (.if_icmp .lt 21, 3) := by decide +kernel
theorem dX10_hangFromTape_13 : decode cX10_hangFromTape 13 = .ok (.iload_n 2, 1) := by decide +kernel
theorem dX10_hangFromTape_14 : decode cX10_hangFromTape 14 = .ok (.sipush 400, 3) := by decide +kernel
theorem dX10_hangFromTape_17 : decode cX10_hangFromTape 17 = .ok (.if_icmp .gt 14, 3) := by decide +kernel
theorem dX10_hangFromTape_20 : decode cX10_hangFromTape 20 = .ok (.iload_n 3, 1) := by decide +kernel
theorem dX10_hangFromTape_21 : decode cX10_hangFromTape 21 = .ok (.iconst 1, 1) := by decide +kernel
theorem dX10_hangFromTape_22 : decode cX10_hangFromTape 22 = .ok (.if_icmp .lt 9, 3) := by decide +kernel
theorem dX10_hangFromTape_25 : decode cX10_hangFromTape 25 = .ok (.iload_n 3, 1) := by decide +kernel
theorem dX10_hangFromTape_26 : decode cX10_hangFromTape 26 = .ok (.bipush 8, 2) := by decide +kernel
theorem dX10_hangFromTape_28 : decode cX10_hangFromTape 28 = .ok (.if_icmp .le 6, 3) := by decide +kernel
theorem dX10_hangFromTape_31 : decode cX10_hangFromTape 31 = .ok (.bipush (-2), 2) := by decide +kernel
theorem dX10_hangFromTape_33 : decode cX10_hangFromTape 33 = .ok (.ireturn, 1) := by decide +kernel
theorem dX10_hangFromTape_34 : decode cX10_hangFromTape 34 = .ok (.aload_n 0, 1) := by decide +kernel
theorem dX10_hangFromTape_35 : decode cX10_hangFromTape 35 = .ok (.getfield 65, 3) := by decide +kernel
theorem dX10_hangFromTape_38 : decode cX10_hangFromTape 38 = .ok (.getfield 216, 3) := by decide +kernel
theorem dX10_hangFromTape_41 : decode cX10_hangFromTape 41 = .ok (.iload_n 1, 1) := by decide +kernel
theorem dX10_hangFromTape_42 : decode cX10_hangFromTape 42 = .ok (.iaload, 1) := by decide +kernel
theorem dX10_hangFromTape_43 : decode cX10_hangFromTape 43 = .ok (.iconst 2, 1) := by decide +kernel
theorem dX10_hangFromTape_44 : decode cX10_hangFromTape 44 = .ok (.if_icmp .eq 6, 3) := by decide +kernel
theorem dX10_hangFromTape_47 : decode cX10_hangFromTape 47 = .ok (.bipush (-4), 2) := by decide +kernel
theorem dX10_hangFromTape_49 : decode cX10_hangFromTape 49 = .ok (.ireturn, 1) := by decide +kernel
theorem dX10_hangFromTape_50 : decode cX10_hangFromTape 50 = .ok (.aload_n 0, 1) := by decide +kernel
theorem dX10_hangFromTape_51 : decode cX10_hangFromTape 51 = .ok (.getfield 72, 3) := by decide +kernel
theorem dX10_hangFromTape_54 : decode cX10_hangFromTape 54 = .ok (.aload_n 0, 1) := by decide +kernel
theorem dX10_hangFromTape_55 : decode cX10_hangFromTape 55 = .ok (.getfield 10, 3) := by decide +kernel
theorem dX10_hangFromTape_58 : decode cX10_hangFromTape 58 = .ok (.invokevirtual 269, 3) := by decide +kernel
theorem dX10_hangFromTape_61 : decode cX10_hangFromTape 61 = .ok (.ifCond .ne 5, 3) := by decide +kernel
theorem dX10_hangFromTape_64 : decode cX10_hangFromTape 64 = .ok (.iconst (-1), 1) := by decide +kernel
theorem dX10_hangFromTape_65 : decode cX10_hangFromTape 65 = .ok (.ireturn, 1) := by decide +kernel
theorem dX10_hangFromTape_66 : decode cX10_hangFromTape 66 = .ok (.aload_n 0, 1) := by decide +kernel
theorem dX10_hangFromTape_67 : decode cX10_hangFromTape 67 = .ok (.getfield 42, 3) := by decide +kernel
theorem dX10_hangFromTape_70 : decode cX10_hangFromTape 70 = .ok (.aload_n 0, 1) := by decide +kernel
theorem dX10_hangFromTape_71 : decode cX10_hangFromTape 71 = .ok (.getfield 65, 3) := by decide +kernel
theorem dX10_hangFromTape_74 : decode cX10_hangFromTape 74 = .ok (.getfield 246, 3) := by decide +kernel
theorem dX10_hangFromTape_77 : decode cX10_hangFromTape 77 = .ok (.iload_n 1, 1) := by decide +kernel
theorem dX10_hangFromTape_78 : decode cX10_hangFromTape 78 = .ok (.iaload, 1) := by decide +kernel
theorem dX10_hangFromTape_79 : decode cX10_hangFromTape 79 = .ok (.aload_n 0, 1) := by decide +kernel
theorem dX10_hangFromTape_80 : decode cX10_hangFromTape 80 = .ok (.getfield 65, 3) := by decide +kernel
theorem dX10_hangFromTape_83 : decode cX10_hangFromTape 83 = .ok (.getfield 249, 3) := by decide +kernel
theorem dX10_hangFromTape_86 : decode cX10_hangFromTape 86 = .ok (.iload_n 1, 1) := by decide +kernel
theorem dX10_hangFromTape_87 : decode cX10_hangFromTape 87 = .ok (.iaload, 1) := by decide +kernel
theorem dX10_hangFromTape_88 : decode cX10_hangFromTape 88 = .ok (.invokevirtual 158, 3) := by decide +kernel
theorem dX10_hangFromTape_91 : decode cX10_hangFromTape 91 = .ok (.aload_n 0, 1) := by decide +kernel
theorem dX10_hangFromTape_92 : decode cX10_hangFromTape 92 = .ok (.aload_n 0, 1) := by decide +kernel
theorem dX10_hangFromTape_93 : decode cX10_hangFromTape 93 = .ok (.getfield 65, 3) := by decide +kernel
theorem dX10_hangFromTape_96 : decode cX10_hangFromTape 96 = .ok (.getfield 246, 3) := by decide +kernel
theorem dX10_hangFromTape_99 : decode cX10_hangFromTape 99 = .ok (.iload_n 1, 1) := by decide +kernel
theorem dX10_hangFromTape_100 : decode cX10_hangFromTape 100 = .ok (.iaload, 1) := by decide +kernel
theorem dX10_hangFromTape_101 : decode cX10_hangFromTape 101 = .ok (.invokevirtual 273, 3) := by decide +kernel
theorem dX10_hangFromTape_104 : decode cX10_hangFromTape 104 = .ok (.ifCond .ne 6, 3) := by decide +kernel
theorem dX10_hangFromTape_107 : decode cX10_hangFromTape 107 = .ok (.bipush (-5), 2) := by decide +kernel
theorem dX10_hangFromTape_109 : decode cX10_hangFromTape 109 = .ok (.ireturn, 1) := by decide +kernel
theorem dX10_hangFromTape_110 : decode cX10_hangFromTape 110 = .ok (.aload_n 0, 1) := by decide +kernel
theorem dX10_hangFromTape_111 : decode cX10_hangFromTape 111 = .ok (.getfield 79, 3) := by decide +kernel
theorem dX10_hangFromTape_114 : decode cX10_hangFromTape 114 = .ok (.aload_n 0, 1) := by decide +kernel
theorem dX10_hangFromTape_115 : decode cX10_hangFromTape 115 = .ok (.getfield 72, 3) := by decide +kernel
theorem dX10_hangFromTape_118 : decode cX10_hangFromTape 118 = .ok (.iload_n 2, 1) := by decide +kernel
theorem dX10_hangFromTape_119 : decode cX10_hangFromTape 119 = .ok (.iload_n 3, 1) := by decide +kernel
theorem dX10_hangFromTape_120 : decode cX10_hangFromTape 120 = .ok (.invokevirtual 276, 3) := by decide +kernel
theorem dX10_hangFromTape_123 : decode cX10_hangFromTape 123 = .ok (.ifCond .ne 6, 3) := by decide +kernel
theorem dX10_hangFromTape_126 : decode cX10_hangFromTape 126 = .ok (.bipush (-3), 2) := by decide +kernel
theorem dX10_hangFromTape_128 : decode cX10_hangFromTape 128 = .ok (.ireturn, 1) := by decide +kernel
theorem dX10_hangFromTape_129 : decode cX10_hangFromTape 129 = .ok (.aload_n 0, 1) := by decide +kernel
theorem dX10_hangFromTape_130 : decode cX10_hangFromTape 130 = .ok (.getfield 65, 3) := by decide +kernel
theorem dX10_hangFromTape_133 : decode cX10_hangFromTape 133 = .ok (.iload_n 1, 1) := by decide +kernel
theorem dX10_hangFromTape_134 : decode cX10_hangFromTape 134 = .ok (.aload_n 0, 1) := by decide +kernel
theorem dX10_hangFromTape_135 : decode cX10_hangFromTape 135 = .ok (.getfield 79, 3) := by decide +kernel
theorem dX10_hangFromTape_138 : decode cX10_hangFromTape 138 = .ok (.invokevirtual 280, 3) := by decide +kernel
theorem dX10_hangFromTape_141 : decode cX10_hangFromTape 141 = .ok (.aload_n 0, 1) := by decide +kernel
theorem dX10_hangFromTape_142 : decode cX10_hangFromTape 142 = .ok (.getfield 65, 3) := by decide +kernel
theorem dX10_hangFromTape_145 : decode cX10_hangFromTape 145 = .ok (.getfield 216, 3) := by decide +kernel
theorem dX10_hangFromTape_148 : decode cX10_hangFromTape 148 = .ok (.iload_n 1, 1) := by decide +kernel
theorem dX10_hangFromTape_149 : decode cX10_hangFromTape 149 = .ok (.iconst 3, 1) := by decide +kernel
theorem dX10_hangFromTape_150 : decode cX10_hangFromTape 150 = .ok (.iastore, 1) := by decide +kernel
theorem dX10_hangFromTape_151 : decode cX10_hangFromTape 151 = .ok (.aload_n 0, 1) := by decide +kernel
theorem dX10_hangFromTape_152 : decode cX10_hangFromTape 152 = .ok (.getfield 65, 3) := by decide +kernel
theorem dX10_hangFromTape_155 : decode cX10_hangFromTape 155 = .ok (.getfield 255, 3) := by decide +kernel
theorem dX10_hangFromTape_158 : decode cX10_hangFromTape 158 = .ok (.iload_n 1, 1) := by decide +kernel
theorem dX10_hangFromTape_159 : decode cX10_hangFromTape 159 = .ok (.iaload, 1) := by decide +kernel
theorem dX10_hangFromTape_160 : decode cX10_hangFromTape 160 = .ok (.ireturn, 1) := by decide +kernel
set_option maxRecDepth 20000 in
theorem ggX10_yearsAreSure_X10_isDigit : GoodIn wsX10_yearsAreSure wsX10_isDigit := goodIn_r _ [7] (by decide +kernel) (by decide +kernel)
set_option maxRecDepth 20000 in
theorem gX10_yearsAreSure_X10_isDigit : GoodIn wsX10_yearsAreSure (va_wsS RX10 287 yX10_isDigit wsX10_isDigit) := goodIn_app (goodIn_of _ (by decide +kernel)) ggX10_yearsAreSure_X10_isDigit
set_option maxRecDepth 20000 in
theorem ggX10_yearsAreSure_X10_isSureYear : GoodIn wsX10_yearsAreSure wsX10_isSureYear := goodIn_r _ [11, 12, 13, 14, 15, 16, 17, 18, 19, 20, 21, 22, 6, 23, 24, 25, 26, 27, 28, 29, 30, 31, 32, 33, 36, 37, 38, 39, 40, 41, 42, 43, 44, 45, 46] (by decide +kernel) (by decide +kernel)
set_option maxRecDepth 20000 in
theorem gX10_yearsAreSure_X10_isSureYear : GoodIn wsX10_yearsAreSure (wsV RX10 290 RX10 yX10_isSureYear wsX10_isSureYear) := goodIn_app (goodIn_of _ (by decide +kernel)) ggX10_yearsAreSure_X10_isSureYear
theorem dX10_yearsAreSure_0 : decode cX10_yearsAreSure 0 = .ok (.iconst 0, 1) := by decide +kernel
theorem dX10_yearsAreSure_1 : decode cX10_yearsAreSure 1 = .ok (.istore_n 2, 1) := by decide +kernel
theorem dX10_yearsAreSure_2 : decode cX10_yearsAreSure 2 = .ok (.iconst 0, 1) := by decide +kernel
theorem dX10_yearsAreSure_3 : decode cX10_yearsAreSure 3 = .ok (.istore_n 3, 1) := by decide +kernel
theorem dX10_yearsAreSure_4 : decode cX10_yearsAreSure 4 = .ok (.iconst 0, 1) := by decide +kernel
theorem dX10_yearsAreSure_5 : decode cX10_yearsAreSure 5 = .ok (.istore 4, 2) := by decide +kernel
theorem dX10_yearsAreSure_7 : decode cX10_yearsAreSure 7 = .ok (.iload 4, 2) := by decide +kernel
theorem dX10_yearsAreSure_9 : decode cX10_yearsAreSure 9 = .ok (.aload_n 0, 1) := by decide +kernel
theorem dX10_yearsAreSure_10 : decode cX10_yearsAreSure 10 = .ok (.getfield 10, 3) := by decide +kernel
theorem dX10_yearsAreSure_13 : decode cX10_yearsAreSure 13 = .ok (.getfield 83, 3) := by decide +kernel
theorem dX10_yearsAreSure_16 : decode cX10_yearsAreSure 16 = .ok (.if_icmp .gt 92, 3) := by decide +kernel
theorem dX10_yearsAreSure_19 : decode cX10_yearsAreSure 19 = .ok (.iload 4, 2) := by decide +kernel
theorem dX10_yearsAreSure_21 : decode cX10_yearsAreSure 21 = .ok (.aload_n 0, 1) := by decide +kernel
theorem dX10_yearsAreSure_22 : decode cX10_yearsAreSure 22 = .ok (.getfield 10, 3) := by decide +kernel
theorem dX10_yearsAreSure_25 : decode cX10_yearsAreSure 25 = .ok (.getfield 83, 3) := by decide +kernel
theorem dX10_yearsAreSure_28 : decode cX10_yearsAreSure 28 = .ok (.if_icmp .ge 16, 3) := by decide +kernel
theorem dX10_yearsAreSure_31 : decode cX10_yearsAreSure 31 = .ok (.aload_n 0, 1) := by decide +kernel
theorem dX10_yearsAreSure_32 : decode cX10_yearsAreSure 32 = .ok (.getfield 10, 3) := by decide +kernel
theorem dX10_yearsAreSure_35 : decode cX10_yearsAreSure 35 = .ok (.getfield 284, 3) := by decide +kernel
theorem dX10_yearsAreSure_38 : decode cX10_yearsAreSure 38 = .ok (.iload 4, 2) := by decide +kernel
theorem dX10_yearsAreSure_40 : decode cX10_yearsAreSure 40 = .ok (.iaload, 1) := by decide +kernel
theorem dX10_yearsAreSure_41 : decode cX10_yearsAreSure 41 = .ok (.goto 5, 3) := by decide +kernel
theorem dX10_yearsAreSure_44 : decode cX10_yearsAreSure 44 = .ok (.bipush 32, 2) := by decide +kernel
theorem dX10_yearsAreSure_46 : decode cX10_yearsAreSure 46 = .ok (.istore 5, 2) := by decide +kernel
theorem dX10_yearsAreSure_48 : decode cX10_yearsAreSure 48 = .ok (.iload 5, 2) := by decide +kernel
theorem dX10_yearsAreSure_50 : decode cX10_yearsAreSure 50 = .ok (.invokestatic 287, 3) := by decide +kernel
theorem dX10_yearsAreSure_53 : decode cX10_yearsAreSure 53 = .ok (.ifCond .eq 29, 3) := by decide +kernel
theorem dX10_yearsAreSure_56 : decode cX10_yearsAreSure 56 = .ok (.iinc 2 1, 3) := by decide +kernel
theorem dX10_yearsAreSure_59 : decode cX10_yearsAreSure 59 = .ok (.iload_n 2, 1) := by decide +kernel
theorem dX10_yearsAreSure_60 : decode cX10_yearsAreSure 60 = .ok (.iconst 4, 1) := by decide +kernel
theorem dX10_yearsAreSure_61 : decode cX10_yearsAreSure 61 = .ok (.if_icmp .gt 16, 3) := by decide +kernel
theorem dX10_yearsAreSure_64 : decode cX10_yearsAreSure 64 = .ok (.iload_n 3, 1) := by decide +kernel
theorem dX10_yearsAreSure_65 : decode cX10_yearsAreSure 65 = .ok (.bipush 10, 2) := by decide +kernel
theorem dX10_yearsAreSure_67 : decode cX10_yearsAreSure 67 = .ok (.imul, 1) := by decide +kernel
theorem dX10_yearsAreSure_68 : decode cX10_yearsAreSure 68 = .ok (.iload 5, 2) := by decide +kernel
theorem dX10_yearsAreSure_70 : decode cX10_yearsAreSure 70 = .ok (.bipush 48, 2) := by decide +kernel
theorem dX10_yearsAreSure_72 : decode cX10_yearsAreSure 72 = .ok (.isub, 1) := by decide +kernel
theorem dX10_yearsAreSure_73 : decode cX10_yearsAreSure 73 = .ok (.iadd, 1) := by decide +kernel
theorem dX10_yearsAreSure_74 : decode cX10_yearsAreSure 74 = .ok (.goto 4, 3) := by decide +kernel
theorem dX10_yearsAreSure_77 : decode cX10_yearsAreSure 77 = .ok (.iconst 0, 1) := by decide +kernel
theorem dX10_yearsAreSure_78 : decode cX10_yearsAreSure 78 = .ok (.istore_n 3, 1) := by decide +kernel
theorem dX10_yearsAreSure_79 : decode cX10_yearsAreSure 79 = .ok (.goto 23, 3) := by decide +kernel
theorem dX10_yearsAreSure_82 : decode cX10_yearsAreSure 82 = .ok (.iload_n 2, 1) := by decide +kernel
theorem dX10_yearsAreSure_83 : decode cX10_yearsAreSure 83 = .ok (.iconst 4, 1) := by decide +kernel
theorem dX10_yearsAreSure_84 : decode cX10_yearsAreSure 84 = .ok (.if_icmp .ne 14, 3) := by decide +kernel
theorem dX10_yearsAreSure_87 : decode cX10_yearsAreSure 87 = .ok (.aload_n 0, 1) := by decide +kernel
theorem dX10_yearsAreSure_88 : decode cX10_yearsAreSure 88 = .ok (.iload_n 1, 1) := by decide +kernel
theorem dX10_yearsAreSure_89 : decode cX10_yearsAreSure 89 = .ok (.iload_n 3, 1) := by decide +kernel
theorem dX10_yearsAreSure_90 : decode cX10_yearsAreSure 90 = .ok (.invokevirtual 290, 3) := by decide +kernel
theorem dX10_yearsAreSure_93 : decode cX10_yearsAreSure 93 = .ok (.ifCond .ne 5, 3) := by decide +kernel
theorem dX10_yearsAreSure_96 : decode cX10_yearsAreSure 96 = .ok (.iconst 0, 1) := by decide +kernel
theorem dX10_yearsAreSure_97 : decode cX10_yearsAreSure 97 = .ok (.ireturn, 1) := by decide +kernel
theorem dX10_yearsAreSure_98 : decode cX10_yearsAreSure 98 = .ok (.iconst 0, 1) := by decide +kernel
theorem dX10_yearsAreSure_99 : decode cX10_yearsAreSure 99 = .ok (.istore_n 2, 1) := by decide +kernel
theorem dX10_yearsAreSure_100 : decode cX10_yearsAreSure 100 = .ok (.iconst 0, 1) := by decide +kernel
theorem dX10_yearsAreSure_101 : decode cX10_yearsAreSure 101 = .ok (.istore_n 3, 1) := by decide +kernel
theorem dX10_yearsAreSure_102 : decode cX10_yearsAreSure 102 = .ok (.iinc 4 1, 3) := by decide +kernel
theorem dX10_yearsAreSure_105 : decode cX10_yearsAreSure 105 = .ok (.goto (-98), 3) := by decide +kernel
theorem dX10_yearsAreSure_108 : decode cX10_yearsAreSure 108 = .ok (.iconst 1, 1) := by decide +kernel
theorem dX10_yearsAreSure_109 : decode cX10_yearsAreSure 109 = .ok (.ireturn, 1) := by decide +kernel
set_option maxRecDepth 20000 in
theorem ggX10_isSureYear_X7_isSure : GoodIn wsX10_isSureYear wsX7_isSure := goodIn_r _ [9, 10, 11, 12, 13, 29, 30, 31, 32, 33, 34] (by decide +kernel) (by decide +kernel)
set_option maxRecDepth 20000 in
theorem gX10_isSureYear_X7_isSure : GoodIn wsX10_isSureYear (wsV RX10 296 RX7 yX7_isSure wsX7_isSure) := goodIn_app (goodIn_of _ (by decide +kernel)) ggX10_isSureYear_X7_isSure
theorem dX10_isSureYear_0 : decode cX10_isSureYear 0 = .ok (.iload_n 2, 1) := by decide +kernel
theorem dX10_isSureYear_1 : decode cX10_isSureYear 1 = .ok (.aload_n 0, 1) := by decide +kernel
theorem dX10_isSureYear_2 : decode cX10_isSureYear 2 = .ok (.getfield 26, 3) := by decide +kernel
theorem dX10_isSureYear_5 : decode cX10_isSureYear 5 = .ok (.getfield 293, 3) := by decide +kernel
theorem dX10_isSureYear_8 : decode cX10_isSureYear 8 = .ok (.iload_n 1, 1) := by decide +kernel
theorem dX10_isSureYear_9 : decode cX10_isSureYear 9 = .ok (.iaload, 1) := by decide +kernel
theorem dX10_isSureYear_10 : decode cX10_isSureYear 10 = .ok (.if_icmp .eq 27, 3) := by decide +kernel
theorem dX10_isSureYear_13 : decode cX10_isSureYear 13 = .ok (.iload_n 2, 1) := by decide +kernel
theorem dX10_isSureYear_14 : decode cX10_isSureYear 14 = .ok (.aload_n 0, 1) := by decide +kernel
theorem dX10_isSureYear_15 : decode cX10_isSureYear 15 = .ok (.getfield 26, 3) := by decide +kernel
theorem dX10_isSureYear_18 : decode cX10_isSureYear 18 = .ok (.getfield 260, 3) := by decide +kernel
theorem dX10_isSureYear_21 : decode cX10_isSureYear 21 = .ok (.iload_n 1, 1) := by decide +kernel
theorem dX10_isSureYear_22 : decode cX10_isSureYear 22 = .ok (.iaload, 1) := by decide +kernel
theorem dX10_isSureYear_23 : decode cX10_isSureYear 23 = .ok (.if_icmp .eq 14, 3) := by decide +kernel
theorem dX10_isSureYear_26 : decode cX10_isSureYear 26 = .ok (.aload_n 0, 1) := by decide +kernel
theorem dX10_isSureYear_27 : decode cX10_isSureYear 27 = .ok (.getfield 42, 3) := by decide +kernel
theorem dX10_isSureYear_30 : decode cX10_isSureYear 30 = .ok (.iload_n 2, 1) := by decide +kernel
theorem dX10_isSureYear_31 : decode cX10_isSureYear 31 = .ok (.invokevirtual 296, 3) := by decide +kernel
theorem dX10_isSureYear_34 : decode cX10_isSureYear 34 = .ok (.ifCond .eq 7, 3) := by decide +kernel
theorem dX10_isSureYear_37 : decode cX10_isSureYear 37 = .ok (.iconst 1, 1) := by decide +kernel
theorem dX10_isSureYear_38 : decode cX10_isSureYear 38 = .ok (.goto 4, 3) := by decide +kernel
theorem dX10_isSureYear_41 : decode cX10_isSureYear 41 = .ok (.iconst 0, 1) := by decide +kernel
theorem dX10_isSureYear_42 : decode cX10_isSureYear 42 = .ok (.ireturn, 1) := by decide +kernel
theorem dX10_isDigit_0 : decode cX10_isDigit 0 = .ok (.iload_n 0, 1) := by decide +kernel
theorem dX10_isDigit_1 : decode cX10_isDigit 1 = .ok (.bipush 48, 2) := by decide +kernel
theorem dX10_isDigit_3 : decode cX10_isDigit 3 = .ok (.if_icmp .lt 13, 3) := by decide +kernel
theorem dX10_isDigit_6 : decode cX10_isDigit 6 = .ok (.iload_n 0, 1) := by decide +kernel
theorem dX10_isDigit_7 : decode cX10_isDigit 7 = .ok (.bipush 57, 2) := by decide +kernel
theorem dX10_isDigit_9 : decode cX10_isDigit 9 = .ok (.if_icmp .gt 7, 3) := by decide +kernel
theorem dX10_isDigit_12 : decode cX10_isDigit 12 = .ok (.iconst 1, 1) := by decide +kernel
theorem dX10_isDigit_13 : decode cX10_isDigit 13 = .ok (.goto 4, 3) := by decide +kernel
theorem dX10_isDigit_16 : decode cX10_isDigit 16 = .ok (.iconst 0, 1) := by decide +kernel
theorem dX10_isDigit_17 : decode cX10_isDigit 17 = .ok (.ireturn, 1) := by decide +kernel
theorem dX10_isSmallLetter_0 : decode cX10_isSmallLetter 0 = .ok (.iload_n 0, 1) := by decide +kernel
theorem dX10_isSmallLetter_1 : decode cX10_isSmallLetter 1 = .ok (.bipush 97, 2) := by decide +kernel
theorem dX10_isSmallLetter_3 : decode cX10_isSmallLetter 3 = .ok (.if_icmp .lt 13, 3) := by decide +kernel
theorem dX10_isSmallLetter_6 : decode cX10_isSmallLetter 6 = .ok (.iload_n 0, 1) := by decide +kernel
theorem dX10_isSmallLetter_7 : decode cX10_isSmallLetter 7 = .ok (.bipush 122, 2) := by decide +kernel
theorem dX10_isSmallLetter_9 : decode cX10_isSmallLetter 9 = .ok (.if_icmp .gt 7, 3) := by decide +kernel
theorem dX10_isSmallLetter_12 : decode cX10_isSmallLetter 12 = .ok (.iconst 1, 1) := by decide +kernel
theorem dX10_isSmallLetter_13 : decode cX10_isSmallLetter 13 = .ok (.goto 4, 3) := by decide +kernel
theorem dX10_isSmallLetter_16 : decode cX10_isSmallLetter 16 = .ok (.iconst 0, 1) := by decide +kernel
theorem dX10_isSmallLetter_17 : decode cX10_isSmallLetter 17 = .ok (.ireturn, 1) := by decide +kernel
theorem dX10_isBlank_0 : decode cX10_isBlank 0 = .ok (.iload_n 0, 1) := by decide +kernel
theorem dX10_isBlank_1 : decode cX10_isBlank 1 = .ok (.bipush 32, 2) := by decide +kernel
theorem dX10_isBlank_3 : decode cX10_isBlank 3 = .ok (.if_icmp .eq 9, 3) := by decide +kernel
theorem dX10_isBlank_6 : decode cX10_isBlank 6 = .ok (.iload_n 0, 1) := by decide +kernel
theorem dX10_isBlank_7 : decode cX10_isBlank 7 = .ok (.bipush 10, 2) := by decide +kernel
theorem dX10_isBlank_9 : decode cX10_isBlank 9 = .ok (.if_icmp .ne 7, 3) := by decide +kernel
theorem dX10_isBlank_12 : decode cX10_isBlank 12 = .ok (.iconst 1, 1) := by decide +kernel
theorem dX10_isBlank_13 : decode cX10_isBlank 13 = .ok (.goto 4, 3) := by decide +kernel
theorem dX10_isBlank_16 : decode cX10_isBlank 16 = .ok (.iconst 0, 1) := by decide +kernel
theorem dX10_isBlank_17 : decode cX10_isBlank 17 = .ok (.ireturn, 1) := by decide +kernel
theorem dX11_init_0 : decode cX11_init 0 = .ok (.aload_n 0, 1) := by decide +kernel
theorem dX11_init_1 : decode cX11_init 1 = .ok (.aconst_null, 1) := by decide +kernel
theorem dX11_init_2 : decode cX11_init 2 = .ok (.aconst_null, 1) := by decide +kernel
theorem dX11_init_3 : decode cX11_init 3 = .ok (.iconst 0, 1) := by decide +kernel
theorem dX11_init_4 : decode cX11_init 4 = .ok (.iconst 0, 1) := by decide +kernel
theorem dX11_init_5 : decode cX11_init 5 = .ok (.invokespecial 1, 3) := by decide +kernel
theorem dX11_init_8 : decode cX11_init 8 = .ok (.return_, 1) := by decide +kernel
theorem dX12_in_0 : decode cX12_in 0 = .ok (.lload_n 0, 1) := by decide +kernel
theorem dX12_in_1 : decode cX12_in 1 = .ok (.lload_n 2, 1) := by decide +kernel
theorem dX12_in_2 : decode cX12_in 2 = .ok (.lcmp, 1) := by decide +kernel
theorem dX12_in_3 : decode cX12_in 3 = .ok (.ifCond .lt 14, 3) := by decide +kernel
theorem dX12_in_6 : decode cX12_in 6 = .ok (.lload_n 0, 1) := by decide +kernel
theorem dX12_in_7 : decode cX12_in 7 = .ok (.lload 4, 2) := by decide +kernel
theorem dX12_in_9 : decode cX12_in 9 = .ok (.lcmp, 1) := by decide +kernel
theorem dX12_in_10 : decode cX12_in 10 = .ok (.ifCond .gt 7, 3) := by decide +kernel
theorem dX12_in_13 : decode cX12_in 13 = .ok (.iconst 1, 1) := by decide +kernel
theorem dX12_in_14 : decode cX12_in 14 = .ok (.goto 4, 3) := by decide +kernel
theorem dX12_in_17 : decode cX12_in 17 = .ok (.iconst 0, 1) := by decide +kernel
theorem dX12_in_18 : decode cX12_in 18 = .ok (.ireturn, 1) := by decide +kernel
set_option maxRecDepth 20000 in
theorem ggX12_isYear_X12_in : GoodIn wsX12_isYear wsX12_in := goodIn_r _ [6] (by decide +kernel) (by decide +kernel)
set_option maxRecDepth 20000 in
theorem gX12_isYear_X12_in : GoodIn wsX12_isYear (va_wsS RX12 7 yX12_in wsX12_in) := goodIn_app (goodIn_of _ (by decide +kernel)) ggX12_isYear_X12_in
theorem dX12_isYear_0 : decode cX12_isYear 0 = .ok (.iload_n 0, 1) := by decide +kernel
theorem dX12_isYear_1 : decode cX12_isYear 1 = .ok (.i2l, 1) := by decide +kernel
theorem dX12_isYear_2 : decode cX12_isYear 2 = .ok (.ldc2_w 3, 3) := by decide +kernel
theorem dX12_isYear_5 : decode cX12_isYear 5 = .ok (.ldc2_w 5, 3) := by decide +kernel
theorem dX12_isYear_8 : decode cX12_isYear 8 = .ok (.invokestatic 7, 3) := by decide +kernel
theorem dX12_isYear_11 : decode cX12_isYear 11 = .ok (.ireturn, 1) := by decide +kernel
theorem dX12_plain_0 : decode cX12_plain 0 = .ok (.iconst 0, 1) := by decide +kernel
theorem dX12_plain_1 : decode cX12_plain 1 = .ok (.istore_n 1, 1) := by decide +kernel
theorem dX12_plain_2 : decode cX12_plain 2 = .ok (.iload_n 1, 1) := by decide +kernel
theorem dX12_plain_3 : decode cX12_plain 3 = .ok (.bipush 18, 2) := by decide +kernel
theorem dX12_plain_5 : decode cX12_plain 5 = .ok (.if_icmp .ge 13, 3) := by decide +kernel
theorem dX12_plain_8 : decode cX12_plain 8 = .ok (.aload_n 0, 1) := by decide +kernel
theorem dX12_plain_9 : decode cX12_plain 9 = .ok (.iload_n 1, 1) := by decide +kernel
theorem dX12_plain_10 : decode cX12_plain 10 = .ok (.iconst (-1), 1) := by decide +kernel
theorem dX12_plain_11 : decode cX12_plain 11 = .ok (.iastore, 1) := by decide +kernel
theorem dX12_plain_12 : decode cX12_plain 12 = .ok (.iinc 1 1, 3) := by decide +kernel
theorem dX12_plain_15 : decode cX12_plain 15 = .ok (.goto (-13), 3) := by decide +kernel
theorem dX12_plain_18 : decode cX12_plain 18 = .ok (.aload_n 0, 1) := by decide +kernel
theorem dX12_plain_19 : decode cX12_plain 19 = .ok (.iconst 0, 1) := by decide +kernel
theorem dX12_plain_20 : decode cX12_plain 20 = .ok (.bipush 20, 2) := by decide +kernel
theorem dX12_plain_22 : decode cX12_plain 22 = .ok (.iastore, 1) := by decide +kernel
theorem dX12_plain_23 : decode cX12_plain 23 = .ok (.aload_n 0, 1) := by decide +kernel
theorem dX12_plain_24 : decode cX12_plain 24 = .ok (.iconst 1, 1) := by decide +kernel
theorem dX12_plain_25 : decode cX12_plain 25 = .ok (.iconst 1, 1) := by decide +kernel
theorem dX12_plain_26 : decode cX12_plain 26 = .ok (.iastore, 1) := by decide +kernel
theorem dX12_plain_27 : decode cX12_plain 27 = .ok (.aload_n 0, 1) := by decide +kernel
theorem dX12_plain_28 : decode cX12_plain 28 = .ok (.iconst 2, 1) := by decide +kernel
theorem dX12_plain_29 : decode cX12_plain 29 = .ok (.iconst 1, 1) := by decide +kernel
theorem dX12_plain_30 : decode cX12_plain 30 = .ok (.iastore, 1) := by decide +kernel
theorem dX12_plain_31 : decode cX12_plain 31 = .ok (.aload_n 0, 1) := by decide +kernel
theorem dX12_plain_32 : decode cX12_plain 32 = .ok (.iconst 3, 1) := by decide +kernel
theorem dX12_plain_33 : decode cX12_plain 33 = .ok (.sipush 999, 3) := by decide +kernel
theorem dX12_plain_36 : decode cX12_plain 36 = .ok (.iastore, 1) := by decide +kernel
theorem dX12_plain_37 : decode cX12_plain 37 = .ok (.aload_n 0, 1) := by decide +kernel
theorem dX12_plain_38 : decode cX12_plain 38 = .ok (.iconst 4, 1) := by decide +kernel
theorem dX12_plain_39 : decode cX12_plain 39 = .ok (.iconst 1, 1) := by decide +kernel
theorem dX12_plain_40 : decode cX12_plain 40 = .ok (.iastore, 1) := by decide +kernel
theorem dX12_plain_41 : decode cX12_plain 41 = .ok (.aload_n 0, 1) := by decide +kernel
theorem dX12_plain_42 : decode cX12_plain 42 = .ok (.iconst 5, 1) := by decide +kernel
theorem dX12_plain_43 : decode cX12_plain 43 = .ok (.iconst 3, 1) := by decide +kernel
theorem dX12_plain_44 : decode cX12_plain 44 = .ok (.iastore, 1) := by decide +kernel
theorem dX12_plain_45 : decode cX12_plain 45 = .ok (.aload_n 0, 1) := by decide +kernel
theorem dX12_plain_46 : decode cX12_plain 46 = .ok (.bipush 6, 2) := by decide +kernel
theorem dX12_plain_48 : decode cX12_plain 48 = .ok (.bipush 50, 2) := by decide +kernel
theorem dX12_plain_50 : decode cX12_plain 50 = .ok (.iastore, 1) := by decide +kernel
theorem dX12_plain_51 : decode cX12_plain 51 = .ok (.aload_n 0, 1) := by decide +kernel
theorem dX12_plain_52 : decode cX12_plain 52 = .ok (.bipush 7, 2) := by decide +kernel
theorem dX12_plain_54 : decode cX12_plain 54 = .ok (.bipush 66, 2) := by decide +kernel
theorem dX12_plain_56 : decode cX12_plain 56 = .ok (.iastore, 1) := by decide +kernel
theorem dX12_plain_57 : decode cX12_plain 57 = .ok (.return_, 1) := by decide +kernel
theorem dX12_wrong_0 : decode cX12_wrong 0 = .ok (.aload_n 0, 1) := by decide +kernel
theorem dX12_wrong_1 : decode cX12_wrong 1 = .ok (.iload_n 1, 1) := by decide +kernel
theorem dX12_wrong_2 : decode cX12_wrong 2 = .ok (.putfield 11, 3) := by decide +kernel
theorem dX12_wrong_5 : decode cX12_wrong 5 = .ok (.aload_n 0, 1) := by decide +kernel
theorem dX12_wrong_6 : decode cX12_wrong 6 = .ok (.aload_n 0, 1) := by decide +kernel
theorem dX12_wrong_7 : decode cX12_wrong 7 = .ok (.getfield 15, 3) := by decide +kernel
theorem dX12_wrong_10 : decode cX12_wrong 10 = .ok (.putfield 18, 3) := by decide +kernel
theorem dX12_wrong_13 : decode cX12_wrong 13 = .ok (.aload_n 0, 1) := by decide +kernel
theorem dX12_wrong_14 : decode cX12_wrong 14 = .ok (.getfield 21, 3) := by decide +kernel
theorem dX12_wrong_17 : decode cX12_wrong 17 = .ok (.areturn, 1) := by decide +kernel
theorem dX12_byteAt_0 : decode cX12_byteAt 0 = .ok (.iload_n 1, 1) := by decide +kernel
theorem dX12_byteAt_1 : decode cX12_byteAt 1 = .ok (.aload_n 0, 1) := by decide +kernel
theorem dX12_byteAt_2 : decode cX12_byteAt 2 = .ok (.getfield 25, 3) := by decide +kernel
theorem dX12_byteAt_5 : decode cX12_byteAt 5 = .ok (.if_icmp .ge 16, 3) := by decide +kernel
theorem dX12_byteAt_8 : decode cX12_byteAt 8 = .ok (.aload_n 0, 1) := by decide +kernel
theorem dX12_byteAt_9 : decode cX12_byteAt 9 = .ok (.getfield 28, 3) := by decide +kernel
theorem dX12_byteAt_12 : decode cX12_byteAt 12 = .ok (.iload_n 1, 1) := by decide +kernel
theorem dX12_byteAt_13 : decode cX12_byteAt 13 = .ok (.baload, 1) := by decide +kernel
theorem dX12_byteAt_14 : decode cX12_byteAt 14 = .ok (.sipush 255, 3) := by decide +kernel
theorem dX12_byteAt_17 : decode cX12_byteAt 17 = .ok (.iand, 1) := by decide +kernel
theorem dX12_byteAt_18 : decode cX12_byteAt 18 = .ok (.goto 4, 3) := by decide +kernel
theorem dX12_byteAt_21 : decode cX12_byteAt 21 = .ok (.iconst 0, 1) := by decide +kernel
theorem dX12_byteAt_22 : decode cX12_byteAt 22 = .ok (.ireturn, 1) := by decide +kernel
theorem dX12_isSmall_0 : decode cX12_isSmall 0 = .ok (.iload_n 0, 1) := by decide +kernel
theorem dX12_isSmall_1 : decode cX12_isSmall 1 = .ok (.bipush 97, 2) := by decide +kernel
theorem dX12_isSmall_3 : decode cX12_isSmall 3 = .ok (.if_icmp .lt 13, 3) := by decide +kernel
theorem dX12_isSmall_6 : decode cX12_isSmall 6 = .ok (.iload_n 0, 1) := by decide +kernel
theorem dX12_isSmall_7 : decode cX12_isSmall 7 = .ok (.bipush 122, 2) := by decide +kernel
theorem dX12_isSmall_9 : decode cX12_isSmall 9 = .ok (.if_icmp .gt 7, 3) := by decide +kernel
theorem dX12_isSmall_12 : decode cX12_isSmall 12 = .ok (.iconst 1, 1) := by decide +kernel
theorem dX12_isSmall_13 : decode cX12_isSmall 13 = .ok (.goto 4, 3) := by decide +kernel
theorem dX12_isSmall_16 : decode cX12_isSmall 16 = .ok (.iconst 0, 1) := by decide +kernel
theorem dX12_isSmall_17 : decode cX12_isSmall 17 = .ok (.ireturn, 1) := by decide +kernel
theorem dX12_isDigit_0 : decode cX12_isDigit 0 = .ok (.iload_n 0, 1) := by decide +kernel
theorem dX12_isDigit_1 : decode cX12_isDigit 1 = .ok (.bipush 48, 2) := by decide +kernel
theorem dX12_isDigit_3 : decode cX12_isDigit 3 = .ok (.if_icmp .lt 13, 3) := by decide +kernel
theorem dX12_isDigit_6 : decode cX12_isDigit 6 = .ok (.iload_n 0, 1) := by decide +kernel
theorem dX12_isDigit_7 : decode cX12_isDigit 7 = .ok (.bipush 57, 2) := by decide +kernel
theorem dX12_isDigit_9 : decode cX12_isDigit 9 = .ok (.if_icmp .gt 7, 3) := by decide +kernel
theorem dX12_isDigit_12 : decode cX12_isDigit 12 = .ok (.iconst 1, 1) := by decide +kernel
theorem dX12_isDigit_13 : decode cX12_isDigit 13 = .ok (.goto 4, 3) := by decide +kernel
theorem dX12_isDigit_16 : decode cX12_isDigit 16 = .ok (.iconst 0, 1) := by decide +kernel
theorem dX12_isDigit_17 : decode cX12_isDigit 17 = .ok (.ireturn, 1) := by decide +kernel
set_option maxRecDepth 20000 in
theorem ggX12_scan_X12_byteAt : GoodIn wsX12_scan wsX12_byteAt := goodIn_r _ [11, 2, 3, 18, 19, 20, 21, 22, 23, 24, 25, 26, 27, 28, 29, 30, 31, 32, 33, 34, 35, 36, 37, 38, 39, 40, 41, 42, 43, 44, 45, 46, 47, 48, 49, 50, 51, 52, 53, 54, 55, 56, 57, 58, 59, 60, 61, 62, 63, 64, 65, 66, 67, 68, 69, 70] (by decide +kernel) (by decide +kernel)
set_option maxRecDepth 20000 in
theorem gX12_scan_X12_byteAt : GoodIn wsX12_scan (wsV RX12 35 RX12 yX12_byteAt wsX12_byteAt) := goodIn_app (goodIn_of _ (by decide +kernel)) ggX12_scan_X12_byteAt
set_option maxRecDepth 20000 in
theorem ggX12_scan_X12_isSmall : GoodIn wsX12_scan wsX12_isSmall := goodIn_r _ [14] (by decide +kernel) (by decide +kernel)
set_option maxRecDepth 20000 in
theorem gX12_scan_X12_isSmall : GoodIn wsX12_scan (va_wsS RX12 42 yX12_isSmall wsX12_isSmall) := goodIn_app (goodIn_of _ (by decide +kernel)) ggX12_scan_X12_isSmall
set_option maxRecDepth 20000 in
theorem ggX12_scan_X12_isDigit : GoodIn wsX12_scan wsX12_isDigit := goodIn_r _ [17] (by decide +kernel) (by decide +kernel)
set_option maxRecDepth 20000 in
theorem gX12_scan_X12_isDigit : GoodIn wsX12_scan (va_wsS RX12 46 yX12_isDigit wsX12_isDigit) := goodIn_app (goodIn_of _ (by decide +kernel)) ggX12_scan_X12_isDigit
theorem dX12_scan_0 : decode cX12_scan 0 = .ok (.aload_n 0, 1) := by decide +kernel
theorem dX12_scan_1 : decode cX12_scan 1 = .ok (.getfield 32, 3) := by decide +kernel
theorem dX12_scan_4 : decode cX12_scan 4 = .ok (.aload_n 0, 1) := by decide +kernel
theorem dX12_scan_5 : decode cX12_scan 5 = .ok (.getfield 25, 3) := by decide +kernel
theorem dX12_scan_8 : decode cX12_scan 8 = .ok (.if_icmp .ge 44, 3) := by decide +kernel
theorem dX12_scan_11 : decode cX12_scan 11 = .ok (.aload_n 0, 1) := by decide +kernel
theorem dX12_scan_12 : decode cX12_scan 12 = .ok (.getfield 28, 3) := by decide +kernel
theorem dX12_scan_15 : decode cX12_scan 15 = .ok (.aload_n 0, 1) := by decide +kernel
theorem dX12_scan_16 : decode cX12_scan 16 = .ok (.getfield 32, 3) := by decide +kernel
theorem dX12_scan_19 : decode cX12_scan 19 = .ok (.baload, 1) := by decide +kernel
theorem dX12_scan_20 : decode cX12_scan 20 = .ok (.bipush 32, 2) := by decide +kernel
theorem dX12_scan_22 : decode cX12_scan 22 = .ok (.if_icmp .eq 17, 3) := by decide +kernel
theorem dX12_scan_25 : decode cX12_scan 25 = .ok (.aload_n 0, 1) := by decide +kernel
theorem dX12_scan_26 : decode cX12_scan 26 = .ok (.getfield 28, 3) := by decide +kernel
theorem dX12_scan_29 : decode cX12_scan 29 = .ok (.aload_n 0, 1) := by decide +kernel
theorem dX12_scan_30 : decode cX12_scan 30 = .ok (.getfield 32, 3) := by decide +kernel
theorem dX12_scan_33 : decode cX12_scan 33 = .ok (.baload, 1) := by decide +kernel
theorem dX12_scan_34 : decode cX12_scan 34 = .ok (.bipush 10, 2) := by decide +kernel
theorem dX12_scan_36 : decode cX12_scan 36 = .ok (.if_icmp .ne 16, 3) := by decide +kernel
theorem dX12_scan_39 : decode cX12_scan 39 = .ok (.aload_n 0, 1) := by decide +kernel
theorem dX12_scan_40 : decode cX12_scan 40 = .ok (.dup, 1) := by decide +kernel
theorem dX12_scan_41 : decode cX12_scan 41 = .ok (.getfield 32, 3) := by decide +kernel
theorem dX12_scan_44 : decode cX12_scan 44 = .ok (.iconst 1, 1) := by decide +kernel
theorem dX12_scan_45 : decode cX12_scan 45 = .ok (.iadd, 1) := by decide +kernel
theorem dX12_scan_46 : decode cX12_scan 46 = .ok (.putfield 32, 3) := by decide +kernel
theorem dX12_scan_49 : decode cX12_scan 49 = .ok (.goto (-49), 3) := by decide +kernel
theorem dX12_scan_52 : decode cX12_scan 52 = .ok (.aload_n 0, 1) := by decide +kernel
theorem dX12_scan_53 : decode cX12_scan 53 = .ok (.aload_n 0, 1) := by decide +kernel
theorem dX12_scan_54 : decode cX12_scan 54 = .ok (.getfield 32, 3) := by decide +kernel
theorem dX12_scan_57 : decode cX12_scan 57 = .ok (.putfield 15, 3) := by decide +kernel
theorem dX12_scan_60 : decode cX12_scan 60 = .ok (.aload_n 0, 1) := by decide +kernel
theorem dX12_scan_61 : decode cX12_scan 61 = .ok (.aload_n 0, 1) := by decide +kernel
theorem dX12_scan_62 : decode cX12_scan 62 = .ok (.getfield 15, 3) := by decide +kernel
theorem dX12_scan_65 : decode cX12_scan 65 = .ok (.invokevirtual 35, 3) := by decide +kernel
theorem dX12_scan_68 : decode cX12_scan 68 = .ok (.istore_n 1, 1) := by decide +kernel
theorem dX12_scan_69 : decode cX12_scan 69 = .ok (.aload_n 0, 1) := by decide +kernel
theorem dX12_scan_70 : decode cX12_scan 70 = .ok (.getfield 15, 3) := by decide +kernel
theorem dX12_scan_73 : decode cX12_scan 73 = .ok (.aload_n 0, 1) := by decide +kernel
theorem dX12_scan_74 : decode cX12_scan 74 = .ok (.getfield 25, 3) := by decide +kernel
theorem dX12_scan_77 : decode cX12_scan 77 = .ok (.if_icmp .ne 11, 3) := by decide +kernel
theorem dX12_scan_80 : decode cX12_scan 80 = .ok (.aload_n 0, 1) := by decide +kernel
theorem dX12_scan_81 : decode cX12_scan 81 = .ok (.iconst 0, 1) := by decide +kernel
theorem dX12_scan_82 : decode cX12_scan 82 = .ok (.putfield 39, 3) := by decide +kernel
theorem dX12_scan_85 : decode cX12_scan 85 = .ok (.goto 170, 3) := by decide +kernel
theorem dX12_scan_88 : decode cX12_scan 88 = .ok (.iload_n 1, 1) := by decide +kernel
theorem dX12_scan_89 : decode cX12_scan 89 = .ok (.invokestatic 42, 3) := by decide +kernel
theorem dX12_scan_92 : decode cX12_scan 92 = .ok (.ifCond .eq 38, 3) := by decide +kernel
theorem dX12_scan_95 : decode cX12_scan 95 = .ok (.aload_n 0, 1) := by decide +kernel
theorem dX12_scan_96 : decode cX12_scan 96 = .ok (.aload_n 0, 1) := by decide +kernel
theorem dX12_scan_97 : decode cX12_scan 97 = .ok (.getfield 32, 3) := by decide +kernel
theorem dX12_scan_100 : decode cX12_scan 100 = .ok (.invokevirtual 35, 3) := by decide +kernel
theorem dX12_scan_103 : decode cX12_scan 103 = .ok (.invokestatic 42, 3) := by decide +kernel
theorem dX12_scan_106 : decode cX12_scan 106 = .ok (.ifCond .eq 16, 3) := by decide +kernel
theorem dX12_scan_109 : decode cX12_scan 109 = .ok (.aload_n 0, 1) := by decide +kernel
theorem dX12_scan_110 : decode cX12_scan 110 = .ok (.dup, 1) := by decide +kernel
theorem dX12_scan_111 : decode cX12_scan 111 = .ok (.getfield 32, 3) := by decide +kernel
theorem dX12_scan_114 : decode cX12_scan 114 = .ok (.iconst 1, 1) := by decide +kernel
theorem dX12_scan_115 : decode cX12_scan 115 = .ok (.iadd, 1) := by decide +kernel
theorem dX12_scan_116 : decode cX12_scan 116 = .ok (.putfield 32, 3) := by decide +kernel
theorem dX12_scan_119 : decode cX12_scan 119 = .ok (.goto (-24), 3) := by decide +kernel
theorem dX12_scan_122 : decode cX12_scan 122 = .ok (.aload_n 0, 1) := by decide +kernel
theorem dX12_scan_123 : decode cX12_scan 123 = .ok (.iconst 1, 1) := by decide +kernel
theorem dX12_scan_124 : decode cX12_scan 124 = .ok (.putfield 39, 3) := by decide +kernel
theorem dX12_scan_127 : decode cX12_scan 127 = .ok (.goto 128, 3) := by decide +kernel
theorem dX12_scan_130 : decode cX12_scan 130 = .ok (.iload_n 1, 1) := by decide +kernel
theorem dX12_scan_131 : decode cX12_scan 131 = .ok (.invokestatic 46, 3) := by decide +kernel
theorem dX12_scan_134 : decode cX12_scan 134 = .ok (.ifCond .eq 96, 3) := by decide +kernel
theorem dX12_scan_137 : decode cX12_scan 137 = .ok (.aload_n 0, 1) := by decide +kernel
theorem dX12_scan_138 : decode cX12_scan 138 = .ok (.iconst 0, 1) := by decide +kernel
theorem dX12_scan_139 : decode cX12_scan 139 = .ok (.putfield 49, 3) := by decide +kernel
theorem dX12_scan_142 : decode cX12_scan 142 = .ok (.aload_n 0, 1) := by decide +kernel
theorem dX12_scan_143 : decode cX12_scan 143 = .ok (.aload_n 0, 1) := by decide +kernel
theorem dX12_scan_144 : decode cX12_scan 144 = .ok (.getfield 32, 3) := by decide +kernel
theorem dX12_scan_147 : decode cX12_scan 147 = .ok (.invokevirtual 35, 3) := by decide +kernel
theorem dX12_scan_150 : decode cX12_scan 150 = .ok (.invokestatic 46, 3) := by decide +kernel
theorem dX12_scan_153 : decode cX12_scan 153 = .ok (.ifCond .eq 52, 3) := by decide +kernel
theorem dX12_scan_156 : decode cX12_scan 156 = .ok (.aload_n 0, 1) := by decide +kernel
theorem dX12_scan_157 : decode cX12_scan 157 = .ok (.getfield 32, 3) := by decide +kernel
theorem dX12_scan_160 : decode cX12_scan 160 = .ok (.aload_n 0, 1) := by decide +kernel
theorem dX12_scan_161 : decode cX12_scan 161 = .ok (.getfield 15, 3) := by decide +kernel
theorem dX12_scan_164 : decode cX12_scan 164 = .ok (.isub, 1) := by decide +kernel
theorem dX12_scan_165 : decode cX12_scan 165 = .ok (.iconst 4, 1) := by decide +kernel
theorem dX12_scan_166 : decode cX12_scan 166 = .ok (.if_icmp .ge 26, 3) := by decide +kernel
theorem dX12_scan_169 : decode cX12_scan 169 = .ok (.aload_n 0, 1) := by decide +kernel
theorem dX12_scan_170 : decode cX12_scan 170 = .ok (.bipush 10, 2) := by decide +kernel
theorem dX12_scan_172 : decode cX12_scan 172 = .ok (.aload_n 0, 1) := by decide +kernel
theorem dX12_scan_173 : decode cX12_scan 173 = .ok (.getfield 49, 3) := by decide +kernel
theorem dX12_scan_176 : decode cX12_scan 176 = .ok (.imul, 1) := by decide +kernel
theorem dX12_scan_177 : decode cX12_scan 177 = .ok (.aload_n 0, 1) := by decide +kernel
theorem dX12_scan_178 : decode cX12_scan 178 = .ok (.aload_n 0, 1) := by decide +kernel
theorem dX12_scan_179 : decode cX12_scan 179 = .ok (.getfield 32, 3) := by decide +kernel
theorem dX12_scan_182 : decode cX12_scan 182 = .ok (.invokevirtual 35, 3) := by decide +kernel
theorem dX12_scan_185 : decode cX12_scan 185 = .ok (.iadd, 1) := by decide +kernel
theorem dX12_scan_186 : decode cX12_scan 186 = .ok (.bipush 48, 2) := by decide +kernel
theorem dX12_scan_188 : decode cX12_scan 188 = .ok (.isub, 1) := by decide +kernel
theorem dX12_scan_189 : decode cX12_scan 189 = .ok (.putfield 49, 3) := by decide +kernel
theorem dX12_scan_192 : decode cX12_scan 192 = .ok (.aload_n 0, 1) := by decide +kernel
theorem dX12_scan_193 : decode cX12_scan 193 = .ok (.dup, 1) := by decide +kernel
theorem dX12_scan_194 : decode cX12_scan 194 = .ok (.getfield 32, 3) := by decide +kernel
theorem dX12_scan_197 : decode cX12_scan 197 = .ok (.iconst 1, 1) := by decide +kernel
theorem dX12_scan_198 : decode cX12_scan 198 = .ok (.iadd, 1) := by decide +kernel
theorem dX12_scan_199 : decode cX12_scan 199 = .ok (.putfield 32, 3) := by decide +kernel
theorem dX12_scan_202 : decode cX12_scan 202 = .ok (.goto (-60), 3) := by decide +kernel
theorem dX12_scan_205 : decode cX12_scan 205 = .ok (.aload_n 0, 1) := by decide +kernel
theorem dX12_scan_206 : decode cX12_scan 206 = .ok (.aload_n 0, 1) := by decide +kernel
theorem dX12_scan_207 : decode cX12_scan 207 = .ok (.getfield 32, 3) := by decide +kernel
theorem dX12_scan_210 : decode cX12_scan 210 = .ok (.aload_n 0, 1) := by decide +kernel
theorem dX12_scan_211 : decode cX12_scan 211 = .ok (.getfield 15, 3) := by decide +kernel
theorem dX12_scan_214 : decode cX12_scan 214 = .ok (.isub, 1) := by decide +kernel
theorem dX12_scan_215 : decode cX12_scan 215 = .ok (.iconst 4, 1) := by decide +kernel
theorem dX12_scan_216 : decode cX12_scan 216 = .ok (.if_icmp .le 7, 3) := by decide +kernel
theorem dX12_scan_219 : decode cX12_scan 219 = .ok (.iconst 4, 1) := by decide +kernel
theorem dX12_scan_220 : decode cX12_scan 220 = .ok (.goto 4, 3) := by decide +kernel
theorem dX12_scan_223 : decode cX12_scan 223 = .ok (.iconst 2, 1) := by decide +kernel
theorem dX12_scan_224 : decode cX12_scan 224 = .ok (.putfield 39, 3) := by decide +kernel
theorem dX12_scan_227 : decode cX12_scan 227 = .ok (.goto 28, 3) := by decide +kernel
theorem dX12_scan_230 : decode cX12_scan 230 = .ok (.aload_n 0, 1) := by decide +kernel
theorem dX12_scan_231 : decode cX12_scan 231 = .ok (.iload_n 1, 1) := by decide +kernel
theorem dX12_scan_232 : decode cX12_scan 232 = .ok (.bipush 59, 2) := by decide +kernel
theorem dX12_scan_234 : decode cX12_scan 234 = .ok (.if_icmp .ne 7, 3) := by decide +kernel
theorem dX12_scan_237 : decode cX12_scan 237 = .ok (.iconst 3, 1) := by decide +kernel
theorem dX12_scan_238 : decode cX12_scan 238 = .ok (.goto 4, 3) := by decide +kernel
theorem dX12_scan_241 : decode cX12_scan 241 = .ok (.iconst 4, 1) := by decide +kernel
theorem dX12_scan_242 : decode cX12_scan 242 = .ok (.putfield 39, 3) := by decide +kernel
theorem dX12_scan_245 : decode cX12_scan 245 = .ok (.aload_n 0, 1) := by decide +kernel
theorem dX12_scan_246 : decode cX12_scan 246 = .ok (.dup, 1) := by decide +kernel
theorem dX12_scan_247 : decode cX12_scan 247 = .ok (.getfield 32, 3) := by decide +kernel
theorem dX12_scan_250 : decode cX12_scan 250 = .ok (.iconst 1, 1) := by decide +kernel
theorem dX12_scan_251 : decode cX12_scan 251 = .ok (.iadd, 1) := by decide +kernel
theorem dX12_scan_252 : decode cX12_scan 252 = .ok (.putfield 32, 3) := by decide +kernel
theorem dX12_scan_255 : decode cX12_scan 255 = .ok (.return_, 1) := by decide +kernel
set_option maxRecDepth 20000 in
theorem ggX12_is_J0_length_8abf5 : GoodIn wsX12_is wsJ0_length_8abf5 := goodIn_r _ [9, 10, 11, 12, 13, 8, 14, 15, 16] (by decide +kernel) (by decide +kernel)
set_option maxRecDepth 20000 in
theorem gX12_is_J0_length_8abf5 : GoodIn wsX12_is (wsV RX12 52 RJ0 yJ0_length_8abf5 wsJ0_length_8abf5) := goodIn_app (goodIn_of _ (by decide +kernel)) ggX12_is_J0_length_8abf5
set_option maxRecDepth 20000 in
theorem ggX12_is_J0_charAt_5068e : GoodIn wsX12_is wsJ0_charAt_5068e := goodIn_r _ [20, 10, 21, 22, 23, 8, 24, 15, 16, 25, 26, 27, 28, 29, 30, 31, 32, 33, 34, 35, 36, 37, 38, 39, 40, 41, 42, 43, 44, 45, 46, 47, 48, 49, 50, 51, 52, 53] (by decide +kernel) (by decide +kernel)
set_option maxRecDepth 20000 in
theorem gX12_is_J0_charAt_5068e : GoodIn wsX12_is (wsV RX12 58 RJ0 yJ0_charAt_5068e wsJ0_charAt_5068e) := goodIn_app (goodIn_of _ (by decide +kernel)) ggX12_is_J0_charAt_5068e
theorem dX12_is_0 : decode cX12_is 0 = .ok (.aload_n 0, 1) := by decide +kernel
theorem dX12_is_1 : decode cX12_is 1 = .ok (.getfield 39, 3) := by decide +kernel
theorem dX12_is_4 : decode cX12_is 4 = .ok (.iconst 1, 1) := by decide +kernel
theorem dX12_is_5 : decode cX12_is 5 = .ok (.if_icmp .ne 23, 3) := by decide +kernel
theorem dX12_is_8 : decode cX12_is 8 = .ok (.aload_n 0, 1) := by decide +kernel
theorem dX12_is_9 : decode cX12_is 9 = .ok (.getfield 32, 3) := by decide +kernel
theorem dX12_is_12 : decode cX12_is 12 = .ok (.aload_n 0, 1) := by decide +kernel
theorem dX12_is_13 : decode cX12_is 13 = .ok (.getfield 15, 3) := by decide +kernel
theorem dX12_is_16 : decode cX12_is 16 = .ok (.isub, 1) := by decide +kernel
theorem dX12_is_17 : decode cX12_is 17 = .ok (.aload_n 1, 1) := by decide +kernel
theorem dX12_is_18 : decode cX12_is 18 = .ok (.invokevirtual 52, 3) := by decide +kernel
theorem dX12_is_21 : decode cX12_is 21 = .ok (.if_icmp .ne 7, 3) := by decide +kernel
theorem dX12_is_24 : decode cX12_is 24 = .ok (.iconst 1, 1) := by decide +kernel
theorem dX12_is_25 : decode cX12_is 25 = .ok (.goto 4, 3) := by decide +kernel
theorem dX12_is_28 : decode cX12_is 28 = .ok (.iconst 0, 1) := by decide +kernel
theorem dX12_is_29 : decode cX12_is 29 = .ok (.istore_n 2, 1) := by decide +kernel
theorem dX12_is_30 : decode cX12_is 30 = .ok (.iconst 0, 1) := by decide +kernel
theorem dX12_is_31 : decode cX12_is 31 = .ok (.istore_n 3, 1) := by decide +kernel
theorem dX12_is_32 : decode cX12_is 32 = .ok (.iload_n 3, 1) := by decide +kernel
theorem dX12_is_33 : decode cX12_is 33 = .ok (.aload_n 1, 1) := by decide +kernel
theorem dX12_is_34 : decode cX12_is 34 = .ok (.invokevirtual 52, 3) := by decide +kernel
theorem dX12_is_37 : decode cX12_is 37 = .ok (.if_icmp .ge 38, 3) := by decide +kernel
theorem dX12_is_40 : decode cX12_is 40 = .ok (.iload_n 2, 1) := by decide +kernel
theorem dX12_is_41 : decode cX12_is 41 = .ok (.ifCond .eq 34, 3) := by decide +kernel
theorem dX12_is_44 : decode cX12_is 44 = .ok (.aload_n 0, 1) := by decide +kernel
theorem dX12_is_45 : decode cX12_is 45 = .ok (.getfield 28, 3) := by decide +kernel
theorem dX12_is_48 : decode cX12_is 48 = .ok (.aload_n 0, 1) := by decide +kernel
theorem dX12_is_49 : decode cX12_is 49 = .ok (.getfield 15, 3) := by decide +kernel
theorem dX12_is_52 : decode cX12_is 52 = .ok (.iload_n 3, 1) := by decide +kernel
theorem dX12_is_53 : decode cX12_is 53 = .ok (.iadd, 1) := by decide +kernel
theorem dX12_is_54 : decode cX12_is 54 = .ok (.baload, 1) := by decide +kernel
theorem dX12_is_55 : decode cX12_is 55 = .ok (.aload_n 1, 1) := by decide +kernel
theorem dX12_is_56 : decode cX12_is 56 = .ok (.iload_n 3, 1) := by decide +kernel
theorem dX12_is_57 : decode cX12_is 57 = .ok (.invokevirtual 58, 3) := by decide +kernel
theorem dX12_is_60 : decode cX12_is 60 = .ok (.if_icmp .ne 7, 3) := by decide +kernel
theorem dX12_is_63 : decode cX12_is 63 = .ok (.iconst 1, 1) := by decide +kernel
theorem dX12_is_64 : decode cX12_is 64 = .ok (.goto 4, 3) := by decide +kernel
theorem dX12_is_67 : decode cX12_is 67 = .ok (.iconst 0, 1) := by decide +kernel
theorem dX12_is_68 : decode cX12_is 68 = .ok (.istore_n 2, 1) := by decide +kernel
theorem dX12_is_69 : decode cX12_is 69 = .ok (.iinc 3 1, 3) := by decide +kernel
theorem dX12_is_72 : decode cX12_is 72 = .ok (.goto (-40), 3) := by decide +kernel
theorem dX12_is_75 : decode cX12_is 75 = .ok (.iload_n 2, 1) := by decide +kernel
theorem dX12_is_76 : decode cX12_is 76 = .ok (.ireturn, 1) := by decide +kernel
set_option maxRecDepth 20000 in
theorem ggX12_number_X12_scan : GoodIn wsX12_number wsX12_scan := goodIn_r _ [7, 8, 9, 10, 11, 1, 2, 12, 13, 14, 6, 15, 16, 17, 18, 19, 20, 21, 22, 23, 24, 25, 26, 27, 28, 29, 30, 31, 32, 33, 34, 35, 36, 37, 38, 39, 40, 41, 42, 43, 44, 45, 46, 47, 48, 49, 50, 51, 52, 53, 54, 55, 56, 57, 58, 59, 60, 61, 62, 63, 64, 65, 66, 67, 68, 69, 70, 71, 72, 73, 74] (by decide +kernel) (by decide +kernel)
set_option maxRecDepth 20000 in
theorem gX12_number_X12_scan : GoodIn wsX12_number (wsV RX12 66 RX12 yX12_scan wsX12_scan) := goodIn_app (goodIn_of _ (by decide +kernel)) ggX12_number_X12_scan
theorem dX12_number_0 : decode cX12_number 0 = .ok (.aload_n 0, 1) := by decide +kernel
theorem dX12_number_1 : decode cX12_number 1 = .ok (.getfield 39, 3) := by decide +kernel
theorem dX12_number_4 : decode cX12_number 4 = .ok (.iconst 2, 1) := by decide +kernel
theorem dX12_number_5 : decode cX12_number 5 = .ok (.if_icmp .eq 9, 3) := by decide +kernel
theorem dX12_number_8 : decode cX12_number 8 = .ok (.aload_n 0, 1) := by decide +kernel
theorem dX12_number_9 : decode cX12_number 9 = .ok (.iconst 1, 1) := by decide +kernel
theorem dX12_number_10 : decode cX12_number 10 = .ok (.invokevirtual 62, 3) := by decide +kernel
theorem dX12_number_13 : decode cX12_number 13 = .ok (.athrow, 1) := by decide +kernel
theorem dX12_number_14 : decode cX12_number 14 = .ok (.aload_n 0, 1) := by decide +kernel
theorem dX12_number_15 : decode cX12_number 15 = .ok (.getfield 49, 3) := by decide +kernel
theorem dX12_number_18 : decode cX12_number 18 = .ok (.iload_n 1, 1) := by decide +kernel
theorem dX12_number_19 : decode cX12_number 19 = .ok (.if_icmp .le 9, 3) := by decide +kernel
theorem dX12_number_22 : decode cX12_number 22 = .ok (.aload_n 0, 1) := by decide +kernel
theorem dX12_number_23 : decode cX12_number 23 = .ok (.iconst 2, 1) := by decide +kernel
theorem dX12_number_24 : decode cX12_number 24 = .ok (.invokevirtual 62, 3) := by decide +kernel
theorem dX12_number_27 : decode cX12_number 27 = .ok (.athrow, 1) := by decide +kernel
theorem dX12_number_28 : decode cX12_number 28 = .ok (.aload_n 0, 1) := by decide +kernel
theorem dX12_number_29 : decode cX12_number 29 = .ok (.getfield 49, 3) := by decide +kernel
theorem dX12_number_32 : decode cX12_number 32 = .ok (.istore_n 2, 1) := by decide +kernel
theorem dX12_number_33 : decode cX12_number 33 = .ok (.aload_n 0, 1) := by decide +kernel
theorem dX12_number_34 : decode cX12_number 34 = .ok (.invokevirtual 66, 3) := by decide +kernel
theorem dX12_number_37 : decode cX12_number 37 = .ok (.iload_n 2, 1) := by decide +kernel
theorem dX12_number_38 : decode cX12_number 38 = .ok (.ireturn, 1) := by decide +kernel
set_option maxRecDepth 20000 in
theorem ggX12_key_X12_is : GoodIn wsX12_key wsX12_is := goodIn_r _ [5, 6, 7, 8, 9, 10, 11, 12, 13, 14, 15, 16, 17, 18, 19, 20, 21, 22, 23, 24, 25, 26, 27, 28, 29, 30, 31, 32, 33, 34, 35, 36, 37, 38, 39, 40, 41, 42, 43, 44, 45, 46, 47, 48, 49, 50, 51, 52, 53, 54, 55, 56, 57, 58, 59, 60, 61, 62, 63, 64, 65, 66, 67, 68, 69, 70, 71, 72, 73, 74, 75, 76, 77, 78, 79, 80, 81, 82, 83, 84, 85, 86, 87, 88, 89, 90, 91, 92, 93, 94, 95, 96, 97, 98, 99, 100, 101, 102, 103, 104, 105, 106, 107, 108, 109, 110, 111] (by decide +kernel) (by decide +kernel)
set_option maxRecDepth 20000 in
theorem gX12_key_X12_is : GoodIn wsX12_key (wsV RX12 72 RX12 yX12_is wsX12_is) := goodIn_app (goodIn_of _ (by decide +kernel)) ggX12_key_X12_is
theorem dX12_key_0 : decode cX12_key 0 = .ok (.aload_n 0, 1) := by decide +kernel
theorem dX12_key_1 : decode cX12_key 1 = .ok (.ldc 70, 2) := by decide +kernel
theorem dX12_key_3 : decode cX12_key 3 = .ok (.invokevirtual 72, 3) := by decide +kernel
theorem dX12_key_6 : decode cX12_key 6 = .ok (.ifCond .eq 5, 3) := by decide +kernel
theorem dX12_key_9 : decode cX12_key 9 = .ok (.iconst 0, 1) := by decide +kernel
theorem dX12_key_10 : decode cX12_key 10 = .ok (.ireturn, 1) := by decide +kernel
theorem dX12_key_11 : decode cX12_key 11 = .ok (.aload_n 0, 1) := by decide +kernel
theorem dX12_key_12 : decode cX12_key 12 = .ok (.ldc 76, 2) := by decide +kernel
theorem dX12_key_14 : decode cX12_key 14 = .ok (.invokevirtual 72, 3) := by decide +kernel
theorem dX12_key_17 : decode cX12_key 17 = .ok (.ifCond .eq 5, 3) := by decide +kernel
theorem dX12_key_20 : decode cX12_key 20 = .ok (.iconst 1, 1) := by decide +kernel
theorem dX12_key_21 : decode cX12_key 21 = .ok (.ireturn, 1) := by decide +kernel
theorem dX12_key_22 : decode cX12_key 22 = .ok (.aload_n 0, 1) := by decide +kernel
theorem dX12_key_23 : decode cX12_key 23 = .ok (.ldc 78, 2) := by decide +kernel
theorem dX12_key_25 : decode cX12_key 25 = .ok (.invokevirtual 72, 3) := by decide +kernel
theorem dX12_key_28 : decode cX12_key 28 = .ok (.ifCond .eq 5, 3) := by decide +kernel
theorem dX12_key_31 : decode cX12_key 31 = .ok (.iconst 2, 1) := by decide +kernel
theorem dX12_key_32 : decode cX12_key 32 = .ok (.ireturn, 1) := by decide +kernel
theorem dX12_key_33 : decode cX12_key 33 = .ok (.aload_n 0, 1) := by decide +kernel
theorem dX12_key_34 : decode cX12_key 34 = .ok (.ldc 80, 2) := by decide +kernel
theorem dX12_key_36 : decode cX12_key 36 = .ok (.invokevirtual 72, 3) := by decide +kernel
theorem dX12_key_39 : decode cX12_key 39 = .ok (.ifCond .eq 5, 3) := by decide +kernel
theorem dX12_key_42 : decode cX12_key 42 = .ok (.iconst 3, 1) := by decide +kernel
theorem dX12_key_43 : decode cX12_key 43 = .ok (.ireturn, 1) := by decide +kernel
theorem dX12_key_44 : decode cX12_key 44 = .ok (.aload_n 0, 1) := by decide +kernel
theorem dX12_key_45 : decode cX12_key 45 = .ok (.ldc 82, 2) := by decide +kernel
theorem dX12_key_47 : decode cX12_key 47 = .ok (.invokevirtual 72, 3) := by decide +kernel
theorem dX12_key_50 : decode cX12_key 50 = .ok (.ifCond .eq 5, 3) := by decide +kernel
theorem dX12_key_53 : decode cX12_key 53 = .ok (.iconst 4, 1) := by decide +kernel
theorem dX12_key_54 : decode cX12_key 54 = .ok (.ireturn, 1) := by decide +kernel
theorem dX12_key_55 : decode cX12_key 55 = .ok (.aload_n 0, 1) := by decide +kernel
theorem dX12_key_56 : decode cX12_key 56 = .ok (.ldc 84, 2) := by decide +kernel
theorem dX12_key_58 : decode cX12_key 58 = .ok (.invokevirtual 72, 3) := by decide +kernel
theorem dX12_key_61 : decode cX12_key 61 = .ok (.ifCond .eq 5, 3) := by decide +kernel
theorem dX12_key_64 : decode cX12_key 64 = .ok (.iconst 5, 1) := by decide +kernel
theorem dX12_key_65 : decode cX12_key 65 = .ok (.ireturn, 1) := by decide +kernel
theorem dX12_key_66 : decode cX12_key 66 = .ok (.aload_n 0, 1) := by decide +kernel
theorem dX12_key_67 : decode cX12_key 67 = .ok (.ldc 86, 2) := by decide +kernel
theorem dX12_key_69 : decode cX12_key 69 = .ok (.invokevirtual 72, 3) := by decide +kernel
theorem dX12_key_72 : decode cX12_key 72 = .ok (.ifCond .eq 6, 3) := by decide +kernel
theorem dX12_key_75 : decode cX12_key 75 = .ok (.bipush 6, 2) := by decide +kernel
theorem dX12_key_77 : decode cX12_key 77 = .ok (.ireturn, 1) := by decide +kernel
theorem dX12_key_78 : decode cX12_key 78 = .ok (.aload_n 0, 1) := by decide +kernel
theorem dX12_key_79 : decode cX12_key 79 = .ok (.ldc 88, 2) := by decide +kernel
theorem dX12_key_81 : decode cX12_key 81 = .ok (.invokevirtual 72, 3) := by decide +kernel
theorem dX12_key_84 : decode cX12_key 84 = .ok (.ifCond .eq 8, 3) := by decide +kernel
theorem dX12_key_87 : decode cX12_key 87 = .ok (.bipush 7, 2) := by decide +kernel
theorem dX12_key_89 : decode cX12_key 89 = .ok (.goto 4, 3) := by decide +kernel
theorem dX12_key_92 : decode cX12_key 92 = .ok (.iconst (-1), 1) := by decide +kernel
theorem dX12_key_93 : decode cX12_key 93 = .ok (.ireturn, 1) := by decide +kernel
set_option maxRecDepth 20000 in
theorem ggX12_readRules_X12_plain : GoodIn wsX12_readRules wsX12_plain := goodIn_r _ [7] (by decide +kernel) (by decide +kernel)
set_option maxRecDepth 20000 in
theorem gX12_readRules_X12_plain : GoodIn wsX12_readRules (va_wsS RX12 94 yX12_plain wsX12_plain) := goodIn_app (goodIn_of _ (by decide +kernel)) ggX12_readRules_X12_plain
set_option maxRecDepth 20000 in
theorem ggX12_readRules_X12_key : GoodIn wsX12_readRules wsX12_key := goodIn_r _ [11, 12, 13, 14, 6, 15, 3, 16, 17, 18, 19, 20, 21, 22, 23, 24, 25, 26, 27, 28, 29, 30, 31, 32, 33, 34, 35, 36, 37, 38, 39, 40, 41, 42, 43, 44, 45, 46, 47, 48, 49, 50, 51, 52, 53, 54, 55, 56, 57, 58, 59, 60, 61, 62, 63, 64, 65, 66, 67, 92, 93, 94, 95, 96, 97, 98, 99, 100, 101, 102, 103, 104, 105, 106, 107, 108, 109, 110, 111, 112, 113, 114, 115, 116, 117, 118, 119, 120, 121, 122, 123, 124, 125, 126, 127, 128, 129, 130, 131, 132, 133, 134, 135, 136, 137, 138, 139, 140, 141, 142, 143, 144] (by decide +kernel) (by decide +kernel)
set_option maxRecDepth 20000 in
theorem gX12_readRules_X12_key : GoodIn wsX12_readRules (wsV RX12 102 RX12 yX12_key wsX12_key) := goodIn_app (goodIn_of _ (by decide +kernel)) ggX12_readRules_X12_key
set_option maxRecDepth 20000 in
theorem ggX12_readRules_X12_scan : GoodIn wsX12_readRules wsX12_scan := goodIn_r _ [71, 16, 72, 18, 17, 3, 73, 74, 75, 76, 6, 77, 78, 79, 80, 81, 82, 83, 92, 93, 94, 95, 96, 97, 98, 99, 100, 101, 102, 103, 104, 105, 106, 107, 108, 109, 110, 111, 112, 113, 114, 115, 116, 117, 118, 119, 120, 121, 122, 123, 124, 125, 126, 127, 128, 129, 130, 131, 132, 133, 134, 135, 136, 137, 138, 139, 140, 141, 142, 143, 144] (by decide +kernel) (by decide +kernel)
set_option maxRecDepth 20000 in
theorem gX12_readRules_X12_scan : GoodIn wsX12_readRules (wsV RX12 66 RX12 yX12_scan wsX12_scan) := goodIn_app (goodIn_of _ (by decide +kernel)) ggX12_readRules_X12_scan
set_option maxRecDepth 20000 in
theorem ggX12_readRules_X12_readLine : GoodIn wsX12_readRules wsX12_readLine := goodIn_r _ [87, 1, 3, 73, 88, 89, 90, 6, 91, 68, 69, 70, 71, 16, 72, 18, 17, 74, 75, 76, 77, 78, 79, 80, 81, 82, 83, 12, 13, 14, 15, 19, 20, 21, 22, 23, 24, 25, 26, 27, 28, 29, 30, 31, 32, 33, 34, 35, 36, 37, 38, 39, 40, 41, 42, 43, 44, 45, 46, 47, 48, 49, 50, 51, 52, 53, 54, 55, 56, 57, 58, 59, 60, 61, 62, 63, 64, 65, 66, 67, 92, 93, 94, 95, 96, 97, 98, 99, 100, 101, 102, 103, 104, 105, 106, 107, 108, 109, 110, 111, 112, 113, 114, 115, 116, 117, 118, 119, 120, 121, 122, 123, 124, 125, 126, 127, 128, 129, 130, 131, 132, 133, 134, 135, 136, 137, 138, 139, 140, 141, 142, 143, 144] (by decide +kernel) (by decide +kernel)
set_option maxRecDepth 20000 in
theorem gX12_readRules_X12_readLine : GoodIn wsX12_readRules (wsV RX12 105 RX12 yX12_readLine wsX12_readLine) := goodIn_app (goodIn_of _ (by decide +kernel)) ggX12_readRules_X12_readLine
theorem dX12_readRules_0 : decode cX12_readRules 0 = .ok (.aload_n 0, 1) := by decide +kernel
theorem dX12_readRules_1 : decode cX12_readRules 1 = .ok (.getfield 90, 3) := by decide +kernel
theorem dX12_readRules_4 : decode cX12_readRules 4 = .ok (.invokestatic 94, 3) := by decide +kernel
theorem dX12_readRules_7 : decode cX12_readRules 7 = .ok (.iconst 0, 1) := by decide +kernel
theorem dX12_readRules_8 : decode cX12_readRules 8 = .ok (.istore_n 1, 1) := by decide +kernel
theorem dX12_readRules_9 : decode cX12_readRules 9 = .ok (.iload_n 1, 1) := by decide +kernel
theorem dX12_readRules_10 : decode cX12_readRules 10 = .ok (.aload_n 0, 1) := by decide +kernel
theorem dX12_readRules_11 : decode cX12_readRules 11 = .ok (.getfield 98, 3) := by decide +kernel
theorem dX12_readRules_14 : decode cX12_readRules 14 = .ok (.arraylength, 1) := by decide +kernel
theorem dX12_readRules_15 : decode cX12_readRules 15 = .ok (.if_icmp .ge 16, 3) := by decide +kernel
theorem dX12_readRules_18 : decode cX12_readRules 18 = .ok (.aload_n 0, 1) := by decide +kernel
theorem dX12_readRules_19 : decode cX12_readRules 19 = .ok (.getfield 98, 3) := by decide +kernel
theorem dX12_readRules_22 : decode cX12_readRules 22 = .ok (.iload_n 1, 1) := by decide +kernel
theorem dX12_readRules_23 : decode cX12_readRules 23 = .ok (.iconst 0, 1) := by decide +kernel
theorem dX12_readRules_24 : decode cX12_readRules 24 = .ok (.bastore, 1) := by decide +kernel
theorem dX12_readRules_25 : decode cX12_readRules 25 = .ok (.iinc 1 1, 3) := by decide +kernel
theorem dX12_readRules_28 : decode cX12_readRules 28 = .ok (.goto (-19), 3) := by decide +kernel
theorem dX12_readRules_31 : decode cX12_readRules 31 = .ok (.iconst 0, 1) := by decide +kernel
theorem dX12_readRules_32 : decode cX12_readRules 32 = .ok (.istore_n 1, 1) := by decide +kernel
theorem dX12_readRules_33 : decode cX12_readRules 33 = .ok (.aload_n 0, 1) := by decide +kernel
theorem dX12_readRules_34 : decode cX12_readRules 34 = .ok (.getfield 39, 3) := by decide +kernel
theorem dX12_readRules_37 : decode cX12_readRules 37 = .ok (.ifCond .eq 80, 3) := by decide +kernel
theorem dX12_readRules_40 : decode cX12_readRules 40 = .ok (.aload_n 0, 1) := by decide +kernel
theorem dX12_readRules_41 : decode cX12_readRules 41 = .ok (.invokevirtual 102, 3) := by decide +kernel
theorem dX12_readRules_44 : decode cX12_readRules 44 = .ok (.istore_n 2, 1) := by decide +kernel
theorem dX12_readRules_45 : decode cX12_readRules 45 = .ok (.iload_n 2, 1) := by decide +kernel
theorem dX12_readRules_46 : decode cX12_readRules 46 = .ok (.iconst (-1), 1) := by decide +kernel
theorem dX12_readRules_47 : decode cX12_readRules 47 = .ok (.if_icmp .ne 9, 3) := by decide +kernel
theorem dX12_readRules_50 : decode cX12_readRules 50 = .ok (.aload_n 0, 1) := by decide +kernel
theorem dX12_readRules_51 : decode cX12_readRules 51 = .ok (.iconst 1, 1) := by decide +kernel
theorem dX12_readRules_52 : decode cX12_readRules 52 = .ok (.invokevirtual 62, 3) := by decide +kernel
theorem dX12_readRules_55 : decode cX12_readRules 55 = .ok (.athrow, 1) := by decide +kernel
theorem dX12_readRules_56 : decode cX12_readRules 56 = .ok (.aload_n 0, 1) := by decide +kernel
theorem dX12_readRules_57 : decode cX12_readRules 57 = .ok (.getfield 98, 3) := by decide +kernel
theorem dX12_readRules_60 : decode cX12_readRules 60 = .ok (.iload_n 2, 1) := by decide +kernel
theorem dX12_readRules_61 : decode cX12_readRules 61 = .ok (.baload, 1) := by decide +kernel
theorem dX12_readRules_62 : decode cX12_readRules 62 = .ok (.ifCond .eq 15, 3) := by decide +kernel
theorem dX12_readRules_65 : decode cX12_readRules 65 = .ok (.iload_n 2, 1) := by decide +kernel
theorem dX12_readRules_66 : decode cX12_readRules 66 = .ok (.bipush 7, 2) := by decide +kernel
theorem dX12_readRules_68 : decode cX12_readRules 68 = .ok (.if_icmp .eq 9, 3) := by decide +kernel
theorem dX12_readRules_71 : decode cX12_readRules 71 = .ok (.aload_n 0, 1) := by decide +kernel
theorem dX12_readRules_72 : decode cX12_readRules 72 = .ok (.iconst 3, 1) := by decide +kernel
theorem dX12_readRules_73 : decode cX12_readRules 73 = .ok (.invokevirtual 62, 3) := by decide +kernel
theorem dX12_readRules_76 : decode cX12_readRules 76 = .ok (.athrow, 1) := by decide +kernel
theorem dX12_readRules_77 : decode cX12_readRules 77 = .ok (.aload_n 0, 1) := by decide +kernel
theorem dX12_readRules_78 : decode cX12_readRules 78 = .ok (.getfield 98, 3) := by decide +kernel
theorem dX12_readRules_81 : decode cX12_readRules 81 = .ok (.iload_n 2, 1) := by decide +kernel
theorem dX12_readRules_82 : decode cX12_readRules 82 = .ok (.iconst 1, 1) := by decide +kernel
theorem dX12_readRules_83 : decode cX12_readRules 83 = .ok (.bastore, 1) := by decide +kernel
theorem dX12_readRules_84 : decode cX12_readRules 84 = .ok (.aload_n 0, 1) := by decide +kernel
theorem dX12_readRules_85 : decode cX12_readRules 85 = .ok (.invokevirtual 66, 3) := by decide +kernel
theorem dX12_readRules_88 : decode cX12_readRules 88 = .ok (.aload_n 0, 1) := by decide +kernel
theorem dX12_readRules_89 : decode cX12_readRules 89 = .ok (.iload_n 2, 1) := by decide +kernel
theorem dX12_readRules_90 : decode cX12_readRules 90 = .ok (.invokevirtual 105, 3) := by decide +kernel
theorem dX12_readRules_93 : decode cX12_readRules 93 = .ok (.aload_n 0, 1) := by decide +kernel
theorem dX12_readRules_94 : decode cX12_readRules 94 = .ok (.getfield 39, 3) := by decide +kernel
theorem dX12_readRules_97 : decode cX12_readRules 97 = .ok (.iconst 3, 1) := by decide +kernel
theorem dX12_readRules_98 : decode cX12_readRules 98 = .ok (.if_icmp .eq 9, 3) := by decide +kernel
theorem dX12_readRules_101 : decode cX12_readRules 101 = .ok (.aload_n 0, 1) := by decide +kernel
theorem dX12_readRules_102 : decode cX12_readRules 102 = .ok (.iconst 1, 1) := by decide +kernel
theorem dX12_readRules_103 : decode cX12_readRules 103 = .ok (.invokevirtual 62, 3) := by decide +kernel
theorem dX12_readRules_106 : decode cX12_readRules 106 = .ok (.athrow, 1) := by decide +kernel
theorem dX12_readRules_107 : decode cX12_readRules 107 = .ok (.aload_n 0, 1) := by decide +kernel
theorem dX12_readRules_108 : decode cX12_readRules 108 = .ok (.invokevirtual 66, 3) := by decide +kernel
theorem dX12_readRules_111 : decode cX12_readRules 111 = .ok (.iinc 1 1, 3) := by decide +kernel
theorem dX12_readRules_114 : decode cX12_readRules 114 = .ok (.goto (-81), 3) := by decide +kernel
theorem dX12_readRules_117 : decode cX12_readRules 117 = .ok (.iload_n 1, 1) := by decide +kernel
theorem dX12_readRules_118 : decode cX12_readRules 118 = .ok (.ireturn, 1) := by decide +kernel
set_option maxRecDepth 20000 in
theorem ggX12_readLine_X12_number : GoodIn wsX12_readLine wsX12_number := goodIn_r _ [8, 2, 3, 9, 10, 11, 7, 12, 13, 14, 15, 16, 17, 18, 19, 20, 21, 22, 23, 24, 25, 26, 80, 81, 82, 83, 84, 85, 86, 87, 88, 89, 90, 91, 92, 93, 94, 95, 96, 97, 98, 99, 100, 101, 102, 103, 104, 105, 106, 107, 108, 109, 110, 111, 112, 113, 114, 115, 116, 117, 118, 119, 120, 121, 122, 123, 124, 125, 126, 127, 128, 129, 130, 131, 132] (by decide +kernel) (by decide +kernel)
set_option maxRecDepth 20000 in
theorem gX12_readLine_X12_number : GoodIn wsX12_readLine (wsV RX12 109 RX12 yX12_number wsX12_number) := goodIn_app (goodIn_of _ (by decide +kernel)) ggX12_readLine_X12_number
set_option maxRecDepth 20000 in
theorem ggX12_readLine_X12_is : GoodIn wsX12_readLine wsX12_is := goodIn_r _ [30, 2, 13, 16, 15, 31, 32, 33, 34, 35, 36, 37, 38, 39, 40, 41, 42, 43, 44, 45, 46, 47, 48, 49, 50, 51, 52, 53, 54, 55, 56, 57, 58, 59, 60, 61, 62, 63, 64, 65, 66, 67, 68, 69, 70, 71, 72, 73, 74, 75, 76, 77, 78, 79, 80, 81, 82, 83, 84, 85, 86, 87, 88, 89, 90, 91, 92, 93, 94, 95, 96, 97, 98, 99, 100, 101, 102, 103, 104, 105, 106, 107, 108, 109, 110, 111, 112, 113, 114, 115, 116, 117, 118, 119, 120, 121, 122, 123, 124, 125, 126, 127, 128, 129, 130, 131, 132] (by decide +kernel) (by decide +kernel)
set_option maxRecDepth 20000 in
theorem gX12_readLine_X12_is : GoodIn wsX12_readLine (wsV RX12 72 RX12 yX12_is wsX12_is) := goodIn_app (goodIn_of _ (by decide +kernel)) ggX12_readLine_X12_is
set_option maxRecDepth 20000 in
theorem ggX12_readLine_X12_scan : GoodIn wsX12_readLine wsX12_scan := goodIn_r _ [12, 13, 14, 15, 16, 2, 3, 17, 18, 19, 7, 20, 21, 22, 23, 24, 25, 26, 80, 81, 82, 83, 84, 85, 86, 87, 88, 89, 90, 91, 92, 93, 94, 95, 96, 97, 98, 99, 100, 101, 102, 103, 104, 105, 106, 107, 108, 109, 110, 111, 112, 113, 114, 115, 116, 117, 118, 119, 120, 121, 122, 123, 124, 125, 126, 127, 128, 129, 130, 131, 132] (by decide +kernel) (by decide +kernel)
