theorem dX6_yearsMaybe_74 : decode cX6_yearsMaybe 74 = .ok (.getfield 15, 3) := by decide +kernel
theorem dX6_yearsMaybe_77 : decode cX6_yearsMaybe 77 = .ok (.iload 9, 2) := by decide +kernel
theorem dX6_yearsMaybe_79 : decode cX6_yearsMaybe 79 = .ok (.iaload, 1) := by decide +kernel
theorem dX6_yearsMaybe_80 : decode cX6_yearsMaybe 80 = .ok (.iload 10, 2) := by decide +kernel
theorem dX6_yearsMaybe_82 : decode cX6_yearsMaybe 82 = .ok (.iload 4, 2) := by decide +kernel
theorem dX6_yearsMaybe_84 : decode cX6_yearsMaybe 84 = .ok (.iload 5, 2) := by decide +kernel
theorem dX6_yearsMaybe_86 : decode cX6_yearsMaybe 86 = .ok (.invokestatic 31, 3) := by decide +kernel
theorem dX6_yearsMaybe_89 : decode cX6_yearsMaybe 89 = .ok (.lor, 1) := by decide +kernel
theorem dX6_yearsMaybe_90 : decode cX6_yearsMaybe 90 = .ok (.lstore 6, 2) := by decide +kernel
theorem dX6_yearsMaybe_92 : decode cX6_yearsMaybe 92 = .ok (.iinc 9 1, 3) := by decide +kernel
theorem dX6_yearsMaybe_95 : decode cX6_yearsMaybe 95 = .ok (.goto (-79), 3) := by decide +kernel
theorem dX6_yearsMaybe_98 : decode cX6_yearsMaybe 98 = .ok (.lload 6, 2) := by decide +kernel
theorem dX6_yearsMaybe_100 : decode cX6_yearsMaybe 100 = .ok (.lreturn, 1) := by decide +kernel
set_option maxRecDepth 20000 in
theorem ggX6_yearsSurely_X6_latestOf : GoodIn wsX6_yearsSurely wsX6_latestOf := goodIn_r _ [11, 12, 20, 21, 22, 23, 24, 25] (by decide +kernel) (by decide +kernel)
set_option maxRecDepth 20000 in
theorem gX6_yearsSurely_X6_latestOf : GoodIn wsX6_yearsSurely (wsV RX6 27 RX6 yX6_latestOf wsX6_latestOf) := goodIn_app (goodIn_of _ (by decide +kernel)) ggX6_yearsSurely_X6_latestOf
set_option maxRecDepth 20000 in
theorem ggX6_yearsSurely_X6_yearBits : GoodIn wsX6_yearsSurely wsX6_yearBits := goodIn_r _ [15] (by decide +kernel) (by decide +kernel)
set_option maxRecDepth 20000 in
theorem gX6_yearsSurely_X6_yearBits : GoodIn wsX6_yearsSurely (va_wsS RX6 31 yX6_yearBits wsX6_yearBits) := goodIn_app (goodIn_of _ (by decide +kernel)) ggX6_yearsSurely_X6_yearBits
set_option maxRecDepth 20000 in
theorem ggX6_yearsSurely_X6_yearsMaybe : GoodIn wsX6_yearsSurely wsX6_yearsMaybe := goodIn_r _ [19, 1, 2, 4, 3, 7, 8, 9, 10, 11, 12, 13, 14, 15, 20, 21, 22, 23, 24, 25] (by decide +kernel) (by decide +kernel)
set_option maxRecDepth 20000 in
theorem gX6_yearsSurely_X6_yearsMaybe : GoodIn wsX6_yearsSurely (wsV RX6 39 RX6 yX6_yearsMaybe wsX6_yearsMaybe) := goodIn_app (goodIn_of _ (by decide +kernel)) ggX6_yearsSurely_X6_yearsMaybe
theorem dX6_yearsSurely_0 : decode cX6_yearsSurely 0 = .ok (.lconst 0, 1) := by decide +kernel
theorem dX6_yearsSurely_1 : decode cX6_yearsSurely 1 = .ok (.lstore 6, 2) := by decide +kernel
theorem dX6_yearsSurely_3 : decode cX6_yearsSurely 3 = .ok (.aload_n 0, 1) := by decide +kernel
theorem dX6_yearsSurely_4 : decode cX6_yearsSurely 4 = .ok (.iload_n 1, 1) := by decide +kernel
theorem dX6_yearsSurely_5 : decode cX6_yearsSurely 5 = .ok (.invokevirtual 27, 3) := by decide +kernel
theorem dX6_yearsSurely_8 : decode cX6_yearsSurely 8 = .ok (.istore 8, 2) := by decide +kernel
theorem dX6_yearsSurely_10 : decode cX6_yearsSurely 10 = .ok (.iload_n 1, 1) := by decide +kernel
theorem dX6_yearsSurely_11 : decode cX6_yearsSurely 11 = .ok (.bipush 8, 2) := by decide +kernel
theorem dX6_yearsSurely_13 : decode cX6_yearsSurely 13 = .ok (.imul, 1) := by decide +kernel
theorem dX6_yearsSurely_14 : decode cX6_yearsSurely 14 = .ok (.istore 9, 2) := by decide +kernel
theorem dX6_yearsSurely_16 : decode cX6_yearsSurely 16 = .ok (.iload 9, 2) := by decide +kernel
theorem dX6_yearsSurely_18 : decode cX6_yearsSurely 18 = .ok (.iload 8, 2) := by decide +kernel
theorem dX6_yearsSurely_20 : decode cX6_yearsSurely 20 = .ok (.if_icmp .gt 78, 3) := by decide +kernel
theorem dX6_yearsSurely_23 : decode cX6_yearsSurely 23 = .ok (.aload_n 0, 1) := by decide +kernel
theorem dX6_yearsSurely_24 : decode cX6_yearsSurely 24 = .ok (.getfield 21, 3) := by decide +kernel
theorem dX6_yearsSurely_27 : decode cX6_yearsSurely 27 = .ok (.iload 9, 2) := by decide +kernel
theorem dX6_yearsSurely_29 : decode cX6_yearsSurely 29 = .ok (.iaload, 1) := by decide +kernel
theorem dX6_yearsSurely_30 : decode cX6_yearsSurely 30 = .ok (.iload_n 2, 1) := by decide +kernel
theorem dX6_yearsSurely_31 : decode cX6_yearsSurely 31 = .ok (.if_icmp .ne 61, 3) := by decide +kernel
theorem dX6_yearsSurely_34 : decode cX6_yearsSurely 34 = .ok (.aload_n 0, 1) := by decide +kernel
theorem dX6_yearsSurely_35 : decode cX6_yearsSurely 35 = .ok (.getfield 24, 3) := by decide +kernel
theorem dX6_yearsSurely_38 : decode cX6_yearsSurely 38 = .ok (.iload 9, 2) := by decide +kernel
theorem dX6_yearsSurely_40 : decode cX6_yearsSurely 40 = .ok (.iaload, 1) := by decide +kernel
theorem dX6_yearsSurely_41 : decode cX6_yearsSurely 41 = .ok (.iload_n 3, 1) := by decide +kernel
theorem dX6_yearsSurely_42 : decode cX6_yearsSurely 42 = .ok (.if_icmp .ne 50, 3) := by decide +kernel
theorem dX6_yearsSurely_45 : decode cX6_yearsSurely 45 = .ok (.iload 9, 2) := by decide +kernel
theorem dX6_yearsSurely_47 : decode cX6_yearsSurely 47 = .ok (.iload 8, 2) := by decide +kernel
theorem dX6_yearsSurely_49 : decode cX6_yearsSurely 49 = .ok (.if_icmp .ge 17, 3) := by decide +kernel
theorem dX6_yearsSurely_52 : decode cX6_yearsSurely 52 = .ok (.aload_n 0, 1) := by decide +kernel
theorem dX6_yearsSurely_53 : decode cX6_yearsSurely 53 = .ok (.getfield 15, 3) := by decide +kernel
theorem dX6_yearsSurely_56 : decode cX6_yearsSurely 56 = .ok (.iload 9, 2) := by decide +kernel
theorem dX6_yearsSurely_58 : decode cX6_yearsSurely 58 = .ok (.iconst 1, 1) := by decide +kernel
theorem dX6_yearsSurely_59 : decode cX6_yearsSurely 59 = .ok (.iadd, 1) := by decide +kernel
theorem dX6_yearsSurely_60 : decode cX6_yearsSurely 60 = .ok (.iaload, 1) := by decide +kernel
theorem dX6_yearsSurely_61 : decode cX6_yearsSurely 61 = .ok (.iconst 1, 1) := by decide +kernel
theorem dX6_yearsSurely_62 : decode cX6_yearsSurely 62 = .ok (.isub, 1) := by decide +kernel
theorem dX6_yearsSurely_63 : decode cX6_yearsSurely 63 = .ok (.goto 6, 3) := by decide +kernel
theorem dX6_yearsSurely_66 : decode cX6_yearsSurely 66 = .ok (.sipush 2100, 3) := by decide +kernel
theorem dX6_yearsSurely_69 : decode cX6_yearsSurely 69 = .ok (.istore 10, 2) := by decide +kernel
theorem dX6_yearsSurely_71 : decode cX6_yearsSurely 71 = .ok (.lload 6, 2) := by decide +kernel
theorem dX6_yearsSurely_73 : decode cX6_yearsSurely 73 = .ok (.aload_n 0, 1) := by decide +kernel
theorem dX6_yearsSurely_74 : decode cX6_yearsSurely 74 = .ok (.getfield 18, 3) := by decide +kernel
theorem dX6_yearsSurely_77 : decode cX6_yearsSurely 77 = .ok (.iload 9, 2) := by decide +kernel
theorem dX6_yearsSurely_79 : decode cX6_yearsSurely 79 = .ok (.iaload, 1) := by decide +kernel
theorem dX6_yearsSurely_80 : decode cX6_yearsSurely 80 = .ok (.iload 10, 2) := by decide +kernel
theorem dX6_yearsSurely_82 : decode cX6_yearsSurely 82 = .ok (.iload 4, 2) := by decide +kernel
theorem dX6_yearsSurely_84 : decode cX6_yearsSurely 84 = .ok (.iload 5, 2) := by decide +kernel
theorem dX6_yearsSurely_86 : decode cX6_yearsSurely 86 = .ok (.invokestatic 31, 3) := by decide +kernel
theorem dX6_yearsSurely_89 : decode cX6_yearsSurely 89 = .ok (.lor, 1) := by decide +kernel
theorem dX6_yearsSurely_90 : decode cX6_yearsSurely 90 = .ok (.lstore 6, 2) := by decide +kernel
theorem dX6_yearsSurely_92 : decode cX6_yearsSurely 92 = .ok (.iinc 9 1, 3) := by decide +kernel
theorem dX6_yearsSurely_95 : decode cX6_yearsSurely 95 = .ok (.goto (-79), 3) := by decide +kernel
theorem dX6_yearsSurely_98 : decode cX6_yearsSurely 98 = .ok (.iconst 0, 1) := by decide +kernel
theorem dX6_yearsSurely_99 : decode cX6_yearsSurely 99 = .ok (.istore 9, 2) := by decide +kernel
theorem dX6_yearsSurely_101 : decode cX6_yearsSurely 101 = .ok (.iload 9, 2) := by decide +kernel
theorem dX6_yearsSurely_103 : decode cX6_yearsSurely 103 = .ok (.aload_n 0, 1) := by decide +kernel
theorem dX6_yearsSurely_104 : decode cX6_yearsSurely 104 = .ok (.getfield 35, 3) := by decide +kernel
theorem dX6_yearsSurely_107 : decode cX6_yearsSurely 107 = .ok (.if_icmp .ge 43, 3) := by decide +kernel
theorem dX6_yearsSurely_110 : decode cX6_yearsSurely 110 = .ok (.lload 6, 2) := by decide +kernel
theorem dX6_yearsSurely_112 : decode cX6_yearsSurely 112 = .ok (.lconst 0, 1) := by decide +kernel
theorem dX6_yearsSurely_113 : decode cX6_yearsSurely 113 = .ok (.lcmp, 1) := by decide +kernel
theorem dX6_yearsSurely_114 : decode cX6_yearsSurely 114 = .ok (.ifCond .eq 36, 3) := by decide +kernel
theorem dX6_yearsSurely_117 : decode cX6_yearsSurely 117 = .ok (.iload 9, 2) := by decide +kernel
theorem dX6_yearsSurely_119 : decode cX6_yearsSurely 119 = .ok (.iload_n 1, 1) := by decide +kernel
theorem dX6_yearsSurely_120 : decode cX6_yearsSurely 120 = .ok (.if_icmp .eq 24, 3) := by decide +kernel
theorem dX6_yearsSurely_123 : decode cX6_yearsSurely 123 = .ok (.lload 6, 2) := by decide +kernel
theorem dX6_yearsSurely_125 : decode cX6_yearsSurely 125 = .ok (.aload_n 0, 1) := by decide +kernel
theorem dX6_yearsSurely_126 : decode cX6_yearsSurely 126 = .ok (.iload 9, 2) := by decide +kernel
theorem dX6_yearsSurely_128 : decode cX6_yearsSurely 128 = .ok (.iload_n 2, 1) := by decide +kernel
theorem dX6_yearsSurely_129 : decode cX6_yearsSurely 129 = .ok (.iload_n 3, 1) := by decide +kernel
theorem dX6_yearsSurely_130 : decode cX6_yearsSurely 130 = .ok (.iload 4, 2) := by decide +kernel
theorem dX6_yearsSurely_132 : decode cX6_yearsSurely 132 = .ok (.iload 5, 2) := by decide +kernel
theorem dX6_yearsSurely_134 : decode cX6_yearsSurely 134 = .ok (.invokevirtual 39, 3) := by decide +kernel
theorem dX6_yearsSurely_137 : decode cX6_yearsSurely 137 = .ok (.ldc2_w 43, 3) := by decide +kernel
theorem dX6_yearsSurely_140 : decode cX6_yearsSurely 140 = .ok (.lxor, 1) := by decide +kernel
theorem dX6_yearsSurely_141 : decode cX6_yearsSurely 141 = .ok (.land, 1) := by decide +kernel
theorem dX6_yearsSurely_142 : decode cX6_yearsSurely 142 = .ok (.lstore 6, 2) := by decide +kernel
theorem dX6_yearsSurely_144 : decode cX6_yearsSurely 144 = .ok (.iinc 9 1, 3) := by decide +kernel
theorem dX6_yearsSurely_147 : decode cX6_yearsSurely 147 = .ok (.goto (-46), 3) := by decide +kernel
theorem dX6_yearsSurely_150 : decode cX6_yearsSurely 150 = .ok (.lload 6, 2) := by decide +kernel
theorem dX6_yearsSurely_152 : decode cX6_yearsSurely 152 = .ok (.lreturn, 1) := by decide +kernel
theorem dX6_yearBits_0 : decode cX6_yearBits 0 = .ok (.iload_n 0, 1) := by decide +kernel
theorem dX6_yearBits_1 : decode cX6_yearBits 1 = .ok (.iload_n 2, 1) := by decide +kernel
theorem dX6_yearBits_2 : decode cX6_yearBits 2 = .ok (.if_icmp .le 7, 3) := by decide +kernel
theorem dX6_yearBits_5 : decode cX6_yearBits 5 = .ok (.iload_n 0, 1) := by decide +kernel
theorem dX6_yearBits_6 : decode cX6_yearBits 6 = .ok (.goto 4, 3) := by decide +kernel
theorem dX6_yearBits_9 : decode cX6_yearBits 9 = .ok (.iload_n 2, 1) := by decide +kernel
theorem dX6_yearBits_10 : decode cX6_yearBits 10 = .ok (.istore 4, 2) := by decide +kernel
theorem dX6_yearBits_12 : decode cX6_yearBits 12 = .ok (.iload_n 1, 1) := by decide +kernel
theorem dX6_yearBits_13 : decode cX6_yearBits 13 = .ok (.iload_n 3, 1) := by decide +kernel
theorem dX6_yearBits_14 : decode cX6_yearBits 14 = .ok (.if_icmp .ge 7, 3) := by decide +kernel
theorem dX6_yearBits_17 : decode cX6_yearBits 17 = .ok (.iload_n 1, 1) := by decide +kernel
theorem dX6_yearBits_18 : decode cX6_yearBits 18 = .ok (.goto 4, 3) := by decide +kernel
theorem dX6_yearBits_21 : decode cX6_yearBits 21 = .ok (.iload_n 3, 1) := by decide +kernel
theorem dX6_yearBits_22 : decode cX6_yearBits 22 = .ok (.istore 5, 2) := by decide +kernel
theorem dX6_yearBits_24 : decode cX6_yearBits 24 = .ok (.iload 4, 2) := by decide +kernel
theorem dX6_yearBits_26 : decode cX6_yearBits 26 = .ok (.iload 5, 2) := by decide +kernel
theorem dX6_yearBits_28 : decode cX6_yearBits 28 = .ok (.if_icmp .le 7, 3) := by decide +kernel
theorem dX6_yearBits_31 : decode cX6_yearBits 31 = .ok (.lconst 0, 1) := by decide +kernel
theorem dX6_yearBits_32 : decode cX6_yearBits 32 = .ok (.goto 19, 3) := by decide +kernel
theorem dX6_yearBits_35 : decode cX6_yearBits 35 = .ok (.lconst 1, 1) := by decide +kernel
theorem dX6_yearBits_36 : decode cX6_yearBits 36 = .ok (.iload 5, 2) := by decide +kernel
theorem dX6_yearBits_38 : decode cX6_yearBits 38 = .ok (.iload 4, 2) := by decide +kernel
theorem dX6_yearBits_40 : decode cX6_yearBits 40 = .ok (.isub, 1) := by decide +kernel
theorem dX6_yearBits_41 : decode cX6_yearBits 41 = .ok (.iconst 1, 1) := by decide +kernel
theorem dX6_yearBits_42 : decode cX6_yearBits 42 = .ok (.iadd, 1) := by decide +kernel
theorem dX6_yearBits_43 : decode cX6_yearBits 43 = .ok (.lshl, 1) := by decide +kernel
theorem dX6_yearBits_44 : decode cX6_yearBits 44 = .ok (.lconst 1, 1) := by decide +kernel
theorem dX6_yearBits_45 : decode cX6_yearBits 45 = .ok (.lsub, 1) := by decide +kernel
theorem dX6_yearBits_46 : decode cX6_yearBits 46 = .ok (.iload 4, 2) := by decide +kernel
theorem dX6_yearBits_48 : decode cX6_yearBits 48 = .ok (.iload_n 2, 1) := by decide +kernel
theorem dX6_yearBits_49 : decode cX6_yearBits 49 = .ok (.isub, 1) := by decide +kernel
theorem dX6_yearBits_50 : decode cX6_yearBits 50 = .ok (.lshl, 1) := by decide +kernel
theorem dX6_yearBits_51 : decode cX6_yearBits 51 = .ok (.lreturn, 1) := by decide +kernel
theorem dX7_init_0 : decode cX7_init 0 = .ok (.aload_n 0, 1) := by decide +kernel
theorem dX7_init_1 : decode cX7_init 1 = .ok (.invokespecial 3, 3) := by decide +kernel
theorem dX7_init_4 : decode cX7_init 4 = .ok (.aload_n 0, 1) := by decide +kernel
theorem dX7_init_5 : decode cX7_init 5 = .ok (.aload_n 1, 1) := by decide +kernel
theorem dX7_init_6 : decode cX7_init 6 = .ok (.putfield 9, 3) := by decide +kernel
theorem dX7_init_9 : decode cX7_init 9 = .ok (.aload_n 0, 1) := by decide +kernel
theorem dX7_init_10 : decode cX7_init 10 = .ok (.aload_n 2, 1) := by decide +kernel
theorem dX7_init_11 : decode cX7_init 11 = .ok (.putfield 15, 3) := by decide +kernel
theorem dX7_init_14 : decode cX7_init 14 = .ok (.aload_n 0, 1) := by decide +kernel
theorem dX7_init_15 : decode cX7_init 15 = .ok (.aload_n 3, 1) := by decide +kernel
theorem dX7_init_16 : decode cX7_init 16 = .ok (.putfield 19, 3) := by decide +kernel
theorem dX7_init_19 : decode cX7_init 19 = .ok (.aload_n 0, 1) := by decide +kernel
theorem dX7_init_20 : decode cX7_init 20 = .ok (.bipush 10, 2) := by decide +kernel
theorem dX7_init_22 : decode cX7_init 22 = .ok (.newarray .long, 2) := by decide +kernel
theorem dX7_init_24 : decode cX7_init 24 = .ok (.putfield 23, 3) := by decide +kernel
theorem dX7_init_27 : decode cX7_init 27 = .ok (.aload_n 0, 1) := by decide +kernel
theorem dX7_init_28 : decode cX7_init 28 = .ok (.bipush 10, 2) := by decide +kernel
theorem dX7_init_30 : decode cX7_init 30 = .ok (.newarray .long, 2) := by decide +kernel
theorem dX7_init_32 : decode cX7_init 32 = .ok (.putfield 27, 3) := by decide +kernel
theorem dX7_init_35 : decode cX7_init 35 = .ok (.return_, 1) := by decide +kernel
set_option maxRecDepth 20000 in
theorem ggX7_study_X3_areOne : GoodIn wsX7_study wsX3_areOne := goodIn_r _ [13, 14, 67, 68, 69, 70, 71] (by decide +kernel) (by decide +kernel)
set_option maxRecDepth 20000 in
theorem gX7_study_X3_areOne : GoodIn wsX7_study (wsV RX7 47 RX3 yX3_areOne wsX3_areOne) := goodIn_app (goodIn_of _ (by decide +kernel)) ggX7_study_X3_areOne
set_option maxRecDepth 20000 in
theorem ggX7_study_X7_addPaper : GoodIn wsX7_study wsX7_addPaper := goodIn_r _ [19, 4, 20, 21, 22, 23, 24, 2, 1, 3, 25, 26, 27, 28, 29, 30, 31, 32, 33, 34, 35, 36, 37, 38, 39, 40, 41, 42, 43, 44, 45, 46, 47, 48, 49, 50, 51, 18, 52, 53, 54, 55, 56, 57, 58, 59, 60, 61, 62, 63, 64, 65, 66, 72, 73, 74, 75, 76, 77] (by decide +kernel) (by decide +kernel)
set_option maxRecDepth 20000 in
theorem gX7_study_X7_addPaper : GoodIn wsX7_study (wsV RX7 53 RX7 yX7_addPaper wsX7_addPaper) := goodIn_app (goodIn_of _ (by decide +kernel)) ggX7_study_X7_addPaper
theorem dX7_study_0 : decode cX7_study 0 = .ok (.iconst 0, 1) := by decide +kernel
theorem dX7_study_1 : decode cX7_study 1 = .ok (.istore_n 3, 1) := by decide +kernel
theorem dX7_study_2 : decode cX7_study 2 = .ok (.iload_n 3, 1) := by decide +kernel
theorem dX7_study_3 : decode cX7_study 3 = .ok (.bipush 10, 2) := by decide +kernel
theorem dX7_study_5 : decode cX7_study 5 = .ok (.if_icmp .ge 23, 3) := by decide +kernel
theorem dX7_study_8 : decode cX7_study 8 = .ok (.aload_n 0, 1) := by decide +kernel
theorem dX7_study_9 : decode cX7_study 9 = .ok (.getfield 23, 3) := by decide +kernel
theorem dX7_study_12 : decode cX7_study 12 = .ok (.iload_n 3, 1) := by decide +kernel
theorem dX7_study_13 : decode cX7_study 13 = .ok (.lconst 0, 1) := by decide +kernel
theorem dX7_study_14 : decode cX7_study 14 = .ok (.lastore, 1) := by decide +kernel
theorem dX7_study_15 : decode cX7_study 15 = .ok (.aload_n 0, 1) := by decide +kernel
theorem dX7_study_16 : decode cX7_study 16 = .ok (.getfield 27, 3) := by decide +kernel
theorem dX7_study_19 : decode cX7_study 19 = .ok (.iload_n 3, 1) := by decide +kernel
theorem dX7_study_20 : decode cX7_study 20 = .ok (.lconst 0, 1) := by decide +kernel
theorem dX7_study_21 : decode cX7_study 21 = .ok (.lastore, 1) := by decide +kernel
theorem dX7_study_22 : decode cX7_study 22 = .ok (.iinc 3 1, 3) := by decide +kernel
theorem dX7_study_25 : decode cX7_study 25 = .ok (.goto (-23), 3) := by decide +kernel
theorem dX7_study_28 : decode cX7_study 28 = .ok (.aload_n 0, 1) := by decide +kernel
theorem dX7_study_29 : decode cX7_study 29 = .ok (.iconst 0, 1) := by decide +kernel
theorem dX7_study_30 : decode cX7_study 30 = .ok (.putfield 30, 3) := by decide +kernel
theorem dX7_study_33 : decode cX7_study 33 = .ok (.iconst 0, 1) := by decide +kernel
theorem dX7_study_34 : decode cX7_study 34 = .ok (.istore_n 3, 1) := by decide +kernel
theorem dX7_study_35 : decode cX7_study 35 = .ok (.iload_n 3, 1) := by decide +kernel
theorem dX7_study_36 : decode cX7_study 36 = .ok (.aload_n 0, 1) := by decide +kernel
theorem dX7_study_37 : decode cX7_study 37 = .ok (.getfield 19, 3) := by decide +kernel
theorem dX7_study_40 : decode cX7_study 40 = .ok (.getfield 34, 3) := by decide +kernel
theorem dX7_study_43 : decode cX7_study 43 = .ok (.if_icmp .ge 47, 3) := by decide +kernel
theorem dX7_study_46 : decode cX7_study 46 = .ok (.aload_n 0, 1) := by decide +kernel
theorem dX7_study_47 : decode cX7_study 47 = .ok (.getfield 19, 3) := by decide +kernel
theorem dX7_study_50 : decode cX7_study 50 = .ok (.getfield 39, 3) := by decide +kernel
theorem dX7_study_53 : decode cX7_study 53 = .ok (.iload_n 3, 1) := by decide +kernel
theorem dX7_study_54 : decode cX7_study 54 = .ok (.baload, 1) := by decide +kernel
theorem dX7_study_55 : decode cX7_study 55 = .ok (.ifCond .ne 29, 3) := by decide +kernel
theorem dX7_study_58 : decode cX7_study 58 = .ok (.aload_n 0, 1) := by decide +kernel
theorem dX7_study_59 : decode cX7_study 59 = .ok (.getfield 15, 3) := by decide +kernel
theorem dX7_study_62 : decode cX7_study 62 = .ok (.aload_n 0, 1) := by decide +kernel
theorem dX7_study_63 : decode cX7_study 63 = .ok (.getfield 19, 3) := by decide +kernel
theorem dX7_study_66 : decode cX7_study 66 = .ok (.getfield 43, 3) := by decide +kernel
theorem dX7_study_69 : decode cX7_study 69 = .ok (.iload_n 3, 1) := by decide +kernel
theorem dX7_study_70 : decode cX7_study 70 = .ok (.iaload, 1) := by decide +kernel
theorem dX7_study_71 : decode cX7_study 71 = .ok (.iload_n 1, 1) := by decide +kernel
theorem dX7_study_72 : decode cX7_study 72 = .ok (.invokevirtual 47, 3) := by decide +kernel
theorem dX7_study_75 : decode cX7_study 75 = .ok (.ifCond .eq 9, 3) := by decide +kernel
theorem dX7_study_78 : decode cX7_study 78 = .ok (.aload_n 0, 1) := by decide +kernel
theorem dX7_study_79 : decode cX7_study 79 = .ok (.iload_n 3, 1) := by decide +kernel
theorem dX7_study_80 : decode cX7_study 80 = .ok (.iload_n 2, 1) := by decide +kernel
theorem dX7_study_81 : decode cX7_study 81 = .ok (.invokevirtual 53, 3) := by decide +kernel
theorem dX7_study_84 : decode cX7_study 84 = .ok (.iinc 3 1, 3) := by decide +kernel
theorem dX7_study_87 : decode cX7_study 87 = .ok (.goto (-52), 3) := by decide +kernel
theorem dX7_study_90 : decode cX7_study 90 = .ok (.return_, 1) := by decide +kernel
set_option maxRecDepth 20000 in
theorem ggX7_addPaper_X6_yearsMaybe : GoodIn wsX7_addPaper wsX6_yearsMaybe := goodIn_r _ [15, 16, 17, 18, 19, 20, 21, 22, 14, 23, 24, 25, 26, 27, 53, 54, 55, 56, 57, 58] (by decide +kernel) (by decide +kernel)
set_option maxRecDepth 20000 in
theorem gX7_addPaper_X6_yearsMaybe : GoodIn wsX7_addPaper (wsV RX7 69 RX6 yX6_yearsMaybe wsX6_yearsMaybe) := goodIn_app (goodIn_of _ (by decide +kernel)) ggX7_addPaper_X6_yearsMaybe
set_option maxRecDepth 20000 in
theorem ggX7_addPaper_X6_yearsSurely : GoodIn wsX7_addPaper wsX6_yearsSurely := goodIn_r _ [31, 16, 17, 19, 18, 32, 33, 20, 21, 22, 14, 23, 24, 25, 26, 27, 34, 12, 13, 15, 53, 54, 55, 56, 57, 58] (by decide +kernel) (by decide +kernel)
set_option maxRecDepth 20000 in
theorem gX7_addPaper_X6_yearsSurely : GoodIn wsX7_addPaper (wsV RX7 75 RX6 yX6_yearsSurely wsX6_yearsSurely) := goodIn_app (goodIn_of _ (by decide +kernel)) ggX7_addPaper_X6_yearsSurely
set_option maxRecDepth 20000 in
theorem ggX7_addPaper_X7_addYears : GoodIn wsX7_addPaper wsX7_addYears := goodIn_r _ [38] (by decide +kernel) (by decide +kernel)
set_option maxRecDepth 20000 in
theorem gX7_addPaper_X7_addYears : GoodIn wsX7_addPaper (va_wsS RX7 78 yX7_addYears wsX7_addYears) := goodIn_app (goodIn_of _ (by decide +kernel)) ggX7_addPaper_X7_addYears
theorem dX7_addPaper_0 : decode cX7_addPaper 0 = .ok (.aload_n 0, 1) := by decide +kernel
theorem dX7_addPaper_1 : decode cX7_addPaper 1 = .ok (.getfield 19, 3) := by decide +kernel
theorem dX7_addPaper_4 : decode cX7_addPaper 4 = .ok (.getfield 57, 3) := by decide +kernel
theorem dX7_addPaper_7 : decode cX7_addPaper 7 = .ok (.iload_n 1, 1) := by decide +kernel
theorem dX7_addPaper_8 : decode cX7_addPaper 8 = .ok (.iaload, 1) := by decide +kernel
theorem dX7_addPaper_9 : decode cX7_addPaper 9 = .ok (.istore_n 3, 1) := by decide +kernel
theorem dX7_addPaper_10 : decode cX7_addPaper 10 = .ok (.aload_n 0, 1) := by decide +kernel
theorem dX7_addPaper_11 : decode cX7_addPaper 11 = .ok (.getfield 19, 3) := by decide +kernel
theorem dX7_addPaper_14 : decode cX7_addPaper 14 = .ok (.getfield 60, 3) := by decide +kernel
theorem dX7_addPaper_17 : decode cX7_addPaper 17 = .ok (.iload_n 1, 1) := by decide +kernel
theorem dX7_addPaper_18 : decode cX7_addPaper 18 = .ok (.iaload, 1) := by decide +kernel
theorem dX7_addPaper_19 : decode cX7_addPaper 19 = .ok (.istore 4, 2) := by decide +kernel
theorem dX7_addPaper_21 : decode cX7_addPaper 21 = .ok (.aload_n 0, 1) := by decide +kernel
theorem dX7_addPaper_22 : decode cX7_addPaper 22 = .ok (.getfield 9, 3) := by decide +kernel
theorem dX7_addPaper_25 : decode cX7_addPaper 25 = .ok (.iload_n 2, 1) := by decide +kernel
theorem dX7_addPaper_26 : decode cX7_addPaper 26 = .ok (.aload_n 0, 1) := by decide +kernel
theorem dX7_addPaper_27 : decode cX7_addPaper 27 = .ok (.getfield 19, 3) := by decide +kernel
theorem dX7_addPaper_30 : decode cX7_addPaper 30 = .ok (.getfield 63, 3) := by decide +kernel
theorem dX7_addPaper_33 : decode cX7_addPaper 33 = .ok (.iload_n 1, 1) := by decide +kernel
theorem dX7_addPaper_34 : decode cX7_addPaper 34 = .ok (.iaload, 1) := by decide +kernel
theorem dX7_addPaper_35 : decode cX7_addPaper 35 = .ok (.aload_n 0, 1) := by decide +kernel
theorem dX7_addPaper_36 : decode cX7_addPaper 36 = .ok (.getfield 19, 3) := by decide +kernel
theorem dX7_addPaper_39 : decode cX7_addPaper 39 = .ok (.getfield 66, 3) := by decide +kernel
theorem dX7_addPaper_42 : decode cX7_addPaper 42 = .ok (.iload_n 1, 1) := by decide +kernel
theorem dX7_addPaper_43 : decode cX7_addPaper 43 = .ok (.iaload, 1) := by decide +kernel
theorem dX7_addPaper_44 : decode cX7_addPaper 44 = .ok (.iload_n 3, 1) := by decide +kernel
theorem dX7_addPaper_45 : decode cX7_addPaper 45 = .ok (.iload 4, 2) := by decide +kernel
theorem dX7_addPaper_47 : decode cX7_addPaper 47 = .ok (.invokevirtual 69, 3) := by decide +kernel
theorem dX7_addPaper_50 : decode cX7_addPaper 50 = .ok (.lstore 5, 2) := by decide +kernel
theorem dX7_addPaper_52 : decode cX7_addPaper 52 = .ok (.aload_n 0, 1) := by decide +kernel
theorem dX7_addPaper_53 : decode cX7_addPaper 53 = .ok (.getfield 9, 3) := by decide +kernel
theorem dX7_addPaper_56 : decode cX7_addPaper 56 = .ok (.iload_n 2, 1) := by decide +kernel
theorem dX7_addPaper_57 : decode cX7_addPaper 57 = .ok (.aload_n 0, 1) := by decide +kernel
theorem dX7_addPaper_58 : decode cX7_addPaper 58 = .ok (.getfield 19, 3) := by decide +kernel
theorem dX7_addPaper_61 : decode cX7_addPaper 61 = .ok (.getfield 63, 3) := by decide +kernel
theorem dX7_addPaper_64 : decode cX7_addPaper 64 = .ok (.iload_n 1, 1) := by decide +kernel
theorem dX7_addPaper_65 : decode cX7_addPaper 65 = .ok (.iaload, 1) := by decide +kernel
theorem dX7_addPaper_66 : decode cX7_addPaper 66 = .ok (.aload_n 0, 1) := by decide +kernel
theorem dX7_addPaper_67 : decode cX7_addPaper 67 = .ok (.getfield 19, 3) := by decide +kernel
theorem dX7_addPaper_70 : decode cX7_addPaper 70 = .ok (.getfield 66, 3) := by decide +kernel
theorem dX7_addPaper_73 : decode cX7_addPaper 73 = .ok (.iload_n 1, 1) := by decide +kernel
theorem dX7_addPaper_74 : decode cX7_addPaper 74 = .ok (.iaload, 1) := by decide +kernel
theorem dX7_addPaper_75 : decode cX7_addPaper 75 = .ok (.iload_n 3, 1) := by decide +kernel
theorem dX7_addPaper_76 : decode cX7_addPaper 76 = .ok (.iload 4, 2) := by decide +kernel
theorem dX7_addPaper_78 : decode cX7_addPaper 78 = .ok (.invokevirtual 75, 3) := by decide +kernel
theorem dX7_addPaper_81 : decode cX7_addPaper 81 = .ok (.lstore 7, 2) := by decide +kernel
theorem dX7_addPaper_83 : decode cX7_addPaper 83 = .ok (.aload_n 0, 1) := by decide +kernel
theorem dX7_addPaper_84 : decode cX7_addPaper 84 = .ok (.getfield 27, 3) := by decide +kernel
theorem dX7_addPaper_87 : decode cX7_addPaper 87 = .ok (.lload 5, 2) := by decide +kernel
theorem dX7_addPaper_89 : decode cX7_addPaper 89 = .ok (.iload_n 3, 1) := by decide +kernel
theorem dX7_addPaper_90 : decode cX7_addPaper 90 = .ok (.invokestatic 78, 3) := by decide +kernel
theorem dX7_addPaper_93 : decode cX7_addPaper 93 = .ok (.aload_n 0, 1) := by decide +kernel
theorem dX7_addPaper_94 : decode cX7_addPaper 94 = .ok (.getfield 23, 3) := by decide +kernel
theorem dX7_addPaper_97 : decode cX7_addPaper 97 = .ok (.lload 7, 2) := by decide +kernel
theorem dX7_addPaper_99 : decode cX7_addPaper 99 = .ok (.iload_n 3, 1) := by decide +kernel
theorem dX7_addPaper_100 : decode cX7_addPaper 100 = .ok (.invokestatic 78, 3) := by decide +kernel
theorem dX7_addPaper_103 : decode cX7_addPaper 103 = .ok (.lload 7, 2) := by decide +kernel
theorem dX7_addPaper_105 : decode cX7_addPaper 105 = .ok (.lconst 0, 1) := by decide +kernel
theorem dX7_addPaper_106 : decode cX7_addPaper 106 = .ok (.lcmp, 1) := by decide +kernel
theorem dX7_addPaper_107 : decode cX7_addPaper 107 = .ok (.ifCond .eq 23, 3) := by decide +kernel
theorem dX7_addPaper_110 : decode cX7_addPaper 110 = .ok (.aload_n 0, 1) := by decide +kernel
theorem dX7_addPaper_111 : decode cX7_addPaper 111 = .ok (.dup, 1) := by decide +kernel
theorem dX7_addPaper_112 : decode cX7_addPaper 112 = .ok (.getfield 30, 3) := by decide +kernel
theorem dX7_addPaper_115 : decode cX7_addPaper 115 = .ok (.iconst 1, 1) := by decide +kernel
theorem dX7_addPaper_116 : decode cX7_addPaper 116 = .ok (.aload_n 0, 1) := by decide +kernel
theorem dX7_addPaper_117 : decode cX7_addPaper 117 = .ok (.getfield 19, 3) := by decide +kernel
theorem dX7_addPaper_120 : decode cX7_addPaper 120 = .ok (.getfield 82, 3) := by decide +kernel
theorem dX7_addPaper_123 : decode cX7_addPaper 123 = .ok (.iload_n 1, 1) := by decide +kernel
theorem dX7_addPaper_124 : decode cX7_addPaper 124 = .ok (.iaload, 1) := by decide +kernel
theorem dX7_addPaper_125 : decode cX7_addPaper 125 = .ok (.ishl, 1) := by decide +kernel
theorem dX7_addPaper_126 : decode cX7_addPaper 126 = .ok (.ior, 1) := by decide +kernel
theorem dX7_addPaper_127 : decode cX7_addPaper 127 = .ok (.putfield 30, 3) := by decide +kernel
theorem dX7_addPaper_130 : decode cX7_addPaper 130 = .ok (.return_, 1) := by decide +kernel
theorem dX7_addYears_0 : decode cX7_addYears 0 = .ok (.iload_n 3, 1) := by decide +kernel
theorem dX7_addYears_1 : decode cX7_addYears 1 = .ok (.sipush 1500, 3) := by decide +kernel
theorem dX7_addYears_4 : decode cX7_addYears 4 = .ok (.isub, 1) := by decide +kernel
theorem dX7_addYears_5 : decode cX7_addYears 5 = .ok (.bipush 6, 2) := by decide +kernel
theorem dX7_addYears_7 : decode cX7_addYears 7 = .ok (.ishr, 1) := by decide +kernel
theorem dX7_addYears_8 : decode cX7_addYears 8 = .ok (.istore 4, 2) := by decide +kernel
theorem dX7_addYears_10 : decode cX7_addYears 10 = .ok (.iload_n 3, 1) := by decide +kernel
theorem dX7_addYears_11 : decode cX7_addYears 11 = .ok (.sipush 1500, 3) := by decide +kernel
theorem dX7_addYears_14 : decode cX7_addYears 14 = .ok (.isub, 1) := by decide +kernel
theorem dX7_addYears_15 : decode cX7_addYears 15 = .ok (.bipush 63, 2) := by decide +kernel
theorem dX7_addYears_17 : decode cX7_addYears 17 = .ok (.iand, 1) := by decide +kernel
theorem dX7_addYears_18 : decode cX7_addYears 18 = .ok (.istore 5, 2) := by decide +kernel
theorem dX7_addYears_20 : decode cX7_addYears 20 = .ok (.aload_n 0, 1) := by decide +kernel
theorem dX7_addYears_21 : decode cX7_addYears 21 = .ok (.iload 4, 2) := by decide +kernel
theorem dX7_addYears_23 : decode cX7_addYears 23 = .ok (.dup2, 1) := by decide +kernel
theorem dX7_addYears_24 : decode cX7_addYears 24 = .ok (.laload, 1) := by decide +kernel
theorem dX7_addYears_25 : decode cX7_addYears 25 = .ok (.lload_n 1, 1) := by decide +kernel
theorem dX7_addYears_26 : decode cX7_addYears 26 = .ok (.iload 5, 2) := by decide +kernel
theorem dX7_addYears_28 : decode cX7_addYears 28 = .ok (.lshl, 1) := by decide +kernel
theorem dX7_addYears_29 : decode cX7_addYears 29 = .ok (.lor, 1) := by decide +kernel
theorem dX7_addYears_30 : decode cX7_addYears 30 = .ok (.lastore, 1) := by decide +kernel
theorem dX7_addYears_31 : decode cX7_addYears 31 = .ok (.iload 5, 2) := by decide +kernel
theorem dX7_addYears_33 : decode cX7_addYears 33 = .ok (.ifCond .eq 28, 3) := by decide +kernel
theorem dX7_addYears_36 : decode cX7_addYears 36 = .ok (.iload 4, 2) := by decide +kernel
theorem dX7_addYears_38 : decode cX7_addYears 38 = .ok (.iconst 1, 1) := by decide +kernel
theorem dX7_addYears_39 : decode cX7_addYears 39 = .ok (.iadd, 1) := by decide +kernel
theorem dX7_addYears_40 : decode cX7_addYears 40 = .ok (.bipush 10, 2) := by decide +kernel
theorem dX7_addYears_42 : decode cX7_addYears 42 = .ok (.if_icmp .ge 19, 3) := by decide +kernel
theorem dX7_addYears_45 : decode cX7_addYears 45 = .ok (.aload_n 0, 1) := by decide +kernel
theorem dX7_addYears_46 : decode cX7_addYears 46 = .ok (.iload 4, 2) := by decide +kernel
theorem dX7_addYears_48 : decode cX7_addYears 48 = .ok (.iconst 1, 1) := by decide +kernel
theorem dX7_addYears_49 : decode cX7_addYears 49 = .ok (.iadd, 1) := by decide +kernel
theorem dX7_addYears_50 : decode cX7_addYears 50 = .ok (.dup2, 1) := by decide +kernel
theorem dX7_addYears_51 : decode cX7_addYears 51 = .ok (.laload, 1) := by decide +kernel
theorem dX7_addYears_52 : decode cX7_addYears 52 = .ok (.lload_n 1, 1) := by decide +kernel
theorem dX7_addYears_53 : decode cX7_addYears 53 = .ok (.bipush 64, 2) := by decide +kernel
theorem dX7_addYears_55 : decode cX7_addYears 55 = .ok (.iload 5, 2) := by decide +kernel
theorem dX7_addYears_57 : decode cX7_addYears 57 = .ok (.isub, 1) := by decide +kernel
theorem dX7_addYears_58 : decode cX7_addYears 58 = .ok (.lushr, 1) := by decide +kernel
theorem dX7_addYears_59 : decode cX7_addYears 59 = .ok (.lor, 1) := by decide +kernel
theorem dX7_addYears_60 : decode cX7_addYears 60 = .ok (.lastore, 1) := by decide +kernel
theorem dX7_addYears_61 : decode cX7_addYears 61 = .ok (.return_, 1) := by decide +kernel
set_option maxRecDepth 20000 in
theorem ggX7_isSure_X10_isYear : GoodIn wsX7_isSure wsX10_isYear := goodIn_r _ [4] (by decide +kernel) (by decide +kernel)
set_option maxRecDepth 20000 in
theorem gX7_isSure_X10_isYear_n85 : GoodIn wsX7_isSure (wsX10_isYear) := ggX7_isSure_X10_isYear
theorem dX7_isSure_0 : decode cX7_isSure 0 = .ok (.iload_n 1, 1) := by decide +kernel
theorem dX7_isSure_1 : decode cX7_isSure 1 = .ok (.invokestatic 85, 3) := by decide +kernel
theorem dX7_isSure_4 : decode cX7_isSure 4 = .ok (.ifCond .ne 5, 3) := by decide +kernel
theorem dX7_isSure_7 : decode cX7_isSure 7 = .ok (.iconst 0, 1) := by decide +kernel
theorem dX7_isSure_8 : decode cX7_isSure 8 = .ok (.ireturn, 1) := by decide +kernel
theorem dX7_isSure_9 : decode cX7_isSure 9 = .ok (.iload_n 1, 1) := by decide +kernel
theorem dX7_isSure_10 : decode cX7_isSure 10 = .ok (.sipush 1500, 3) := by decide +kernel
theorem dX7_isSure_13 : decode cX7_isSure 13 = .ok (.isub, 1) := by decide +kernel
theorem dX7_isSure_14 : decode cX7_isSure 14 = .ok (.istore_n 2, 1) := by decide +kernel
theorem dX7_isSure_15 : decode cX7_isSure 15 = .ok (.aload_n 0, 1) := by decide +kernel
theorem dX7_isSure_16 : decode cX7_isSure 16 = .ok (.getfield 23, 3) := by decide +kernel
theorem dX7_isSure_19 : decode cX7_isSure 19 = .ok (.iload_n 2, 1) := by decide +kernel
theorem dX7_isSure_20 : decode cX7_isSure 20 = .ok (.bipush 6, 2) := by decide +kernel
theorem dX7_isSure_22 : decode cX7_isSure 22 = .ok (.ishr, 1) := by decide +kernel
theorem dX7_isSure_23 : decode cX7_isSure 23 = .ok (.laload, 1) := by decide +kernel
theorem dX7_isSure_24 : decode cX7_isSure 24 = .ok (.iload_n 2, 1) := by decide +kernel
theorem dX7_isSure_25 : decode cX7_isSure 25 = .ok (.bipush 63, 2) := by decide +kernel
theorem dX7_isSure_27 : decode cX7_isSure 27 = .ok (.iand, 1) := by decide +kernel
theorem dX7_isSure_28 : decode cX7_isSure 28 = .ok (.lushr, 1) := by decide +kernel
theorem dX7_isSure_29 : decode cX7_isSure 29 = .ok (.lconst 1, 1) := by decide +kernel
theorem dX7_isSure_30 : decode cX7_isSure 30 = .ok (.land, 1) := by decide +kernel
theorem dX7_isSure_31 : decode cX7_isSure 31 = .ok (.lconst 0, 1) := by decide +kernel
theorem dX7_isSure_32 : decode cX7_isSure 32 = .ok (.lcmp, 1) := by decide +kernel
theorem dX7_isSure_33 : decode cX7_isSure 33 = .ok (.ifCond .eq 7, 3) := by decide +kernel
theorem dX7_isSure_36 : decode cX7_isSure 36 = .ok (.iconst 1, 1) := by decide +kernel
theorem dX7_isSure_37 : decode cX7_isSure 37 = .ok (.goto 4, 3) := by decide +kernel
theorem dX7_isSure_40 : decode cX7_isSure 40 = .ok (.iconst 0, 1) := by decide +kernel
theorem dX7_isSure_41 : decode cX7_isSure 41 = .ok (.ireturn, 1) := by decide +kernel
set_option maxRecDepth 20000 in
theorem ggX7_sureYears_X7_bitsOf : GoodIn wsX7_sureYears wsX7_bitsOf := goodIn_r _ [5, 6, 7, 8, 9, 10, 11, 12] (by decide +kernel) (by decide +kernel)
set_option maxRecDepth 20000 in
theorem gX7_sureYears_X7_bitsOf : GoodIn wsX7_sureYears (va_wsS RX7 89 yX7_bitsOf wsX7_bitsOf) := goodIn_app (goodIn_of _ (by decide +kernel)) ggX7_sureYears_X7_bitsOf
theorem dX7_sureYears_0 : decode cX7_sureYears 0 = .ok (.aload_n 0, 1) := by decide +kernel
theorem dX7_sureYears_1 : decode cX7_sureYears 1 = .ok (.getfield 23, 3) := by decide +kernel
theorem dX7_sureYears_4 : decode cX7_sureYears 4 = .ok (.invokestatic 89, 3) := by decide +kernel
theorem dX7_sureYears_7 : decode cX7_sureYears 7 = .ok (.ireturn, 1) := by decide +kernel
set_option maxRecDepth 20000 in
theorem ggX7_maybeYears_X7_bitsOf : GoodIn wsX7_maybeYears wsX7_bitsOf := goodIn_r _ [5, 6, 7, 8, 9, 10, 11, 12] (by decide +kernel) (by decide +kernel)
set_option maxRecDepth 20000 in
theorem gX7_maybeYears_X7_bitsOf : GoodIn wsX7_maybeYears (va_wsS RX7 89 yX7_bitsOf wsX7_bitsOf) := goodIn_app (goodIn_of _ (by decide +kernel)) ggX7_maybeYears_X7_bitsOf
theorem dX7_maybeYears_0 : decode cX7_maybeYears 0 = .ok (.aload_n 0, 1) := by decide +kernel
theorem dX7_maybeYears_1 : decode cX7_maybeYears 1 = .ok (.getfield 27, 3) := by decide +kernel
theorem dX7_maybeYears_4 : decode cX7_maybeYears 4 = .ok (.invokestatic 89, 3) := by decide +kernel
theorem dX7_maybeYears_7 : decode cX7_maybeYears 7 = .ok (.ireturn, 1) := by decide +kernel
set_option maxRecDepth 20000 in
theorem ggX7_bitsOf_J13_bitCount_95d88 : GoodIn wsX7_bitsOf wsJ13_bitCount_95d88 := goodIn_r _ [4, 5, 6, 7] (by decide +kernel) (by decide +kernel)
set_option maxRecDepth 20000 in
theorem gX7_bitsOf_J13_bitCount_95d88 : GoodIn wsX7_bitsOf (va_wsS RX7 93 yJ13_bitCount_95d88 wsJ13_bitCount_95d88) := goodIn_app (goodIn_of _ (by decide +kernel)) ggX7_bitsOf_J13_bitCount_95d88
theorem dX7_bitsOf_0 : decode cX7_bitsOf 0 = .ok (.iconst 0, 1) := by decide +kernel
theorem dX7_bitsOf_1 : decode cX7_bitsOf 1 = .ok (.istore_n 1, 1) := by decide +kernel
theorem dX7_bitsOf_2 : decode cX7_bitsOf 2 = .ok (.iconst 0, 1) := by decide +kernel
theorem dX7_bitsOf_3 : decode cX7_bitsOf 3 = .ok (.istore_n 2, 1) := by decide +kernel
theorem dX7_bitsOf_4 : decode cX7_bitsOf 4 = .ok (.iload_n 2, 1) := by decide +kernel
theorem dX7_bitsOf_5 : decode cX7_bitsOf 5 = .ok (.bipush 10, 2) := by decide +kernel
theorem dX7_bitsOf_7 : decode cX7_bitsOf 7 = .ok (.if_icmp .ge 18, 3) := by decide +kernel
theorem dX7_bitsOf_10 : decode cX7_bitsOf 10 = .ok (.iload_n 1, 1) := by decide +kernel
theorem dX7_bitsOf_11 : decode cX7_bitsOf 11 = .ok (.aload_n 0, 1) := by decide +kernel
theorem dX7_bitsOf_12 : decode cX7_bitsOf 12 = .ok (.iload_n 2, 1) := by decide +kernel
theorem dX7_bitsOf_13 : decode cX7_bitsOf 13 = .ok (.laload, 1) := by decide +kernel
theorem dX7_bitsOf_14 : decode cX7_bitsOf 14 = .ok (.invokestatic 93, 3) := by decide +kernel
theorem dX7_bitsOf_17 : decode cX7_bitsOf 17 = .ok (.iadd, 1) := by decide +kernel
theorem dX7_bitsOf_18 : decode cX7_bitsOf 18 = .ok (.istore_n 1, 1) := by decide +kernel
theorem dX7_bitsOf_19 : decode cX7_bitsOf 19 = .ok (.iinc 2 1, 3) := by decide +kernel
theorem dX7_bitsOf_22 : decode cX7_bitsOf 22 = .ok (.goto (-18), 3) := by decide +kernel
theorem dX7_bitsOf_25 : decode cX7_bitsOf 25 = .ok (.iload_n 1, 1) := by decide +kernel
theorem dX7_bitsOf_26 : decode cX7_bitsOf 26 = .ok (.ireturn, 1) := by decide +kernel
set_option maxRecDepth 20000 in
theorem ggX7_firstSureYear_J13_numberOfTrailingZeros_95d88 : GoodIn wsX7_firstSureYear wsJ13_numberOfTrailingZeros_95d88 := goodIn_r _ [5, 6, 7, 8, 9, 10] (by decide +kernel) (by decide +kernel)
set_option maxRecDepth 20000 in
theorem gX7_firstSureYear_J13_numberOfTrailingZeros_95d88 : GoodIn wsX7_firstSureYear (va_wsS RX7 99 yJ13_numberOfTrailingZeros_95d88 wsJ13_numberOfTrailingZeros_95d88) := goodIn_app (goodIn_of _ (by decide +kernel)) ggX7_firstSureYear_J13_numberOfTrailingZeros_95d88
theorem dX7_firstSureYear_0 : decode cX7_firstSureYear 0 = .ok (.iconst 0, 1) := by decide +kernel
theorem dX7_firstSureYear_1 : decode cX7_firstSureYear 1 = .ok (.istore_n 1, 1) := by decide +kernel
theorem dX7_firstSureYear_2 : decode cX7_firstSureYear 2 = .ok (.iload_n 1, 1) := by decide +kernel
theorem dX7_firstSureYear_3 : decode cX7_firstSureYear 3 = .ok (.bipush 10, 2) := by decide +kernel
theorem dX7_firstSureYear_5 : decode cX7_firstSureYear 5 = .ok (.if_icmp .ge 39, 3) := by decide +kernel
theorem dX7_firstSureYear_8 : decode cX7_firstSureYear 8 = .ok (.aload_n 0, 1) := by decide +kernel
theorem dX7_firstSureYear_9 : decode cX7_firstSureYear 9 = .ok (.getfield 23, 3) := by decide +kernel
theorem dX7_firstSureYear_12 : decode cX7_firstSureYear 12 = .ok (.iload_n 1, 1) := by decide +kernel
theorem dX7_firstSureYear_13 : decode cX7_firstSureYear 13 = .ok (.laload, 1) := by decide +kernel
theorem dX7_firstSureYear_14 : decode cX7_firstSureYear 14 = .ok (.lconst 0, 1) := by decide +kernel
theorem dX7_firstSureYear_15 : decode cX7_firstSureYear 15 = .ok (.lcmp, 1) := by decide +kernel
theorem dX7_firstSureYear_16 : decode cX7_firstSureYear 16 = .ok (.ifCond .eq 22, 3) := by decide +kernel
theorem dX7_firstSureYear_19 : decode cX7_firstSureYear 19 = .ok (.sipush 1500, 3) := by decide +kernel
theorem dX7_firstSureYear_22 : decode cX7_firstSureYear 22 = .ok (.iload_n 1, 1) := by decide +kernel
theorem dX7_firstSureYear_23 : decode cX7_firstSureYear 23 = .ok (.bipush 64, 2) := by decide +kernel
theorem dX7_firstSureYear_25 : decode cX7_firstSureYear 25 = .ok (.imul, 1) := by decide +kernel
theorem dX7_firstSureYear_26 : decode cX7_firstSureYear 26 = .ok (.iadd, 1) := by decide +kernel
theorem dX7_firstSureYear_27 : decode cX7_firstSureYear 27 = .ok (.aload_n 0, 1) := by decide +kernel
theorem dX7_firstSureYear_28 : decode cX7_firstSureYear 28 = .ok (.getfield 23, 3) := by decide +kernel
theorem dX7_firstSureYear_31 : decode cX7_firstSureYear 31 = .ok (.iload_n 1, 1) := by decide +kernel
theorem dX7_firstSureYear_32 : decode cX7_firstSureYear 32 = .ok (.laload, 1) := by decide +kernel
theorem dX7_firstSureYear_33 : decode cX7_firstSureYear 33 = .ok (.invokestatic 99, 3) := by decide +kernel
theorem dX7_firstSureYear_36 : decode cX7_firstSureYear 36 = .ok (.iadd, 1) := by decide +kernel
theorem dX7_firstSureYear_37 : decode cX7_firstSureYear 37 = .ok (.ireturn, 1) := by decide +kernel
theorem dX7_firstSureYear_38 : decode cX7_firstSureYear 38 = .ok (.iinc 1 1, 3) := by decide +kernel
theorem dX7_firstSureYear_41 : decode cX7_firstSureYear 41 = .ok (.goto (-39), 3) := by decide +kernel
theorem dX7_firstSureYear_44 : decode cX7_firstSureYear 44 = .ok (.iconst (-1), 1) := by decide +kernel
theorem dX7_firstSureYear_45 : decode cX7_firstSureYear 45 = .ok (.ireturn, 1) := by decide +kernel
set_option maxRecDepth 20000 in
theorem ggX7_lastSureYear_J13_numberOfLeadingZeros_95d88 : GoodIn wsX7_lastSureYear wsJ13_numberOfLeadingZeros_95d88 := goodIn_r _ [5, 6, 7, 8, 9, 10] (by decide +kernel) (by decide +kernel)
set_option maxRecDepth 20000 in
theorem gX7_lastSureYear_J13_numberOfLeadingZeros_95d88 : GoodIn wsX7_lastSureYear (va_wsS RX7 102 yJ13_numberOfLeadingZeros_95d88 wsJ13_numberOfLeadingZeros_95d88) := goodIn_app (goodIn_of _ (by decide +kernel)) ggX7_lastSureYear_J13_numberOfLeadingZeros_95d88
theorem dX7_lastSureYear_0 : decode cX7_lastSureYear 0 = .ok (.bipush 9, 2) := by decide +kernel
theorem dX7_lastSureYear_2 : decode cX7_lastSureYear 2 = .ok (.istore_n 1, 1) := by decide +kernel
theorem dX7_lastSureYear_3 : decode cX7_lastSureYear 3 = .ok (.iload_n 1, 1) := by decide +kernel
theorem dX7_lastSureYear_4 : decode cX7_lastSureYear 4 = .ok (.ifCond .lt 42, 3) := by decide +kernel
theorem dX7_lastSureYear_7 : decode cX7_lastSureYear 7 = .ok (.aload_n 0, 1) := by decide +kernel
theorem dX7_lastSureYear_8 : decode cX7_lastSureYear 8 = .ok (.getfield 23, 3) := by decide +kernel
theorem dX7_lastSureYear_11 : decode cX7_lastSureYear 11 = .ok (.iload_n 1, 1) := by decide +kernel
theorem dX7_lastSureYear_12 : decode cX7_lastSureYear 12 = .ok (.laload, 1) := by decide +kernel
theorem dX7_lastSureYear_13 : decode cX7_lastSureYear 13 = .ok (.lconst 0, 1) := by decide +kernel
theorem dX7_lastSureYear_14 : decode cX7_lastSureYear 14 = .ok (.lcmp, 1) := by decide +kernel
theorem dX7_lastSureYear_15 : decode cX7_lastSureYear 15 = .ok (.ifCond .eq 25, 3) := by decide +kernel
theorem dX7_lastSureYear_18 : decode cX7_lastSureYear 18 = .ok (.sipush 1500, 3) := by decide +kernel
theorem dX7_lastSureYear_21 : decode cX7_lastSureYear 21 = .ok (.iload_n 1, 1) := by decide +kernel
theorem dX7_lastSureYear_22 : decode cX7_lastSureYear 22 = .ok (.bipush 64, 2) := by decide +kernel
theorem dX7_lastSureYear_24 : decode cX7_lastSureYear 24 = .ok (.imul, 1) := by decide +kernel
theorem dX7_lastSureYear_25 : decode cX7_lastSureYear 25 = .ok (.iadd, 1) := by decide +kernel
theorem dX7_lastSureYear_26 : decode cX7_lastSureYear 26 = .ok (.bipush 63, 2) := by decide +kernel
theorem dX7_lastSureYear_28 : decode cX7_lastSureYear 28 = .ok (.iadd, 1) := by decide +kernel
theorem dX7_lastSureYear_29 : decode cX7_lastSureYear 29 = .ok (.aload_n 0, 1) := by decide +kernel
theorem dX7_lastSureYear_30 : decode cX7_lastSureYear 30 = .ok (.getfield 23, 3) := by decide +kernel
theorem dX7_lastSureYear_33 : decode cX7_lastSureYear 33 = .ok (.iload_n 1, 1) := by decide +kernel
theorem dX7_lastSureYear_34 : decode cX7_lastSureYear 34 = .ok (.laload, 1) := by decide +kernel
theorem dX7_lastSureYear_35 : decode cX7_lastSureYear 35 = .ok (.invokestatic 102, 3) := by decide +kernel
theorem dX7_lastSureYear_38 : decode cX7_lastSureYear 38 = .ok (.isub, 1) := by decide +kernel
theorem dX7_lastSureYear_39 : decode cX7_lastSureYear 39 = .ok (.ireturn, 1) := by decide +kernel
theorem dX7_lastSureYear_40 : decode cX7_lastSureYear 40 = .ok (.iinc 1 (-1), 3) := by decide +kernel
theorem dX7_lastSureYear_43 : decode cX7_lastSureYear 43 = .ok (.goto (-40), 3) := by decide +kernel
theorem dX7_lastSureYear_46 : decode cX7_lastSureYear 46 = .ok (.iconst (-1), 1) := by decide +kernel
theorem dX7_lastSureYear_47 : decode cX7_lastSureYear 47 = .ok (.ireturn, 1) := by decide +kernel
set_option maxRecDepth 20000 in
theorem ggX7_sources_J6_bitCount_0f7a4 : GoodIn wsX7_sources wsJ6_bitCount_0f7a4 := goodIn_r _ [5, 6, 7, 8] (by decide +kernel) (by decide +kernel)
set_option maxRecDepth 20000 in
theorem gX7_sources_J6_bitCount_0f7a4 : GoodIn wsX7_sources (va_wsS RX7 105 yJ6_bitCount_0f7a4 wsJ6_bitCount_0f7a4) := goodIn_app (goodIn_of _ (by decide +kernel)) ggX7_sources_J6_bitCount_0f7a4
theorem dX7_sources_0 : decode cX7_sources 0 = .ok (.aload_n 0, 1) := by decide +kernel
theorem dX7_sources_1 : decode cX7_sources 1 = .ok (.getfield 30, 3) := by decide +kernel
theorem dX7_sources_4 : decode cX7_sources 4 = .ok (.invokestatic 105, 3) := by decide +kernel
theorem dX7_sources_7 : decode cX7_sources 7 = .ok (.ireturn, 1) := by decide +kernel
theorem dX8_init_0 : decode cX8_init 0 = .ok (.aload_n 0, 1) := by decide +kernel
theorem dX8_init_1 : decode cX8_init 1 = .ok (.invokespecial 3, 3) := by decide +kernel
theorem dX8_init_4 : decode cX8_init 4 = .ok (.aload_n 0, 1) := by decide +kernel
theorem dX8_init_5 : decode cX8_init 5 = .ok (.sipush 600, 3) := by decide +kernel
theorem dX8_init_8 : decode cX8_init 8 = .ok (.newarray .int, 2) := by decide +kernel
theorem dX8_init_10 : decode cX8_init 10 = .ok (.putfield 9, 3) := by decide +kernel
theorem dX8_init_13 : decode cX8_init 13 = .ok (.return_, 1) := by decide +kernel
theorem dX8_append_0 : decode cX8_append 0 = .ok (.bipush 24, 2) := by decide +kernel
theorem dX8_append_2 : decode cX8_append 2 = .ok (.istore_n 2, 1) := by decide +kernel
theorem dX8_append_3 : decode cX8_append 3 = .ok (.iload_n 2, 1) := by decide +kernel
theorem dX8_append_4 : decode cX8_append 4 = .ok (.ifCond .lt 45, 3) := by decide +kernel
theorem dX8_append_7 : decode cX8_append 7 = .ok (.aload_n 0, 1) := by decide +kernel
theorem dX8_append_8 : decode cX8_append 8 = .ok (.getfield 15, 3) := by decide +kernel
theorem dX8_append_11 : decode cX8_append 11 = .ok (.sipush 600, 3) := by decide +kernel
theorem dX8_append_14 : decode cX8_append 14 = .ok (.if_icmp .ge 35, 3) := by decide +kernel
theorem dX8_append_17 : decode cX8_append 17 = .ok (.aload_n 0, 1) := by decide +kernel
theorem dX8_append_18 : decode cX8_append 18 = .ok (.getfield 9, 3) := by decide +kernel
theorem dX8_append_21 : decode cX8_append 21 = .ok (.aload_n 0, 1) := by decide +kernel
theorem dX8_append_22 : decode cX8_append 22 = .ok (.getfield 15, 3) := by decide +kernel
theorem dX8_append_25 : decode cX8_append 25 = .ok (.iload_n 1, 1) := by decide +kernel
theorem dX8_append_26 : decode cX8_append 26 = .ok (.iload_n 2, 1) := by decide +kernel
theorem dX8_append_27 : decode cX8_append 27 = .ok (.iushr, 1) := by decide +kernel
theorem dX8_append_28 : decode cX8_append 28 = .ok (.sipush 255, 3) := by decide +kernel
theorem dX8_append_31 : decode cX8_append 31 = .ok (.iand, 1) := by decide +kernel
theorem dX8_append_32 : decode cX8_append 32 = .ok (.iastore, 1) := by decide +kernel
theorem dX8_append_33 : decode cX8_append 33 = .ok (.aload_n 0, 1) := by decide +kernel
theorem dX8_append_34 : decode cX8_append 34 = .ok (.dup, 1) := by decide +kernel
theorem dX8_append_35 : decode cX8_append 35 = .ok (.getfield 15, 3) := by decide +kernel
theorem dX8_append_38 : decode cX8_append 38 = .ok (.iconst 1, 1) := by decide +kernel
theorem dX8_append_39 : decode cX8_append 39 = .ok (.iadd, 1) := by decide +kernel
theorem dX8_append_40 : decode cX8_append 40 = .ok (.putfield 15, 3) := by decide +kernel
theorem dX8_append_43 : decode cX8_append 43 = .ok (.iinc 2 (-8), 3) := by decide +kernel
theorem dX8_append_46 : decode cX8_append 46 = .ok (.goto (-43), 3) := by decide +kernel
theorem dX8_append_49 : decode cX8_append 49 = .ok (.return_, 1) := by decide +kernel
theorem dX9_init_0 : decode cX9_init 0 = .ok (.aload_n 0, 1) := by decide +kernel
theorem dX9_init_1 : decode cX9_init 1 = .ok (.invokespecial 3, 3) := by decide +kernel
theorem dX9_init_4 : decode cX9_init 4 = .ok (.aload_n 0, 1) := by decide +kernel
theorem dX9_init_5 : decode cX9_init 5 = .ok (.bipush 40, 2) := by decide +kernel
theorem dX9_init_7 : decode cX9_init 7 = .ok (.newarray .int, 2) := by decide +kernel
theorem dX9_init_9 : decode cX9_init 9 = .ok (.putfield 9, 3) := by decide +kernel
theorem dX9_init_12 : decode cX9_init 12 = .ok (.return_, 1) := by decide +kernel
set_option maxRecDepth 20000 in
theorem ggX9_split_X10_isBlank : GoodIn wsX9_split wsX10_isBlank := goodIn_r _ [7] (by decide +kernel) (by decide +kernel)
set_option maxRecDepth 20000 in
theorem gX9_split_X10_isBlank_n27 : GoodIn wsX9_split (wsX10_isBlank) := ggX9_split_X10_isBlank
set_option maxRecDepth 20000 in
theorem ggX9_split_X9_widthOf : GoodIn wsX9_split wsX9_widthOf := goodIn_r _ [11, 12, 6, 13, 14, 15] (by decide +kernel) (by decide +kernel)
set_option maxRecDepth 20000 in
theorem gX9_split_X9_widthOf : GoodIn wsX9_split (va_wsS RX9 31 yX9_widthOf wsX9_widthOf) := goodIn_app (goodIn_of _ (by decide +kernel)) ggX9_split_X9_widthOf
theorem dX9_split_0 : decode cX9_split 0 = .ok (.aload_n 0, 1) := by decide +kernel
theorem dX9_split_1 : decode cX9_split 1 = .ok (.iconst 0, 1) := by decide +kernel
theorem dX9_split_2 : decode cX9_split 2 = .ok (.putfield 15, 3) := by decide +kernel
theorem dX9_split_5 : decode cX9_split 5 = .ok (.iconst 0, 1) := by decide +kernel
theorem dX9_split_6 : decode cX9_split 6 = .ok (.istore_n 2, 1) := by decide +kernel
theorem dX9_split_7 : decode cX9_split 7 = .ok (.iconst 0, 1) := by decide +kernel
theorem dX9_split_8 : decode cX9_split 8 = .ok (.istore_n 3, 1) := by decide +kernel
theorem dX9_split_9 : decode cX9_split 9 = .ok (.iload_n 3, 1) := by decide +kernel
theorem dX9_split_10 : decode cX9_split 10 = .ok (.aload_n 1, 1) := by decide +kernel
theorem dX9_split_11 : decode cX9_split 11 = .ok (.getfield 19, 3) := by decide +kernel
theorem dX9_split_14 : decode cX9_split 14 = .ok (.if_icmp .ge 111, 3) := by decide +kernel
theorem dX9_split_17 : decode cX9_split 17 = .ok (.aload_n 1, 1) := by decide +kernel
theorem dX9_split_18 : decode cX9_split 18 = .ok (.getfield 24, 3) := by decide +kernel
theorem dX9_split_21 : decode cX9_split 21 = .ok (.iload_n 3, 1) := by decide +kernel
theorem dX9_split_22 : decode cX9_split 22 = .ok (.iaload, 1) := by decide +kernel
theorem dX9_split_23 : decode cX9_split 23 = .ok (.istore 4, 2) := by decide +kernel
theorem dX9_split_25 : decode cX9_split 25 = .ok (.iload 4, 2) := by decide +kernel
theorem dX9_split_27 : decode cX9_split 27 = .ok (.invokestatic 27, 3) := by decide +kernel
theorem dX9_split_30 : decode cX9_split 30 = .ok (.ifCond .eq 8, 3) := by decide +kernel
theorem dX9_split_33 : decode cX9_split 33 = .ok (.iconst 0, 1) := by decide +kernel
theorem dX9_split_34 : decode cX9_split 34 = .ok (.istore_n 2, 1) := by decide +kernel
theorem dX9_split_35 : decode cX9_split 35 = .ok (.goto 84, 3) := by decide +kernel
theorem dX9_split_38 : decode cX9_split 38 = .ok (.iload_n 2, 1) := by decide +kernel
theorem dX9_split_39 : decode cX9_split 39 = .ok (.ifCond .ne 12, 3) := by decide +kernel
theorem dX9_split_42 : decode cX9_split 42 = .ok (.aload_n 0, 1) := by decide +kernel
theorem dX9_split_43 : decode cX9_split 43 = .ok (.getfield 15, 3) := by decide +kernel
theorem dX9_split_46 : decode cX9_split 46 = .ok (.bipush 40, 2) := by decide +kernel
theorem dX9_split_48 : decode cX9_split 48 = .ok (.if_icmp .ge 23, 3) := by decide +kernel
theorem dX9_split_51 : decode cX9_split 51 = .ok (.iload_n 2, 1) := by decide +kernel
theorem dX9_split_52 : decode cX9_split 52 = .ok (.bipush 24, 2) := by decide +kernel
theorem dX9_split_54 : decode cX9_split 54 = .ok (.if_icmp .ge 17, 3) := by decide +kernel
theorem dX9_split_57 : decode cX9_split 57 = .ok (.iload 4, 2) := by decide +kernel
theorem dX9_split_59 : decode cX9_split 59 = .ok (.bipush 33, 2) := by decide +kernel
theorem dX9_split_61 : decode cX9_split 61 = .ok (.if_icmp .lt 10, 3) := by decide +kernel
theorem dX9_split_64 : decode cX9_split 64 = .ok (.iload 4, 2) := by decide +kernel
theorem dX9_split_66 : decode cX9_split 66 = .ok (.bipush 126, 2) := by decide +kernel
theorem dX9_split_68 : decode cX9_split 68 = .ok (.if_icmp .le 5, 3) := by decide +kernel
theorem dX9_split_71 : decode cX9_split 71 = .ok (.iconst 0, 1) := by decide +kernel
theorem dX9_split_72 : decode cX9_split 72 = .ok (.ireturn, 1) := by decide +kernel
theorem dX9_split_73 : decode cX9_split 73 = .ok (.iload_n 2, 1) := by decide +kernel
theorem dX9_split_74 : decode cX9_split 74 = .ok (.ifCond .ne 23, 3) := by decide +kernel
theorem dX9_split_77 : decode cX9_split 77 = .ok (.aload_n 0, 1) := by decide +kernel
theorem dX9_split_78 : decode cX9_split 78 = .ok (.getfield 9, 3) := by decide +kernel
theorem dX9_split_81 : decode cX9_split 81 = .ok (.aload_n 0, 1) := by decide +kernel
theorem dX9_split_82 : decode cX9_split 82 = .ok (.getfield 15, 3) := by decide +kernel
theorem dX9_split_85 : decode cX9_split 85 = .ok (.iconst 0, 1) := by decide +kernel
theorem dX9_split_86 : decode cX9_split 86 = .ok (.iastore, 1) := by decide +kernel
theorem dX9_split_87 : decode cX9_split 87 = .ok (.aload_n 0, 1) := by decide +kernel
theorem dX9_split_88 : decode cX9_split 88 = .ok (.dup, 1) := by decide +kernel
theorem dX9_split_89 : decode cX9_split 89 = .ok (.getfield 15, 3) := by decide +kernel
theorem dX9_split_92 : decode cX9_split 92 = .ok (.iconst 1, 1) := by decide +kernel
theorem dX9_split_93 : decode cX9_split 93 = .ok (.iadd, 1) := by decide +kernel
theorem dX9_split_94 : decode cX9_split 94 = .ok (.putfield 15, 3) := by decide +kernel
theorem dX9_split_97 : decode cX9_split 97 = .ok (.aload_n 0, 1) := by decide +kernel
theorem dX9_split_98 : decode cX9_split 98 = .ok (.getfield 9, 3) := by decide +kernel
theorem dX9_split_101 : decode cX9_split 101 = .ok (.aload_n 0, 1) := by decide +kernel
theorem dX9_split_102 : decode cX9_split 102 = .ok (.getfield 15, 3) := by decide +kernel
theorem dX9_split_105 : decode cX9_split 105 = .ok (.iconst 1, 1) := by decide +kernel
theorem dX9_split_106 : decode cX9_split 106 = .ok (.isub, 1) := by decide +kernel
theorem dX9_split_107 : decode cX9_split 107 = .ok (.dup2, 1) := by decide +kernel
theorem dX9_split_108 : decode cX9_split 108 = .ok (.iaload, 1) := by decide +kernel
theorem dX9_split_109 : decode cX9_split 109 = .ok (.iload 4, 2) := by decide +kernel
theorem dX9_split_111 : decode cX9_split 111 = .ok (.invokestatic 31, 3) := by decide +kernel
theorem dX9_split_114 : decode cX9_split 114 = .ok (.iadd, 1) := by decide +kernel
theorem dX9_split_115 : decode cX9_split 115 = .ok (.iastore, 1) := by decide +kernel
theorem dX9_split_116 : decode cX9_split 116 = .ok (.iinc 2 1, 3) := by decide +kernel
theorem dX9_split_119 : decode cX9_split 119 = .ok (.iinc 3 1, 3) := by decide +kernel
theorem dX9_split_122 : decode cX9_split 122 = .ok (.goto (-113), 3) := by decide +kernel
theorem dX9_split_125 : decode cX9_split 125 = .ok (.aload_n 0, 1) := by decide +kernel
theorem dX9_split_126 : decode cX9_split 126 = .ok (.getfield 15, 3) := by decide +kernel
theorem dX9_split_129 : decode cX9_split 129 = .ok (.ifCond .le 7, 3) := by decide +kernel
theorem dX9_split_132 : decode cX9_split 132 = .ok (.iconst 1, 1) := by decide +kernel
theorem dX9_split_133 : decode cX9_split 133 = .ok (.goto 4, 3) := by decide +kernel
theorem dX9_split_136 : decode cX9_split 136 = .ok (.iconst 0, 1) := by decide +kernel
theorem dX9_split_137 : decode cX9_split 137 = .ok (.ireturn, 1) := by decide +kernel
set_option maxRecDepth 20000 in
theorem ggX9_widthOf_X10_isSmallLetter : GoodIn wsX9_widthOf wsX10_isSmallLetter := goodIn_r _ [3] (by decide +kernel) (by decide +kernel)
set_option maxRecDepth 20000 in
theorem gX9_widthOf_X10_isSmallLetter_n35 : GoodIn wsX9_widthOf (wsX10_isSmallLetter) := ggX9_widthOf_X10_isSmallLetter
set_option maxRecDepth 20000 in
theorem ggX9_widthOf_X10_isDigit : GoodIn wsX9_widthOf wsX10_isDigit := goodIn_r _ [5] (by decide +kernel) (by decide +kernel)
set_option maxRecDepth 20000 in
theorem gX9_widthOf_X10_isDigit_n38 : GoodIn wsX9_widthOf (wsX10_isDigit) := ggX9_widthOf_X10_isDigit
theorem dX9_widthOf_0 : decode cX9_widthOf 0 = .ok (.iload_n 0, 1) := by decide +kernel
theorem dX9_widthOf_1 : decode cX9_widthOf 1 = .ok (.lookupswitch 104 #[(33, 99), (39, 99), (44, 99), (46, 99), (77, 101), (87, 101), (105, 99), (106, 99), (108, 99), (109, 101), (119, 101)], 99) := by decide +kernel
theorem dX9_widthOf_100 : decode cX9_widthOf 100 = .ok (.iconst 2, 1) := by decide +kernel
theorem dX9_widthOf_101 : decode cX9_widthOf 101 = .ok (.ireturn, 1) := by decide +kernel
theorem dX9_widthOf_102 : decode cX9_widthOf 102 = .ok (.bipush 6, 2) := by decide +kernel
theorem dX9_widthOf_104 : decode cX9_widthOf 104 = .ok (.ireturn, 1) := by decide +kernel
theorem dX9_widthOf_105 : decode cX9_widthOf 105 = .ok (.iload_n 0, 1) := by decide +kernel
theorem dX9_widthOf_106 : decode cX9_widthOf 106 = .ok (.invokestatic 35, 3) := by decide +kernel
theorem dX9_widthOf_109 : decode cX9_widthOf 109 = .ok (.ifCond .ne 10, 3) := by decide +kernel
theorem dX9_widthOf_112 : decode cX9_widthOf 112 = .ok (.iload_n 0, 1) := by decide +kernel
theorem dX9_widthOf_113 : decode cX9_widthOf 113 = .ok (.invokestatic 38, 3) := by decide +kernel
theorem dX9_widthOf_116 : decode cX9_widthOf 116 = .ok (.ifCond .eq 5, 3) := by decide +kernel
theorem dX9_widthOf_119 : decode cX9_widthOf 119 = .ok (.iconst 4, 1) := by decide +kernel
theorem dX9_widthOf_120 : decode cX9_widthOf 120 = .ok (.ireturn, 1) := by decide +kernel
theorem dX9_widthOf_121 : decode cX9_widthOf 121 = .ok (.iload_n 0, 1) := by decide +kernel
theorem dX9_widthOf_122 : decode cX9_widthOf 122 = .ok (.bipush 65, 2) := by decide +kernel
theorem dX9_widthOf_124 : decode cX9_widthOf 124 = .ok (.if_icmp .lt 13, 3) := by decide +kernel
theorem dX9_widthOf_127 : decode cX9_widthOf 127 = .ok (.iload_n 0, 1) := by decide +kernel
theorem dX9_widthOf_128 : decode cX9_widthOf 128 = .ok (.bipush 90, 2) := by decide +kernel
theorem dX9_widthOf_130 : decode cX9_widthOf 130 = .ok (.if_icmp .gt 7, 3) := by decide +kernel
theorem dX9_widthOf_133 : decode cX9_widthOf 133 = .ok (.iconst 5, 1) := by decide +kernel
theorem dX9_widthOf_134 : decode cX9_widthOf 134 = .ok (.goto 4, 3) := by decide +kernel
theorem dX9_widthOf_137 : decode cX9_widthOf 137 = .ok (.iconst 3, 1) := by decide +kernel
theorem dX9_widthOf_138 : decode cX9_widthOf 138 = .ok (.ireturn, 1) := by decide +kernel
set_option maxRecDepth 20000 in
theorem ggX10_init_X8_init : GoodIn wsX10_init wsX8_init := goodIn_r _ [46, 47, 2, 3, 48, 49, 135, 136] (by decide +kernel) (by decide +kernel)
set_option maxRecDepth 20000 in
theorem gX10_init_X8_init : GoodIn wsX10_init (wsX8_init) := ggX10_init_X8_init
set_option maxRecDepth 20000 in
theorem ggX10_init_X6_init : GoodIn wsX10_init wsX6_init := goodIn_r _ [52, 53, 2, 3, 48, 54, 55, 56, 57, 58, 147, 148, 149, 150, 151, 152] (by decide +kernel) (by decide +kernel)
set_option maxRecDepth 20000 in
theorem gX10_init_X6_init : GoodIn wsX10_init (wsX6_init) := ggX10_init_X6_init
set_option maxRecDepth 20000 in
theorem ggX10_init_X3_init : GoodIn wsX10_init wsX3_init := goodIn_r _ [61, 62, 2, 3, 48, 63, 64, 65, 66, 153, 154, 155, 156, 157] (by decide +kernel) (by decide +kernel)
set_option maxRecDepth 20000 in
theorem gX10_init_X3_init : GoodIn wsX10_init (wsX3_init) := ggX10_init_X3_init
set_option maxRecDepth 20000 in
theorem ggX10_init_X2_init : GoodIn wsX10_init wsX2_init := goodIn_r _ [69, 70, 2, 3, 48, 71, 72, 73, 74, 75, 76, 77, 78, 158, 159, 160, 161, 162, 163, 164, 165] (by decide +kernel) (by decide +kernel)
set_option maxRecDepth 20000 in
theorem gX10_init_X2_init : GoodIn wsX10_init (wsX2_init) := ggX10_init_X2_init
set_option maxRecDepth 20000 in
theorem ggX10_init_X7_init : GoodIn wsX10_init wsX7_init := goodIn_r _ [81, 82, 2, 3, 83, 84, 85, 86, 87, 88, 166, 167, 168, 169, 170, 171] (by decide +kernel) (by decide +kernel)
set_option maxRecDepth 20000 in
theorem gX10_init_X7_init : GoodIn wsX10_init (wsX7_init) := ggX10_init_X7_init
set_option maxRecDepth 20000 in
theorem ggX10_init_X4_init : GoodIn wsX10_init wsX4_init := goodIn_r _ [91, 92, 2, 3, 48, 93, 94, 95, 96, 26, 97, 172] (by decide +kernel) (by decide +kernel)
set_option maxRecDepth 20000 in
theorem gX10_init_X4_init : GoodIn wsX10_init (wsX4_init) := ggX10_init_X4_init
set_option maxRecDepth 20000 in
theorem ggX10_init_X5_init : GoodIn wsX10_init wsX5_init := goodIn_r _ [100, 101, 2, 3, 102, 103, 25, 26, 104, 105, 106, 107, 90, 91, 92, 48, 93, 94, 95, 96, 97, 173, 174, 175, 176, 177, 178, 179, 180, 181, 182, 183, 184, 172] (by decide +kernel) (by decide +kernel)
set_option maxRecDepth 20000 in
theorem gX10_init_X5_init : GoodIn wsX10_init (wsX5_init) := ggX10_init_X5_init
set_option maxRecDepth 20000 in
theorem ggX10_init_X0_init : GoodIn wsX10_init wsX0_init := goodIn_r _ [110, 111, 2, 3, 48, 112, 113, 114, 115, 116, 117, 118, 119, 120, 121, 185, 186, 187, 188, 189, 190, 191, 192, 193, 194, 195] (by decide +kernel) (by decide +kernel)
set_option maxRecDepth 20000 in
theorem gX10_init_X0_init : GoodIn wsX10_init (wsX0_init) := ggX10_init_X0_init
set_option maxRecDepth 20000 in
theorem ggX10_init_X9_init : GoodIn wsX10_init wsX9_init := goodIn_r _ [124, 125, 2, 3, 48, 126, 196, 197] (by decide +kernel) (by decide +kernel)
set_option maxRecDepth 20000 in
theorem gX10_init_X9_init : GoodIn wsX10_init (wsX9_init) := ggX10_init_X9_init
set_option maxRecDepth 20000 in
theorem ggX10_init_X1_init : GoodIn wsX10_init wsX1_init := goodIn_r _ [129, 130, 2, 3, 48, 131, 132, 133, 134, 198, 199, 200, 201, 202] (by decide +kernel) (by decide +kernel)
set_option maxRecDepth 20000 in
theorem gX10_init_X1_init : GoodIn wsX10_init (wsX1_init) := ggX10_init_X1_init
theorem dX10_init_0 : decode cX10_init 0 = .ok (.aload_n 0, 1) := by decide +kernel
theorem dX10_init_1 : decode cX10_init 1 = .ok (.invokespecial 1, 3) := by decide +kernel
theorem dX10_init_4 : decode cX10_init 4 = .ok (.aload_n 0, 1) := by decide +kernel
theorem dX10_init_5 : decode cX10_init 5 = .ok (.new 7, 3) := by decide +kernel
theorem dX10_init_8 : decode cX10_init 8 = .ok (.dup, 1) := by decide +kernel
theorem dX10_init_9 : decode cX10_init 9 = .ok (.invokespecial 9, 3) := by decide +kernel
theorem dX10_init_12 : decode cX10_init 12 = .ok (.putfield 10, 3) := by decide +kernel
theorem dX10_init_15 : decode cX10_init 15 = .ok (.aload_n 0, 1) := by decide +kernel
theorem dX10_init_16 : decode cX10_init 16 = .ok (.new 16, 3) := by decide +kernel
theorem dX10_init_19 : decode cX10_init 19 = .ok (.dup, 1) := by decide +kernel
theorem dX10_init_20 : decode cX10_init 20 = .ok (.invokespecial 18, 3) := by decide +kernel
theorem dX10_init_23 : decode cX10_init 23 = .ok (.putfield 19, 3) := by decide +kernel
theorem dX10_init_26 : decode cX10_init 26 = .ok (.aload_n 0, 1) := by decide +kernel
theorem dX10_init_27 : decode cX10_init 27 = .ok (.new 23, 3) := by decide +kernel
theorem dX10_init_30 : decode cX10_init 30 = .ok (.dup, 1) := by decide +kernel
theorem dX10_init_31 : decode cX10_init 31 = .ok (.invokespecial 25, 3) := by decide +kernel
theorem dX10_init_34 : decode cX10_init 34 = .ok (.putfield 26, 3) := by decide +kernel
theorem dX10_init_37 : decode cX10_init 37 = .ok (.aload_n 0, 1) := by decide +kernel
theorem dX10_init_38 : decode cX10_init 38 = .ok (.new 30, 3) := by decide +kernel
theorem dX10_init_41 : decode cX10_init 41 = .ok (.dup, 1) := by decide +kernel
theorem dX10_init_42 : decode cX10_init 42 = .ok (.invokespecial 32, 3) := by decide +kernel
theorem dX10_init_45 : decode cX10_init 45 = .ok (.putfield 33, 3) := by decide +kernel
theorem dX10_init_48 : decode cX10_init 48 = .ok (.aload_n 0, 1) := by decide +kernel
theorem dX10_init_49 : decode cX10_init 49 = .ok (.new 37, 3) := by decide +kernel
theorem dX10_init_52 : decode cX10_init 52 = .ok (.dup, 1) := by decide +kernel
theorem dX10_init_53 : decode cX10_init 53 = .ok (.aload_n 0, 1) := by decide +kernel
theorem dX10_init_54 : decode cX10_init 54 = .ok (.getfield 19, 3) := by decide +kernel
theorem dX10_init_57 : decode cX10_init 57 = .ok (.aload_n 0, 1) := by decide +kernel
theorem dX10_init_58 : decode cX10_init 58 = .ok (.getfield 26, 3) := by decide +kernel
theorem dX10_init_61 : decode cX10_init 61 = .ok (.aload_n 0, 1) := by decide +kernel
theorem dX10_init_62 : decode cX10_init 62 = .ok (.getfield 33, 3) := by decide +kernel
theorem dX10_init_65 : decode cX10_init 65 = .ok (.invokespecial 39, 3) := by decide +kernel
theorem dX10_init_68 : decode cX10_init 68 = .ok (.putfield 42, 3) := by decide +kernel
theorem dX10_init_71 : decode cX10_init 71 = .ok (.aload_n 0, 1) := by decide +kernel
theorem dX10_init_72 : decode cX10_init 72 = .ok (.new 46, 3) := by decide +kernel
theorem dX10_init_75 : decode cX10_init 75 = .ok (.dup, 1) := by decide +kernel
theorem dX10_init_76 : decode cX10_init 76 = .ok (.invokespecial 48, 3) := by decide +kernel
theorem dX10_init_79 : decode cX10_init 79 = .ok (.putfield 49, 3) := by decide +kernel
theorem dX10_init_82 : decode cX10_init 82 = .ok (.aload_n 0, 1) := by decide +kernel
theorem dX10_init_83 : decode cX10_init 83 = .ok (.new 53, 3) := by decide +kernel
theorem dX10_init_86 : decode cX10_init 86 = .ok (.dup, 1) := by decide +kernel
theorem dX10_init_87 : decode cX10_init 87 = .ok (.aload_n 0, 1) := by decide +kernel
theorem dX10_init_88 : decode cX10_init 88 = .ok (.getfield 10, 3) := by decide +kernel
theorem dX10_init_91 : decode cX10_init 91 = .ok (.invokespecial 55, 3) := by decide +kernel
theorem dX10_init_94 : decode cX10_init 94 = .ok (.putfield 58, 3) := by decide +kernel
theorem dX10_init_97 : decode cX10_init 97 = .ok (.aload_n 0, 1) := by decide +kernel
theorem dX10_init_98 : decode cX10_init 98 = .ok (.new 62, 3) := by decide +kernel
theorem dX10_init_101 : decode cX10_init 101 = .ok (.dup, 1) := by decide +kernel
theorem dX10_init_102 : decode cX10_init 102 = .ok (.invokespecial 64, 3) := by decide +kernel
theorem dX10_init_105 : decode cX10_init 105 = .ok (.putfield 65, 3) := by decide +kernel
theorem dX10_init_108 : decode cX10_init 108 = .ok (.aload_n 0, 1) := by decide +kernel
theorem dX10_init_109 : decode cX10_init 109 = .ok (.new 69, 3) := by decide +kernel
theorem dX10_init_112 : decode cX10_init 112 = .ok (.dup, 1) := by decide +kernel
theorem dX10_init_113 : decode cX10_init 113 = .ok (.invokespecial 71, 3) := by decide +kernel
theorem dX10_init_116 : decode cX10_init 116 = .ok (.putfield 72, 3) := by decide +kernel
theorem dX10_init_119 : decode cX10_init 119 = .ok (.aload_n 0, 1) := by decide +kernel
theorem dX10_init_120 : decode cX10_init 120 = .ok (.new 76, 3) := by decide +kernel
theorem dX10_init_123 : decode cX10_init 123 = .ok (.dup, 1) := by decide +kernel
theorem dX10_init_124 : decode cX10_init 124 = .ok (.invokespecial 78, 3) := by decide +kernel
theorem dX10_init_127 : decode cX10_init 127 = .ok (.putfield 79, 3) := by decide +kernel
theorem dX10_init_130 : decode cX10_init 130 = .ok (.return_, 1) := by decide +kernel
set_option maxRecDepth 20000 in
theorem ggX10_feed_X8_append : GoodIn wsX10_feed wsX8_append := goodIn_r _ [7, 8, 9, 20, 21] (by decide +kernel) (by decide +kernel)
set_option maxRecDepth 20000 in
theorem gX10_feed_X8_append : GoodIn wsX10_feed (wsV RX10 87 RX8 yX8_append wsX8_append) := goodIn_app (goodIn_of _ (by decide +kernel)) ggX10_feed_X8_append
theorem dX10_feed_0 : decode cX10_feed 0 = .ok (.aload_n 0, 1) := by decide +kernel
theorem dX10_feed_1 : decode cX10_feed 1 = .ok (.getfield 10, 3) := by decide +kernel
theorem dX10_feed_4 : decode cX10_feed 4 = .ok (.getfield 83, 3) := by decide +kernel
theorem dX10_feed_7 : decode cX10_feed 7 = .ok (.bipush 20, 2) := by decide +kernel
theorem dX10_feed_9 : decode cX10_feed 9 = .ok (.iadd, 1) := by decide +kernel
theorem dX10_feed_10 : decode cX10_feed 10 = .ok (.sipush 600, 3) := by decide +kernel
theorem dX10_feed_13 : decode cX10_feed 13 = .ok (.if_icmp .le 6, 3) := by decide +kernel
theorem dX10_feed_16 : decode cX10_feed 16 = .ok (.bipush (-3), 2) := by decide +kernel
theorem dX10_feed_18 : decode cX10_feed 18 = .ok (.ireturn, 1) := by decide +kernel
theorem dX10_feed_19 : decode cX10_feed 19 = .ok (.aload_n 0, 1) := by decide +kernel
theorem dX10_feed_20 : decode cX10_feed 20 = .ok (.getfield 10, 3) := by decide +kernel
theorem dX10_feed_23 : decode cX10_feed 23 = .ok (.iload_n 1, 1) := by decide +kernel
theorem dX10_feed_24 : decode cX10_feed 24 = .ok (.invokevirtual 87, 3) := by decide +kernel
theorem dX10_feed_27 : decode cX10_feed 27 = .ok (.aload_n 0, 1) := by decide +kernel
theorem dX10_feed_28 : decode cX10_feed 28 = .ok (.getfield 10, 3) := by decide +kernel
theorem dX10_feed_31 : decode cX10_feed 31 = .ok (.iload_n 2, 1) := by decide +kernel
theorem dX10_feed_32 : decode cX10_feed 32 = .ok (.invokevirtual 87, 3) := by decide +kernel
theorem dX10_feed_35 : decode cX10_feed 35 = .ok (.aload_n 0, 1) := by decide +kernel
theorem dX10_feed_36 : decode cX10_feed 36 = .ok (.getfield 10, 3) := by decide +kernel
theorem dX10_feed_39 : decode cX10_feed 39 = .ok (.iload_n 3, 1) := by decide +kernel
theorem dX10_feed_40 : decode cX10_feed 40 = .ok (.invokevirtual 87, 3) := by decide +kernel
theorem dX10_feed_43 : decode cX10_feed 43 = .ok (.aload_n 0, 1) := by decide +kernel
theorem dX10_feed_44 : decode cX10_feed 44 = .ok (.getfield 10, 3) := by decide +kernel
theorem dX10_feed_47 : decode cX10_feed 47 = .ok (.iload 4, 2) := by decide +kernel
theorem dX10_feed_49 : decode cX10_feed 49 = .ok (.invokevirtual 87, 3) := by decide +kernel
theorem dX10_feed_52 : decode cX10_feed 52 = .ok (.aload_n 0, 1) := by decide +kernel
theorem dX10_feed_53 : decode cX10_feed 53 = .ok (.getfield 10, 3) := by decide +kernel
theorem dX10_feed_56 : decode cX10_feed 56 = .ok (.iload 5, 2) := by decide +kernel
theorem dX10_feed_58 : decode cX10_feed 58 = .ok (.invokevirtual 87, 3) := by decide +kernel
theorem dX10_feed_61 : decode cX10_feed 61 = .ok (.aload_n 0, 1) := by decide +kernel
theorem dX10_feed_62 : decode cX10_feed 62 = .ok (.getfield 10, 3) := by decide +kernel
theorem dX10_feed_65 : decode cX10_feed 65 = .ok (.getfield 83, 3) := by decide +kernel
theorem dX10_feed_68 : decode cX10_feed 68 = .ok (.ireturn, 1) := by decide +kernel
theorem dX10_end_0 : decode cX10_end 0 = .ok (.iload_n 1, 1) := by decide +kernel
theorem dX10_end_1 : decode cX10_end 1 = .ok (.ifCond .lt 14, 3) := by decide +kernel
theorem dX10_end_4 : decode cX10_end 4 = .ok (.iload_n 1, 1) := by decide +kernel
theorem dX10_end_5 : decode cX10_end 5 = .ok (.aload_n 0, 1) := by decide +kernel
theorem dX10_end_6 : decode cX10_end 6 = .ok (.getfield 10, 3) := by decide +kernel
theorem dX10_end_9 : decode cX10_end 9 = .ok (.getfield 83, 3) := by decide +kernel
theorem dX10_end_12 : decode cX10_end 12 = .ok (.if_icmp .le 5, 3) := by decide +kernel
theorem dX10_end_15 : decode cX10_end 15 = .ok (.iconst (-1), 1) := by decide +kernel
theorem dX10_end_16 : decode cX10_end 16 = .ok (.ireturn, 1) := by decide +kernel
theorem dX10_end_17 : decode cX10_end 17 = .ok (.aload_n 0, 1) := by decide +kernel
theorem dX10_end_18 : decode cX10_end 18 = .ok (.getfield 10, 3) := by decide +kernel
theorem dX10_end_21 : decode cX10_end 21 = .ok (.iload_n 1, 1) := by decide +kernel
theorem dX10_end_22 : decode cX10_end 22 = .ok (.putfield 83, 3) := by decide +kernel
theorem dX10_end_25 : decode cX10_end 25 = .ok (.iload_n 1, 1) := by decide +kernel
theorem dX10_end_26 : decode cX10_end 26 = .ok (.ireturn, 1) := by decide +kernel
set_option maxRecDepth 20000 in
theorem ggX10_site_X10_isSpan : GoodIn wsX10_site wsX10_isSpan := goodIn_r _ [6, 7, 8, 5, 9] (by decide +kernel) (by decide +kernel)
set_option maxRecDepth 20000 in
theorem gX10_site_X10_isSpan : GoodIn wsX10_site (va_wsS RX10 91 yX10_isSpan wsX10_isSpan) := goodIn_app (goodIn_of _ (by decide +kernel)) ggX10_site_X10_isSpan
set_option maxRecDepth 20000 in
theorem ggX10_site_X10_isAddress : GoodIn wsX10_site wsX10_isAddress := goodIn_r _ [12] (by decide +kernel) (by decide +kernel)
set_option maxRecDepth 20000 in
theorem gX10_site_X10_isAddress : GoodIn wsX10_site (va_wsS RX10 95 yX10_isAddress wsX10_isAddress) := goodIn_app (goodIn_of _ (by decide +kernel)) ggX10_site_X10_isAddress
set_option maxRecDepth 20000 in
theorem ggX10_site_X6_addNumbering : GoodIn wsX10_site wsX6_addNumbering := goodIn_r _ [17, 18, 19, 20, 21, 22, 33, 34, 35, 36, 37, 38] (by decide +kernel) (by decide +kernel)
set_option maxRecDepth 20000 in
theorem gX10_site_X6_addNumbering : GoodIn wsX10_site (wsV RX10 101 RX6 yX6_addNumbering wsX6_addNumbering) := goodIn_app (goodIn_of _ (by decide +kernel)) ggX10_site_X6_addNumbering
theorem dX10_site_0 : decode cX10_site 0 = .ok (.iload_n 1, 1) := by decide +kernel
theorem dX10_site_1 : decode cX10_site 1 = .ok (.iload_n 2, 1) := by decide +kernel
theorem dX10_site_2 : decode cX10_site 2 = .ok (.invokestatic 91, 3) := by decide +kernel
theorem dX10_site_5 : decode cX10_site 5 = .ok (.ifCond .eq 12, 3) := by decide +kernel
theorem dX10_site_8 : decode cX10_site 8 = .ok (.iload_n 3, 1) := by decide +kernel
theorem dX10_site_9 : decode cX10_site 9 = .ok (.iload 4, 2) := by decide +kernel
theorem dX10_site_11 : decode cX10_site 11 = .ok (.invokestatic 95, 3) := by decide +kernel
theorem dX10_site_14 : decode cX10_site 14 = .ok (.ifCond .ne 6, 3) := by decide +kernel
theorem dX10_site_17 : decode cX10_site 17 = .ok (.bipush (-2), 2) := by decide +kernel
theorem dX10_site_19 : decode cX10_site 19 = .ok (.ireturn, 1) := by decide +kernel
theorem dX10_site_20 : decode cX10_site 20 = .ok (.aload_n 0, 1) := by decide +kernel
theorem dX10_site_21 : decode cX10_site 21 = .ok (.getfield 19, 3) := by decide +kernel
theorem dX10_site_24 : decode cX10_site 24 = .ok (.getfield 98, 3) := by decide +kernel
theorem dX10_site_27 : decode cX10_site 27 = .ok (.bipush 40, 2) := by decide +kernel
theorem dX10_site_29 : decode cX10_site 29 = .ok (.if_icmp .lt 6, 3) := by decide +kernel
theorem dX10_site_32 : decode cX10_site 32 = .ok (.bipush (-3), 2) := by decide +kernel
theorem dX10_site_34 : decode cX10_site 34 = .ok (.ireturn, 1) := by decide +kernel
theorem dX10_site_35 : decode cX10_site 35 = .ok (.aload_n 0, 1) := by decide +kernel
theorem dX10_site_36 : decode cX10_site 36 = .ok (.getfield 19, 3) := by decide +kernel
theorem dX10_site_39 : decode cX10_site 39 = .ok (.getfield 98, 3) := by decide +kernel
theorem dX10_site_42 : decode cX10_site 42 = .ok (.istore 5, 2) := by decide +kernel
theorem dX10_site_44 : decode cX10_site 44 = .ok (.aload_n 0, 1) := by decide +kernel
theorem dX10_site_45 : decode cX10_site 45 = .ok (.getfield 19, 3) := by decide +kernel
theorem dX10_site_48 : decode cX10_site 48 = .ok (.iload 5, 2) := by decide +kernel
theorem dX10_site_50 : decode cX10_site 50 = .ok (.iconst 1, 1) := by decide +kernel
theorem dX10_site_51 : decode cX10_site 51 = .ok (.iadd, 1) := by decide +kernel
theorem dX10_site_52 : decode cX10_site 52 = .ok (.putfield 98, 3) := by decide +kernel
theorem dX10_site_55 : decode cX10_site 55 = .ok (.aload_n 0, 1) := by decide +kernel
theorem dX10_site_56 : decode cX10_site 56 = .ok (.getfield 19, 3) := by decide +kernel
theorem dX10_site_59 : decode cX10_site 59 = .ok (.iload 5, 2) := by decide +kernel
theorem dX10_site_61 : decode cX10_site 61 = .ok (.iload_n 1, 1) := by decide +kernel
theorem dX10_site_62 : decode cX10_site 62 = .ok (.iload_n 2, 1) := by decide +kernel
theorem dX10_site_63 : decode cX10_site 63 = .ok (.iload_n 3, 1) := by decide +kernel
theorem dX10_site_64 : decode cX10_site 64 = .ok (.iload 4, 2) := by decide +kernel
theorem dX10_site_66 : decode cX10_site 66 = .ok (.invokevirtual 101, 3) := by decide +kernel
theorem dX10_site_69 : decode cX10_site 69 = .ok (.iload 5, 2) := by decide +kernel
theorem dX10_site_71 : decode cX10_site 71 = .ok (.ireturn, 1) := by decide +kernel
set_option maxRecDepth 20000 in
theorem ggX10_renumber_X10_isSite : GoodIn wsX10_renumber wsX10_isSite := goodIn_r _ [7, 1, 8, 40, 41, 42, 43, 44, 45, 46, 47, 48, 49, 50, 51, 52, 53, 54, 55] (by decide +kernel) (by decide +kernel)
set_option maxRecDepth 20000 in
theorem gX10_renumber_X10_isSite : GoodIn wsX10_renumber (wsV RX10 105 RX10 yX10_isSite wsX10_isSite) := goodIn_app (goodIn_of _ (by decide +kernel)) ggX10_renumber_X10_isSite
set_option maxRecDepth 20000 in
theorem ggX10_renumber_X10_isSpan : GoodIn wsX10_renumber wsX10_isSpan := goodIn_r _ [11, 12, 13, 6, 14] (by decide +kernel) (by decide +kernel)
set_option maxRecDepth 20000 in
theorem gX10_renumber_X10_isSpan : GoodIn wsX10_renumber (va_wsS RX10 91 yX10_isSpan wsX10_isSpan) := goodIn_app (goodIn_of _ (by decide +kernel)) ggX10_renumber_X10_isSpan
set_option maxRecDepth 20000 in
theorem ggX10_renumber_X10_isAddress : GoodIn wsX10_renumber wsX10_isAddress := goodIn_r _ [17] (by decide +kernel) (by decide +kernel)
set_option maxRecDepth 20000 in
theorem gX10_renumber_X10_isAddress : GoodIn wsX10_renumber (va_wsS RX10 95 yX10_isAddress wsX10_isAddress) := goodIn_app (goodIn_of _ (by decide +kernel)) ggX10_renumber_X10_isAddress
set_option maxRecDepth 20000 in
theorem ggX10_renumber_X6_isGone : GoodIn wsX10_renumber wsX6_isGone := goodIn_r _ [22, 23, 24, 25, 26, 21, 27, 28, 50, 51, 52, 53, 54, 55] (by decide +kernel) (by decide +kernel)
set_option maxRecDepth 20000 in
theorem gX10_renumber_X6_isGone : GoodIn wsX10_renumber (wsV RX10 109 RX6 yX6_isGone wsX6_isGone) := goodIn_app (goodIn_of _ (by decide +kernel)) ggX10_renumber_X6_isGone
set_option maxRecDepth 20000 in
theorem ggX10_renumber_X6_latestChange : GoodIn wsX10_renumber wsX6_latestChange := goodIn_r _ [32, 33, 24, 25, 26, 21, 27, 28, 50, 51, 52, 53, 54, 55] (by decide +kernel) (by decide +kernel)
set_option maxRecDepth 20000 in
theorem gX10_renumber_X6_latestChange : GoodIn wsX10_renumber (wsV RX10 112 RX6 yX6_latestChange wsX6_latestChange) := goodIn_app (goodIn_of _ (by decide +kernel)) ggX10_renumber_X6_latestChange
set_option maxRecDepth 20000 in
theorem ggX10_renumber_X6_addNumbering : GoodIn wsX10_renumber wsX6_addNumbering := goodIn_r _ [37, 28, 38, 33, 39, 23, 50, 51, 52, 53, 54, 55] (by decide +kernel) (by decide +kernel)
set_option maxRecDepth 20000 in
theorem gX10_renumber_X6_addNumbering : GoodIn wsX10_renumber (wsV RX10 101 RX6 yX6_addNumbering wsX6_addNumbering) := goodIn_app (goodIn_of _ (by decide +kernel)) ggX10_renumber_X6_addNumbering
theorem dX10_renumber_0 : decode cX10_renumber 0 = .ok (.aload_n 0, 1) := by decide +kernel
theorem dX10_renumber_1 : decode cX10_renumber 1 = .ok (.iload_n 1, 1) := by decide +kernel
theorem dX10_renumber_2 : decode cX10_renumber 2 = .ok (.invokevirtual 105, 3) := by decide +kernel
theorem dX10_renumber_5 : decode cX10_renumber 5 = .ok (.ifCond .eq 11, 3) := by decide +kernel
theorem dX10_renumber_8 : decode cX10_renumber 8 = .ok (.iload_n 2, 1) := by decide +kernel
theorem dX10_renumber_9 : decode cX10_renumber 9 = .ok (.iload_n 3, 1) := by decide +kernel
theorem dX10_renumber_10 : decode cX10_renumber 10 = .ok (.invokestatic 91, 3) := by decide +kernel
theorem dX10_renumber_13 : decode cX10_renumber 13 = .ok (.ifCond .ne 6, 3) := by decide +kernel
theorem dX10_renumber_16 : decode cX10_renumber 16 = .ok (.bipush (-2), 2) := by decide +kernel
theorem dX10_renumber_18 : decode cX10_renumber 18 = .ok (.ireturn, 1) := by decide +kernel
theorem dX10_renumber_19 : decode cX10_renumber 19 = .ok (.iload 5, 2) := by decide +kernel
theorem dX10_renumber_21 : decode cX10_renumber 21 = .ok (.ifCond .eq 16, 3) := by decide +kernel
theorem dX10_renumber_24 : decode cX10_renumber 24 = .ok (.iload 4, 2) := by decide +kernel
theorem dX10_renumber_26 : decode cX10_renumber 26 = .ok (.iload 5, 2) := by decide +kernel
theorem dX10_renumber_28 : decode cX10_renumber 28 = .ok (.invokestatic 95, 3) := by decide +kernel
theorem dX10_renumber_31 : decode cX10_renumber 31 = .ok (.ifCond .ne 6, 3) := by decide +kernel
theorem dX10_renumber_34 : decode cX10_renumber 34 = .ok (.bipush (-2), 2) := by decide +kernel
theorem dX10_renumber_36 : decode cX10_renumber 36 = .ok (.ireturn, 1) := by decide +kernel
theorem dX10_renumber_37 : decode cX10_renumber 37 = .ok (.aload_n 0, 1) := by decide +kernel
theorem dX10_renumber_38 : decode cX10_renumber 38 = .ok (.getfield 19, 3) := by decide +kernel
theorem dX10_renumber_41 : decode cX10_renumber 41 = .ok (.iload_n 1, 1) := by decide +kernel
theorem dX10_renumber_42 : decode cX10_renumber 42 = .ok (.invokevirtual 109, 3) := by decide +kernel
theorem dX10_renumber_45 : decode cX10_renumber 45 = .ok (.ifCond .ne 15, 3) := by decide +kernel
theorem dX10_renumber_48 : decode cX10_renumber 48 = .ok (.iload_n 2, 1) := by decide +kernel
theorem dX10_renumber_49 : decode cX10_renumber 49 = .ok (.aload_n 0, 1) := by decide +kernel
theorem dX10_renumber_50 : decode cX10_renumber 50 = .ok (.getfield 19, 3) := by decide +kernel
theorem dX10_renumber_53 : decode cX10_renumber 53 = .ok (.iload_n 1, 1) := by decide +kernel
theorem dX10_renumber_54 : decode cX10_renumber 54 = .ok (.invokevirtual 112, 3) := by decide +kernel
theorem dX10_renumber_57 : decode cX10_renumber 57 = .ok (.if_icmp .gt 6, 3) := by decide +kernel
theorem dX10_renumber_60 : decode cX10_renumber 60 = .ok (.bipush (-2), 2) := by decide +kernel
theorem dX10_renumber_62 : decode cX10_renumber 62 = .ok (.ireturn, 1) := by decide +kernel
theorem dX10_renumber_63 : decode cX10_renumber 63 = .ok (.aload_n 0, 1) := by decide +kernel
theorem dX10_renumber_64 : decode cX10_renumber 64 = .ok (.getfield 19, 3) := by decide +kernel
theorem dX10_renumber_67 : decode cX10_renumber 67 = .ok (.getfield 116, 3) := by decide +kernel
theorem dX10_renumber_70 : decode cX10_renumber 70 = .ok (.iload_n 1, 1) := by decide +kernel
theorem dX10_renumber_71 : decode cX10_renumber 71 = .ok (.iaload, 1) := by decide +kernel
theorem dX10_renumber_72 : decode cX10_renumber 72 = .ok (.bipush 8, 2) := by decide +kernel
theorem dX10_renumber_74 : decode cX10_renumber 74 = .ok (.if_icmp .lt 6, 3) := by decide +kernel
theorem dX10_renumber_77 : decode cX10_renumber 77 = .ok (.bipush (-3), 2) := by decide +kernel
theorem dX10_renumber_79 : decode cX10_renumber 79 = .ok (.ireturn, 1) := by decide +kernel
theorem dX10_renumber_80 : decode cX10_renumber 80 = .ok (.aload_n 0, 1) := by decide +kernel
theorem dX10_renumber_81 : decode cX10_renumber 81 = .ok (.getfield 19, 3) := by decide +kernel
theorem dX10_renumber_84 : decode cX10_renumber 84 = .ok (.iload_n 1, 1) := by decide +kernel
theorem dX10_renumber_85 : decode cX10_renumber 85 = .ok (.iload_n 2, 1) := by decide +kernel
theorem dX10_renumber_86 : decode cX10_renumber 86 = .ok (.iload_n 3, 1) := by decide +kernel
theorem dX10_renumber_87 : decode cX10_renumber 87 = .ok (.iload 4, 2) := by decide +kernel
theorem dX10_renumber_89 : decode cX10_renumber 89 = .ok (.iload 5, 2) := by decide +kernel
theorem dX10_renumber_91 : decode cX10_renumber 91 = .ok (.invokevirtual 101, 3) := by decide +kernel
theorem dX10_renumber_94 : decode cX10_renumber 94 = .ok (.aload_n 0, 1) := by decide +kernel
theorem dX10_renumber_95 : decode cX10_renumber 95 = .ok (.getfield 19, 3) := by decide +kernel
theorem dX10_renumber_98 : decode cX10_renumber 98 = .ok (.getfield 116, 3) := by decide +kernel
theorem dX10_renumber_101 : decode cX10_renumber 101 = .ok (.iload_n 1, 1) := by decide +kernel
theorem dX10_renumber_102 : decode cX10_renumber 102 = .ok (.iaload, 1) := by decide +kernel
theorem dX10_renumber_103 : decode cX10_renumber 103 = .ok (.ireturn, 1) := by decide +kernel
set_option maxRecDepth 20000 in
theorem ggX10_possible_X10_isAddress : GoodIn wsX10_possible wsX10_isAddress := goodIn_r _ [7] (by decide +kernel) (by decide +kernel)
set_option maxRecDepth 20000 in
theorem gX10_possible_X10_isAddress : GoodIn wsX10_possible (va_wsS RX10 95 yX10_isAddress wsX10_isAddress) := goodIn_app (goodIn_of _ (by decide +kernel)) ggX10_possible_X10_isAddress
set_option maxRecDepth 20000 in
theorem ggX10_possible_X10_isYear : GoodIn wsX10_possible wsX10_isYear := goodIn_r _ [10] (by decide +kernel) (by decide +kernel)
set_option maxRecDepth 20000 in
theorem gX10_possible_X10_isYear : GoodIn wsX10_possible (va_wsS RX10 120 yX10_isYear wsX10_isYear) := goodIn_app (goodIn_of _ (by decide +kernel)) ggX10_possible_X10_isYear
set_option maxRecDepth 20000 in
theorem ggX10_possible_X6_yearsMaybe : GoodIn wsX10_possible wsX6_yearsMaybe := goodIn_r _ [15, 16, 17, 18, 19, 20, 21, 22, 14, 23, 24, 25, 26, 27, 38, 39, 40, 41, 42, 43] (by decide +kernel) (by decide +kernel)
set_option maxRecDepth 20000 in
theorem gX10_possible_X6_yearsMaybe : GoodIn wsX10_possible (wsV RX10 125 RX6 yX6_yearsMaybe wsX6_yearsMaybe) := goodIn_app (goodIn_of _ (by decide +kernel)) ggX10_possible_X6_yearsMaybe
theorem dX10_possible_0 : decode cX10_possible 0 = .ok (.iload_n 1, 1) := by decide +kernel
theorem dX10_possible_1 : decode cX10_possible 1 = .ok (.iload_n 2, 1) := by decide +kernel
theorem dX10_possible_2 : decode cX10_possible 2 = .ok (.invokestatic 95, 3) := by decide +kernel
theorem dX10_possible_5 : decode cX10_possible 5 = .ok (.ifCond .eq 10, 3) := by decide +kernel
theorem dX10_possible_8 : decode cX10_possible 8 = .ok (.iload_n 3, 1) := by decide +kernel
theorem dX10_possible_9 : decode cX10_possible 9 = .ok (.invokestatic 120, 3) := by decide +kernel
theorem dX10_possible_12 : decode cX10_possible 12 = .ok (.ifCond .ne 7, 3) := by decide +kernel
theorem dX10_possible_15 : decode cX10_possible 15 = .ok (.ldc2_w 123, 3) := by decide +kernel
theorem dX10_possible_18 : decode cX10_possible 18 = .ok (.lreturn, 1) := by decide +kernel
theorem dX10_possible_19 : decode cX10_possible 19 = .ok (.lconst 0, 1) := by decide +kernel
theorem dX10_possible_20 : decode cX10_possible 20 = .ok (.lstore 4, 2) := by decide +kernel
theorem dX10_possible_22 : decode cX10_possible 22 = .ok (.iconst 0, 1) := by decide +kernel
theorem dX10_possible_23 : decode cX10_possible 23 = .ok (.istore 6, 2) := by decide +kernel
theorem dX10_possible_25 : decode cX10_possible 25 = .ok (.iload 6, 2) := by decide +kernel
theorem dX10_possible_27 : decode cX10_possible 27 = .ok (.aload_n 0, 1) := by decide +kernel
theorem dX10_possible_28 : decode cX10_possible 28 = .ok (.getfield 19, 3) := by decide +kernel
theorem dX10_possible_31 : decode cX10_possible 31 = .ok (.getfield 98, 3) := by decide +kernel
theorem dX10_possible_34 : decode cX10_possible 34 = .ok (.if_icmp .ge 36, 3) := by decide +kernel
theorem dX10_possible_37 : decode cX10_possible 37 = .ok (.aload_n 0, 1) := by decide +kernel
theorem dX10_possible_38 : decode cX10_possible 38 = .ok (.getfield 19, 3) := by decide +kernel
theorem dX10_possible_41 : decode cX10_possible 41 = .ok (.iload 6, 2) := by decide +kernel
theorem dX10_possible_43 : decode cX10_possible 43 = .ok (.iload_n 1, 1) := by decide +kernel
theorem dX10_possible_44 : decode cX10_possible 44 = .ok (.iload_n 2, 1) := by decide +kernel
theorem dX10_possible_45 : decode cX10_possible 45 = .ok (.iload_n 3, 1) := by decide +kernel
theorem dX10_possible_46 : decode cX10_possible 46 = .ok (.iload_n 3, 1) := by decide +kernel
theorem dX10_possible_47 : decode cX10_possible 47 = .ok (.invokevirtual 125, 3) := by decide +kernel
theorem dX10_possible_50 : decode cX10_possible 50 = .ok (.lconst 0, 1) := by decide +kernel
theorem dX10_possible_51 : decode cX10_possible 51 = .ok (.lcmp, 1) := by decide +kernel
theorem dX10_possible_52 : decode cX10_possible 52 = .ok (.ifCond .eq 12, 3) := by decide +kernel
theorem dX10_possible_55 : decode cX10_possible 55 = .ok (.lload 4, 2) := by decide +kernel
theorem dX10_possible_57 : decode cX10_possible 57 = .ok (.lconst 1, 1) := by decide +kernel
theorem dX10_possible_58 : decode cX10_possible 58 = .ok (.iload 6, 2) := by decide +kernel
theorem dX10_possible_60 : decode cX10_possible 60 = .ok (.lshl, 1) := by decide +kernel
theorem dX10_possible_61 : decode cX10_possible 61 = .ok (.lor, 1) := by decide +kernel
theorem dX10_possible_62 : decode cX10_possible 62 = .ok (.lstore 4, 2) := by decide +kernel
theorem dX10_possible_64 : decode cX10_possible 64 = .ok (.iinc 6 1, 3) := by decide +kernel
theorem dX10_possible_67 : decode cX10_possible 67 = .ok (.goto (-42), 3) := by decide +kernel
theorem dX10_possible_70 : decode cX10_possible 70 = .ok (.lload 4, 2) := by decide +kernel
theorem dX10_possible_72 : decode cX10_possible 72 = .ok (.lreturn, 1) := by decide +kernel
set_option maxRecDepth 20000 in
theorem ggX10_surely_X10_isAddress : GoodIn wsX10_surely wsX10_isAddress := goodIn_r _ [6] (by decide +kernel) (by decide +kernel)
set_option maxRecDepth 20000 in
theorem gX10_surely_X10_isAddress : GoodIn wsX10_surely (va_wsS RX10 95 yX10_isAddress wsX10_isAddress) := goodIn_app (goodIn_of _ (by decide +kernel)) ggX10_surely_X10_isAddress
set_option maxRecDepth 20000 in
theorem ggX10_surely_X10_isYear : GoodIn wsX10_surely wsX10_isYear := goodIn_r _ [9] (by decide +kernel) (by decide +kernel)
set_option maxRecDepth 20000 in
theorem gX10_surely_X10_isYear : GoodIn wsX10_surely (va_wsS RX10 120 yX10_isYear wsX10_isYear) := goodIn_app (goodIn_of _ (by decide +kernel)) ggX10_surely_X10_isYear
set_option maxRecDepth 20000 in
theorem ggX10_surely_X6_yearsSurely : GoodIn wsX10_surely wsX6_yearsSurely := goodIn_r _ [14, 15, 16, 17, 18, 19, 20, 21, 22, 23, 13, 24, 25, 26, 27, 28, 29, 30, 31, 32, 43, 44, 45, 46, 47, 48] (by decide +kernel) (by decide +kernel)
set_option maxRecDepth 20000 in
theorem gX10_surely_X6_yearsSurely : GoodIn wsX10_surely (wsV RX10 129 RX6 yX6_yearsSurely wsX6_yearsSurely) := goodIn_app (goodIn_of _ (by decide +kernel)) ggX10_surely_X6_yearsSurely
theorem dX10_surely_0 : decode cX10_surely 0 = .ok (.iload_n 1, 1) := by decide +kernel
theorem dX10_surely_1 : decode cX10_surely 1 = .ok (.iload_n 2, 1) := by decide +kernel
theorem dX10_surely_2 : decode cX10_surely 2 = .ok (.invokestatic 95, 3) := by decide +kernel
theorem dX10_surely_5 : decode cX10_surely 5 = .ok (.ifCond .eq 10, 3) := by decide +kernel
theorem dX10_surely_8 : decode cX10_surely 8 = .ok (.iload_n 3, 1) := by decide +kernel
theorem dX10_surely_9 : decode cX10_surely 9 = .ok (.invokestatic 120, 3) := by decide +kernel
theorem dX10_surely_12 : decode cX10_surely 12 = .ok (.ifCond .ne 6, 3) := by decide +kernel
theorem dX10_surely_15 : decode cX10_surely 15 = .ok (.bipush (-2), 2) := by decide +kernel
theorem dX10_surely_17 : decode cX10_surely 17 = .ok (.ireturn, 1) := by decide +kernel
theorem dX10_surely_18 : decode cX10_surely 18 = .ok (.iconst 0, 1) := by decide +kernel
theorem dX10_surely_19 : decode cX10_surely 19 = .ok (.istore 4, 2) := by decide +kernel
theorem dX10_surely_21 : decode cX10_surely 21 = .ok (.iload 4, 2) := by decide +kernel
theorem dX10_surely_23 : decode cX10_surely 23 = .ok (.aload_n 0, 1) := by decide +kernel
theorem dX10_surely_24 : decode cX10_surely 24 = .ok (.getfield 19, 3) := by decide +kernel
theorem dX10_surely_27 : decode cX10_surely 27 = .ok (.getfield 98, 3) := by decide +kernel
theorem dX10_surely_30 : decode cX10_surely 30 = .ok (.if_icmp .ge 30, 3) := by decide +kernel
theorem dX10_surely_33 : decode cX10_surely 33 = .ok (.aload_n 0, 1) := by decide +kernel
theorem dX10_surely_34 : decode cX10_surely 34 = .ok (.getfield 19, 3) := by decide +kernel
theorem dX10_surely_37 : decode cX10_surely 37 = .ok (.iload 4, 2) := by decide +kernel
theorem dX10_surely_39 : decode cX10_surely 39 = .ok (.iload_n 1, 1) := by decide +kernel
theorem dX10_surely_40 : decode cX10_surely 40 = .ok (.iload_n 2, 1) := by decide +kernel
theorem dX10_surely_41 : decode cX10_surely 41 = .ok (.iload_n 3, 1) := by decide +kernel
theorem dX10_surely_42 : decode cX10_surely 42 = .ok (.iload_n 3, 1) := by decide +kernel
theorem dX10_surely_43 : decode cX10_surely 43 = .ok (.invokevirtual 129, 3) := by decide +kernel
theorem dX10_surely_46 : decode cX10_surely 46 = .ok (.lconst 0, 1) := by decide +kernel
theorem dX10_surely_47 : decode cX10_surely 47 = .ok (.lcmp, 1) := by decide +kernel
theorem dX10_surely_48 : decode cX10_surely 48 = .ok (.ifCond .eq 6, 3) := by decide +kernel
theorem dX10_surely_51 : decode cX10_surely 51 = .ok (.iload 4, 2) := by decide +kernel
theorem dX10_surely_53 : decode cX10_surely 53 = .ok (.ireturn, 1) := by decide +kernel
theorem dX10_surely_54 : decode cX10_surely 54 = .ok (.iinc 4 1, 3) := by decide +kernel
theorem dX10_surely_57 : decode cX10_surely 57 = .ok (.goto (-36), 3) := by decide +kernel
theorem dX10_surely_60 : decode cX10_surely 60 = .ok (.iconst (-1), 1) := by decide +kernel
theorem dX10_surely_61 : decode cX10_surely 61 = .ok (.ireturn, 1) := by decide +kernel
set_option maxRecDepth 20000 in
theorem ggX10_person_X10_isYear : GoodIn wsX10_person wsX10_isYear := goodIn_r _ [6] (by decide +kernel) (by decide +kernel)
set_option maxRecDepth 20000 in
theorem gX10_person_X10_isYear : GoodIn wsX10_person (va_wsS RX10 120 yX10_isYear wsX10_isYear) := goodIn_app (goodIn_of _ (by decide +kernel)) ggX10_person_X10_isYear
set_option maxRecDepth 20000 in
theorem ggX10_person_X10_isTheme : GoodIn wsX10_person wsX10_isTheme := goodIn_r _ [9] (by decide +kernel) (by decide +kernel)
set_option maxRecDepth 20000 in
theorem gX10_person_X10_isTheme : GoodIn wsX10_person (va_wsS RX10 132 yX10_isTheme wsX10_isTheme) := goodIn_app (goodIn_of _ (by decide +kernel)) ggX10_person_X10_isTheme
set_option maxRecDepth 20000 in
theorem ggX10_person_X10_isSpan : GoodIn wsX10_person wsX10_isSpan := goodIn_r _ [12, 3, 4, 5, 6] (by decide +kernel) (by decide +kernel)
set_option maxRecDepth 20000 in
theorem gX10_person_X10_isSpan : GoodIn wsX10_person (va_wsS RX10 91 yX10_isSpan wsX10_isSpan) := goodIn_app (goodIn_of _ (by decide +kernel)) ggX10_person_X10_isSpan
set_option maxRecDepth 20000 in
theorem ggX10_person_X3_add : GoodIn wsX10_person wsX3_add := goodIn_r _ [17, 18, 19, 20, 21, 22, 33, 34, 35, 36, 37] (by decide +kernel) (by decide +kernel)
set_option maxRecDepth 20000 in
theorem gX10_person_X3_add : GoodIn wsX10_person (wsV RX10 136 RX3 yX3_add wsX3_add) := goodIn_app (goodIn_of _ (by decide +kernel)) ggX10_person_X3_add
theorem dX10_person_0 : decode cX10_person 0 = .ok (.iload_n 1, 1) := by decide +kernel
theorem dX10_person_1 : decode cX10_person 1 = .ok (.invokestatic 120, 3) := by decide +kernel
theorem dX10_person_4 : decode cX10_person 4 = .ok (.ifCond .eq 10, 3) := by decide +kernel
theorem dX10_person_7 : decode cX10_person 7 = .ok (.iload_n 3, 1) := by decide +kernel
theorem dX10_person_8 : decode cX10_person 8 = .ok (.invokestatic 132, 3) := by decide +kernel
theorem dX10_person_11 : decode cX10_person 11 = .ok (.ifCond .ne 6, 3) := by decide +kernel
theorem dX10_person_14 : decode cX10_person 14 = .ok (.bipush (-2), 2) := by decide +kernel
theorem dX10_person_16 : decode cX10_person 16 = .ok (.ireturn, 1) := by decide +kernel
theorem dX10_person_17 : decode cX10_person 17 = .ok (.iload_n 2, 1) := by decide +kernel
theorem dX10_person_18 : decode cX10_person 18 = .ok (.iconst (-1), 1) := by decide +kernel
theorem dX10_person_19 : decode cX10_person 19 = .ok (.if_icmp .eq 14, 3) := by decide +kernel
theorem dX10_person_22 : decode cX10_person 22 = .ok (.iload_n 1, 1) := by decide +kernel
theorem dX10_person_23 : decode cX10_person 23 = .ok (.iload_n 2, 1) := by decide +kernel
theorem dX10_person_24 : decode cX10_person 24 = .ok (.invokestatic 91, 3) := by decide +kernel
theorem dX10_person_27 : decode cX10_person 27 = .ok (.ifCond .ne 6, 3) := by decide +kernel
theorem dX10_person_30 : decode cX10_person 30 = .ok (.bipush (-2), 2) := by decide +kernel
theorem dX10_person_32 : decode cX10_person 32 = .ok (.ireturn, 1) := by decide +kernel
theorem dX10_person_33 : decode cX10_person 33 = .ok (.aload_n 0, 1) := by decide +kernel
theorem dX10_person_34 : decode cX10_person 34 = .ok (.getfield 26, 3) := by decide +kernel
theorem dX10_person_37 : decode cX10_person 37 = .ok (.getfield 135, 3) := by decide +kernel
theorem dX10_person_40 : decode cX10_person 40 = .ok (.bipush 30, 2) := by decide +kernel
theorem dX10_person_42 : decode cX10_person 42 = .ok (.if_icmp .lt 6, 3) := by decide +kernel
theorem dX10_person_45 : decode cX10_person 45 = .ok (.bipush (-3), 2) := by decide +kernel
theorem dX10_person_47 : decode cX10_person 47 = .ok (.ireturn, 1) := by decide +kernel
theorem dX10_person_48 : decode cX10_person 48 = .ok (.aload_n 0, 1) := by decide +kernel
theorem dX10_person_49 : decode cX10_person 49 = .ok (.getfield 26, 3) := by decide +kernel
theorem dX10_person_52 : decode cX10_person 52 = .ok (.iload_n 1, 1) := by decide +kernel
theorem dX10_person_53 : decode cX10_person 53 = .ok (.iload_n 2, 1) := by decide +kernel
theorem dX10_person_54 : decode cX10_person 54 = .ok (.iload_n 3, 1) := by decide +kernel
theorem dX10_person_55 : decode cX10_person 55 = .ok (.invokevirtual 136, 3) := by decide +kernel
theorem dX10_person_58 : decode cX10_person 58 = .ok (.ireturn, 1) := by decide +kernel
set_option maxRecDepth 20000 in
theorem ggX10_join_X10_isPerson : GoodIn wsX10_join wsX10_isPerson := goodIn_r _ [6, 1, 7, 19, 20, 21, 22, 23, 24, 25, 26, 27, 28, 29, 30, 31, 32, 33] (by decide +kernel) (by decide +kernel)
set_option maxRecDepth 20000 in
theorem gX10_join_X10_isPerson : GoodIn wsX10_join (wsV RX10 140 RX10 yX10_isPerson wsX10_isPerson) := goodIn_app (goodIn_of _ (by decide +kernel)) ggX10_join_X10_isPerson
set_option maxRecDepth 20000 in
theorem ggX10_join_X3_areOne : GoodIn wsX10_join wsX3_areOne := goodIn_r _ [12, 13, 29, 30, 31, 32, 33] (by decide +kernel) (by decide +kernel)
set_option maxRecDepth 20000 in
theorem gX10_join_X3_areOne : GoodIn wsX10_join (wsV RX10 143 RX3 yX3_areOne wsX3_areOne) := goodIn_app (goodIn_of _ (by decide +kernel)) ggX10_join_X3_areOne
set_option maxRecDepth 20000 in
theorem ggX10_join_X3_makeOne : GoodIn wsX10_join wsX3_makeOne := goodIn_r _ [17, 13, 18, 29, 30, 31, 32, 33] (by decide +kernel) (by decide +kernel)
set_option maxRecDepth 20000 in
theorem gX10_join_X3_makeOne : GoodIn wsX10_join (wsV RX10 146 RX3 yX3_makeOne wsX3_makeOne) := goodIn_app (goodIn_of _ (by decide +kernel)) ggX10_join_X3_makeOne
theorem dX10_join_0 : decode cX10_join 0 = .ok (.aload_n 0, 1) := by decide +kernel
theorem dX10_join_1 : decode cX10_join 1 = .ok (.iload_n 1, 1) := by decide +kernel
theorem dX10_join_2 : decode cX10_join 2 = .ok (.invokevirtual 140, 3) := by decide +kernel
theorem dX10_join_5 : decode cX10_join 5 = .ok (.ifCond .eq 16, 3) := by decide +kernel
theorem dX10_join_8 : decode cX10_join 8 = .ok (.aload_n 0, 1) := by decide +kernel
theorem dX10_join_9 : decode cX10_join 9 = .ok (.iload_n 2, 1) := by decide +kernel
theorem dX10_join_10 : decode cX10_join 10 = .ok (.invokevirtual 140, 3) := by decide +kernel
theorem dX10_join_13 : decode cX10_join 13 = .ok (.ifCond .eq 8, 3) := by decide +kernel
theorem dX10_join_16 : decode cX10_join 16 = .ok (.iload_n 1, 1) := by decide +kernel
theorem dX10_join_17 : decode cX10_join 17 = .ok (.iload_n 2, 1) := by decide +kernel
theorem dX10_join_18 : decode cX10_join 18 = .ok (.if_icmp .ne 6, 3) := by decide +kernel
theorem dX10_join_21 : decode cX10_join 21 = .ok (.bipush (-2), 2) := by decide +kernel
theorem dX10_join_23 : decode cX10_join 23 = .ok (.ireturn, 1) := by decide +kernel
theorem dX10_join_24 : decode cX10_join 24 = .ok (.aload_n 0, 1) := by decide +kernel
theorem dX10_join_25 : decode cX10_join 25 = .ok (.getfield 26, 3) := by decide +kernel
theorem dX10_join_28 : decode cX10_join 28 = .ok (.iload_n 1, 1) := by decide +kernel
theorem dX10_join_29 : decode cX10_join 29 = .ok (.iload_n 2, 1) := by decide +kernel
theorem dX10_join_30 : decode cX10_join 30 = .ok (.invokevirtual 143, 3) := by decide +kernel
theorem dX10_join_33 : decode cX10_join 33 = .ok (.ifCond .eq 5, 3) := by decide +kernel
theorem dX10_join_36 : decode cX10_join 36 = .ok (.iconst 0, 1) := by decide +kernel
theorem dX10_join_37 : decode cX10_join 37 = .ok (.ireturn, 1) := by decide +kernel
theorem dX10_join_38 : decode cX10_join 38 = .ok (.aload_n 0, 1) := by decide +kernel
theorem dX10_join_39 : decode cX10_join 39 = .ok (.getfield 26, 3) := by decide +kernel
theorem dX10_join_42 : decode cX10_join 42 = .ok (.iload_n 1, 1) := by decide +kernel
theorem dX10_join_43 : decode cX10_join 43 = .ok (.iload_n 2, 1) := by decide +kernel
theorem dX10_join_44 : decode cX10_join 44 = .ok (.invokevirtual 146, 3) := by decide +kernel
theorem dX10_join_47 : decode cX10_join 47 = .ok (.iconst 1, 1) := by decide +kernel
theorem dX10_join_48 : decode cX10_join 48 = .ok (.ireturn, 1) := by decide +kernel
set_option maxRecDepth 20000 in
theorem ggX10_paper_X10_isPerson : GoodIn wsX10_paper wsX10_isPerson := goodIn_r _ [7, 8, 9, 31, 32, 33, 34, 35, 36, 37, 38, 39, 40, 49, 50, 51, 52, 53] (by decide +kernel) (by decide +kernel)
set_option maxRecDepth 20000 in
theorem gX10_paper_X10_isPerson : GoodIn wsX10_paper (wsV RX10 140 RX10 yX10_isPerson wsX10_isPerson) := goodIn_app (goodIn_of _ (by decide +kernel)) ggX10_paper_X10_isPerson
set_option maxRecDepth 20000 in
theorem ggX10_paper_X10_isAddress : GoodIn wsX10_paper wsX10_isAddress := goodIn_r _ [12] (by decide +kernel) (by decide +kernel)
set_option maxRecDepth 20000 in
theorem gX10_paper_X10_isAddress : GoodIn wsX10_paper (va_wsS RX10 95 yX10_isAddress wsX10_isAddress) := goodIn_app (goodIn_of _ (by decide +kernel)) ggX10_paper_X10_isAddress
set_option maxRecDepth 20000 in
theorem ggX10_paper_X10_isSpan : GoodIn wsX10_paper wsX10_isSpan := goodIn_r _ [15, 16, 17, 6, 18] (by decide +kernel) (by decide +kernel)
set_option maxRecDepth 20000 in
theorem gX10_paper_X10_isSpan : GoodIn wsX10_paper (va_wsS RX10 91 yX10_isSpan wsX10_isSpan) := goodIn_app (goodIn_of _ (by decide +kernel)) ggX10_paper_X10_isSpan
set_option maxRecDepth 20000 in
theorem ggX10_paper_X2_add : GoodIn wsX10_paper wsX2_add := goodIn_r _ [23, 24, 25, 26, 27, 28, 29, 30, 41, 42, 43, 44, 45, 46, 47, 48] (by decide +kernel) (by decide +kernel)
set_option maxRecDepth 20000 in
theorem gX10_paper_X2_add : GoodIn wsX10_paper (wsV RX10 151 RX2 yX2_add wsX2_add) := goodIn_app (goodIn_of _ (by decide +kernel)) ggX10_paper_X2_add
theorem dX10_paper_0 : decode cX10_paper 0 = .ok (.aload_n 0, 1) := by decide +kernel
theorem dX10_paper_1 : decode cX10_paper 1 = .ok (.iload_n 1, 1) := by decide +kernel
theorem dX10_paper_2 : decode cX10_paper 2 = .ok (.invokevirtual 140, 3) := by decide +kernel
theorem dX10_paper_5 : decode cX10_paper 5 = .ok (.ifCond .eq 21, 3) := by decide +kernel
theorem dX10_paper_8 : decode cX10_paper 8 = .ok (.iload_n 2, 1) := by decide +kernel
theorem dX10_paper_9 : decode cX10_paper 9 = .ok (.ifCond .lt 17, 3) := by decide +kernel
theorem dX10_paper_12 : decode cX10_paper 12 = .ok (.iload_n 2, 1) := by decide +kernel
theorem dX10_paper_13 : decode cX10_paper 13 = .ok (.iconst 5, 1) := by decide +kernel
theorem dX10_paper_14 : decode cX10_paper 14 = .ok (.if_icmp .gt 12, 3) := by decide +kernel
theorem dX10_paper_17 : decode cX10_paper 17 = .ok (.iload_n 3, 1) := by decide +kernel
theorem dX10_paper_18 : decode cX10_paper 18 = .ok (.iload 4, 2) := by decide +kernel
theorem dX10_paper_20 : decode cX10_paper 20 = .ok (.invokestatic 95, 3) := by decide +kernel
theorem dX10_paper_23 : decode cX10_paper 23 = .ok (.ifCond .ne 6, 3) := by decide +kernel
theorem dX10_paper_26 : decode cX10_paper 26 = .ok (.bipush (-2), 2) := by decide +kernel
theorem dX10_paper_28 : decode cX10_paper 28 = .ok (.ireturn, 1) := by decide +kernel
theorem dX10_paper_29 : decode cX10_paper 29 = .ok (.iload 5, 2) := by decide +kernel
theorem dX10_paper_31 : decode cX10_paper 31 = .ok (.iload 6, 2) := by decide +kernel
theorem dX10_paper_33 : decode cX10_paper 33 = .ok (.invokestatic 91, 3) := by decide +kernel
theorem dX10_paper_36 : decode cX10_paper 36 = .ok (.ifCond .eq 13, 3) := by decide +kernel
theorem dX10_paper_39 : decode cX10_paper 39 = .ok (.iload 6, 2) := by decide +kernel
theorem dX10_paper_41 : decode cX10_paper 41 = .ok (.iload 5, 2) := by decide +kernel
theorem dX10_paper_43 : decode cX10_paper 43 = .ok (.isub, 1) := by decide +kernel
theorem dX10_paper_44 : decode cX10_paper 44 = .ok (.bipush 60, 2) := by decide +kernel
theorem dX10_paper_46 : decode cX10_paper 46 = .ok (.if_icmp .lt 6, 3) := by decide +kernel
theorem dX10_paper_49 : decode cX10_paper 49 = .ok (.bipush (-2), 2) := by decide +kernel
theorem dX10_paper_51 : decode cX10_paper 51 = .ok (.ireturn, 1) := by decide +kernel
theorem dX10_paper_52 : decode cX10_paper 52 = .ok (.aload_n 0, 1) := by decide +kernel
theorem dX10_paper_53 : decode cX10_paper 53 = .ok (.getfield 33, 3) := by decide +kernel
theorem dX10_paper_56 : decode cX10_paper 56 = .ok (.getfield 150, 3) := by decide +kernel
theorem dX10_paper_59 : decode cX10_paper 59 = .ok (.bipush 100, 2) := by decide +kernel
theorem dX10_paper_61 : decode cX10_paper 61 = .ok (.if_icmp .lt 6, 3) := by decide +kernel
theorem dX10_paper_64 : decode cX10_paper 64 = .ok (.bipush (-3), 2) := by decide +kernel
theorem dX10_paper_66 : decode cX10_paper 66 = .ok (.ireturn, 1) := by decide +kernel
theorem dX10_paper_67 : decode cX10_paper 67 = .ok (.aload_n 0, 1) := by decide +kernel
theorem dX10_paper_68 : decode cX10_paper 68 = .ok (.getfield 33, 3) := by decide +kernel
theorem dX10_paper_71 : decode cX10_paper 71 = .ok (.iload_n 1, 1) := by decide +kernel
theorem dX10_paper_72 : decode cX10_paper 72 = .ok (.iload_n 2, 1) := by decide +kernel
theorem dX10_paper_73 : decode cX10_paper 73 = .ok (.iload_n 3, 1) := by decide +kernel
theorem dX10_paper_74 : decode cX10_paper 74 = .ok (.iload 4, 2) := by decide +kernel
theorem dX10_paper_76 : decode cX10_paper 76 = .ok (.iload 5, 2) := by decide +kernel
theorem dX10_paper_78 : decode cX10_paper 78 = .ok (.iload 6, 2) := by decide +kernel
theorem dX10_paper_80 : decode cX10_paper 80 = .ok (.invokevirtual 151, 3) := by decide +kernel
theorem dX10_paper_83 : decode cX10_paper 83 = .ok (.ireturn, 1) := by decide +kernel
theorem dX10_falsify_0 : decode cX10_falsify 0 = .ok (.iload_n 1, 1) := by decide +kernel
theorem dX10_falsify_1 : decode cX10_falsify 1 = .ok (.ifCond .lt 14, 3) := by decide +kernel
theorem dX10_falsify_4 : decode cX10_falsify 4 = .ok (.iload_n 1, 1) := by decide +kernel
theorem dX10_falsify_5 : decode cX10_falsify 5 = .ok (.aload_n 0, 1) := by decide +kernel
theorem dX10_falsify_6 : decode cX10_falsify 6 = .ok (.getfield 33, 3) := by decide +kernel
theorem dX10_falsify_9 : decode cX10_falsify 9 = .ok (.getfield 150, 3) := by decide +kernel
theorem dX10_falsify_12 : decode cX10_falsify 12 = .ok (.if_icmp .lt 6, 3) := by decide +kernel
theorem dX10_falsify_15 : decode cX10_falsify 15 = .ok (.bipush (-2), 2) := by decide +kernel
theorem dX10_falsify_17 : decode cX10_falsify 17 = .ok (.ireturn, 1) := by decide +kernel
theorem dX10_falsify_18 : decode cX10_falsify 18 = .ok (.aload_n 0, 1) := by decide +kernel
theorem dX10_falsify_19 : decode cX10_falsify 19 = .ok (.getfield 33, 3) := by decide +kernel
theorem dX10_falsify_22 : decode cX10_falsify 22 = .ok (.getfield 154, 3) := by decide +kernel
theorem dX10_falsify_25 : decode cX10_falsify 25 = .ok (.iload_n 1, 1) := by decide +kernel
theorem dX10_falsify_26 : decode cX10_falsify 26 = .ok (.baload, 1) := by decide +kernel
theorem dX10_falsify_27 : decode cX10_falsify 27 = .ok (.iload_n 2, 1) := by decide +kernel
theorem dX10_falsify_28 : decode cX10_falsify 28 = .ok (.if_icmp .ne 5, 3) := by decide +kernel
theorem dX10_falsify_31 : decode cX10_falsify 31 = .ok (.iconst 0, 1) := by decide +kernel
theorem dX10_falsify_32 : decode cX10_falsify 32 = .ok (.ireturn, 1) := by decide +kernel
theorem dX10_falsify_33 : decode cX10_falsify 33 = .ok (.aload_n 0, 1) := by decide +kernel
theorem dX10_falsify_34 : decode cX10_falsify 34 = .ok (.getfield 33, 3) := by decide +kernel
theorem dX10_falsify_37 : decode cX10_falsify 37 = .ok (.getfield 154, 3) := by decide +kernel
theorem dX10_falsify_40 : decode cX10_falsify 40 = .ok (.iload_n 1, 1) := by decide +kernel
theorem dX10_falsify_41 : decode cX10_falsify 41 = .ok (.iload_n 2, 1) := by decide +kernel
theorem dX10_falsify_42 : decode cX10_falsify 42 = .ok (.bastore, 1) := by decide +kernel
theorem dX10_falsify_43 : decode cX10_falsify 43 = .ok (.iconst 1, 1) := by decide +kernel
theorem dX10_falsify_44 : decode cX10_falsify 44 = .ok (.ireturn, 1) := by decide +kernel
set_option maxRecDepth 20000 in
theorem ggX10_lived_X10_isPerson : GoodIn wsX10_lived wsX10_isPerson := goodIn_r _ [6, 7, 8, 121, 122, 123, 124, 125, 126, 127, 128, 129, 130, 131, 132, 133, 134, 135] (by decide +kernel) (by decide +kernel)
set_option maxRecDepth 20000 in
theorem gX10_lived_X10_isPerson : GoodIn wsX10_lived (wsV RX10 140 RX10 yX10_isPerson wsX10_isPerson) := goodIn_app (goodIn_of _ (by decide +kernel)) ggX10_lived_X10_isPerson
set_option maxRecDepth 20000 in
theorem ggX10_lived_X10_isSite : GoodIn wsX10_lived wsX10_isSite := goodIn_r _ [12, 13, 14, 121, 122, 123, 124, 125, 126, 127, 128, 129, 130, 136, 137, 138, 139, 140, 141] (by decide +kernel) (by decide +kernel)
set_option maxRecDepth 20000 in
theorem gX10_lived_X10_isSite : GoodIn wsX10_lived (wsV RX10 105 RX10 yX10_isSite wsX10_isSite) := goodIn_app (goodIn_of _ (by decide +kernel)) ggX10_lived_X10_isSite
set_option maxRecDepth 20000 in
theorem ggX10_lived_X7_study : GoodIn wsX10_lived wsX7_study := goodIn_r _ [19, 20, 21, 22, 23, 24, 25, 26, 27, 28, 29, 30, 31, 32, 33, 34, 35, 36, 18, 37, 38, 39, 40, 41, 42, 43, 44, 45, 46, 47, 48, 49, 50, 51, 52, 53, 54, 55, 56, 57, 58, 59, 60, 61, 62, 63, 64, 65, 66, 67, 68, 69, 70, 142, 143, 144, 145, 146, 147, 148, 149, 150, 151, 152, 153, 154, 155, 131, 132, 133, 134, 135, 136, 137, 138, 139, 140, 141] (by decide +kernel) (by decide +kernel)
set_option maxRecDepth 20000 in
theorem gX10_lived_X7_study : GoodIn wsX10_lived (wsV RX10 158 RX7 yX7_study wsX7_study) := goodIn_app (goodIn_of _ (by decide +kernel)) ggX10_lived_X7_study
set_option maxRecDepth 20000 in
theorem ggX10_lived_X7_sureYears : GoodIn wsX10_lived wsX7_sureYears := goodIn_r _ [74, 20, 75, 76, 18, 77, 78, 79, 80, 81, 82, 83, 84, 142, 143, 144, 145, 146, 147] (by decide +kernel) (by decide +kernel)
set_option maxRecDepth 20000 in
theorem gX10_lived_X7_sureYears : GoodIn wsX10_lived (wsV RX10 161 RX7 yX7_sureYears wsX7_sureYears) := goodIn_app (goodIn_of _ (by decide +kernel)) ggX10_lived_X7_sureYears
set_option maxRecDepth 20000 in
theorem ggX10_lived_X7_maybeYears : GoodIn wsX10_lived wsX7_maybeYears := goodIn_r _ [88, 21, 75, 76, 18, 77, 78, 79, 80, 81, 82, 83, 84, 142, 143, 144, 145, 146, 147] (by decide +kernel) (by decide +kernel)
set_option maxRecDepth 20000 in
theorem gX10_lived_X7_maybeYears : GoodIn wsX10_lived (wsV RX10 165 RX7 yX7_maybeYears wsX7_maybeYears) := goodIn_app (goodIn_of _ (by decide +kernel)) ggX10_lived_X7_maybeYears
set_option maxRecDepth 20000 in
theorem ggX10_lived_X7_firstSureYear : GoodIn wsX10_lived wsX7_firstSureYear := goodIn_r _ [92, 20, 93, 94, 80, 95, 96, 97, 98, 99, 100, 142, 143, 144, 145, 146, 147] (by decide +kernel) (by decide +kernel)
set_option maxRecDepth 20000 in
theorem gX10_lived_X7_firstSureYear : GoodIn wsX10_lived (wsV RX10 168 RX7 yX7_firstSureYear wsX7_firstSureYear) := goodIn_app (goodIn_of _ (by decide +kernel)) ggX10_lived_X7_firstSureYear
set_option maxRecDepth 20000 in
theorem ggX10_lived_X7_lastSureYear : GoodIn wsX10_lived wsX7_lastSureYear := goodIn_r _ [104, 20, 105, 106, 80, 107, 108, 109, 98, 110, 100, 142, 143, 144, 145, 146, 147] (by decide +kernel) (by decide +kernel)
set_option maxRecDepth 20000 in
theorem gX10_lived_X7_lastSureYear : GoodIn wsX10_lived (wsV RX10 171 RX7 yX7_lastSureYear wsX7_lastSureYear) := goodIn_app (goodIn_of _ (by decide +kernel)) ggX10_lived_X7_lastSureYear
set_option maxRecDepth 20000 in
theorem ggX10_lived_X7_sources : GoodIn wsX10_lived wsX7_sources := goodIn_r _ [114, 22, 115, 116, 98, 117, 118, 119, 120, 142, 143, 144, 145, 146, 147] (by decide +kernel) (by decide +kernel)
set_option maxRecDepth 20000 in
theorem gX10_lived_X7_sources : GoodIn wsX10_lived (wsV RX10 174 RX7 yX7_sources wsX7_sources) := goodIn_app (goodIn_of _ (by decide +kernel)) ggX10_lived_X7_sources
theorem dX10_lived_0 : decode cX10_lived 0 = .ok (.aload_n 0, 1) := by decide +kernel
theorem dX10_lived_1 : decode cX10_lived 1 = .ok (.iload_n 1, 1) := by decide +kernel
theorem dX10_lived_2 : decode cX10_lived 2 = .ok (.invokevirtual 140, 3) := by decide +kernel
theorem dX10_lived_5 : decode cX10_lived 5 = .ok (.ifCond .eq 11, 3) := by decide +kernel
theorem dX10_lived_8 : decode cX10_lived 8 = .ok (.aload_n 0, 1) := by decide +kernel
theorem dX10_lived_9 : decode cX10_lived 9 = .ok (.iload_n 2, 1) := by decide +kernel
theorem dX10_lived_10 : decode cX10_lived 10 = .ok (.invokevirtual 105, 3) := by decide +kernel
theorem dX10_lived_13 : decode cX10_lived 13 = .ok (.ifCond .ne 6, 3) := by decide +kernel
theorem dX10_lived_16 : decode cX10_lived 16 = .ok (.bipush (-2), 2) := by decide +kernel
theorem dX10_lived_18 : decode cX10_lived 18 = .ok (.ireturn, 1) := by decide +kernel
theorem dX10_lived_19 : decode cX10_lived 19 = .ok (.aload_n 0, 1) := by decide +kernel
theorem dX10_lived_20 : decode cX10_lived 20 = .ok (.getfield 42, 3) := by decide +kernel
theorem dX10_lived_23 : decode cX10_lived 23 = .ok (.iload_n 1, 1) := by decide +kernel
theorem dX10_lived_24 : decode cX10_lived 24 = .ok (.iload_n 2, 1) := by decide +kernel
theorem dX10_lived_25 : decode cX10_lived 25 = .ok (.invokevirtual 158, 3) := by decide +kernel
theorem dX10_lived_28 : decode cX10_lived 28 = .ok (.iload_n 3, 1) := by decide +kernel
theorem dX10_lived_29 : decode cX10_lived 29 = .ok (.tableswitch 75 0 4 #[35, 43, 51, 59, 67], 35) := by decide +kernel
theorem dX10_lived_64 : decode cX10_lived 64 = .ok (.aload_n 0, 1) := by decide +kernel
theorem dX10_lived_65 : decode cX10_lived 65 = .ok (.getfield 42, 3) := by decide +kernel
theorem dX10_lived_68 : decode cX10_lived 68 = .ok (.invokevirtual 161, 3) := by decide +kernel
theorem dX10_lived_71 : decode cX10_lived 71 = .ok (.ireturn, 1) := by decide +kernel
theorem dX10_lived_72 : decode cX10_lived 72 = .ok (.aload_n 0, 1) := by decide +kernel
theorem dX10_lived_73 : decode cX10_lived 73 = .ok (.getfield 42, 3) := by decide +kernel
theorem dX10_lived_76 : decode cX10_lived 76 = .ok (.invokevirtual 165, 3) := by decide +kernel
theorem dX10_lived_79 : decode cX10_lived 79 = .ok (.ireturn, 1) := by decide +kernel
theorem dX10_lived_80 : decode cX10_lived 80 = .ok (.aload_n 0, 1) := by decide +kernel
theorem dX10_lived_81 : decode cX10_lived 81 = .ok (.getfield 42, 3) := by decide +kernel
theorem dX10_lived_84 : decode cX10_lived 84 = .ok (.invokevirtual 168, 3) := by decide +kernel
theorem dX10_lived_87 : decode cX10_lived 87 = .ok (.ireturn, 1) := by decide +kernel
theorem dX10_lived_88 : decode cX10_lived 88 = .ok (.aload_n 0, 1) := by decide +kernel
theorem dX10_lived_89 : decode cX10_lived 89 = .ok (.getfield 42, 3) := by decide +kernel
theorem dX10_lived_92 : decode cX10_lived 92 = .ok (.invokevirtual 171, 3) := by decide +kernel
theorem dX10_lived_95 : decode cX10_lived 95 = .ok (.ireturn, 1) := by decide +kernel
theorem dX10_lived_96 : decode cX10_lived 96 = .ok (.aload_n 0, 1) := by decide +kernel
theorem dX10_lived_97 : decode cX10_lived 97 = .ok (.getfield 42, 3) := by decide +kernel
theorem dX10_lived_100 : decode cX10_lived 100 = .ok (.invokevirtual 174, 3) := by decide +kernel
theorem dX10_lived_103 : decode cX10_lived 103 = .ok (.ireturn, 1) := by decide +kernel
theorem dX10_lived_104 : decode cX10_lived 104 = .ok (.iconst (-1), 1) := by decide +kernel
theorem dX10_lived_105 : decode cX10_lived 105 = .ok (.ireturn, 1) := by decide +kernel
set_option maxRecDepth 20000 in
theorem ggX10_rules_X5_read : GoodIn wsX10_rules wsX5_read := goodIn_r _ [12, 13, 14, 15, 16, 17, 18, 19, 20, 21, 22, 23, 24, 25, 26, 27, 28, 29, 30, 31, 32, 33, 11, 34, 35, 36, 37, 38, 39, 40, 41, 42, 43, 44, 45, 46, 47, 48, 49, 50, 51, 52, 53, 54, 55, 56, 57, 58, 59, 60, 61, 62, 63, 64, 65, 66, 67, 68, 69, 70, 71, 72, 73, 74, 75, 76, 77, 78, 79, 80, 81, 82, 83, 84, 85, 86, 87, 88, 89, 90, 91, 92, 93, 94, 95, 96, 97, 98, 99, 100, 101, 102, 103, 104, 105, 106, 107, 108, 109, 110, 111, 112, 113, 114, 115, 116, 117, 118, 119, 120, 121, 122, 123, 124, 125, 126, 127, 128, 129, 130, 131, 132, 133, 134, 155, 156, 157, 158, 159, 160, 161, 162, 163, 164, 165, 166, 153, 154, 167] (by decide +kernel) (by decide +kernel)
set_option maxRecDepth 20000 in
theorem gX10_rules_X5_read : GoodIn wsX10_rules (wsV RX10 177 RX5 yX5_read wsX5_read) := goodIn_app (goodIn_of _ (by decide +kernel)) ggX10_rules_X5_read
set_option maxRecDepth 20000 in
theorem ggX10_rules_X4_copy : GoodIn wsX10_rules wsX4_copy := goodIn_r _ [138, 30, 139, 140, 141, 142, 167] (by decide +kernel) (by decide +kernel)
set_option maxRecDepth 20000 in
theorem gX10_rules_X4_copy : GoodIn wsX10_rules (wsV RX10 186 RX4 yX4_copy wsX4_copy) := goodIn_app (goodIn_of _ (by decide +kernel)) ggX10_rules_X4_copy
theorem dX10_rules_0 : decode cX10_rules 0 = .ok (.aload_n 0, 1) := by decide +kernel
theorem dX10_rules_1 : decode cX10_rules 1 = .ok (.getfield 58, 3) := by decide +kernel
theorem dX10_rules_4 : decode cX10_rules 4 = .ok (.invokevirtual 177, 3) := by decide +kernel
theorem dX10_rules_7 : decode cX10_rules 7 = .ok (.aload_n 0, 1) := by decide +kernel
theorem dX10_rules_8 : decode cX10_rules 8 = .ok (.getfield 10, 3) := by decide +kernel
theorem dX10_rules_11 : decode cX10_rules 11 = .ok (.iconst 0, 1) := by decide +kernel
theorem dX10_rules_12 : decode cX10_rules 12 = .ok (.putfield 83, 3) := by decide +kernel
theorem dX10_rules_15 : decode cX10_rules 15 = .ok (.aload_n 0, 1) := by decide +kernel
theorem dX10_rules_16 : decode cX10_rules 16 = .ok (.getfield 58, 3) := by decide +kernel
theorem dX10_rules_19 : decode cX10_rules 19 = .ok (.getfield 180, 3) := by decide +kernel
theorem dX10_rules_22 : decode cX10_rules 22 = .ok (.ifCond .eq 5, 3) := by decide +kernel
theorem dX10_rules_25 : decode cX10_rules 25 = .ok (.iconst (-1), 1) := by decide +kernel
theorem dX10_rules_26 : decode cX10_rules 26 = .ok (.ireturn, 1) := by decide +kernel
theorem dX10_rules_27 : decode cX10_rules 27 = .ok (.aload_n 0, 1) := by decide +kernel
theorem dX10_rules_28 : decode cX10_rules 28 = .ok (.getfield 49, 3) := by decide +kernel
theorem dX10_rules_31 : decode cX10_rules 31 = .ok (.aload_n 0, 1) := by decide +kernel
theorem dX10_rules_32 : decode cX10_rules 32 = .ok (.getfield 58, 3) := by decide +kernel
theorem dX10_rules_35 : decode cX10_rules 35 = .ok (.getfield 183, 3) := by decide +kernel
theorem dX10_rules_38 : decode cX10_rules 38 = .ok (.invokevirtual 186, 3) := by decide +kernel
theorem dX10_rules_41 : decode cX10_rules 41 = .ok (.aload_n 0, 1) := by decide +kernel
theorem dX10_rules_42 : decode cX10_rules 42 = .ok (.getfield 58, 3) := by decide +kernel
theorem dX10_rules_45 : decode cX10_rules 45 = .ok (.getfield 190, 3) := by decide +kernel
theorem dX10_rules_48 : decode cX10_rules 48 = .ok (.ireturn, 1) := by decide +kernel
theorem dX10_fault_0 : decode cX10_fault 0 = .ok (.iload_n 1, 1) := by decide +kernel
theorem dX10_fault_1 : decode cX10_fault 1 = .ok (.lookupswitch 43 #[(0, 27), (1, 35)], 27) := by decide +kernel
theorem dX10_fault_28 : decode cX10_fault 28 = .ok (.aload_n 0, 1) := by decide +kernel
theorem dX10_fault_29 : decode cX10_fault 29 = .ok (.getfield 58, 3) := by decide +kernel
theorem dX10_fault_32 : decode cX10_fault 32 = .ok (.getfield 180, 3) := by decide +kernel
theorem dX10_fault_35 : decode cX10_fault 35 = .ok (.ireturn, 1) := by decide +kernel
theorem dX10_fault_36 : decode cX10_fault 36 = .ok (.aload_n 0, 1) := by decide +kernel
theorem dX10_fault_37 : decode cX10_fault 37 = .ok (.getfield 58, 3) := by decide +kernel
theorem dX10_fault_40 : decode cX10_fault 40 = .ok (.getfield 193, 3) := by decide +kernel
theorem dX10_fault_43 : decode cX10_fault 43 = .ok (.ireturn, 1) := by decide +kernel
theorem dX10_fault_44 : decode cX10_fault 44 = .ok (.iconst (-1), 1) := by decide +kernel
theorem dX10_fault_45 : decode cX10_fault 45 = .ok (.ireturn, 1) := by decide +kernel
theorem dX10_rule_0 : decode cX10_rule 0 = .ok (.iload_n 1, 1) := by decide +kernel
theorem dX10_rule_1 : decode cX10_rule 1 = .ok (.ifCond .lt 9, 3) := by decide +kernel
theorem dX10_rule_4 : decode cX10_rule 4 = .ok (.iload_n 1, 1) := by decide +kernel
theorem dX10_rule_5 : decode cX10_rule 5 = .ok (.bipush 7, 2) := by decide +kernel
theorem dX10_rule_7 : decode cX10_rule 7 = .ok (.if_icmp .le 15, 3) := by decide +kernel
theorem dX10_rule_10 : decode cX10_rule 10 = .ok (.iload_n 1, 1) := by decide +kernel
theorem dX10_rule_11 : decode cX10_rule 11 = .ok (.bipush 10, 2) := by decide +kernel
theorem dX10_rule_13 : decode cX10_rule 13 = .ok (.if_icmp .lt 13, 3) := by decide +kernel
theorem dX10_rule_16 : decode cX10_rule 16 = .ok (.iload_n 1, 1) := by decide +kernel
theorem dX10_rule_17 : decode cX10_rule 17 = .ok (.bipush 18, 2) := by decide +kernel
theorem dX10_rule_19 : decode cX10_rule 19 = .ok (.if_icmp .ge 7, 3) := by decide +kernel
theorem dX10_rule_22 : decode cX10_rule 22 = .ok (.iconst 1, 1) := by decide +kernel
theorem dX10_rule_23 : decode cX10_rule 23 = .ok (.goto 4, 3) := by decide +kernel
theorem dX10_rule_26 : decode cX10_rule 26 = .ok (.iconst 0, 1) := by decide +kernel
theorem dX10_rule_27 : decode cX10_rule 27 = .ok (.istore_n 2, 1) := by decide +kernel
theorem dX10_rule_28 : decode cX10_rule 28 = .ok (.iload_n 2, 1) := by decide +kernel
theorem dX10_rule_29 : decode cX10_rule 29 = .ok (.ifCond .eq 15, 3) := by decide +kernel
theorem dX10_rule_32 : decode cX10_rule 32 = .ok (.aload_n 0, 1) := by decide +kernel
theorem dX10_rule_33 : decode cX10_rule 33 = .ok (.getfield 49, 3) := by decide +kernel
theorem dX10_rule_36 : decode cX10_rule 36 = .ok (.getfield 196, 3) := by decide +kernel
theorem dX10_rule_39 : decode cX10_rule 39 = .ok (.iload_n 1, 1) := by decide +kernel
theorem dX10_rule_40 : decode cX10_rule 40 = .ok (.iaload, 1) := by decide +kernel
theorem dX10_rule_41 : decode cX10_rule 41 = .ok (.goto 5, 3) := by decide +kernel
theorem dX10_rule_44 : decode cX10_rule 44 = .ok (.bipush (-9), 2) := by decide +kernel
theorem dX10_rule_46 : decode cX10_rule 46 = .ok (.ireturn, 1) := by decide +kernel
set_option maxRecDepth 20000 in
theorem ggX10_ask_X10_isPerson : GoodIn wsX10_ask wsX10_isPerson := goodIn_r _ [7, 8, 9, 35, 36, 37, 38, 39, 40, 41, 42, 43, 44, 56, 57, 58, 59, 60] (by decide +kernel) (by decide +kernel)
set_option maxRecDepth 20000 in
theorem gX10_ask_X10_isPerson : GoodIn wsX10_ask (wsV RX10 140 RX10 yX10_isPerson wsX10_isPerson) := goodIn_app (goodIn_of _ (by decide +kernel)) ggX10_ask_X10_isPerson
set_option maxRecDepth 20000 in
theorem ggX10_ask_X10_isSite : GoodIn wsX10_ask wsX10_isSite := goodIn_r _ [13, 14, 15, 35, 36, 37, 38, 39, 40, 41, 42, 43, 44, 61, 62, 63, 64, 65, 66] (by decide +kernel) (by decide +kernel)
set_option maxRecDepth 20000 in
theorem gX10_ask_X10_isSite : GoodIn wsX10_ask (wsV RX10 105 RX10 yX10_isSite wsX10_isSite) := goodIn_app (goodIn_of _ (by decide +kernel)) ggX10_ask_X10_isSite
set_option maxRecDepth 20000 in
theorem ggX10_ask_X10_isYear : GoodIn wsX10_ask wsX10_isYear := goodIn_r _ [18] (by decide +kernel) (by decide +kernel)
set_option maxRecDepth 20000 in
theorem gX10_ask_X10_isYear : GoodIn wsX10_ask (va_wsS RX10 120 yX10_isYear wsX10_isYear) := goodIn_app (goodIn_of _ (by decide +kernel)) ggX10_ask_X10_isYear
set_option maxRecDepth 20000 in
theorem ggX10_ask_X0_latestYear : GoodIn wsX10_ask wsX0_latestYear := goodIn_r _ [23, 24, 25, 45, 46, 47, 48, 49, 50, 51, 52, 53, 54, 55] (by decide +kernel) (by decide +kernel)
set_option maxRecDepth 20000 in
theorem gX10_ask_X0_latestYear : GoodIn wsX10_ask (wsV RX10 199 RX0 yX0_latestYear wsX0_latestYear) := goodIn_app (goodIn_of _ (by decide +kernel)) ggX10_ask_X0_latestYear
set_option maxRecDepth 20000 in
theorem ggX10_ask_X0_add : GoodIn wsX10_ask wsX0_add := goodIn_r _ [29, 24, 30, 31, 25, 32, 33, 34, 45, 46, 47, 48, 49, 50, 51, 52, 53, 54, 55] (by decide +kernel) (by decide +kernel)
set_option maxRecDepth 20000 in
theorem gX10_ask_X0_add : GoodIn wsX10_ask (wsV RX10 203 RX0 yX0_add wsX0_add) := goodIn_app (goodIn_of _ (by decide +kernel)) ggX10_ask_X0_add
theorem dX10_ask_0 : decode cX10_ask 0 = .ok (.aload_n 0, 1) := by decide +kernel
theorem dX10_ask_1 : decode cX10_ask 1 = .ok (.iload_n 1, 1) := by decide +kernel
theorem dX10_ask_2 : decode cX10_ask 2 = .ok (.invokevirtual 140, 3) := by decide +kernel
theorem dX10_ask_5 : decode cX10_ask 5 = .ok (.ifCond .eq 29, 3) := by decide +kernel
theorem dX10_ask_8 : decode cX10_ask 8 = .ok (.aload_n 0, 1) := by decide +kernel
theorem dX10_ask_9 : decode cX10_ask 9 = .ok (.iload_n 2, 1) := by decide +kernel
theorem dX10_ask_10 : decode cX10_ask 10 = .ok (.invokevirtual 105, 3) := by decide +kernel
theorem dX10_ask_13 : decode cX10_ask 13 = .ok (.ifCond .eq 21, 3) := by decide +kernel
theorem dX10_ask_16 : decode cX10_ask 16 = .ok (.iload_n 3, 1) := by decide +kernel
theorem dX10_ask_17 : decode cX10_ask 17 = .ok (.invokestatic 120, 3) := by decide +kernel
theorem dX10_ask_20 : decode cX10_ask 20 = .ok (.ifCond .eq 14, 3) := by decide +kernel
theorem dX10_ask_23 : decode cX10_ask 23 = .ok (.iload_n 3, 1) := by decide +kernel
theorem dX10_ask_24 : decode cX10_ask 24 = .ok (.aload_n 0, 1) := by decide +kernel
theorem dX10_ask_25 : decode cX10_ask 25 = .ok (.getfield 65, 3) := by decide +kernel
theorem dX10_ask_28 : decode cX10_ask 28 = .ok (.invokevirtual 199, 3) := by decide +kernel
theorem dX10_ask_31 : decode cX10_ask 31 = .ok (.if_icmp .ge 6, 3) := by decide +kernel
theorem dX10_ask_34 : decode cX10_ask 34 = .ok (.bipush (-2), 2) := by decide +kernel
theorem dX10_ask_36 : decode cX10_ask 36 = .ok (.ireturn, 1) := by decide +kernel
theorem dX10_ask_37 : decode cX10_ask 37 = .ok (.aload_n 0, 1) := by decide +kernel
theorem dX10_ask_38 : decode cX10_ask 38 = .ok (.getfield 65, 3) := by decide +kernel
theorem dX10_ask_41 : decode cX10_ask 41 = .ok (.getfield 202, 3) := by decide +kernel
theorem dX10_ask_44 : decode cX10_ask 44 = .ok (.bipush 40, 2) := by decide +kernel
theorem dX10_ask_46 : decode cX10_ask 46 = .ok (.if_icmp .lt 6, 3) := by decide +kernel
theorem dX10_ask_49 : decode cX10_ask 49 = .ok (.bipush (-3), 2) := by decide +kernel
theorem dX10_ask_51 : decode cX10_ask 51 = .ok (.ireturn, 1) := by decide +kernel
theorem dX10_ask_52 : decode cX10_ask 52 = .ok (.aload_n 0, 1) := by decide +kernel
theorem dX10_ask_53 : decode cX10_ask 53 = .ok (.getfield 65, 3) := by decide +kernel
theorem dX10_ask_56 : decode cX10_ask 56 = .ok (.iload_n 1, 1) := by decide +kernel
theorem dX10_ask_57 : decode cX10_ask 57 = .ok (.iload_n 2, 1) := by decide +kernel
theorem dX10_ask_58 : decode cX10_ask 58 = .ok (.iload_n 3, 1) := by decide +kernel
theorem dX10_ask_59 : decode cX10_ask 59 = .ok (.invokevirtual 203, 3) := by decide +kernel
theorem dX10_ask_62 : decode cX10_ask 62 = .ok (.ireturn, 1) := by decide +kernel
set_option maxRecDepth 20000 in
theorem ggX10_against_X10_isAsking : GoodIn wsX10_against wsX10_isAsking := goodIn_r _ [5, 6, 7, 124, 125, 126, 127, 128, 129, 130, 131, 132, 133, 134, 135, 136, 137, 138, 139, 140, 141, 142, 143, 144] (by decide +kernel) (by decide +kernel)
set_option maxRecDepth 20000 in
theorem gX10_against_X10_isAsking : GoodIn wsX10_against (wsV RX10 204 RX10 yX10_isAsking wsX10_isAsking) := goodIn_app (goodIn_of _ (by decide +kernel)) ggX10_against_X10_isAsking
set_option maxRecDepth 20000 in
theorem ggX10_against_X10_factsAgainst : GoodIn wsX10_against wsX10_factsAgainst := goodIn_r _ [11, 6, 12, 13, 14, 15, 16, 17, 18, 19, 20, 21, 22, 23, 24, 25, 26, 27, 28, 29, 30, 31, 32, 33, 34, 35, 36, 37, 38, 39, 40, 41, 42, 43, 44, 45, 46, 47, 48, 49, 50, 51, 52, 53, 54, 55, 56, 57, 58, 59, 60, 61, 62, 63, 64, 65, 66, 67, 68, 69, 70, 71, 72, 73, 74, 75, 76, 77, 78, 79, 80, 81, 82, 83, 84, 85, 86, 87, 88, 89, 90, 91, 92, 93, 94, 95, 96, 97, 98, 99, 100, 101, 102, 103, 104, 105, 106, 107, 108, 109, 110, 111, 112, 113, 114, 115, 116, 124, 125, 126, 127, 128, 129, 130, 131, 132, 133, 134, 135, 136, 137, 138, 139, 140, 141, 142, 143, 144, 145, 146, 147, 148, 149, 150, 151, 152, 153, 154, 155, 156, 157, 158, 159, 160, 161, 162, 163, 164, 165, 166, 167, 168, 169, 170] (by decide +kernel) (by decide +kernel)
set_option maxRecDepth 20000 in
theorem gX10_against_X10_factsAgainst : GoodIn wsX10_against (wsV RX10 207 RX10 yX10_factsAgainst wsX10_factsAgainst) := goodIn_app (goodIn_of _ (by decide +kernel)) ggX10_against_X10_factsAgainst
set_option maxRecDepth 20000 in
theorem ggX10_against_X10_plaquesAgainst : GoodIn wsX10_against wsX10_plaquesAgainst := goodIn_r _ [120, 6, 12, 16, 121, 7, 122, 18, 19, 13, 123, 35, 36, 37, 38, 39, 124, 125, 126, 127, 128, 129, 130, 131, 132, 133, 134, 135, 136, 137, 138, 139, 140, 141, 142, 143, 144, 145, 146, 147, 148, 149, 150] (by decide +kernel) (by decide +kernel)
set_option maxRecDepth 20000 in
theorem gX10_against_X10_plaquesAgainst : GoodIn wsX10_against (wsV RX10 210 RX10 yX10_plaquesAgainst wsX10_plaquesAgainst) := goodIn_app (goodIn_of _ (by decide +kernel)) ggX10_against_X10_plaquesAgainst
theorem dX10_against_0 : decode cX10_against 0 = .ok (.aload_n 0, 1) := by decide +kernel
theorem dX10_against_1 : decode cX10_against 1 = .ok (.iload_n 1, 1) := by decide +kernel
theorem dX10_against_2 : decode cX10_against 2 = .ok (.invokevirtual 204, 3) := by decide +kernel
theorem dX10_against_5 : decode cX10_against 5 = .ok (.ifCond .ne 6, 3) := by decide +kernel
theorem dX10_against_8 : decode cX10_against 8 = .ok (.bipush (-2), 2) := by decide +kernel
theorem dX10_against_10 : decode cX10_against 10 = .ok (.ireturn, 1) := by decide +kernel
theorem dX10_against_11 : decode cX10_against 11 = .ok (.aload_n 0, 1) := by decide +kernel
theorem dX10_against_12 : decode cX10_against 12 = .ok (.iload_n 1, 1) := by decide +kernel
theorem dX10_against_13 : decode cX10_against 13 = .ok (.invokevirtual 207, 3) := by decide +kernel
theorem dX10_against_16 : decode cX10_against 16 = .ok (.aload_n 0, 1) := by decide +kernel
theorem dX10_against_17 : decode cX10_against 17 = .ok (.iload_n 1, 1) := by decide +kernel
theorem dX10_against_18 : decode cX10_against 18 = .ok (.invokevirtual 210, 3) := by decide +kernel
theorem dX10_against_21 : decode cX10_against 21 = .ok (.ior, 1) := by decide +kernel
theorem dX10_against_22 : decode cX10_against 22 = .ok (.ireturn, 1) := by decide +kernel
set_option maxRecDepth 20000 in
theorem ggX10_vote_X10_isAsking : GoodIn wsX10_vote wsX10_isAsking := goodIn_r _ [9, 1, 10, 14, 15, 16, 17, 18, 19, 20, 21, 22, 23, 24, 25, 26, 27, 28, 29, 30, 31, 32, 33, 34] (by decide +kernel) (by decide +kernel)
set_option maxRecDepth 20000 in
theorem gX10_vote_X10_isAsking : GoodIn wsX10_vote (wsV RX10 204 RX10 yX10_isAsking wsX10_isAsking) := goodIn_app (goodIn_of _ (by decide +kernel)) ggX10_vote_X10_isAsking
set_option maxRecDepth 20000 in
theorem ggX10_vote_X10_isVotes : GoodIn wsX10_vote wsX10_isVotes := goodIn_r _ [13] (by decide +kernel) (by decide +kernel)
set_option maxRecDepth 20000 in
theorem gX10_vote_X10_isVotes : GoodIn wsX10_vote (va_wsS RX10 213 yX10_isVotes wsX10_isVotes) := goodIn_app (goodIn_of _ (by decide +kernel)) ggX10_vote_X10_isVotes
theorem dX10_vote_0 : decode cX10_vote 0 = .ok (.aload_n 0, 1) := by decide +kernel
theorem dX10_vote_1 : decode cX10_vote 1 = .ok (.iload_n 1, 1) := by decide +kernel
theorem dX10_vote_2 : decode cX10_vote 2 = .ok (.invokevirtual 204, 3) := by decide +kernel
theorem dX10_vote_5 : decode cX10_vote 5 = .ok (.ifCond .eq 17, 3) := by decide +kernel
theorem dX10_vote_8 : decode cX10_vote 8 = .ok (.iload_n 2, 1) := by decide +kernel
theorem dX10_vote_9 : decode cX10_vote 9 = .ok (.invokestatic 213, 3) := by decide +kernel
theorem dX10_vote_12 : decode cX10_vote 12 = .ok (.ifCond .eq 10, 3) := by decide +kernel
theorem dX10_vote_15 : decode cX10_vote 15 = .ok (.iload_n 3, 1) := by decide +kernel
theorem dX10_vote_16 : decode cX10_vote 16 = .ok (.invokestatic 213, 3) := by decide +kernel
theorem dX10_vote_19 : decode cX10_vote 19 = .ok (.ifCond .ne 6, 3) := by decide +kernel
theorem dX10_vote_22 : decode cX10_vote 22 = .ok (.bipush (-2), 2) := by decide +kernel
theorem dX10_vote_24 : decode cX10_vote 24 = .ok (.ireturn, 1) := by decide +kernel
theorem dX10_vote_25 : decode cX10_vote 25 = .ok (.aload_n 0, 1) := by decide +kernel
theorem dX10_vote_26 : decode cX10_vote 26 = .ok (.getfield 65, 3) := by decide +kernel
theorem dX10_vote_29 : decode cX10_vote 29 = .ok (.getfield 216, 3) := by decide +kernel
theorem dX10_vote_32 : decode cX10_vote 32 = .ok (.iload_n 1, 1) := by decide +kernel
theorem dX10_vote_33 : decode cX10_vote 33 = .ok (.iaload, 1) := by decide +kernel
theorem dX10_vote_34 : decode cX10_vote 34 = .ok (.ifCond .eq 6, 3) := by decide +kernel
theorem dX10_vote_37 : decode cX10_vote 37 = .ok (.bipush (-4), 2) := by decide +kernel
theorem dX10_vote_39 : decode cX10_vote 39 = .ok (.ireturn, 1) := by decide +kernel
theorem dX10_vote_40 : decode cX10_vote 40 = .ok (.aload_n 0, 1) := by decide +kernel
theorem dX10_vote_41 : decode cX10_vote 41 = .ok (.getfield 65, 3) := by decide +kernel
theorem dX10_vote_44 : decode cX10_vote 44 = .ok (.getfield 219, 3) := by decide +kernel
theorem dX10_vote_47 : decode cX10_vote 47 = .ok (.iload_n 1, 1) := by decide +kernel
theorem dX10_vote_48 : decode cX10_vote 48 = .ok (.iload_n 2, 1) := by decide +kernel
theorem dX10_vote_49 : decode cX10_vote 49 = .ok (.iastore, 1) := by decide +kernel
theorem dX10_vote_50 : decode cX10_vote 50 = .ok (.aload_n 0, 1) := by decide +kernel
theorem dX10_vote_51 : decode cX10_vote 51 = .ok (.getfield 65, 3) := by decide +kernel
theorem dX10_vote_54 : decode cX10_vote 54 = .ok (.getfield 222, 3) := by decide +kernel
theorem dX10_vote_57 : decode cX10_vote 57 = .ok (.iload_n 1, 1) := by decide +kernel
theorem dX10_vote_58 : decode cX10_vote 58 = .ok (.iload_n 3, 1) := by decide +kernel
theorem dX10_vote_59 : decode cX10_vote 59 = .ok (.iastore, 1) := by decide +kernel
theorem dX10_vote_60 : decode cX10_vote 60 = .ok (.iconst 1, 1) := by decide +kernel
theorem dX10_vote_61 : decode cX10_vote 61 = .ok (.ireturn, 1) := by decide +kernel
