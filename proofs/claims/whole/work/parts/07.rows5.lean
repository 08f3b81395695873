theorem dX12_bits_13 : decode cX12_bits 13 = .ok (.iconst 1, 1) := by decide +kernel
theorem dX12_bits_14 : decode cX12_bits 14 = .ok (.isub, 1) := by decide +kernel
theorem dX12_bits_15 : decode cX12_bits 15 = .ok (.iand, 1) := by decide +kernel
theorem dX12_bits_16 : decode cX12_bits 16 = .ok (.istore_n 2, 1) := by decide +kernel
theorem dX12_bits_17 : decode cX12_bits 17 = .ok (.goto (-13), 3) := by decide +kernel
theorem dX12_bits_20 : decode cX12_bits 20 = .ok (.iload_n 1, 1) := by decide +kernel
theorem dX12_bits_21 : decode cX12_bits 21 = .ok (.ireturn, 1) := by decide +kernel
set_option maxRecDepth 20000 in
theorem ggX12_lived_X12_isPerson : GoodIn wsX12_lived wsX12_isPerson := goodIn_r _ [10, 11, 12, 13, 9, 14, 67, 68, 69, 70, 71, 72, 73, 74, 75, 76, 77, 78, 79, 80, 81, 82, 83, 84, 85, 86, 87, 88, 89, 90, 91, 92, 93, 94, 95, 96, 97, 98, 99, 100, 101, 102, 103, 104, 105, 106, 107, 108, 109, 110, 111, 112, 113, 114, 115, 116, 117, 118, 119] (by decide +kernel) (by decide +kernel)
set_option maxRecDepth 20000 in
theorem gX12_lived_X12_isPerson : GoodIn wsX12_lived (wsV RX12 277 RX12 yX12_isPerson wsX12_isPerson) := goodIn_app (goodIn_of _ (by decide +kernel)) ggX12_lived_X12_isPerson
set_option maxRecDepth 20000 in
theorem ggX12_lived_X12_isSite : GoodIn wsX12_lived wsX12_isSite := goodIn_r _ [18, 19, 12, 13, 9, 14, 67, 68, 69, 70, 71, 72, 73, 74, 75, 76, 77, 78, 79, 80, 81, 82, 83, 84, 85, 86, 87, 88, 89, 90, 91, 92, 93, 94, 95, 96, 97, 98, 99, 100, 101, 102, 103, 104, 105, 106, 107, 108, 109, 110, 111, 112, 113, 114, 115, 116, 117, 118, 119] (by decide +kernel) (by decide +kernel)
set_option maxRecDepth 20000 in
theorem gX12_lived_X12_isSite : GoodIn wsX12_lived (wsV RX12 251 RX12 yX12_isSite wsX12_isSite) := goodIn_app (goodIn_of _ (by decide +kernel)) ggX12_lived_X12_isSite
set_option maxRecDepth 20000 in
theorem ggX12_lived_X12_live : GoodIn wsX12_lived wsX12_live := goodIn_r _ [23, 24, 25, 5, 26, 27, 28, 29, 30, 31, 1, 2, 3, 4, 32, 33, 34, 9, 35, 36, 37, 38, 39, 40, 41, 42, 19, 43, 44, 45, 46, 47, 48, 49, 50, 51, 52, 53, 54, 55, 56, 57, 58, 59, 60, 61, 62, 63, 67, 68, 69, 70, 71, 72, 73, 74, 75, 76, 77, 78, 79, 80, 81, 82, 83, 84, 85, 86, 87, 88, 89, 90, 91, 92, 93, 94, 95, 96, 97, 98, 99, 100, 101, 102, 103, 104, 105, 106, 107, 108, 109, 110, 111, 112, 113, 114, 115, 116, 117, 118, 119] (by decide +kernel) (by decide +kernel)
set_option maxRecDepth 20000 in
theorem gX12_lived_X12_live : GoodIn wsX12_lived (wsV RX12 303 RX12 yX12_live wsX12_live) := goodIn_app (goodIn_of _ (by decide +kernel)) ggX12_lived_X12_live
set_option maxRecDepth 20000 in
theorem ggX12_lived_X12_bits : GoodIn wsX12_lived wsX12_bits := goodIn_r _ [66] (by decide +kernel) (by decide +kernel)
set_option maxRecDepth 20000 in
theorem gX12_lived_X12_bits : GoodIn wsX12_lived (va_wsS RX12 307 yX12_bits wsX12_bits) := goodIn_app (goodIn_of _ (by decide +kernel)) ggX12_lived_X12_bits
theorem dX12_lived_0 : decode cX12_lived 0 = .ok (.aload_n 0, 1) := by decide +kernel
theorem dX12_lived_1 : decode cX12_lived 1 = .ok (.iload_n 1, 1) := by decide +kernel
theorem dX12_lived_2 : decode cX12_lived 2 = .ok (.invokevirtual 277, 3) := by decide +kernel
theorem dX12_lived_5 : decode cX12_lived 5 = .ok (.ifCond .eq 11, 3) := by decide +kernel
theorem dX12_lived_8 : decode cX12_lived 8 = .ok (.aload_n 0, 1) := by decide +kernel
theorem dX12_lived_9 : decode cX12_lived 9 = .ok (.iload_n 2, 1) := by decide +kernel
theorem dX12_lived_10 : decode cX12_lived 10 = .ok (.invokevirtual 251, 3) := by decide +kernel
theorem dX12_lived_13 : decode cX12_lived 13 = .ok (.ifCond .ne 6, 3) := by decide +kernel
theorem dX12_lived_16 : decode cX12_lived 16 = .ok (.bipush (-2), 2) := by decide +kernel
theorem dX12_lived_18 : decode cX12_lived 18 = .ok (.ireturn, 1) := by decide +kernel
theorem dX12_lived_19 : decode cX12_lived 19 = .ok (.aload_n 0, 1) := by decide +kernel
theorem dX12_lived_20 : decode cX12_lived 20 = .ok (.iload_n 1, 1) := by decide +kernel
theorem dX12_lived_21 : decode cX12_lived 21 = .ok (.iload_n 2, 1) := by decide +kernel
theorem dX12_lived_22 : decode cX12_lived 22 = .ok (.invokevirtual 303, 3) := by decide +kernel
theorem dX12_lived_25 : decode cX12_lived 25 = .ok (.iload_n 3, 1) := by decide +kernel
theorem dX12_lived_26 : decode cX12_lived 26 = .ok (.tableswitch 62 0 4 #[34, 39, 44, 49, 54], 34) := by decide +kernel
theorem dX12_lived_60 : decode cX12_lived 60 = .ok (.aload_n 0, 1) := by decide +kernel
theorem dX12_lived_61 : decode cX12_lived 61 = .ok (.getfield 291, 3) := by decide +kernel
theorem dX12_lived_64 : decode cX12_lived 64 = .ok (.ireturn, 1) := by decide +kernel
theorem dX12_lived_65 : decode cX12_lived 65 = .ok (.aload_n 0, 1) := by decide +kernel
theorem dX12_lived_66 : decode cX12_lived 66 = .ok (.getfield 294, 3) := by decide +kernel
theorem dX12_lived_69 : decode cX12_lived 69 = .ok (.ireturn, 1) := by decide +kernel
theorem dX12_lived_70 : decode cX12_lived 70 = .ok (.aload_n 0, 1) := by decide +kernel
theorem dX12_lived_71 : decode cX12_lived 71 = .ok (.getfield 297, 3) := by decide +kernel
theorem dX12_lived_74 : decode cX12_lived 74 = .ok (.ireturn, 1) := by decide +kernel
theorem dX12_lived_75 : decode cX12_lived 75 = .ok (.aload_n 0, 1) := by decide +kernel
theorem dX12_lived_76 : decode cX12_lived 76 = .ok (.getfield 300, 3) := by decide +kernel
theorem dX12_lived_79 : decode cX12_lived 79 = .ok (.ireturn, 1) := by decide +kernel
theorem dX12_lived_80 : decode cX12_lived 80 = .ok (.aload_n 0, 1) := by decide +kernel
theorem dX12_lived_81 : decode cX12_lived 81 = .ok (.getfield 285, 3) := by decide +kernel
theorem dX12_lived_84 : decode cX12_lived 84 = .ok (.invokestatic 307, 3) := by decide +kernel
theorem dX12_lived_87 : decode cX12_lived 87 = .ok (.ireturn, 1) := by decide +kernel
theorem dX12_lived_88 : decode cX12_lived 88 = .ok (.iconst (-1), 1) := by decide +kernel
theorem dX12_lived_89 : decode cX12_lived 89 = .ok (.ireturn, 1) := by decide +kernel
set_option maxRecDepth 20000 in
theorem ggX12_ask_X12_isPerson : GoodIn wsX12_ask wsX12_isPerson := goodIn_r _ [14, 15, 16, 17, 13, 18, 29, 30, 31, 32, 33, 34, 35, 36, 37, 38, 39, 40, 41, 42, 43, 44, 45, 46, 47, 48, 49, 50, 51, 52, 53, 54, 55, 56, 57, 58, 59, 60, 61, 62, 63, 64, 65, 66, 67, 68, 69, 70, 71, 72, 73, 74, 75, 76, 77, 78, 79, 80, 81] (by decide +kernel) (by decide +kernel)
set_option maxRecDepth 20000 in
theorem gX12_ask_X12_isPerson : GoodIn wsX12_ask (wsV RX12 277 RX12 yX12_isPerson wsX12_isPerson) := goodIn_app (goodIn_of _ (by decide +kernel)) ggX12_ask_X12_isPerson
set_option maxRecDepth 20000 in
theorem ggX12_ask_X12_isSite : GoodIn wsX12_ask wsX12_isSite := goodIn_r _ [22, 23, 16, 17, 13, 18, 29, 30, 31, 32, 33, 34, 35, 36, 37, 38, 39, 40, 41, 42, 43, 44, 45, 46, 47, 48, 49, 50, 51, 52, 53, 54, 55, 56, 57, 58, 59, 60, 61, 62, 63, 64, 65, 66, 67, 68, 69, 70, 71, 72, 73, 74, 75, 76, 77, 78, 79, 80, 81] (by decide +kernel) (by decide +kernel)
set_option maxRecDepth 20000 in
theorem gX12_ask_X12_isSite : GoodIn wsX12_ask (wsV RX12 251 RX12 yX12_isSite wsX12_isSite) := goodIn_app (goodIn_of _ (by decide +kernel)) ggX12_ask_X12_isSite
set_option maxRecDepth 20000 in
theorem ggX12_ask_X12_isYear : GoodIn wsX12_ask wsX12_isYear := goodIn_r _ [26, 27, 28, 16, 17, 13, 18] (by decide +kernel) (by decide +kernel)
set_option maxRecDepth 20000 in
theorem gX12_ask_X12_isYear : GoodIn wsX12_ask (va_wsS RX12 232 yX12_isYear wsX12_isYear) := goodIn_app (goodIn_of _ (by decide +kernel)) ggX12_ask_X12_isYear
theorem dX12_ask_0 : decode cX12_ask 0 = .ok (.aload_n 0, 1) := by decide +kernel
theorem dX12_ask_1 : decode cX12_ask 1 = .ok (.iload_n 1, 1) := by decide +kernel
theorem dX12_ask_2 : decode cX12_ask 2 = .ok (.invokevirtual 277, 3) := by decide +kernel
theorem dX12_ask_5 : decode cX12_ask 5 = .ok (.ifCond .eq 40, 3) := by decide +kernel
theorem dX12_ask_8 : decode cX12_ask 8 = .ok (.aload_n 0, 1) := by decide +kernel
theorem dX12_ask_9 : decode cX12_ask 9 = .ok (.iload_n 2, 1) := by decide +kernel
theorem dX12_ask_10 : decode cX12_ask 10 = .ok (.invokevirtual 251, 3) := by decide +kernel
theorem dX12_ask_13 : decode cX12_ask 13 = .ok (.ifCond .eq 32, 3) := by decide +kernel
theorem dX12_ask_16 : decode cX12_ask 16 = .ok (.iload_n 3, 1) := by decide +kernel
theorem dX12_ask_17 : decode cX12_ask 17 = .ok (.invokestatic 232, 3) := by decide +kernel
theorem dX12_ask_20 : decode cX12_ask 20 = .ok (.ifCond .eq 25, 3) := by decide +kernel
theorem dX12_ask_23 : decode cX12_ask 23 = .ok (.aload_n 0, 1) := by decide +kernel
theorem dX12_ask_24 : decode cX12_ask 24 = .ok (.getfield 310, 3) := by decide +kernel
theorem dX12_ask_27 : decode cX12_ask 27 = .ok (.ifCond .le 21, 3) := by decide +kernel
theorem dX12_ask_30 : decode cX12_ask 30 = .ok (.iload_n 3, 1) := by decide +kernel
theorem dX12_ask_31 : decode cX12_ask 31 = .ok (.aload_n 0, 1) := by decide +kernel
theorem dX12_ask_32 : decode cX12_ask 32 = .ok (.getfield 187, 3) := by decide +kernel
theorem dX12_ask_35 : decode cX12_ask 35 = .ok (.aload_n 0, 1) := by decide +kernel
theorem dX12_ask_36 : decode cX12_ask 36 = .ok (.getfield 310, 3) := by decide +kernel
theorem dX12_ask_39 : decode cX12_ask 39 = .ok (.iconst 1, 1) := by decide +kernel
theorem dX12_ask_40 : decode cX12_ask 40 = .ok (.isub, 1) := by decide +kernel
theorem dX12_ask_41 : decode cX12_ask 41 = .ok (.iaload, 1) := by decide +kernel
theorem dX12_ask_42 : decode cX12_ask 42 = .ok (.if_icmp .ge 6, 3) := by decide +kernel
theorem dX12_ask_45 : decode cX12_ask 45 = .ok (.bipush (-2), 2) := by decide +kernel
theorem dX12_ask_47 : decode cX12_ask 47 = .ok (.ireturn, 1) := by decide +kernel
theorem dX12_ask_48 : decode cX12_ask 48 = .ok (.aload_n 0, 1) := by decide +kernel
theorem dX12_ask_49 : decode cX12_ask 49 = .ok (.getfield 310, 3) := by decide +kernel
theorem dX12_ask_52 : decode cX12_ask 52 = .ok (.bipush 40, 2) := by decide +kernel
theorem dX12_ask_54 : decode cX12_ask 54 = .ok (.if_icmp .ne 6, 3) := by decide +kernel
theorem dX12_ask_57 : decode cX12_ask 57 = .ok (.bipush (-3), 2) := by decide +kernel
theorem dX12_ask_59 : decode cX12_ask 59 = .ok (.ireturn, 1) := by decide +kernel
theorem dX12_ask_60 : decode cX12_ask 60 = .ok (.aload_n 0, 1) := by decide +kernel
theorem dX12_ask_61 : decode cX12_ask 61 = .ok (.getfield 181, 3) := by decide +kernel
theorem dX12_ask_64 : decode cX12_ask 64 = .ok (.aload_n 0, 1) := by decide +kernel
theorem dX12_ask_65 : decode cX12_ask 65 = .ok (.getfield 310, 3) := by decide +kernel
theorem dX12_ask_68 : decode cX12_ask 68 = .ok (.iload_n 1, 1) := by decide +kernel
theorem dX12_ask_69 : decode cX12_ask 69 = .ok (.iastore, 1) := by decide +kernel
theorem dX12_ask_70 : decode cX12_ask 70 = .ok (.aload_n 0, 1) := by decide +kernel
theorem dX12_ask_71 : decode cX12_ask 71 = .ok (.getfield 184, 3) := by decide +kernel
theorem dX12_ask_74 : decode cX12_ask 74 = .ok (.aload_n 0, 1) := by decide +kernel
theorem dX12_ask_75 : decode cX12_ask 75 = .ok (.getfield 310, 3) := by decide +kernel
theorem dX12_ask_78 : decode cX12_ask 78 = .ok (.iload_n 2, 1) := by decide +kernel
theorem dX12_ask_79 : decode cX12_ask 79 = .ok (.iastore, 1) := by decide +kernel
theorem dX12_ask_80 : decode cX12_ask 80 = .ok (.aload_n 0, 1) := by decide +kernel
theorem dX12_ask_81 : decode cX12_ask 81 = .ok (.getfield 187, 3) := by decide +kernel
theorem dX12_ask_84 : decode cX12_ask 84 = .ok (.aload_n 0, 1) := by decide +kernel
theorem dX12_ask_85 : decode cX12_ask 85 = .ok (.getfield 310, 3) := by decide +kernel
theorem dX12_ask_88 : decode cX12_ask 88 = .ok (.iload_n 3, 1) := by decide +kernel
theorem dX12_ask_89 : decode cX12_ask 89 = .ok (.iastore, 1) := by decide +kernel
theorem dX12_ask_90 : decode cX12_ask 90 = .ok (.aload_n 0, 1) := by decide +kernel
theorem dX12_ask_91 : decode cX12_ask 91 = .ok (.getfield 190, 3) := by decide +kernel
theorem dX12_ask_94 : decode cX12_ask 94 = .ok (.aload_n 0, 1) := by decide +kernel
theorem dX12_ask_95 : decode cX12_ask 95 = .ok (.getfield 310, 3) := by decide +kernel
theorem dX12_ask_98 : decode cX12_ask 98 = .ok (.iconst 0, 1) := by decide +kernel
theorem dX12_ask_99 : decode cX12_ask 99 = .ok (.iastore, 1) := by decide +kernel
theorem dX12_ask_100 : decode cX12_ask 100 = .ok (.aload_n 0, 1) := by decide +kernel
theorem dX12_ask_101 : decode cX12_ask 101 = .ok (.getfield 193, 3) := by decide +kernel
theorem dX12_ask_104 : decode cX12_ask 104 = .ok (.aload_n 0, 1) := by decide +kernel
theorem dX12_ask_105 : decode cX12_ask 105 = .ok (.getfield 310, 3) := by decide +kernel
theorem dX12_ask_108 : decode cX12_ask 108 = .ok (.iconst 0, 1) := by decide +kernel
theorem dX12_ask_109 : decode cX12_ask 109 = .ok (.iastore, 1) := by decide +kernel
theorem dX12_ask_110 : decode cX12_ask 110 = .ok (.aload_n 0, 1) := by decide +kernel
theorem dX12_ask_111 : decode cX12_ask 111 = .ok (.getfield 195, 3) := by decide +kernel
theorem dX12_ask_114 : decode cX12_ask 114 = .ok (.aload_n 0, 1) := by decide +kernel
theorem dX12_ask_115 : decode cX12_ask 115 = .ok (.getfield 310, 3) := by decide +kernel
theorem dX12_ask_118 : decode cX12_ask 118 = .ok (.iconst 0, 1) := by decide +kernel
theorem dX12_ask_119 : decode cX12_ask 119 = .ok (.iastore, 1) := by decide +kernel
theorem dX12_ask_120 : decode cX12_ask 120 = .ok (.aload_n 0, 1) := by decide +kernel
theorem dX12_ask_121 : decode cX12_ask 121 = .ok (.getfield 197, 3) := by decide +kernel
theorem dX12_ask_124 : decode cX12_ask 124 = .ok (.aload_n 0, 1) := by decide +kernel
theorem dX12_ask_125 : decode cX12_ask 125 = .ok (.getfield 310, 3) := by decide +kernel
theorem dX12_ask_128 : decode cX12_ask 128 = .ok (.iconst (-1), 1) := by decide +kernel
theorem dX12_ask_129 : decode cX12_ask 129 = .ok (.iastore, 1) := by decide +kernel
theorem dX12_ask_130 : decode cX12_ask 130 = .ok (.aload_n 0, 1) := by decide +kernel
theorem dX12_ask_131 : decode cX12_ask 131 = .ok (.getfield 200, 3) := by decide +kernel
theorem dX12_ask_134 : decode cX12_ask 134 = .ok (.aload_n 0, 1) := by decide +kernel
theorem dX12_ask_135 : decode cX12_ask 135 = .ok (.getfield 310, 3) := by decide +kernel
theorem dX12_ask_138 : decode cX12_ask 138 = .ok (.iconst (-1), 1) := by decide +kernel
theorem dX12_ask_139 : decode cX12_ask 139 = .ok (.iastore, 1) := by decide +kernel
theorem dX12_ask_140 : decode cX12_ask 140 = .ok (.aload_n 0, 1) := by decide +kernel
theorem dX12_ask_141 : decode cX12_ask 141 = .ok (.dup, 1) := by decide +kernel
theorem dX12_ask_142 : decode cX12_ask 142 = .ok (.getfield 310, 3) := by decide +kernel
theorem dX12_ask_145 : decode cX12_ask 145 = .ok (.iconst 1, 1) := by decide +kernel
theorem dX12_ask_146 : decode cX12_ask 146 = .ok (.iadd, 1) := by decide +kernel
theorem dX12_ask_147 : decode cX12_ask 147 = .ok (.putfield 310, 3) := by decide +kernel
theorem dX12_ask_150 : decode cX12_ask 150 = .ok (.aload_n 0, 1) := by decide +kernel
theorem dX12_ask_151 : decode cX12_ask 151 = .ok (.getfield 310, 3) := by decide +kernel
theorem dX12_ask_154 : decode cX12_ask 154 = .ok (.iconst 1, 1) := by decide +kernel
theorem dX12_ask_155 : decode cX12_ask 155 = .ok (.isub, 1) := by decide +kernel
theorem dX12_ask_156 : decode cX12_ask 156 = .ok (.ireturn, 1) := by decide +kernel
set_option maxRecDepth 20000 in
theorem ggX12_isAsking_X12_in : GoodIn wsX12_isAsking wsX12_in := goodIn_r _ [5] (by decide +kernel) (by decide +kernel)
set_option maxRecDepth 20000 in
theorem gX12_isAsking_X12_in : GoodIn wsX12_isAsking (va_wsS RX12 7 yX12_in wsX12_in) := goodIn_app (goodIn_of _ (by decide +kernel)) ggX12_isAsking_X12_in
theorem dX12_isAsking_0 : decode cX12_isAsking 0 = .ok (.iload_n 1, 1) := by decide +kernel
theorem dX12_isAsking_1 : decode cX12_isAsking 1 = .ok (.i2l, 1) := by decide +kernel
theorem dX12_isAsking_2 : decode cX12_isAsking 2 = .ok (.lconst 0, 1) := by decide +kernel
theorem dX12_isAsking_3 : decode cX12_isAsking 3 = .ok (.aload_n 0, 1) := by decide +kernel
theorem dX12_isAsking_4 : decode cX12_isAsking 4 = .ok (.getfield 310, 3) := by decide +kernel
theorem dX12_isAsking_7 : decode cX12_isAsking 7 = .ok (.i2l, 1) := by decide +kernel
theorem dX12_isAsking_8 : decode cX12_isAsking 8 = .ok (.lconst 1, 1) := by decide +kernel
theorem dX12_isAsking_9 : decode cX12_isAsking 9 = .ok (.lsub, 1) := by decide +kernel
theorem dX12_isAsking_10 : decode cX12_isAsking 10 = .ok (.invokestatic 7, 3) := by decide +kernel
theorem dX12_isAsking_13 : decode cX12_isAsking 13 = .ok (.ireturn, 1) := by decide +kernel
set_option maxRecDepth 20000 in
theorem ggX12_speaks_X12_live : GoodIn wsX12_speaks wsX12_live := goodIn_r _ [19, 20, 21, 7, 22, 23, 24, 25, 26, 27, 6, 28, 29, 14, 30, 31, 32, 18, 33, 34, 12, 35, 36, 37, 38, 39, 40, 8, 9, 41, 42, 43, 44, 45, 46, 47, 48, 49, 50, 51, 52, 53, 54, 55, 56, 57, 58, 59, 63, 64, 65, 66, 67, 68, 69, 70, 71, 72, 73, 74, 75, 76, 77, 78, 79, 80, 81, 82, 83, 84, 85, 86, 87, 88, 89, 90, 91, 92, 93, 94, 95, 96, 97, 98, 99, 100, 101, 102, 103, 104, 105, 106, 107, 108, 109, 110, 111, 112, 113, 114, 115] (by decide +kernel) (by decide +kernel)
set_option maxRecDepth 20000 in
theorem gX12_speaks_X12_live : GoodIn wsX12_speaks (wsV RX12 303 RX12 yX12_live wsX12_live) := goodIn_app (goodIn_of _ (by decide +kernel)) ggX12_speaks_X12_live
set_option maxRecDepth 20000 in
theorem ggX12_speaks_X12_bits : GoodIn wsX12_speaks wsX12_bits := goodIn_r _ [62] (by decide +kernel) (by decide +kernel)
set_option maxRecDepth 20000 in
theorem gX12_speaks_X12_bits : GoodIn wsX12_speaks (va_wsS RX12 307 yX12_bits wsX12_bits) := goodIn_app (goodIn_of _ (by decide +kernel)) ggX12_speaks_X12_bits
set_option maxRecDepth 20000 in
theorem ggX12_speaks_X12_surelyHolds : GoodIn wsX12_speaks wsX12_surelyHolds := goodIn_r _ [59, 47, 46, 48, 49, 50, 18, 51, 8, 63, 64, 65, 66, 67, 68, 69, 70, 71, 72, 73, 74, 75, 76, 77, 78, 79, 80, 81, 82, 83, 84, 85, 86, 87, 88, 89, 90, 91, 92, 93, 94, 95, 96, 97, 98, 99, 100, 101, 102, 103, 104, 105, 106, 107, 108, 109, 110, 111, 112, 113, 114, 115] (by decide +kernel) (by decide +kernel)
set_option maxRecDepth 20000 in
theorem gX12_speaks_X12_surelyHolds : GoodIn wsX12_speaks (wsV RX12 265 RX12 yX12_surelyHolds wsX12_surelyHolds) := goodIn_app (goodIn_of _ (by decide +kernel)) ggX12_speaks_X12_surelyHolds
theorem dX12_speaks_0 : decode cX12_speaks 0 = .ok (.aload_n 0, 1) := by decide +kernel
theorem dX12_speaks_1 : decode cX12_speaks 1 = .ok (.getfield 181, 3) := by decide +kernel
theorem dX12_speaks_4 : decode cX12_speaks 4 = .ok (.iload_n 1, 1) := by decide +kernel
theorem dX12_speaks_5 : decode cX12_speaks 5 = .ok (.iaload, 1) := by decide +kernel
theorem dX12_speaks_6 : decode cX12_speaks 6 = .ok (.istore_n 2, 1) := by decide +kernel
theorem dX12_speaks_7 : decode cX12_speaks 7 = .ok (.aload_n 0, 1) := by decide +kernel
theorem dX12_speaks_8 : decode cX12_speaks 8 = .ok (.getfield 184, 3) := by decide +kernel
theorem dX12_speaks_11 : decode cX12_speaks 11 = .ok (.iload_n 1, 1) := by decide +kernel
theorem dX12_speaks_12 : decode cX12_speaks 12 = .ok (.iaload, 1) := by decide +kernel
theorem dX12_speaks_13 : decode cX12_speaks 13 = .ok (.istore_n 3, 1) := by decide +kernel
theorem dX12_speaks_14 : decode cX12_speaks 14 = .ok (.aload_n 0, 1) := by decide +kernel
theorem dX12_speaks_15 : decode cX12_speaks 15 = .ok (.getfield 187, 3) := by decide +kernel
theorem dX12_speaks_18 : decode cX12_speaks 18 = .ok (.iload_n 1, 1) := by decide +kernel
theorem dX12_speaks_19 : decode cX12_speaks 19 = .ok (.iaload, 1) := by decide +kernel
theorem dX12_speaks_20 : decode cX12_speaks 20 = .ok (.istore 4, 2) := by decide +kernel
theorem dX12_speaks_22 : decode cX12_speaks 22 = .ok (.iconst 0, 1) := by decide +kernel
theorem dX12_speaks_23 : decode cX12_speaks 23 = .ok (.istore 5, 2) := by decide +kernel
theorem dX12_speaks_25 : decode cX12_speaks 25 = .ok (.aload_n 0, 1) := by decide +kernel
theorem dX12_speaks_26 : decode cX12_speaks 26 = .ok (.iload_n 2, 1) := by decide +kernel
theorem dX12_speaks_27 : decode cX12_speaks 27 = .ok (.iload_n 3, 1) := by decide +kernel
theorem dX12_speaks_28 : decode cX12_speaks 28 = .ok (.invokevirtual 303, 3) := by decide +kernel
theorem dX12_speaks_31 : decode cX12_speaks 31 = .ok (.aload_n 0, 1) := by decide +kernel
theorem dX12_speaks_32 : decode cX12_speaks 32 = .ok (.getfield 147, 3) := by decide +kernel
theorem dX12_speaks_35 : decode cX12_speaks 35 = .ok (.iload_n 2, 1) := by decide +kernel
theorem dX12_speaks_36 : decode cX12_speaks 36 = .ok (.iaload, 1) := by decide +kernel
theorem dX12_speaks_37 : decode cX12_speaks 37 = .ok (.iconst (-1), 1) := by decide +kernel
theorem dX12_speaks_38 : decode cX12_speaks 38 = .ok (.if_icmp .eq 21, 3) := by decide +kernel
theorem dX12_speaks_41 : decode cX12_speaks 41 = .ok (.iload 4, 2) := by decide +kernel
theorem dX12_speaks_43 : decode cX12_speaks 43 = .ok (.aload_n 0, 1) := by decide +kernel
theorem dX12_speaks_44 : decode cX12_speaks 44 = .ok (.getfield 147, 3) := by decide +kernel
theorem dX12_speaks_47 : decode cX12_speaks 47 = .ok (.iload_n 2, 1) := by decide +kernel
theorem dX12_speaks_48 : decode cX12_speaks 48 = .ok (.iaload, 1) := by decide +kernel
theorem dX12_speaks_49 : decode cX12_speaks 49 = .ok (.isub, 1) := by decide +kernel
theorem dX12_speaks_50 : decode cX12_speaks 50 = .ok (.aload_n 0, 1) := by decide +kernel
theorem dX12_speaks_51 : decode cX12_speaks 51 = .ok (.getfield 124, 3) := by decide +kernel
theorem dX12_speaks_54 : decode cX12_speaks 54 = .ok (.iconst 0, 1) := by decide +kernel
theorem dX12_speaks_55 : decode cX12_speaks 55 = .ok (.iaload, 1) := by decide +kernel
theorem dX12_speaks_56 : decode cX12_speaks 56 = .ok (.if_icmp .ge 9, 3) := by decide +kernel
theorem dX12_speaks_59 : decode cX12_speaks 59 = .ok (.iload 5, 2) := by decide +kernel
theorem dX12_speaks_61 : decode cX12_speaks 61 = .ok (.iconst 1, 1) := by decide +kernel
theorem dX12_speaks_62 : decode cX12_speaks 62 = .ok (.ior, 1) := by decide +kernel
theorem dX12_speaks_63 : decode cX12_speaks 63 = .ok (.istore 5, 2) := by decide +kernel
theorem dX12_speaks_65 : decode cX12_speaks 65 = .ok (.aload_n 0, 1) := by decide +kernel
theorem dX12_speaks_66 : decode cX12_speaks 66 = .ok (.getfield 291, 3) := by decide +kernel
theorem dX12_speaks_69 : decode cX12_speaks 69 = .ok (.aload_n 0, 1) := by decide +kernel
theorem dX12_speaks_70 : decode cX12_speaks 70 = .ok (.getfield 124, 3) := by decide +kernel
theorem dX12_speaks_73 : decode cX12_speaks 73 = .ok (.iconst 1, 1) := by decide +kernel
theorem dX12_speaks_74 : decode cX12_speaks 74 = .ok (.iaload, 1) := by decide +kernel
theorem dX12_speaks_75 : decode cX12_speaks 75 = .ok (.if_icmp .ge 9, 3) := by decide +kernel
theorem dX12_speaks_78 : decode cX12_speaks 78 = .ok (.iload 5, 2) := by decide +kernel
theorem dX12_speaks_80 : decode cX12_speaks 80 = .ok (.iconst 2, 1) := by decide +kernel
theorem dX12_speaks_81 : decode cX12_speaks 81 = .ok (.ior, 1) := by decide +kernel
theorem dX12_speaks_82 : decode cX12_speaks 82 = .ok (.istore 5, 2) := by decide +kernel
theorem dX12_speaks_84 : decode cX12_speaks 84 = .ok (.aload_n 0, 1) := by decide +kernel
theorem dX12_speaks_85 : decode cX12_speaks 85 = .ok (.getfield 285, 3) := by decide +kernel
theorem dX12_speaks_88 : decode cX12_speaks 88 = .ok (.invokestatic 307, 3) := by decide +kernel
theorem dX12_speaks_91 : decode cX12_speaks 91 = .ok (.aload_n 0, 1) := by decide +kernel
theorem dX12_speaks_92 : decode cX12_speaks 92 = .ok (.getfield 124, 3) := by decide +kernel
theorem dX12_speaks_95 : decode cX12_speaks 95 = .ok (.iconst 2, 1) := by decide +kernel
theorem dX12_speaks_96 : decode cX12_speaks 96 = .ok (.iaload, 1) := by decide +kernel
theorem dX12_speaks_97 : decode cX12_speaks 97 = .ok (.if_icmp .ge 9, 3) := by decide +kernel
theorem dX12_speaks_100 : decode cX12_speaks 100 = .ok (.iload 5, 2) := by decide +kernel
theorem dX12_speaks_102 : decode cX12_speaks 102 = .ok (.iconst 4, 1) := by decide +kernel
theorem dX12_speaks_103 : decode cX12_speaks 103 = .ok (.ior, 1) := by decide +kernel
theorem dX12_speaks_104 : decode cX12_speaks 104 = .ok (.istore 5, 2) := by decide +kernel
theorem dX12_speaks_106 : decode cX12_speaks 106 = .ok (.iconst 0, 1) := by decide +kernel
theorem dX12_speaks_107 : decode cX12_speaks 107 = .ok (.istore 6, 2) := by decide +kernel
theorem dX12_speaks_109 : decode cX12_speaks 109 = .ok (.iconst 0, 1) := by decide +kernel
theorem dX12_speaks_110 : decode cX12_speaks 110 = .ok (.istore 7, 2) := by decide +kernel
theorem dX12_speaks_112 : decode cX12_speaks 112 = .ok (.iload 7, 2) := by decide +kernel
theorem dX12_speaks_114 : decode cX12_speaks 114 = .ok (.aload_n 0, 1) := by decide +kernel
theorem dX12_speaks_115 : decode cX12_speaks 115 = .ok (.getfield 130, 3) := by decide +kernel
theorem dX12_speaks_118 : decode cX12_speaks 118 = .ok (.iload_n 3, 1) := by decide +kernel
theorem dX12_speaks_119 : decode cX12_speaks 119 = .ok (.iaload, 1) := by decide +kernel
theorem dX12_speaks_120 : decode cX12_speaks 120 = .ok (.if_icmp .ge 48, 3) := by decide +kernel
theorem dX12_speaks_123 : decode cX12_speaks 123 = .ok (.iload 6, 2) := by decide +kernel
theorem dX12_speaks_125 : decode cX12_speaks 125 = .ok (.ifCond .ne 30, 3) := by decide +kernel
theorem dX12_speaks_128 : decode cX12_speaks 128 = .ok (.aload_n 0, 1) := by decide +kernel
theorem dX12_speaks_129 : decode cX12_speaks 129 = .ok (.getfield 142, 3) := by decide +kernel
theorem dX12_speaks_132 : decode cX12_speaks 132 = .ok (.bipush 8, 2) := by decide +kernel
theorem dX12_speaks_134 : decode cX12_speaks 134 = .ok (.iload_n 3, 1) := by decide +kernel
theorem dX12_speaks_135 : decode cX12_speaks 135 = .ok (.imul, 1) := by decide +kernel
theorem dX12_speaks_136 : decode cX12_speaks 136 = .ok (.iload 7, 2) := by decide +kernel
theorem dX12_speaks_138 : decode cX12_speaks 138 = .ok (.iadd, 1) := by decide +kernel
theorem dX12_speaks_139 : decode cX12_speaks 139 = .ok (.iaload, 1) := by decide +kernel
theorem dX12_speaks_140 : decode cX12_speaks 140 = .ok (.ifCond .le 19, 3) := by decide +kernel
theorem dX12_speaks_143 : decode cX12_speaks 143 = .ok (.aload_n 0, 1) := by decide +kernel
theorem dX12_speaks_144 : decode cX12_speaks 144 = .ok (.iload_n 3, 1) := by decide +kernel
theorem dX12_speaks_145 : decode cX12_speaks 145 = .ok (.iload 7, 2) := by decide +kernel
theorem dX12_speaks_147 : decode cX12_speaks 147 = .ok (.iload 4, 2) := by decide +kernel
theorem dX12_speaks_149 : decode cX12_speaks 149 = .ok (.invokevirtual 265, 3) := by decide +kernel
theorem dX12_speaks_152 : decode cX12_speaks 152 = .ok (.ifCond .eq 7, 3) := by decide +kernel
theorem dX12_speaks_155 : decode cX12_speaks 155 = .ok (.iconst 1, 1) := by decide +kernel
theorem dX12_speaks_156 : decode cX12_speaks 156 = .ok (.goto 4, 3) := by decide +kernel
theorem dX12_speaks_159 : decode cX12_speaks 159 = .ok (.iconst 0, 1) := by decide +kernel
theorem dX12_speaks_160 : decode cX12_speaks 160 = .ok (.istore 6, 2) := by decide +kernel
theorem dX12_speaks_162 : decode cX12_speaks 162 = .ok (.iinc 7 1, 3) := by decide +kernel
theorem dX12_speaks_165 : decode cX12_speaks 165 = .ok (.goto (-53), 3) := by decide +kernel
theorem dX12_speaks_168 : decode cX12_speaks 168 = .ok (.iload 6, 2) := by decide +kernel
theorem dX12_speaks_170 : decode cX12_speaks 170 = .ok (.ifCond .ne 10, 3) := by decide +kernel
theorem dX12_speaks_173 : decode cX12_speaks 173 = .ok (.iload 5, 2) := by decide +kernel
theorem dX12_speaks_175 : decode cX12_speaks 175 = .ok (.bipush 8, 2) := by decide +kernel
theorem dX12_speaks_177 : decode cX12_speaks 177 = .ok (.ior, 1) := by decide +kernel
theorem dX12_speaks_178 : decode cX12_speaks 178 = .ok (.istore 5, 2) := by decide +kernel
theorem dX12_speaks_180 : decode cX12_speaks 180 = .ok (.iconst 0, 1) := by decide +kernel
theorem dX12_speaks_181 : decode cX12_speaks 181 = .ok (.istore 7, 2) := by decide +kernel
theorem dX12_speaks_183 : decode cX12_speaks 183 = .ok (.iconst 0, 1) := by decide +kernel
theorem dX12_speaks_184 : decode cX12_speaks 184 = .ok (.istore 8, 2) := by decide +kernel
theorem dX12_speaks_186 : decode cX12_speaks 186 = .ok (.iload 8, 2) := by decide +kernel
theorem dX12_speaks_188 : decode cX12_speaks 188 = .ok (.aload_n 0, 1) := by decide +kernel
theorem dX12_speaks_189 : decode cX12_speaks 189 = .ok (.getfield 310, 3) := by decide +kernel
theorem dX12_speaks_192 : decode cX12_speaks 192 = .ok (.if_icmp .ge 110, 3) := by decide +kernel
theorem dX12_speaks_195 : decode cX12_speaks 195 = .ok (.aload_n 0, 1) := by decide +kernel
theorem dX12_speaks_196 : decode cX12_speaks 196 = .ok (.getfield 190, 3) := by decide +kernel
theorem dX12_speaks_199 : decode cX12_speaks 199 = .ok (.iload 8, 2) := by decide +kernel
theorem dX12_speaks_201 : decode cX12_speaks 201 = .ok (.iaload, 1) := by decide +kernel
theorem dX12_speaks_202 : decode cX12_speaks 202 = .ok (.iconst 3, 1) := by decide +kernel
theorem dX12_speaks_203 : decode cX12_speaks 203 = .ok (.if_icmp .eq 6, 3) := by decide +kernel
theorem dX12_speaks_206 : decode cX12_speaks 206 = .ok (.goto 90, 3) := by decide +kernel
theorem dX12_speaks_209 : decode cX12_speaks 209 = .ok (.aload_n 0, 1) := by decide +kernel
theorem dX12_speaks_210 : decode cX12_speaks 210 = .ok (.getfield 124, 3) := by decide +kernel
theorem dX12_speaks_213 : decode cX12_speaks 213 = .ok (.iconst 4, 1) := by decide +kernel
theorem dX12_speaks_214 : decode cX12_speaks 214 = .ok (.iaload, 1) := by decide +kernel
theorem dX12_speaks_215 : decode cX12_speaks 215 = .ok (.iconst 1, 1) := by decide +kernel
theorem dX12_speaks_216 : decode cX12_speaks 216 = .ok (.if_icmp .ne 31, 3) := by decide +kernel
theorem dX12_speaks_219 : decode cX12_speaks 219 = .ok (.aload_n 0, 1) := by decide +kernel
theorem dX12_speaks_220 : decode cX12_speaks 220 = .ok (.getfield 152, 3) := by decide +kernel
theorem dX12_speaks_223 : decode cX12_speaks 223 = .ok (.aload_n 0, 1) := by decide +kernel
theorem dX12_speaks_224 : decode cX12_speaks 224 = .ok (.getfield 181, 3) := by decide +kernel
theorem dX12_speaks_227 : decode cX12_speaks 227 = .ok (.iload 8, 2) := by decide +kernel
theorem dX12_speaks_229 : decode cX12_speaks 229 = .ok (.iaload, 1) := by decide +kernel
theorem dX12_speaks_230 : decode cX12_speaks 230 = .ok (.iaload, 1) := by decide +kernel
theorem dX12_speaks_231 : decode cX12_speaks 231 = .ok (.aload_n 0, 1) := by decide +kernel
theorem dX12_speaks_232 : decode cX12_speaks 232 = .ok (.getfield 152, 3) := by decide +kernel
theorem dX12_speaks_235 : decode cX12_speaks 235 = .ok (.iload_n 2, 1) := by decide +kernel
theorem dX12_speaks_236 : decode cX12_speaks 236 = .ok (.iaload, 1) := by decide +kernel
theorem dX12_speaks_237 : decode cX12_speaks 237 = .ok (.if_icmp .ne 10, 3) := by decide +kernel
theorem dX12_speaks_240 : decode cX12_speaks 240 = .ok (.iload 5, 2) := by decide +kernel
theorem dX12_speaks_242 : decode cX12_speaks 242 = .ok (.bipush 16, 2) := by decide +kernel
theorem dX12_speaks_244 : decode cX12_speaks 244 = .ok (.ior, 1) := by decide +kernel
theorem dX12_speaks_245 : decode cX12_speaks 245 = .ok (.istore 5, 2) := by decide +kernel
theorem dX12_speaks_247 : decode cX12_speaks 247 = .ok (.aload_n 0, 1) := by decide +kernel
theorem dX12_speaks_248 : decode cX12_speaks 248 = .ok (.getfield 184, 3) := by decide +kernel
theorem dX12_speaks_251 : decode cX12_speaks 251 = .ok (.iload 8, 2) := by decide +kernel
theorem dX12_speaks_253 : decode cX12_speaks 253 = .ok (.iaload, 1) := by decide +kernel
theorem dX12_speaks_254 : decode cX12_speaks 254 = .ok (.iload_n 3, 1) := by decide +kernel
theorem dX12_speaks_255 : decode cX12_speaks 255 = .ok (.if_icmp .ne 10, 3) := by decide +kernel
theorem dX12_speaks_258 : decode cX12_speaks 258 = .ok (.iload 5, 2) := by decide +kernel
theorem dX12_speaks_260 : decode cX12_speaks 260 = .ok (.bipush 32, 2) := by decide +kernel
theorem dX12_speaks_262 : decode cX12_speaks 262 = .ok (.ior, 1) := by decide +kernel
theorem dX12_speaks_263 : decode cX12_speaks 263 = .ok (.istore 5, 2) := by decide +kernel
theorem dX12_speaks_265 : decode cX12_speaks 265 = .ok (.iload 7, 2) := by decide +kernel
theorem dX12_speaks_267 : decode cX12_speaks 267 = .ok (.aload_n 0, 1) := by decide +kernel
theorem dX12_speaks_268 : decode cX12_speaks 268 = .ok (.getfield 150, 3) := by decide +kernel
theorem dX12_speaks_271 : decode cX12_speaks 271 = .ok (.aload_n 0, 1) := by decide +kernel
theorem dX12_speaks_272 : decode cX12_speaks 272 = .ok (.getfield 181, 3) := by decide +kernel
theorem dX12_speaks_275 : decode cX12_speaks 275 = .ok (.iload 8, 2) := by decide +kernel
theorem dX12_speaks_277 : decode cX12_speaks 277 = .ok (.iaload, 1) := by decide +kernel
theorem dX12_speaks_278 : decode cX12_speaks 278 = .ok (.iaload, 1) := by decide +kernel
theorem dX12_speaks_279 : decode cX12_speaks 279 = .ok (.aload_n 0, 1) := by decide +kernel
theorem dX12_speaks_280 : decode cX12_speaks 280 = .ok (.getfield 150, 3) := by decide +kernel
theorem dX12_speaks_283 : decode cX12_speaks 283 = .ok (.iload_n 2, 1) := by decide +kernel
theorem dX12_speaks_284 : decode cX12_speaks 284 = .ok (.iaload, 1) := by decide +kernel
theorem dX12_speaks_285 : decode cX12_speaks 285 = .ok (.if_icmp .ne 7, 3) := by decide +kernel
theorem dX12_speaks_288 : decode cX12_speaks 288 = .ok (.iconst 1, 1) := by decide +kernel
theorem dX12_speaks_289 : decode cX12_speaks 289 = .ok (.goto 4, 3) := by decide +kernel
theorem dX12_speaks_292 : decode cX12_speaks 292 = .ok (.iconst 0, 1) := by decide +kernel
theorem dX12_speaks_293 : decode cX12_speaks 293 = .ok (.iadd, 1) := by decide +kernel
theorem dX12_speaks_294 : decode cX12_speaks 294 = .ok (.istore 7, 2) := by decide +kernel
theorem dX12_speaks_296 : decode cX12_speaks 296 = .ok (.iinc 8 1, 3) := by decide +kernel
theorem dX12_speaks_299 : decode cX12_speaks 299 = .ok (.goto (-113), 3) := by decide +kernel
theorem dX12_speaks_302 : decode cX12_speaks 302 = .ok (.aload_n 0, 1) := by decide +kernel
theorem dX12_speaks_303 : decode cX12_speaks 303 = .ok (.getfield 124, 3) := by decide +kernel
theorem dX12_speaks_306 : decode cX12_speaks 306 = .ok (.bipush 10, 2) := by decide +kernel
theorem dX12_speaks_308 : decode cX12_speaks 308 = .ok (.aload_n 0, 1) := by decide +kernel
theorem dX12_speaks_309 : decode cX12_speaks 309 = .ok (.getfield 150, 3) := by decide +kernel
theorem dX12_speaks_312 : decode cX12_speaks 312 = .ok (.iload_n 2, 1) := by decide +kernel
theorem dX12_speaks_313 : decode cX12_speaks 313 = .ok (.iaload, 1) := by decide +kernel
theorem dX12_speaks_314 : decode cX12_speaks 314 = .ok (.iadd, 1) := by decide +kernel
theorem dX12_speaks_315 : decode cX12_speaks 315 = .ok (.iaload, 1) := by decide +kernel
theorem dX12_speaks_316 : decode cX12_speaks 316 = .ok (.istore 8, 2) := by decide +kernel
theorem dX12_speaks_318 : decode cX12_speaks 318 = .ok (.iload 8, 2) := by decide +kernel
theorem dX12_speaks_320 : decode cX12_speaks 320 = .ok (.iconst (-1), 1) := by decide +kernel
theorem dX12_speaks_321 : decode cX12_speaks 321 = .ok (.if_icmp .eq 17, 3) := by decide +kernel
theorem dX12_speaks_324 : decode cX12_speaks 324 = .ok (.iload 7, 2) := by decide +kernel
theorem dX12_speaks_326 : decode cX12_speaks 326 = .ok (.iload 8, 2) := by decide +kernel
theorem dX12_speaks_328 : decode cX12_speaks 328 = .ok (.if_icmp .lt 10, 3) := by decide +kernel
theorem dX12_speaks_331 : decode cX12_speaks 331 = .ok (.iload 5, 2) := by decide +kernel
theorem dX12_speaks_333 : decode cX12_speaks 333 = .ok (.bipush 64, 2) := by decide +kernel
theorem dX12_speaks_335 : decode cX12_speaks 335 = .ok (.ior, 1) := by decide +kernel
theorem dX12_speaks_336 : decode cX12_speaks 336 = .ok (.istore 5, 2) := by decide +kernel
theorem dX12_speaks_338 : decode cX12_speaks 338 = .ok (.aload_n 0, 1) := by decide +kernel
theorem dX12_speaks_339 : decode cX12_speaks 339 = .ok (.getfield 300, 3) := by decide +kernel
theorem dX12_speaks_342 : decode cX12_speaks 342 = .ok (.iconst (-1), 1) := by decide +kernel
theorem dX12_speaks_343 : decode cX12_speaks 343 = .ok (.if_icmp .eq 19, 3) := by decide +kernel
theorem dX12_speaks_346 : decode cX12_speaks 346 = .ok (.iload 4, 2) := by decide +kernel
theorem dX12_speaks_348 : decode cX12_speaks 348 = .ok (.aload_n 0, 1) := by decide +kernel
theorem dX12_speaks_349 : decode cX12_speaks 349 = .ok (.getfield 300, 3) := by decide +kernel
theorem dX12_speaks_352 : decode cX12_speaks 352 = .ok (.isub, 1) := by decide +kernel
theorem dX12_speaks_353 : decode cX12_speaks 353 = .ok (.aload_n 0, 1) := by decide +kernel
theorem dX12_speaks_354 : decode cX12_speaks 354 = .ok (.getfield 124, 3) := by decide +kernel
theorem dX12_speaks_357 : decode cX12_speaks 357 = .ok (.iconst 3, 1) := by decide +kernel
theorem dX12_speaks_358 : decode cX12_speaks 358 = .ok (.iaload, 1) := by decide +kernel
theorem dX12_speaks_359 : decode cX12_speaks 359 = .ok (.if_icmp .le 11, 3) := by decide +kernel
theorem dX12_speaks_362 : decode cX12_speaks 362 = .ok (.iload 5, 2) := by decide +kernel
theorem dX12_speaks_364 : decode cX12_speaks 364 = .ok (.sipush 128, 3) := by decide +kernel
theorem dX12_speaks_367 : decode cX12_speaks 367 = .ok (.ior, 1) := by decide +kernel
theorem dX12_speaks_368 : decode cX12_speaks 368 = .ok (.istore 5, 2) := by decide +kernel
theorem dX12_speaks_370 : decode cX12_speaks 370 = .ok (.iload 5, 2) := by decide +kernel
theorem dX12_speaks_372 : decode cX12_speaks 372 = .ok (.ireturn, 1) := by decide +kernel
set_option maxRecDepth 20000 in
theorem ggX12_against_X12_isAsking : GoodIn wsX12_against wsX12_isAsking := goodIn_r _ [5, 6, 7, 8, 4, 9, 74, 75, 76, 77, 78, 79, 80, 81, 82, 83, 84, 85, 86, 87, 88, 89, 90, 91, 92, 93, 94, 95, 96, 97, 98, 99, 100, 101, 102, 103, 104, 105, 106, 107, 108, 109, 110, 111, 112, 113, 114, 115, 116, 117, 118, 119, 120, 121, 122, 123, 124, 125, 126] (by decide +kernel) (by decide +kernel)
set_option maxRecDepth 20000 in
theorem gX12_against_X12_isAsking : GoodIn wsX12_against (wsV RX12 313 RX12 yX12_isAsking wsX12_isAsking) := goodIn_app (goodIn_of _ (by decide +kernel)) ggX12_against_X12_isAsking
set_option maxRecDepth 20000 in
theorem ggX12_against_X12_speaks : GoodIn wsX12_against wsX12_speaks := goodIn_r _ [13, 14, 15, 16, 17, 18, 19, 20, 21, 22, 6, 23, 24, 25, 26, 27, 28, 29, 4, 30, 31, 32, 33, 34, 35, 36, 37, 38, 39, 40, 41, 42, 43, 44, 45, 46, 47, 48, 49, 50, 51, 52, 53, 54, 55, 56, 57, 58, 59, 60, 61, 62, 63, 64, 65, 66, 67, 68, 69, 70, 71, 72, 73, 74, 75, 76, 77, 78, 79, 80, 81, 82, 83, 84, 85, 86, 87, 88, 89, 90, 91, 92, 93, 94, 95, 96, 97, 98, 99, 100, 101, 102, 103, 104, 105, 106, 107, 108, 109, 110, 111, 112, 113, 114, 115, 116, 117, 118, 119, 120, 121, 122, 123, 124, 125, 126] (by decide +kernel) (by decide +kernel)
set_option maxRecDepth 20000 in
theorem gX12_against_X12_speaks : GoodIn wsX12_against (wsV RX12 316 RX12 yX12_speaks wsX12_speaks) := goodIn_app (goodIn_of _ (by decide +kernel)) ggX12_against_X12_speaks
theorem dX12_against_0 : decode cX12_against 0 = .ok (.aload_n 0, 1) := by decide +kernel
theorem dX12_against_1 : decode cX12_against 1 = .ok (.iload_n 1, 1) := by decide +kernel
theorem dX12_against_2 : decode cX12_against 2 = .ok (.invokevirtual 313, 3) := by decide +kernel
theorem dX12_against_5 : decode cX12_against 5 = .ok (.ifCond .eq 11, 3) := by decide +kernel
theorem dX12_against_8 : decode cX12_against 8 = .ok (.aload_n 0, 1) := by decide +kernel
theorem dX12_against_9 : decode cX12_against 9 = .ok (.iload_n 1, 1) := by decide +kernel
theorem dX12_against_10 : decode cX12_against 10 = .ok (.invokevirtual 316, 3) := by decide +kernel
theorem dX12_against_13 : decode cX12_against 13 = .ok (.goto 5, 3) := by decide +kernel
theorem dX12_against_16 : decode cX12_against 16 = .ok (.bipush (-2), 2) := by decide +kernel
theorem dX12_against_18 : decode cX12_against 18 = .ok (.ireturn, 1) := by decide +kernel
set_option maxRecDepth 20000 in
theorem ggX12_vote_X12_isAsking : GoodIn wsX12_vote wsX12_isAsking := goodIn_r _ [9, 10, 11, 12, 8, 13, 14, 15, 16, 17, 18, 19, 20, 21, 22, 23, 24, 25, 26, 27, 28, 29, 30, 31, 32, 33, 34, 35, 36, 37, 38, 39, 40, 41, 42, 43, 44, 45, 46, 47, 48, 49, 50, 51, 52, 53, 54, 55, 56, 57, 58, 59, 60, 61, 62, 63, 64, 65, 66] (by decide +kernel) (by decide +kernel)
set_option maxRecDepth 20000 in
theorem gX12_vote_X12_isAsking : GoodIn wsX12_vote (wsV RX12 313 RX12 yX12_isAsking wsX12_isAsking) := goodIn_app (goodIn_of _ (by decide +kernel)) ggX12_vote_X12_isAsking
set_option maxRecDepth 20000 in
theorem ggX12_vote_X12_in : GoodIn wsX12_vote wsX12_in := goodIn_r _ [13] (by decide +kernel) (by decide +kernel)
set_option maxRecDepth 20000 in
theorem gX12_vote_X12_in : GoodIn wsX12_vote (va_wsS RX12 7 yX12_in wsX12_in) := goodIn_app (goodIn_of _ (by decide +kernel)) ggX12_vote_X12_in
theorem dX12_vote_0 : decode cX12_vote 0 = .ok (.aload_n 0, 1) := by decide +kernel
theorem dX12_vote_1 : decode cX12_vote 1 = .ok (.iload_n 1, 1) := by decide +kernel
theorem dX12_vote_2 : decode cX12_vote 2 = .ok (.invokevirtual 313, 3) := by decide +kernel
theorem dX12_vote_5 : decode cX12_vote 5 = .ok (.ifCond .eq 27, 3) := by decide +kernel
theorem dX12_vote_8 : decode cX12_vote 8 = .ok (.iload_n 2, 1) := by decide +kernel
theorem dX12_vote_9 : decode cX12_vote 9 = .ok (.i2l, 1) := by decide +kernel
theorem dX12_vote_10 : decode cX12_vote 10 = .ok (.lconst 0, 1) := by decide +kernel
theorem dX12_vote_11 : decode cX12_vote 11 = .ok (.ldc2_w 319, 3) := by decide +kernel
theorem dX12_vote_14 : decode cX12_vote 14 = .ok (.invokestatic 7, 3) := by decide +kernel
theorem dX12_vote_17 : decode cX12_vote 17 = .ok (.ifCond .eq 15, 3) := by decide +kernel
theorem dX12_vote_20 : decode cX12_vote 20 = .ok (.iload_n 3, 1) := by decide +kernel
theorem dX12_vote_21 : decode cX12_vote 21 = .ok (.i2l, 1) := by decide +kernel
theorem dX12_vote_22 : decode cX12_vote 22 = .ok (.lconst 0, 1) := by decide +kernel
theorem dX12_vote_23 : decode cX12_vote 23 = .ok (.ldc2_w 319, 3) := by decide +kernel
theorem dX12_vote_26 : decode cX12_vote 26 = .ok (.invokestatic 7, 3) := by decide +kernel
theorem dX12_vote_29 : decode cX12_vote 29 = .ok (.ifCond .ne 6, 3) := by decide +kernel
theorem dX12_vote_32 : decode cX12_vote 32 = .ok (.bipush (-2), 2) := by decide +kernel
theorem dX12_vote_34 : decode cX12_vote 34 = .ok (.ireturn, 1) := by decide +kernel
theorem dX12_vote_35 : decode cX12_vote 35 = .ok (.aload_n 0, 1) := by decide +kernel
theorem dX12_vote_36 : decode cX12_vote 36 = .ok (.getfield 190, 3) := by decide +kernel
theorem dX12_vote_39 : decode cX12_vote 39 = .ok (.iload_n 1, 1) := by decide +kernel
theorem dX12_vote_40 : decode cX12_vote 40 = .ok (.iaload, 1) := by decide +kernel
theorem dX12_vote_41 : decode cX12_vote 41 = .ok (.ifCond .eq 6, 3) := by decide +kernel
theorem dX12_vote_44 : decode cX12_vote 44 = .ok (.bipush (-4), 2) := by decide +kernel
theorem dX12_vote_46 : decode cX12_vote 46 = .ok (.ireturn, 1) := by decide +kernel
theorem dX12_vote_47 : decode cX12_vote 47 = .ok (.aload_n 0, 1) := by decide +kernel
theorem dX12_vote_48 : decode cX12_vote 48 = .ok (.getfield 193, 3) := by decide +kernel
theorem dX12_vote_51 : decode cX12_vote 51 = .ok (.iload_n 1, 1) := by decide +kernel
theorem dX12_vote_52 : decode cX12_vote 52 = .ok (.iload_n 2, 1) := by decide +kernel
theorem dX12_vote_53 : decode cX12_vote 53 = .ok (.iastore, 1) := by decide +kernel
theorem dX12_vote_54 : decode cX12_vote 54 = .ok (.aload_n 0, 1) := by decide +kernel
theorem dX12_vote_55 : decode cX12_vote 55 = .ok (.getfield 195, 3) := by decide +kernel
theorem dX12_vote_58 : decode cX12_vote 58 = .ok (.iload_n 1, 1) := by decide +kernel
theorem dX12_vote_59 : decode cX12_vote 59 = .ok (.iload_n 3, 1) := by decide +kernel
theorem dX12_vote_60 : decode cX12_vote 60 = .ok (.iastore, 1) := by decide +kernel
theorem dX12_vote_61 : decode cX12_vote 61 = .ok (.iconst 1, 1) := by decide +kernel
theorem dX12_vote_62 : decode cX12_vote 62 = .ok (.ireturn, 1) := by decide +kernel
set_option maxRecDepth 20000 in
theorem ggX12_decide_X12_isAsking : GoodIn wsX12_decide wsX12_isAsking := goodIn_r _ [10, 11, 12, 13, 9, 14, 77, 78, 79, 80, 81, 82, 83, 84, 85, 86, 87, 88, 89, 90, 91, 92, 93, 94, 95, 96, 97, 98, 99, 100, 101, 102, 103, 104, 105, 106, 107, 108, 109, 110, 111, 112, 113, 114, 115, 116, 117, 118, 119, 120, 121, 122, 123, 124, 125, 126, 127, 128, 129] (by decide +kernel) (by decide +kernel)
set_option maxRecDepth 20000 in
theorem gX12_decide_X12_isAsking : GoodIn wsX12_decide (wsV RX12 313 RX12 yX12_isAsking wsX12_isAsking) := goodIn_app (goodIn_of _ (by decide +kernel)) ggX12_decide_X12_isAsking
set_option maxRecDepth 20000 in
theorem ggX12_decide_X12_speaks : GoodIn wsX12_decide wsX12_speaks := goodIn_r _ [18, 19, 20, 21, 22, 5, 23, 24, 25, 26, 11, 1, 27, 28, 29, 30, 31, 32, 9, 33, 34, 35, 36, 37, 38, 39, 40, 41, 42, 43, 44, 45, 46, 47, 48, 49, 50, 51, 52, 53, 54, 55, 56, 57, 58, 59, 60, 61, 62, 63, 64, 65, 66, 67, 68, 69, 70, 71, 72, 73, 74, 75, 76, 77, 78, 79, 80, 81, 82, 83, 84, 85, 86, 87, 88, 89, 90, 91, 92, 93, 94, 95, 96, 97, 98, 99, 100, 101, 102, 103, 104, 105, 106, 107, 108, 109, 110, 111, 112, 113, 114, 115, 116, 117, 118, 119, 120, 121, 122, 123, 124, 125, 126, 127, 128, 129] (by decide +kernel) (by decide +kernel)
set_option maxRecDepth 20000 in
theorem gX12_decide_X12_speaks : GoodIn wsX12_decide (wsV RX12 316 RX12 yX12_speaks wsX12_speaks) := goodIn_app (goodIn_of _ (by decide +kernel)) ggX12_decide_X12_speaks
theorem dX12_decide_0 : decode cX12_decide 0 = .ok (.aload_n 0, 1) := by decide +kernel
theorem dX12_decide_1 : decode cX12_decide 1 = .ok (.iload_n 1, 1) := by decide +kernel
theorem dX12_decide_2 : decode cX12_decide 2 = .ok (.invokevirtual 313, 3) := by decide +kernel
theorem dX12_decide_5 : decode cX12_decide 5 = .ok (.ifCond .ne 6, 3) := by decide +kernel
theorem dX12_decide_8 : decode cX12_decide 8 = .ok (.bipush (-2), 2) := by decide +kernel
theorem dX12_decide_10 : decode cX12_decide 10 = .ok (.ireturn, 1) := by decide +kernel
theorem dX12_decide_11 : decode cX12_decide 11 = .ok (.aload_n 0, 1) := by decide +kernel
theorem dX12_decide_12 : decode cX12_decide 12 = .ok (.getfield 190, 3) := by decide +kernel
theorem dX12_decide_15 : decode cX12_decide 15 = .ok (.iload_n 1, 1) := by decide +kernel
theorem dX12_decide_16 : decode cX12_decide 16 = .ok (.iaload, 1) := by decide +kernel
theorem dX12_decide_17 : decode cX12_decide 17 = .ok (.ifCond .eq 6, 3) := by decide +kernel
theorem dX12_decide_20 : decode cX12_decide 20 = .ok (.bipush (-4), 2) := by decide +kernel
theorem dX12_decide_22 : decode cX12_decide 22 = .ok (.ireturn, 1) := by decide +kernel
theorem dX12_decide_23 : decode cX12_decide 23 = .ok (.aload_n 0, 1) := by decide +kernel
theorem dX12_decide_24 : decode cX12_decide 24 = .ok (.getfield 197, 3) := by decide +kernel
theorem dX12_decide_27 : decode cX12_decide 27 = .ok (.iload_n 1, 1) := by decide +kernel
theorem dX12_decide_28 : decode cX12_decide 28 = .ok (.aload_n 0, 1) := by decide +kernel
theorem dX12_decide_29 : decode cX12_decide 29 = .ok (.iload_n 1, 1) := by decide +kernel
theorem dX12_decide_30 : decode cX12_decide 30 = .ok (.invokevirtual 316, 3) := by decide +kernel
theorem dX12_decide_33 : decode cX12_decide 33 = .ok (.iastore, 1) := by decide +kernel
theorem dX12_decide_34 : decode cX12_decide 34 = .ok (.aload_n 0, 1) := by decide +kernel
theorem dX12_decide_35 : decode cX12_decide 35 = .ok (.getfield 193, 3) := by decide +kernel
theorem dX12_decide_38 : decode cX12_decide 38 = .ok (.iload_n 1, 1) := by decide +kernel
theorem dX12_decide_39 : decode cX12_decide 39 = .ok (.iaload, 1) := by decide +kernel
theorem dX12_decide_40 : decode cX12_decide 40 = .ok (.aload_n 0, 1) := by decide +kernel
theorem dX12_decide_41 : decode cX12_decide 41 = .ok (.getfield 195, 3) := by decide +kernel
theorem dX12_decide_44 : decode cX12_decide 44 = .ok (.iload_n 1, 1) := by decide +kernel
theorem dX12_decide_45 : decode cX12_decide 45 = .ok (.iaload, 1) := by decide +kernel
theorem dX12_decide_46 : decode cX12_decide 46 = .ok (.iadd, 1) := by decide +kernel
theorem dX12_decide_47 : decode cX12_decide 47 = .ok (.istore_n 2, 1) := by decide +kernel
theorem dX12_decide_48 : decode cX12_decide 48 = .ok (.aload_n 0, 1) := by decide +kernel
theorem dX12_decide_49 : decode cX12_decide 49 = .ok (.getfield 190, 3) := by decide +kernel
theorem dX12_decide_52 : decode cX12_decide 52 = .ok (.iload_n 1, 1) := by decide +kernel
theorem dX12_decide_53 : decode cX12_decide 53 = .ok (.aload_n 0, 1) := by decide +kernel
theorem dX12_decide_54 : decode cX12_decide 54 = .ok (.getfield 197, 3) := by decide +kernel
theorem dX12_decide_57 : decode cX12_decide 57 = .ok (.iload_n 1, 1) := by decide +kernel
theorem dX12_decide_58 : decode cX12_decide 58 = .ok (.iaload, 1) := by decide +kernel
theorem dX12_decide_59 : decode cX12_decide 59 = .ok (.ifCond .ne 34, 3) := by decide +kernel
theorem dX12_decide_62 : decode cX12_decide 62 = .ok (.iload_n 2, 1) := by decide +kernel
theorem dX12_decide_63 : decode cX12_decide 63 = .ok (.aload_n 0, 1) := by decide +kernel
theorem dX12_decide_64 : decode cX12_decide 64 = .ok (.getfield 124, 3) := by decide +kernel
theorem dX12_decide_67 : decode cX12_decide 67 = .ok (.iconst 5, 1) := by decide +kernel
theorem dX12_decide_68 : decode cX12_decide 68 = .ok (.iaload, 1) := by decide +kernel
theorem dX12_decide_69 : decode cX12_decide 69 = .ok (.if_icmp .lt 24, 3) := by decide +kernel
theorem dX12_decide_72 : decode cX12_decide 72 = .ok (.bipush 100, 2) := by decide +kernel
theorem dX12_decide_74 : decode cX12_decide 74 = .ok (.aload_n 0, 1) := by decide +kernel
theorem dX12_decide_75 : decode cX12_decide 75 = .ok (.getfield 193, 3) := by decide +kernel
theorem dX12_decide_78 : decode cX12_decide 78 = .ok (.iload_n 1, 1) := by decide +kernel
theorem dX12_decide_79 : decode cX12_decide 79 = .ok (.iaload, 1) := by decide +kernel
theorem dX12_decide_80 : decode cX12_decide 80 = .ok (.imul, 1) := by decide +kernel
theorem dX12_decide_81 : decode cX12_decide 81 = .ok (.aload_n 0, 1) := by decide +kernel
theorem dX12_decide_82 : decode cX12_decide 82 = .ok (.getfield 124, 3) := by decide +kernel
theorem dX12_decide_85 : decode cX12_decide 85 = .ok (.bipush 6, 2) := by decide +kernel
theorem dX12_decide_87 : decode cX12_decide 87 = .ok (.iaload, 1) := by decide +kernel
theorem dX12_decide_88 : decode cX12_decide 88 = .ok (.iload_n 2, 1) := by decide +kernel
theorem dX12_decide_89 : decode cX12_decide 89 = .ok (.imul, 1) := by decide +kernel
theorem dX12_decide_90 : decode cX12_decide 90 = .ok (.if_icmp .ge 7, 3) := by decide +kernel
theorem dX12_decide_93 : decode cX12_decide 93 = .ok (.iconst 1, 1) := by decide +kernel
theorem dX12_decide_94 : decode cX12_decide 94 = .ok (.goto 4, 3) := by decide +kernel
theorem dX12_decide_97 : decode cX12_decide 97 = .ok (.iconst 2, 1) := by decide +kernel
theorem dX12_decide_98 : decode cX12_decide 98 = .ok (.iastore, 1) := by decide +kernel
theorem dX12_decide_99 : decode cX12_decide 99 = .ok (.aload_n 0, 1) := by decide +kernel
theorem dX12_decide_100 : decode cX12_decide 100 = .ok (.getfield 190, 3) := by decide +kernel
theorem dX12_decide_103 : decode cX12_decide 103 = .ok (.iload_n 1, 1) := by decide +kernel
theorem dX12_decide_104 : decode cX12_decide 104 = .ok (.iaload, 1) := by decide +kernel
theorem dX12_decide_105 : decode cX12_decide 105 = .ok (.ireturn, 1) := by decide +kernel
set_option maxRecDepth 20000 in
theorem ggX12_widthOf_X12_isSmall : GoodIn wsX12_widthOf wsX12_isSmall := goodIn_r _ [4] (by decide +kernel) (by decide +kernel)
set_option maxRecDepth 20000 in
theorem gX12_widthOf_X12_isSmall : GoodIn wsX12_widthOf (va_wsS RX12 42 yX12_isSmall wsX12_isSmall) := goodIn_app (goodIn_of _ (by decide +kernel)) ggX12_widthOf_X12_isSmall
set_option maxRecDepth 20000 in
theorem ggX12_widthOf_X12_isDigit : GoodIn wsX12_widthOf wsX12_isDigit := goodIn_r _ [7] (by decide +kernel) (by decide +kernel)
set_option maxRecDepth 20000 in
theorem gX12_widthOf_X12_isDigit : GoodIn wsX12_widthOf (va_wsS RX12 46 yX12_isDigit wsX12_isDigit) := goodIn_app (goodIn_of _ (by decide +kernel)) ggX12_widthOf_X12_isDigit
theorem dX12_widthOf_0 : decode cX12_widthOf 0 = .ok (.iload_n 0, 1) := by decide +kernel
theorem dX12_widthOf_1 : decode cX12_widthOf 1 = .ok (.bipush 105, 2) := by decide +kernel
theorem dX12_widthOf_3 : decode cX12_widthOf 3 = .ok (.if_icmp .eq 39, 3) := by decide +kernel
theorem dX12_widthOf_6 : decode cX12_widthOf 6 = .ok (.iload_n 0, 1) := by decide +kernel
theorem dX12_widthOf_7 : decode cX12_widthOf 7 = .ok (.bipush 108, 2) := by decide +kernel
theorem dX12_widthOf_9 : decode cX12_widthOf 9 = .ok (.if_icmp .eq 33, 3) := by decide +kernel
theorem dX12_widthOf_12 : decode cX12_widthOf 12 = .ok (.iload_n 0, 1) := by decide +kernel
theorem dX12_widthOf_13 : decode cX12_widthOf 13 = .ok (.bipush 106, 2) := by decide +kernel
theorem dX12_widthOf_15 : decode cX12_widthOf 15 = .ok (.if_icmp .eq 27, 3) := by decide +kernel
theorem dX12_widthOf_18 : decode cX12_widthOf 18 = .ok (.iload_n 0, 1) := by decide +kernel
theorem dX12_widthOf_19 : decode cX12_widthOf 19 = .ok (.bipush 46, 2) := by decide +kernel
theorem dX12_widthOf_21 : decode cX12_widthOf 21 = .ok (.if_icmp .eq 21, 3) := by decide +kernel
theorem dX12_widthOf_24 : decode cX12_widthOf 24 = .ok (.iload_n 0, 1) := by decide +kernel
theorem dX12_widthOf_25 : decode cX12_widthOf 25 = .ok (.bipush 44, 2) := by decide +kernel
theorem dX12_widthOf_27 : decode cX12_widthOf 27 = .ok (.if_icmp .eq 15, 3) := by decide +kernel
theorem dX12_widthOf_30 : decode cX12_widthOf 30 = .ok (.iload_n 0, 1) := by decide +kernel
theorem dX12_widthOf_31 : decode cX12_widthOf 31 = .ok (.bipush 39, 2) := by decide +kernel
theorem dX12_widthOf_33 : decode cX12_widthOf 33 = .ok (.if_icmp .eq 9, 3) := by decide +kernel
theorem dX12_widthOf_36 : decode cX12_widthOf 36 = .ok (.iload_n 0, 1) := by decide +kernel
theorem dX12_widthOf_37 : decode cX12_widthOf 37 = .ok (.bipush 33, 2) := by decide +kernel
theorem dX12_widthOf_39 : decode cX12_widthOf 39 = .ok (.if_icmp .ne 5, 3) := by decide +kernel
theorem dX12_widthOf_42 : decode cX12_widthOf 42 = .ok (.iconst 2, 1) := by decide +kernel
theorem dX12_widthOf_43 : decode cX12_widthOf 43 = .ok (.ireturn, 1) := by decide +kernel
theorem dX12_widthOf_44 : decode cX12_widthOf 44 = .ok (.iload_n 0, 1) := by decide +kernel
theorem dX12_widthOf_45 : decode cX12_widthOf 45 = .ok (.bipush 109, 2) := by decide +kernel
theorem dX12_widthOf_47 : decode cX12_widthOf 47 = .ok (.if_icmp .eq 21, 3) := by decide +kernel
theorem dX12_widthOf_50 : decode cX12_widthOf 50 = .ok (.iload_n 0, 1) := by decide +kernel
theorem dX12_widthOf_51 : decode cX12_widthOf 51 = .ok (.bipush 119, 2) := by decide +kernel
theorem dX12_widthOf_53 : decode cX12_widthOf 53 = .ok (.if_icmp .eq 15, 3) := by decide +kernel
theorem dX12_widthOf_56 : decode cX12_widthOf 56 = .ok (.iload_n 0, 1) := by decide +kernel
theorem dX12_widthOf_57 : decode cX12_widthOf 57 = .ok (.bipush 77, 2) := by decide +kernel
theorem dX12_widthOf_59 : decode cX12_widthOf 59 = .ok (.if_icmp .eq 9, 3) := by decide +kernel
theorem dX12_widthOf_62 : decode cX12_widthOf 62 = .ok (.iload_n 0, 1) := by decide +kernel
theorem dX12_widthOf_63 : decode cX12_widthOf 63 = .ok (.bipush 87, 2) := by decide +kernel
theorem dX12_widthOf_65 : decode cX12_widthOf 65 = .ok (.if_icmp .ne 6, 3) := by decide +kernel
theorem dX12_widthOf_68 : decode cX12_widthOf 68 = .ok (.bipush 6, 2) := by decide +kernel
theorem dX12_widthOf_70 : decode cX12_widthOf 70 = .ok (.ireturn, 1) := by decide +kernel
theorem dX12_widthOf_71 : decode cX12_widthOf 71 = .ok (.iload_n 0, 1) := by decide +kernel
theorem dX12_widthOf_72 : decode cX12_widthOf 72 = .ok (.invokestatic 42, 3) := by decide +kernel
theorem dX12_widthOf_75 : decode cX12_widthOf 75 = .ok (.ifCond .ne 10, 3) := by decide +kernel
theorem dX12_widthOf_78 : decode cX12_widthOf 78 = .ok (.iload_n 0, 1) := by decide +kernel
theorem dX12_widthOf_79 : decode cX12_widthOf 79 = .ok (.invokestatic 46, 3) := by decide +kernel
theorem dX12_widthOf_82 : decode cX12_widthOf 82 = .ok (.ifCond .eq 5, 3) := by decide +kernel
theorem dX12_widthOf_85 : decode cX12_widthOf 85 = .ok (.iconst 4, 1) := by decide +kernel
theorem dX12_widthOf_86 : decode cX12_widthOf 86 = .ok (.ireturn, 1) := by decide +kernel
theorem dX12_widthOf_87 : decode cX12_widthOf 87 = .ok (.iload_n 0, 1) := by decide +kernel
theorem dX12_widthOf_88 : decode cX12_widthOf 88 = .ok (.bipush 65, 2) := by decide +kernel
theorem dX12_widthOf_90 : decode cX12_widthOf 90 = .ok (.if_icmp .lt 13, 3) := by decide +kernel
theorem dX12_widthOf_93 : decode cX12_widthOf 93 = .ok (.iload_n 0, 1) := by decide +kernel
theorem dX12_widthOf_94 : decode cX12_widthOf 94 = .ok (.bipush 90, 2) := by decide +kernel
theorem dX12_widthOf_96 : decode cX12_widthOf 96 = .ok (.if_icmp .gt 7, 3) := by decide +kernel
theorem dX12_widthOf_99 : decode cX12_widthOf 99 = .ok (.iconst 5, 1) := by decide +kernel
theorem dX12_widthOf_100 : decode cX12_widthOf 100 = .ok (.goto 4, 3) := by decide +kernel
theorem dX12_widthOf_103 : decode cX12_widthOf 103 = .ok (.iconst 3, 1) := by decide +kernel
theorem dX12_widthOf_104 : decode cX12_widthOf 104 = .ok (.ireturn, 1) := by decide +kernel
set_option maxRecDepth 20000 in
theorem ggX12_takeWords_X12_byteAt : GoodIn wsX12_takeWords wsX12_byteAt := goodIn_r _ [8, 2, 9, 19, 20, 21, 22, 23, 24, 25, 26, 27, 28, 29, 30, 31, 32, 33, 34, 35, 36, 37, 38, 39, 40, 41, 42, 43, 44, 45, 46, 47, 48, 49, 50, 51, 52, 53, 54, 55, 56, 57, 58, 59, 60, 61, 62, 63, 64, 65, 66, 67, 68, 69, 70, 71] (by decide +kernel) (by decide +kernel)
set_option maxRecDepth 20000 in
theorem gX12_takeWords_X12_byteAt : GoodIn wsX12_takeWords (wsV RX12 35 RX12 yX12_byteAt wsX12_byteAt) := goodIn_app (goodIn_of _ (by decide +kernel)) ggX12_takeWords_X12_byteAt
set_option maxRecDepth 20000 in
theorem ggX12_takeWords_X12_widthOf : GoodIn wsX12_takeWords wsX12_widthOf := goodIn_r _ [12, 13, 14, 7, 15, 16, 17, 18] (by decide +kernel) (by decide +kernel)
set_option maxRecDepth 20000 in
theorem gX12_takeWords_X12_widthOf : GoodIn wsX12_takeWords (va_wsS RX12 324 yX12_widthOf wsX12_widthOf) := goodIn_app (goodIn_of _ (by decide +kernel)) ggX12_takeWords_X12_widthOf
theorem dX12_takeWords_0 : decode cX12_takeWords 0 = .ok (.aload_n 0, 1) := by decide +kernel
theorem dX12_takeWords_1 : decode cX12_takeWords 1 = .ok (.iconst 0, 1) := by decide +kernel
theorem dX12_takeWords_2 : decode cX12_takeWords 2 = .ok (.putfield 321, 3) := by decide +kernel
theorem dX12_takeWords_5 : decode cX12_takeWords 5 = .ok (.iconst 0, 1) := by decide +kernel
theorem dX12_takeWords_6 : decode cX12_takeWords 6 = .ok (.istore_n 1, 1) := by decide +kernel
theorem dX12_takeWords_7 : decode cX12_takeWords 7 = .ok (.iconst 0, 1) := by decide +kernel
theorem dX12_takeWords_8 : decode cX12_takeWords 8 = .ok (.istore_n 2, 1) := by decide +kernel
theorem dX12_takeWords_9 : decode cX12_takeWords 9 = .ok (.iload_n 2, 1) := by decide +kernel
theorem dX12_takeWords_10 : decode cX12_takeWords 10 = .ok (.aload_n 0, 1) := by decide +kernel
theorem dX12_takeWords_11 : decode cX12_takeWords 11 = .ok (.getfield 25, 3) := by decide +kernel
theorem dX12_takeWords_14 : decode cX12_takeWords 14 = .ok (.if_icmp .ge 110, 3) := by decide +kernel
theorem dX12_takeWords_17 : decode cX12_takeWords 17 = .ok (.aload_n 0, 1) := by decide +kernel
theorem dX12_takeWords_18 : decode cX12_takeWords 18 = .ok (.iload_n 2, 1) := by decide +kernel
theorem dX12_takeWords_19 : decode cX12_takeWords 19 = .ok (.invokevirtual 35, 3) := by decide +kernel
theorem dX12_takeWords_22 : decode cX12_takeWords 22 = .ok (.istore_n 3, 1) := by decide +kernel
theorem dX12_takeWords_23 : decode cX12_takeWords 23 = .ok (.iload_n 3, 1) := by decide +kernel
theorem dX12_takeWords_24 : decode cX12_takeWords 24 = .ok (.bipush 32, 2) := by decide +kernel
theorem dX12_takeWords_26 : decode cX12_takeWords 26 = .ok (.if_icmp .eq 9, 3) := by decide +kernel
theorem dX12_takeWords_29 : decode cX12_takeWords 29 = .ok (.iload_n 3, 1) := by decide +kernel
theorem dX12_takeWords_30 : decode cX12_takeWords 30 = .ok (.bipush 10, 2) := by decide +kernel
theorem dX12_takeWords_32 : decode cX12_takeWords 32 = .ok (.if_icmp .ne 8, 3) := by decide +kernel
theorem dX12_takeWords_35 : decode cX12_takeWords 35 = .ok (.iconst 0, 1) := by decide +kernel
theorem dX12_takeWords_36 : decode cX12_takeWords 36 = .ok (.istore_n 1, 1) := by decide +kernel
theorem dX12_takeWords_37 : decode cX12_takeWords 37 = .ok (.goto 81, 3) := by decide +kernel
theorem dX12_takeWords_40 : decode cX12_takeWords 40 = .ok (.iload_n 3, 1) := by decide +kernel
theorem dX12_takeWords_41 : decode cX12_takeWords 41 = .ok (.bipush 33, 2) := by decide +kernel
theorem dX12_takeWords_43 : decode cX12_takeWords 43 = .ok (.if_icmp .lt 28, 3) := by decide +kernel
theorem dX12_takeWords_46 : decode cX12_takeWords 46 = .ok (.iload_n 3, 1) := by decide +kernel
theorem dX12_takeWords_47 : decode cX12_takeWords 47 = .ok (.bipush 126, 2) := by decide +kernel
theorem dX12_takeWords_49 : decode cX12_takeWords 49 = .ok (.if_icmp .gt 22, 3) := by decide +kernel
theorem dX12_takeWords_52 : decode cX12_takeWords 52 = .ok (.iload_n 1, 1) := by decide +kernel
theorem dX12_takeWords_53 : decode cX12_takeWords 53 = .ok (.bipush 24, 2) := by decide +kernel
theorem dX12_takeWords_55 : decode cX12_takeWords 55 = .ok (.if_icmp .eq 16, 3) := by decide +kernel
theorem dX12_takeWords_58 : decode cX12_takeWords 58 = .ok (.iload_n 1, 1) := by decide +kernel
theorem dX12_takeWords_59 : decode cX12_takeWords 59 = .ok (.ifCond .ne 14, 3) := by decide +kernel
theorem dX12_takeWords_62 : decode cX12_takeWords 62 = .ok (.aload_n 0, 1) := by decide +kernel
theorem dX12_takeWords_63 : decode cX12_takeWords 63 = .ok (.getfield 321, 3) := by decide +kernel
theorem dX12_takeWords_66 : decode cX12_takeWords 66 = .ok (.bipush 40, 2) := by decide +kernel
theorem dX12_takeWords_68 : decode cX12_takeWords 68 = .ok (.if_icmp .ne 5, 3) := by decide +kernel
theorem dX12_takeWords_71 : decode cX12_takeWords 71 = .ok (.iconst 0, 1) := by decide +kernel
theorem dX12_takeWords_72 : decode cX12_takeWords 72 = .ok (.ireturn, 1) := by decide +kernel
theorem dX12_takeWords_73 : decode cX12_takeWords 73 = .ok (.iload_n 1, 1) := by decide +kernel
theorem dX12_takeWords_74 : decode cX12_takeWords 74 = .ok (.ifCond .ne 23, 3) := by decide +kernel
theorem dX12_takeWords_77 : decode cX12_takeWords 77 = .ok (.aload_n 0, 1) := by decide +kernel
theorem dX12_takeWords_78 : decode cX12_takeWords 78 = .ok (.getfield 209, 3) := by decide +kernel
theorem dX12_takeWords_81 : decode cX12_takeWords 81 = .ok (.aload_n 0, 1) := by decide +kernel
theorem dX12_takeWords_82 : decode cX12_takeWords 82 = .ok (.getfield 321, 3) := by decide +kernel
theorem dX12_takeWords_85 : decode cX12_takeWords 85 = .ok (.iconst 0, 1) := by decide +kernel
theorem dX12_takeWords_86 : decode cX12_takeWords 86 = .ok (.iastore, 1) := by decide +kernel
theorem dX12_takeWords_87 : decode cX12_takeWords 87 = .ok (.aload_n 0, 1) := by decide +kernel
theorem dX12_takeWords_88 : decode cX12_takeWords 88 = .ok (.dup, 1) := by decide +kernel
theorem dX12_takeWords_89 : decode cX12_takeWords 89 = .ok (.getfield 321, 3) := by decide +kernel
theorem dX12_takeWords_92 : decode cX12_takeWords 92 = .ok (.iconst 1, 1) := by decide +kernel
theorem dX12_takeWords_93 : decode cX12_takeWords 93 = .ok (.iadd, 1) := by decide +kernel
theorem dX12_takeWords_94 : decode cX12_takeWords 94 = .ok (.putfield 321, 3) := by decide +kernel
theorem dX12_takeWords_97 : decode cX12_takeWords 97 = .ok (.aload_n 0, 1) := by decide +kernel
theorem dX12_takeWords_98 : decode cX12_takeWords 98 = .ok (.getfield 209, 3) := by decide +kernel
theorem dX12_takeWords_101 : decode cX12_takeWords 101 = .ok (.aload_n 0, 1) := by decide +kernel
theorem dX12_takeWords_102 : decode cX12_takeWords 102 = .ok (.getfield 321, 3) := by decide +kernel
theorem dX12_takeWords_105 : decode cX12_takeWords 105 = .ok (.iconst 1, 1) := by decide +kernel
theorem dX12_takeWords_106 : decode cX12_takeWords 106 = .ok (.isub, 1) := by decide +kernel
theorem dX12_takeWords_107 : decode cX12_takeWords 107 = .ok (.dup2, 1) := by decide +kernel
theorem dX12_takeWords_108 : decode cX12_takeWords 108 = .ok (.iaload, 1) := by decide +kernel
theorem dX12_takeWords_109 : decode cX12_takeWords 109 = .ok (.iload_n 3, 1) := by decide +kernel
theorem dX12_takeWords_110 : decode cX12_takeWords 110 = .ok (.invokestatic 324, 3) := by decide +kernel
theorem dX12_takeWords_113 : decode cX12_takeWords 113 = .ok (.iadd, 1) := by decide +kernel
theorem dX12_takeWords_114 : decode cX12_takeWords 114 = .ok (.iastore, 1) := by decide +kernel
theorem dX12_takeWords_115 : decode cX12_takeWords 115 = .ok (.iinc 1 1, 3) := by decide +kernel
theorem dX12_takeWords_118 : decode cX12_takeWords 118 = .ok (.iinc 2 1, 3) := by decide +kernel
theorem dX12_takeWords_121 : decode cX12_takeWords 121 = .ok (.goto (-112), 3) := by decide +kernel
theorem dX12_takeWords_124 : decode cX12_takeWords 124 = .ok (.aload_n 0, 1) := by decide +kernel
theorem dX12_takeWords_125 : decode cX12_takeWords 125 = .ok (.getfield 321, 3) := by decide +kernel
theorem dX12_takeWords_128 : decode cX12_takeWords 128 = .ok (.ifCond .le 7, 3) := by decide +kernel
theorem dX12_takeWords_131 : decode cX12_takeWords 131 = .ok (.iconst 1, 1) := by decide +kernel
theorem dX12_takeWords_132 : decode cX12_takeWords 132 = .ok (.goto 4, 3) := by decide +kernel
theorem dX12_takeWords_135 : decode cX12_takeWords 135 = .ok (.iconst 0, 1) := by decide +kernel
theorem dX12_takeWords_136 : decode cX12_takeWords 136 = .ok (.ireturn, 1) := by decide +kernel
set_option maxRecDepth 20000 in
theorem ggX12_areSure_X12_live : GoodIn wsX12_areSure wsX12_live := goodIn_r _ [11, 6, 12, 13, 14, 15, 16, 17, 18, 19, 20, 21, 22, 23, 24, 25, 26, 10, 27, 28, 29, 30, 31, 32, 33, 34, 35, 36, 37, 38, 39, 40, 41, 42, 43, 44, 45, 46, 47, 48, 49, 50, 51, 52, 53, 54, 55, 56, 73, 74, 75, 76, 77, 78, 79, 80, 81, 82, 83, 84, 85, 86, 87, 88, 89, 90, 91, 92, 93, 94, 95, 96, 97, 98, 99, 100, 101, 102, 103, 104, 105, 106, 107, 108, 109, 110, 111, 112, 113, 114, 115, 116, 117, 118, 119, 120, 121, 122, 123, 124, 125] (by decide +kernel) (by decide +kernel)
set_option maxRecDepth 20000 in
theorem gX12_areSure_X12_live : GoodIn wsX12_areSure (wsV RX12 303 RX12 yX12_live wsX12_live) := goodIn_app (goodIn_of _ (by decide +kernel)) ggX12_areSure_X12_live
set_option maxRecDepth 20000 in
theorem ggX12_areSure_X12_byteAt : GoodIn wsX12_areSure wsX12_byteAt := goodIn_r _ [60, 3, 61, 73, 74, 75, 76, 77, 78, 79, 80, 81, 82, 83, 84, 85, 86, 87, 88, 89, 90, 91, 92, 93, 94, 95, 96, 97, 98, 99, 100, 101, 102, 103, 104, 105, 106, 107, 108, 109, 110, 111, 112, 113, 114, 115, 116, 117, 118, 119, 120, 121, 122, 123, 124, 125] (by decide +kernel) (by decide +kernel)
set_option maxRecDepth 20000 in
theorem gX12_areSure_X12_byteAt : GoodIn wsX12_areSure (wsV RX12 35 RX12 yX12_byteAt wsX12_byteAt) := goodIn_app (goodIn_of _ (by decide +kernel)) ggX12_areSure_X12_byteAt
set_option maxRecDepth 20000 in
theorem ggX12_areSure_X12_isDigit : GoodIn wsX12_areSure wsX12_isDigit := goodIn_r _ [64] (by decide +kernel) (by decide +kernel)
set_option maxRecDepth 20000 in
theorem gX12_areSure_X12_isDigit : GoodIn wsX12_areSure (va_wsS RX12 46 yX12_isDigit wsX12_isDigit) := goodIn_app (goodIn_of _ (by decide +kernel)) ggX12_areSure_X12_isDigit
set_option maxRecDepth 20000 in
theorem ggX12_areSure_X12_isYear : GoodIn wsX12_areSure wsX12_isYear := goodIn_r _ [67, 68, 69, 70, 71, 10, 72] (by decide +kernel) (by decide +kernel)
set_option maxRecDepth 20000 in
theorem gX12_areSure_X12_isYear : GoodIn wsX12_areSure (va_wsS RX12 232 yX12_isYear wsX12_isYear) := goodIn_app (goodIn_of _ (by decide +kernel)) ggX12_areSure_X12_isYear
theorem dX12_areSure_0 : decode cX12_areSure 0 = .ok (.aload_n 0, 1) := by decide +kernel
theorem dX12_areSure_1 : decode cX12_areSure 1 = .ok (.aload_n 0, 1) := by decide +kernel
theorem dX12_areSure_2 : decode cX12_areSure 2 = .ok (.getfield 181, 3) := by decide +kernel
theorem dX12_areSure_5 : decode cX12_areSure 5 = .ok (.iload_n 1, 1) := by decide +kernel
theorem dX12_areSure_6 : decode cX12_areSure 6 = .ok (.iaload, 1) := by decide +kernel
theorem dX12_areSure_7 : decode cX12_areSure 7 = .ok (.aload_n 0, 1) := by decide +kernel
theorem dX12_areSure_8 : decode cX12_areSure 8 = .ok (.getfield 184, 3) := by decide +kernel
theorem dX12_areSure_11 : decode cX12_areSure 11 = .ok (.iload_n 1, 1) := by decide +kernel
theorem dX12_areSure_12 : decode cX12_areSure 12 = .ok (.iaload, 1) := by decide +kernel
theorem dX12_areSure_13 : decode cX12_areSure 13 = .ok (.invokevirtual 303, 3) := by decide +kernel
theorem dX12_areSure_16 : decode cX12_areSure 16 = .ok (.iconst 0, 1) := by decide +kernel
theorem dX12_areSure_17 : decode cX12_areSure 17 = .ok (.istore_n 2, 1) := by decide +kernel
theorem dX12_areSure_18 : decode cX12_areSure 18 = .ok (.iload_n 2, 1) := by decide +kernel
theorem dX12_areSure_19 : decode cX12_areSure 19 = .ok (.aload_n 0, 1) := by decide +kernel
theorem dX12_areSure_20 : decode cX12_areSure 20 = .ok (.getfield 25, 3) := by decide +kernel
theorem dX12_areSure_23 : decode cX12_areSure 23 = .ok (.if_icmp .ge 150, 3) := by decide +kernel
theorem dX12_areSure_26 : decode cX12_areSure 26 = .ok (.iload_n 2, 1) := by decide +kernel
theorem dX12_areSure_27 : decode cX12_areSure 27 = .ok (.istore_n 3, 1) := by decide +kernel
theorem dX12_areSure_28 : decode cX12_areSure 28 = .ok (.iconst 0, 1) := by decide +kernel
theorem dX12_areSure_29 : decode cX12_areSure 29 = .ok (.istore 4, 2) := by decide +kernel
theorem dX12_areSure_31 : decode cX12_areSure 31 = .ok (.aload_n 0, 1) := by decide +kernel
theorem dX12_areSure_32 : decode cX12_areSure 32 = .ok (.iload_n 3, 1) := by decide +kernel
theorem dX12_areSure_33 : decode cX12_areSure 33 = .ok (.invokevirtual 35, 3) := by decide +kernel
theorem dX12_areSure_36 : decode cX12_areSure 36 = .ok (.invokestatic 46, 3) := by decide +kernel
theorem dX12_areSure_39 : decode cX12_areSure 39 = .ok (.ifCond .eq 37, 3) := by decide +kernel
theorem dX12_areSure_42 : decode cX12_areSure 42 = .ok (.iload_n 3, 1) := by decide +kernel
theorem dX12_areSure_43 : decode cX12_areSure 43 = .ok (.iload_n 2, 1) := by decide +kernel
theorem dX12_areSure_44 : decode cX12_areSure 44 = .ok (.isub, 1) := by decide +kernel
theorem dX12_areSure_45 : decode cX12_areSure 45 = .ok (.iconst 4, 1) := by decide +kernel
theorem dX12_areSure_46 : decode cX12_areSure 46 = .ok (.if_icmp .ge 20, 3) := by decide +kernel
theorem dX12_areSure_49 : decode cX12_areSure 49 = .ok (.bipush 10, 2) := by decide +kernel
theorem dX12_areSure_51 : decode cX12_areSure 51 = .ok (.iload 4, 2) := by decide +kernel
theorem dX12_areSure_53 : decode cX12_areSure 53 = .ok (.imul, 1) := by decide +kernel
theorem dX12_areSure_54 : decode cX12_areSure 54 = .ok (.aload_n 0, 1) := by decide +kernel
theorem dX12_areSure_55 : decode cX12_areSure 55 = .ok (.iload_n 3, 1) := by decide +kernel
theorem dX12_areSure_56 : decode cX12_areSure 56 = .ok (.invokevirtual 35, 3) := by decide +kernel
theorem dX12_areSure_59 : decode cX12_areSure 59 = .ok (.iadd, 1) := by decide +kernel
theorem dX12_areSure_60 : decode cX12_areSure 60 = .ok (.bipush 48, 2) := by decide +kernel
theorem dX12_areSure_62 : decode cX12_areSure 62 = .ok (.isub, 1) := by decide +kernel
theorem dX12_areSure_63 : decode cX12_areSure 63 = .ok (.goto 5, 3) := by decide +kernel
theorem dX12_areSure_66 : decode cX12_areSure 66 = .ok (.iload 4, 2) := by decide +kernel
theorem dX12_areSure_68 : decode cX12_areSure 68 = .ok (.istore 4, 2) := by decide +kernel
theorem dX12_areSure_70 : decode cX12_areSure 70 = .ok (.iinc 3 1, 3) := by decide +kernel
theorem dX12_areSure_73 : decode cX12_areSure 73 = .ok (.goto (-42), 3) := by decide +kernel
theorem dX12_areSure_76 : decode cX12_areSure 76 = .ok (.iload 4, 2) := by decide +kernel
theorem dX12_areSure_78 : decode cX12_areSure 78 = .ok (.aload_n 0, 1) := by decide +kernel
theorem dX12_areSure_79 : decode cX12_areSure 79 = .ok (.getfield 144, 3) := by decide +kernel
theorem dX12_areSure_82 : decode cX12_areSure 82 = .ok (.aload_n 0, 1) := by decide +kernel
theorem dX12_areSure_83 : decode cX12_areSure 83 = .ok (.getfield 181, 3) := by decide +kernel
theorem dX12_areSure_86 : decode cX12_areSure 86 = .ok (.iload_n 1, 1) := by decide +kernel
theorem dX12_areSure_87 : decode cX12_areSure 87 = .ok (.iaload, 1) := by decide +kernel
theorem dX12_areSure_88 : decode cX12_areSure 88 = .ok (.iaload, 1) := by decide +kernel
theorem dX12_areSure_89 : decode cX12_areSure 89 = .ok (.if_icmp .eq 56, 3) := by decide +kernel
theorem dX12_areSure_92 : decode cX12_areSure 92 = .ok (.aload_n 0, 1) := by decide +kernel
theorem dX12_areSure_93 : decode cX12_areSure 93 = .ok (.getfield 147, 3) := by decide +kernel
theorem dX12_areSure_96 : decode cX12_areSure 96 = .ok (.aload_n 0, 1) := by decide +kernel
theorem dX12_areSure_97 : decode cX12_areSure 97 = .ok (.getfield 181, 3) := by decide +kernel
theorem dX12_areSure_100 : decode cX12_areSure 100 = .ok (.iload_n 1, 1) := by decide +kernel
theorem dX12_areSure_101 : decode cX12_areSure 101 = .ok (.iaload, 1) := by decide +kernel
theorem dX12_areSure_102 : decode cX12_areSure 102 = .ok (.iaload, 1) := by decide +kernel
theorem dX12_areSure_103 : decode cX12_areSure 103 = .ok (.iconst (-1), 1) := by decide +kernel
theorem dX12_areSure_104 : decode cX12_areSure 104 = .ok (.if_icmp .eq 19, 3) := by decide +kernel
theorem dX12_areSure_107 : decode cX12_areSure 107 = .ok (.iload 4, 2) := by decide +kernel
theorem dX12_areSure_109 : decode cX12_areSure 109 = .ok (.aload_n 0, 1) := by decide +kernel
theorem dX12_areSure_110 : decode cX12_areSure 110 = .ok (.getfield 147, 3) := by decide +kernel
theorem dX12_areSure_113 : decode cX12_areSure 113 = .ok (.aload_n 0, 1) := by decide +kernel
theorem dX12_areSure_114 : decode cX12_areSure 114 = .ok (.getfield 181, 3) := by decide +kernel
theorem dX12_areSure_117 : decode cX12_areSure 117 = .ok (.iload_n 1, 1) := by decide +kernel
theorem dX12_areSure_118 : decode cX12_areSure 118 = .ok (.iaload, 1) := by decide +kernel
theorem dX12_areSure_119 : decode cX12_areSure 119 = .ok (.iaload, 1) := by decide +kernel
theorem dX12_areSure_120 : decode cX12_areSure 120 = .ok (.if_icmp .eq 25, 3) := by decide +kernel
theorem dX12_areSure_123 : decode cX12_areSure 123 = .ok (.iload 4, 2) := by decide +kernel
theorem dX12_areSure_125 : decode cX12_areSure 125 = .ok (.invokestatic 232, 3) := by decide +kernel
theorem dX12_areSure_128 : decode cX12_areSure 128 = .ok (.ifCond .eq 21, 3) := by decide +kernel
theorem dX12_areSure_131 : decode cX12_areSure 131 = .ok (.aload_n 0, 1) := by decide +kernel
theorem dX12_areSure_132 : decode cX12_areSure 132 = .ok (.getfield 175, 3) := by decide +kernel
theorem dX12_areSure_135 : decode cX12_areSure 135 = .ok (.iload 4, 2) := by decide +kernel
theorem dX12_areSure_137 : decode cX12_areSure 137 = .ok (.sipush 1500, 3) := by decide +kernel
theorem dX12_areSure_140 : decode cX12_areSure 140 = .ok (.isub, 1) := by decide +kernel
theorem dX12_areSure_141 : decode cX12_areSure 141 = .ok (.baload, 1) := by decide +kernel
theorem dX12_areSure_142 : decode cX12_areSure 142 = .ok (.ifCond .eq 7, 3) := by decide +kernel
theorem dX12_areSure_145 : decode cX12_areSure 145 = .ok (.iconst 1, 1) := by decide +kernel
theorem dX12_areSure_146 : decode cX12_areSure 146 = .ok (.goto 4, 3) := by decide +kernel
theorem dX12_areSure_149 : decode cX12_areSure 149 = .ok (.iconst 0, 1) := by decide +kernel
theorem dX12_areSure_150 : decode cX12_areSure 150 = .ok (.istore 5, 2) := by decide +kernel
theorem dX12_areSure_152 : decode cX12_areSure 152 = .ok (.iload_n 3, 1) := by decide +kernel
theorem dX12_areSure_153 : decode cX12_areSure 153 = .ok (.iload_n 2, 1) := by decide +kernel
theorem dX12_areSure_154 : decode cX12_areSure 154 = .ok (.isub, 1) := by decide +kernel
theorem dX12_areSure_155 : decode cX12_areSure 155 = .ok (.iconst 4, 1) := by decide +kernel
theorem dX12_areSure_156 : decode cX12_areSure 156 = .ok (.if_icmp .ne 10, 3) := by decide +kernel
theorem dX12_areSure_159 : decode cX12_areSure 159 = .ok (.iload 5, 2) := by decide +kernel
theorem dX12_areSure_161 : decode cX12_areSure 161 = .ok (.ifCond .ne 5, 3) := by decide +kernel
theorem dX12_areSure_164 : decode cX12_areSure 164 = .ok (.iconst 0, 1) := by decide +kernel
theorem dX12_areSure_165 : decode cX12_areSure 165 = .ok (.ireturn, 1) := by decide +kernel
theorem dX12_areSure_166 : decode cX12_areSure 166 = .ok (.iload_n 3, 1) := by decide +kernel
theorem dX12_areSure_167 : decode cX12_areSure 167 = .ok (.iconst 1, 1) := by decide +kernel
theorem dX12_areSure_168 : decode cX12_areSure 168 = .ok (.iadd, 1) := by decide +kernel
theorem dX12_areSure_169 : decode cX12_areSure 169 = .ok (.istore_n 2, 1) := by decide +kernel
theorem dX12_areSure_170 : decode cX12_areSure 170 = .ok (.goto (-152), 3) := by decide +kernel
theorem dX12_areSure_173 : decode cX12_areSure 173 = .ok (.iconst 1, 1) := by decide +kernel
theorem dX12_areSure_174 : decode cX12_areSure 174 = .ok (.ireturn, 1) := by decide +kernel
theorem dX12_lineOf_0 : decode cX12_lineOf 0 = .ok (.iconst 2, 1) := by decide +kernel
theorem dX12_lineOf_1 : decode cX12_lineOf 1 = .ok (.iload_n 2, 1) := by decide +kernel
theorem dX12_lineOf_2 : decode cX12_lineOf 2 = .ok (.iconst 1, 1) := by decide +kernel
theorem dX12_lineOf_3 : decode cX12_lineOf 3 = .ok (.isub, 1) := by decide +kernel
theorem dX12_lineOf_4 : decode cX12_lineOf 4 = .ok (.imul, 1) := by decide +kernel
theorem dX12_lineOf_5 : decode cX12_lineOf 5 = .ok (.istore_n 3, 1) := by decide +kernel
theorem dX12_lineOf_6 : decode cX12_lineOf 6 = .ok (.iload_n 1, 1) := by decide +kernel
theorem dX12_lineOf_7 : decode cX12_lineOf 7 = .ok (.istore 4, 2) := by decide +kernel
theorem dX12_lineOf_9 : decode cX12_lineOf 9 = .ok (.iload 4, 2) := by decide +kernel
theorem dX12_lineOf_11 : decode cX12_lineOf 11 = .ok (.iload_n 1, 1) := by decide +kernel
theorem dX12_lineOf_12 : decode cX12_lineOf 12 = .ok (.iload_n 2, 1) := by decide +kernel
theorem dX12_lineOf_13 : decode cX12_lineOf 13 = .ok (.iadd, 1) := by decide +kernel
theorem dX12_lineOf_14 : decode cX12_lineOf 14 = .ok (.if_icmp .ge 19, 3) := by decide +kernel
theorem dX12_lineOf_17 : decode cX12_lineOf 17 = .ok (.iload_n 3, 1) := by decide +kernel
theorem dX12_lineOf_18 : decode cX12_lineOf 18 = .ok (.aload_n 0, 1) := by decide +kernel
theorem dX12_lineOf_19 : decode cX12_lineOf 19 = .ok (.getfield 209, 3) := by decide +kernel
theorem dX12_lineOf_22 : decode cX12_lineOf 22 = .ok (.iload 4, 2) := by decide +kernel
theorem dX12_lineOf_24 : decode cX12_lineOf 24 = .ok (.iaload, 1) := by decide +kernel
theorem dX12_lineOf_25 : decode cX12_lineOf 25 = .ok (.iadd, 1) := by decide +kernel
theorem dX12_lineOf_26 : decode cX12_lineOf 26 = .ok (.istore_n 3, 1) := by decide +kernel
theorem dX12_lineOf_27 : decode cX12_lineOf 27 = .ok (.iinc 4 1, 3) := by decide +kernel
theorem dX12_lineOf_30 : decode cX12_lineOf 30 = .ok (.goto (-21), 3) := by decide +kernel
theorem dX12_lineOf_33 : decode cX12_lineOf 33 = .ok (.iload_n 3, 1) := by decide +kernel
theorem dX12_lineOf_34 : decode cX12_lineOf 34 = .ok (.ireturn, 1) := by decide +kernel
theorem dX12_cell_0 : decode cX12_cell 0 = .ok (.bipush 9, 2) := by decide +kernel
theorem dX12_cell_2 : decode cX12_cell 2 = .ok (.iload_n 0, 1) := by decide +kernel
theorem dX12_cell_3 : decode cX12_cell 3 = .ok (.imul, 1) := by decide +kernel
theorem dX12_cell_4 : decode cX12_cell 4 = .ok (.iload_n 1, 1) := by decide +kernel
theorem dX12_cell_5 : decode cX12_cell 5 = .ok (.iadd, 1) := by decide +kernel
theorem dX12_cell_6 : decode cX12_cell 6 = .ok (.ireturn, 1) := by decide +kernel
set_option maxRecDepth 20000 in
theorem ggX12_lack_X12_lineOf : GoodIn wsX12_lack wsX12_lineOf := goodIn_r _ [8, 9, 13, 14, 15, 16, 17, 18, 19, 20, 21, 22, 23, 24, 25, 26, 27, 28, 29, 30, 31, 32, 33, 34, 35, 36, 37, 38, 39, 40, 41, 42, 43, 44, 45, 46, 47, 48, 49, 50, 51, 52, 53, 54, 55, 56, 57, 58, 59, 60, 61, 62, 63, 64, 65] (by decide +kernel) (by decide +kernel)
set_option maxRecDepth 20000 in
theorem gX12_lack_X12_lineOf : GoodIn wsX12_lack (wsV RX12 327 RX12 yX12_lineOf wsX12_lineOf) := goodIn_app (goodIn_of _ (by decide +kernel)) ggX12_lack_X12_lineOf
set_option maxRecDepth 20000 in
theorem ggX12_lack_X12_cell : GoodIn wsX12_lack wsX12_cell := goodIn_r _ [12] (by decide +kernel) (by decide +kernel)
set_option maxRecDepth 20000 in
theorem gX12_lack_X12_cell : GoodIn wsX12_lack (va_wsS RX12 332 yX12_cell wsX12_cell) := goodIn_app (goodIn_of _ (by decide +kernel)) ggX12_lack_X12_cell
theorem dX12_lack_0 : decode cX12_lack 0 = .ok (.aload_n 0, 1) := by decide +kernel
theorem dX12_lack_1 : decode cX12_lack 1 = .ok (.iload_n 1, 1) := by decide +kernel
theorem dX12_lack_2 : decode cX12_lack 2 = .ok (.iload_n 2, 1) := by decide +kernel
theorem dX12_lack_3 : decode cX12_lack 3 = .ok (.invokevirtual 327, 3) := by decide +kernel
theorem dX12_lack_6 : decode cX12_lack 6 = .ok (.istore 5, 2) := by decide +kernel
theorem dX12_lack_8 : decode cX12_lack 8 = .ok (.iload 5, 2) := by decide +kernel
theorem dX12_lack_10 : decode cX12_lack 10 = .ok (.iload 4, 2) := by decide +kernel
theorem dX12_lack_12 : decode cX12_lack 12 = .ok (.if_icmp .gt 7, 3) := by decide +kernel
theorem dX12_lack_15 : decode cX12_lack 15 = .ok (.iload_n 3, 1) := by decide +kernel
theorem dX12_lack_16 : decode cX12_lack 16 = .ok (.ifCond .ne 7, 3) := by decide +kernel
theorem dX12_lack_19 : decode cX12_lack 19 = .ok (.ldc_w 331, 3) := by decide +kernel
theorem dX12_lack_22 : decode cX12_lack 22 = .ok (.ireturn, 1) := by decide +kernel
theorem dX12_lack_23 : decode cX12_lack 23 = .ok (.iload_n 1, 1) := by decide +kernel
theorem dX12_lack_24 : decode cX12_lack 24 = .ok (.iload_n 2, 1) := by decide +kernel
theorem dX12_lack_25 : decode cX12_lack 25 = .ok (.iadd, 1) := by decide +kernel
theorem dX12_lack_26 : decode cX12_lack 26 = .ok (.aload_n 0, 1) := by decide +kernel
theorem dX12_lack_27 : decode cX12_lack 27 = .ok (.getfield 321, 3) := by decide +kernel
theorem dX12_lack_30 : decode cX12_lack 30 = .ok (.if_icmp .ne 5, 3) := by decide +kernel
theorem dX12_lack_33 : decode cX12_lack 33 = .ok (.iconst 0, 1) := by decide +kernel
theorem dX12_lack_34 : decode cX12_lack 34 = .ok (.ireturn, 1) := by decide +kernel
theorem dX12_lack_35 : decode cX12_lack 35 = .ok (.aload_n 0, 1) := by decide +kernel
theorem dX12_lack_36 : decode cX12_lack 36 = .ok (.getfield 212, 3) := by decide +kernel
theorem dX12_lack_39 : decode cX12_lack 39 = .ok (.iload_n 1, 1) := by decide +kernel
theorem dX12_lack_40 : decode cX12_lack 40 = .ok (.iload_n 2, 1) := by decide +kernel
theorem dX12_lack_41 : decode cX12_lack 41 = .ok (.iadd, 1) := by decide +kernel
theorem dX12_lack_42 : decode cX12_lack 42 = .ok (.iload_n 3, 1) := by decide +kernel
theorem dX12_lack_43 : decode cX12_lack 43 = .ok (.iconst 1, 1) := by decide +kernel
theorem dX12_lack_44 : decode cX12_lack 44 = .ok (.isub, 1) := by decide +kernel
theorem dX12_lack_45 : decode cX12_lack 45 = .ok (.invokestatic 332, 3) := by decide +kernel
theorem dX12_lack_48 : decode cX12_lack 48 = .ok (.iaload, 1) := by decide +kernel
theorem dX12_lack_49 : decode cX12_lack 49 = .ok (.istore 6, 2) := by decide +kernel
theorem dX12_lack_51 : decode cX12_lack 51 = .ok (.iload 6, 2) := by decide +kernel
theorem dX12_lack_53 : decode cX12_lack 53 = .ok (.ldc_w 331, 3) := by decide +kernel
theorem dX12_lack_56 : decode cX12_lack 56 = .ok (.if_icmp .lt 9, 3) := by decide +kernel
theorem dX12_lack_59 : decode cX12_lack 59 = .ok (.ldc_w 331, 3) := by decide +kernel
theorem dX12_lack_62 : decode cX12_lack 62 = .ok (.goto 17, 3) := by decide +kernel
theorem dX12_lack_65 : decode cX12_lack 65 = .ok (.iload 4, 2) := by decide +kernel
theorem dX12_lack_67 : decode cX12_lack 67 = .ok (.iload 5, 2) := by decide +kernel
theorem dX12_lack_69 : decode cX12_lack 69 = .ok (.isub, 1) := by decide +kernel
theorem dX12_lack_70 : decode cX12_lack 70 = .ok (.iload 4, 2) := by decide +kernel
theorem dX12_lack_72 : decode cX12_lack 72 = .ok (.iload 5, 2) := by decide +kernel
theorem dX12_lack_74 : decode cX12_lack 74 = .ok (.isub, 1) := by decide +kernel
theorem dX12_lack_75 : decode cX12_lack 75 = .ok (.imul, 1) := by decide +kernel
theorem dX12_lack_76 : decode cX12_lack 76 = .ok (.iload 6, 2) := by decide +kernel
theorem dX12_lack_78 : decode cX12_lack 78 = .ok (.iadd, 1) := by decide +kernel
theorem dX12_lack_79 : decode cX12_lack 79 = .ok (.ireturn, 1) := by decide +kernel
set_option maxRecDepth 20000 in
theorem ggX12_fit_X12_lack : GoodIn wsX12_fit wsX12_lack := goodIn_r _ [12, 2, 1, 7, 13, 14, 15, 11, 16, 17, 18, 19, 20, 21, 22, 23, 24, 25, 26, 27, 28, 29, 30, 31, 32, 33, 34, 35, 36, 37, 38, 39, 40, 41, 42, 43, 44, 45, 46, 47, 48, 49, 50, 51, 52, 53, 54, 55, 56, 57, 58, 59, 60, 61, 62, 63, 64, 65, 66, 67, 68, 69, 70, 71, 72, 73] (by decide +kernel) (by decide +kernel)
set_option maxRecDepth 20000 in
theorem gX12_fit_X12_lack : GoodIn wsX12_fit (wsV RX12 335 RX12 yX12_lack wsX12_lack) := goodIn_app (goodIn_of _ (by decide +kernel)) ggX12_fit_X12_lack
set_option maxRecDepth 20000 in
theorem ggX12_fit_X12_cell : GoodIn wsX12_fit wsX12_cell := goodIn_r _ [20] (by decide +kernel) (by decide +kernel)
set_option maxRecDepth 20000 in
theorem gX12_fit_X12_cell : GoodIn wsX12_fit (va_wsS RX12 332 yX12_cell wsX12_cell) := goodIn_app (goodIn_of _ (by decide +kernel)) ggX12_fit_X12_cell
theorem dX12_fit_0 : decode cX12_fit 0 = .ok (.aload_n 0, 1) := by decide +kernel
theorem dX12_fit_1 : decode cX12_fit 1 = .ok (.getfield 321, 3) := by decide +kernel
theorem dX12_fit_4 : decode cX12_fit 4 = .ok (.iconst 1, 1) := by decide +kernel
theorem dX12_fit_5 : decode cX12_fit 5 = .ok (.isub, 1) := by decide +kernel
theorem dX12_fit_6 : decode cX12_fit 6 = .ok (.istore_n 3, 1) := by decide +kernel
theorem dX12_fit_7 : decode cX12_fit 7 = .ok (.iload_n 3, 1) := by decide +kernel
theorem dX12_fit_8 : decode cX12_fit 8 = .ok (.ifCond .lt 79, 3) := by decide +kernel
theorem dX12_fit_11 : decode cX12_fit 11 = .ok (.iconst 0, 1) := by decide +kernel
theorem dX12_fit_12 : decode cX12_fit 12 = .ok (.istore 4, 2) := by decide +kernel
theorem dX12_fit_14 : decode cX12_fit 14 = .ok (.iload 4, 2) := by decide +kernel
theorem dX12_fit_16 : decode cX12_fit 16 = .ok (.iload_n 2, 1) := by decide +kernel
theorem dX12_fit_17 : decode cX12_fit 17 = .ok (.if_icmp .gt 64, 3) := by decide +kernel
theorem dX12_fit_20 : decode cX12_fit 20 = .ok (.ldc_w 331, 3) := by decide +kernel
theorem dX12_fit_23 : decode cX12_fit 23 = .ok (.istore 5, 2) := by decide +kernel
theorem dX12_fit_25 : decode cX12_fit 25 = .ok (.iconst 1, 1) := by decide +kernel
theorem dX12_fit_26 : decode cX12_fit 26 = .ok (.istore 6, 2) := by decide +kernel
theorem dX12_fit_28 : decode cX12_fit 28 = .ok (.iload_n 3, 1) := by decide +kernel
theorem dX12_fit_29 : decode cX12_fit 29 = .ok (.iload 6, 2) := by decide +kernel
theorem dX12_fit_31 : decode cX12_fit 31 = .ok (.iadd, 1) := by decide +kernel
theorem dX12_fit_32 : decode cX12_fit 32 = .ok (.aload_n 0, 1) := by decide +kernel
theorem dX12_fit_33 : decode cX12_fit 33 = .ok (.getfield 321, 3) := by decide +kernel
theorem dX12_fit_36 : decode cX12_fit 36 = .ok (.if_icmp .gt 26, 3) := by decide +kernel
theorem dX12_fit_39 : decode cX12_fit 39 = .ok (.iload 5, 2) := by decide +kernel
theorem dX12_fit_41 : decode cX12_fit 41 = .ok (.aload_n 0, 1) := by decide +kernel
theorem dX12_fit_42 : decode cX12_fit 42 = .ok (.iload_n 3, 1) := by decide +kernel
theorem dX12_fit_43 : decode cX12_fit 43 = .ok (.iload 6, 2) := by decide +kernel
theorem dX12_fit_45 : decode cX12_fit 45 = .ok (.iload 4, 2) := by decide +kernel
theorem dX12_fit_47 : decode cX12_fit 47 = .ok (.iload_n 1, 1) := by decide +kernel
theorem dX12_fit_48 : decode cX12_fit 48 = .ok (.invokevirtual 335, 3) := by decide +kernel
theorem dX12_fit_51 : decode cX12_fit 51 = .ok (.invokestatic 339, 3) := by decide +kernel
theorem dX12_fit_54 : decode cX12_fit 54 = .ok (.istore 5, 2) := by decide +kernel
theorem dX12_fit_56 : decode cX12_fit 56 = .ok (.iinc 6 1, 3) := by decide +kernel
theorem dX12_fit_59 : decode cX12_fit 59 = .ok (.goto (-31), 3) := by decide +kernel
theorem dX12_fit_62 : decode cX12_fit 62 = .ok (.aload_n 0, 1) := by decide +kernel
theorem dX12_fit_63 : decode cX12_fit 63 = .ok (.getfield 212, 3) := by decide +kernel
theorem dX12_fit_66 : decode cX12_fit 66 = .ok (.iload_n 3, 1) := by decide +kernel
theorem dX12_fit_67 : decode cX12_fit 67 = .ok (.iload 4, 2) := by decide +kernel
theorem dX12_fit_69 : decode cX12_fit 69 = .ok (.invokestatic 332, 3) := by decide +kernel
theorem dX12_fit_72 : decode cX12_fit 72 = .ok (.iload 5, 2) := by decide +kernel
theorem dX12_fit_74 : decode cX12_fit 74 = .ok (.iastore, 1) := by decide +kernel
theorem dX12_fit_75 : decode cX12_fit 75 = .ok (.iinc 4 1, 3) := by decide +kernel
theorem dX12_fit_78 : decode cX12_fit 78 = .ok (.goto (-64), 3) := by decide +kernel
theorem dX12_fit_81 : decode cX12_fit 81 = .ok (.iinc 3 (-1), 3) := by decide +kernel
theorem dX12_fit_84 : decode cX12_fit 84 = .ok (.goto (-77), 3) := by decide +kernel
theorem dX12_fit_87 : decode cX12_fit 87 = .ok (.return_, 1) := by decide +kernel
set_option maxRecDepth 20000 in
theorem ggX12_hang_X12_begin : GoodIn wsX12_hang wsX12_begin := goodIn_r _ [14, 15, 16, 17, 127, 128, 129, 130, 131, 132, 133, 134, 135, 136, 137, 138, 139, 140, 141, 142, 143, 144, 145, 146, 147, 148, 149, 150, 151, 152, 153, 154, 155, 156, 157, 158, 159, 160, 161, 162, 163, 164, 165, 166, 167, 168, 169, 170, 171, 172, 173, 174, 175, 176, 177, 178, 179] (by decide +kernel) (by decide +kernel)
set_option maxRecDepth 20000 in
theorem gX12_hang_X12_begin : GoodIn wsX12_hang (wsV RX12 218 RX12 yX12_begin wsX12_begin) := goodIn_app (goodIn_of _ (by decide +kernel)) ggX12_hang_X12_begin
set_option maxRecDepth 20000 in
theorem ggX12_hang_X12_isAsking : GoodIn wsX12_hang wsX12_isAsking := goodIn_r _ [21, 22, 23, 24, 13, 25, 127, 128, 129, 130, 131, 132, 133, 134, 135, 136, 137, 138, 139, 140, 141, 142, 143, 144, 145, 146, 147, 148, 149, 150, 151, 152, 153, 154, 155, 156, 157, 158, 159, 160, 161, 162, 163, 164, 165, 166, 167, 168, 169, 170, 171, 172, 173, 174, 175, 176, 177, 178, 179] (by decide +kernel) (by decide +kernel)
set_option maxRecDepth 20000 in
theorem gX12_hang_X12_isAsking : GoodIn wsX12_hang (wsV RX12 313 RX12 yX12_isAsking wsX12_isAsking) := goodIn_app (goodIn_of _ (by decide +kernel)) ggX12_hang_X12_isAsking
set_option maxRecDepth 20000 in
theorem ggX12_hang_X12_in : GoodIn wsX12_hang wsX12_in := goodIn_r _ [25] (by decide +kernel) (by decide +kernel)
set_option maxRecDepth 20000 in
theorem gX12_hang_X12_in : GoodIn wsX12_hang (va_wsS RX12 7 yX12_in wsX12_in) := goodIn_app (goodIn_of _ (by decide +kernel)) ggX12_hang_X12_in
set_option maxRecDepth 20000 in
theorem ggX12_hang_X12_takeWords : GoodIn wsX12_hang wsX12_takeWords := goodIn_r _ [29, 6, 16, 30, 31, 32, 33, 13, 34, 35, 36, 37, 38, 39, 40, 41, 42, 43, 44, 127, 128, 129, 130, 131, 132, 133, 134, 135, 136, 137, 138, 139, 140, 141, 142, 143, 144, 145, 146, 147, 148, 149, 150, 151, 152, 153, 154, 155, 156, 157, 158, 159, 160, 161, 162, 163, 164, 165, 166, 167, 168, 169, 170, 171, 172, 173, 174, 175, 176, 177, 178, 179] (by decide +kernel) (by decide +kernel)
set_option maxRecDepth 20000 in
theorem gX12_hang_X12_takeWords : GoodIn wsX12_hang (wsV RX12 348 RX12 yX12_takeWords wsX12_takeWords) := goodIn_app (goodIn_of _ (by decide +kernel)) ggX12_hang_X12_takeWords
set_option maxRecDepth 20000 in
theorem ggX12_hang_X12_areSure : GoodIn wsX12_hang wsX12_areSure := goodIn_r _ [48, 49, 50, 16, 51, 52, 53, 54, 55, 56, 13, 57, 58, 59, 60, 61, 62, 63, 64, 65, 66, 67, 68, 69, 70, 71, 72, 73, 74, 75, 76, 77, 78, 79, 80, 81, 82, 83, 84, 85, 86, 87, 88, 89, 90, 91, 92, 93, 94, 95, 96, 97, 98, 99, 100, 101, 102, 31, 32, 33, 34, 35, 42, 43, 44, 103, 104, 105, 106, 107, 23, 24, 25, 127, 128, 129, 130, 131, 132, 133, 134, 135, 136, 137, 138, 139, 140, 141, 142, 143, 144, 145, 146, 147, 148, 149, 150, 151, 152, 153, 154, 155, 156, 157, 158, 159, 160, 161, 162, 163, 164, 165, 166, 167, 168, 169, 170, 171, 172, 173, 174, 175, 176, 177, 178, 179] (by decide +kernel) (by decide +kernel)
set_option maxRecDepth 20000 in
theorem gX12_hang_X12_areSure : GoodIn wsX12_hang (wsV RX12 352 RX12 yX12_areSure wsX12_areSure) := goodIn_app (goodIn_of _ (by decide +kernel)) ggX12_hang_X12_areSure
set_option maxRecDepth 20000 in
theorem ggX12_hang_X12_fit : GoodIn wsX12_hang wsX12_fit := goodIn_r _ [111, 6, 5, 112, 113, 114, 115, 4, 116, 117, 118, 13, 119, 120, 121, 122, 123, 30, 124, 125, 126, 127, 128, 129, 130, 131, 132, 133, 134, 135, 136, 137, 138, 139, 140, 141, 142, 143, 144, 145, 146, 147, 148, 149, 150, 151, 152, 153, 154, 155, 156, 157, 158, 159, 160, 161, 162, 163, 164, 165, 166, 167, 168, 169, 170, 171, 172, 173, 174, 175, 176, 177, 178, 179] (by decide +kernel) (by decide +kernel)
set_option maxRecDepth 20000 in
theorem gX12_hang_X12_fit : GoodIn wsX12_hang (wsV RX12 355 RX12 yX12_fit wsX12_fit) := goodIn_app (goodIn_of _ (by decide +kernel)) ggX12_hang_X12_fit
set_option maxRecDepth 20000 in
theorem ggX12_hang_X12_cell : GoodIn wsX12_hang wsX12_cell := goodIn_r _ [126] (by decide +kernel) (by decide +kernel)
set_option maxRecDepth 20000 in
theorem gX12_hang_X12_cell : GoodIn wsX12_hang (va_wsS RX12 332 yX12_cell wsX12_cell) := goodIn_app (goodIn_of _ (by decide +kernel)) ggX12_hang_X12_cell
set_option maxRecDepth 20000 in
theorem ggX12_hang_X12_lack : GoodIn wsX12_hang wsX12_lack := goodIn_r _ [119, 5, 6, 4, 120, 121, 122, 13, 123, 30, 124, 125, 126, 127, 128, 129, 130, 131, 132, 133, 134, 135, 136, 137, 138, 139, 140, 141, 142, 143, 144, 145, 146, 147, 148, 149, 150, 151, 152, 153, 154, 155, 156, 157, 158, 159, 160, 161, 162, 163, 164, 165, 166, 167, 168, 169, 170, 171, 172, 173, 174, 175, 176, 177, 178, 179] (by decide +kernel) (by decide +kernel)
set_option maxRecDepth 20000 in
theorem gX12_hang_X12_lack : GoodIn wsX12_hang (wsV RX12 335 RX12 yX12_lack wsX12_lack) := goodIn_app (goodIn_of _ (by decide +kernel)) ggX12_hang_X12_lack
set_option maxRecDepth 20000 in
theorem ggX12_hang_X12_lineOf : GoodIn wsX12_hang wsX12_lineOf := goodIn_r _ [123, 30, 127, 128, 129, 130, 131, 132, 133, 134, 135, 136, 137, 138, 139, 140, 141, 142, 143, 144, 145, 146, 147, 148, 149, 150, 151, 152, 153, 154, 155, 156, 157, 158, 159, 160, 161, 162, 163, 164, 165, 166, 167, 168, 169, 170, 171, 172, 173, 174, 175, 176, 177, 178, 179] (by decide +kernel) (by decide +kernel)
set_option maxRecDepth 20000 in
theorem gX12_hang_X12_lineOf : GoodIn wsX12_hang (wsV RX12 327 RX12 yX12_lineOf wsX12_lineOf) := goodIn_app (goodIn_of _ (by decide +kernel)) ggX12_hang_X12_lineOf
theorem dX12_hang_0 : decode cX12_hang 0 = .ok (.aload_n 0, 1) := by decide +kernel
theorem dX12_hang_1 : decode cX12_hang 1 = .ok (.invokevirtual 218, 3) := by decide +kernel
theorem dX12_hang_4 : decode cX12_hang 4 = .ok (.aload_n 0, 1) := by decide +kernel
theorem dX12_hang_5 : decode cX12_hang 5 = .ok (.iload_n 1, 1) := by decide +kernel
theorem dX12_hang_6 : decode cX12_hang 6 = .ok (.invokevirtual 313, 3) := by decide +kernel
theorem dX12_hang_9 : decode cX12_hang 9 = .ok (.ifCond .eq 27, 3) := by decide +kernel
theorem dX12_hang_12 : decode cX12_hang 12 = .ok (.iload_n 2, 1) := by decide +kernel
theorem dX12_hang_13 : decode cX12_hang 13 = .ok (.i2l, 1) := by decide +kernel
theorem dX12_hang_14 : decode cX12_hang 14 = .ok (.lconst 1, 1) := by decide +kernel
theorem dX12_hang_15 : decode cX12_hang 15 = .ok (.ldc2_w 344, 3) := by decide +kernel
theorem dX12_hang_18 : decode cX12_hang 18 = .ok (.invokestatic 7, 3) := by decide +kernel
theorem dX12_hang_21 : decode cX12_hang 21 = .ok (.ifCond .eq 15, 3) := by decide +kernel
theorem dX12_hang_24 : decode cX12_hang 24 = .ok (.iload_n 3, 1) := by decide +kernel
theorem dX12_hang_25 : decode cX12_hang 25 = .ok (.i2l, 1) := by decide +kernel
theorem dX12_hang_26 : decode cX12_hang 26 = .ok (.lconst 1, 1) := by decide +kernel
theorem dX12_hang_27 : decode cX12_hang 27 = .ok (.ldc2_w 346, 3) := by decide +kernel
theorem dX12_hang_30 : decode cX12_hang 30 = .ok (.invokestatic 7, 3) := by decide +kernel
theorem dX12_hang_33 : decode cX12_hang 33 = .ok (.ifCond .ne 6, 3) := by decide +kernel
theorem dX12_hang_36 : decode cX12_hang 36 = .ok (.bipush (-2), 2) := by decide +kernel
theorem dX12_hang_38 : decode cX12_hang 38 = .ok (.ireturn, 1) := by decide +kernel
theorem dX12_hang_39 : decode cX12_hang 39 = .ok (.aload_n 0, 1) := by decide +kernel
theorem dX12_hang_40 : decode cX12_hang 40 = .ok (.getfield 190, 3) := by decide +kernel
theorem dX12_hang_43 : decode cX12_hang 43 = .ok (.iload_n 1, 1) := by decide +kernel
theorem dX12_hang_44 : decode cX12_hang 44 = .ok (.iaload, 1) := by decide +kernel
theorem dX12_hang_45 : decode cX12_hang 45 = .ok (.iconst 2, 1) := by decide +kernel
theorem dX12_hang_46 : decode cX12_hang 46 = .ok (.if_icmp .eq 6, 3) := by decide +kernel
theorem dX12_hang_49 : decode cX12_hang 49 = .ok (.bipush (-4), 2) := by decide +kernel
theorem dX12_hang_51 : decode cX12_hang 51 = .ok (.ireturn, 1) := by decide +kernel
theorem dX12_hang_52 : decode cX12_hang 52 = .ok (.aload_n 0, 1) := by decide +kernel
theorem dX12_hang_53 : decode cX12_hang 53 = .ok (.invokevirtual 348, 3) := by decide +kernel
theorem dX12_hang_56 : decode cX12_hang 56 = .ok (.ifCond .ne 5, 3) := by decide +kernel
theorem dX12_hang_59 : decode cX12_hang 59 = .ok (.iconst (-1), 1) := by decide +kernel
theorem dX12_hang_60 : decode cX12_hang 60 = .ok (.ireturn, 1) := by decide +kernel
theorem dX12_hang_61 : decode cX12_hang 61 = .ok (.aload_n 0, 1) := by decide +kernel
theorem dX12_hang_62 : decode cX12_hang 62 = .ok (.iload_n 1, 1) := by decide +kernel
theorem dX12_hang_63 : decode cX12_hang 63 = .ok (.invokevirtual 352, 3) := by decide +kernel
theorem dX12_hang_66 : decode cX12_hang 66 = .ok (.ifCond .ne 6, 3) := by decide +kernel
theorem dX12_hang_69 : decode cX12_hang 69 = .ok (.bipush (-5), 2) := by decide +kernel
theorem dX12_hang_71 : decode cX12_hang 71 = .ok (.ireturn, 1) := by decide +kernel
theorem dX12_hang_72 : decode cX12_hang 72 = .ok (.aload_n 0, 1) := by decide +kernel
theorem dX12_hang_73 : decode cX12_hang 73 = .ok (.iload_n 2, 1) := by decide +kernel
theorem dX12_hang_74 : decode cX12_hang 74 = .ok (.iload_n 3, 1) := by decide +kernel
theorem dX12_hang_75 : decode cX12_hang 75 = .ok (.invokevirtual 355, 3) := by decide +kernel
theorem dX12_hang_78 : decode cX12_hang 78 = .ok (.aload_n 0, 1) := by decide +kernel
theorem dX12_hang_79 : decode cX12_hang 79 = .ok (.getfield 212, 3) := by decide +kernel
theorem dX12_hang_82 : decode cX12_hang 82 = .ok (.iconst 0, 1) := by decide +kernel
theorem dX12_hang_83 : decode cX12_hang 83 = .ok (.iload_n 3, 1) := by decide +kernel
theorem dX12_hang_84 : decode cX12_hang 84 = .ok (.invokestatic 332, 3) := by decide +kernel
theorem dX12_hang_87 : decode cX12_hang 87 = .ok (.iaload, 1) := by decide +kernel
theorem dX12_hang_88 : decode cX12_hang 88 = .ok (.ldc_w 331, 3) := by decide +kernel
theorem dX12_hang_91 : decode cX12_hang 91 = .ok (.if_icmp .lt 6, 3) := by decide +kernel
theorem dX12_hang_94 : decode cX12_hang 94 = .ok (.bipush (-3), 2) := by decide +kernel
theorem dX12_hang_96 : decode cX12_hang 96 = .ok (.ireturn, 1) := by decide +kernel
theorem dX12_hang_97 : decode cX12_hang 97 = .ok (.iconst 0, 1) := by decide +kernel
theorem dX12_hang_98 : decode cX12_hang 98 = .ok (.istore 4, 2) := by decide +kernel
theorem dX12_hang_100 : decode cX12_hang 100 = .ok (.iconst 0, 1) := by decide +kernel
theorem dX12_hang_101 : decode cX12_hang 101 = .ok (.istore 5, 2) := by decide +kernel
theorem dX12_hang_103 : decode cX12_hang 103 = .ok (.iload 4, 2) := by decide +kernel
theorem dX12_hang_105 : decode cX12_hang 105 = .ok (.aload_n 0, 1) := by decide +kernel
theorem dX12_hang_106 : decode cX12_hang 106 = .ok (.getfield 321, 3) := by decide +kernel
theorem dX12_hang_109 : decode cX12_hang 109 = .ok (.if_icmp .ge 89, 3) := by decide +kernel
theorem dX12_hang_112 : decode cX12_hang 112 = .ok (.iconst 1, 1) := by decide +kernel
theorem dX12_hang_113 : decode cX12_hang 113 = .ok (.istore 6, 2) := by decide +kernel
theorem dX12_hang_115 : decode cX12_hang 115 = .ok (.aload_n 0, 1) := by decide +kernel
theorem dX12_hang_116 : decode cX12_hang 116 = .ok (.iload 4, 2) := by decide +kernel
theorem dX12_hang_118 : decode cX12_hang 118 = .ok (.iload 6, 2) := by decide +kernel
theorem dX12_hang_120 : decode cX12_hang 120 = .ok (.iload_n 3, 1) := by decide +kernel
theorem dX12_hang_121 : decode cX12_hang 121 = .ok (.iload 5, 2) := by decide +kernel
theorem dX12_hang_123 : decode cX12_hang 123 = .ok (.isub, 1) := by decide +kernel
theorem dX12_hang_124 : decode cX12_hang 124 = .ok (.iload_n 2, 1) := by decide +kernel
theorem dX12_hang_125 : decode cX12_hang 125 = .ok (.invokevirtual 335, 3) := by decide +kernel
theorem dX12_hang_128 : decode cX12_hang 128 = .ok (.aload_n 0, 1) := by decide +kernel
theorem dX12_hang_129 : decode cX12_hang 129 = .ok (.getfield 212, 3) := by decide +kernel
theorem dX12_hang_132 : decode cX12_hang 132 = .ok (.iload 4, 2) := by decide +kernel
theorem dX12_hang_134 : decode cX12_hang 134 = .ok (.iload_n 3, 1) := by decide +kernel
theorem dX12_hang_135 : decode cX12_hang 135 = .ok (.iload 5, 2) := by decide +kernel
theorem dX12_hang_137 : decode cX12_hang 137 = .ok (.isub, 1) := by decide +kernel
theorem dX12_hang_138 : decode cX12_hang 138 = .ok (.invokestatic 332, 3) := by decide +kernel
theorem dX12_hang_141 : decode cX12_hang 141 = .ok (.iaload, 1) := by decide +kernel
theorem dX12_hang_142 : decode cX12_hang 142 = .ok (.if_icmp .eq 9, 3) := by decide +kernel
theorem dX12_hang_145 : decode cX12_hang 145 = .ok (.iinc 6 1, 3) := by decide +kernel
theorem dX12_hang_148 : decode cX12_hang 148 = .ok (.goto (-33), 3) := by decide +kernel
theorem dX12_hang_151 : decode cX12_hang 151 = .ok (.aload_n 0, 1) := by decide +kernel
theorem dX12_hang_152 : decode cX12_hang 152 = .ok (.getfield 203, 3) := by decide +kernel
theorem dX12_hang_155 : decode cX12_hang 155 = .ok (.bipush 8, 2) := by decide +kernel
theorem dX12_hang_157 : decode cX12_hang 157 = .ok (.iload_n 1, 1) := by decide +kernel
theorem dX12_hang_158 : decode cX12_hang 158 = .ok (.imul, 1) := by decide +kernel
theorem dX12_hang_159 : decode cX12_hang 159 = .ok (.iload 5, 2) := by decide +kernel
theorem dX12_hang_161 : decode cX12_hang 161 = .ok (.iadd, 1) := by decide +kernel
theorem dX12_hang_162 : decode cX12_hang 162 = .ok (.iload 6, 2) := by decide +kernel
theorem dX12_hang_164 : decode cX12_hang 164 = .ok (.iastore, 1) := by decide +kernel
theorem dX12_hang_165 : decode cX12_hang 165 = .ok (.aload_n 0, 1) := by decide +kernel
theorem dX12_hang_166 : decode cX12_hang 166 = .ok (.getfield 206, 3) := by decide +kernel
theorem dX12_hang_169 : decode cX12_hang 169 = .ok (.bipush 8, 2) := by decide +kernel
theorem dX12_hang_171 : decode cX12_hang 171 = .ok (.iload_n 1, 1) := by decide +kernel
theorem dX12_hang_172 : decode cX12_hang 172 = .ok (.imul, 1) := by decide +kernel
theorem dX12_hang_173 : decode cX12_hang 173 = .ok (.iload 5, 2) := by decide +kernel
theorem dX12_hang_175 : decode cX12_hang 175 = .ok (.iadd, 1) := by decide +kernel
theorem dX12_hang_176 : decode cX12_hang 176 = .ok (.aload_n 0, 1) := by decide +kernel
theorem dX12_hang_177 : decode cX12_hang 177 = .ok (.iload 4, 2) := by decide +kernel
theorem dX12_hang_179 : decode cX12_hang 179 = .ok (.iload 6, 2) := by decide +kernel
theorem dX12_hang_181 : decode cX12_hang 181 = .ok (.invokevirtual 327, 3) := by decide +kernel
theorem dX12_hang_184 : decode cX12_hang 184 = .ok (.iastore, 1) := by decide +kernel
theorem dX12_hang_185 : decode cX12_hang 185 = .ok (.iload 4, 2) := by decide +kernel
theorem dX12_hang_187 : decode cX12_hang 187 = .ok (.iload 6, 2) := by decide +kernel
theorem dX12_hang_189 : decode cX12_hang 189 = .ok (.iadd, 1) := by decide +kernel
theorem dX12_hang_190 : decode cX12_hang 190 = .ok (.istore 4, 2) := by decide +kernel
theorem dX12_hang_192 : decode cX12_hang 192 = .ok (.iinc 5 1, 3) := by decide +kernel
theorem dX12_hang_195 : decode cX12_hang 195 = .ok (.goto (-92), 3) := by decide +kernel
theorem dX12_hang_198 : decode cX12_hang 198 = .ok (.aload_n 0, 1) := by decide +kernel
theorem dX12_hang_199 : decode cX12_hang 199 = .ok (.getfield 200, 3) := by decide +kernel
theorem dX12_hang_202 : decode cX12_hang 202 = .ok (.iload_n 1, 1) := by decide +kernel
theorem dX12_hang_203 : decode cX12_hang 203 = .ok (.iload 5, 2) := by decide +kernel
theorem dX12_hang_205 : decode cX12_hang 205 = .ok (.iastore, 1) := by decide +kernel
theorem dX12_hang_206 : decode cX12_hang 206 = .ok (.aload_n 0, 1) := by decide +kernel
theorem dX12_hang_207 : decode cX12_hang 207 = .ok (.getfield 190, 3) := by decide +kernel
theorem dX12_hang_210 : decode cX12_hang 210 = .ok (.iload_n 1, 1) := by decide +kernel
theorem dX12_hang_211 : decode cX12_hang 211 = .ok (.iconst 3, 1) := by decide +kernel
theorem dX12_hang_212 : decode cX12_hang 212 = .ok (.iastore, 1) := by decide +kernel
theorem dX12_hang_213 : decode cX12_hang 213 = .ok (.iload 5, 2) := by decide +kernel
theorem dX12_hang_215 : decode cX12_hang 215 = .ok (.ireturn, 1) := by decide +kernel
set_option maxRecDepth 20000 in
theorem ggX12_isPlaque_X12_isAsking : GoodIn wsX12_isPlaque wsX12_isAsking := goodIn_r _ [6, 7, 8, 9, 5, 10, 11, 12, 13, 14, 15, 16, 17, 18, 19, 20, 21, 22, 23, 24, 25, 26, 27, 28, 29, 30, 31, 32, 33, 34, 35, 36, 37, 38, 39, 40, 41, 42, 43, 44, 45, 46, 47, 48, 49, 50, 51, 52, 53, 54, 55, 56, 57, 58, 59, 60, 61, 62, 63] (by decide +kernel) (by decide +kernel)
set_option maxRecDepth 20000 in
theorem gX12_isPlaque_X12_isAsking : GoodIn wsX12_isPlaque (wsV RX12 313 RX12 yX12_isAsking wsX12_isAsking) := goodIn_app (goodIn_of _ (by decide +kernel)) ggX12_isPlaque_X12_isAsking
theorem dX12_isPlaque_0 : decode cX12_isPlaque 0 = .ok (.aload_n 0, 1) := by decide +kernel
theorem dX12_isPlaque_1 : decode cX12_isPlaque 1 = .ok (.iload_n 1, 1) := by decide +kernel
theorem dX12_isPlaque_2 : decode cX12_isPlaque 2 = .ok (.invokevirtual 313, 3) := by decide +kernel
theorem dX12_isPlaque_5 : decode cX12_isPlaque 5 = .ok (.ifCond .eq 27, 3) := by decide +kernel
theorem dX12_isPlaque_8 : decode cX12_isPlaque 8 = .ok (.aload_n 0, 1) := by decide +kernel
theorem dX12_isPlaque_9 : decode cX12_isPlaque 9 = .ok (.getfield 190, 3) := by decide +kernel
theorem dX12_isPlaque_12 : decode cX12_isPlaque 12 = .ok (.iload_n 1, 1) := by decide +kernel
theorem dX12_isPlaque_13 : decode cX12_isPlaque 13 = .ok (.iaload, 1) := by decide +kernel
theorem dX12_isPlaque_14 : decode cX12_isPlaque 14 = .ok (.iconst 3, 1) := by decide +kernel
theorem dX12_isPlaque_15 : decode cX12_isPlaque 15 = .ok (.if_icmp .eq 13, 3) := by decide +kernel
theorem dX12_isPlaque_18 : decode cX12_isPlaque 18 = .ok (.aload_n 0, 1) := by decide +kernel
theorem dX12_isPlaque_19 : decode cX12_isPlaque 19 = .ok (.getfield 190, 3) := by decide +kernel
theorem dX12_isPlaque_22 : decode cX12_isPlaque 22 = .ok (.iload_n 1, 1) := by decide +kernel
theorem dX12_isPlaque_23 : decode cX12_isPlaque 23 = .ok (.iaload, 1) := by decide +kernel
theorem dX12_isPlaque_24 : decode cX12_isPlaque 24 = .ok (.iconst 4, 1) := by decide +kernel
theorem dX12_isPlaque_25 : decode cX12_isPlaque 25 = .ok (.if_icmp .ne 7, 3) := by decide +kernel
theorem dX12_isPlaque_28 : decode cX12_isPlaque 28 = .ok (.iconst 1, 1) := by decide +kernel
theorem dX12_isPlaque_29 : decode cX12_isPlaque 29 = .ok (.goto 4, 3) := by decide +kernel
theorem dX12_isPlaque_32 : decode cX12_isPlaque 32 = .ok (.iconst 0, 1) := by decide +kernel
theorem dX12_isPlaque_33 : decode cX12_isPlaque 33 = .ok (.ireturn, 1) := by decide +kernel
set_option maxRecDepth 20000 in
theorem ggX12_line_X12_isPlaque : GoodIn wsX12_line wsX12_isPlaque := goodIn_r _ [7, 8, 9, 10, 11, 6, 12, 13, 14, 15, 16, 17, 18, 19, 20, 21, 22, 23, 24, 25, 26, 27, 28, 29, 30, 31, 32, 33, 34, 35, 36, 37, 38, 39, 40, 41, 42, 43, 44, 45, 46, 47, 48, 49, 50, 51, 52, 53, 54, 55, 56, 57, 58, 59, 60, 61, 62, 63, 64, 65, 66, 67, 68, 69] (by decide +kernel) (by decide +kernel)
set_option maxRecDepth 20000 in
theorem gX12_line_X12_isPlaque : GoodIn wsX12_line (wsV RX12 358 RX12 yX12_isPlaque wsX12_isPlaque) := goodIn_app (goodIn_of _ (by decide +kernel)) ggX12_line_X12_isPlaque
set_option maxRecDepth 20000 in
theorem ggX12_line_X12_in : GoodIn wsX12_line wsX12_in := goodIn_r _ [16] (by decide +kernel) (by decide +kernel)
set_option maxRecDepth 20000 in
theorem gX12_line_X12_in : GoodIn wsX12_line (va_wsS RX12 7 yX12_in wsX12_in) := goodIn_app (goodIn_of _ (by decide +kernel)) ggX12_line_X12_in
theorem dX12_line_0 : decode cX12_line 0 = .ok (.aload_n 0, 1) := by decide +kernel
theorem dX12_line_1 : decode cX12_line 1 = .ok (.iload_n 1, 1) := by decide +kernel
theorem dX12_line_2 : decode cX12_line 2 = .ok (.invokevirtual 358, 3) := by decide +kernel
theorem dX12_line_5 : decode cX12_line 5 = .ok (.ifCond .ne 8, 3) := by decide +kernel
theorem dX12_line_8 : decode cX12_line 8 = .ok (.bipush (-2), 2) := by decide +kernel
theorem dX12_line_10 : decode cX12_line 10 = .ok (.goto 36, 3) := by decide +kernel
theorem dX12_line_13 : decode cX12_line 13 = .ok (.iload_n 2, 1) := by decide +kernel
theorem dX12_line_14 : decode cX12_line 14 = .ok (.i2l, 1) := by decide +kernel
theorem dX12_line_15 : decode cX12_line 15 = .ok (.lconst 0, 1) := by decide +kernel
theorem dX12_line_16 : decode cX12_line 16 = .ok (.aload_n 0, 1) := by decide +kernel
theorem dX12_line_17 : decode cX12_line 17 = .ok (.getfield 200, 3) := by decide +kernel
theorem dX12_line_20 : decode cX12_line 20 = .ok (.iload_n 1, 1) := by decide +kernel
theorem dX12_line_21 : decode cX12_line 21 = .ok (.iaload, 1) := by decide +kernel
theorem dX12_line_22 : decode cX12_line 22 = .ok (.i2l, 1) := by decide +kernel
theorem dX12_line_23 : decode cX12_line 23 = .ok (.lconst 1, 1) := by decide +kernel
theorem dX12_line_24 : decode cX12_line 24 = .ok (.lsub, 1) := by decide +kernel
theorem dX12_line_25 : decode cX12_line 25 = .ok (.invokestatic 7, 3) := by decide +kernel
theorem dX12_line_28 : decode cX12_line 28 = .ok (.ifCond .eq 17, 3) := by decide +kernel
theorem dX12_line_31 : decode cX12_line 31 = .ok (.aload_n 0, 1) := by decide +kernel
theorem dX12_line_32 : decode cX12_line 32 = .ok (.getfield 203, 3) := by decide +kernel
theorem dX12_line_35 : decode cX12_line 35 = .ok (.bipush 8, 2) := by decide +kernel
theorem dX12_line_37 : decode cX12_line 37 = .ok (.iload_n 1, 1) := by decide +kernel
theorem dX12_line_38 : decode cX12_line 38 = .ok (.imul, 1) := by decide +kernel
theorem dX12_line_39 : decode cX12_line 39 = .ok (.iload_n 2, 1) := by decide +kernel
theorem dX12_line_40 : decode cX12_line 40 = .ok (.iadd, 1) := by decide +kernel
theorem dX12_line_41 : decode cX12_line 41 = .ok (.iaload, 1) := by decide +kernel
theorem dX12_line_42 : decode cX12_line 42 = .ok (.goto 4, 3) := by decide +kernel
theorem dX12_line_45 : decode cX12_line 45 = .ok (.iconst (-1), 1) := by decide +kernel
theorem dX12_line_46 : decode cX12_line 46 = .ok (.ireturn, 1) := by decide +kernel
set_option maxRecDepth 20000 in
theorem ggX12_wide_X12_isPlaque : GoodIn wsX12_wide wsX12_isPlaque := goodIn_r _ [7, 8, 9, 10, 11, 6, 12, 13, 14, 15, 16, 17, 18, 19, 20, 21, 22, 23, 24, 25, 26, 27, 28, 29, 30, 31, 32, 33, 34, 35, 36, 37, 38, 39, 40, 41, 42, 43, 44, 45, 46, 47, 48, 49, 50, 51, 52, 53, 54, 55, 56, 57, 58, 59, 60, 61, 62, 63, 64, 65, 66, 67, 68, 69] (by decide +kernel) (by decide +kernel)
set_option maxRecDepth 20000 in
theorem gX12_wide_X12_isPlaque : GoodIn wsX12_wide (wsV RX12 358 RX12 yX12_isPlaque wsX12_isPlaque) := goodIn_app (goodIn_of _ (by decide +kernel)) ggX12_wide_X12_isPlaque
set_option maxRecDepth 20000 in
theorem ggX12_wide_X12_in : GoodIn wsX12_wide wsX12_in := goodIn_r _ [16] (by decide +kernel) (by decide +kernel)
set_option maxRecDepth 20000 in
theorem gX12_wide_X12_in : GoodIn wsX12_wide (va_wsS RX12 7 yX12_in wsX12_in) := goodIn_app (goodIn_of _ (by decide +kernel)) ggX12_wide_X12_in
theorem dX12_wide_0 : decode cX12_wide 0 = .ok (.aload_n 0, 1) := by decide +kernel
theorem dX12_wide_1 : decode cX12_wide 1 = .ok (.iload_n 1, 1) := by decide +kernel
theorem dX12_wide_2 : decode cX12_wide 2 = .ok (.invokevirtual 358, 3) := by decide +kernel
theorem dX12_wide_5 : decode cX12_wide 5 = .ok (.ifCond .ne 8, 3) := by decide +kernel
theorem dX12_wide_8 : decode cX12_wide 8 = .ok (.bipush (-2), 2) := by decide +kernel
theorem dX12_wide_10 : decode cX12_wide 10 = .ok (.goto 36, 3) := by decide +kernel
theorem dX12_wide_13 : decode cX12_wide 13 = .ok (.iload_n 2, 1) := by decide +kernel
theorem dX12_wide_14 : decode cX12_wide 14 = .ok (.i2l, 1) := by decide +kernel
theorem dX12_wide_15 : decode cX12_wide 15 = .ok (.lconst 0, 1) := by decide +kernel
theorem dX12_wide_16 : decode cX12_wide 16 = .ok (.aload_n 0, 1) := by decide +kernel
theorem dX12_wide_17 : decode cX12_wide 17 = .ok (.getfield 200, 3) := by decide +kernel
theorem dX12_wide_20 : decode cX12_wide 20 = .ok (.iload_n 1, 1) := by decide +kernel
theorem dX12_wide_21 : decode cX12_wide 21 = .ok (.iaload, 1) := by decide +kernel
theorem dX12_wide_22 : decode cX12_wide 22 = .ok (.i2l, 1) := by decide +kernel
theorem dX12_wide_23 : decode cX12_wide 23 = .ok (.lconst 1, 1) := by decide +kernel
theorem dX12_wide_24 : decode cX12_wide 24 = .ok (.lsub, 1) := by decide +kernel
theorem dX12_wide_25 : decode cX12_wide 25 = .ok (.invokestatic 7, 3) := by decide +kernel
theorem dX12_wide_28 : decode cX12_wide 28 = .ok (.ifCond .eq 17, 3) := by decide +kernel
theorem dX12_wide_31 : decode cX12_wide 31 = .ok (.aload_n 0, 1) := by decide +kernel
theorem dX12_wide_32 : decode cX12_wide 32 = .ok (.getfield 206, 3) := by decide +kernel
theorem dX12_wide_35 : decode cX12_wide 35 = .ok (.bipush 8, 2) := by decide +kernel
theorem dX12_wide_37 : decode cX12_wide 37 = .ok (.iload_n 1, 1) := by decide +kernel
theorem dX12_wide_38 : decode cX12_wide 38 = .ok (.imul, 1) := by decide +kernel
theorem dX12_wide_39 : decode cX12_wide 39 = .ok (.iload_n 2, 1) := by decide +kernel
theorem dX12_wide_40 : decode cX12_wide 40 = .ok (.iadd, 1) := by decide +kernel
theorem dX12_wide_41 : decode cX12_wide 41 = .ok (.iaload, 1) := by decide +kernel
theorem dX12_wide_42 : decode cX12_wide 42 = .ok (.goto 4, 3) := by decide +kernel
theorem dX12_wide_45 : decode cX12_wide 45 = .ok (.iconst (-1), 1) := by decide +kernel
theorem dX12_wide_46 : decode cX12_wide 46 = .ok (.ireturn, 1) := by decide +kernel
set_option maxRecDepth 20000 in
theorem ggX12_down_X12_isAsking : GoodIn wsX12_down wsX12_isAsking := goodIn_r _ [8, 9, 10, 11, 7, 12, 13, 14, 15, 16, 17, 18, 19, 20, 21, 22, 23, 24, 25, 26, 27, 28, 29, 30, 31, 32, 33, 34, 35, 36, 37, 38, 39, 40, 41, 42, 43, 44, 45, 46, 47, 48, 49, 50, 51, 52, 53, 54, 55, 56, 57, 58, 59, 60, 61, 62, 63, 64, 65] (by decide +kernel) (by decide +kernel)
set_option maxRecDepth 20000 in
theorem gX12_down_X12_isAsking : GoodIn wsX12_down (wsV RX12 313 RX12 yX12_isAsking wsX12_isAsking) := goodIn_app (goodIn_of _ (by decide +kernel)) ggX12_down_X12_isAsking
set_option maxRecDepth 20000 in
theorem ggX12_down_X12_in : GoodIn wsX12_down wsX12_in := goodIn_r _ [12] (by decide +kernel) (by decide +kernel)
set_option maxRecDepth 20000 in
theorem gX12_down_X12_in : GoodIn wsX12_down (va_wsS RX12 7 yX12_in wsX12_in) := goodIn_app (goodIn_of _ (by decide +kernel)) ggX12_down_X12_in
theorem dX12_down_0 : decode cX12_down 0 = .ok (.aload_n 0, 1) := by decide +kernel
theorem dX12_down_1 : decode cX12_down 1 = .ok (.iload_n 1, 1) := by decide +kernel
theorem dX12_down_2 : decode cX12_down 2 = .ok (.invokevirtual 313, 3) := by decide +kernel
theorem dX12_down_5 : decode cX12_down 5 = .ok (.ifCond .eq 27, 3) := by decide +kernel
theorem dX12_down_8 : decode cX12_down 8 = .ok (.iload_n 2, 1) := by decide +kernel
theorem dX12_down_9 : decode cX12_down 9 = .ok (.i2l, 1) := by decide +kernel
theorem dX12_down_10 : decode cX12_down 10 = .ok (.lconst 0, 1) := by decide +kernel
theorem dX12_down_11 : decode cX12_down 11 = .ok (.ldc2_w 319, 3) := by decide +kernel
theorem dX12_down_14 : decode cX12_down 14 = .ok (.invokestatic 7, 3) := by decide +kernel
theorem dX12_down_17 : decode cX12_down 17 = .ok (.ifCond .eq 15, 3) := by decide +kernel
theorem dX12_down_20 : decode cX12_down 20 = .ok (.iload_n 3, 1) := by decide +kernel
theorem dX12_down_21 : decode cX12_down 21 = .ok (.i2l, 1) := by decide +kernel
theorem dX12_down_22 : decode cX12_down 22 = .ok (.lconst 0, 1) := by decide +kernel
theorem dX12_down_23 : decode cX12_down 23 = .ok (.ldc2_w 319, 3) := by decide +kernel
theorem dX12_down_26 : decode cX12_down 26 = .ok (.invokestatic 7, 3) := by decide +kernel
theorem dX12_down_29 : decode cX12_down 29 = .ok (.ifCond .ne 6, 3) := by decide +kernel
theorem dX12_down_32 : decode cX12_down 32 = .ok (.bipush (-2), 2) := by decide +kernel
theorem dX12_down_34 : decode cX12_down 34 = .ok (.ireturn, 1) := by decide +kernel
theorem dX12_down_35 : decode cX12_down 35 = .ok (.aload_n 0, 1) := by decide +kernel
theorem dX12_down_36 : decode cX12_down 36 = .ok (.getfield 190, 3) := by decide +kernel
theorem dX12_down_39 : decode cX12_down 39 = .ok (.iload_n 1, 1) := by decide +kernel
theorem dX12_down_40 : decode cX12_down 40 = .ok (.iaload, 1) := by decide +kernel
theorem dX12_down_41 : decode cX12_down 41 = .ok (.iconst 3, 1) := by decide +kernel
theorem dX12_down_42 : decode cX12_down 42 = .ok (.if_icmp .eq 6, 3) := by decide +kernel
theorem dX12_down_45 : decode cX12_down 45 = .ok (.bipush (-4), 2) := by decide +kernel
theorem dX12_down_47 : decode cX12_down 47 = .ok (.ireturn, 1) := by decide +kernel
theorem dX12_down_48 : decode cX12_down 48 = .ok (.iload_n 2, 1) := by decide +kernel
theorem dX12_down_49 : decode cX12_down 49 = .ok (.iload_n 3, 1) := by decide +kernel
theorem dX12_down_50 : decode cX12_down 50 = .ok (.iadd, 1) := by decide +kernel
theorem dX12_down_51 : decode cX12_down 51 = .ok (.ifCond .le 28, 3) := by decide +kernel
theorem dX12_down_54 : decode cX12_down 54 = .ok (.bipush 100, 2) := by decide +kernel
theorem dX12_down_56 : decode cX12_down 56 = .ok (.iload_n 2, 1) := by decide +kernel
theorem dX12_down_57 : decode cX12_down 57 = .ok (.imul, 1) := by decide +kernel
theorem dX12_down_58 : decode cX12_down 58 = .ok (.aload_n 0, 1) := by decide +kernel
theorem dX12_down_59 : decode cX12_down 59 = .ok (.getfield 124, 3) := by decide +kernel
theorem dX12_down_62 : decode cX12_down 62 = .ok (.bipush 7, 2) := by decide +kernel
theorem dX12_down_64 : decode cX12_down 64 = .ok (.iaload, 1) := by decide +kernel
theorem dX12_down_65 : decode cX12_down 65 = .ok (.iload_n 2, 1) := by decide +kernel
theorem dX12_down_66 : decode cX12_down 66 = .ok (.iload_n 3, 1) := by decide +kernel
theorem dX12_down_67 : decode cX12_down 67 = .ok (.iadd, 1) := by decide +kernel
theorem dX12_down_68 : decode cX12_down 68 = .ok (.imul, 1) := by decide +kernel
theorem dX12_down_69 : decode cX12_down 69 = .ok (.if_icmp .lt 10, 3) := by decide +kernel
theorem dX12_down_72 : decode cX12_down 72 = .ok (.aload_n 0, 1) := by decide +kernel
theorem dX12_down_73 : decode cX12_down 73 = .ok (.getfield 190, 3) := by decide +kernel
theorem dX12_down_76 : decode cX12_down 76 = .ok (.iload_n 1, 1) := by decide +kernel
theorem dX12_down_77 : decode cX12_down 77 = .ok (.iconst 4, 1) := by decide +kernel
theorem dX12_down_78 : decode cX12_down 78 = .ok (.iastore, 1) := by decide +kernel
theorem dX12_down_79 : decode cX12_down 79 = .ok (.aload_n 0, 1) := by decide +kernel
theorem dX12_down_80 : decode cX12_down 80 = .ok (.getfield 190, 3) := by decide +kernel
theorem dX12_down_83 : decode cX12_down 83 = .ok (.iload_n 1, 1) := by decide +kernel
theorem dX12_down_84 : decode cX12_down 84 = .ok (.iaload, 1) := by decide +kernel
theorem dX12_down_85 : decode cX12_down 85 = .ok (.ireturn, 1) := by decide +kernel
set_option maxRecDepth 20000 in
theorem ggX12_about_X12_isAsking : GoodIn wsX12_about wsX12_isAsking := goodIn_r _ [13, 14, 15, 16, 12, 17, 18, 19, 20, 21, 22, 23, 24, 25, 26, 27, 28, 29, 30, 31, 32, 33, 34, 35, 36, 37, 38, 39, 40, 41, 42, 43, 44, 45, 46, 47, 48, 49, 50, 51, 52, 53, 54, 55, 56, 57, 58, 59, 60, 61, 62, 63, 64, 65, 66, 67, 68, 69, 70] (by decide +kernel) (by decide +kernel)
set_option maxRecDepth 20000 in
theorem gX12_about_X12_isAsking : GoodIn wsX12_about (wsV RX12 313 RX12 yX12_isAsking wsX12_isAsking) := goodIn_app (goodIn_of _ (by decide +kernel)) ggX12_about_X12_isAsking
theorem dX12_about_0 : decode cX12_about 0 = .ok (.aload_n 0, 1) := by decide +kernel
theorem dX12_about_1 : decode cX12_about 1 = .ok (.iload_n 1, 1) := by decide +kernel
theorem dX12_about_2 : decode cX12_about 2 = .ok (.invokevirtual 313, 3) := by decide +kernel
theorem dX12_about_5 : decode cX12_about 5 = .ok (.ifCond .ne 6, 3) := by decide +kernel
theorem dX12_about_8 : decode cX12_about 8 = .ok (.bipush (-9), 2) := by decide +kernel
theorem dX12_about_10 : decode cX12_about 10 = .ok (.ireturn, 1) := by decide +kernel
theorem dX12_about_11 : decode cX12_about 11 = .ok (.iload_n 2, 1) := by decide +kernel
theorem dX12_about_12 : decode cX12_about 12 = .ok (.tableswitch 104 0 7 #[48, 55, 62, 69, 76, 83, 90, 97], 48) := by decide +kernel
theorem dX12_about_60 : decode cX12_about 60 = .ok (.aload_n 0, 1) := by decide +kernel
theorem dX12_about_61 : decode cX12_about 61 = .ok (.getfield 181, 3) := by decide +kernel
theorem dX12_about_64 : decode cX12_about 64 = .ok (.iload_n 1, 1) := by decide +kernel
theorem dX12_about_65 : decode cX12_about 65 = .ok (.iaload, 1) := by decide +kernel
theorem dX12_about_66 : decode cX12_about 66 = .ok (.ireturn, 1) := by decide +kernel
theorem dX12_about_67 : decode cX12_about 67 = .ok (.aload_n 0, 1) := by decide +kernel
theorem dX12_about_68 : decode cX12_about 68 = .ok (.getfield 184, 3) := by decide +kernel
theorem dX12_about_71 : decode cX12_about 71 = .ok (.iload_n 1, 1) := by decide +kernel
theorem dX12_about_72 : decode cX12_about 72 = .ok (.iaload, 1) := by decide +kernel
theorem dX12_about_73 : decode cX12_about 73 = .ok (.ireturn, 1) := by decide +kernel
theorem dX12_about_74 : decode cX12_about 74 = .ok (.aload_n 0, 1) := by decide +kernel
theorem dX12_about_75 : decode cX12_about 75 = .ok (.getfield 187, 3) := by decide +kernel
theorem dX12_about_78 : decode cX12_about 78 = .ok (.iload_n 1, 1) := by decide +kernel
theorem dX12_about_79 : decode cX12_about 79 = .ok (.iaload, 1) := by decide +kernel
theorem dX12_about_80 : decode cX12_about 80 = .ok (.ireturn, 1) := by decide +kernel
theorem dX12_about_81 : decode cX12_about 81 = .ok (.aload_n 0, 1) := by decide +kernel
theorem dX12_about_82 : decode cX12_about 82 = .ok (.getfield 190, 3) := by decide +kernel
theorem dX12_about_85 : decode cX12_about 85 = .ok (.iload_n 1, 1) := by decide +kernel
theorem dX12_about_86 : decode cX12_about 86 = .ok (.iaload, 1) := by decide +kernel
theorem dX12_about_87 : decode cX12_about 87 = .ok (.ireturn, 1) := by decide +kernel
theorem dX12_about_88 : decode cX12_about 88 = .ok (.aload_n 0, 1) := by decide +kernel
theorem dX12_about_89 : decode cX12_about 89 = .ok (.getfield 193, 3) := by decide +kernel
theorem dX12_about_92 : decode cX12_about 92 = .ok (.iload_n 1, 1) := by decide +kernel
theorem dX12_about_93 : decode cX12_about 93 = .ok (.iaload, 1) := by decide +kernel
theorem dX12_about_94 : decode cX12_about 94 = .ok (.ireturn, 1) := by decide +kernel
theorem dX12_about_95 : decode cX12_about 95 = .ok (.aload_n 0, 1) := by decide +kernel
theorem dX12_about_96 : decode cX12_about 96 = .ok (.getfield 195, 3) := by decide +kernel
theorem dX12_about_99 : decode cX12_about 99 = .ok (.iload_n 1, 1) := by decide +kernel
theorem dX12_about_100 : decode cX12_about 100 = .ok (.iaload, 1) := by decide +kernel
theorem dX12_about_101 : decode cX12_about 101 = .ok (.ireturn, 1) := by decide +kernel
theorem dX12_about_102 : decode cX12_about 102 = .ok (.aload_n 0, 1) := by decide +kernel
theorem dX12_about_103 : decode cX12_about 103 = .ok (.getfield 197, 3) := by decide +kernel
theorem dX12_about_106 : decode cX12_about 106 = .ok (.iload_n 1, 1) := by decide +kernel
theorem dX12_about_107 : decode cX12_about 107 = .ok (.iaload, 1) := by decide +kernel
theorem dX12_about_108 : decode cX12_about 108 = .ok (.ireturn, 1) := by decide +kernel
theorem dX12_about_109 : decode cX12_about 109 = .ok (.aload_n 0, 1) := by decide +kernel
theorem dX12_about_110 : decode cX12_about 110 = .ok (.getfield 200, 3) := by decide +kernel
theorem dX12_about_113 : decode cX12_about 113 = .ok (.iload_n 1, 1) := by decide +kernel
theorem dX12_about_114 : decode cX12_about 114 = .ok (.iaload, 1) := by decide +kernel
theorem dX12_about_115 : decode cX12_about 115 = .ok (.ireturn, 1) := by decide +kernel
theorem dX12_about_116 : decode cX12_about 116 = .ok (.bipush (-9), 2) := by decide +kernel
theorem dX12_about_118 : decode cX12_about 118 = .ok (.ireturn, 1) := by decide +kernel
set_option maxRecDepth 20000 in
theorem ggX12_doubtful_X12_speaks : GoodIn wsX12_doubtful wsX12_speaks := goodIn_r _ [7, 8, 9, 10, 11, 12, 13, 14, 15, 16, 1, 2, 17, 18, 19, 20, 21, 22, 6, 23, 24, 25, 26, 27, 28, 29, 30, 31, 32, 33, 34, 35, 36, 37, 38, 39, 40, 41, 42, 43, 44, 45, 46, 47, 48, 49, 50, 51, 52, 53, 54, 55, 56, 57, 58, 59, 60, 61, 62, 63, 64, 65, 66, 67, 68, 69, 70, 71, 72, 73, 74, 75, 76, 77, 78, 79, 80, 81, 82, 83, 84, 85, 86, 87, 88, 89, 90, 91, 92, 93, 94, 95, 96, 97, 98, 99, 100, 101, 102, 103, 104, 105, 106, 107, 108, 109, 110, 111, 112, 113, 114, 115, 116, 117, 118, 119] (by decide +kernel) (by decide +kernel)
set_option maxRecDepth 20000 in
theorem gX12_doubtful_X12_speaks : GoodIn wsX12_doubtful (wsV RX12 316 RX12 yX12_speaks wsX12_speaks) := goodIn_app (goodIn_of _ (by decide +kernel)) ggX12_doubtful_X12_speaks
theorem dX12_doubtful_0 : decode cX12_doubtful 0 = .ok (.iconst 0, 1) := by decide +kernel
theorem dX12_doubtful_1 : decode cX12_doubtful 1 = .ok (.istore_n 1, 1) := by decide +kernel
theorem dX12_doubtful_2 : decode cX12_doubtful 2 = .ok (.iconst 0, 1) := by decide +kernel
theorem dX12_doubtful_3 : decode cX12_doubtful 3 = .ok (.istore_n 2, 1) := by decide +kernel
theorem dX12_doubtful_4 : decode cX12_doubtful 4 = .ok (.iload_n 2, 1) := by decide +kernel
theorem dX12_doubtful_5 : decode cX12_doubtful 5 = .ok (.aload_n 0, 1) := by decide +kernel
theorem dX12_doubtful_6 : decode cX12_doubtful 6 = .ok (.getfield 310, 3) := by decide +kernel
theorem dX12_doubtful_9 : decode cX12_doubtful 9 = .ok (.if_icmp .ge 38, 3) := by decide +kernel
theorem dX12_doubtful_12 : decode cX12_doubtful 12 = .ok (.iload_n 1, 1) := by decide +kernel
theorem dX12_doubtful_13 : decode cX12_doubtful 13 = .ok (.aload_n 0, 1) := by decide +kernel
theorem dX12_doubtful_14 : decode cX12_doubtful 14 = .ok (.getfield 190, 3) := by decide +kernel
theorem dX12_doubtful_17 : decode cX12_doubtful 17 = .ok (.iload_n 2, 1) := by decide +kernel
theorem dX12_doubtful_18 : decode cX12_doubtful 18 = .ok (.iaload, 1) := by decide +kernel
theorem dX12_doubtful_19 : decode cX12_doubtful 19 = .ok (.iconst 3, 1) := by decide +kernel
theorem dX12_doubtful_20 : decode cX12_doubtful 20 = .ok (.if_icmp .ne 18, 3) := by decide +kernel
theorem dX12_doubtful_23 : decode cX12_doubtful 23 = .ok (.aload_n 0, 1) := by decide +kernel
theorem dX12_doubtful_24 : decode cX12_doubtful 24 = .ok (.iload_n 2, 1) := by decide +kernel
theorem dX12_doubtful_25 : decode cX12_doubtful 25 = .ok (.invokevirtual 316, 3) := by decide +kernel
theorem dX12_doubtful_28 : decode cX12_doubtful 28 = .ok (.bipush (-113), 2) := by decide +kernel
theorem dX12_doubtful_30 : decode cX12_doubtful 30 = .ok (.iand, 1) := by decide +kernel
theorem dX12_doubtful_31 : decode cX12_doubtful 31 = .ok (.ifCond .eq 7, 3) := by decide +kernel
theorem dX12_doubtful_34 : decode cX12_doubtful 34 = .ok (.iconst 1, 1) := by decide +kernel
theorem dX12_doubtful_35 : decode cX12_doubtful 35 = .ok (.goto 4, 3) := by decide +kernel
theorem dX12_doubtful_38 : decode cX12_doubtful 38 = .ok (.iconst 0, 1) := by decide +kernel
theorem dX12_doubtful_39 : decode cX12_doubtful 39 = .ok (.iadd, 1) := by decide +kernel
theorem dX12_doubtful_40 : decode cX12_doubtful 40 = .ok (.istore_n 1, 1) := by decide +kernel
theorem dX12_doubtful_41 : decode cX12_doubtful 41 = .ok (.iinc 2 1, 3) := by decide +kernel
theorem dX12_doubtful_44 : decode cX12_doubtful 44 = .ok (.goto (-40), 3) := by decide +kernel
theorem dX12_doubtful_47 : decode cX12_doubtful 47 = .ok (.iload_n 1, 1) := by decide +kernel
theorem dX12_doubtful_48 : decode cX12_doubtful 48 = .ok (.ireturn, 1) := by decide +kernel
set_option maxRecDepth 20000 in
theorem ggX12_count_X12_in : GoodIn wsX12_count wsX12_in := goodIn_r _ [13] (by decide +kernel) (by decide +kernel)
set_option maxRecDepth 20000 in
theorem gX12_count_X12_in : GoodIn wsX12_count (va_wsS RX12 7 yX12_in wsX12_in) := goodIn_app (goodIn_of _ (by decide +kernel)) ggX12_count_X12_in
theorem dX12_count_0 : decode cX12_count 0 = .ok (.iload_n 1, 1) := by decide +kernel
theorem dX12_count_1 : decode cX12_count 1 = .ok (.i2l, 1) := by decide +kernel
theorem dX12_count_2 : decode cX12_count 2 = .ok (.ldc2_w 226, 3) := by decide +kernel
theorem dX12_count_5 : decode cX12_count 5 = .ok (.ldc2_w 230, 3) := by decide +kernel
theorem dX12_count_8 : decode cX12_count 8 = .ok (.aload_n 0, 1) := by decide +kernel
theorem dX12_count_9 : decode cX12_count 9 = .ok (.getfield 244, 3) := by decide +kernel
theorem dX12_count_12 : decode cX12_count 12 = .ok (.i2l, 1) := by decide +kernel
theorem dX12_count_13 : decode cX12_count 13 = .ok (.ladd, 1) := by decide +kernel
theorem dX12_count_14 : decode cX12_count 14 = .ok (.invokestatic 7, 3) := by decide +kernel
theorem dX12_count_17 : decode cX12_count 17 = .ok (.ifCond .eq 13, 3) := by decide +kernel
theorem dX12_count_20 : decode cX12_count 20 = .ok (.aload_n 0, 1) := by decide +kernel
theorem dX12_count_21 : decode cX12_count 21 = .ok (.getfield 130, 3) := by decide +kernel
theorem dX12_count_24 : decode cX12_count 24 = .ok (.iload_n 1, 1) := by decide +kernel
theorem dX12_count_25 : decode cX12_count 25 = .ok (.bipush 10, 2) := by decide +kernel
theorem dX12_count_27 : decode cX12_count 27 = .ok (.isub, 1) := by decide +kernel
theorem dX12_count_28 : decode cX12_count 28 = .ok (.iaload, 1) := by decide +kernel
theorem dX12_count_29 : decode cX12_count 29 = .ok (.ireturn, 1) := by decide +kernel
theorem dX12_count_30 : decode cX12_count 30 = .ok (.iload_n 1, 1) := by decide +kernel
theorem dX12_count_31 : decode cX12_count 31 = .ok (.tableswitch 100 0 5 #[37, 42, 47, 52, 57, 95], 37) := by decide +kernel
theorem dX12_count_68 : decode cX12_count 68 = .ok (.aload_n 0, 1) := by decide +kernel
theorem dX12_count_69 : decode cX12_count 69 = .ok (.getfield 244, 3) := by decide +kernel
theorem dX12_count_72 : decode cX12_count 72 = .ok (.ireturn, 1) := by decide +kernel
theorem dX12_count_73 : decode cX12_count 73 = .ok (.aload_n 0, 1) := by decide +kernel
theorem dX12_count_74 : decode cX12_count 74 = .ok (.getfield 274, 3) := by decide +kernel
theorem dX12_count_77 : decode cX12_count 77 = .ok (.ireturn, 1) := by decide +kernel
theorem dX12_count_78 : decode cX12_count 78 = .ok (.aload_n 0, 1) := by decide +kernel
theorem dX12_count_79 : decode cX12_count 79 = .ok (.getfield 282, 3) := by decide +kernel
theorem dX12_count_82 : decode cX12_count 82 = .ok (.ireturn, 1) := by decide +kernel
theorem dX12_count_83 : decode cX12_count 83 = .ok (.aload_n 0, 1) := by decide +kernel
theorem dX12_count_84 : decode cX12_count 84 = .ok (.getfield 310, 3) := by decide +kernel
theorem dX12_count_87 : decode cX12_count 87 = .ok (.ireturn, 1) := by decide +kernel
theorem dX12_count_88 : decode cX12_count 88 = .ok (.iconst 0, 1) := by decide +kernel
theorem dX12_count_89 : decode cX12_count 89 = .ok (.istore_n 2, 1) := by decide +kernel
theorem dX12_count_90 : decode cX12_count 90 = .ok (.iconst 0, 1) := by decide +kernel
theorem dX12_count_91 : decode cX12_count 91 = .ok (.istore_n 3, 1) := by decide +kernel
theorem dX12_count_92 : decode cX12_count 92 = .ok (.iload_n 3, 1) := by decide +kernel
theorem dX12_count_93 : decode cX12_count 93 = .ok (.aload_n 0, 1) := by decide +kernel
theorem dX12_count_94 : decode cX12_count 94 = .ok (.getfield 310, 3) := by decide +kernel
theorem dX12_count_97 : decode cX12_count 97 = .ok (.if_icmp .ge 27, 3) := by decide +kernel
theorem dX12_count_100 : decode cX12_count 100 = .ok (.iload_n 2, 1) := by decide +kernel
theorem dX12_count_101 : decode cX12_count 101 = .ok (.aload_n 0, 1) := by decide +kernel
theorem dX12_count_102 : decode cX12_count 102 = .ok (.getfield 190, 3) := by decide +kernel
theorem dX12_count_105 : decode cX12_count 105 = .ok (.iload_n 3, 1) := by decide +kernel
theorem dX12_count_106 : decode cX12_count 106 = .ok (.iaload, 1) := by decide +kernel
theorem dX12_count_107 : decode cX12_count 107 = .ok (.iconst 3, 1) := by decide +kernel
theorem dX12_count_108 : decode cX12_count 108 = .ok (.if_icmp .ne 7, 3) := by decide +kernel
theorem dX12_count_111 : decode cX12_count 111 = .ok (.iconst 1, 1) := by decide +kernel
theorem dX12_count_112 : decode cX12_count 112 = .ok (.goto 4, 3) := by decide +kernel
theorem dX12_count_115 : decode cX12_count 115 = .ok (.iconst 0, 1) := by decide +kernel
theorem dX12_count_116 : decode cX12_count 116 = .ok (.iadd, 1) := by decide +kernel
theorem dX12_count_117 : decode cX12_count 117 = .ok (.istore_n 2, 1) := by decide +kernel
theorem dX12_count_118 : decode cX12_count 118 = .ok (.iinc 3 1, 3) := by decide +kernel
theorem dX12_count_121 : decode cX12_count 121 = .ok (.goto (-29), 3) := by decide +kernel
theorem dX12_count_124 : decode cX12_count 124 = .ok (.iload_n 2, 1) := by decide +kernel
theorem dX12_count_125 : decode cX12_count 125 = .ok (.ireturn, 1) := by decide +kernel
theorem dX12_count_126 : decode cX12_count 126 = .ok (.aload_n 0, 1) := by decide +kernel
theorem dX12_count_127 : decode cX12_count 127 = .ok (.getfield 116, 3) := by decide +kernel
theorem dX12_count_130 : decode cX12_count 130 = .ok (.ireturn, 1) := by decide +kernel
theorem dX12_count_131 : decode cX12_count 131 = .ok (.iconst (-1), 1) := by decide +kernel
theorem dX12_count_132 : decode cX12_count 132 = .ok (.ireturn, 1) := by decide +kernel
theorem dJ6_numberOfLeadingZeros_0f7a4_0 : decode cJ6_numberOfLeadingZeros_0f7a4 0 = .ok (.iload_n 0, 1) := by decide +kernel
theorem dJ6_numberOfLeadingZeros_0f7a4_1 : decode cJ6_numberOfLeadingZeros_0f7a4 1 = .ok (.ifCond .gt 14, 3) := by decide +kernel
theorem dJ6_numberOfLeadingZeros_0f7a4_4 : decode cJ6_numberOfLeadingZeros_0f7a4 4 = .ok (.iload_n 0, 1) := by decide +kernel
theorem dJ6_numberOfLeadingZeros_0f7a4_5 : decode cJ6_numberOfLeadingZeros_0f7a4 5 = .ok (.ifCond .ne 8, 3) := by decide +kernel
theorem dJ6_numberOfLeadingZeros_0f7a4_8 : decode cJ6_numberOfLeadingZeros_0f7a4 8 = .ok (.bipush 32, 2) := by decide +kernel
theorem dJ6_numberOfLeadingZeros_0f7a4_10 : decode cJ6_numberOfLeadingZeros_0f7a4 10 = .ok (.goto 4, 3) := by decide +kernel
theorem dJ6_numberOfLeadingZeros_0f7a4_13 : decode cJ6_numberOfLeadingZeros_0f7a4 13 = .ok (.iconst 0, 1) := by decide +kernel
theorem dJ6_numberOfLeadingZeros_0f7a4_14 : decode cJ6_numberOfLeadingZeros_0f7a4 14 = .ok (.ireturn, 1) := by decide +kernel
theorem dJ6_numberOfLeadingZeros_0f7a4_15 : decode cJ6_numberOfLeadingZeros_0f7a4 15 = .ok (.bipush 31, 2) := by decide +kernel
theorem dJ6_numberOfLeadingZeros_0f7a4_17 : decode cJ6_numberOfLeadingZeros_0f7a4 17 = .ok (.istore_n 1, 1) := by decide +kernel
theorem dJ6_numberOfLeadingZeros_0f7a4_18 : decode cJ6_numberOfLeadingZeros_0f7a4 18 = .ok (.iload_n 0, 1) := by decide +kernel
theorem dJ6_numberOfLeadingZeros_0f7a4_19 : decode cJ6_numberOfLeadingZeros_0f7a4 19 = .ok (.ldc_w 264, 3) := by decide +kernel
theorem dJ6_numberOfLeadingZeros_0f7a4_22 : decode cJ6_numberOfLeadingZeros_0f7a4 22 = .ok (.if_icmp .lt 11, 3) := by decide +kernel
theorem dJ6_numberOfLeadingZeros_0f7a4_25 : decode cJ6_numberOfLeadingZeros_0f7a4 25 = .ok (.iinc 1 (-16), 3) := by decide +kernel
theorem dJ6_numberOfLeadingZeros_0f7a4_28 : decode cJ6_numberOfLeadingZeros_0f7a4 28 = .ok (.iload_n 0, 1) := by decide +kernel
theorem dJ6_numberOfLeadingZeros_0f7a4_29 : decode cJ6_numberOfLeadingZeros_0f7a4 29 = .ok (.bipush 16, 2) := by decide +kernel
theorem dJ6_numberOfLeadingZeros_0f7a4_31 : decode cJ6_numberOfLeadingZeros_0f7a4 31 = .ok (.iushr, 1) := by decide +kernel
theorem dJ6_numberOfLeadingZeros_0f7a4_32 : decode cJ6_numberOfLeadingZeros_0f7a4 32 = .ok (.istore_n 0, 1) := by decide +kernel
theorem dJ6_numberOfLeadingZeros_0f7a4_33 : decode cJ6_numberOfLeadingZeros_0f7a4 33 = .ok (.iload_n 0, 1) := by decide +kernel
theorem dJ6_numberOfLeadingZeros_0f7a4_34 : decode cJ6_numberOfLeadingZeros_0f7a4 34 = .ok (.sipush 256, 3) := by decide +kernel
theorem dJ6_numberOfLeadingZeros_0f7a4_37 : decode cJ6_numberOfLeadingZeros_0f7a4 37 = .ok (.if_icmp .lt 11, 3) := by decide +kernel
theorem dJ6_numberOfLeadingZeros_0f7a4_40 : decode cJ6_numberOfLeadingZeros_0f7a4 40 = .ok (.iinc 1 (-8), 3) := by decide +kernel
theorem dJ6_numberOfLeadingZeros_0f7a4_43 : decode cJ6_numberOfLeadingZeros_0f7a4 43 = .ok (.iload_n 0, 1) := by decide +kernel
theorem dJ6_numberOfLeadingZeros_0f7a4_44 : decode cJ6_numberOfLeadingZeros_0f7a4 44 = .ok (.bipush 8, 2) := by decide +kernel
theorem dJ6_numberOfLeadingZeros_0f7a4_46 : decode cJ6_numberOfLeadingZeros_0f7a4 46 = .ok (.iushr, 1) := by decide +kernel
theorem dJ6_numberOfLeadingZeros_0f7a4_47 : decode cJ6_numberOfLeadingZeros_0f7a4 47 = .ok (.istore_n 0, 1) := by decide +kernel
theorem dJ6_numberOfLeadingZeros_0f7a4_48 : decode cJ6_numberOfLeadingZeros_0f7a4 48 = .ok (.iload_n 0, 1) := by decide +kernel
theorem dJ6_numberOfLeadingZeros_0f7a4_49 : decode cJ6_numberOfLeadingZeros_0f7a4 49 = .ok (.bipush 16, 2) := by decide +kernel
theorem dJ6_numberOfLeadingZeros_0f7a4_51 : decode cJ6_numberOfLeadingZeros_0f7a4 51 = .ok (.if_icmp .lt 10, 3) := by decide +kernel
theorem dJ6_numberOfLeadingZeros_0f7a4_54 : decode cJ6_numberOfLeadingZeros_0f7a4 54 = .ok (.iinc 1 (-4), 3) := by decide +kernel
theorem dJ6_numberOfLeadingZeros_0f7a4_57 : decode cJ6_numberOfLeadingZeros_0f7a4 57 = .ok (.iload_n 0, 1) := by decide +kernel
theorem dJ6_numberOfLeadingZeros_0f7a4_58 : decode cJ6_numberOfLeadingZeros_0f7a4 58 = .ok (.iconst 4, 1) := by decide +kernel
theorem dJ6_numberOfLeadingZeros_0f7a4_59 : decode cJ6_numberOfLeadingZeros_0f7a4 59 = .ok (.iushr, 1) := by decide +kernel
theorem dJ6_numberOfLeadingZeros_0f7a4_60 : decode cJ6_numberOfLeadingZeros_0f7a4 60 = .ok (.istore_n 0, 1) := by decide +kernel
theorem dJ6_numberOfLeadingZeros_0f7a4_61 : decode cJ6_numberOfLeadingZeros_0f7a4 61 = .ok (.iload_n 0, 1) := by decide +kernel
theorem dJ6_numberOfLeadingZeros_0f7a4_62 : decode cJ6_numberOfLeadingZeros_0f7a4 62 = .ok (.iconst 4, 1) := by decide +kernel
theorem dJ6_numberOfLeadingZeros_0f7a4_63 : decode cJ6_numberOfLeadingZeros_0f7a4 63 = .ok (.if_icmp .lt 10, 3) := by decide +kernel
theorem dJ6_numberOfLeadingZeros_0f7a4_66 : decode cJ6_numberOfLeadingZeros_0f7a4 66 = .ok (.iinc 1 (-2), 3) := by decide +kernel
theorem dJ6_numberOfLeadingZeros_0f7a4_69 : decode cJ6_numberOfLeadingZeros_0f7a4 69 = .ok (.iload_n 0, 1) := by decide +kernel
theorem dJ6_numberOfLeadingZeros_0f7a4_70 : decode cJ6_numberOfLeadingZeros_0f7a4 70 = .ok (.iconst 2, 1) := by decide +kernel
theorem dJ6_numberOfLeadingZeros_0f7a4_71 : decode cJ6_numberOfLeadingZeros_0f7a4 71 = .ok (.iushr, 1) := by decide +kernel
theorem dJ6_numberOfLeadingZeros_0f7a4_72 : decode cJ6_numberOfLeadingZeros_0f7a4 72 = .ok (.istore_n 0, 1) := by decide +kernel
theorem dJ6_numberOfLeadingZeros_0f7a4_73 : decode cJ6_numberOfLeadingZeros_0f7a4 73 = .ok (.iload_n 1, 1) := by decide +kernel
theorem dJ6_numberOfLeadingZeros_0f7a4_74 : decode cJ6_numberOfLeadingZeros_0f7a4 74 = .ok (.iload_n 0, 1) := by decide +kernel
theorem dJ6_numberOfLeadingZeros_0f7a4_75 : decode cJ6_numberOfLeadingZeros_0f7a4 75 = .ok (.iconst 1, 1) := by decide +kernel
theorem dJ6_numberOfLeadingZeros_0f7a4_76 : decode cJ6_numberOfLeadingZeros_0f7a4 76 = .ok (.iushr, 1) := by decide +kernel
theorem dJ6_numberOfLeadingZeros_0f7a4_77 : decode cJ6_numberOfLeadingZeros_0f7a4 77 = .ok (.isub, 1) := by decide +kernel
theorem dJ6_numberOfLeadingZeros_0f7a4_78 : decode cJ6_numberOfLeadingZeros_0f7a4 78 = .ok (.ireturn, 1) := by decide +kernel
theorem dJ6_numberOfTrailingZeros_0f7a4_0 : decode cJ6_numberOfTrailingZeros_0f7a4 0 = .ok (.iload_n 0, 1) := by decide +kernel
