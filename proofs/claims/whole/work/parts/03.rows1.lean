theorem dX0_init_0 : decode cX0_init 0 = .ok (.aload_n 0, 1) := by decide +kernel
theorem dX0_init_1 : decode cX0_init 1 = .ok (.invokespecial 3, 3) := by decide +kernel
theorem dX0_init_4 : decode cX0_init 4 = .ok (.aload_n 0, 1) := by decide +kernel
theorem dX0_init_5 : decode cX0_init 5 = .ok (.bipush 40, 2) := by decide +kernel
theorem dX0_init_7 : decode cX0_init 7 = .ok (.newarray .int, 2) := by decide +kernel
theorem dX0_init_9 : decode cX0_init 9 = .ok (.putfield 9, 3) := by decide +kernel
theorem dX0_init_12 : decode cX0_init 12 = .ok (.aload_n 0, 1) := by decide +kernel
theorem dX0_init_13 : decode cX0_init 13 = .ok (.bipush 40, 2) := by decide +kernel
theorem dX0_init_15 : decode cX0_init 15 = .ok (.newarray .int, 2) := by decide +kernel
theorem dX0_init_17 : decode cX0_init 17 = .ok (.putfield 15, 3) := by decide +kernel
theorem dX0_init_20 : decode cX0_init 20 = .ok (.aload_n 0, 1) := by decide +kernel
theorem dX0_init_21 : decode cX0_init 21 = .ok (.bipush 40, 2) := by decide +kernel
theorem dX0_init_23 : decode cX0_init 23 = .ok (.newarray .int, 2) := by decide +kernel
theorem dX0_init_25 : decode cX0_init 25 = .ok (.putfield 18, 3) := by decide +kernel
theorem dX0_init_28 : decode cX0_init 28 = .ok (.aload_n 0, 1) := by decide +kernel
theorem dX0_init_29 : decode cX0_init 29 = .ok (.bipush 40, 2) := by decide +kernel
theorem dX0_init_31 : decode cX0_init 31 = .ok (.newarray .int, 2) := by decide +kernel
theorem dX0_init_33 : decode cX0_init 33 = .ok (.putfield 21, 3) := by decide +kernel
theorem dX0_init_36 : decode cX0_init 36 = .ok (.aload_n 0, 1) := by decide +kernel
theorem dX0_init_37 : decode cX0_init 37 = .ok (.bipush 40, 2) := by decide +kernel
theorem dX0_init_39 : decode cX0_init 39 = .ok (.newarray .int, 2) := by decide +kernel
theorem dX0_init_41 : decode cX0_init 41 = .ok (.putfield 24, 3) := by decide +kernel
theorem dX0_init_44 : decode cX0_init 44 = .ok (.aload_n 0, 1) := by decide +kernel
theorem dX0_init_45 : decode cX0_init 45 = .ok (.bipush 40, 2) := by decide +kernel
theorem dX0_init_47 : decode cX0_init 47 = .ok (.newarray .int, 2) := by decide +kernel
theorem dX0_init_49 : decode cX0_init 49 = .ok (.putfield 27, 3) := by decide +kernel
theorem dX0_init_52 : decode cX0_init 52 = .ok (.aload_n 0, 1) := by decide +kernel
theorem dX0_init_53 : decode cX0_init 53 = .ok (.bipush 40, 2) := by decide +kernel
theorem dX0_init_55 : decode cX0_init 55 = .ok (.newarray .int, 2) := by decide +kernel
theorem dX0_init_57 : decode cX0_init 57 = .ok (.putfield 30, 3) := by decide +kernel
theorem dX0_init_60 : decode cX0_init 60 = .ok (.aload_n 0, 1) := by decide +kernel
theorem dX0_init_61 : decode cX0_init 61 = .ok (.bipush 40, 2) := by decide +kernel
theorem dX0_init_63 : decode cX0_init 63 = .ok (.newarray .int, 2) := by decide +kernel
theorem dX0_init_65 : decode cX0_init 65 = .ok (.putfield 33, 3) := by decide +kernel
theorem dX0_init_68 : decode cX0_init 68 = .ok (.aload_n 0, 1) := by decide +kernel
theorem dX0_init_69 : decode cX0_init 69 = .ok (.sipush 320, 3) := by decide +kernel
theorem dX0_init_72 : decode cX0_init 72 = .ok (.newarray .int, 2) := by decide +kernel
theorem dX0_init_74 : decode cX0_init 74 = .ok (.putfield 36, 3) := by decide +kernel
theorem dX0_init_77 : decode cX0_init 77 = .ok (.aload_n 0, 1) := by decide +kernel
theorem dX0_init_78 : decode cX0_init 78 = .ok (.sipush 320, 3) := by decide +kernel
theorem dX0_init_81 : decode cX0_init 81 = .ok (.newarray .int, 2) := by decide +kernel
theorem dX0_init_83 : decode cX0_init 83 = .ok (.putfield 39, 3) := by decide +kernel
theorem dX0_init_86 : decode cX0_init 86 = .ok (.return_, 1) := by decide +kernel
theorem dX0_add_0 : decode cX0_add 0 = .ok (.aload_n 0, 1) := by decide +kernel
theorem dX0_add_1 : decode cX0_add 1 = .ok (.getfield 42, 3) := by decide +kernel
theorem dX0_add_4 : decode cX0_add 4 = .ok (.istore 4, 2) := by decide +kernel
theorem dX0_add_6 : decode cX0_add 6 = .ok (.aload_n 0, 1) := by decide +kernel
theorem dX0_add_7 : decode cX0_add 7 = .ok (.getfield 9, 3) := by decide +kernel
theorem dX0_add_10 : decode cX0_add 10 = .ok (.iload 4, 2) := by decide +kernel
theorem dX0_add_12 : decode cX0_add 12 = .ok (.iload_n 1, 1) := by decide +kernel
theorem dX0_add_13 : decode cX0_add 13 = .ok (.iastore, 1) := by decide +kernel
theorem dX0_add_14 : decode cX0_add 14 = .ok (.aload_n 0, 1) := by decide +kernel
theorem dX0_add_15 : decode cX0_add 15 = .ok (.getfield 15, 3) := by decide +kernel
theorem dX0_add_18 : decode cX0_add 18 = .ok (.iload 4, 2) := by decide +kernel
theorem dX0_add_20 : decode cX0_add 20 = .ok (.iload_n 2, 1) := by decide +kernel
theorem dX0_add_21 : decode cX0_add 21 = .ok (.iastore, 1) := by decide +kernel
theorem dX0_add_22 : decode cX0_add 22 = .ok (.aload_n 0, 1) := by decide +kernel
theorem dX0_add_23 : decode cX0_add 23 = .ok (.getfield 18, 3) := by decide +kernel
theorem dX0_add_26 : decode cX0_add 26 = .ok (.iload 4, 2) := by decide +kernel
theorem dX0_add_28 : decode cX0_add 28 = .ok (.iload_n 3, 1) := by decide +kernel
theorem dX0_add_29 : decode cX0_add 29 = .ok (.iastore, 1) := by decide +kernel
theorem dX0_add_30 : decode cX0_add 30 = .ok (.aload_n 0, 1) := by decide +kernel
theorem dX0_add_31 : decode cX0_add 31 = .ok (.getfield 21, 3) := by decide +kernel
theorem dX0_add_34 : decode cX0_add 34 = .ok (.iload 4, 2) := by decide +kernel
theorem dX0_add_36 : decode cX0_add 36 = .ok (.iconst 0, 1) := by decide +kernel
theorem dX0_add_37 : decode cX0_add 37 = .ok (.iastore, 1) := by decide +kernel
theorem dX0_add_38 : decode cX0_add 38 = .ok (.aload_n 0, 1) := by decide +kernel
theorem dX0_add_39 : decode cX0_add 39 = .ok (.getfield 30, 3) := by decide +kernel
theorem dX0_add_42 : decode cX0_add 42 = .ok (.iload 4, 2) := by decide +kernel
theorem dX0_add_44 : decode cX0_add 44 = .ok (.iconst (-1), 1) := by decide +kernel
theorem dX0_add_45 : decode cX0_add 45 = .ok (.iastore, 1) := by decide +kernel
theorem dX0_add_46 : decode cX0_add 46 = .ok (.aload_n 0, 1) := by decide +kernel
theorem dX0_add_47 : decode cX0_add 47 = .ok (.getfield 33, 3) := by decide +kernel
theorem dX0_add_50 : decode cX0_add 50 = .ok (.iload 4, 2) := by decide +kernel
theorem dX0_add_52 : decode cX0_add 52 = .ok (.iconst (-1), 1) := by decide +kernel
theorem dX0_add_53 : decode cX0_add 53 = .ok (.iastore, 1) := by decide +kernel
theorem dX0_add_54 : decode cX0_add 54 = .ok (.aload_n 0, 1) := by decide +kernel
theorem dX0_add_55 : decode cX0_add 55 = .ok (.dup, 1) := by decide +kernel
theorem dX0_add_56 : decode cX0_add 56 = .ok (.getfield 42, 3) := by decide +kernel
theorem dX0_add_59 : decode cX0_add 59 = .ok (.iconst 1, 1) := by decide +kernel
theorem dX0_add_60 : decode cX0_add 60 = .ok (.iadd, 1) := by decide +kernel
theorem dX0_add_61 : decode cX0_add 61 = .ok (.putfield 42, 3) := by decide +kernel
theorem dX0_add_64 : decode cX0_add 64 = .ok (.iload 4, 2) := by decide +kernel
theorem dX0_add_66 : decode cX0_add 66 = .ok (.ireturn, 1) := by decide +kernel
theorem dX0_latestYear_0 : decode cX0_latestYear 0 = .ok (.aload_n 0, 1) := by decide +kernel
theorem dX0_latestYear_1 : decode cX0_latestYear 1 = .ok (.getfield 42, 3) := by decide +kernel
theorem dX0_latestYear_4 : decode cX0_latestYear 4 = .ok (.ifCond .le 17, 3) := by decide +kernel
theorem dX0_latestYear_7 : decode cX0_latestYear 7 = .ok (.aload_n 0, 1) := by decide +kernel
theorem dX0_latestYear_8 : decode cX0_latestYear 8 = .ok (.getfield 18, 3) := by decide +kernel
theorem dX0_latestYear_11 : decode cX0_latestYear 11 = .ok (.aload_n 0, 1) := by decide +kernel
theorem dX0_latestYear_12 : decode cX0_latestYear 12 = .ok (.getfield 42, 3) := by decide +kernel
theorem dX0_latestYear_15 : decode cX0_latestYear 15 = .ok (.iconst 1, 1) := by decide +kernel
theorem dX0_latestYear_16 : decode cX0_latestYear 16 = .ok (.isub, 1) := by decide +kernel
theorem dX0_latestYear_17 : decode cX0_latestYear 17 = .ok (.iaload, 1) := by decide +kernel
theorem dX0_latestYear_18 : decode cX0_latestYear 18 = .ok (.goto 6, 3) := by decide +kernel
theorem dX0_latestYear_21 : decode cX0_latestYear 21 = .ok (.sipush 1500, 3) := by decide +kernel
theorem dX0_latestYear_24 : decode cX0_latestYear 24 = .ok (.ireturn, 1) := by decide +kernel
theorem dX0_hanging_0 : decode cX0_hanging 0 = .ok (.iconst 0, 1) := by decide +kernel
theorem dX0_hanging_1 : decode cX0_hanging 1 = .ok (.istore_n 1, 1) := by decide +kernel
theorem dX0_hanging_2 : decode cX0_hanging 2 = .ok (.iconst 0, 1) := by decide +kernel
theorem dX0_hanging_3 : decode cX0_hanging 3 = .ok (.istore_n 2, 1) := by decide +kernel
theorem dX0_hanging_4 : decode cX0_hanging 4 = .ok (.iload_n 2, 1) := by decide +kernel
theorem dX0_hanging_5 : decode cX0_hanging 5 = .ok (.aload_n 0, 1) := by decide +kernel
theorem dX0_hanging_6 : decode cX0_hanging 6 = .ok (.getfield 42, 3) := by decide +kernel
theorem dX0_hanging_9 : decode cX0_hanging 9 = .ok (.if_icmp .ge 22, 3) := by decide +kernel
theorem dX0_hanging_12 : decode cX0_hanging 12 = .ok (.aload_n 0, 1) := by decide +kernel
theorem dX0_hanging_13 : decode cX0_hanging 13 = .ok (.getfield 21, 3) := by decide +kernel
theorem dX0_hanging_16 : decode cX0_hanging 16 = .ok (.iload_n 2, 1) := by decide +kernel
theorem dX0_hanging_17 : decode cX0_hanging 17 = .ok (.iaload, 1) := by decide +kernel
theorem dX0_hanging_18 : decode cX0_hanging 18 = .ok (.iconst 3, 1) := by decide +kernel
theorem dX0_hanging_19 : decode cX0_hanging 19 = .ok (.if_icmp .ne 6, 3) := by decide +kernel
theorem dX0_hanging_22 : decode cX0_hanging 22 = .ok (.iinc 1 1, 3) := by decide +kernel
theorem dX0_hanging_25 : decode cX0_hanging 25 = .ok (.iinc 2 1, 3) := by decide +kernel
theorem dX0_hanging_28 : decode cX0_hanging 28 = .ok (.goto (-24), 3) := by decide +kernel
theorem dX0_hanging_31 : decode cX0_hanging 31 = .ok (.iload_n 1, 1) := by decide +kernel
theorem dX0_hanging_32 : decode cX0_hanging 32 = .ok (.ireturn, 1) := by decide +kernel
theorem dX0_hasLine_0 : decode cX0_hasLine 0 = .ok (.iload_n 2, 1) := by decide +kernel
theorem dX0_hasLine_1 : decode cX0_hasLine 1 = .ok (.ifCond .lt 17, 3) := by decide +kernel
theorem dX0_hasLine_4 : decode cX0_hasLine 4 = .ok (.iload_n 2, 1) := by decide +kernel
theorem dX0_hasLine_5 : decode cX0_hasLine 5 = .ok (.aload_n 0, 1) := by decide +kernel
theorem dX0_hasLine_6 : decode cX0_hasLine 6 = .ok (.getfield 33, 3) := by decide +kernel
theorem dX0_hasLine_9 : decode cX0_hasLine 9 = .ok (.iload_n 1, 1) := by decide +kernel
theorem dX0_hasLine_10 : decode cX0_hasLine 10 = .ok (.iaload, 1) := by decide +kernel
theorem dX0_hasLine_11 : decode cX0_hasLine 11 = .ok (.if_icmp .ge 7, 3) := by decide +kernel
theorem dX0_hasLine_14 : decode cX0_hasLine 14 = .ok (.iconst 1, 1) := by decide +kernel
theorem dX0_hasLine_15 : decode cX0_hasLine 15 = .ok (.goto 4, 3) := by decide +kernel
theorem dX0_hasLine_18 : decode cX0_hasLine 18 = .ok (.iconst 0, 1) := by decide +kernel
theorem dX0_hasLine_19 : decode cX0_hasLine 19 = .ok (.ireturn, 1) := by decide +kernel
theorem dX0_keepLines_0 : decode cX0_keepLines 0 = .ok (.aload_n 0, 1) := by decide +kernel
theorem dX0_keepLines_1 : decode cX0_keepLines 1 = .ok (.getfield 33, 3) := by decide +kernel
theorem dX0_keepLines_4 : decode cX0_keepLines 4 = .ok (.iload_n 1, 1) := by decide +kernel
theorem dX0_keepLines_5 : decode cX0_keepLines 5 = .ok (.aload_n 2, 1) := by decide +kernel
theorem dX0_keepLines_6 : decode cX0_keepLines 6 = .ok (.getfield 46, 3) := by decide +kernel
theorem dX0_keepLines_9 : decode cX0_keepLines 9 = .ok (.iastore, 1) := by decide +kernel
theorem dX0_keepLines_10 : decode cX0_keepLines 10 = .ok (.iconst 0, 1) := by decide +kernel
theorem dX0_keepLines_11 : decode cX0_keepLines 11 = .ok (.istore_n 3, 1) := by decide +kernel
theorem dX0_keepLines_12 : decode cX0_keepLines 12 = .ok (.iload_n 3, 1) := by decide +kernel
theorem dX0_keepLines_13 : decode cX0_keepLines 13 = .ok (.aload_n 2, 1) := by decide +kernel
theorem dX0_keepLines_14 : decode cX0_keepLines 14 = .ok (.getfield 46, 3) := by decide +kernel
theorem dX0_keepLines_17 : decode cX0_keepLines 17 = .ok (.if_icmp .ge 43, 3) := by decide +kernel
theorem dX0_keepLines_20 : decode cX0_keepLines 20 = .ok (.aload_n 0, 1) := by decide +kernel
theorem dX0_keepLines_21 : decode cX0_keepLines 21 = .ok (.getfield 36, 3) := by decide +kernel
theorem dX0_keepLines_24 : decode cX0_keepLines 24 = .ok (.iload_n 1, 1) := by decide +kernel
theorem dX0_keepLines_25 : decode cX0_keepLines 25 = .ok (.bipush 8, 2) := by decide +kernel
theorem dX0_keepLines_27 : decode cX0_keepLines 27 = .ok (.imul, 1) := by decide +kernel
theorem dX0_keepLines_28 : decode cX0_keepLines 28 = .ok (.iload_n 3, 1) := by decide +kernel
theorem dX0_keepLines_29 : decode cX0_keepLines 29 = .ok (.iadd, 1) := by decide +kernel
theorem dX0_keepLines_30 : decode cX0_keepLines 30 = .ok (.aload_n 2, 1) := by decide +kernel
theorem dX0_keepLines_31 : decode cX0_keepLines 31 = .ok (.getfield 50, 3) := by decide +kernel
theorem dX0_keepLines_34 : decode cX0_keepLines 34 = .ok (.iload_n 3, 1) := by decide +kernel
theorem dX0_keepLines_35 : decode cX0_keepLines 35 = .ok (.iaload, 1) := by decide +kernel
theorem dX0_keepLines_36 : decode cX0_keepLines 36 = .ok (.iastore, 1) := by decide +kernel
theorem dX0_keepLines_37 : decode cX0_keepLines 37 = .ok (.aload_n 0, 1) := by decide +kernel
theorem dX0_keepLines_38 : decode cX0_keepLines 38 = .ok (.getfield 39, 3) := by decide +kernel
theorem dX0_keepLines_41 : decode cX0_keepLines 41 = .ok (.iload_n 1, 1) := by decide +kernel
theorem dX0_keepLines_42 : decode cX0_keepLines 42 = .ok (.bipush 8, 2) := by decide +kernel
theorem dX0_keepLines_44 : decode cX0_keepLines 44 = .ok (.imul, 1) := by decide +kernel
theorem dX0_keepLines_45 : decode cX0_keepLines 45 = .ok (.iload_n 3, 1) := by decide +kernel
theorem dX0_keepLines_46 : decode cX0_keepLines 46 = .ok (.iadd, 1) := by decide +kernel
theorem dX0_keepLines_47 : decode cX0_keepLines 47 = .ok (.aload_n 2, 1) := by decide +kernel
theorem dX0_keepLines_48 : decode cX0_keepLines 48 = .ok (.getfield 51, 3) := by decide +kernel
theorem dX0_keepLines_51 : decode cX0_keepLines 51 = .ok (.iload_n 3, 1) := by decide +kernel
theorem dX0_keepLines_52 : decode cX0_keepLines 52 = .ok (.iaload, 1) := by decide +kernel
theorem dX0_keepLines_53 : decode cX0_keepLines 53 = .ok (.iastore, 1) := by decide +kernel
theorem dX0_keepLines_54 : decode cX0_keepLines 54 = .ok (.iinc 3 1, 3) := by decide +kernel
theorem dX0_keepLines_57 : decode cX0_keepLines 57 = .ok (.goto (-45), 3) := by decide +kernel
theorem dX0_keepLines_60 : decode cX0_keepLines 60 = .ok (.return_, 1) := by decide +kernel
theorem dX1_init_0 : decode cX1_init 0 = .ok (.aload_n 0, 1) := by decide +kernel
theorem dX1_init_1 : decode cX1_init 1 = .ok (.invokespecial 3, 3) := by decide +kernel
theorem dX1_init_4 : decode cX1_init 4 = .ok (.aload_n 0, 1) := by decide +kernel
theorem dX1_init_5 : decode cX1_init 5 = .ok (.bipush 8, 2) := by decide +kernel
theorem dX1_init_7 : decode cX1_init 7 = .ok (.newarray .int, 2) := by decide +kernel
theorem dX1_init_9 : decode cX1_init 9 = .ok (.putfield 9, 3) := by decide +kernel
theorem dX1_init_12 : decode cX1_init 12 = .ok (.aload_n 0, 1) := by decide +kernel
theorem dX1_init_13 : decode cX1_init 13 = .ok (.bipush 8, 2) := by decide +kernel
theorem dX1_init_15 : decode cX1_init 15 = .ok (.newarray .int, 2) := by decide +kernel
theorem dX1_init_17 : decode cX1_init 17 = .ok (.putfield 15, 3) := by decide +kernel
theorem dX1_init_20 : decode cX1_init 20 = .ok (.aload_n 0, 1) := by decide +kernel
theorem dX1_init_21 : decode cX1_init 21 = .ok (.sipush 369, 3) := by decide +kernel
theorem dX1_init_24 : decode cX1_init 24 = .ok (.newarray .int, 2) := by decide +kernel
theorem dX1_init_26 : decode cX1_init 26 = .ok (.putfield 18, 3) := by decide +kernel
theorem dX1_init_29 : decode cX1_init 29 = .ok (.aload_n 0, 1) := by decide +kernel
theorem dX1_init_30 : decode cX1_init 30 = .ok (.sipush 369, 3) := by decide +kernel
theorem dX1_init_33 : decode cX1_init 33 = .ok (.newarray .int, 2) := by decide +kernel
theorem dX1_init_35 : decode cX1_init 35 = .ok (.putfield 21, 3) := by decide +kernel
theorem dX1_init_38 : decode cX1_init 38 = .ok (.return_, 1) := by decide +kernel
set_option maxRecDepth 20000 in
theorem ggX1_fits_X1_fitFrom : GoodIn wsX1_fits wsX1_fitFrom := goodIn_r _ [7, 1, 8, 2, 9, 10, 11, 12, 6, 13, 21, 22, 23, 24, 25, 26, 27] (by decide +kernel) (by decide +kernel)
set_option maxRecDepth 20000 in
theorem gX1_fits_X1_fitFrom : GoodIn wsX1_fits (wsV RX1 30 RX1 yX1_fitFrom wsX1_fitFrom) := goodIn_app (goodIn_of _ (by decide +kernel)) ggX1_fits_X1_fitFrom
set_option maxRecDepth 20000 in
theorem ggX1_fits_X1_keepRow : GoodIn wsX1_fits wsX1_keepRow := goodIn_r _ [17, 18, 1, 9, 8, 19, 20, 23, 24, 25, 26, 27, 21, 22] (by decide +kernel) (by decide +kernel)
set_option maxRecDepth 20000 in
theorem gX1_fits_X1_keepRow : GoodIn wsX1_fits (wsV RX1 34 RX1 yX1_keepRow wsX1_keepRow) := goodIn_app (goodIn_of _ (by decide +kernel)) ggX1_fits_X1_keepRow
theorem dX1_fits_0 : decode cX1_fits 0 = .ok (.iconst 1, 1) := by decide +kernel
theorem dX1_fits_1 : decode cX1_fits 1 = .ok (.istore 4, 2) := by decide +kernel
theorem dX1_fits_3 : decode cX1_fits 3 = .ok (.iload 4, 2) := by decide +kernel
theorem dX1_fits_5 : decode cX1_fits 5 = .ok (.iload_n 3, 1) := by decide +kernel
theorem dX1_fits_6 : decode cX1_fits 6 = .ok (.if_icmp .gt 38, 3) := by decide +kernel
theorem dX1_fits_9 : decode cX1_fits 9 = .ok (.aload_n 1, 1) := by decide +kernel
theorem dX1_fits_10 : decode cX1_fits 10 = .ok (.getfield 24, 3) := by decide +kernel
theorem dX1_fits_13 : decode cX1_fits 13 = .ok (.iconst 1, 1) := by decide +kernel
theorem dX1_fits_14 : decode cX1_fits 14 = .ok (.isub, 1) := by decide +kernel
theorem dX1_fits_15 : decode cX1_fits 15 = .ok (.istore 5, 2) := by decide +kernel
theorem dX1_fits_17 : decode cX1_fits 17 = .ok (.iload 5, 2) := by decide +kernel
theorem dX1_fits_19 : decode cX1_fits 19 = .ok (.ifCond .lt 19, 3) := by decide +kernel
theorem dX1_fits_22 : decode cX1_fits 22 = .ok (.aload_n 0, 1) := by decide +kernel
theorem dX1_fits_23 : decode cX1_fits 23 = .ok (.aload_n 1, 1) := by decide +kernel
theorem dX1_fits_24 : decode cX1_fits 24 = .ok (.iload_n 2, 1) := by decide +kernel
theorem dX1_fits_25 : decode cX1_fits 25 = .ok (.iload 4, 2) := by decide +kernel
theorem dX1_fits_27 : decode cX1_fits 27 = .ok (.iload 5, 2) := by decide +kernel
theorem dX1_fits_29 : decode cX1_fits 29 = .ok (.invokevirtual 30, 3) := by decide +kernel
theorem dX1_fits_32 : decode cX1_fits 32 = .ok (.iinc 5 (-1), 3) := by decide +kernel
theorem dX1_fits_35 : decode cX1_fits 35 = .ok (.goto (-18), 3) := by decide +kernel
theorem dX1_fits_38 : decode cX1_fits 38 = .ok (.iinc 4 1, 3) := by decide +kernel
theorem dX1_fits_41 : decode cX1_fits 41 = .ok (.goto (-38), 3) := by decide +kernel
theorem dX1_fits_44 : decode cX1_fits 44 = .ok (.aload_n 0, 1) := by decide +kernel
theorem dX1_fits_45 : decode cX1_fits 45 = .ok (.getfield 18, 3) := by decide +kernel
theorem dX1_fits_48 : decode cX1_fits 48 = .ok (.iload_n 3, 1) := by decide +kernel
theorem dX1_fits_49 : decode cX1_fits 49 = .ok (.bipush 41, 2) := by decide +kernel
theorem dX1_fits_51 : decode cX1_fits 51 = .ok (.imul, 1) := by decide +kernel
theorem dX1_fits_52 : decode cX1_fits 52 = .ok (.iaload, 1) := by decide +kernel
theorem dX1_fits_53 : decode cX1_fits 53 = .ok (.iconst (-1), 1) := by decide +kernel
theorem dX1_fits_54 : decode cX1_fits 54 = .ok (.if_icmp .ne 5, 3) := by decide +kernel
theorem dX1_fits_57 : decode cX1_fits 57 = .ok (.iconst 0, 1) := by decide +kernel
theorem dX1_fits_58 : decode cX1_fits 58 = .ok (.ireturn, 1) := by decide +kernel
theorem dX1_fits_59 : decode cX1_fits 59 = .ok (.aload_n 0, 1) := by decide +kernel
theorem dX1_fits_60 : decode cX1_fits 60 = .ok (.aload_n 1, 1) := by decide +kernel
theorem dX1_fits_61 : decode cX1_fits 61 = .ok (.iload_n 3, 1) := by decide +kernel
theorem dX1_fits_62 : decode cX1_fits 62 = .ok (.invokevirtual 34, 3) := by decide +kernel
theorem dX1_fits_65 : decode cX1_fits 65 = .ok (.iconst 1, 1) := by decide +kernel
theorem dX1_fits_66 : decode cX1_fits 66 = .ok (.ireturn, 1) := by decide +kernel
set_option maxRecDepth 20000 in
theorem ggX1_fitFrom_X1_sumBehind : GoodIn wsX1_fitFrom wsX1_sumBehind := goodIn_r _ [9, 3, 12, 13, 14, 15, 16] (by decide +kernel) (by decide +kernel)
set_option maxRecDepth 20000 in
theorem gX1_fitFrom_X1_sumBehind : GoodIn wsX1_fitFrom (wsV RX1 41 RX1 yX1_sumBehind wsX1_sumBehind) := goodIn_app (goodIn_of _ (by decide +kernel)) ggX1_fitFrom_X1_sumBehind
theorem dX1_fitFrom_0 : decode cX1_fitFrom 0 = .ok (.iconst (-1), 1) := by decide +kernel
theorem dX1_fitFrom_1 : decode cX1_fitFrom 1 = .ok (.istore 5, 2) := by decide +kernel
theorem dX1_fitFrom_3 : decode cX1_fitFrom 3 = .ok (.iconst 0, 1) := by decide +kernel
theorem dX1_fitFrom_4 : decode cX1_fitFrom 4 = .ok (.istore 6, 2) := by decide +kernel
theorem dX1_fitFrom_6 : decode cX1_fitFrom 6 = .ok (.bipush (-2), 2) := by decide +kernel
theorem dX1_fitFrom_8 : decode cX1_fitFrom 8 = .ok (.istore 7, 2) := by decide +kernel
theorem dX1_fitFrom_10 : decode cX1_fitFrom 10 = .ok (.iload 4, 2) := by decide +kernel
theorem dX1_fitFrom_12 : decode cX1_fitFrom 12 = .ok (.iconst 1, 1) := by decide +kernel
theorem dX1_fitFrom_13 : decode cX1_fitFrom 13 = .ok (.iadd, 1) := by decide +kernel
theorem dX1_fitFrom_14 : decode cX1_fitFrom 14 = .ok (.istore 8, 2) := by decide +kernel
theorem dX1_fitFrom_16 : decode cX1_fitFrom 16 = .ok (.iload 8, 2) := by decide +kernel
theorem dX1_fitFrom_18 : decode cX1_fitFrom 18 = .ok (.aload_n 1, 1) := by decide +kernel
theorem dX1_fitFrom_19 : decode cX1_fitFrom 19 = .ok (.getfield 24, 3) := by decide +kernel
theorem dX1_fitFrom_22 : decode cX1_fitFrom 22 = .ok (.if_icmp .gt 106, 3) := by decide +kernel
theorem dX1_fitFrom_25 : decode cX1_fitFrom 25 = .ok (.iload 7, 2) := by decide +kernel
theorem dX1_fitFrom_27 : decode cX1_fitFrom 27 = .ok (.iconst 2, 1) := by decide +kernel
theorem dX1_fitFrom_28 : decode cX1_fitFrom 28 = .ok (.aload_n 1, 1) := by decide +kernel
theorem dX1_fitFrom_29 : decode cX1_fitFrom 29 = .ok (.getfield 38, 3) := by decide +kernel
theorem dX1_fitFrom_32 : decode cX1_fitFrom 32 = .ok (.iload 8, 2) := by decide +kernel
theorem dX1_fitFrom_34 : decode cX1_fitFrom 34 = .ok (.iconst 1, 1) := by decide +kernel
theorem dX1_fitFrom_35 : decode cX1_fitFrom 35 = .ok (.isub, 1) := by decide +kernel
theorem dX1_fitFrom_36 : decode cX1_fitFrom 36 = .ok (.iaload, 1) := by decide +kernel
theorem dX1_fitFrom_37 : decode cX1_fitFrom 37 = .ok (.iadd, 1) := by decide +kernel
theorem dX1_fitFrom_38 : decode cX1_fitFrom 38 = .ok (.iadd, 1) := by decide +kernel
theorem dX1_fitFrom_39 : decode cX1_fitFrom 39 = .ok (.istore 7, 2) := by decide +kernel
theorem dX1_fitFrom_41 : decode cX1_fitFrom 41 = .ok (.iload 7, 2) := by decide +kernel
theorem dX1_fitFrom_43 : decode cX1_fitFrom 43 = .ok (.iload_n 2, 1) := by decide +kernel
theorem dX1_fitFrom_44 : decode cX1_fitFrom 44 = .ok (.if_icmp .le 6, 3) := by decide +kernel
theorem dX1_fitFrom_47 : decode cX1_fitFrom 47 = .ok (.goto 81, 3) := by decide +kernel
theorem dX1_fitFrom_50 : decode cX1_fitFrom 50 = .ok (.aload_n 0, 1) := by decide +kernel
theorem dX1_fitFrom_51 : decode cX1_fitFrom 51 = .ok (.aload_n 1, 1) := by decide +kernel
theorem dX1_fitFrom_52 : decode cX1_fitFrom 52 = .ok (.getfield 24, 3) := by decide +kernel
theorem dX1_fitFrom_55 : decode cX1_fitFrom 55 = .ok (.iload_n 3, 1) := by decide +kernel
theorem dX1_fitFrom_56 : decode cX1_fitFrom 56 = .ok (.iload 8, 2) := by decide +kernel
theorem dX1_fitFrom_58 : decode cX1_fitFrom 58 = .ok (.invokevirtual 41, 3) := by decide +kernel
theorem dX1_fitFrom_61 : decode cX1_fitFrom 61 = .ok (.istore 9, 2) := by decide +kernel
theorem dX1_fitFrom_63 : decode cX1_fitFrom 63 = .ok (.iload 9, 2) := by decide +kernel
theorem dX1_fitFrom_65 : decode cX1_fitFrom 65 = .ok (.iconst (-1), 1) := by decide +kernel
theorem dX1_fitFrom_66 : decode cX1_fitFrom 66 = .ok (.if_icmp .eq 26, 3) := by decide +kernel
theorem dX1_fitFrom_69 : decode cX1_fitFrom 69 = .ok (.iload 8, 2) := by decide +kernel
theorem dX1_fitFrom_71 : decode cX1_fitFrom 71 = .ok (.aload_n 1, 1) := by decide +kernel
theorem dX1_fitFrom_72 : decode cX1_fitFrom 72 = .ok (.getfield 24, 3) := by decide +kernel
theorem dX1_fitFrom_75 : decode cX1_fitFrom 75 = .ok (.if_icmp .ge 17, 3) := by decide +kernel
theorem dX1_fitFrom_78 : decode cX1_fitFrom 78 = .ok (.iload 9, 2) := by decide +kernel
theorem dX1_fitFrom_80 : decode cX1_fitFrom 80 = .ok (.iload_n 2, 1) := by decide +kernel
theorem dX1_fitFrom_81 : decode cX1_fitFrom 81 = .ok (.iload 7, 2) := by decide +kernel
theorem dX1_fitFrom_83 : decode cX1_fitFrom 83 = .ok (.isub, 1) := by decide +kernel
theorem dX1_fitFrom_84 : decode cX1_fitFrom 84 = .ok (.iload_n 2, 1) := by decide +kernel
theorem dX1_fitFrom_85 : decode cX1_fitFrom 85 = .ok (.iload 7, 2) := by decide +kernel
theorem dX1_fitFrom_87 : decode cX1_fitFrom 87 = .ok (.isub, 1) := by decide +kernel
theorem dX1_fitFrom_88 : decode cX1_fitFrom 88 = .ok (.imul, 1) := by decide +kernel
theorem dX1_fitFrom_89 : decode cX1_fitFrom 89 = .ok (.iadd, 1) := by decide +kernel
theorem dX1_fitFrom_90 : decode cX1_fitFrom 90 = .ok (.istore 9, 2) := by decide +kernel
theorem dX1_fitFrom_92 : decode cX1_fitFrom 92 = .ok (.iload 9, 2) := by decide +kernel
theorem dX1_fitFrom_94 : decode cX1_fitFrom 94 = .ok (.iconst (-1), 1) := by decide +kernel
theorem dX1_fitFrom_95 : decode cX1_fitFrom 95 = .ok (.if_icmp .eq 27, 3) := by decide +kernel
theorem dX1_fitFrom_98 : decode cX1_fitFrom 98 = .ok (.iload 5, 2) := by decide +kernel
theorem dX1_fitFrom_100 : decode cX1_fitFrom 100 = .ok (.iconst (-1), 1) := by decide +kernel
theorem dX1_fitFrom_101 : decode cX1_fitFrom 101 = .ok (.if_icmp .eq 10, 3) := by decide +kernel
theorem dX1_fitFrom_104 : decode cX1_fitFrom 104 = .ok (.iload 9, 2) := by decide +kernel
theorem dX1_fitFrom_106 : decode cX1_fitFrom 106 = .ok (.iload 5, 2) := by decide +kernel
theorem dX1_fitFrom_108 : decode cX1_fitFrom 108 = .ok (.if_icmp .ge 14, 3) := by decide +kernel
theorem dX1_fitFrom_111 : decode cX1_fitFrom 111 = .ok (.iload 9, 2) := by decide +kernel
theorem dX1_fitFrom_113 : decode cX1_fitFrom 113 = .ok (.istore 5, 2) := by decide +kernel
theorem dX1_fitFrom_115 : decode cX1_fitFrom 115 = .ok (.iload 8, 2) := by decide +kernel
theorem dX1_fitFrom_117 : decode cX1_fitFrom 117 = .ok (.iload 4, 2) := by decide +kernel
theorem dX1_fitFrom_119 : decode cX1_fitFrom 119 = .ok (.isub, 1) := by decide +kernel
theorem dX1_fitFrom_120 : decode cX1_fitFrom 120 = .ok (.istore 6, 2) := by decide +kernel
theorem dX1_fitFrom_122 : decode cX1_fitFrom 122 = .ok (.iinc 8 1, 3) := by decide +kernel
theorem dX1_fitFrom_125 : decode cX1_fitFrom 125 = .ok (.goto (-109), 3) := by decide +kernel
theorem dX1_fitFrom_128 : decode cX1_fitFrom 128 = .ok (.aload_n 0, 1) := by decide +kernel
theorem dX1_fitFrom_129 : decode cX1_fitFrom 129 = .ok (.getfield 18, 3) := by decide +kernel
theorem dX1_fitFrom_132 : decode cX1_fitFrom 132 = .ok (.iload_n 3, 1) := by decide +kernel
theorem dX1_fitFrom_133 : decode cX1_fitFrom 133 = .ok (.bipush 41, 2) := by decide +kernel
theorem dX1_fitFrom_135 : decode cX1_fitFrom 135 = .ok (.imul, 1) := by decide +kernel
theorem dX1_fitFrom_136 : decode cX1_fitFrom 136 = .ok (.iload 4, 2) := by decide +kernel
theorem dX1_fitFrom_138 : decode cX1_fitFrom 138 = .ok (.iadd, 1) := by decide +kernel
theorem dX1_fitFrom_139 : decode cX1_fitFrom 139 = .ok (.iload 5, 2) := by decide +kernel
theorem dX1_fitFrom_141 : decode cX1_fitFrom 141 = .ok (.iastore, 1) := by decide +kernel
theorem dX1_fitFrom_142 : decode cX1_fitFrom 142 = .ok (.aload_n 0, 1) := by decide +kernel
theorem dX1_fitFrom_143 : decode cX1_fitFrom 143 = .ok (.getfield 21, 3) := by decide +kernel
theorem dX1_fitFrom_146 : decode cX1_fitFrom 146 = .ok (.iload_n 3, 1) := by decide +kernel
theorem dX1_fitFrom_147 : decode cX1_fitFrom 147 = .ok (.bipush 41, 2) := by decide +kernel
theorem dX1_fitFrom_149 : decode cX1_fitFrom 149 = .ok (.imul, 1) := by decide +kernel
theorem dX1_fitFrom_150 : decode cX1_fitFrom 150 = .ok (.iload 4, 2) := by decide +kernel
theorem dX1_fitFrom_152 : decode cX1_fitFrom 152 = .ok (.iadd, 1) := by decide +kernel
theorem dX1_fitFrom_153 : decode cX1_fitFrom 153 = .ok (.iload 6, 2) := by decide +kernel
theorem dX1_fitFrom_155 : decode cX1_fitFrom 155 = .ok (.iastore, 1) := by decide +kernel
theorem dX1_fitFrom_156 : decode cX1_fitFrom 156 = .ok (.return_, 1) := by decide +kernel
theorem dX1_sumBehind_0 : decode cX1_sumBehind 0 = .ok (.iload_n 3, 1) := by decide +kernel
theorem dX1_sumBehind_1 : decode cX1_sumBehind 1 = .ok (.iload_n 1, 1) := by decide +kernel
theorem dX1_sumBehind_2 : decode cX1_sumBehind 2 = .ok (.if_icmp .ne 5, 3) := by decide +kernel
theorem dX1_sumBehind_5 : decode cX1_sumBehind 5 = .ok (.iconst 0, 1) := by decide +kernel
theorem dX1_sumBehind_6 : decode cX1_sumBehind 6 = .ok (.ireturn, 1) := by decide +kernel
theorem dX1_sumBehind_7 : decode cX1_sumBehind 7 = .ok (.iload_n 2, 1) := by decide +kernel
theorem dX1_sumBehind_8 : decode cX1_sumBehind 8 = .ok (.iconst 1, 1) := by decide +kernel
theorem dX1_sumBehind_9 : decode cX1_sumBehind 9 = .ok (.if_icmp .le 19, 3) := by decide +kernel
theorem dX1_sumBehind_12 : decode cX1_sumBehind 12 = .ok (.aload_n 0, 1) := by decide +kernel
theorem dX1_sumBehind_13 : decode cX1_sumBehind 13 = .ok (.getfield 18, 3) := by decide +kernel
theorem dX1_sumBehind_16 : decode cX1_sumBehind 16 = .ok (.iload_n 2, 1) := by decide +kernel
theorem dX1_sumBehind_17 : decode cX1_sumBehind 17 = .ok (.iconst 1, 1) := by decide +kernel
theorem dX1_sumBehind_18 : decode cX1_sumBehind 18 = .ok (.isub, 1) := by decide +kernel
theorem dX1_sumBehind_19 : decode cX1_sumBehind 19 = .ok (.bipush 41, 2) := by decide +kernel
theorem dX1_sumBehind_21 : decode cX1_sumBehind 21 = .ok (.imul, 1) := by decide +kernel
theorem dX1_sumBehind_22 : decode cX1_sumBehind 22 = .ok (.iload_n 3, 1) := by decide +kernel
theorem dX1_sumBehind_23 : decode cX1_sumBehind 23 = .ok (.iadd, 1) := by decide +kernel
theorem dX1_sumBehind_24 : decode cX1_sumBehind 24 = .ok (.iaload, 1) := by decide +kernel
theorem dX1_sumBehind_25 : decode cX1_sumBehind 25 = .ok (.goto 4, 3) := by decide +kernel
theorem dX1_sumBehind_28 : decode cX1_sumBehind 28 = .ok (.iconst (-1), 1) := by decide +kernel
theorem dX1_sumBehind_29 : decode cX1_sumBehind 29 = .ok (.ireturn, 1) := by decide +kernel
theorem dX1_keepRow_0 : decode cX1_keepRow 0 = .ok (.aload_n 0, 1) := by decide +kernel
theorem dX1_keepRow_1 : decode cX1_keepRow 1 = .ok (.iconst 0, 1) := by decide +kernel
theorem dX1_keepRow_2 : decode cX1_keepRow 2 = .ok (.putfield 45, 3) := by decide +kernel
theorem dX1_keepRow_5 : decode cX1_keepRow 5 = .ok (.iconst 0, 1) := by decide +kernel
theorem dX1_keepRow_6 : decode cX1_keepRow 6 = .ok (.istore_n 3, 1) := by decide +kernel
theorem dX1_keepRow_7 : decode cX1_keepRow 7 = .ok (.iload_n 2, 1) := by decide +kernel
theorem dX1_keepRow_8 : decode cX1_keepRow 8 = .ok (.istore 4, 2) := by decide +kernel
theorem dX1_keepRow_10 : decode cX1_keepRow 10 = .ok (.iload 4, 2) := by decide +kernel
theorem dX1_keepRow_12 : decode cX1_keepRow 12 = .ok (.iconst 1, 1) := by decide +kernel
theorem dX1_keepRow_13 : decode cX1_keepRow 13 = .ok (.if_icmp .lt 104, 3) := by decide +kernel
theorem dX1_keepRow_16 : decode cX1_keepRow 16 = .ok (.iload_n 3, 1) := by decide +kernel
theorem dX1_keepRow_17 : decode cX1_keepRow 17 = .ok (.aload_n 1, 1) := by decide +kernel
theorem dX1_keepRow_18 : decode cX1_keepRow 18 = .ok (.getfield 24, 3) := by decide +kernel
theorem dX1_keepRow_21 : decode cX1_keepRow 21 = .ok (.if_icmp .ge 96, 3) := by decide +kernel
theorem dX1_keepRow_24 : decode cX1_keepRow 24 = .ok (.iload_n 3, 1) := by decide +kernel
theorem dX1_keepRow_25 : decode cX1_keepRow 25 = .ok (.aload_n 0, 1) := by decide +kernel
theorem dX1_keepRow_26 : decode cX1_keepRow 26 = .ok (.getfield 21, 3) := by decide +kernel
theorem dX1_keepRow_29 : decode cX1_keepRow 29 = .ok (.iload 4, 2) := by decide +kernel
theorem dX1_keepRow_31 : decode cX1_keepRow 31 = .ok (.bipush 41, 2) := by decide +kernel
theorem dX1_keepRow_33 : decode cX1_keepRow 33 = .ok (.imul, 1) := by decide +kernel
theorem dX1_keepRow_34 : decode cX1_keepRow 34 = .ok (.iload_n 3, 1) := by decide +kernel
theorem dX1_keepRow_35 : decode cX1_keepRow 35 = .ok (.iadd, 1) := by decide +kernel
theorem dX1_keepRow_36 : decode cX1_keepRow 36 = .ok (.iaload, 1) := by decide +kernel
theorem dX1_keepRow_37 : decode cX1_keepRow 37 = .ok (.iadd, 1) := by decide +kernel
theorem dX1_keepRow_38 : decode cX1_keepRow 38 = .ok (.istore 5, 2) := by decide +kernel
theorem dX1_keepRow_40 : decode cX1_keepRow 40 = .ok (.bipush (-2), 2) := by decide +kernel
theorem dX1_keepRow_42 : decode cX1_keepRow 42 = .ok (.istore 6, 2) := by decide +kernel
theorem dX1_keepRow_44 : decode cX1_keepRow 44 = .ok (.iload_n 3, 1) := by decide +kernel
theorem dX1_keepRow_45 : decode cX1_keepRow 45 = .ok (.istore 7, 2) := by decide +kernel
theorem dX1_keepRow_47 : decode cX1_keepRow 47 = .ok (.iload 7, 2) := by decide +kernel
theorem dX1_keepRow_49 : decode cX1_keepRow 49 = .ok (.iload 5, 2) := by decide +kernel
theorem dX1_keepRow_51 : decode cX1_keepRow 51 = .ok (.if_icmp .ge 23, 3) := by decide +kernel
theorem dX1_keepRow_54 : decode cX1_keepRow 54 = .ok (.iload 6, 2) := by decide +kernel
theorem dX1_keepRow_56 : decode cX1_keepRow 56 = .ok (.iconst 2, 1) := by decide +kernel
theorem dX1_keepRow_57 : decode cX1_keepRow 57 = .ok (.aload_n 1, 1) := by decide +kernel
theorem dX1_keepRow_58 : decode cX1_keepRow 58 = .ok (.getfield 38, 3) := by decide +kernel
theorem dX1_keepRow_61 : decode cX1_keepRow 61 = .ok (.iload 7, 2) := by decide +kernel
theorem dX1_keepRow_63 : decode cX1_keepRow 63 = .ok (.iaload, 1) := by decide +kernel
theorem dX1_keepRow_64 : decode cX1_keepRow 64 = .ok (.iadd, 1) := by decide +kernel
theorem dX1_keepRow_65 : decode cX1_keepRow 65 = .ok (.iadd, 1) := by decide +kernel
theorem dX1_keepRow_66 : decode cX1_keepRow 66 = .ok (.istore 6, 2) := by decide +kernel
theorem dX1_keepRow_68 : decode cX1_keepRow 68 = .ok (.iinc 7 1, 3) := by decide +kernel
theorem dX1_keepRow_71 : decode cX1_keepRow 71 = .ok (.goto (-24), 3) := by decide +kernel
theorem dX1_keepRow_74 : decode cX1_keepRow 74 = .ok (.aload_n 0, 1) := by decide +kernel
theorem dX1_keepRow_75 : decode cX1_keepRow 75 = .ok (.getfield 9, 3) := by decide +kernel
theorem dX1_keepRow_78 : decode cX1_keepRow 78 = .ok (.aload_n 0, 1) := by decide +kernel
theorem dX1_keepRow_79 : decode cX1_keepRow 79 = .ok (.getfield 45, 3) := by decide +kernel
theorem dX1_keepRow_82 : decode cX1_keepRow 82 = .ok (.iload 5, 2) := by decide +kernel
theorem dX1_keepRow_84 : decode cX1_keepRow 84 = .ok (.iload_n 3, 1) := by decide +kernel
theorem dX1_keepRow_85 : decode cX1_keepRow 85 = .ok (.isub, 1) := by decide +kernel
theorem dX1_keepRow_86 : decode cX1_keepRow 86 = .ok (.iastore, 1) := by decide +kernel
theorem dX1_keepRow_87 : decode cX1_keepRow 87 = .ok (.aload_n 0, 1) := by decide +kernel
theorem dX1_keepRow_88 : decode cX1_keepRow 88 = .ok (.getfield 15, 3) := by decide +kernel
theorem dX1_keepRow_91 : decode cX1_keepRow 91 = .ok (.aload_n 0, 1) := by decide +kernel
theorem dX1_keepRow_92 : decode cX1_keepRow 92 = .ok (.getfield 45, 3) := by decide +kernel
theorem dX1_keepRow_95 : decode cX1_keepRow 95 = .ok (.iload 6, 2) := by decide +kernel
theorem dX1_keepRow_97 : decode cX1_keepRow 97 = .ok (.iastore, 1) := by decide +kernel
theorem dX1_keepRow_98 : decode cX1_keepRow 98 = .ok (.aload_n 0, 1) := by decide +kernel
theorem dX1_keepRow_99 : decode cX1_keepRow 99 = .ok (.dup, 1) := by decide +kernel
theorem dX1_keepRow_100 : decode cX1_keepRow 100 = .ok (.getfield 45, 3) := by decide +kernel
theorem dX1_keepRow_103 : decode cX1_keepRow 103 = .ok (.iconst 1, 1) := by decide +kernel
theorem dX1_keepRow_104 : decode cX1_keepRow 104 = .ok (.iadd, 1) := by decide +kernel
theorem dX1_keepRow_105 : decode cX1_keepRow 105 = .ok (.putfield 45, 3) := by decide +kernel
theorem dX1_keepRow_108 : decode cX1_keepRow 108 = .ok (.iload 5, 2) := by decide +kernel
theorem dX1_keepRow_110 : decode cX1_keepRow 110 = .ok (.istore_n 3, 1) := by decide +kernel
theorem dX1_keepRow_111 : decode cX1_keepRow 111 = .ok (.iinc 4 (-1), 3) := by decide +kernel
theorem dX1_keepRow_114 : decode cX1_keepRow 114 = .ok (.goto (-104), 3) := by decide +kernel
theorem dX1_keepRow_117 : decode cX1_keepRow 117 = .ok (.return_, 1) := by decide +kernel
theorem dX2_init_0 : decode cX2_init 0 = .ok (.aload_n 0, 1) := by decide +kernel
theorem dX2_init_1 : decode cX2_init 1 = .ok (.invokespecial 3, 3) := by decide +kernel
theorem dX2_init_4 : decode cX2_init 4 = .ok (.aload_n 0, 1) := by decide +kernel
theorem dX2_init_5 : decode cX2_init 5 = .ok (.bipush 100, 2) := by decide +kernel
theorem dX2_init_7 : decode cX2_init 7 = .ok (.newarray .int, 2) := by decide +kernel
theorem dX2_init_9 : decode cX2_init 9 = .ok (.putfield 9, 3) := by decide +kernel
theorem dX2_init_12 : decode cX2_init 12 = .ok (.aload_n 0, 1) := by decide +kernel
theorem dX2_init_13 : decode cX2_init 13 = .ok (.bipush 100, 2) := by decide +kernel
theorem dX2_init_15 : decode cX2_init 15 = .ok (.newarray .int, 2) := by decide +kernel
theorem dX2_init_17 : decode cX2_init 17 = .ok (.putfield 15, 3) := by decide +kernel
theorem dX2_init_20 : decode cX2_init 20 = .ok (.aload_n 0, 1) := by decide +kernel
theorem dX2_init_21 : decode cX2_init 21 = .ok (.bipush 100, 2) := by decide +kernel
theorem dX2_init_23 : decode cX2_init 23 = .ok (.newarray .int, 2) := by decide +kernel
theorem dX2_init_25 : decode cX2_init 25 = .ok (.putfield 18, 3) := by decide +kernel
theorem dX2_init_28 : decode cX2_init 28 = .ok (.aload_n 0, 1) := by decide +kernel
theorem dX2_init_29 : decode cX2_init 29 = .ok (.bipush 100, 2) := by decide +kernel
theorem dX2_init_31 : decode cX2_init 31 = .ok (.newarray .int, 2) := by decide +kernel
theorem dX2_init_33 : decode cX2_init 33 = .ok (.putfield 21, 3) := by decide +kernel
theorem dX2_init_36 : decode cX2_init 36 = .ok (.aload_n 0, 1) := by decide +kernel
theorem dX2_init_37 : decode cX2_init 37 = .ok (.bipush 100, 2) := by decide +kernel
theorem dX2_init_39 : decode cX2_init 39 = .ok (.newarray .int, 2) := by decide +kernel
theorem dX2_init_41 : decode cX2_init 41 = .ok (.putfield 24, 3) := by decide +kernel
theorem dX2_init_44 : decode cX2_init 44 = .ok (.aload_n 0, 1) := by decide +kernel
theorem dX2_init_45 : decode cX2_init 45 = .ok (.bipush 100, 2) := by decide +kernel
theorem dX2_init_47 : decode cX2_init 47 = .ok (.newarray .int, 2) := by decide +kernel
theorem dX2_init_49 : decode cX2_init 49 = .ok (.putfield 27, 3) := by decide +kernel
theorem dX2_init_52 : decode cX2_init 52 = .ok (.aload_n 0, 1) := by decide +kernel
theorem dX2_init_53 : decode cX2_init 53 = .ok (.bipush 100, 2) := by decide +kernel
theorem dX2_init_55 : decode cX2_init 55 = .ok (.newarray .boolean, 2) := by decide +kernel
theorem dX2_init_57 : decode cX2_init 57 = .ok (.putfield 30, 3) := by decide +kernel
theorem dX2_init_60 : decode cX2_init 60 = .ok (.return_, 1) := by decide +kernel
theorem dX2_add_0 : decode cX2_add 0 = .ok (.aload_n 0, 1) := by decide +kernel
theorem dX2_add_1 : decode cX2_add 1 = .ok (.getfield 34, 3) := by decide +kernel
theorem dX2_add_4 : decode cX2_add 4 = .ok (.istore 7, 2) := by decide +kernel
theorem dX2_add_6 : decode cX2_add 6 = .ok (.aload_n 0, 1) := by decide +kernel
theorem dX2_add_7 : decode cX2_add 7 = .ok (.getfield 9, 3) := by decide +kernel
theorem dX2_add_10 : decode cX2_add 10 = .ok (.iload 7, 2) := by decide +kernel
theorem dX2_add_12 : decode cX2_add 12 = .ok (.iload_n 1, 1) := by decide +kernel
theorem dX2_add_13 : decode cX2_add 13 = .ok (.iastore, 1) := by decide +kernel
theorem dX2_add_14 : decode cX2_add 14 = .ok (.aload_n 0, 1) := by decide +kernel
theorem dX2_add_15 : decode cX2_add 15 = .ok (.getfield 15, 3) := by decide +kernel
theorem dX2_add_18 : decode cX2_add 18 = .ok (.iload 7, 2) := by decide +kernel
theorem dX2_add_20 : decode cX2_add 20 = .ok (.iload_n 2, 1) := by decide +kernel
theorem dX2_add_21 : decode cX2_add 21 = .ok (.iastore, 1) := by decide +kernel
theorem dX2_add_22 : decode cX2_add 22 = .ok (.aload_n 0, 1) := by decide +kernel
theorem dX2_add_23 : decode cX2_add 23 = .ok (.getfield 18, 3) := by decide +kernel
theorem dX2_add_26 : decode cX2_add 26 = .ok (.iload 7, 2) := by decide +kernel
theorem dX2_add_28 : decode cX2_add 28 = .ok (.iload_n 3, 1) := by decide +kernel
theorem dX2_add_29 : decode cX2_add 29 = .ok (.iastore, 1) := by decide +kernel
theorem dX2_add_30 : decode cX2_add 30 = .ok (.aload_n 0, 1) := by decide +kernel
theorem dX2_add_31 : decode cX2_add 31 = .ok (.getfield 21, 3) := by decide +kernel
theorem dX2_add_34 : decode cX2_add 34 = .ok (.iload 7, 2) := by decide +kernel
theorem dX2_add_36 : decode cX2_add 36 = .ok (.iload 4, 2) := by decide +kernel
theorem dX2_add_38 : decode cX2_add 38 = .ok (.iastore, 1) := by decide +kernel
theorem dX2_add_39 : decode cX2_add 39 = .ok (.aload_n 0, 1) := by decide +kernel
theorem dX2_add_40 : decode cX2_add 40 = .ok (.getfield 24, 3) := by decide +kernel
theorem dX2_add_43 : decode cX2_add 43 = .ok (.iload 7, 2) := by decide +kernel
theorem dX2_add_45 : decode cX2_add 45 = .ok (.iload 5, 2) := by decide +kernel
theorem dX2_add_47 : decode cX2_add 47 = .ok (.iastore, 1) := by decide +kernel
theorem dX2_add_48 : decode cX2_add 48 = .ok (.aload_n 0, 1) := by decide +kernel
theorem dX2_add_49 : decode cX2_add 49 = .ok (.getfield 27, 3) := by decide +kernel
theorem dX2_add_52 : decode cX2_add 52 = .ok (.iload 7, 2) := by decide +kernel
theorem dX2_add_54 : decode cX2_add 54 = .ok (.iload 6, 2) := by decide +kernel
theorem dX2_add_56 : decode cX2_add 56 = .ok (.iastore, 1) := by decide +kernel
theorem dX2_add_57 : decode cX2_add 57 = .ok (.aload_n 0, 1) := by decide +kernel
theorem dX2_add_58 : decode cX2_add 58 = .ok (.dup, 1) := by decide +kernel
theorem dX2_add_59 : decode cX2_add 59 = .ok (.getfield 34, 3) := by decide +kernel
theorem dX2_add_62 : decode cX2_add 62 = .ok (.iconst 1, 1) := by decide +kernel
theorem dX2_add_63 : decode cX2_add 63 = .ok (.iadd, 1) := by decide +kernel
theorem dX2_add_64 : decode cX2_add 64 = .ok (.putfield 34, 3) := by decide +kernel
theorem dX2_add_67 : decode cX2_add 67 = .ok (.iload 7, 2) := by decide +kernel
theorem dX2_add_69 : decode cX2_add 69 = .ok (.ireturn, 1) := by decide +kernel
theorem dX3_init_0 : decode cX3_init 0 = .ok (.aload_n 0, 1) := by decide +kernel
theorem dX3_init_1 : decode cX3_init 1 = .ok (.invokespecial 3, 3) := by decide +kernel
theorem dX3_init_4 : decode cX3_init 4 = .ok (.aload_n 0, 1) := by decide +kernel
theorem dX3_init_5 : decode cX3_init 5 = .ok (.bipush 30, 2) := by decide +kernel
theorem dX3_init_7 : decode cX3_init 7 = .ok (.newarray .int, 2) := by decide +kernel
theorem dX3_init_9 : decode cX3_init 9 = .ok (.putfield 9, 3) := by decide +kernel
theorem dX3_init_12 : decode cX3_init 12 = .ok (.aload_n 0, 1) := by decide +kernel
theorem dX3_init_13 : decode cX3_init 13 = .ok (.bipush 30, 2) := by decide +kernel
theorem dX3_init_15 : decode cX3_init 15 = .ok (.newarray .int, 2) := by decide +kernel
theorem dX3_init_17 : decode cX3_init 17 = .ok (.putfield 15, 3) := by decide +kernel
theorem dX3_init_20 : decode cX3_init 20 = .ok (.aload_n 0, 1) := by decide +kernel
theorem dX3_init_21 : decode cX3_init 21 = .ok (.bipush 30, 2) := by decide +kernel
theorem dX3_init_23 : decode cX3_init 23 = .ok (.newarray .int, 2) := by decide +kernel
theorem dX3_init_25 : decode cX3_init 25 = .ok (.putfield 18, 3) := by decide +kernel
theorem dX3_init_28 : decode cX3_init 28 = .ok (.aload_n 0, 1) := by decide +kernel
theorem dX3_init_29 : decode cX3_init 29 = .ok (.bipush 30, 2) := by decide +kernel
theorem dX3_init_31 : decode cX3_init 31 = .ok (.newarray .int, 2) := by decide +kernel
theorem dX3_init_33 : decode cX3_init 33 = .ok (.putfield 21, 3) := by decide +kernel
theorem dX3_init_36 : decode cX3_init 36 = .ok (.return_, 1) := by decide +kernel
theorem dX3_add_0 : decode cX3_add 0 = .ok (.aload_n 0, 1) := by decide +kernel
theorem dX3_add_1 : decode cX3_add 1 = .ok (.getfield 24, 3) := by decide +kernel
theorem dX3_add_4 : decode cX3_add 4 = .ok (.istore 4, 2) := by decide +kernel
theorem dX3_add_6 : decode cX3_add 6 = .ok (.aload_n 0, 1) := by decide +kernel
theorem dX3_add_7 : decode cX3_add 7 = .ok (.getfield 9, 3) := by decide +kernel
theorem dX3_add_10 : decode cX3_add 10 = .ok (.iload 4, 2) := by decide +kernel
theorem dX3_add_12 : decode cX3_add 12 = .ok (.iload_n 1, 1) := by decide +kernel
theorem dX3_add_13 : decode cX3_add 13 = .ok (.iastore, 1) := by decide +kernel
theorem dX3_add_14 : decode cX3_add 14 = .ok (.aload_n 0, 1) := by decide +kernel
theorem dX3_add_15 : decode cX3_add 15 = .ok (.getfield 15, 3) := by decide +kernel
theorem dX3_add_18 : decode cX3_add 18 = .ok (.iload 4, 2) := by decide +kernel
theorem dX3_add_20 : decode cX3_add 20 = .ok (.iload_n 2, 1) := by decide +kernel
theorem dX3_add_21 : decode cX3_add 21 = .ok (.iastore, 1) := by decide +kernel
theorem dX3_add_22 : decode cX3_add 22 = .ok (.aload_n 0, 1) := by decide +kernel
theorem dX3_add_23 : decode cX3_add 23 = .ok (.getfield 18, 3) := by decide +kernel
theorem dX3_add_26 : decode cX3_add 26 = .ok (.iload 4, 2) := by decide +kernel
theorem dX3_add_28 : decode cX3_add 28 = .ok (.iload_n 3, 1) := by decide +kernel
theorem dX3_add_29 : decode cX3_add 29 = .ok (.iastore, 1) := by decide +kernel
theorem dX3_add_30 : decode cX3_add 30 = .ok (.aload_n 0, 1) := by decide +kernel
theorem dX3_add_31 : decode cX3_add 31 = .ok (.getfield 21, 3) := by decide +kernel
theorem dX3_add_34 : decode cX3_add 34 = .ok (.iload 4, 2) := by decide +kernel
theorem dX3_add_36 : decode cX3_add 36 = .ok (.iload 4, 2) := by decide +kernel
theorem dX3_add_38 : decode cX3_add 38 = .ok (.iastore, 1) := by decide +kernel
theorem dX3_add_39 : decode cX3_add 39 = .ok (.aload_n 0, 1) := by decide +kernel
theorem dX3_add_40 : decode cX3_add 40 = .ok (.dup, 1) := by decide +kernel
theorem dX3_add_41 : decode cX3_add 41 = .ok (.getfield 24, 3) := by decide +kernel
theorem dX3_add_44 : decode cX3_add 44 = .ok (.iconst 1, 1) := by decide +kernel
theorem dX3_add_45 : decode cX3_add 45 = .ok (.iadd, 1) := by decide +kernel
theorem dX3_add_46 : decode cX3_add 46 = .ok (.putfield 24, 3) := by decide +kernel
theorem dX3_add_49 : decode cX3_add 49 = .ok (.iload 4, 2) := by decide +kernel
theorem dX3_add_51 : decode cX3_add 51 = .ok (.ireturn, 1) := by decide +kernel
theorem dX3_areOne_0 : decode cX3_areOne 0 = .ok (.aload_n 0, 1) := by decide +kernel
theorem dX3_areOne_1 : decode cX3_areOne 1 = .ok (.getfield 21, 3) := by decide +kernel
theorem dX3_areOne_4 : decode cX3_areOne 4 = .ok (.iload_n 1, 1) := by decide +kernel
theorem dX3_areOne_5 : decode cX3_areOne 5 = .ok (.iaload, 1) := by decide +kernel
theorem dX3_areOne_6 : decode cX3_areOne 6 = .ok (.aload_n 0, 1) := by decide +kernel
theorem dX3_areOne_7 : decode cX3_areOne 7 = .ok (.getfield 21, 3) := by decide +kernel
theorem dX3_areOne_10 : decode cX3_areOne 10 = .ok (.iload_n 2, 1) := by decide +kernel
theorem dX3_areOne_11 : decode cX3_areOne 11 = .ok (.iaload, 1) := by decide +kernel
theorem dX3_areOne_12 : decode cX3_areOne 12 = .ok (.if_icmp .ne 7, 3) := by decide +kernel
theorem dX3_areOne_15 : decode cX3_areOne 15 = .ok (.iconst 1, 1) := by decide +kernel
theorem dX3_areOne_16 : decode cX3_areOne 16 = .ok (.goto 4, 3) := by decide +kernel
theorem dX3_areOne_19 : decode cX3_areOne 19 = .ok (.iconst 0, 1) := by decide +kernel
theorem dX3_areOne_20 : decode cX3_areOne 20 = .ok (.ireturn, 1) := by decide +kernel
theorem dX3_makeOne_0 : decode cX3_makeOne 0 = .ok (.aload_n 0, 1) := by decide +kernel
theorem dX3_makeOne_1 : decode cX3_makeOne 1 = .ok (.getfield 21, 3) := by decide +kernel
theorem dX3_makeOne_4 : decode cX3_makeOne 4 = .ok (.iload_n 2, 1) := by decide +kernel
theorem dX3_makeOne_5 : decode cX3_makeOne 5 = .ok (.iaload, 1) := by decide +kernel
theorem dX3_makeOne_6 : decode cX3_makeOne 6 = .ok (.istore_n 3, 1) := by decide +kernel
theorem dX3_makeOne_7 : decode cX3_makeOne 7 = .ok (.iconst 0, 1) := by decide +kernel
theorem dX3_makeOne_8 : decode cX3_makeOne 8 = .ok (.istore 4, 2) := by decide +kernel
theorem dX3_makeOne_10 : decode cX3_makeOne 10 = .ok (.iload 4, 2) := by decide +kernel
theorem dX3_makeOne_12 : decode cX3_makeOne 12 = .ok (.aload_n 0, 1) := by decide +kernel
theorem dX3_makeOne_13 : decode cX3_makeOne 13 = .ok (.getfield 24, 3) := by decide +kernel
theorem dX3_makeOne_16 : decode cX3_makeOne 16 = .ok (.if_icmp .ge 33, 3) := by decide +kernel
theorem dX3_makeOne_19 : decode cX3_makeOne 19 = .ok (.aload_n 0, 1) := by decide +kernel
theorem dX3_makeOne_20 : decode cX3_makeOne 20 = .ok (.getfield 21, 3) := by decide +kernel
theorem dX3_makeOne_23 : decode cX3_makeOne 23 = .ok (.iload 4, 2) := by decide +kernel
theorem dX3_makeOne_25 : decode cX3_makeOne 25 = .ok (.iaload, 1) := by decide +kernel
theorem dX3_makeOne_26 : decode cX3_makeOne 26 = .ok (.iload_n 3, 1) := by decide +kernel
theorem dX3_makeOne_27 : decode cX3_makeOne 27 = .ok (.if_icmp .ne 16, 3) := by decide +kernel
theorem dX3_makeOne_30 : decode cX3_makeOne 30 = .ok (.aload_n 0, 1) := by decide +kernel
theorem dX3_makeOne_31 : decode cX3_makeOne 31 = .ok (.getfield 21, 3) := by decide +kernel
theorem dX3_makeOne_34 : decode cX3_makeOne 34 = .ok (.iload 4, 2) := by decide +kernel
theorem dX3_makeOne_36 : decode cX3_makeOne 36 = .ok (.aload_n 0, 1) := by decide +kernel
theorem dX3_makeOne_37 : decode cX3_makeOne 37 = .ok (.getfield 21, 3) := by decide +kernel
theorem dX3_makeOne_40 : decode cX3_makeOne 40 = .ok (.iload_n 1, 1) := by decide +kernel
theorem dX3_makeOne_41 : decode cX3_makeOne 41 = .ok (.iaload, 1) := by decide +kernel
theorem dX3_makeOne_42 : decode cX3_makeOne 42 = .ok (.iastore, 1) := by decide +kernel
theorem dX3_makeOne_43 : decode cX3_makeOne 43 = .ok (.iinc 4 1, 3) := by decide +kernel
theorem dX3_makeOne_46 : decode cX3_makeOne 46 = .ok (.goto (-36), 3) := by decide +kernel
theorem dX3_makeOne_49 : decode cX3_makeOne 49 = .ok (.return_, 1) := by decide +kernel
set_option maxRecDepth 20000 in
theorem ggX4_init_X4_tellNothing : GoodIn wsX4_init wsX4_tellNothing := goodIn_r _ [10, 5, 11] (by decide +kernel) (by decide +kernel)
set_option maxRecDepth 20000 in
theorem gX4_init_X4_tellNothing : GoodIn wsX4_init (wsV RX4 15 RX4 yX4_tellNothing wsX4_tellNothing) := goodIn_app (goodIn_of _ (by decide +kernel)) ggX4_init_X4_tellNothing
theorem dX4_init_0 : decode cX4_init 0 = .ok (.aload_n 0, 1) := by decide +kernel
theorem dX4_init_1 : decode cX4_init 1 = .ok (.invokespecial 3, 3) := by decide +kernel
theorem dX4_init_4 : decode cX4_init 4 = .ok (.aload_n 0, 1) := by decide +kernel
theorem dX4_init_5 : decode cX4_init 5 = .ok (.bipush 18, 2) := by decide +kernel
theorem dX4_init_7 : decode cX4_init 7 = .ok (.newarray .int, 2) := by decide +kernel
theorem dX4_init_9 : decode cX4_init 9 = .ok (.putfield 9, 3) := by decide +kernel
theorem dX4_init_12 : decode cX4_init 12 = .ok (.aload_n 0, 1) := by decide +kernel
theorem dX4_init_13 : decode cX4_init 13 = .ok (.invokevirtual 15, 3) := by decide +kernel
theorem dX4_init_16 : decode cX4_init 16 = .ok (.return_, 1) := by decide +kernel
theorem dX4_tellNothing_0 : decode cX4_tellNothing 0 = .ok (.aload_n 0, 1) := by decide +kernel
theorem dX4_tellNothing_1 : decode cX4_tellNothing 1 = .ok (.getfield 9, 3) := by decide +kernel
theorem dX4_tellNothing_4 : decode cX4_tellNothing 4 = .ok (.iconst 0, 1) := by decide +kernel
theorem dX4_tellNothing_5 : decode cX4_tellNothing 5 = .ok (.bipush 20, 2) := by decide +kernel
theorem dX4_tellNothing_7 : decode cX4_tellNothing 7 = .ok (.iastore, 1) := by decide +kernel
theorem dX4_tellNothing_8 : decode cX4_tellNothing 8 = .ok (.aload_n 0, 1) := by decide +kernel
theorem dX4_tellNothing_9 : decode cX4_tellNothing 9 = .ok (.getfield 9, 3) := by decide +kernel
theorem dX4_tellNothing_12 : decode cX4_tellNothing 12 = .ok (.iconst 1, 1) := by decide +kernel
theorem dX4_tellNothing_13 : decode cX4_tellNothing 13 = .ok (.iconst 1, 1) := by decide +kernel
theorem dX4_tellNothing_14 : decode cX4_tellNothing 14 = .ok (.iastore, 1) := by decide +kernel
theorem dX4_tellNothing_15 : decode cX4_tellNothing 15 = .ok (.aload_n 0, 1) := by decide +kernel
theorem dX4_tellNothing_16 : decode cX4_tellNothing 16 = .ok (.getfield 9, 3) := by decide +kernel
theorem dX4_tellNothing_19 : decode cX4_tellNothing 19 = .ok (.iconst 2, 1) := by decide +kernel
theorem dX4_tellNothing_20 : decode cX4_tellNothing 20 = .ok (.iconst 1, 1) := by decide +kernel
theorem dX4_tellNothing_21 : decode cX4_tellNothing 21 = .ok (.iastore, 1) := by decide +kernel
theorem dX4_tellNothing_22 : decode cX4_tellNothing 22 = .ok (.aload_n 0, 1) := by decide +kernel
theorem dX4_tellNothing_23 : decode cX4_tellNothing 23 = .ok (.getfield 9, 3) := by decide +kernel
theorem dX4_tellNothing_26 : decode cX4_tellNothing 26 = .ok (.iconst 3, 1) := by decide +kernel
theorem dX4_tellNothing_27 : decode cX4_tellNothing 27 = .ok (.sipush 999, 3) := by decide +kernel
theorem dX4_tellNothing_30 : decode cX4_tellNothing 30 = .ok (.iastore, 1) := by decide +kernel
theorem dX4_tellNothing_31 : decode cX4_tellNothing 31 = .ok (.aload_n 0, 1) := by decide +kernel
theorem dX4_tellNothing_32 : decode cX4_tellNothing 32 = .ok (.getfield 9, 3) := by decide +kernel
theorem dX4_tellNothing_35 : decode cX4_tellNothing 35 = .ok (.iconst 4, 1) := by decide +kernel
theorem dX4_tellNothing_36 : decode cX4_tellNothing 36 = .ok (.iconst 1, 1) := by decide +kernel
theorem dX4_tellNothing_37 : decode cX4_tellNothing 37 = .ok (.iastore, 1) := by decide +kernel
theorem dX4_tellNothing_38 : decode cX4_tellNothing 38 = .ok (.aload_n 0, 1) := by decide +kernel
theorem dX4_tellNothing_39 : decode cX4_tellNothing 39 = .ok (.getfield 9, 3) := by decide +kernel
theorem dX4_tellNothing_42 : decode cX4_tellNothing 42 = .ok (.iconst 5, 1) := by decide +kernel
theorem dX4_tellNothing_43 : decode cX4_tellNothing 43 = .ok (.iconst 3, 1) := by decide +kernel
theorem dX4_tellNothing_44 : decode cX4_tellNothing 44 = .ok (.iastore, 1) := by decide +kernel
theorem dX4_tellNothing_45 : decode cX4_tellNothing 45 = .ok (.aload_n 0, 1) := by decide +kernel
theorem dX4_tellNothing_46 : decode cX4_tellNothing 46 = .ok (.getfield 9, 3) := by decide +kernel
theorem dX4_tellNothing_49 : decode cX4_tellNothing 49 = .ok (.bipush 6, 2) := by decide +kernel
theorem dX4_tellNothing_51 : decode cX4_tellNothing 51 = .ok (.bipush 50, 2) := by decide +kernel
theorem dX4_tellNothing_53 : decode cX4_tellNothing 53 = .ok (.iastore, 1) := by decide +kernel
theorem dX4_tellNothing_54 : decode cX4_tellNothing 54 = .ok (.aload_n 0, 1) := by decide +kernel
theorem dX4_tellNothing_55 : decode cX4_tellNothing 55 = .ok (.getfield 9, 3) := by decide +kernel
theorem dX4_tellNothing_58 : decode cX4_tellNothing 58 = .ok (.bipush 7, 2) := by decide +kernel
theorem dX4_tellNothing_60 : decode cX4_tellNothing 60 = .ok (.bipush 66, 2) := by decide +kernel
theorem dX4_tellNothing_62 : decode cX4_tellNothing 62 = .ok (.iastore, 1) := by decide +kernel
theorem dX4_tellNothing_63 : decode cX4_tellNothing 63 = .ok (.iconst 0, 1) := by decide +kernel
theorem dX4_tellNothing_64 : decode cX4_tellNothing 64 = .ok (.istore_n 1, 1) := by decide +kernel
theorem dX4_tellNothing_65 : decode cX4_tellNothing 65 = .ok (.iload_n 1, 1) := by decide +kernel
theorem dX4_tellNothing_66 : decode cX4_tellNothing 66 = .ok (.bipush 7, 2) := by decide +kernel
theorem dX4_tellNothing_68 : decode cX4_tellNothing 68 = .ok (.if_icmp .gt 19, 3) := by decide +kernel
theorem dX4_tellNothing_71 : decode cX4_tellNothing 71 = .ok (.aload_n 0, 1) := by decide +kernel
theorem dX4_tellNothing_72 : decode cX4_tellNothing 72 = .ok (.getfield 9, 3) := by decide +kernel
theorem dX4_tellNothing_75 : decode cX4_tellNothing 75 = .ok (.bipush 10, 2) := by decide +kernel
theorem dX4_tellNothing_77 : decode cX4_tellNothing 77 = .ok (.iload_n 1, 1) := by decide +kernel
theorem dX4_tellNothing_78 : decode cX4_tellNothing 78 = .ok (.iadd, 1) := by decide +kernel
theorem dX4_tellNothing_79 : decode cX4_tellNothing 79 = .ok (.iconst (-1), 1) := by decide +kernel
theorem dX4_tellNothing_80 : decode cX4_tellNothing 80 = .ok (.iastore, 1) := by decide +kernel
theorem dX4_tellNothing_81 : decode cX4_tellNothing 81 = .ok (.iinc 1 1, 3) := by decide +kernel
theorem dX4_tellNothing_84 : decode cX4_tellNothing 84 = .ok (.goto (-19), 3) := by decide +kernel
theorem dX4_tellNothing_87 : decode cX4_tellNothing 87 = .ok (.return_, 1) := by decide +kernel
theorem dX4_copy_0 : decode cX4_copy 0 = .ok (.aload_n 1, 1) := by decide +kernel
theorem dX4_copy_1 : decode cX4_copy 1 = .ok (.getfield 9, 3) := by decide +kernel
theorem dX4_copy_4 : decode cX4_copy 4 = .ok (.iconst 0, 1) := by decide +kernel
theorem dX4_copy_5 : decode cX4_copy 5 = .ok (.aload_n 0, 1) := by decide +kernel
theorem dX4_copy_6 : decode cX4_copy 6 = .ok (.getfield 9, 3) := by decide +kernel
theorem dX4_copy_9 : decode cX4_copy 9 = .ok (.iconst 0, 1) := by decide +kernel
theorem dX4_copy_10 : decode cX4_copy 10 = .ok (.bipush 18, 2) := by decide +kernel
theorem dX4_copy_12 : decode cX4_copy 12 = .ok (.invokestatic 18, 3) := by decide +kernel
theorem dX4_copy_15 : decode cX4_copy 15 = .ok (.return_, 1) := by decide +kernel
set_option maxRecDepth 20000 in
theorem ggX5_init_X4_init : GoodIn wsX5_init wsX4_init := goodIn_r _ [13, 14, 2, 3, 15, 16, 17, 18, 19, 7, 20, 33] (by decide +kernel) (by decide +kernel)
set_option maxRecDepth 20000 in
theorem gX5_init_X4_init : GoodIn wsX5_init (wsX4_init) := ggX5_init_X4_init
theorem dX5_init_0 : decode cX5_init 0 = .ok (.aload_n 0, 1) := by decide +kernel
theorem dX5_init_1 : decode cX5_init 1 = .ok (.invokespecial 3, 3) := by decide +kernel
theorem dX5_init_4 : decode cX5_init 4 = .ok (.aload_n 0, 1) := by decide +kernel
theorem dX5_init_5 : decode cX5_init 5 = .ok (.aload_n 1, 1) := by decide +kernel
theorem dX5_init_6 : decode cX5_init 6 = .ok (.putfield 9, 3) := by decide +kernel
theorem dX5_init_9 : decode cX5_init 9 = .ok (.aload_n 0, 1) := by decide +kernel
theorem dX5_init_10 : decode cX5_init 10 = .ok (.new 15, 3) := by decide +kernel
theorem dX5_init_13 : decode cX5_init 13 = .ok (.dup, 1) := by decide +kernel
theorem dX5_init_14 : decode cX5_init 14 = .ok (.invokespecial 17, 3) := by decide +kernel
theorem dX5_init_17 : decode cX5_init 17 = .ok (.putfield 18, 3) := by decide +kernel
theorem dX5_init_20 : decode cX5_init 20 = .ok (.aload_n 0, 1) := by decide +kernel
theorem dX5_init_21 : decode cX5_init 21 = .ok (.iconst 0, 1) := by decide +kernel
theorem dX5_init_22 : decode cX5_init 22 = .ok (.putfield 22, 3) := by decide +kernel
theorem dX5_init_25 : decode cX5_init 25 = .ok (.aload_n 0, 1) := by decide +kernel
theorem dX5_init_26 : decode cX5_init 26 = .ok (.iconst (-1), 1) := by decide +kernel
theorem dX5_init_27 : decode cX5_init 27 = .ok (.putfield 26, 3) := by decide +kernel
theorem dX5_init_30 : decode cX5_init 30 = .ok (.return_, 1) := by decide +kernel
set_option maxRecDepth 20000 in
theorem ggX5_read_X4_tellNothing : GoodIn wsX5_read wsX4_tellNothing := goodIn_r _ [17, 18, 138] (by decide +kernel) (by decide +kernel)
set_option maxRecDepth 20000 in
theorem gX5_read_X4_tellNothing : GoodIn wsX5_read (wsV RX5 29 RX4 yX4_tellNothing wsX4_tellNothing) := goodIn_app (goodIn_of _ (by decide +kernel)) ggX5_read_X4_tellNothing
set_option maxRecDepth 20000 in
theorem ggX5_read_X5_findToken : GoodIn wsX5_read wsX5_findToken := goodIn_r _ [23, 9, 10, 11, 24, 12, 25, 26, 27, 28, 29, 30, 31, 124, 125, 126, 127, 128, 129, 130, 131, 132, 133, 134, 135, 136, 137] (by decide +kernel) (by decide +kernel)
set_option maxRecDepth 20000 in
theorem gX5_read_X5_findToken : GoodIn wsX5_read (wsV RX5 55 RX5 yX5_findToken wsX5_findToken) := goodIn_app (goodIn_of _ (by decide +kernel)) ggX5_read_X5_findToken
set_option maxRecDepth 20000 in
theorem ggX5_read_X5_takeToken : GoodIn wsX5_read wsX5_takeToken := goodIn_r _ [35, 5, 6, 36, 37, 38, 22, 39, 8, 40, 41, 42, 43, 44, 45, 46, 9, 12, 10, 24, 47, 48, 49, 50, 51, 52, 53, 54, 55, 56, 57, 58, 59, 60, 61, 62, 63, 64, 65, 66, 67, 68, 69, 70, 71, 72, 73, 74, 75, 76, 77, 78, 79, 80, 81, 82, 83, 84, 85, 86, 87, 88, 89, 90, 91, 92, 93, 94, 95, 96, 97, 98, 99, 100, 101, 102, 2, 103, 104, 105, 106, 1, 107, 108, 109, 110, 111, 7, 112, 113, 114, 115, 116, 30, 26, 31, 117, 118, 119, 120, 121, 122, 123, 124, 125, 126, 127, 128, 129, 130, 131, 132, 133, 134, 135, 136, 137, 138] (by decide +kernel) (by decide +kernel)
set_option maxRecDepth 20000 in
theorem gX5_read_X5_takeToken : GoodIn wsX5_read (wsV RX5 61 RX5 yX5_takeToken wsX5_takeToken) := goodIn_app (goodIn_of _ (by decide +kernel)) ggX5_read_X5_takeToken
theorem dX5_read_0 : decode cX5_read 0 = .ok (.aload_n 0, 1) := by decide +kernel
theorem dX5_read_1 : decode cX5_read 1 = .ok (.getfield 18, 3) := by decide +kernel
theorem dX5_read_4 : decode cX5_read 4 = .ok (.invokevirtual 29, 3) := by decide +kernel
theorem dX5_read_7 : decode cX5_read 7 = .ok (.aload_n 0, 1) := by decide +kernel
theorem dX5_read_8 : decode cX5_read 8 = .ok (.iconst 0, 1) := by decide +kernel
theorem dX5_read_9 : decode cX5_read 9 = .ok (.putfield 32, 3) := by decide +kernel
theorem dX5_read_12 : decode cX5_read 12 = .ok (.aload_n 0, 1) := by decide +kernel
theorem dX5_read_13 : decode cX5_read 13 = .ok (.iconst 0, 1) := by decide +kernel
theorem dX5_read_14 : decode cX5_read 14 = .ok (.putfield 22, 3) := by decide +kernel
theorem dX5_read_17 : decode cX5_read 17 = .ok (.aload_n 0, 1) := by decide +kernel
theorem dX5_read_18 : decode cX5_read 18 = .ok (.iconst (-1), 1) := by decide +kernel
theorem dX5_read_19 : decode cX5_read 19 = .ok (.putfield 26, 3) := by decide +kernel
theorem dX5_read_22 : decode cX5_read 22 = .ok (.aload_n 0, 1) := by decide +kernel
theorem dX5_read_23 : decode cX5_read 23 = .ok (.iconst (-1), 1) := by decide +kernel
theorem dX5_read_24 : decode cX5_read 24 = .ok (.putfield 35, 3) := by decide +kernel
theorem dX5_read_27 : decode cX5_read 27 = .ok (.aload_n 0, 1) := by decide +kernel
theorem dX5_read_28 : decode cX5_read 28 = .ok (.iconst 0, 1) := by decide +kernel
theorem dX5_read_29 : decode cX5_read 29 = .ok (.putfield 38, 3) := by decide +kernel
theorem dX5_read_32 : decode cX5_read 32 = .ok (.aload_n 0, 1) := by decide +kernel
theorem dX5_read_33 : decode cX5_read 33 = .ok (.iconst 0, 1) := by decide +kernel
theorem dX5_read_34 : decode cX5_read 34 = .ok (.putfield 41, 3) := by decide +kernel
theorem dX5_read_37 : decode cX5_read 37 = .ok (.aload_n 0, 1) := by decide +kernel
theorem dX5_read_38 : decode cX5_read 38 = .ok (.iconst 0, 1) := by decide +kernel
theorem dX5_read_39 : decode cX5_read 39 = .ok (.putfield 44, 3) := by decide +kernel
theorem dX5_read_42 : decode cX5_read 42 = .ok (.aload_n 0, 1) := by decide +kernel
theorem dX5_read_43 : decode cX5_read 43 = .ok (.iconst 0, 1) := by decide +kernel
theorem dX5_read_44 : decode cX5_read 44 = .ok (.putfield 47, 3) := by decide +kernel
theorem dX5_read_47 : decode cX5_read 47 = .ok (.iconst 0, 1) := by decide +kernel
theorem dX5_read_48 : decode cX5_read 48 = .ok (.istore_n 1, 1) := by decide +kernel
theorem dX5_read_49 : decode cX5_read 49 = .ok (.iload_n 1, 1) := by decide +kernel
theorem dX5_read_50 : decode cX5_read 50 = .ok (.aload_n 0, 1) := by decide +kernel
theorem dX5_read_51 : decode cX5_read 51 = .ok (.getfield 9, 3) := by decide +kernel
theorem dX5_read_54 : decode cX5_read 54 = .ok (.getfield 50, 3) := by decide +kernel
theorem dX5_read_57 : decode cX5_read 57 = .ok (.if_icmp .ge 69, 3) := by decide +kernel
theorem dX5_read_60 : decode cX5_read 60 = .ok (.aload_n 0, 1) := by decide +kernel
theorem dX5_read_61 : decode cX5_read 61 = .ok (.getfield 47, 3) := by decide +kernel
theorem dX5_read_64 : decode cX5_read 64 = .ok (.aload_n 0, 1) := by decide +kernel
theorem dX5_read_65 : decode cX5_read 65 = .ok (.getfield 9, 3) := by decide +kernel
theorem dX5_read_68 : decode cX5_read 68 = .ok (.getfield 50, 3) := by decide +kernel
theorem dX5_read_71 : decode cX5_read 71 = .ok (.if_icmp .ge 55, 3) := by decide +kernel
theorem dX5_read_74 : decode cX5_read 74 = .ok (.aload_n 0, 1) := by decide +kernel
theorem dX5_read_75 : decode cX5_read 75 = .ok (.invokevirtual 55, 3) := by decide +kernel
theorem dX5_read_78 : decode cX5_read 78 = .ok (.aload_n 0, 1) := by decide +kernel
theorem dX5_read_79 : decode cX5_read 79 = .ok (.aload_n 0, 1) := by decide +kernel
theorem dX5_read_80 : decode cX5_read 80 = .ok (.getfield 58, 3) := by decide +kernel
theorem dX5_read_83 : decode cX5_read 83 = .ok (.aload_n 0, 1) := by decide +kernel
theorem dX5_read_84 : decode cX5_read 84 = .ok (.getfield 9, 3) := by decide +kernel
theorem dX5_read_87 : decode cX5_read 87 = .ok (.getfield 50, 3) := by decide +kernel
theorem dX5_read_90 : decode cX5_read 90 = .ok (.if_icmp .ge 10, 3) := by decide +kernel
theorem dX5_read_93 : decode cX5_read 93 = .ok (.aload_n 0, 1) := by decide +kernel
theorem dX5_read_94 : decode cX5_read 94 = .ok (.invokevirtual 61, 3) := by decide +kernel
theorem dX5_read_97 : decode cX5_read 97 = .ok (.goto 4, 3) := by decide +kernel
theorem dX5_read_100 : decode cX5_read 100 = .ok (.iconst 0, 1) := by decide +kernel
theorem dX5_read_101 : decode cX5_read 101 = .ok (.putfield 22, 3) := by decide +kernel
theorem dX5_read_104 : decode cX5_read 104 = .ok (.aload_n 0, 1) := by decide +kernel
theorem dX5_read_105 : decode cX5_read 105 = .ok (.getfield 22, 3) := by decide +kernel
theorem dX5_read_108 : decode cX5_read 108 = .ok (.ifCond .eq 12, 3) := by decide +kernel
theorem dX5_read_111 : decode cX5_read 111 = .ok (.aload_n 0, 1) := by decide +kernel
theorem dX5_read_112 : decode cX5_read 112 = .ok (.aload_n 0, 1) := by decide +kernel
theorem dX5_read_113 : decode cX5_read 113 = .ok (.getfield 58, 3) := by decide +kernel
theorem dX5_read_116 : decode cX5_read 116 = .ok (.putfield 26, 3) := by decide +kernel
theorem dX5_read_119 : decode cX5_read 119 = .ok (.return_, 1) := by decide +kernel
theorem dX5_read_120 : decode cX5_read 120 = .ok (.iinc 1 1, 3) := by decide +kernel
theorem dX5_read_123 : decode cX5_read 123 = .ok (.goto (-74), 3) := by decide +kernel
theorem dX5_read_126 : decode cX5_read 126 = .ok (.aload_n 0, 1) := by decide +kernel
theorem dX5_read_127 : decode cX5_read 127 = .ok (.getfield 35, 3) := by decide +kernel
theorem dX5_read_130 : decode cX5_read 130 = .ok (.iconst (-1), 1) := by decide +kernel
theorem dX5_read_131 : decode cX5_read 131 = .ok (.if_icmp .eq 19, 3) := by decide +kernel
theorem dX5_read_134 : decode cX5_read 134 = .ok (.aload_n 0, 1) := by decide +kernel
theorem dX5_read_135 : decode cX5_read 135 = .ok (.iconst 1, 1) := by decide +kernel
theorem dX5_read_136 : decode cX5_read 136 = .ok (.putfield 22, 3) := by decide +kernel
theorem dX5_read_139 : decode cX5_read 139 = .ok (.aload_n 0, 1) := by decide +kernel
theorem dX5_read_140 : decode cX5_read 140 = .ok (.aload_n 0, 1) := by decide +kernel
theorem dX5_read_141 : decode cX5_read 141 = .ok (.getfield 9, 3) := by decide +kernel
theorem dX5_read_144 : decode cX5_read 144 = .ok (.getfield 50, 3) := by decide +kernel
theorem dX5_read_147 : decode cX5_read 147 = .ok (.putfield 26, 3) := by decide +kernel
theorem dX5_read_150 : decode cX5_read 150 = .ok (.return_, 1) := by decide +kernel
set_option maxRecDepth 20000 in
theorem ggX5_findToken_X10_isBlank : GoodIn wsX5_findToken wsX10_isBlank := goodIn_r _ [8] (by decide +kernel) (by decide +kernel)
set_option maxRecDepth 20000 in
theorem gX5_findToken_X10_isBlank_n69 : GoodIn wsX5_findToken (wsX10_isBlank) := ggX5_findToken_X10_isBlank
set_option maxRecDepth 20000 in
theorem ggX5_findToken_X10_isSmallLetter : GoodIn wsX5_findToken wsX10_isSmallLetter := goodIn_r _ [10] (by decide +kernel) (by decide +kernel)
set_option maxRecDepth 20000 in
theorem gX5_findToken_X10_isSmallLetter_n73 : GoodIn wsX5_findToken (wsX10_isSmallLetter) := ggX5_findToken_X10_isSmallLetter
set_option maxRecDepth 20000 in
theorem ggX5_findToken_X10_isDigit : GoodIn wsX5_findToken wsX10_isDigit := goodIn_r _ [12] (by decide +kernel) (by decide +kernel)
set_option maxRecDepth 20000 in
theorem gX5_findToken_X10_isDigit_n76 : GoodIn wsX5_findToken (wsX10_isDigit) := ggX5_findToken_X10_isDigit
theorem dX5_findToken_0 : decode cX5_findToken 0 = .ok (.aload_n 0, 1) := by decide +kernel
theorem dX5_findToken_1 : decode cX5_findToken 1 = .ok (.getfield 47, 3) := by decide +kernel
theorem dX5_findToken_4 : decode cX5_findToken 4 = .ok (.istore_n 1, 1) := by decide +kernel
theorem dX5_findToken_5 : decode cX5_findToken 5 = .ok (.iload_n 1, 1) := by decide +kernel
theorem dX5_findToken_6 : decode cX5_findToken 6 = .ok (.aload_n 0, 1) := by decide +kernel
theorem dX5_findToken_7 : decode cX5_findToken 7 = .ok (.getfield 9, 3) := by decide +kernel
theorem dX5_findToken_10 : decode cX5_findToken 10 = .ok (.getfield 50, 3) := by decide +kernel
theorem dX5_findToken_13 : decode cX5_findToken 13 = .ok (.if_icmp .ge 24, 3) := by decide +kernel
theorem dX5_findToken_16 : decode cX5_findToken 16 = .ok (.aload_n 0, 1) := by decide +kernel
theorem dX5_findToken_17 : decode cX5_findToken 17 = .ok (.getfield 9, 3) := by decide +kernel
theorem dX5_findToken_20 : decode cX5_findToken 20 = .ok (.getfield 65, 3) := by decide +kernel
theorem dX5_findToken_23 : decode cX5_findToken 23 = .ok (.iload_n 1, 1) := by decide +kernel
theorem dX5_findToken_24 : decode cX5_findToken 24 = .ok (.iaload, 1) := by decide +kernel
theorem dX5_findToken_25 : decode cX5_findToken 25 = .ok (.invokestatic 69, 3) := by decide +kernel
theorem dX5_findToken_28 : decode cX5_findToken 28 = .ok (.ifCond .eq 9, 3) := by decide +kernel
theorem dX5_findToken_31 : decode cX5_findToken 31 = .ok (.iinc 1 1, 3) := by decide +kernel
theorem dX5_findToken_34 : decode cX5_findToken 34 = .ok (.goto (-29), 3) := by decide +kernel
theorem dX5_findToken_37 : decode cX5_findToken 37 = .ok (.aload_n 0, 1) := by decide +kernel
theorem dX5_findToken_38 : decode cX5_findToken 38 = .ok (.iload_n 1, 1) := by decide +kernel
theorem dX5_findToken_39 : decode cX5_findToken 39 = .ok (.putfield 58, 3) := by decide +kernel
theorem dX5_findToken_42 : decode cX5_findToken 42 = .ok (.iload_n 1, 1) := by decide +kernel
theorem dX5_findToken_43 : decode cX5_findToken 43 = .ok (.aload_n 0, 1) := by decide +kernel
theorem dX5_findToken_44 : decode cX5_findToken 44 = .ok (.getfield 9, 3) := by decide +kernel
theorem dX5_findToken_47 : decode cX5_findToken 47 = .ok (.getfield 50, 3) := by decide +kernel
theorem dX5_findToken_50 : decode cX5_findToken 50 = .ok (.if_icmp .ge 50, 3) := by decide +kernel
theorem dX5_findToken_53 : decode cX5_findToken 53 = .ok (.aload_n 0, 1) := by decide +kernel
theorem dX5_findToken_54 : decode cX5_findToken 54 = .ok (.getfield 9, 3) := by decide +kernel
theorem dX5_findToken_57 : decode cX5_findToken 57 = .ok (.getfield 65, 3) := by decide +kernel
theorem dX5_findToken_60 : decode cX5_findToken 60 = .ok (.iload_n 1, 1) := by decide +kernel
theorem dX5_findToken_61 : decode cX5_findToken 61 = .ok (.iaload, 1) := by decide +kernel
theorem dX5_findToken_62 : decode cX5_findToken 62 = .ok (.invokestatic 73, 3) := by decide +kernel
theorem dX5_findToken_65 : decode cX5_findToken 65 = .ok (.ifCond .eq 35, 3) := by decide +kernel
theorem dX5_findToken_68 : decode cX5_findToken 68 = .ok (.iload_n 1, 1) := by decide +kernel
theorem dX5_findToken_69 : decode cX5_findToken 69 = .ok (.aload_n 0, 1) := by decide +kernel
theorem dX5_findToken_70 : decode cX5_findToken 70 = .ok (.getfield 9, 3) := by decide +kernel
theorem dX5_findToken_73 : decode cX5_findToken 73 = .ok (.getfield 50, 3) := by decide +kernel
theorem dX5_findToken_76 : decode cX5_findToken 76 = .ok (.if_icmp .ge 96, 3) := by decide +kernel
theorem dX5_findToken_79 : decode cX5_findToken 79 = .ok (.aload_n 0, 1) := by decide +kernel
theorem dX5_findToken_80 : decode cX5_findToken 80 = .ok (.getfield 9, 3) := by decide +kernel
theorem dX5_findToken_83 : decode cX5_findToken 83 = .ok (.getfield 65, 3) := by decide +kernel
theorem dX5_findToken_86 : decode cX5_findToken 86 = .ok (.iload_n 1, 1) := by decide +kernel
theorem dX5_findToken_87 : decode cX5_findToken 87 = .ok (.iaload, 1) := by decide +kernel
theorem dX5_findToken_88 : decode cX5_findToken 88 = .ok (.invokestatic 73, 3) := by decide +kernel
theorem dX5_findToken_91 : decode cX5_findToken 91 = .ok (.ifCond .eq 81, 3) := by decide +kernel
theorem dX5_findToken_94 : decode cX5_findToken 94 = .ok (.iinc 1 1, 3) := by decide +kernel
theorem dX5_findToken_97 : decode cX5_findToken 97 = .ok (.goto (-29), 3) := by decide +kernel
theorem dX5_findToken_100 : decode cX5_findToken 100 = .ok (.iload_n 1, 1) := by decide +kernel
theorem dX5_findToken_101 : decode cX5_findToken 101 = .ok (.aload_n 0, 1) := by decide +kernel
theorem dX5_findToken_102 : decode cX5_findToken 102 = .ok (.getfield 9, 3) := by decide +kernel
theorem dX5_findToken_105 : decode cX5_findToken 105 = .ok (.getfield 50, 3) := by decide +kernel
theorem dX5_findToken_108 : decode cX5_findToken 108 = .ok (.if_icmp .ge 50, 3) := by decide +kernel
theorem dX5_findToken_111 : decode cX5_findToken 111 = .ok (.aload_n 0, 1) := by decide +kernel
theorem dX5_findToken_112 : decode cX5_findToken 112 = .ok (.getfield 9, 3) := by decide +kernel
theorem dX5_findToken_115 : decode cX5_findToken 115 = .ok (.getfield 65, 3) := by decide +kernel
theorem dX5_findToken_118 : decode cX5_findToken 118 = .ok (.iload_n 1, 1) := by decide +kernel
theorem dX5_findToken_119 : decode cX5_findToken 119 = .ok (.iaload, 1) := by decide +kernel
theorem dX5_findToken_120 : decode cX5_findToken 120 = .ok (.invokestatic 76, 3) := by decide +kernel
theorem dX5_findToken_123 : decode cX5_findToken 123 = .ok (.ifCond .eq 35, 3) := by decide +kernel
theorem dX5_findToken_126 : decode cX5_findToken 126 = .ok (.iload_n 1, 1) := by decide +kernel
theorem dX5_findToken_127 : decode cX5_findToken 127 = .ok (.aload_n 0, 1) := by decide +kernel
theorem dX5_findToken_128 : decode cX5_findToken 128 = .ok (.getfield 9, 3) := by decide +kernel
theorem dX5_findToken_131 : decode cX5_findToken 131 = .ok (.getfield 50, 3) := by decide +kernel
theorem dX5_findToken_134 : decode cX5_findToken 134 = .ok (.if_icmp .ge 38, 3) := by decide +kernel
theorem dX5_findToken_137 : decode cX5_findToken 137 = .ok (.aload_n 0, 1) := by decide +kernel
theorem dX5_findToken_138 : decode cX5_findToken 138 = .ok (.getfield 9, 3) := by decide +kernel
theorem dX5_findToken_141 : decode cX5_findToken 141 = .ok (.getfield 65, 3) := by decide +kernel
theorem dX5_findToken_144 : decode cX5_findToken 144 = .ok (.iload_n 1, 1) := by decide +kernel
theorem dX5_findToken_145 : decode cX5_findToken 145 = .ok (.iaload, 1) := by decide +kernel
theorem dX5_findToken_146 : decode cX5_findToken 146 = .ok (.invokestatic 76, 3) := by decide +kernel
theorem dX5_findToken_149 : decode cX5_findToken 149 = .ok (.ifCond .eq 23, 3) := by decide +kernel
theorem dX5_findToken_152 : decode cX5_findToken 152 = .ok (.iinc 1 1, 3) := by decide +kernel
theorem dX5_findToken_155 : decode cX5_findToken 155 = .ok (.goto (-29), 3) := by decide +kernel
theorem dX5_findToken_158 : decode cX5_findToken 158 = .ok (.iload_n 1, 1) := by decide +kernel
theorem dX5_findToken_159 : decode cX5_findToken 159 = .ok (.aload_n 0, 1) := by decide +kernel
theorem dX5_findToken_160 : decode cX5_findToken 160 = .ok (.getfield 9, 3) := by decide +kernel
theorem dX5_findToken_163 : decode cX5_findToken 163 = .ok (.getfield 50, 3) := by decide +kernel
theorem dX5_findToken_166 : decode cX5_findToken 166 = .ok (.if_icmp .ge 6, 3) := by decide +kernel
theorem dX5_findToken_169 : decode cX5_findToken 169 = .ok (.iinc 1 1, 3) := by decide +kernel
theorem dX5_findToken_172 : decode cX5_findToken 172 = .ok (.aload_n 0, 1) := by decide +kernel
theorem dX5_findToken_173 : decode cX5_findToken 173 = .ok (.iload_n 1, 1) := by decide +kernel
theorem dX5_findToken_174 : decode cX5_findToken 174 = .ok (.putfield 47, 3) := by decide +kernel
theorem dX5_findToken_177 : decode cX5_findToken 177 = .ok (.return_, 1) := by decide +kernel
set_option maxRecDepth 20000 in
theorem ggX5_takeToken_X5_takeLineWord : GoodIn wsX5_takeToken wsX5_takeLineWord := goodIn_r _ [7, 8, 1, 2, 9, 10, 6, 11, 12, 13, 14, 15, 16, 17, 18, 19, 20, 21, 22, 23, 24, 25, 26, 27, 28, 29, 30, 31, 32, 33, 34, 35, 36, 37, 38, 39, 40, 41, 42, 43, 44, 45, 46, 47, 48, 49, 50, 51, 52, 53, 54, 55, 56, 57, 58, 59, 60, 61, 62, 63, 64, 65, 66, 67, 68, 103, 104, 105, 106, 107, 108, 109, 110, 111, 112, 113, 114, 115, 116] (by decide +kernel) (by decide +kernel)
set_option maxRecDepth 20000 in
theorem gX5_takeToken_X5_takeLineWord : GoodIn wsX5_takeToken (wsV RX5 79 RX5 yX5_takeLineWord wsX5_takeLineWord) := goodIn_app (goodIn_of _ (by decide +kernel)) ggX5_takeToken_X5_takeLineWord
set_option maxRecDepth 20000 in
theorem ggX5_takeToken_X5_partsOf : GoodIn wsX5_takeToken wsX5_partsOf := goodIn_r _ [71] (by decide +kernel) (by decide +kernel)
set_option maxRecDepth 20000 in
theorem gX5_takeToken_X5_partsOf : GoodIn wsX5_takeToken (va_wsS RX5 82 yX5_partsOf wsX5_partsOf) := goodIn_app (goodIn_of _ (by decide +kernel)) ggX5_takeToken_X5_partsOf
set_option maxRecDepth 20000 in
theorem ggX5_takeToken_X5_takeLineEnd : GoodIn wsX5_takeToken wsX5_takeLineEnd := goodIn_r _ [75, 76, 1, 12, 13, 14, 6, 15, 16, 17, 18, 19, 20, 21, 22, 23, 24, 25, 26, 27, 28, 29, 30, 31, 32, 33, 34, 35, 36, 37, 38, 39, 40, 41, 42, 43, 44, 45, 46, 47, 48, 49, 50, 51, 52, 53, 54, 55, 56, 57, 58, 59, 60, 61, 62, 63, 64, 65, 66, 67, 68, 103, 104, 105, 106, 107, 108, 109, 110, 111, 112, 113, 114, 115, 116] (by decide +kernel) (by decide +kernel)
set_option maxRecDepth 20000 in
theorem gX5_takeToken_X5_takeLineEnd : GoodIn wsX5_takeToken (wsV RX5 86 RX5 yX5_takeLineEnd wsX5_takeLineEnd) := goodIn_app (goodIn_of _ (by decide +kernel)) ggX5_takeToken_X5_takeLineEnd
set_option maxRecDepth 20000 in
theorem ggX5_takeToken_X5_takeYesOrNo : GoodIn wsX5_takeToken wsX5_takeYesOrNo := goodIn_r _ [80, 81, 82, 2, 12, 13, 14, 6, 15, 16, 17, 18, 19, 20, 21, 22, 23, 24, 25, 26, 27, 28, 29, 30, 31, 32, 33, 34, 35, 36, 37, 38, 39, 40, 41, 42, 43, 44, 45, 46, 47, 48, 49, 50, 51, 52, 53, 54, 55, 56, 57, 58, 59, 60, 61, 62, 63, 64, 65, 66, 67, 68, 103, 104, 105, 106, 107, 108, 109, 110, 111, 112, 113, 114, 117, 115, 116] (by decide +kernel) (by decide +kernel)
set_option maxRecDepth 20000 in
theorem gX5_takeToken_X5_takeYesOrNo : GoodIn wsX5_takeToken (wsV RX5 89 RX5 yX5_takeYesOrNo wsX5_takeYesOrNo) := goodIn_app (goodIn_of _ (by decide +kernel)) ggX5_takeToken_X5_takeYesOrNo
set_option maxRecDepth 20000 in
theorem ggX5_takeToken_X5_takeNumber : GoodIn wsX5_takeToken wsX5_takeNumber := goodIn_r _ [86, 1, 2, 87, 88, 81, 82, 89, 90, 91, 6, 92, 16, 17, 18, 19, 93, 94, 95, 96, 97, 98, 99, 100, 101, 102, 103, 104, 105, 106, 107, 108, 109, 110, 111, 112, 113, 114, 117, 115, 116] (by decide +kernel) (by decide +kernel)
set_option maxRecDepth 20000 in
theorem gX5_takeToken_X5_takeNumber : GoodIn wsX5_takeToken (wsV RX5 92 RX5 yX5_takeNumber wsX5_takeNumber) := goodIn_app (goodIn_of _ (by decide +kernel)) ggX5_takeToken_X5_takeNumber
theorem dX5_takeToken_0 : decode cX5_takeToken 0 = .ok (.aload_n 0, 1) := by decide +kernel
theorem dX5_takeToken_1 : decode cX5_takeToken 1 = .ok (.getfield 35, 3) := by decide +kernel
theorem dX5_takeToken_4 : decode cX5_takeToken 4 = .ok (.iconst (-1), 1) := by decide +kernel
theorem dX5_takeToken_5 : decode cX5_takeToken 5 = .ok (.if_icmp .ne 8, 3) := by decide +kernel
theorem dX5_takeToken_8 : decode cX5_takeToken 8 = .ok (.aload_n 0, 1) := by decide +kernel
theorem dX5_takeToken_9 : decode cX5_takeToken 9 = .ok (.invokevirtual 79, 3) := by decide +kernel
theorem dX5_takeToken_12 : decode cX5_takeToken 12 = .ok (.ireturn, 1) := by decide +kernel
theorem dX5_takeToken_13 : decode cX5_takeToken 13 = .ok (.aload_n 0, 1) := by decide +kernel
theorem dX5_takeToken_14 : decode cX5_takeToken 14 = .ok (.getfield 38, 3) := by decide +kernel
theorem dX5_takeToken_17 : decode cX5_takeToken 17 = .ok (.aload_n 0, 1) := by decide +kernel
theorem dX5_takeToken_18 : decode cX5_takeToken 18 = .ok (.getfield 35, 3) := by decide +kernel
theorem dX5_takeToken_21 : decode cX5_takeToken 21 = .ok (.invokestatic 82, 3) := by decide +kernel
theorem dX5_takeToken_24 : decode cX5_takeToken 24 = .ok (.if_icmp .lt 8, 3) := by decide +kernel
theorem dX5_takeToken_27 : decode cX5_takeToken 27 = .ok (.aload_n 0, 1) := by decide +kernel
theorem dX5_takeToken_28 : decode cX5_takeToken 28 = .ok (.invokevirtual 86, 3) := by decide +kernel
theorem dX5_takeToken_31 : decode cX5_takeToken 31 = .ok (.ireturn, 1) := by decide +kernel
theorem dX5_takeToken_32 : decode cX5_takeToken 32 = .ok (.aload_n 0, 1) := by decide +kernel
theorem dX5_takeToken_33 : decode cX5_takeToken 33 = .ok (.getfield 35, 3) := by decide +kernel
theorem dX5_takeToken_36 : decode cX5_takeToken 36 = .ok (.iconst 4, 1) := by decide +kernel
theorem dX5_takeToken_37 : decode cX5_takeToken 37 = .ok (.if_icmp .ne 10, 3) := by decide +kernel
theorem dX5_takeToken_40 : decode cX5_takeToken 40 = .ok (.aload_n 0, 1) := by decide +kernel
theorem dX5_takeToken_41 : decode cX5_takeToken 41 = .ok (.invokevirtual 89, 3) := by decide +kernel
theorem dX5_takeToken_44 : decode cX5_takeToken 44 = .ok (.goto 7, 3) := by decide +kernel
theorem dX5_takeToken_47 : decode cX5_takeToken 47 = .ok (.aload_n 0, 1) := by decide +kernel
theorem dX5_takeToken_48 : decode cX5_takeToken 48 = .ok (.invokevirtual 92, 3) := by decide +kernel
theorem dX5_takeToken_51 : decode cX5_takeToken 51 = .ok (.ireturn, 1) := by decide +kernel
set_option maxRecDepth 20000 in
theorem ggX5_takeLineWord_X5_lineWordText : GoodIn wsX5_takeLineWord wsX5_lineWordText := goodIn_r _ [7] (by decide +kernel) (by decide +kernel)
set_option maxRecDepth 20000 in
theorem gX5_takeLineWord_X5_lineWordText : GoodIn wsX5_takeLineWord (va_wsS RX5 95 yX5_lineWordText wsX5_lineWordText) := goodIn_app (goodIn_of _ (by decide +kernel)) ggX5_takeLineWord_X5_lineWordText
set_option maxRecDepth 20000 in
theorem ggX5_takeLineWord_X5_tokenIs : GoodIn wsX5_takeLineWord wsX5_tokenIs := goodIn_r _ [11, 12, 13, 14, 15, 16, 17, 18, 19, 20, 21, 22, 23, 24, 25, 26, 27, 28, 29, 30, 31, 32, 33, 34, 35, 36, 37, 38, 39, 40, 41, 42, 43, 44, 45, 46, 47, 48, 49, 50, 51, 52, 53, 54, 55, 56, 57, 58, 59, 60, 61, 62, 63, 64, 65, 66, 67, 68, 69, 70, 71, 72, 73, 74, 75, 76, 77, 78] (by decide +kernel) (by decide +kernel)
set_option maxRecDepth 20000 in
theorem gX5_takeLineWord_X5_tokenIs : GoodIn wsX5_takeLineWord (wsV RX5 99 RX5 yX5_tokenIs wsX5_tokenIs) := goodIn_app (goodIn_of _ (by decide +kernel)) ggX5_takeLineWord_X5_tokenIs
theorem dX5_takeLineWord_0 : decode cX5_takeLineWord 0 = .ok (.iconst (-1), 1) := by decide +kernel
theorem dX5_takeLineWord_1 : decode cX5_takeLineWord 1 = .ok (.istore_n 1, 1) := by decide +kernel
theorem dX5_takeLineWord_2 : decode cX5_takeLineWord 2 = .ok (.iconst 0, 1) := by decide +kernel
theorem dX5_takeLineWord_3 : decode cX5_takeLineWord 3 = .ok (.istore_n 2, 1) := by decide +kernel
theorem dX5_takeLineWord_4 : decode cX5_takeLineWord 4 = .ok (.iload_n 2, 1) := by decide +kernel
theorem dX5_takeLineWord_5 : decode cX5_takeLineWord 5 = .ok (.bipush 8, 2) := by decide +kernel
theorem dX5_takeLineWord_7 : decode cX5_takeLineWord 7 = .ok (.if_icmp .ge 27, 3) := by decide +kernel
theorem dX5_takeLineWord_10 : decode cX5_takeLineWord 10 = .ok (.iload_n 1, 1) := by decide +kernel
theorem dX5_takeLineWord_11 : decode cX5_takeLineWord 11 = .ok (.iconst (-1), 1) := by decide +kernel
theorem dX5_takeLineWord_12 : decode cX5_takeLineWord 12 = .ok (.if_icmp .ne 22, 3) := by decide +kernel
theorem dX5_takeLineWord_15 : decode cX5_takeLineWord 15 = .ok (.aload_n 0, 1) := by decide +kernel
theorem dX5_takeLineWord_16 : decode cX5_takeLineWord 16 = .ok (.iload_n 2, 1) := by decide +kernel
theorem dX5_takeLineWord_17 : decode cX5_takeLineWord 17 = .ok (.invokestatic 95, 3) := by decide +kernel
theorem dX5_takeLineWord_20 : decode cX5_takeLineWord 20 = .ok (.invokevirtual 99, 3) := by decide +kernel
theorem dX5_takeLineWord_23 : decode cX5_takeLineWord 23 = .ok (.ifCond .eq 5, 3) := by decide +kernel
theorem dX5_takeLineWord_26 : decode cX5_takeLineWord 26 = .ok (.iload_n 2, 1) := by decide +kernel
theorem dX5_takeLineWord_27 : decode cX5_takeLineWord 27 = .ok (.istore_n 1, 1) := by decide +kernel
theorem dX5_takeLineWord_28 : decode cX5_takeLineWord 28 = .ok (.iinc 2 1, 3) := by decide +kernel
theorem dX5_takeLineWord_31 : decode cX5_takeLineWord 31 = .ok (.goto (-27), 3) := by decide +kernel
theorem dX5_takeLineWord_34 : decode cX5_takeLineWord 34 = .ok (.iload_n 1, 1) := by decide +kernel
theorem dX5_takeLineWord_35 : decode cX5_takeLineWord 35 = .ok (.iconst (-1), 1) := by decide +kernel
theorem dX5_takeLineWord_36 : decode cX5_takeLineWord 36 = .ok (.if_icmp .ne 5, 3) := by decide +kernel
theorem dX5_takeLineWord_39 : decode cX5_takeLineWord 39 = .ok (.iconst 1, 1) := by decide +kernel
theorem dX5_takeLineWord_40 : decode cX5_takeLineWord 40 = .ok (.ireturn, 1) := by decide +kernel
theorem dX5_takeLineWord_41 : decode cX5_takeLineWord 41 = .ok (.iload_n 1, 1) := by decide +kernel
theorem dX5_takeLineWord_42 : decode cX5_takeLineWord 42 = .ok (.bipush 7, 2) := by decide +kernel
theorem dX5_takeLineWord_44 : decode cX5_takeLineWord 44 = .ok (.if_icmp .eq 16, 3) := by decide +kernel
theorem dX5_takeLineWord_47 : decode cX5_takeLineWord 47 = .ok (.aload_n 0, 1) := by decide +kernel
theorem dX5_takeLineWord_48 : decode cX5_takeLineWord 48 = .ok (.getfield 44, 3) := by decide +kernel
theorem dX5_takeLineWord_51 : decode cX5_takeLineWord 51 = .ok (.iload_n 1, 1) := by decide +kernel
theorem dX5_takeLineWord_52 : decode cX5_takeLineWord 52 = .ok (.ishr, 1) := by decide +kernel
theorem dX5_takeLineWord_53 : decode cX5_takeLineWord 53 = .ok (.iconst 1, 1) := by decide +kernel
theorem dX5_takeLineWord_54 : decode cX5_takeLineWord 54 = .ok (.iand, 1) := by decide +kernel
theorem dX5_takeLineWord_55 : decode cX5_takeLineWord 55 = .ok (.ifCond .eq 5, 3) := by decide +kernel
theorem dX5_takeLineWord_58 : decode cX5_takeLineWord 58 = .ok (.iconst 3, 1) := by decide +kernel
theorem dX5_takeLineWord_59 : decode cX5_takeLineWord 59 = .ok (.ireturn, 1) := by decide +kernel
theorem dX5_takeLineWord_60 : decode cX5_takeLineWord 60 = .ok (.aload_n 0, 1) := by decide +kernel
theorem dX5_takeLineWord_61 : decode cX5_takeLineWord 61 = .ok (.dup, 1) := by decide +kernel
theorem dX5_takeLineWord_62 : decode cX5_takeLineWord 62 = .ok (.getfield 44, 3) := by decide +kernel
theorem dX5_takeLineWord_65 : decode cX5_takeLineWord 65 = .ok (.iconst 1, 1) := by decide +kernel
theorem dX5_takeLineWord_66 : decode cX5_takeLineWord 66 = .ok (.iload_n 1, 1) := by decide +kernel
theorem dX5_takeLineWord_67 : decode cX5_takeLineWord 67 = .ok (.ishl, 1) := by decide +kernel
theorem dX5_takeLineWord_68 : decode cX5_takeLineWord 68 = .ok (.ior, 1) := by decide +kernel
theorem dX5_takeLineWord_69 : decode cX5_takeLineWord 69 = .ok (.putfield 44, 3) := by decide +kernel
theorem dX5_takeLineWord_72 : decode cX5_takeLineWord 72 = .ok (.aload_n 0, 1) := by decide +kernel
theorem dX5_takeLineWord_73 : decode cX5_takeLineWord 73 = .ok (.iload_n 1, 1) := by decide +kernel
theorem dX5_takeLineWord_74 : decode cX5_takeLineWord 74 = .ok (.putfield 35, 3) := by decide +kernel
theorem dX5_takeLineWord_77 : decode cX5_takeLineWord 77 = .ok (.aload_n 0, 1) := by decide +kernel
theorem dX5_takeLineWord_78 : decode cX5_takeLineWord 78 = .ok (.iconst 0, 1) := by decide +kernel
theorem dX5_takeLineWord_79 : decode cX5_takeLineWord 79 = .ok (.putfield 38, 3) := by decide +kernel
theorem dX5_takeLineWord_82 : decode cX5_takeLineWord 82 = .ok (.iconst 0, 1) := by decide +kernel
theorem dX5_takeLineWord_83 : decode cX5_takeLineWord 83 = .ok (.ireturn, 1) := by decide +kernel
set_option maxRecDepth 20000 in
theorem ggX5_takeLineEnd_X5_tokenIs : GoodIn wsX5_takeLineEnd wsX5_tokenIs := goodIn_r _ [7, 8, 9, 10, 11, 12, 13, 14, 15, 16, 17, 18, 19, 20, 21, 22, 23, 24, 25, 26, 27, 28, 29, 30, 31, 32, 33, 34, 35, 36, 37, 38, 39, 40, 41, 42, 43, 44, 45, 46, 47, 48, 49, 50, 51, 52, 53, 54, 55, 56, 57, 58, 59, 60, 61, 62, 63, 64, 65, 66, 67, 68, 69, 70, 71, 72, 73, 74] (by decide +kernel) (by decide +kernel)
set_option maxRecDepth 20000 in
theorem gX5_takeLineEnd_X5_tokenIs : GoodIn wsX5_takeLineEnd (wsV RX5 99 RX5 yX5_tokenIs wsX5_tokenIs) := goodIn_app (goodIn_of _ (by decide +kernel)) ggX5_takeLineEnd_X5_tokenIs
theorem dX5_takeLineEnd_0 : decode cX5_takeLineEnd 0 = .ok (.aload_n 0, 1) := by decide +kernel
theorem dX5_takeLineEnd_1 : decode cX5_takeLineEnd 1 = .ok (.ldc 103, 2) := by decide +kernel
theorem dX5_takeLineEnd_3 : decode cX5_takeLineEnd 3 = .ok (.invokevirtual 99, 3) := by decide +kernel
theorem dX5_takeLineEnd_6 : decode cX5_takeLineEnd 6 = .ok (.ifCond .ne 5, 3) := by decide +kernel
theorem dX5_takeLineEnd_9 : decode cX5_takeLineEnd 9 = .ok (.iconst 1, 1) := by decide +kernel
theorem dX5_takeLineEnd_10 : decode cX5_takeLineEnd 10 = .ok (.ireturn, 1) := by decide +kernel
theorem dX5_takeLineEnd_11 : decode cX5_takeLineEnd 11 = .ok (.aload_n 0, 1) := by decide +kernel
theorem dX5_takeLineEnd_12 : decode cX5_takeLineEnd 12 = .ok (.dup, 1) := by decide +kernel
theorem dX5_takeLineEnd_13 : decode cX5_takeLineEnd 13 = .ok (.getfield 32, 3) := by decide +kernel
theorem dX5_takeLineEnd_16 : decode cX5_takeLineEnd 16 = .ok (.iconst 1, 1) := by decide +kernel
theorem dX5_takeLineEnd_17 : decode cX5_takeLineEnd 17 = .ok (.iadd, 1) := by decide +kernel
theorem dX5_takeLineEnd_18 : decode cX5_takeLineEnd 18 = .ok (.putfield 32, 3) := by decide +kernel
theorem dX5_takeLineEnd_21 : decode cX5_takeLineEnd 21 = .ok (.aload_n 0, 1) := by decide +kernel
theorem dX5_takeLineEnd_22 : decode cX5_takeLineEnd 22 = .ok (.iconst (-1), 1) := by decide +kernel
theorem dX5_takeLineEnd_23 : decode cX5_takeLineEnd 23 = .ok (.putfield 35, 3) := by decide +kernel
theorem dX5_takeLineEnd_26 : decode cX5_takeLineEnd 26 = .ok (.iconst 0, 1) := by decide +kernel
theorem dX5_takeLineEnd_27 : decode cX5_takeLineEnd 27 = .ok (.ireturn, 1) := by decide +kernel
set_option maxRecDepth 20000 in
theorem ggX5_takeYesOrNo_X5_tokenIs : GoodIn wsX5_takeYesOrNo wsX5_tokenIs := goodIn_r _ [8, 9, 10, 11, 12, 13, 14, 15, 16, 17, 18, 19, 20, 21, 22, 23, 24, 25, 26, 27, 28, 29, 30, 31, 32, 33, 34, 35, 36, 37, 38, 39, 40, 41, 42, 43, 44, 45, 46, 47, 48, 49, 50, 51, 52, 53, 54, 55, 56, 57, 58, 59, 60, 61, 62, 63, 64, 65, 66, 67, 68, 69, 70, 71, 72, 73, 75, 76] (by decide +kernel) (by decide +kernel)
set_option maxRecDepth 20000 in
theorem gX5_takeYesOrNo_X5_tokenIs : GoodIn wsX5_takeYesOrNo (wsV RX5 99 RX5 yX5_tokenIs wsX5_tokenIs) := goodIn_app (goodIn_of _ (by decide +kernel)) ggX5_takeYesOrNo_X5_tokenIs
theorem dX5_takeYesOrNo_0 : decode cX5_takeYesOrNo 0 = .ok (.aload_n 0, 1) := by decide +kernel
theorem dX5_takeYesOrNo_1 : decode cX5_takeYesOrNo 1 = .ok (.ldc 105, 2) := by decide +kernel
theorem dX5_takeYesOrNo_3 : decode cX5_takeYesOrNo 3 = .ok (.invokevirtual 99, 3) := by decide +kernel
theorem dX5_takeYesOrNo_6 : decode cX5_takeYesOrNo 6 = .ok (.istore_n 1, 1) := by decide +kernel
theorem dX5_takeYesOrNo_7 : decode cX5_takeYesOrNo 7 = .ok (.iload_n 1, 1) := by decide +kernel
theorem dX5_takeYesOrNo_8 : decode cX5_takeYesOrNo 8 = .ok (.ifCond .ne 14, 3) := by decide +kernel
theorem dX5_takeYesOrNo_11 : decode cX5_takeYesOrNo 11 = .ok (.aload_n 0, 1) := by decide +kernel
theorem dX5_takeYesOrNo_12 : decode cX5_takeYesOrNo 12 = .ok (.ldc 107, 2) := by decide +kernel
theorem dX5_takeYesOrNo_14 : decode cX5_takeYesOrNo 14 = .ok (.invokevirtual 99, 3) := by decide +kernel
theorem dX5_takeYesOrNo_17 : decode cX5_takeYesOrNo 17 = .ok (.ifCond .ne 5, 3) := by decide +kernel
theorem dX5_takeYesOrNo_20 : decode cX5_takeYesOrNo 20 = .ok (.iconst 1, 1) := by decide +kernel
theorem dX5_takeYesOrNo_21 : decode cX5_takeYesOrNo 21 = .ok (.ireturn, 1) := by decide +kernel
theorem dX5_takeYesOrNo_22 : decode cX5_takeYesOrNo 22 = .ok (.aload_n 0, 1) := by decide +kernel
theorem dX5_takeYesOrNo_23 : decode cX5_takeYesOrNo 23 = .ok (.getfield 18, 3) := by decide +kernel
theorem dX5_takeYesOrNo_26 : decode cX5_takeYesOrNo 26 = .ok (.getfield 109, 3) := by decide +kernel
theorem dX5_takeYesOrNo_29 : decode cX5_takeYesOrNo 29 = .ok (.iconst 4, 1) := by decide +kernel
theorem dX5_takeYesOrNo_30 : decode cX5_takeYesOrNo 30 = .ok (.iload_n 1, 1) := by decide +kernel
theorem dX5_takeYesOrNo_31 : decode cX5_takeYesOrNo 31 = .ok (.ifCond .eq 7, 3) := by decide +kernel
theorem dX5_takeYesOrNo_34 : decode cX5_takeYesOrNo 34 = .ok (.iconst 1, 1) := by decide +kernel
theorem dX5_takeYesOrNo_35 : decode cX5_takeYesOrNo 35 = .ok (.goto 4, 3) := by decide +kernel
theorem dX5_takeYesOrNo_38 : decode cX5_takeYesOrNo 38 = .ok (.iconst 0, 1) := by decide +kernel
theorem dX5_takeYesOrNo_39 : decode cX5_takeYesOrNo 39 = .ok (.iastore, 1) := by decide +kernel
theorem dX5_takeYesOrNo_40 : decode cX5_takeYesOrNo 40 = .ok (.aload_n 0, 1) := by decide +kernel
theorem dX5_takeYesOrNo_41 : decode cX5_takeYesOrNo 41 = .ok (.dup, 1) := by decide +kernel
theorem dX5_takeYesOrNo_42 : decode cX5_takeYesOrNo 42 = .ok (.getfield 38, 3) := by decide +kernel
theorem dX5_takeYesOrNo_45 : decode cX5_takeYesOrNo 45 = .ok (.iconst 1, 1) := by decide +kernel
theorem dX5_takeYesOrNo_46 : decode cX5_takeYesOrNo 46 = .ok (.iadd, 1) := by decide +kernel
theorem dX5_takeYesOrNo_47 : decode cX5_takeYesOrNo 47 = .ok (.putfield 38, 3) := by decide +kernel
theorem dX5_takeYesOrNo_50 : decode cX5_takeYesOrNo 50 = .ok (.iconst 0, 1) := by decide +kernel
theorem dX5_takeYesOrNo_51 : decode cX5_takeYesOrNo 51 = .ok (.ireturn, 1) := by decide +kernel
set_option maxRecDepth 20000 in
theorem ggX5_takeNumber_X5_tokenNumber : GoodIn wsX5_takeNumber wsX5_tokenNumber := goodIn_r _ [11, 12, 13, 14, 15, 16, 17, 18, 26, 27, 28, 29, 30, 31, 32, 33, 34, 35, 36, 37, 39, 40] (by decide +kernel) (by decide +kernel)
set_option maxRecDepth 20000 in
theorem gX5_takeNumber_X5_tokenNumber : GoodIn wsX5_takeNumber (wsV RX5 112 RX5 yX5_tokenNumber wsX5_tokenNumber) := goodIn_app (goodIn_of _ (by decide +kernel)) ggX5_takeNumber_X5_tokenNumber
set_option maxRecDepth 20000 in
theorem ggX5_takeNumber_X5_mostOf : GoodIn wsX5_takeNumber wsX5_mostOf := goodIn_r _ [21] (by decide +kernel) (by decide +kernel)
set_option maxRecDepth 20000 in
theorem gX5_takeNumber_X5_mostOf : GoodIn wsX5_takeNumber (va_wsS RX5 115 yX5_mostOf wsX5_mostOf) := goodIn_app (goodIn_of _ (by decide +kernel)) ggX5_takeNumber_X5_mostOf
set_option maxRecDepth 20000 in
theorem ggX5_takeNumber_X5_placeOf : GoodIn wsX5_takeNumber wsX5_placeOf := goodIn_r _ [25, 4, 26, 27, 28, 29, 30, 31, 32, 33, 34, 35, 36, 37] (by decide +kernel) (by decide +kernel)
set_option maxRecDepth 20000 in
theorem gX5_takeNumber_X5_placeOf : GoodIn wsX5_takeNumber (wsV RX5 122 RX5 yX5_placeOf wsX5_placeOf) := goodIn_app (goodIn_of _ (by decide +kernel)) ggX5_takeNumber_X5_placeOf
theorem dX5_takeNumber_0 : decode cX5_takeNumber 0 = .ok (.aload_n 0, 1) := by decide +kernel
theorem dX5_takeNumber_1 : decode cX5_takeNumber 1 = .ok (.invokevirtual 112, 3) := by decide +kernel
theorem dX5_takeNumber_4 : decode cX5_takeNumber 4 = .ok (.istore_n 1, 1) := by decide +kernel
theorem dX5_takeNumber_5 : decode cX5_takeNumber 5 = .ok (.iload_n 1, 1) := by decide +kernel
theorem dX5_takeNumber_6 : decode cX5_takeNumber 6 = .ok (.iconst (-1), 1) := by decide +kernel
theorem dX5_takeNumber_7 : decode cX5_takeNumber 7 = .ok (.if_icmp .ne 5, 3) := by decide +kernel
theorem dX5_takeNumber_10 : decode cX5_takeNumber 10 = .ok (.iconst 1, 1) := by decide +kernel
theorem dX5_takeNumber_11 : decode cX5_takeNumber 11 = .ok (.ireturn, 1) := by decide +kernel
theorem dX5_takeNumber_12 : decode cX5_takeNumber 12 = .ok (.iload_n 1, 1) := by decide +kernel
theorem dX5_takeNumber_13 : decode cX5_takeNumber 13 = .ok (.aload_n 0, 1) := by decide +kernel
theorem dX5_takeNumber_14 : decode cX5_takeNumber 14 = .ok (.getfield 35, 3) := by decide +kernel
theorem dX5_takeNumber_17 : decode cX5_takeNumber 17 = .ok (.aload_n 0, 1) := by decide +kernel
theorem dX5_takeNumber_18 : decode cX5_takeNumber 18 = .ok (.getfield 38, 3) := by decide +kernel
theorem dX5_takeNumber_21 : decode cX5_takeNumber 21 = .ok (.invokestatic 115, 3) := by decide +kernel
theorem dX5_takeNumber_24 : decode cX5_takeNumber 24 = .ok (.if_icmp .le 5, 3) := by decide +kernel
theorem dX5_takeNumber_27 : decode cX5_takeNumber 27 = .ok (.iconst 2, 1) := by decide +kernel
theorem dX5_takeNumber_28 : decode cX5_takeNumber 28 = .ok (.ireturn, 1) := by decide +kernel
theorem dX5_takeNumber_29 : decode cX5_takeNumber 29 = .ok (.aload_n 0, 1) := by decide +kernel
theorem dX5_takeNumber_30 : decode cX5_takeNumber 30 = .ok (.getfield 35, 3) := by decide +kernel
theorem dX5_takeNumber_33 : decode cX5_takeNumber 33 = .ok (.bipush 7, 2) := by decide +kernel
theorem dX5_takeNumber_35 : decode cX5_takeNumber 35 = .ok (.if_icmp .ne 43, 3) := by decide +kernel
theorem dX5_takeNumber_38 : decode cX5_takeNumber 38 = .ok (.aload_n 0, 1) := by decide +kernel
theorem dX5_takeNumber_39 : decode cX5_takeNumber 39 = .ok (.getfield 38, 3) := by decide +kernel
theorem dX5_takeNumber_42 : decode cX5_takeNumber 42 = .ok (.ifCond .ne 36, 3) := by decide +kernel
theorem dX5_takeNumber_45 : decode cX5_takeNumber 45 = .ok (.aload_n 0, 1) := by decide +kernel
theorem dX5_takeNumber_46 : decode cX5_takeNumber 46 = .ok (.getfield 41, 3) := by decide +kernel
theorem dX5_takeNumber_49 : decode cX5_takeNumber 49 = .ok (.iload_n 1, 1) := by decide +kernel
theorem dX5_takeNumber_50 : decode cX5_takeNumber 50 = .ok (.ishr, 1) := by decide +kernel
theorem dX5_takeNumber_51 : decode cX5_takeNumber 51 = .ok (.iconst 1, 1) := by decide +kernel
theorem dX5_takeNumber_52 : decode cX5_takeNumber 52 = .ok (.iand, 1) := by decide +kernel
theorem dX5_takeNumber_53 : decode cX5_takeNumber 53 = .ok (.ifCond .eq 5, 3) := by decide +kernel
theorem dX5_takeNumber_56 : decode cX5_takeNumber 56 = .ok (.iconst 3, 1) := by decide +kernel
theorem dX5_takeNumber_57 : decode cX5_takeNumber 57 = .ok (.ireturn, 1) := by decide +kernel
theorem dX5_takeNumber_58 : decode cX5_takeNumber 58 = .ok (.aload_n 0, 1) := by decide +kernel
theorem dX5_takeNumber_59 : decode cX5_takeNumber 59 = .ok (.dup, 1) := by decide +kernel
theorem dX5_takeNumber_60 : decode cX5_takeNumber 60 = .ok (.getfield 41, 3) := by decide +kernel
theorem dX5_takeNumber_63 : decode cX5_takeNumber 63 = .ok (.iconst 1, 1) := by decide +kernel
theorem dX5_takeNumber_64 : decode cX5_takeNumber 64 = .ok (.iload_n 1, 1) := by decide +kernel
theorem dX5_takeNumber_65 : decode cX5_takeNumber 65 = .ok (.ishl, 1) := by decide +kernel
theorem dX5_takeNumber_66 : decode cX5_takeNumber 66 = .ok (.ior, 1) := by decide +kernel
theorem dX5_takeNumber_67 : decode cX5_takeNumber 67 = .ok (.putfield 41, 3) := by decide +kernel
theorem dX5_takeNumber_70 : decode cX5_takeNumber 70 = .ok (.aload_n 0, 1) := by decide +kernel
theorem dX5_takeNumber_71 : decode cX5_takeNumber 71 = .ok (.iload_n 1, 1) := by decide +kernel
theorem dX5_takeNumber_72 : decode cX5_takeNumber 72 = .ok (.putfield 119, 3) := by decide +kernel
theorem dX5_takeNumber_75 : decode cX5_takeNumber 75 = .ok (.goto 24, 3) := by decide +kernel
theorem dX5_takeNumber_78 : decode cX5_takeNumber 78 = .ok (.aload_n 0, 1) := by decide +kernel
theorem dX5_takeNumber_79 : decode cX5_takeNumber 79 = .ok (.getfield 18, 3) := by decide +kernel
theorem dX5_takeNumber_82 : decode cX5_takeNumber 82 = .ok (.getfield 109, 3) := by decide +kernel
theorem dX5_takeNumber_85 : decode cX5_takeNumber 85 = .ok (.aload_n 0, 1) := by decide +kernel
theorem dX5_takeNumber_86 : decode cX5_takeNumber 86 = .ok (.aload_n 0, 1) := by decide +kernel
theorem dX5_takeNumber_87 : decode cX5_takeNumber 87 = .ok (.getfield 35, 3) := by decide +kernel
theorem dX5_takeNumber_90 : decode cX5_takeNumber 90 = .ok (.aload_n 0, 1) := by decide +kernel
theorem dX5_takeNumber_91 : decode cX5_takeNumber 91 = .ok (.getfield 38, 3) := by decide +kernel
theorem dX5_takeNumber_94 : decode cX5_takeNumber 94 = .ok (.invokevirtual 122, 3) := by decide +kernel
theorem dX5_takeNumber_97 : decode cX5_takeNumber 97 = .ok (.iload_n 1, 1) := by decide +kernel
theorem dX5_takeNumber_98 : decode cX5_takeNumber 98 = .ok (.iastore, 1) := by decide +kernel
theorem dX5_takeNumber_99 : decode cX5_takeNumber 99 = .ok (.aload_n 0, 1) := by decide +kernel
theorem dX5_takeNumber_100 : decode cX5_takeNumber 100 = .ok (.dup, 1) := by decide +kernel
theorem dX5_takeNumber_101 : decode cX5_takeNumber 101 = .ok (.getfield 38, 3) := by decide +kernel
theorem dX5_takeNumber_104 : decode cX5_takeNumber 104 = .ok (.iconst 1, 1) := by decide +kernel
theorem dX5_takeNumber_105 : decode cX5_takeNumber 105 = .ok (.iadd, 1) := by decide +kernel
theorem dX5_takeNumber_106 : decode cX5_takeNumber 106 = .ok (.putfield 38, 3) := by decide +kernel
theorem dX5_takeNumber_109 : decode cX5_takeNumber 109 = .ok (.iconst 0, 1) := by decide +kernel
theorem dX5_takeNumber_110 : decode cX5_takeNumber 110 = .ok (.ireturn, 1) := by decide +kernel
theorem dX5_placeOf_0 : decode cX5_placeOf 0 = .ok (.iload_n 1, 1) := by decide +kernel
theorem dX5_placeOf_1 : decode cX5_placeOf 1 = .ok (.tableswitch 49 5 7 #[27, 38, 41], 27) := by decide +kernel
theorem dX5_placeOf_28 : decode cX5_placeOf 28 = .ok (.iload_n 2, 1) := by decide +kernel
theorem dX5_placeOf_29 : decode cX5_placeOf 29 = .ok (.ifCond .ne 7, 3) := by decide +kernel
theorem dX5_placeOf_32 : decode cX5_placeOf 32 = .ok (.iconst 5, 1) := by decide +kernel
theorem dX5_placeOf_33 : decode cX5_placeOf 33 = .ok (.goto 5, 3) := by decide +kernel
theorem dX5_placeOf_36 : decode cX5_placeOf 36 = .ok (.bipush 6, 2) := by decide +kernel
theorem dX5_placeOf_38 : decode cX5_placeOf 38 = .ok (.ireturn, 1) := by decide +kernel
theorem dX5_placeOf_39 : decode cX5_placeOf 39 = .ok (.bipush 7, 2) := by decide +kernel
theorem dX5_placeOf_41 : decode cX5_placeOf 41 = .ok (.ireturn, 1) := by decide +kernel
theorem dX5_placeOf_42 : decode cX5_placeOf 42 = .ok (.bipush 10, 2) := by decide +kernel
theorem dX5_placeOf_44 : decode cX5_placeOf 44 = .ok (.aload_n 0, 1) := by decide +kernel
theorem dX5_placeOf_45 : decode cX5_placeOf 45 = .ok (.getfield 119, 3) := by decide +kernel
theorem dX5_placeOf_48 : decode cX5_placeOf 48 = .ok (.iadd, 1) := by decide +kernel
theorem dX5_placeOf_49 : decode cX5_placeOf 49 = .ok (.ireturn, 1) := by decide +kernel
theorem dX5_placeOf_50 : decode cX5_placeOf 50 = .ok (.iload_n 1, 1) := by decide +kernel
theorem dX5_placeOf_51 : decode cX5_placeOf 51 = .ok (.ireturn, 1) := by decide +kernel
theorem dX5_partsOf_0 : decode cX5_partsOf 0 = .ok (.iload_n 0, 1) := by decide +kernel
theorem dX5_partsOf_1 : decode cX5_partsOf 1 = .ok (.iconst 5, 1) := by decide +kernel
theorem dX5_partsOf_2 : decode cX5_partsOf 2 = .ok (.if_icmp .eq 9, 3) := by decide +kernel
theorem dX5_partsOf_5 : decode cX5_partsOf 5 = .ok (.iload_n 0, 1) := by decide +kernel
theorem dX5_partsOf_6 : decode cX5_partsOf 6 = .ok (.bipush 7, 2) := by decide +kernel
theorem dX5_partsOf_8 : decode cX5_partsOf 8 = .ok (.if_icmp .ne 7, 3) := by decide +kernel
theorem dX5_partsOf_11 : decode cX5_partsOf 11 = .ok (.iconst 2, 1) := by decide +kernel
theorem dX5_partsOf_12 : decode cX5_partsOf 12 = .ok (.goto 4, 3) := by decide +kernel
theorem dX5_partsOf_15 : decode cX5_partsOf 15 = .ok (.iconst 1, 1) := by decide +kernel
theorem dX5_partsOf_16 : decode cX5_partsOf 16 = .ok (.ireturn, 1) := by decide +kernel
theorem dX5_mostOf_0 : decode cX5_mostOf 0 = .ok (.iload_n 0, 1) := by decide +kernel
theorem dX5_mostOf_1 : decode cX5_mostOf 1 = .ok (.tableswitch 69 2 7 #[39, 69, 69, 42, 54, 57], 39) := by decide +kernel
theorem dX5_mostOf_40 : decode cX5_mostOf 40 = .ok (.bipush 6, 2) := by decide +kernel
theorem dX5_mostOf_42 : decode cX5_mostOf 42 = .ok (.ireturn, 1) := by decide +kernel
theorem dX5_mostOf_43 : decode cX5_mostOf 43 = .ok (.iload_n 1, 1) := by decide +kernel
theorem dX5_mostOf_44 : decode cX5_mostOf 44 = .ok (.ifCond .ne 8, 3) := by decide +kernel
theorem dX5_mostOf_47 : decode cX5_mostOf 47 = .ok (.bipush 99, 2) := by decide +kernel
theorem dX5_mostOf_49 : decode cX5_mostOf 49 = .ok (.goto 5, 3) := by decide +kernel
theorem dX5_mostOf_52 : decode cX5_mostOf 52 = .ok (.bipush 100, 2) := by decide +kernel
theorem dX5_mostOf_54 : decode cX5_mostOf 54 = .ok (.ireturn, 1) := by decide +kernel
theorem dX5_mostOf_55 : decode cX5_mostOf 55 = .ok (.bipush 100, 2) := by decide +kernel
theorem dX5_mostOf_57 : decode cX5_mostOf 57 = .ok (.ireturn, 1) := by decide +kernel
theorem dX5_mostOf_58 : decode cX5_mostOf 58 = .ok (.iload_n 1, 1) := by decide +kernel
theorem dX5_mostOf_59 : decode cX5_mostOf 59 = .ok (.ifCond .ne 8, 3) := by decide +kernel
theorem dX5_mostOf_62 : decode cX5_mostOf 62 = .ok (.bipush 7, 2) := by decide +kernel
theorem dX5_mostOf_64 : decode cX5_mostOf 64 = .ok (.goto 5, 3) := by decide +kernel
theorem dX5_mostOf_67 : decode cX5_mostOf 67 = .ok (.bipush 99, 2) := by decide +kernel
theorem dX5_mostOf_69 : decode cX5_mostOf 69 = .ok (.ireturn, 1) := by decide +kernel
theorem dX5_mostOf_70 : decode cX5_mostOf 70 = .ok (.sipush 999, 3) := by decide +kernel
theorem dX5_mostOf_73 : decode cX5_mostOf 73 = .ok (.ireturn, 1) := by decide +kernel
theorem dX5_lineWordText_0 : decode cX5_lineWordText 0 = .ok (.iload_n 0, 1) := by decide +kernel
theorem dX5_lineWordText_1 : decode cX5_lineWordText 1 = .ok (.tableswitch 64 0 6 #[43, 46, 49, 52, 55, 58, 61], 43) := by decide +kernel
theorem dX5_lineWordText_44 : decode cX5_lineWordText 44 = .ok (.ldc 125, 2) := by decide +kernel
theorem dX5_lineWordText_46 : decode cX5_lineWordText 46 = .ok (.areturn, 1) := by decide +kernel
theorem dX5_lineWordText_47 : decode cX5_lineWordText 47 = .ok (.ldc 127, 2) := by decide +kernel
theorem dX5_lineWordText_49 : decode cX5_lineWordText 49 = .ok (.areturn, 1) := by decide +kernel
theorem dX5_lineWordText_50 : decode cX5_lineWordText 50 = .ok (.ldc 129, 2) := by decide +kernel
theorem dX5_lineWordText_52 : decode cX5_lineWordText 52 = .ok (.areturn, 1) := by decide +kernel
theorem dX5_lineWordText_53 : decode cX5_lineWordText 53 = .ok (.ldc 131, 2) := by decide +kernel
theorem dX5_lineWordText_55 : decode cX5_lineWordText 55 = .ok (.areturn, 1) := by decide +kernel
theorem dX5_lineWordText_56 : decode cX5_lineWordText 56 = .ok (.ldc 133, 2) := by decide +kernel
theorem dX5_lineWordText_58 : decode cX5_lineWordText 58 = .ok (.areturn, 1) := by decide +kernel
theorem dX5_lineWordText_59 : decode cX5_lineWordText 59 = .ok (.ldc 135, 2) := by decide +kernel
theorem dX5_lineWordText_61 : decode cX5_lineWordText 61 = .ok (.areturn, 1) := by decide +kernel
theorem dX5_lineWordText_62 : decode cX5_lineWordText 62 = .ok (.ldc 137, 2) := by decide +kernel
theorem dX5_lineWordText_64 : decode cX5_lineWordText 64 = .ok (.areturn, 1) := by decide +kernel
theorem dX5_lineWordText_65 : decode cX5_lineWordText 65 = .ok (.ldc 139, 2) := by decide +kernel
theorem dX5_lineWordText_67 : decode cX5_lineWordText 67 = .ok (.areturn, 1) := by decide +kernel
set_option maxRecDepth 20000 in
theorem ggX5_tokenIs_J0_length_8abf5 : GoodIn wsX5_tokenIs wsJ0_length_8abf5 := goodIn_r _ [9, 10, 11, 12, 13, 8, 14, 15, 16] (by decide +kernel) (by decide +kernel)
set_option maxRecDepth 20000 in
theorem gX5_tokenIs_J0_length_8abf5 : GoodIn wsX5_tokenIs (wsV RX5 140 RJ0 yJ0_length_8abf5 wsJ0_length_8abf5) := goodIn_app (goodIn_of _ (by decide +kernel)) ggX5_tokenIs_J0_length_8abf5
set_option maxRecDepth 20000 in
theorem ggX5_tokenIs_J0_charAt_5068e : GoodIn wsX5_tokenIs wsJ0_charAt_5068e := goodIn_r _ [20, 10, 21, 22, 23, 8, 24, 15, 16, 25, 26, 27, 28, 29, 30, 31, 32, 33, 34, 35, 36, 37, 38, 39, 40, 41, 42, 43, 44, 45, 46, 47, 48, 49, 50, 51, 52, 53] (by decide +kernel) (by decide +kernel)
set_option maxRecDepth 20000 in
theorem gX5_tokenIs_J0_charAt_5068e : GoodIn wsX5_tokenIs (wsV RX5 144 RJ0 yJ0_charAt_5068e wsJ0_charAt_5068e) := goodIn_app (goodIn_of _ (by decide +kernel)) ggX5_tokenIs_J0_charAt_5068e
theorem dX5_tokenIs_0 : decode cX5_tokenIs 0 = .ok (.aload_n 0, 1) := by decide +kernel
theorem dX5_tokenIs_1 : decode cX5_tokenIs 1 = .ok (.getfield 47, 3) := by decide +kernel
theorem dX5_tokenIs_4 : decode cX5_tokenIs 4 = .ok (.aload_n 0, 1) := by decide +kernel
theorem dX5_tokenIs_5 : decode cX5_tokenIs 5 = .ok (.getfield 58, 3) := by decide +kernel
theorem dX5_tokenIs_8 : decode cX5_tokenIs 8 = .ok (.isub, 1) := by decide +kernel
theorem dX5_tokenIs_9 : decode cX5_tokenIs 9 = .ok (.aload_n 1, 1) := by decide +kernel
theorem dX5_tokenIs_10 : decode cX5_tokenIs 10 = .ok (.invokevirtual 140, 3) := by decide +kernel
theorem dX5_tokenIs_13 : decode cX5_tokenIs 13 = .ok (.if_icmp .eq 5, 3) := by decide +kernel
theorem dX5_tokenIs_16 : decode cX5_tokenIs 16 = .ok (.iconst 0, 1) := by decide +kernel
theorem dX5_tokenIs_17 : decode cX5_tokenIs 17 = .ok (.ireturn, 1) := by decide +kernel
theorem dX5_tokenIs_18 : decode cX5_tokenIs 18 = .ok (.iconst 0, 1) := by decide +kernel
theorem dX5_tokenIs_19 : decode cX5_tokenIs 19 = .ok (.istore_n 2, 1) := by decide +kernel
theorem dX5_tokenIs_20 : decode cX5_tokenIs 20 = .ok (.iload_n 2, 1) := by decide +kernel
theorem dX5_tokenIs_21 : decode cX5_tokenIs 21 = .ok (.aload_n 1, 1) := by decide +kernel
theorem dX5_tokenIs_22 : decode cX5_tokenIs 22 = .ok (.invokevirtual 140, 3) := by decide +kernel
theorem dX5_tokenIs_25 : decode cX5_tokenIs 25 = .ok (.if_icmp .ge 33, 3) := by decide +kernel
theorem dX5_tokenIs_28 : decode cX5_tokenIs 28 = .ok (.aload_n 0, 1) := by decide +kernel
theorem dX5_tokenIs_29 : decode cX5_tokenIs 29 = .ok (.getfield 9, 3) := by decide +kernel
theorem dX5_tokenIs_32 : decode cX5_tokenIs 32 = .ok (.getfield 65, 3) := by decide +kernel
theorem dX5_tokenIs_35 : decode cX5_tokenIs 35 = .ok (.aload_n 0, 1) := by decide +kernel
theorem dX5_tokenIs_36 : decode cX5_tokenIs 36 = .ok (.getfield 58, 3) := by decide +kernel
theorem dX5_tokenIs_39 : decode cX5_tokenIs 39 = .ok (.iload_n 2, 1) := by decide +kernel
theorem dX5_tokenIs_40 : decode cX5_tokenIs 40 = .ok (.iadd, 1) := by decide +kernel
theorem dX5_tokenIs_41 : decode cX5_tokenIs 41 = .ok (.iaload, 1) := by decide +kernel
theorem dX5_tokenIs_42 : decode cX5_tokenIs 42 = .ok (.aload_n 1, 1) := by decide +kernel
theorem dX5_tokenIs_43 : decode cX5_tokenIs 43 = .ok (.iload_n 2, 1) := by decide +kernel
theorem dX5_tokenIs_44 : decode cX5_tokenIs 44 = .ok (.invokevirtual 144, 3) := by decide +kernel
theorem dX5_tokenIs_47 : decode cX5_tokenIs 47 = .ok (.if_icmp .eq 5, 3) := by decide +kernel
theorem dX5_tokenIs_50 : decode cX5_tokenIs 50 = .ok (.iconst 0, 1) := by decide +kernel
theorem dX5_tokenIs_51 : decode cX5_tokenIs 51 = .ok (.ireturn, 1) := by decide +kernel
theorem dX5_tokenIs_52 : decode cX5_tokenIs 52 = .ok (.iinc 2 1, 3) := by decide +kernel
theorem dX5_tokenIs_55 : decode cX5_tokenIs 55 = .ok (.goto (-35), 3) := by decide +kernel
theorem dX5_tokenIs_58 : decode cX5_tokenIs 58 = .ok (.iconst 1, 1) := by decide +kernel
theorem dX5_tokenIs_59 : decode cX5_tokenIs 59 = .ok (.ireturn, 1) := by decide +kernel
set_option maxRecDepth 20000 in
theorem ggX5_tokenNumber_X10_isDigit : GoodIn wsX5_tokenNumber wsX10_isDigit := goodIn_r _ [7] (by decide +kernel) (by decide +kernel)
set_option maxRecDepth 20000 in
theorem gX5_tokenNumber_X10_isDigit_n76 : GoodIn wsX5_tokenNumber (wsX10_isDigit) := ggX5_tokenNumber_X10_isDigit
theorem dX5_tokenNumber_0 : decode cX5_tokenNumber 0 = .ok (.aload_n 0, 1) := by decide +kernel
theorem dX5_tokenNumber_1 : decode cX5_tokenNumber 1 = .ok (.getfield 47, 3) := by decide +kernel
theorem dX5_tokenNumber_4 : decode cX5_tokenNumber 4 = .ok (.aload_n 0, 1) := by decide +kernel
theorem dX5_tokenNumber_5 : decode cX5_tokenNumber 5 = .ok (.getfield 58, 3) := by decide +kernel
theorem dX5_tokenNumber_8 : decode cX5_tokenNumber 8 = .ok (.isub, 1) := by decide +kernel
theorem dX5_tokenNumber_9 : decode cX5_tokenNumber 9 = .ok (.iconst 4, 1) := by decide +kernel
theorem dX5_tokenNumber_10 : decode cX5_tokenNumber 10 = .ok (.if_icmp .gt 21, 3) := by decide +kernel
theorem dX5_tokenNumber_13 : decode cX5_tokenNumber 13 = .ok (.aload_n 0, 1) := by decide +kernel
theorem dX5_tokenNumber_14 : decode cX5_tokenNumber 14 = .ok (.getfield 9, 3) := by decide +kernel
theorem dX5_tokenNumber_17 : decode cX5_tokenNumber 17 = .ok (.getfield 65, 3) := by decide +kernel
theorem dX5_tokenNumber_20 : decode cX5_tokenNumber 20 = .ok (.aload_n 0, 1) := by decide +kernel
theorem dX5_tokenNumber_21 : decode cX5_tokenNumber 21 = .ok (.getfield 58, 3) := by decide +kernel
theorem dX5_tokenNumber_24 : decode cX5_tokenNumber 24 = .ok (.iaload, 1) := by decide +kernel
theorem dX5_tokenNumber_25 : decode cX5_tokenNumber 25 = .ok (.invokestatic 76, 3) := by decide +kernel
theorem dX5_tokenNumber_28 : decode cX5_tokenNumber 28 = .ok (.ifCond .ne 5, 3) := by decide +kernel
theorem dX5_tokenNumber_31 : decode cX5_tokenNumber 31 = .ok (.iconst (-1), 1) := by decide +kernel
theorem dX5_tokenNumber_32 : decode cX5_tokenNumber 32 = .ok (.ireturn, 1) := by decide +kernel
theorem dX5_tokenNumber_33 : decode cX5_tokenNumber 33 = .ok (.iconst 0, 1) := by decide +kernel
theorem dX5_tokenNumber_34 : decode cX5_tokenNumber 34 = .ok (.istore_n 1, 1) := by decide +kernel
theorem dX5_tokenNumber_35 : decode cX5_tokenNumber 35 = .ok (.aload_n 0, 1) := by decide +kernel
theorem dX5_tokenNumber_36 : decode cX5_tokenNumber 36 = .ok (.getfield 58, 3) := by decide +kernel
theorem dX5_tokenNumber_39 : decode cX5_tokenNumber 39 = .ok (.istore_n 2, 1) := by decide +kernel
theorem dX5_tokenNumber_40 : decode cX5_tokenNumber 40 = .ok (.iload_n 2, 1) := by decide +kernel
theorem dX5_tokenNumber_41 : decode cX5_tokenNumber 41 = .ok (.aload_n 0, 1) := by decide +kernel
theorem dX5_tokenNumber_42 : decode cX5_tokenNumber 42 = .ok (.getfield 47, 3) := by decide +kernel
theorem dX5_tokenNumber_45 : decode cX5_tokenNumber 45 = .ok (.if_icmp .ge 27, 3) := by decide +kernel
theorem dX5_tokenNumber_48 : decode cX5_tokenNumber 48 = .ok (.iload_n 1, 1) := by decide +kernel
theorem dX5_tokenNumber_49 : decode cX5_tokenNumber 49 = .ok (.bipush 10, 2) := by decide +kernel
theorem dX5_tokenNumber_51 : decode cX5_tokenNumber 51 = .ok (.imul, 1) := by decide +kernel
theorem dX5_tokenNumber_52 : decode cX5_tokenNumber 52 = .ok (.aload_n 0, 1) := by decide +kernel
theorem dX5_tokenNumber_53 : decode cX5_tokenNumber 53 = .ok (.getfield 9, 3) := by decide +kernel
theorem dX5_tokenNumber_56 : decode cX5_tokenNumber 56 = .ok (.getfield 65, 3) := by decide +kernel
theorem dX5_tokenNumber_59 : decode cX5_tokenNumber 59 = .ok (.iload_n 2, 1) := by decide +kernel
theorem dX5_tokenNumber_60 : decode cX5_tokenNumber 60 = .ok (.iaload, 1) := by decide +kernel
theorem dX5_tokenNumber_61 : decode cX5_tokenNumber 61 = .ok (.bipush 48, 2) := by decide +kernel
theorem dX5_tokenNumber_63 : decode cX5_tokenNumber 63 = .ok (.isub, 1) := by decide +kernel
theorem dX5_tokenNumber_64 : decode cX5_tokenNumber 64 = .ok (.iadd, 1) := by decide +kernel
theorem dX5_tokenNumber_65 : decode cX5_tokenNumber 65 = .ok (.istore_n 1, 1) := by decide +kernel
theorem dX5_tokenNumber_66 : decode cX5_tokenNumber 66 = .ok (.iinc 2 1, 3) := by decide +kernel
theorem dX5_tokenNumber_69 : decode cX5_tokenNumber 69 = .ok (.goto (-29), 3) := by decide +kernel
theorem dX5_tokenNumber_72 : decode cX5_tokenNumber 72 = .ok (.iload_n 1, 1) := by decide +kernel
theorem dX5_tokenNumber_73 : decode cX5_tokenNumber 73 = .ok (.ireturn, 1) := by decide +kernel
theorem dX6_init_0 : decode cX6_init 0 = .ok (.aload_n 0, 1) := by decide +kernel
theorem dX6_init_1 : decode cX6_init 1 = .ok (.invokespecial 3, 3) := by decide +kernel
theorem dX6_init_4 : decode cX6_init 4 = .ok (.aload_n 0, 1) := by decide +kernel
theorem dX6_init_5 : decode cX6_init 5 = .ok (.bipush 40, 2) := by decide +kernel
theorem dX6_init_7 : decode cX6_init 7 = .ok (.newarray .int, 2) := by decide +kernel
theorem dX6_init_9 : decode cX6_init 9 = .ok (.putfield 9, 3) := by decide +kernel
theorem dX6_init_12 : decode cX6_init 12 = .ok (.aload_n 0, 1) := by decide +kernel
theorem dX6_init_13 : decode cX6_init 13 = .ok (.sipush 320, 3) := by decide +kernel
theorem dX6_init_16 : decode cX6_init 16 = .ok (.newarray .int, 2) := by decide +kernel
theorem dX6_init_18 : decode cX6_init 18 = .ok (.putfield 15, 3) := by decide +kernel
theorem dX6_init_21 : decode cX6_init 21 = .ok (.aload_n 0, 1) := by decide +kernel
theorem dX6_init_22 : decode cX6_init 22 = .ok (.sipush 320, 3) := by decide +kernel
theorem dX6_init_25 : decode cX6_init 25 = .ok (.newarray .int, 2) := by decide +kernel
theorem dX6_init_27 : decode cX6_init 27 = .ok (.putfield 18, 3) := by decide +kernel
theorem dX6_init_30 : decode cX6_init 30 = .ok (.aload_n 0, 1) := by decide +kernel
theorem dX6_init_31 : decode cX6_init 31 = .ok (.sipush 320, 3) := by decide +kernel
theorem dX6_init_34 : decode cX6_init 34 = .ok (.newarray .int, 2) := by decide +kernel
theorem dX6_init_36 : decode cX6_init 36 = .ok (.putfield 21, 3) := by decide +kernel
theorem dX6_init_39 : decode cX6_init 39 = .ok (.aload_n 0, 1) := by decide +kernel
theorem dX6_init_40 : decode cX6_init 40 = .ok (.sipush 320, 3) := by decide +kernel
theorem dX6_init_43 : decode cX6_init 43 = .ok (.newarray .int, 2) := by decide +kernel
theorem dX6_init_45 : decode cX6_init 45 = .ok (.putfield 24, 3) := by decide +kernel
theorem dX6_init_48 : decode cX6_init 48 = .ok (.return_, 1) := by decide +kernel
theorem dX6_addNumbering_0 : decode cX6_addNumbering 0 = .ok (.iload_n 1, 1) := by decide +kernel
theorem dX6_addNumbering_1 : decode cX6_addNumbering 1 = .ok (.bipush 8, 2) := by decide +kernel
theorem dX6_addNumbering_3 : decode cX6_addNumbering 3 = .ok (.imul, 1) := by decide +kernel
theorem dX6_addNumbering_4 : decode cX6_addNumbering 4 = .ok (.aload_n 0, 1) := by decide +kernel
theorem dX6_addNumbering_5 : decode cX6_addNumbering 5 = .ok (.getfield 9, 3) := by decide +kernel
theorem dX6_addNumbering_8 : decode cX6_addNumbering 8 = .ok (.iload_n 1, 1) := by decide +kernel
theorem dX6_addNumbering_9 : decode cX6_addNumbering 9 = .ok (.iaload, 1) := by decide +kernel
theorem dX6_addNumbering_10 : decode cX6_addNumbering 10 = .ok (.iadd, 1) := by decide +kernel
theorem dX6_addNumbering_11 : decode cX6_addNumbering 11 = .ok (.istore 6, 2) := by decide +kernel
theorem dX6_addNumbering_13 : decode cX6_addNumbering 13 = .ok (.aload_n 0, 1) := by decide +kernel
theorem dX6_addNumbering_14 : decode cX6_addNumbering 14 = .ok (.getfield 15, 3) := by decide +kernel
theorem dX6_addNumbering_17 : decode cX6_addNumbering 17 = .ok (.iload 6, 2) := by decide +kernel
theorem dX6_addNumbering_19 : decode cX6_addNumbering 19 = .ok (.iload_n 2, 1) := by decide +kernel
theorem dX6_addNumbering_20 : decode cX6_addNumbering 20 = .ok (.iastore, 1) := by decide +kernel
theorem dX6_addNumbering_21 : decode cX6_addNumbering 21 = .ok (.aload_n 0, 1) := by decide +kernel
theorem dX6_addNumbering_22 : decode cX6_addNumbering 22 = .ok (.getfield 18, 3) := by decide +kernel
theorem dX6_addNumbering_25 : decode cX6_addNumbering 25 = .ok (.iload 6, 2) := by decide +kernel
theorem dX6_addNumbering_27 : decode cX6_addNumbering 27 = .ok (.iload_n 3, 1) := by decide +kernel
theorem dX6_addNumbering_28 : decode cX6_addNumbering 28 = .ok (.iastore, 1) := by decide +kernel
theorem dX6_addNumbering_29 : decode cX6_addNumbering 29 = .ok (.aload_n 0, 1) := by decide +kernel
theorem dX6_addNumbering_30 : decode cX6_addNumbering 30 = .ok (.getfield 21, 3) := by decide +kernel
theorem dX6_addNumbering_33 : decode cX6_addNumbering 33 = .ok (.iload 6, 2) := by decide +kernel
theorem dX6_addNumbering_35 : decode cX6_addNumbering 35 = .ok (.iload 4, 2) := by decide +kernel
theorem dX6_addNumbering_37 : decode cX6_addNumbering 37 = .ok (.iastore, 1) := by decide +kernel
theorem dX6_addNumbering_38 : decode cX6_addNumbering 38 = .ok (.aload_n 0, 1) := by decide +kernel
theorem dX6_addNumbering_39 : decode cX6_addNumbering 39 = .ok (.getfield 24, 3) := by decide +kernel
theorem dX6_addNumbering_42 : decode cX6_addNumbering 42 = .ok (.iload 6, 2) := by decide +kernel
theorem dX6_addNumbering_44 : decode cX6_addNumbering 44 = .ok (.iload 5, 2) := by decide +kernel
theorem dX6_addNumbering_46 : decode cX6_addNumbering 46 = .ok (.iastore, 1) := by decide +kernel
theorem dX6_addNumbering_47 : decode cX6_addNumbering 47 = .ok (.aload_n 0, 1) := by decide +kernel
theorem dX6_addNumbering_48 : decode cX6_addNumbering 48 = .ok (.getfield 9, 3) := by decide +kernel
theorem dX6_addNumbering_51 : decode cX6_addNumbering 51 = .ok (.iload_n 1, 1) := by decide +kernel
theorem dX6_addNumbering_52 : decode cX6_addNumbering 52 = .ok (.dup2, 1) := by decide +kernel
theorem dX6_addNumbering_53 : decode cX6_addNumbering 53 = .ok (.iaload, 1) := by decide +kernel
theorem dX6_addNumbering_54 : decode cX6_addNumbering 54 = .ok (.iconst 1, 1) := by decide +kernel
theorem dX6_addNumbering_55 : decode cX6_addNumbering 55 = .ok (.iadd, 1) := by decide +kernel
theorem dX6_addNumbering_56 : decode cX6_addNumbering 56 = .ok (.iastore, 1) := by decide +kernel
theorem dX6_addNumbering_57 : decode cX6_addNumbering 57 = .ok (.return_, 1) := by decide +kernel
set_option maxRecDepth 20000 in
theorem ggX6_isGone_X6_latestOf : GoodIn wsX6_isGone wsX6_latestOf := goodIn_r _ [6, 7, 8, 9, 10, 11, 12, 13] (by decide +kernel) (by decide +kernel)
set_option maxRecDepth 20000 in
theorem gX6_isGone_X6_latestOf : GoodIn wsX6_isGone (wsV RX6 27 RX6 yX6_latestOf wsX6_latestOf) := goodIn_app (goodIn_of _ (by decide +kernel)) ggX6_isGone_X6_latestOf
theorem dX6_isGone_0 : decode cX6_isGone 0 = .ok (.aload_n 0, 1) := by decide +kernel
theorem dX6_isGone_1 : decode cX6_isGone 1 = .ok (.getfield 24, 3) := by decide +kernel
theorem dX6_isGone_4 : decode cX6_isGone 4 = .ok (.aload_n 0, 1) := by decide +kernel
theorem dX6_isGone_5 : decode cX6_isGone 5 = .ok (.iload_n 1, 1) := by decide +kernel
theorem dX6_isGone_6 : decode cX6_isGone 6 = .ok (.invokevirtual 27, 3) := by decide +kernel
theorem dX6_isGone_9 : decode cX6_isGone 9 = .ok (.iaload, 1) := by decide +kernel
theorem dX6_isGone_10 : decode cX6_isGone 10 = .ok (.ifCond .ne 7, 3) := by decide +kernel
theorem dX6_isGone_13 : decode cX6_isGone 13 = .ok (.iconst 1, 1) := by decide +kernel
theorem dX6_isGone_14 : decode cX6_isGone 14 = .ok (.goto 4, 3) := by decide +kernel
theorem dX6_isGone_17 : decode cX6_isGone 17 = .ok (.iconst 0, 1) := by decide +kernel
theorem dX6_isGone_18 : decode cX6_isGone 18 = .ok (.ireturn, 1) := by decide +kernel
set_option maxRecDepth 20000 in
theorem ggX6_latestChange_X6_latestOf : GoodIn wsX6_latestChange wsX6_latestOf := goodIn_r _ [6, 7, 8, 9, 10, 11, 12, 13] (by decide +kernel) (by decide +kernel)
set_option maxRecDepth 20000 in
theorem gX6_latestChange_X6_latestOf : GoodIn wsX6_latestChange (wsV RX6 27 RX6 yX6_latestOf wsX6_latestOf) := goodIn_app (goodIn_of _ (by decide +kernel)) ggX6_latestChange_X6_latestOf
theorem dX6_latestChange_0 : decode cX6_latestChange 0 = .ok (.aload_n 0, 1) := by decide +kernel
theorem dX6_latestChange_1 : decode cX6_latestChange 1 = .ok (.getfield 18, 3) := by decide +kernel
theorem dX6_latestChange_4 : decode cX6_latestChange 4 = .ok (.aload_n 0, 1) := by decide +kernel
theorem dX6_latestChange_5 : decode cX6_latestChange 5 = .ok (.iload_n 1, 1) := by decide +kernel
theorem dX6_latestChange_6 : decode cX6_latestChange 6 = .ok (.invokevirtual 27, 3) := by decide +kernel
theorem dX6_latestChange_9 : decode cX6_latestChange 9 = .ok (.iaload, 1) := by decide +kernel
theorem dX6_latestChange_10 : decode cX6_latestChange 10 = .ok (.ireturn, 1) := by decide +kernel
theorem dX6_latestOf_0 : decode cX6_latestOf 0 = .ok (.iload_n 1, 1) := by decide +kernel
theorem dX6_latestOf_1 : decode cX6_latestOf 1 = .ok (.bipush 8, 2) := by decide +kernel
theorem dX6_latestOf_3 : decode cX6_latestOf 3 = .ok (.imul, 1) := by decide +kernel
theorem dX6_latestOf_4 : decode cX6_latestOf 4 = .ok (.aload_n 0, 1) := by decide +kernel
theorem dX6_latestOf_5 : decode cX6_latestOf 5 = .ok (.getfield 9, 3) := by decide +kernel
theorem dX6_latestOf_8 : decode cX6_latestOf 8 = .ok (.iload_n 1, 1) := by decide +kernel
theorem dX6_latestOf_9 : decode cX6_latestOf 9 = .ok (.iaload, 1) := by decide +kernel
theorem dX6_latestOf_10 : decode cX6_latestOf 10 = .ok (.iadd, 1) := by decide +kernel
theorem dX6_latestOf_11 : decode cX6_latestOf 11 = .ok (.iconst 1, 1) := by decide +kernel
theorem dX6_latestOf_12 : decode cX6_latestOf 12 = .ok (.isub, 1) := by decide +kernel
theorem dX6_latestOf_13 : decode cX6_latestOf 13 = .ok (.ireturn, 1) := by decide +kernel
set_option maxRecDepth 20000 in
theorem ggX6_surelyNumbered_X6_latestOf : GoodIn wsX6_surelyNumbered wsX6_latestOf := goodIn_r _ [8, 9, 10, 11, 12, 13, 14, 15] (by decide +kernel) (by decide +kernel)
set_option maxRecDepth 20000 in
theorem gX6_surelyNumbered_X6_latestOf : GoodIn wsX6_surelyNumbered (wsV RX6 27 RX6 yX6_latestOf wsX6_latestOf) := goodIn_app (goodIn_of _ (by decide +kernel)) ggX6_surelyNumbered_X6_latestOf
theorem dX6_surelyNumbered_0 : decode cX6_surelyNumbered 0 = .ok (.aload_n 0, 1) := by decide +kernel
theorem dX6_surelyNumbered_1 : decode cX6_surelyNumbered 1 = .ok (.iload_n 1, 1) := by decide +kernel
theorem dX6_surelyNumbered_2 : decode cX6_surelyNumbered 2 = .ok (.invokevirtual 27, 3) := by decide +kernel
theorem dX6_surelyNumbered_5 : decode cX6_surelyNumbered 5 = .ok (.istore_n 3, 1) := by decide +kernel
theorem dX6_surelyNumbered_6 : decode cX6_surelyNumbered 6 = .ok (.iload_n 1, 1) := by decide +kernel
theorem dX6_surelyNumbered_7 : decode cX6_surelyNumbered 7 = .ok (.bipush 8, 2) := by decide +kernel
theorem dX6_surelyNumbered_9 : decode cX6_surelyNumbered 9 = .ok (.imul, 1) := by decide +kernel
theorem dX6_surelyNumbered_10 : decode cX6_surelyNumbered 10 = .ok (.istore 4, 2) := by decide +kernel
theorem dX6_surelyNumbered_12 : decode cX6_surelyNumbered 12 = .ok (.iload 4, 2) := by decide +kernel
theorem dX6_surelyNumbered_14 : decode cX6_surelyNumbered 14 = .ok (.iload_n 3, 1) := by decide +kernel
theorem dX6_surelyNumbered_15 : decode cX6_surelyNumbered 15 = .ok (.if_icmp .gt 75, 3) := by decide +kernel
theorem dX6_surelyNumbered_18 : decode cX6_surelyNumbered 18 = .ok (.aload_n 0, 1) := by decide +kernel
theorem dX6_surelyNumbered_19 : decode cX6_surelyNumbered 19 = .ok (.getfield 18, 3) := by decide +kernel
theorem dX6_surelyNumbered_22 : decode cX6_surelyNumbered 22 = .ok (.iload 4, 2) := by decide +kernel
theorem dX6_surelyNumbered_24 : decode cX6_surelyNumbered 24 = .ok (.iaload, 1) := by decide +kernel
theorem dX6_surelyNumbered_25 : decode cX6_surelyNumbered 25 = .ok (.iload_n 2, 1) := by decide +kernel
theorem dX6_surelyNumbered_26 : decode cX6_surelyNumbered 26 = .ok (.if_icmp .gt 7, 3) := by decide +kernel
theorem dX6_surelyNumbered_29 : decode cX6_surelyNumbered 29 = .ok (.iconst 1, 1) := by decide +kernel
theorem dX6_surelyNumbered_30 : decode cX6_surelyNumbered 30 = .ok (.goto 4, 3) := by decide +kernel
theorem dX6_surelyNumbered_33 : decode cX6_surelyNumbered 33 = .ok (.iconst 0, 1) := by decide +kernel
theorem dX6_surelyNumbered_34 : decode cX6_surelyNumbered 34 = .ok (.istore 5, 2) := by decide +kernel
theorem dX6_surelyNumbered_36 : decode cX6_surelyNumbered 36 = .ok (.iload 4, 2) := by decide +kernel
theorem dX6_surelyNumbered_38 : decode cX6_surelyNumbered 38 = .ok (.iload_n 3, 1) := by decide +kernel
theorem dX6_surelyNumbered_39 : decode cX6_surelyNumbered 39 = .ok (.if_icmp .eq 16, 3) := by decide +kernel
theorem dX6_surelyNumbered_42 : decode cX6_surelyNumbered 42 = .ok (.aload_n 0, 1) := by decide +kernel
theorem dX6_surelyNumbered_43 : decode cX6_surelyNumbered 43 = .ok (.getfield 15, 3) := by decide +kernel
theorem dX6_surelyNumbered_46 : decode cX6_surelyNumbered 46 = .ok (.iload 4, 2) := by decide +kernel
theorem dX6_surelyNumbered_48 : decode cX6_surelyNumbered 48 = .ok (.iconst 1, 1) := by decide +kernel
theorem dX6_surelyNumbered_49 : decode cX6_surelyNumbered 49 = .ok (.iadd, 1) := by decide +kernel
theorem dX6_surelyNumbered_50 : decode cX6_surelyNumbered 50 = .ok (.iaload, 1) := by decide +kernel
theorem dX6_surelyNumbered_51 : decode cX6_surelyNumbered 51 = .ok (.iload_n 2, 1) := by decide +kernel
theorem dX6_surelyNumbered_52 : decode cX6_surelyNumbered 52 = .ok (.if_icmp .le 7, 3) := by decide +kernel
theorem dX6_surelyNumbered_55 : decode cX6_surelyNumbered 55 = .ok (.iconst 1, 1) := by decide +kernel
theorem dX6_surelyNumbered_56 : decode cX6_surelyNumbered 56 = .ok (.goto 4, 3) := by decide +kernel
theorem dX6_surelyNumbered_59 : decode cX6_surelyNumbered 59 = .ok (.iconst 0, 1) := by decide +kernel
theorem dX6_surelyNumbered_60 : decode cX6_surelyNumbered 60 = .ok (.istore 6, 2) := by decide +kernel
theorem dX6_surelyNumbered_62 : decode cX6_surelyNumbered 62 = .ok (.aload_n 0, 1) := by decide +kernel
theorem dX6_surelyNumbered_63 : decode cX6_surelyNumbered 63 = .ok (.getfield 24, 3) := by decide +kernel
theorem dX6_surelyNumbered_66 : decode cX6_surelyNumbered 66 = .ok (.iload 4, 2) := by decide +kernel
theorem dX6_surelyNumbered_68 : decode cX6_surelyNumbered 68 = .ok (.iaload, 1) := by decide +kernel
theorem dX6_surelyNumbered_69 : decode cX6_surelyNumbered 69 = .ok (.ifCond .eq 15, 3) := by decide +kernel
theorem dX6_surelyNumbered_72 : decode cX6_surelyNumbered 72 = .ok (.iload 5, 2) := by decide +kernel
theorem dX6_surelyNumbered_74 : decode cX6_surelyNumbered 74 = .ok (.ifCond .eq 10, 3) := by decide +kernel
theorem dX6_surelyNumbered_77 : decode cX6_surelyNumbered 77 = .ok (.iload 6, 2) := by decide +kernel
theorem dX6_surelyNumbered_79 : decode cX6_surelyNumbered 79 = .ok (.ifCond .eq 5, 3) := by decide +kernel
theorem dX6_surelyNumbered_82 : decode cX6_surelyNumbered 82 = .ok (.iconst 1, 1) := by decide +kernel
theorem dX6_surelyNumbered_83 : decode cX6_surelyNumbered 83 = .ok (.ireturn, 1) := by decide +kernel
theorem dX6_surelyNumbered_84 : decode cX6_surelyNumbered 84 = .ok (.iinc 4 1, 3) := by decide +kernel
theorem dX6_surelyNumbered_87 : decode cX6_surelyNumbered 87 = .ok (.goto (-75), 3) := by decide +kernel
theorem dX6_surelyNumbered_90 : decode cX6_surelyNumbered 90 = .ok (.iconst 0, 1) := by decide +kernel
theorem dX6_surelyNumbered_91 : decode cX6_surelyNumbered 91 = .ok (.ireturn, 1) := by decide +kernel
set_option maxRecDepth 20000 in
theorem ggX6_yearsMaybe_X6_latestOf : GoodIn wsX6_yearsMaybe wsX6_latestOf := goodIn_r _ [9, 10, 14, 15, 16, 17, 18, 19] (by decide +kernel) (by decide +kernel)
set_option maxRecDepth 20000 in
theorem gX6_yearsMaybe_X6_latestOf : GoodIn wsX6_yearsMaybe (wsV RX6 27 RX6 yX6_latestOf wsX6_latestOf) := goodIn_app (goodIn_of _ (by decide +kernel)) ggX6_yearsMaybe_X6_latestOf
set_option maxRecDepth 20000 in
theorem ggX6_yearsMaybe_X6_yearBits : GoodIn wsX6_yearsMaybe wsX6_yearBits := goodIn_r _ [13] (by decide +kernel) (by decide +kernel)
set_option maxRecDepth 20000 in
theorem gX6_yearsMaybe_X6_yearBits : GoodIn wsX6_yearsMaybe (va_wsS RX6 31 yX6_yearBits wsX6_yearBits) := goodIn_app (goodIn_of _ (by decide +kernel)) ggX6_yearsMaybe_X6_yearBits
theorem dX6_yearsMaybe_0 : decode cX6_yearsMaybe 0 = .ok (.lconst 0, 1) := by decide +kernel
theorem dX6_yearsMaybe_1 : decode cX6_yearsMaybe 1 = .ok (.lstore 6, 2) := by decide +kernel
theorem dX6_yearsMaybe_3 : decode cX6_yearsMaybe 3 = .ok (.aload_n 0, 1) := by decide +kernel
theorem dX6_yearsMaybe_4 : decode cX6_yearsMaybe 4 = .ok (.iload_n 1, 1) := by decide +kernel
theorem dX6_yearsMaybe_5 : decode cX6_yearsMaybe 5 = .ok (.invokevirtual 27, 3) := by decide +kernel
theorem dX6_yearsMaybe_8 : decode cX6_yearsMaybe 8 = .ok (.istore 8, 2) := by decide +kernel
theorem dX6_yearsMaybe_10 : decode cX6_yearsMaybe 10 = .ok (.iload_n 1, 1) := by decide +kernel
theorem dX6_yearsMaybe_11 : decode cX6_yearsMaybe 11 = .ok (.bipush 8, 2) := by decide +kernel
theorem dX6_yearsMaybe_13 : decode cX6_yearsMaybe 13 = .ok (.imul, 1) := by decide +kernel
theorem dX6_yearsMaybe_14 : decode cX6_yearsMaybe 14 = .ok (.istore 9, 2) := by decide +kernel
theorem dX6_yearsMaybe_16 : decode cX6_yearsMaybe 16 = .ok (.iload 9, 2) := by decide +kernel
theorem dX6_yearsMaybe_18 : decode cX6_yearsMaybe 18 = .ok (.iload 8, 2) := by decide +kernel
theorem dX6_yearsMaybe_20 : decode cX6_yearsMaybe 20 = .ok (.if_icmp .gt 78, 3) := by decide +kernel
theorem dX6_yearsMaybe_23 : decode cX6_yearsMaybe 23 = .ok (.aload_n 0, 1) := by decide +kernel
theorem dX6_yearsMaybe_24 : decode cX6_yearsMaybe 24 = .ok (.getfield 21, 3) := by decide +kernel
theorem dX6_yearsMaybe_27 : decode cX6_yearsMaybe 27 = .ok (.iload 9, 2) := by decide +kernel
theorem dX6_yearsMaybe_29 : decode cX6_yearsMaybe 29 = .ok (.iaload, 1) := by decide +kernel
theorem dX6_yearsMaybe_30 : decode cX6_yearsMaybe 30 = .ok (.iload_n 2, 1) := by decide +kernel
theorem dX6_yearsMaybe_31 : decode cX6_yearsMaybe 31 = .ok (.if_icmp .ne 61, 3) := by decide +kernel
theorem dX6_yearsMaybe_34 : decode cX6_yearsMaybe 34 = .ok (.aload_n 0, 1) := by decide +kernel
theorem dX6_yearsMaybe_35 : decode cX6_yearsMaybe 35 = .ok (.getfield 24, 3) := by decide +kernel
theorem dX6_yearsMaybe_38 : decode cX6_yearsMaybe 38 = .ok (.iload 9, 2) := by decide +kernel
theorem dX6_yearsMaybe_40 : decode cX6_yearsMaybe 40 = .ok (.iaload, 1) := by decide +kernel
theorem dX6_yearsMaybe_41 : decode cX6_yearsMaybe 41 = .ok (.iload_n 3, 1) := by decide +kernel
theorem dX6_yearsMaybe_42 : decode cX6_yearsMaybe 42 = .ok (.if_icmp .ne 50, 3) := by decide +kernel
theorem dX6_yearsMaybe_45 : decode cX6_yearsMaybe 45 = .ok (.iload 9, 2) := by decide +kernel
theorem dX6_yearsMaybe_47 : decode cX6_yearsMaybe 47 = .ok (.iload 8, 2) := by decide +kernel
theorem dX6_yearsMaybe_49 : decode cX6_yearsMaybe 49 = .ok (.if_icmp .ge 17, 3) := by decide +kernel
theorem dX6_yearsMaybe_52 : decode cX6_yearsMaybe 52 = .ok (.aload_n 0, 1) := by decide +kernel
theorem dX6_yearsMaybe_53 : decode cX6_yearsMaybe 53 = .ok (.getfield 18, 3) := by decide +kernel
theorem dX6_yearsMaybe_56 : decode cX6_yearsMaybe 56 = .ok (.iload 9, 2) := by decide +kernel
theorem dX6_yearsMaybe_58 : decode cX6_yearsMaybe 58 = .ok (.iconst 1, 1) := by decide +kernel
theorem dX6_yearsMaybe_59 : decode cX6_yearsMaybe 59 = .ok (.iadd, 1) := by decide +kernel
theorem dX6_yearsMaybe_60 : decode cX6_yearsMaybe 60 = .ok (.iaload, 1) := by decide +kernel
theorem dX6_yearsMaybe_61 : decode cX6_yearsMaybe 61 = .ok (.iconst 1, 1) := by decide +kernel
theorem dX6_yearsMaybe_62 : decode cX6_yearsMaybe 62 = .ok (.isub, 1) := by decide +kernel
theorem dX6_yearsMaybe_63 : decode cX6_yearsMaybe 63 = .ok (.goto 6, 3) := by decide +kernel
theorem dX6_yearsMaybe_66 : decode cX6_yearsMaybe 66 = .ok (.sipush 2100, 3) := by decide +kernel
theorem dX6_yearsMaybe_69 : decode cX6_yearsMaybe 69 = .ok (.istore 10, 2) := by decide +kernel
theorem dX6_yearsMaybe_71 : decode cX6_yearsMaybe 71 = .ok (.lload 6, 2) := by decide +kernel
theorem dX6_yearsMaybe_73 : decode cX6_yearsMaybe 73 = .ok (.aload_n 0, 1) := by decide +kernel
