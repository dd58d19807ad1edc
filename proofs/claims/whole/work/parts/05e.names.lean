theorem dX8_begins_27 : decode cX8_begins 27 = .ok (.getfield 19, 3) := by decide +kernel
theorem dX8_begins_30 : decode cX8_begins 30 = .ok (.iconst 0, 1) := by decide +kernel
theorem dX8_begins_31 : decode cX8_begins 31 = .ok (.iconst 0, 1) := by decide +kernel
theorem dX8_begins_32 : decode cX8_begins 32 = .ok (.iastore, 1) := by decide +kernel
theorem dX8_begins_33 : decode cX8_begins 33 = .ok (.aload_n 0, 1) := by decide +kernel
theorem dX8_begins_34 : decode cX8_begins 34 = .ok (.getfield 19, 3) := by decide +kernel
theorem dX8_begins_37 : decode cX8_begins 37 = .ok (.iconst 1, 1) := by decide +kernel
theorem dX8_begins_38 : decode cX8_begins 38 = .ok (.iconst 0, 1) := by decide +kernel
theorem dX8_begins_39 : decode cX8_begins 39 = .ok (.iastore, 1) := by decide +kernel
theorem dX8_begins_40 : decode cX8_begins 40 = .ok (.aload_n 0, 1) := by decide +kernel
theorem dX8_begins_41 : decode cX8_begins 41 = .ok (.getfield 19, 3) := by decide +kernel
theorem dX8_begins_44 : decode cX8_begins 44 = .ok (.iconst 2, 1) := by decide +kernel
theorem dX8_begins_45 : decode cX8_begins 45 = .ok (.aload_n 0, 1) := by decide +kernel
theorem dX8_begins_46 : decode cX8_begins 46 = .ok (.getfield 13, 3) := by decide +kernel
theorem dX8_begins_49 : decode cX8_begins 49 = .ok (.iconst 1, 1) := by decide +kernel
theorem dX8_begins_50 : decode cX8_begins 50 = .ok (.iaload, 1) := by decide +kernel
theorem dX8_begins_51 : decode cX8_begins 51 = .ok (.iastore, 1) := by decide +kernel
theorem dX8_begins_52 : decode cX8_begins 52 = .ok (.iconst 0, 1) := by decide +kernel
theorem dX8_begins_53 : decode cX8_begins 53 = .ok (.istore_n 1, 1) := by decide +kernel
theorem dX8_begins_54 : decode cX8_begins 54 = .ok (.iload_n 1, 1) := by decide +kernel
theorem dX8_begins_55 : decode cX8_begins 55 = .ok (.bipush 6, 2) := by decide +kernel
theorem dX8_begins_57 : decode cX8_begins 57 = .ok (.if_icmp .ge 49, 3) := by decide +kernel
theorem dX8_begins_60 : decode cX8_begins 60 = .ok (.aload_n 0, 1) := by decide +kernel
theorem dX8_begins_61 : decode cX8_begins 61 = .ok (.getfield 19, 3) := by decide +kernel
theorem dX8_begins_64 : decode cX8_begins 64 = .ok (.iconst 3, 1) := by decide +kernel
theorem dX8_begins_65 : decode cX8_begins 65 = .ok (.iload_n 1, 1) := by decide +kernel
theorem dX8_begins_66 : decode cX8_begins 66 = .ok (.iadd, 1) := by decide +kernel
theorem dX8_begins_67 : decode cX8_begins 67 = .ok (.iload_n 1, 1) := by decide +kernel
theorem dX8_begins_68 : decode cX8_begins 68 = .ok (.aload_n 0, 1) := by decide +kernel
theorem dX8_begins_69 : decode cX8_begins 69 = .ok (.getfield 13, 3) := by decide +kernel
theorem dX8_begins_72 : decode cX8_begins 72 = .ok (.iconst 0, 1) := by decide +kernel
theorem dX8_begins_73 : decode cX8_begins 73 = .ok (.iaload, 1) := by decide +kernel
theorem dX8_begins_74 : decode cX8_begins 74 = .ok (.if_icmp .ge 14, 3) := by decide +kernel
theorem dX8_begins_77 : decode cX8_begins 77 = .ok (.aload_n 0, 1) := by decide +kernel
theorem dX8_begins_78 : decode cX8_begins 78 = .ok (.getfield 13, 3) := by decide +kernel
theorem dX8_begins_81 : decode cX8_begins 81 = .ok (.iconst 5, 1) := by decide +kernel
theorem dX8_begins_82 : decode cX8_begins 82 = .ok (.iload_n 1, 1) := by decide +kernel
theorem dX8_begins_83 : decode cX8_begins 83 = .ok (.iadd, 1) := by decide +kernel
theorem dX8_begins_84 : decode cX8_begins 84 = .ok (.iaload, 1) := by decide +kernel
theorem dX8_begins_85 : decode cX8_begins 85 = .ok (.goto 4, 3) := by decide +kernel
theorem dX8_begins_88 : decode cX8_begins 88 = .ok (.iconst 0, 1) := by decide +kernel
theorem dX8_begins_89 : decode cX8_begins 89 = .ok (.iastore, 1) := by decide +kernel
theorem dX8_begins_90 : decode cX8_begins 90 = .ok (.aload_n 0, 1) := by decide +kernel
theorem dX8_begins_91 : decode cX8_begins 91 = .ok (.getfield 19, 3) := by decide +kernel
theorem dX8_begins_94 : decode cX8_begins 94 = .ok (.bipush 9, 2) := by decide +kernel
theorem dX8_begins_96 : decode cX8_begins 96 = .ok (.iload_n 1, 1) := by decide +kernel
theorem dX8_begins_97 : decode cX8_begins 97 = .ok (.iadd, 1) := by decide +kernel
theorem dX8_begins_98 : decode cX8_begins 98 = .ok (.iload_n 1, 1) := by decide +kernel
theorem dX8_begins_99 : decode cX8_begins 99 = .ok (.iastore, 1) := by decide +kernel
theorem dX8_begins_100 : decode cX8_begins 100 = .ok (.iinc 1 1, 3) := by decide +kernel
theorem dX8_begins_103 : decode cX8_begins 103 = .ok (.goto (-49), 3) := by decide +kernel
theorem dX8_begins_106 : decode cX8_begins 106 = .ok (.aload_n 0, 1) := by decide +kernel
theorem dX8_begins_107 : decode cX8_begins 107 = .ok (.iconst 0, 1) := by decide +kernel
theorem dX8_begins_108 : decode cX8_begins 108 = .ok (.putfield 92, 3) := by decide +kernel
theorem dX8_begins_111 : decode cX8_begins 111 = .ok (.aload_n 0, 1) := by decide +kernel
theorem dX8_begins_112 : decode cX8_begins 112 = .ok (.iconst 0, 1) := by decide +kernel
theorem dX8_begins_113 : decode cX8_begins 113 = .ok (.putfield 95, 3) := by decide +kernel
theorem dX8_begins_116 : decode cX8_begins 116 = .ok (.aload_n 0, 1) := by decide +kernel
theorem dX8_begins_117 : decode cX8_begins 117 = .ok (.getfield 28, 3) := by decide +kernel
theorem dX8_begins_120 : decode cX8_begins 120 = .ok (.iconst 0, 1) := by decide +kernel
theorem dX8_begins_121 : decode cX8_begins 121 = .ok (.iconst 0, 1) := by decide +kernel
theorem dX8_begins_122 : decode cX8_begins 122 = .ok (.bastore, 1) := by decide +kernel
theorem dX8_begins_123 : decode cX8_begins 123 = .ok (.aload_n 0, 1) := by decide +kernel
theorem dX8_begins_124 : decode cX8_begins 124 = .ok (.getfield 28, 3) := by decide +kernel
theorem dX8_begins_127 : decode cX8_begins 127 = .ok (.iconst 1, 1) := by decide +kernel
theorem dX8_begins_128 : decode cX8_begins 128 = .ok (.iconst 0, 1) := by decide +kernel
theorem dX8_begins_129 : decode cX8_begins 129 = .ok (.bastore, 1) := by decide +kernel
theorem dX8_begins_130 : decode cX8_begins 130 = .ok (.return_, 1) := by decide +kernel
set_option maxRecDepth 20000 in
theorem ggX8_ward_X8_reads : GoodIn wsX8_ward wsX8_reads := goodIn_r _ [8, 9, 10, 11, 12, 13, 14, 7, 15, 1, 16, 17, 18, 19, 20, 21, 2, 22, 23, 24, 25, 26, 27, 28, 29, 30, 31, 32, 33, 34, 35, 36, 37, 38, 39, 48, 49, 50, 51, 52, 53, 54, 55, 56, 57, 58, 59, 60, 61, 62, 63, 64, 65, 66] (by decide +kernel) (by decide +kernel)
set_option maxRecDepth 20000 in
theorem gX8_ward_X8_reads : GoodIn wsX8_ward (wsV RX8 44 RX8 yX8_reads wsX8_reads) := goodIn_app (goodIn_of _ (by decide +kernel)) ggX8_ward_X8_reads
set_option maxRecDepth 20000 in
theorem ggX8_ward_X8_begins : GoodIn wsX8_ward wsX8_begins := goodIn_r _ [43, 3, 9, 44, 45, 46, 47, 48, 49, 50, 51, 52, 53, 54, 55, 56, 57, 58, 59, 60, 61, 62, 63, 64, 65, 66] (by decide +kernel) (by decide +kernel)
set_option maxRecDepth 20000 in
theorem gX8_ward_X8_begins : GoodIn wsX8_ward (wsV RX8 48 RX8 yX8_begins wsX8_begins) := goodIn_app (goodIn_of _ (by decide +kernel)) ggX8_ward_X8_begins
theorem dX8_ward_0 : decode cX8_ward 0 = .ok (.aload_n 0, 1) := by decide +kernel
theorem dX8_ward_1 : decode cX8_ward 1 = .ok (.invokevirtual 44, 3) := by decide +kernel
theorem dX8_ward_4 : decode cX8_ward 4 = .ok (.ifCond .ne 11, 3) := by decide +kernel
theorem dX8_ward_7 : decode cX8_ward 7 = .ok (.bipush (-10), 2) := by decide +kernel
theorem dX8_ward_9 : decode cX8_ward 9 = .ok (.aload_n 0, 1) := by decide +kernel
theorem dX8_ward_10 : decode cX8_ward 10 = .ok (.getfield 66, 3) := by decide +kernel
theorem dX8_ward_13 : decode cX8_ward 13 = .ok (.isub, 1) := by decide +kernel
theorem dX8_ward_14 : decode cX8_ward 14 = .ok (.ireturn, 1) := by decide +kernel
theorem dX8_ward_15 : decode cX8_ward 15 = .ok (.aload_n 0, 1) := by decide +kernel
theorem dX8_ward_16 : decode cX8_ward 16 = .ok (.invokevirtual 48, 3) := by decide +kernel
theorem dX8_ward_19 : decode cX8_ward 19 = .ok (.aload_n 0, 1) := by decide +kernel
theorem dX8_ward_20 : decode cX8_ward 20 = .ok (.iconst 0, 1) := by decide +kernel
theorem dX8_ward_21 : decode cX8_ward 21 = .ok (.putfield 55, 3) := by decide +kernel
theorem dX8_ward_24 : decode cX8_ward 24 = .ok (.aload_n 0, 1) := by decide +kernel
theorem dX8_ward_25 : decode cX8_ward 25 = .ok (.getfield 13, 3) := by decide +kernel
theorem dX8_ward_28 : decode cX8_ward 28 = .ok (.iconst 3, 1) := by decide +kernel
theorem dX8_ward_29 : decode cX8_ward 29 = .ok (.iaload, 1) := by decide +kernel
theorem dX8_ward_30 : decode cX8_ward 30 = .ok (.ireturn, 1) := by decide +kernel
theorem dX8_cools_0 : decode cX8_cools 0 = .ok (.iconst (-1), 1) := by decide +kernel
theorem dX8_cools_1 : decode cX8_cools 1 = .ok (.istore_n 3, 1) := by decide +kernel
theorem dX8_cools_2 : decode cX8_cools 2 = .ok (.iconst 0, 1) := by decide +kernel
theorem dX8_cools_3 : decode cX8_cools 3 = .ok (.istore 4, 2) := by decide +kernel
theorem dX8_cools_5 : decode cX8_cools 5 = .ok (.iload 4, 2) := by decide +kernel
theorem dX8_cools_7 : decode cX8_cools 7 = .ok (.aload_n 0, 1) := by decide +kernel
theorem dX8_cools_8 : decode cX8_cools 8 = .ok (.getfield 13, 3) := by decide +kernel
theorem dX8_cools_11 : decode cX8_cools 11 = .ok (.iconst 0, 1) := by decide +kernel
theorem dX8_cools_12 : decode cX8_cools 12 = .ok (.iaload, 1) := by decide +kernel
theorem dX8_cools_13 : decode cX8_cools 13 = .ok (.if_icmp .ge 39, 3) := by decide +kernel
theorem dX8_cools_16 : decode cX8_cools 16 = .ok (.iload_n 3, 1) := by decide +kernel
theorem dX8_cools_17 : decode cX8_cools 17 = .ok (.aload_n 0, 1) := by decide +kernel
theorem dX8_cools_18 : decode cX8_cools 18 = .ok (.getfield 19, 3) := by decide +kernel
theorem dX8_cools_21 : decode cX8_cools 21 = .ok (.bipush 9, 2) := by decide +kernel
theorem dX8_cools_23 : decode cX8_cools 23 = .ok (.iload 4, 2) := by decide +kernel
theorem dX8_cools_25 : decode cX8_cools 25 = .ok (.iadd, 1) := by decide +kernel
theorem dX8_cools_26 : decode cX8_cools 26 = .ok (.iaload, 1) := by decide +kernel
theorem dX8_cools_27 : decode cX8_cools 27 = .ok (.aload_n 0, 1) := by decide +kernel
theorem dX8_cools_28 : decode cX8_cools 28 = .ok (.getfield 19, 3) := by decide +kernel
theorem dX8_cools_31 : decode cX8_cools 31 = .ok (.bipush 9, 2) := by decide +kernel
theorem dX8_cools_33 : decode cX8_cools 33 = .ok (.iload_n 1, 1) := by decide +kernel
theorem dX8_cools_34 : decode cX8_cools 34 = .ok (.iadd, 1) := by decide +kernel
theorem dX8_cools_35 : decode cX8_cools 35 = .ok (.iaload, 1) := by decide +kernel
theorem dX8_cools_36 : decode cX8_cools 36 = .ok (.if_icmp .ne 7, 3) := by decide +kernel
theorem dX8_cools_39 : decode cX8_cools 39 = .ok (.iconst 1, 1) := by decide +kernel
theorem dX8_cools_40 : decode cX8_cools 40 = .ok (.goto 4, 3) := by decide +kernel
theorem dX8_cools_43 : decode cX8_cools 43 = .ok (.iconst 0, 1) := by decide +kernel
theorem dX8_cools_44 : decode cX8_cools 44 = .ok (.iadd, 1) := by decide +kernel
theorem dX8_cools_45 : decode cX8_cools 45 = .ok (.istore_n 3, 1) := by decide +kernel
theorem dX8_cools_46 : decode cX8_cools 46 = .ok (.iinc 4 1, 3) := by decide +kernel
theorem dX8_cools_49 : decode cX8_cools 49 = .ok (.goto (-44), 3) := by decide +kernel
theorem dX8_cools_52 : decode cX8_cools 52 = .ok (.aload_n 0, 1) := by decide +kernel
theorem dX8_cools_53 : decode cX8_cools 53 = .ok (.getfield 13, 3) := by decide +kernel
theorem dX8_cools_56 : decode cX8_cools 56 = .ok (.bipush 11, 2) := by decide +kernel
theorem dX8_cools_58 : decode cX8_cools 58 = .ok (.iload_n 1, 1) := by decide +kernel
theorem dX8_cools_59 : decode cX8_cools 59 = .ok (.iadd, 1) := by decide +kernel
theorem dX8_cools_60 : decode cX8_cools 60 = .ok (.iaload, 1) := by decide +kernel
theorem dX8_cools_61 : decode cX8_cools 61 = .ok (.iload_n 2, 1) := by decide +kernel
theorem dX8_cools_62 : decode cX8_cools 62 = .ok (.iadd, 1) := by decide +kernel
theorem dX8_cools_63 : decode cX8_cools 63 = .ok (.iconst 2, 1) := by decide +kernel
theorem dX8_cools_64 : decode cX8_cools 64 = .ok (.iload_n 3, 1) := by decide +kernel
theorem dX8_cools_65 : decode cX8_cools 65 = .ok (.imul, 1) := by decide +kernel
theorem dX8_cools_66 : decode cX8_cools 66 = .ok (.isub, 1) := by decide +kernel
theorem dX8_cools_67 : decode cX8_cools 67 = .ok (.istore 4, 2) := by decide +kernel
theorem dX8_cools_69 : decode cX8_cools 69 = .ok (.iload 4, 2) := by decide +kernel
theorem dX8_cools_71 : decode cX8_cools 71 = .ok (.iconst 1, 1) := by decide +kernel
theorem dX8_cools_72 : decode cX8_cools 72 = .ok (.if_icmp .ge 7, 3) := by decide +kernel
theorem dX8_cools_75 : decode cX8_cools 75 = .ok (.iconst 1, 1) := by decide +kernel
theorem dX8_cools_76 : decode cX8_cools 76 = .ok (.goto 5, 3) := by decide +kernel
theorem dX8_cools_79 : decode cX8_cools 79 = .ok (.iload 4, 2) := by decide +kernel
theorem dX8_cools_81 : decode cX8_cools 81 = .ok (.ireturn, 1) := by decide +kernel
theorem dX8_less_0 : decode cX8_less 0 = .ok (.iload_n 0, 1) := by decide +kernel
theorem dX8_less_1 : decode cX8_less 1 = .ok (.iload_n 1, 1) := by decide +kernel
theorem dX8_less_2 : decode cX8_less 2 = .ok (.if_icmp .le 9, 3) := by decide +kernel
theorem dX8_less_5 : decode cX8_less 5 = .ok (.iload_n 0, 1) := by decide +kernel
theorem dX8_less_6 : decode cX8_less 6 = .ok (.iload_n 1, 1) := by decide +kernel
theorem dX8_less_7 : decode cX8_less 7 = .ok (.isub, 1) := by decide +kernel
theorem dX8_less_8 : decode cX8_less 8 = .ok (.goto 4, 3) := by decide +kernel
theorem dX8_less_11 : decode cX8_less 11 = .ok (.iconst 0, 1) := by decide +kernel
theorem dX8_less_12 : decode cX8_less 12 = .ok (.ireturn, 1) := by decide +kernel
set_option maxRecDepth 20000 in
theorem ggX8_lasts_X8_cools : GoodIn wsX8_lasts wsX8_cools := goodIn_r _ [6, 7, 1, 8, 9, 10, 11, 12, 13, 14, 15, 16, 17, 18, 19, 20, 21, 22, 23, 24, 25, 26] (by decide +kernel) (by decide +kernel)
set_option maxRecDepth 20000 in
theorem gX8_lasts_X8_cools : GoodIn wsX8_lasts (wsV RX8 98 RX8 yX8_cools wsX8_cools) := goodIn_app (goodIn_of _ (by decide +kernel)) ggX8_lasts_X8_cools
theorem dX8_lasts_0 : decode cX8_lasts 0 = .ok (.aload_n 0, 1) := by decide +kernel
theorem dX8_lasts_1 : decode cX8_lasts 1 = .ok (.iload_n 1, 1) := by decide +kernel
theorem dX8_lasts_2 : decode cX8_lasts 2 = .ok (.aload_n 0, 1) := by decide +kernel
theorem dX8_lasts_3 : decode cX8_lasts 3 = .ok (.getfield 19, 3) := by decide +kernel
theorem dX8_lasts_6 : decode cX8_lasts 6 = .ok (.iconst 1, 1) := by decide +kernel
theorem dX8_lasts_7 : decode cX8_lasts 7 = .ok (.iaload, 1) := by decide +kernel
theorem dX8_lasts_8 : decode cX8_lasts 8 = .ok (.invokevirtual 98, 3) := by decide +kernel
theorem dX8_lasts_11 : decode cX8_lasts 11 = .ok (.istore_n 2, 1) := by decide +kernel
theorem dX8_lasts_12 : decode cX8_lasts 12 = .ok (.aload_n 0, 1) := by decide +kernel
theorem dX8_lasts_13 : decode cX8_lasts 13 = .ok (.getfield 19, 3) := by decide +kernel
theorem dX8_lasts_16 : decode cX8_lasts 16 = .ok (.iconst 3, 1) := by decide +kernel
theorem dX8_lasts_17 : decode cX8_lasts 17 = .ok (.iload_n 1, 1) := by decide +kernel
theorem dX8_lasts_18 : decode cX8_lasts 18 = .ok (.iadd, 1) := by decide +kernel
theorem dX8_lasts_19 : decode cX8_lasts 19 = .ok (.iaload, 1) := by decide +kernel
theorem dX8_lasts_20 : decode cX8_lasts 20 = .ok (.iload_n 2, 1) := by decide +kernel
theorem dX8_lasts_21 : decode cX8_lasts 21 = .ok (.iadd, 1) := by decide +kernel
theorem dX8_lasts_22 : decode cX8_lasts 22 = .ok (.iconst 1, 1) := by decide +kernel
theorem dX8_lasts_23 : decode cX8_lasts 23 = .ok (.isub, 1) := by decide +kernel
theorem dX8_lasts_24 : decode cX8_lasts 24 = .ok (.iload_n 2, 1) := by decide +kernel
theorem dX8_lasts_25 : decode cX8_lasts 25 = .ok (.idiv, 1) := by decide +kernel
theorem dX8_lasts_26 : decode cX8_lasts 26 = .ok (.ireturn, 1) := by decide +kernel
set_option maxRecDepth 20000 in
theorem ggX8_allLast_X8_lasts : GoodIn wsX8_allLast wsX8_lasts := goodIn_r _ [6, 7, 8, 9, 10, 5, 11, 1, 12, 13, 14, 15, 16, 17, 18, 19, 20, 21, 22, 23, 24, 25, 26, 27, 28, 29, 30] (by decide +kernel) (by decide +kernel)
set_option maxRecDepth 20000 in
theorem gX8_allLast_X8_lasts : GoodIn wsX8_allLast (wsV RX8 102 RX8 yX8_lasts wsX8_lasts) := goodIn_app (goodIn_of _ (by decide +kernel)) ggX8_allLast_X8_lasts
theorem dX8_allLast_0 : decode cX8_allLast 0 = .ok (.bipush (-9), 2) := by decide +kernel
theorem dX8_allLast_2 : decode cX8_allLast 2 = .ok (.istore_n 1, 1) := by decide +kernel
theorem dX8_allLast_3 : decode cX8_allLast 3 = .ok (.iconst 0, 1) := by decide +kernel
theorem dX8_allLast_4 : decode cX8_allLast 4 = .ok (.istore_n 2, 1) := by decide +kernel
theorem dX8_allLast_5 : decode cX8_allLast 5 = .ok (.iload_n 2, 1) := by decide +kernel
theorem dX8_allLast_6 : decode cX8_allLast 6 = .ok (.aload_n 0, 1) := by decide +kernel
theorem dX8_allLast_7 : decode cX8_allLast 7 = .ok (.getfield 13, 3) := by decide +kernel
theorem dX8_allLast_10 : decode cX8_allLast 10 = .ok (.iconst 0, 1) := by decide +kernel
theorem dX8_allLast_11 : decode cX8_allLast 11 = .ok (.iaload, 1) := by decide +kernel
theorem dX8_allLast_12 : decode cX8_allLast 12 = .ok (.if_icmp .ge 34, 3) := by decide +kernel
theorem dX8_allLast_15 : decode cX8_allLast 15 = .ok (.iload_n 1, 1) := by decide +kernel
theorem dX8_allLast_16 : decode cX8_allLast 16 = .ok (.bipush (-9), 2) := by decide +kernel
theorem dX8_allLast_18 : decode cX8_allLast 18 = .ok (.if_icmp .eq 12, 3) := by decide +kernel
theorem dX8_allLast_21 : decode cX8_allLast 21 = .ok (.aload_n 0, 1) := by decide +kernel
theorem dX8_allLast_22 : decode cX8_allLast 22 = .ok (.iload_n 2, 1) := by decide +kernel
theorem dX8_allLast_23 : decode cX8_allLast 23 = .ok (.invokevirtual 102, 3) := by decide +kernel
theorem dX8_allLast_26 : decode cX8_allLast 26 = .ok (.iload_n 1, 1) := by decide +kernel
theorem dX8_allLast_27 : decode cX8_allLast 27 = .ok (.if_icmp .ge 11, 3) := by decide +kernel
theorem dX8_allLast_30 : decode cX8_allLast 30 = .ok (.aload_n 0, 1) := by decide +kernel
theorem dX8_allLast_31 : decode cX8_allLast 31 = .ok (.iload_n 2, 1) := by decide +kernel
theorem dX8_allLast_32 : decode cX8_allLast 32 = .ok (.invokevirtual 102, 3) := by decide +kernel
theorem dX8_allLast_35 : decode cX8_allLast 35 = .ok (.goto 4, 3) := by decide +kernel
theorem dX8_allLast_38 : decode cX8_allLast 38 = .ok (.iload_n 1, 1) := by decide +kernel
theorem dX8_allLast_39 : decode cX8_allLast 39 = .ok (.istore_n 1, 1) := by decide +kernel
theorem dX8_allLast_40 : decode cX8_allLast 40 = .ok (.iinc 2 1, 3) := by decide +kernel
theorem dX8_allLast_43 : decode cX8_allLast 43 = .ok (.goto (-38), 3) := by decide +kernel
theorem dX8_allLast_46 : decode cX8_allLast 46 = .ok (.iload_n 1, 1) := by decide +kernel
theorem dX8_allLast_47 : decode cX8_allLast 47 = .ok (.ireturn, 1) := by decide +kernel
theorem dX8_soundOf_0 : decode cX8_soundOf 0 = .ok (.iload_n 2, 1) := by decide +kernel
theorem dX8_soundOf_1 : decode cX8_soundOf 1 = .ok (.ifCond .ne 7, 3) := by decide +kernel
theorem dX8_soundOf_4 : decode cX8_soundOf 4 = .ok (.iconst 0, 1) := by decide +kernel
theorem dX8_soundOf_5 : decode cX8_soundOf 5 = .ok (.goto 21, 3) := by decide +kernel
theorem dX8_soundOf_8 : decode cX8_soundOf 8 = .ok (.iload_n 2, 1) := by decide +kernel
theorem dX8_soundOf_9 : decode cX8_soundOf 9 = .ok (.aload_n 0, 1) := by decide +kernel
theorem dX8_soundOf_10 : decode cX8_soundOf 10 = .ok (.getfield 13, 3) := by decide +kernel
theorem dX8_soundOf_13 : decode cX8_soundOf 13 = .ok (.bipush 17, 2) := by decide +kernel
theorem dX8_soundOf_15 : decode cX8_soundOf 15 = .ok (.iload_n 1, 1) := by decide +kernel
theorem dX8_soundOf_16 : decode cX8_soundOf 16 = .ok (.iadd, 1) := by decide +kernel
theorem dX8_soundOf_17 : decode cX8_soundOf 17 = .ok (.iaload, 1) := by decide +kernel
theorem dX8_soundOf_18 : decode cX8_soundOf 18 = .ok (.if_icmp .lt 7, 3) := by decide +kernel
theorem dX8_soundOf_21 : decode cX8_soundOf 21 = .ok (.iconst 2, 1) := by decide +kernel
theorem dX8_soundOf_22 : decode cX8_soundOf 22 = .ok (.goto 4, 3) := by decide +kernel
theorem dX8_soundOf_25 : decode cX8_soundOf 25 = .ok (.iconst 1, 1) := by decide +kernel
theorem dX8_soundOf_26 : decode cX8_soundOf 26 = .ok (.ireturn, 1) := by decide +kernel
set_option maxRecDepth 20000 in
theorem ggX8_bottle_X8_isBottle : GoodIn wsX8_bottle wsX8_isBottle := goodIn_r _ [7, 2, 8, 9, 6, 10, 23, 24, 25, 26, 27, 28, 29, 30, 31, 32, 33, 34, 35, 36, 37, 38, 39, 40, 41] (by decide +kernel) (by decide +kernel)
set_option maxRecDepth 20000 in
theorem gX8_bottle_X8_isBottle : GoodIn wsX8_bottle (wsV RX8 105 RX8 yX8_isBottle wsX8_isBottle) := goodIn_app (goodIn_of _ (by decide +kernel)) ggX8_bottle_X8_isBottle
set_option maxRecDepth 20000 in
theorem ggX8_bottle_X8_soundOf : GoodIn wsX8_bottle wsX8_soundOf := goodIn_r _ [14, 2, 23, 24, 25, 26, 27, 28, 29, 30, 31, 32, 33, 34, 35, 36, 37, 38, 39, 40, 41] (by decide +kernel) (by decide +kernel)
set_option maxRecDepth 20000 in
theorem gX8_bottle_X8_soundOf : GoodIn wsX8_bottle (wsV RX8 108 RX8 yX8_soundOf wsX8_soundOf) := goodIn_app (goodIn_of _ (by decide +kernel)) ggX8_bottle_X8_soundOf
set_option maxRecDepth 20000 in
theorem ggX8_bottle_X8_lasts : GoodIn wsX8_bottle wsX8_lasts := goodIn_r _ [18, 1, 19, 20, 21, 6, 22, 2, 23, 24, 25, 26, 27, 28, 29, 30, 31, 32, 33, 34, 35, 36, 37, 38, 39, 40, 41] (by decide +kernel) (by decide +kernel)
set_option maxRecDepth 20000 in
theorem gX8_bottle_X8_lasts : GoodIn wsX8_bottle (wsV RX8 102 RX8 yX8_lasts wsX8_lasts) := goodIn_app (goodIn_of _ (by decide +kernel)) ggX8_bottle_X8_lasts
theorem dX8_bottle_0 : decode cX8_bottle 0 = .ok (.aload_n 0, 1) := by decide +kernel
theorem dX8_bottle_1 : decode cX8_bottle 1 = .ok (.iload_n 1, 1) := by decide +kernel
theorem dX8_bottle_2 : decode cX8_bottle 2 = .ok (.invokevirtual 105, 3) := by decide +kernel
theorem dX8_bottle_5 : decode cX8_bottle 5 = .ok (.ifCond .ne 5, 3) := by decide +kernel
theorem dX8_bottle_8 : decode cX8_bottle 8 = .ok (.iconst (-1), 1) := by decide +kernel
theorem dX8_bottle_9 : decode cX8_bottle 9 = .ok (.ireturn, 1) := by decide +kernel
theorem dX8_bottle_10 : decode cX8_bottle 10 = .ok (.iload_n 2, 1) := by decide +kernel
theorem dX8_bottle_11 : decode cX8_bottle 11 = .ok (.tableswitch 96 0 5 #[37, 46, 56, 66, 76, 90], 37) := by decide +kernel
theorem dX8_bottle_48 : decode cX8_bottle 48 = .ok (.aload_n 0, 1) := by decide +kernel
theorem dX8_bottle_49 : decode cX8_bottle 49 = .ok (.getfield 19, 3) := by decide +kernel
theorem dX8_bottle_52 : decode cX8_bottle 52 = .ok (.iconst 3, 1) := by decide +kernel
theorem dX8_bottle_53 : decode cX8_bottle 53 = .ok (.iload_n 1, 1) := by decide +kernel
theorem dX8_bottle_54 : decode cX8_bottle 54 = .ok (.iadd, 1) := by decide +kernel
theorem dX8_bottle_55 : decode cX8_bottle 55 = .ok (.iaload, 1) := by decide +kernel
theorem dX8_bottle_56 : decode cX8_bottle 56 = .ok (.ireturn, 1) := by decide +kernel
theorem dX8_bottle_57 : decode cX8_bottle 57 = .ok (.aload_n 0, 1) := by decide +kernel
theorem dX8_bottle_58 : decode cX8_bottle 58 = .ok (.getfield 13, 3) := by decide +kernel
theorem dX8_bottle_61 : decode cX8_bottle 61 = .ok (.bipush 11, 2) := by decide +kernel
theorem dX8_bottle_63 : decode cX8_bottle 63 = .ok (.iload_n 1, 1) := by decide +kernel
theorem dX8_bottle_64 : decode cX8_bottle 64 = .ok (.iadd, 1) := by decide +kernel
theorem dX8_bottle_65 : decode cX8_bottle 65 = .ok (.iaload, 1) := by decide +kernel
theorem dX8_bottle_66 : decode cX8_bottle 66 = .ok (.ireturn, 1) := by decide +kernel
theorem dX8_bottle_67 : decode cX8_bottle 67 = .ok (.aload_n 0, 1) := by decide +kernel
theorem dX8_bottle_68 : decode cX8_bottle 68 = .ok (.getfield 13, 3) := by decide +kernel
theorem dX8_bottle_71 : decode cX8_bottle 71 = .ok (.bipush 17, 2) := by decide +kernel
theorem dX8_bottle_73 : decode cX8_bottle 73 = .ok (.iload_n 1, 1) := by decide +kernel
theorem dX8_bottle_74 : decode cX8_bottle 74 = .ok (.iadd, 1) := by decide +kernel
theorem dX8_bottle_75 : decode cX8_bottle 75 = .ok (.iaload, 1) := by decide +kernel
theorem dX8_bottle_76 : decode cX8_bottle 76 = .ok (.ireturn, 1) := by decide +kernel
theorem dX8_bottle_77 : decode cX8_bottle 77 = .ok (.aload_n 0, 1) := by decide +kernel
theorem dX8_bottle_78 : decode cX8_bottle 78 = .ok (.getfield 19, 3) := by decide +kernel
theorem dX8_bottle_81 : decode cX8_bottle 81 = .ok (.bipush 9, 2) := by decide +kernel
theorem dX8_bottle_83 : decode cX8_bottle 83 = .ok (.iload_n 1, 1) := by decide +kernel
theorem dX8_bottle_84 : decode cX8_bottle 84 = .ok (.iadd, 1) := by decide +kernel
theorem dX8_bottle_85 : decode cX8_bottle 85 = .ok (.iaload, 1) := by decide +kernel
theorem dX8_bottle_86 : decode cX8_bottle 86 = .ok (.ireturn, 1) := by decide +kernel
theorem dX8_bottle_87 : decode cX8_bottle 87 = .ok (.aload_n 0, 1) := by decide +kernel
theorem dX8_bottle_88 : decode cX8_bottle 88 = .ok (.iload_n 1, 1) := by decide +kernel
theorem dX8_bottle_89 : decode cX8_bottle 89 = .ok (.aload_n 0, 1) := by decide +kernel
theorem dX8_bottle_90 : decode cX8_bottle 90 = .ok (.getfield 19, 3) := by decide +kernel
theorem dX8_bottle_93 : decode cX8_bottle 93 = .ok (.iconst 3, 1) := by decide +kernel
theorem dX8_bottle_94 : decode cX8_bottle 94 = .ok (.iload_n 1, 1) := by decide +kernel
theorem dX8_bottle_95 : decode cX8_bottle 95 = .ok (.iadd, 1) := by decide +kernel
theorem dX8_bottle_96 : decode cX8_bottle 96 = .ok (.iaload, 1) := by decide +kernel
theorem dX8_bottle_97 : decode cX8_bottle 97 = .ok (.invokevirtual 108, 3) := by decide +kernel
theorem dX8_bottle_100 : decode cX8_bottle 100 = .ok (.ireturn, 1) := by decide +kernel
theorem dX8_bottle_101 : decode cX8_bottle 101 = .ok (.aload_n 0, 1) := by decide +kernel
theorem dX8_bottle_102 : decode cX8_bottle 102 = .ok (.iload_n 1, 1) := by decide +kernel
theorem dX8_bottle_103 : decode cX8_bottle 103 = .ok (.invokevirtual 102, 3) := by decide +kernel
theorem dX8_bottle_106 : decode cX8_bottle 106 = .ok (.ireturn, 1) := by decide +kernel
theorem dX8_bottle_107 : decode cX8_bottle 107 = .ok (.iconst (-1), 1) := by decide +kernel
theorem dX8_bottle_108 : decode cX8_bottle 108 = .ok (.ireturn, 1) := by decide +kernel
theorem dX8_manyWarm_0 : decode cX8_manyWarm 0 = .ok (.iconst 0, 1) := by decide +kernel
theorem dX8_manyWarm_1 : decode cX8_manyWarm 1 = .ok (.istore_n 1, 1) := by decide +kernel
theorem dX8_manyWarm_2 : decode cX8_manyWarm 2 = .ok (.iconst 0, 1) := by decide +kernel
theorem dX8_manyWarm_3 : decode cX8_manyWarm 3 = .ok (.istore_n 2, 1) := by decide +kernel
theorem dX8_manyWarm_4 : decode cX8_manyWarm 4 = .ok (.iload_n 2, 1) := by decide +kernel
theorem dX8_manyWarm_5 : decode cX8_manyWarm 5 = .ok (.aload_n 0, 1) := by decide +kernel
theorem dX8_manyWarm_6 : decode cX8_manyWarm 6 = .ok (.getfield 13, 3) := by decide +kernel
theorem dX8_manyWarm_9 : decode cX8_manyWarm 9 = .ok (.iconst 0, 1) := by decide +kernel
theorem dX8_manyWarm_10 : decode cX8_manyWarm 10 = .ok (.iaload, 1) := by decide +kernel
theorem dX8_manyWarm_11 : decode cX8_manyWarm 11 = .ok (.if_icmp .ge 28, 3) := by decide +kernel
theorem dX8_manyWarm_14 : decode cX8_manyWarm 14 = .ok (.iload_n 1, 1) := by decide +kernel
theorem dX8_manyWarm_15 : decode cX8_manyWarm 15 = .ok (.aload_n 0, 1) := by decide +kernel
theorem dX8_manyWarm_16 : decode cX8_manyWarm 16 = .ok (.getfield 19, 3) := by decide +kernel
theorem dX8_manyWarm_19 : decode cX8_manyWarm 19 = .ok (.iconst 3, 1) := by decide +kernel
theorem dX8_manyWarm_20 : decode cX8_manyWarm 20 = .ok (.iload_n 2, 1) := by decide +kernel
theorem dX8_manyWarm_21 : decode cX8_manyWarm 21 = .ok (.iadd, 1) := by decide +kernel
theorem dX8_manyWarm_22 : decode cX8_manyWarm 22 = .ok (.iaload, 1) := by decide +kernel
theorem dX8_manyWarm_23 : decode cX8_manyWarm 23 = .ok (.ifCond .le 7, 3) := by decide +kernel
theorem dX8_manyWarm_26 : decode cX8_manyWarm 26 = .ok (.iconst 1, 1) := by decide +kernel
theorem dX8_manyWarm_27 : decode cX8_manyWarm 27 = .ok (.goto 4, 3) := by decide +kernel
theorem dX8_manyWarm_30 : decode cX8_manyWarm 30 = .ok (.iconst 0, 1) := by decide +kernel
theorem dX8_manyWarm_31 : decode cX8_manyWarm 31 = .ok (.iadd, 1) := by decide +kernel
theorem dX8_manyWarm_32 : decode cX8_manyWarm 32 = .ok (.istore_n 1, 1) := by decide +kernel
theorem dX8_manyWarm_33 : decode cX8_manyWarm 33 = .ok (.iinc 2 1, 3) := by decide +kernel
theorem dX8_manyWarm_36 : decode cX8_manyWarm 36 = .ok (.goto (-32), 3) := by decide +kernel
theorem dX8_manyWarm_39 : decode cX8_manyWarm 39 = .ok (.iload_n 1, 1) := by decide +kernel
theorem dX8_manyWarm_40 : decode cX8_manyWarm 40 = .ok (.ireturn, 1) := by decide +kernel
set_option maxRecDepth 20000 in
theorem ggX8_now_X8_allLast : GoodIn wsX8_now wsX8_allLast := goodIn_r _ [7, 8, 9, 10, 11, 6, 12, 1, 13, 14, 15, 16, 21, 22, 23, 24, 25, 26, 27, 28, 29, 30, 31, 32, 33, 34, 35, 36, 37, 38, 39] (by decide +kernel) (by decide +kernel)
set_option maxRecDepth 20000 in
theorem gX8_now_X8_allLast : GoodIn wsX8_now (wsV RX8 111 RX8 yX8_allLast wsX8_allLast) := goodIn_app (goodIn_of _ (by decide +kernel)) ggX8_now_X8_allLast
set_option maxRecDepth 20000 in
theorem ggX8_now_X8_manyWarm : GoodIn wsX8_now wsX8_manyWarm := goodIn_r _ [20, 8, 1, 21, 22, 23, 24, 25, 26, 27, 28, 29, 30, 31, 32, 33, 34, 35, 36, 37, 38, 39] (by decide +kernel) (by decide +kernel)
set_option maxRecDepth 20000 in
theorem gX8_now_X8_manyWarm : GoodIn wsX8_now (wsV RX8 115 RX8 yX8_manyWarm wsX8_manyWarm) := goodIn_app (goodIn_of _ (by decide +kernel)) ggX8_now_X8_manyWarm
theorem dX8_now_0 : decode cX8_now 0 = .ok (.iload_n 1, 1) := by decide +kernel
theorem dX8_now_1 : decode cX8_now 1 = .ok (.tableswitch 75 0 5 #[39, 46, 53, 60, 65, 70], 39) := by decide +kernel
theorem dX8_now_40 : decode cX8_now 40 = .ok (.aload_n 0, 1) := by decide +kernel
theorem dX8_now_41 : decode cX8_now 41 = .ok (.getfield 19, 3) := by decide +kernel
theorem dX8_now_44 : decode cX8_now 44 = .ok (.iconst 0, 1) := by decide +kernel
theorem dX8_now_45 : decode cX8_now 45 = .ok (.iaload, 1) := by decide +kernel
theorem dX8_now_46 : decode cX8_now 46 = .ok (.ireturn, 1) := by decide +kernel
theorem dX8_now_47 : decode cX8_now 47 = .ok (.aload_n 0, 1) := by decide +kernel
theorem dX8_now_48 : decode cX8_now 48 = .ok (.getfield 19, 3) := by decide +kernel
theorem dX8_now_51 : decode cX8_now 51 = .ok (.iconst 1, 1) := by decide +kernel
theorem dX8_now_52 : decode cX8_now 52 = .ok (.iaload, 1) := by decide +kernel
theorem dX8_now_53 : decode cX8_now 53 = .ok (.ireturn, 1) := by decide +kernel
theorem dX8_now_54 : decode cX8_now 54 = .ok (.aload_n 0, 1) := by decide +kernel
theorem dX8_now_55 : decode cX8_now 55 = .ok (.getfield 19, 3) := by decide +kernel
theorem dX8_now_58 : decode cX8_now 58 = .ok (.iconst 2, 1) := by decide +kernel
theorem dX8_now_59 : decode cX8_now 59 = .ok (.iaload, 1) := by decide +kernel
theorem dX8_now_60 : decode cX8_now 60 = .ok (.ireturn, 1) := by decide +kernel
theorem dX8_now_61 : decode cX8_now 61 = .ok (.aload_n 0, 1) := by decide +kernel
theorem dX8_now_62 : decode cX8_now 62 = .ok (.invokevirtual 111, 3) := by decide +kernel
theorem dX8_now_65 : decode cX8_now 65 = .ok (.ireturn, 1) := by decide +kernel
theorem dX8_now_66 : decode cX8_now 66 = .ok (.aload_n 0, 1) := by decide +kernel
theorem dX8_now_67 : decode cX8_now 67 = .ok (.invokevirtual 115, 3) := by decide +kernel
theorem dX8_now_70 : decode cX8_now 70 = .ok (.ireturn, 1) := by decide +kernel
theorem dX8_now_71 : decode cX8_now 71 = .ok (.aload_n 0, 1) := by decide +kernel
theorem dX8_now_72 : decode cX8_now 72 = .ok (.getfield 92, 3) := by decide +kernel
theorem dX8_now_75 : decode cX8_now 75 = .ok (.ireturn, 1) := by decide +kernel
theorem dX8_now_76 : decode cX8_now 76 = .ok (.iconst (-1), 1) := by decide +kernel
theorem dX8_now_77 : decode cX8_now 77 = .ok (.ireturn, 1) := by decide +kernel
theorem dX8_keeps_0 : decode cX8_keeps 0 = .ok (.aload_n 0, 1) := by decide +kernel
theorem dX8_keeps_1 : decode cX8_keeps 1 = .ok (.getfield 92, 3) := by decide +kernel
theorem dX8_keeps_4 : decode cX8_keeps 4 = .ok (.bipush 10, 2) := by decide +kernel
theorem dX8_keeps_6 : decode cX8_keeps 6 = .ok (.if_icmp .ne 43, 3) := by decide +kernel
theorem dX8_keeps_9 : decode cX8_keeps 9 = .ok (.iconst 0, 1) := by decide +kernel
theorem dX8_keeps_10 : decode cX8_keeps 10 = .ok (.istore_n 1, 1) := by decide +kernel
theorem dX8_keeps_11 : decode cX8_keeps 11 = .ok (.iload_n 1, 1) := by decide +kernel
theorem dX8_keeps_12 : decode cX8_keeps 12 = .ok (.sipush 135, 3) := by decide +kernel
theorem dX8_keeps_15 : decode cX8_keeps 15 = .ok (.if_icmp .ge 24, 3) := by decide +kernel
theorem dX8_keeps_18 : decode cX8_keeps 18 = .ok (.aload_n 0, 1) := by decide +kernel
theorem dX8_keeps_19 : decode cX8_keeps 19 = .ok (.getfield 22, 3) := by decide +kernel
theorem dX8_keeps_22 : decode cX8_keeps 22 = .ok (.iload_n 1, 1) := by decide +kernel
theorem dX8_keeps_23 : decode cX8_keeps 23 = .ok (.aload_n 0, 1) := by decide +kernel
theorem dX8_keeps_24 : decode cX8_keeps 24 = .ok (.getfield 22, 3) := by decide +kernel
theorem dX8_keeps_27 : decode cX8_keeps 27 = .ok (.iload_n 1, 1) := by decide +kernel
theorem dX8_keeps_28 : decode cX8_keeps 28 = .ok (.bipush 15, 2) := by decide +kernel
theorem dX8_keeps_30 : decode cX8_keeps 30 = .ok (.iadd, 1) := by decide +kernel
theorem dX8_keeps_31 : decode cX8_keeps 31 = .ok (.iaload, 1) := by decide +kernel
theorem dX8_keeps_32 : decode cX8_keeps 32 = .ok (.iastore, 1) := by decide +kernel
theorem dX8_keeps_33 : decode cX8_keeps 33 = .ok (.iinc 1 1, 3) := by decide +kernel
theorem dX8_keeps_36 : decode cX8_keeps 36 = .ok (.goto (-25), 3) := by decide +kernel
theorem dX8_keeps_39 : decode cX8_keeps 39 = .ok (.aload_n 0, 1) := by decide +kernel
theorem dX8_keeps_40 : decode cX8_keeps 40 = .ok (.dup, 1) := by decide +kernel
theorem dX8_keeps_41 : decode cX8_keeps 41 = .ok (.getfield 92, 3) := by decide +kernel
theorem dX8_keeps_44 : decode cX8_keeps 44 = .ok (.iconst 1, 1) := by decide +kernel
theorem dX8_keeps_45 : decode cX8_keeps 45 = .ok (.isub, 1) := by decide +kernel
theorem dX8_keeps_46 : decode cX8_keeps 46 = .ok (.putfield 92, 3) := by decide +kernel
theorem dX8_keeps_49 : decode cX8_keeps 49 = .ok (.iconst 0, 1) := by decide +kernel
theorem dX8_keeps_50 : decode cX8_keeps 50 = .ok (.istore_n 1, 1) := by decide +kernel
theorem dX8_keeps_51 : decode cX8_keeps 51 = .ok (.iload_n 1, 1) := by decide +kernel
theorem dX8_keeps_52 : decode cX8_keeps 52 = .ok (.bipush 15, 2) := by decide +kernel
theorem dX8_keeps_54 : decode cX8_keeps 54 = .ok (.if_icmp .ge 29, 3) := by decide +kernel
theorem dX8_keeps_57 : decode cX8_keeps 57 = .ok (.aload_n 0, 1) := by decide +kernel
theorem dX8_keeps_58 : decode cX8_keeps 58 = .ok (.getfield 22, 3) := by decide +kernel
theorem dX8_keeps_61 : decode cX8_keeps 61 = .ok (.bipush 15, 2) := by decide +kernel
theorem dX8_keeps_63 : decode cX8_keeps 63 = .ok (.aload_n 0, 1) := by decide +kernel
theorem dX8_keeps_64 : decode cX8_keeps 64 = .ok (.getfield 92, 3) := by decide +kernel
theorem dX8_keeps_67 : decode cX8_keeps 67 = .ok (.imul, 1) := by decide +kernel
theorem dX8_keeps_68 : decode cX8_keeps 68 = .ok (.iload_n 1, 1) := by decide +kernel
theorem dX8_keeps_69 : decode cX8_keeps 69 = .ok (.iadd, 1) := by decide +kernel
theorem dX8_keeps_70 : decode cX8_keeps 70 = .ok (.aload_n 0, 1) := by decide +kernel
theorem dX8_keeps_71 : decode cX8_keeps 71 = .ok (.getfield 19, 3) := by decide +kernel
theorem dX8_keeps_74 : decode cX8_keeps 74 = .ok (.iload_n 1, 1) := by decide +kernel
theorem dX8_keeps_75 : decode cX8_keeps 75 = .ok (.iaload, 1) := by decide +kernel
theorem dX8_keeps_76 : decode cX8_keeps 76 = .ok (.iastore, 1) := by decide +kernel
theorem dX8_keeps_77 : decode cX8_keeps 77 = .ok (.iinc 1 1, 3) := by decide +kernel
theorem dX8_keeps_80 : decode cX8_keeps 80 = .ok (.goto (-29), 3) := by decide +kernel
theorem dX8_keeps_83 : decode cX8_keeps 83 = .ok (.aload_n 0, 1) := by decide +kernel
theorem dX8_keeps_84 : decode cX8_keeps 84 = .ok (.dup, 1) := by decide +kernel
theorem dX8_keeps_85 : decode cX8_keeps 85 = .ok (.getfield 92, 3) := by decide +kernel
theorem dX8_keeps_88 : decode cX8_keeps 88 = .ok (.iconst 1, 1) := by decide +kernel
theorem dX8_keeps_89 : decode cX8_keeps 89 = .ok (.iadd, 1) := by decide +kernel
theorem dX8_keeps_90 : decode cX8_keeps 90 = .ok (.putfield 92, 3) := by decide +kernel
theorem dX8_keeps_93 : decode cX8_keeps 93 = .ok (.return_, 1) := by decide +kernel
set_option maxRecDepth 20000 in
theorem ggX8_passes_X8_cools : GoodIn wsX8_passes wsX8_cools := goodIn_r _ [7, 1, 2, 11, 12, 13, 14, 15, 16, 17, 18, 19, 20, 21, 22, 23, 24, 25, 26, 27, 28, 29] (by decide +kernel) (by decide +kernel)
set_option maxRecDepth 20000 in
theorem gX8_passes_X8_cools : GoodIn wsX8_passes (wsV RX8 98 RX8 yX8_cools wsX8_cools) := goodIn_app (goodIn_of _ (by decide +kernel)) ggX8_passes_X8_cools
set_option maxRecDepth 20000 in
theorem ggX8_passes_X8_less : GoodIn wsX8_passes wsX8_less := goodIn_r _ [10] (by decide +kernel) (by decide +kernel)
set_option maxRecDepth 20000 in
theorem gX8_passes_X8_less : GoodIn wsX8_passes (va_wsS RX8 118 yX8_less wsX8_less) := goodIn_app (goodIn_of _ (by decide +kernel)) ggX8_passes_X8_less
theorem dX8_passes_0 : decode cX8_passes 0 = .ok (.iconst 0, 1) := by decide +kernel
theorem dX8_passes_1 : decode cX8_passes 1 = .ok (.istore_n 1, 1) := by decide +kernel
theorem dX8_passes_2 : decode cX8_passes 2 = .ok (.iload_n 1, 1) := by decide +kernel
theorem dX8_passes_3 : decode cX8_passes 3 = .ok (.aload_n 0, 1) := by decide +kernel
theorem dX8_passes_4 : decode cX8_passes 4 = .ok (.getfield 13, 3) := by decide +kernel
theorem dX8_passes_7 : decode cX8_passes 7 = .ok (.iconst 0, 1) := by decide +kernel
theorem dX8_passes_8 : decode cX8_passes 8 = .ok (.iaload, 1) := by decide +kernel
theorem dX8_passes_9 : decode cX8_passes 9 = .ok (.if_icmp .ge 39, 3) := by decide +kernel
theorem dX8_passes_12 : decode cX8_passes 12 = .ok (.aload_n 0, 1) := by decide +kernel
theorem dX8_passes_13 : decode cX8_passes 13 = .ok (.getfield 19, 3) := by decide +kernel
theorem dX8_passes_16 : decode cX8_passes 16 = .ok (.iconst 3, 1) := by decide +kernel
theorem dX8_passes_17 : decode cX8_passes 17 = .ok (.iload_n 1, 1) := by decide +kernel
theorem dX8_passes_18 : decode cX8_passes 18 = .ok (.iadd, 1) := by decide +kernel
theorem dX8_passes_19 : decode cX8_passes 19 = .ok (.aload_n 0, 1) := by decide +kernel
theorem dX8_passes_20 : decode cX8_passes 20 = .ok (.getfield 19, 3) := by decide +kernel
theorem dX8_passes_23 : decode cX8_passes 23 = .ok (.iconst 3, 1) := by decide +kernel
theorem dX8_passes_24 : decode cX8_passes 24 = .ok (.iload_n 1, 1) := by decide +kernel
theorem dX8_passes_25 : decode cX8_passes 25 = .ok (.iadd, 1) := by decide +kernel
theorem dX8_passes_26 : decode cX8_passes 26 = .ok (.iaload, 1) := by decide +kernel
theorem dX8_passes_27 : decode cX8_passes 27 = .ok (.aload_n 0, 1) := by decide +kernel
theorem dX8_passes_28 : decode cX8_passes 28 = .ok (.iload_n 1, 1) := by decide +kernel
theorem dX8_passes_29 : decode cX8_passes 29 = .ok (.aload_n 0, 1) := by decide +kernel
theorem dX8_passes_30 : decode cX8_passes 30 = .ok (.getfield 19, 3) := by decide +kernel
theorem dX8_passes_33 : decode cX8_passes 33 = .ok (.iconst 1, 1) := by decide +kernel
theorem dX8_passes_34 : decode cX8_passes 34 = .ok (.iaload, 1) := by decide +kernel
theorem dX8_passes_35 : decode cX8_passes 35 = .ok (.invokevirtual 98, 3) := by decide +kernel
theorem dX8_passes_38 : decode cX8_passes 38 = .ok (.invokestatic 118, 3) := by decide +kernel
theorem dX8_passes_41 : decode cX8_passes 41 = .ok (.iastore, 1) := by decide +kernel
theorem dX8_passes_42 : decode cX8_passes 42 = .ok (.iinc 1 1, 3) := by decide +kernel
theorem dX8_passes_45 : decode cX8_passes 45 = .ok (.goto (-43), 3) := by decide +kernel
theorem dX8_passes_48 : decode cX8_passes 48 = .ok (.aload_n 0, 1) := by decide +kernel
theorem dX8_passes_49 : decode cX8_passes 49 = .ok (.getfield 19, 3) := by decide +kernel
theorem dX8_passes_52 : decode cX8_passes 52 = .ok (.iconst 0, 1) := by decide +kernel
theorem dX8_passes_53 : decode cX8_passes 53 = .ok (.dup2, 1) := by decide +kernel
theorem dX8_passes_54 : decode cX8_passes 54 = .ok (.iaload, 1) := by decide +kernel
theorem dX8_passes_55 : decode cX8_passes 55 = .ok (.iconst 1, 1) := by decide +kernel
theorem dX8_passes_56 : decode cX8_passes 56 = .ok (.iadd, 1) := by decide +kernel
theorem dX8_passes_57 : decode cX8_passes 57 = .ok (.iastore, 1) := by decide +kernel
theorem dX8_passes_58 : decode cX8_passes 58 = .ok (.return_, 1) := by decide +kernel
set_option maxRecDepth 20000 in
theorem ggX8_hour_X8_keeps : GoodIn wsX8_hour wsX8_keeps := goodIn_r _ [6, 7, 8, 1, 25, 26, 27, 28, 29, 30, 31, 32, 33, 34, 35, 36, 37, 38, 39, 40, 41, 42, 43] (by decide +kernel) (by decide +kernel)
set_option maxRecDepth 20000 in
theorem gX8_hour_X8_keeps : GoodIn wsX8_hour (wsV RX8 121 RX8 yX8_keeps wsX8_keeps) := goodIn_app (goodIn_of _ (by decide +kernel)) ggX8_hour_X8_keeps
set_option maxRecDepth 20000 in
theorem ggX8_hour_X8_passes : GoodIn wsX8_hour wsX8_passes := goodIn_r _ [12, 13, 1, 14, 15, 16, 5, 17, 18, 19, 20, 25, 26, 27, 28, 29, 30, 31, 32, 33, 34, 35, 36, 37, 38, 39, 40, 41, 42, 43] (by decide +kernel) (by decide +kernel)
set_option maxRecDepth 20000 in
theorem gX8_hour_X8_passes : GoodIn wsX8_hour (wsV RX8 124 RX8 yX8_passes wsX8_passes) := goodIn_app (goodIn_of _ (by decide +kernel)) ggX8_hour_X8_passes
set_option maxRecDepth 20000 in
theorem ggX8_hour_X8_manyWarm : GoodIn wsX8_hour wsX8_manyWarm := goodIn_r _ [24, 13, 1, 25, 26, 27, 28, 29, 30, 31, 32, 33, 34, 35, 36, 37, 38, 39, 40, 41, 42, 43] (by decide +kernel) (by decide +kernel)
set_option maxRecDepth 20000 in
theorem gX8_hour_X8_manyWarm : GoodIn wsX8_hour (wsV RX8 115 RX8 yX8_manyWarm wsX8_manyWarm) := goodIn_app (goodIn_of _ (by decide +kernel)) ggX8_hour_X8_manyWarm
theorem dX8_hour_0 : decode cX8_hour 0 = .ok (.aload_n 0, 1) := by decide +kernel
theorem dX8_hour_1 : decode cX8_hour 1 = .ok (.getfield 19, 3) := by decide +kernel
theorem dX8_hour_4 : decode cX8_hour 4 = .ok (.iconst 0, 1) := by decide +kernel
theorem dX8_hour_5 : decode cX8_hour 5 = .ok (.iaload, 1) := by decide +kernel
theorem dX8_hour_6 : decode cX8_hour 6 = .ok (.sipush 999, 3) := by decide +kernel
theorem dX8_hour_9 : decode cX8_hour 9 = .ok (.if_icmp .ne 6, 3) := by decide +kernel
theorem dX8_hour_12 : decode cX8_hour 12 = .ok (.bipush (-2), 2) := by decide +kernel
theorem dX8_hour_14 : decode cX8_hour 14 = .ok (.ireturn, 1) := by decide +kernel
theorem dX8_hour_15 : decode cX8_hour 15 = .ok (.aload_n 0, 1) := by decide +kernel
theorem dX8_hour_16 : decode cX8_hour 16 = .ok (.invokevirtual 121, 3) := by decide +kernel
theorem dX8_hour_19 : decode cX8_hour 19 = .ok (.aload_n 0, 1) := by decide +kernel
theorem dX8_hour_20 : decode cX8_hour 20 = .ok (.invokevirtual 124, 3) := by decide +kernel
theorem dX8_hour_23 : decode cX8_hour 23 = .ok (.aload_n 0, 1) := by decide +kernel
theorem dX8_hour_24 : decode cX8_hour 24 = .ok (.invokevirtual 115, 3) := by decide +kernel
theorem dX8_hour_27 : decode cX8_hour 27 = .ok (.ireturn, 1) := by decide +kernel
theorem dX8_filled_0 : decode cX8_filled 0 = .ok (.aload_n 0, 1) := by decide +kernel
theorem dX8_filled_1 : decode cX8_filled 1 = .ok (.getfield 19, 3) := by decide +kernel
theorem dX8_filled_4 : decode cX8_filled 4 = .ok (.iconst 3, 1) := by decide +kernel
theorem dX8_filled_5 : decode cX8_filled 5 = .ok (.iload_n 1, 1) := by decide +kernel
theorem dX8_filled_6 : decode cX8_filled 6 = .ok (.iadd, 1) := by decide +kernel
theorem dX8_filled_7 : decode cX8_filled 7 = .ok (.iaload, 1) := by decide +kernel
theorem dX8_filled_8 : decode cX8_filled 8 = .ok (.iload_n 2, 1) := by decide +kernel
theorem dX8_filled_9 : decode cX8_filled 9 = .ok (.aload_n 0, 1) := by decide +kernel
theorem dX8_filled_10 : decode cX8_filled 10 = .ok (.getfield 13, 3) := by decide +kernel
theorem dX8_filled_13 : decode cX8_filled 13 = .ok (.iconst 2, 1) := by decide +kernel
theorem dX8_filled_14 : decode cX8_filled 14 = .ok (.iaload, 1) := by decide +kernel
theorem dX8_filled_15 : decode cX8_filled 15 = .ok (.imul, 1) := by decide +kernel
theorem dX8_filled_16 : decode cX8_filled 16 = .ok (.iadd, 1) := by decide +kernel
theorem dX8_filled_17 : decode cX8_filled 17 = .ok (.istore_n 3, 1) := by decide +kernel
theorem dX8_filled_18 : decode cX8_filled 18 = .ok (.iload_n 3, 1) := by decide +kernel
theorem dX8_filled_19 : decode cX8_filled 19 = .ok (.bipush 99, 2) := by decide +kernel
theorem dX8_filled_21 : decode cX8_filled 21 = .ok (.if_icmp .le 8, 3) := by decide +kernel
theorem dX8_filled_24 : decode cX8_filled 24 = .ok (.bipush 99, 2) := by decide +kernel
theorem dX8_filled_26 : decode cX8_filled 26 = .ok (.goto 4, 3) := by decide +kernel
theorem dX8_filled_29 : decode cX8_filled 29 = .ok (.iload_n 3, 1) := by decide +kernel
theorem dX8_filled_30 : decode cX8_filled 30 = .ok (.ireturn, 1) := by decide +kernel
set_option maxRecDepth 20000 in
theorem ggX8_fills_X8_isBottle : GoodIn wsX8_fills wsX8_isBottle := goodIn_r _ [6, 7, 8, 9, 5, 10, 21, 22, 23, 24, 25, 26, 27, 28, 29, 30, 31, 32, 33, 34, 35, 36, 37, 38, 39] (by decide +kernel) (by decide +kernel)
set_option maxRecDepth 20000 in
theorem gX8_fills_X8_isBottle : GoodIn wsX8_fills (wsV RX8 105 RX8 yX8_isBottle wsX8_isBottle) := goodIn_app (goodIn_of _ (by decide +kernel)) ggX8_fills_X8_isBottle
set_option maxRecDepth 20000 in
theorem ggX8_fills_X8_in : GoodIn wsX8_fills wsX8_in := goodIn_r _ [10] (by decide +kernel) (by decide +kernel)
set_option maxRecDepth 20000 in
theorem gX8_fills_X8_in : GoodIn wsX8_fills (va_wsS RX8 51 yX8_in wsX8_in) := goodIn_app (goodIn_of _ (by decide +kernel)) ggX8_fills_X8_in
set_option maxRecDepth 20000 in
theorem ggX8_fills_X8_keeps : GoodIn wsX8_fills wsX8_keeps := goodIn_r _ [14, 15, 16, 1, 21, 22, 23, 24, 25, 26, 27, 28, 29, 30, 31, 32, 33, 34, 35, 36, 37, 38, 39] (by decide +kernel) (by decide +kernel)
set_option maxRecDepth 20000 in
theorem gX8_fills_X8_keeps : GoodIn wsX8_fills (wsV RX8 121 RX8 yX8_keeps wsX8_keeps) := goodIn_app (goodIn_of _ (by decide +kernel)) ggX8_fills_X8_keeps
set_option maxRecDepth 20000 in
theorem ggX8_fills_X8_filled : GoodIn wsX8_fills wsX8_filled := goodIn_r _ [20, 1, 7, 21, 22, 23, 24, 25, 26, 27, 28, 29, 30, 31, 32, 33, 34, 35, 36, 37, 38, 39] (by decide +kernel) (by decide +kernel)
set_option maxRecDepth 20000 in
theorem gX8_fills_X8_filled : GoodIn wsX8_fills (wsV RX8 127 RX8 yX8_filled wsX8_filled) := goodIn_app (goodIn_of _ (by decide +kernel)) ggX8_fills_X8_filled
theorem dX8_fills_0 : decode cX8_fills 0 = .ok (.aload_n 0, 1) := by decide +kernel
theorem dX8_fills_1 : decode cX8_fills 1 = .ok (.iload_n 1, 1) := by decide +kernel
theorem dX8_fills_2 : decode cX8_fills 2 = .ok (.invokevirtual 105, 3) := by decide +kernel
theorem dX8_fills_5 : decode cX8_fills 5 = .ok (.ifCond .eq 13, 3) := by decide +kernel
theorem dX8_fills_8 : decode cX8_fills 8 = .ok (.iload_n 2, 1) := by decide +kernel
theorem dX8_fills_9 : decode cX8_fills 9 = .ok (.iconst 1, 1) := by decide +kernel
theorem dX8_fills_10 : decode cX8_fills 10 = .ok (.bipush 9, 2) := by decide +kernel
theorem dX8_fills_12 : decode cX8_fills 12 = .ok (.invokestatic 51, 3) := by decide +kernel
theorem dX8_fills_15 : decode cX8_fills 15 = .ok (.ifCond .ne 5, 3) := by decide +kernel
theorem dX8_fills_18 : decode cX8_fills 18 = .ok (.iconst (-1), 1) := by decide +kernel
theorem dX8_fills_19 : decode cX8_fills 19 = .ok (.ireturn, 1) := by decide +kernel
theorem dX8_fills_20 : decode cX8_fills 20 = .ok (.aload_n 0, 1) := by decide +kernel
theorem dX8_fills_21 : decode cX8_fills 21 = .ok (.getfield 19, 3) := by decide +kernel
theorem dX8_fills_24 : decode cX8_fills 24 = .ok (.iconst 2, 1) := by decide +kernel
theorem dX8_fills_25 : decode cX8_fills 25 = .ok (.iaload, 1) := by decide +kernel
theorem dX8_fills_26 : decode cX8_fills 26 = .ok (.iload_n 2, 1) := by decide +kernel
theorem dX8_fills_27 : decode cX8_fills 27 = .ok (.if_icmp .ge 6, 3) := by decide +kernel
theorem dX8_fills_30 : decode cX8_fills 30 = .ok (.bipush (-2), 2) := by decide +kernel
theorem dX8_fills_32 : decode cX8_fills 32 = .ok (.ireturn, 1) := by decide +kernel
theorem dX8_fills_33 : decode cX8_fills 33 = .ok (.aload_n 0, 1) := by decide +kernel
theorem dX8_fills_34 : decode cX8_fills 34 = .ok (.invokevirtual 121, 3) := by decide +kernel
theorem dX8_fills_37 : decode cX8_fills 37 = .ok (.aload_n 0, 1) := by decide +kernel
theorem dX8_fills_38 : decode cX8_fills 38 = .ok (.getfield 19, 3) := by decide +kernel
theorem dX8_fills_41 : decode cX8_fills 41 = .ok (.iconst 3, 1) := by decide +kernel
theorem dX8_fills_42 : decode cX8_fills 42 = .ok (.iload_n 1, 1) := by decide +kernel
theorem dX8_fills_43 : decode cX8_fills 43 = .ok (.iadd, 1) := by decide +kernel
theorem dX8_fills_44 : decode cX8_fills 44 = .ok (.aload_n 0, 1) := by decide +kernel
theorem dX8_fills_45 : decode cX8_fills 45 = .ok (.iload_n 1, 1) := by decide +kernel
theorem dX8_fills_46 : decode cX8_fills 46 = .ok (.iload_n 2, 1) := by decide +kernel
theorem dX8_fills_47 : decode cX8_fills 47 = .ok (.invokevirtual 127, 3) := by decide +kernel
theorem dX8_fills_50 : decode cX8_fills 50 = .ok (.iastore, 1) := by decide +kernel
theorem dX8_fills_51 : decode cX8_fills 51 = .ok (.aload_n 0, 1) := by decide +kernel
theorem dX8_fills_52 : decode cX8_fills 52 = .ok (.getfield 19, 3) := by decide +kernel
theorem dX8_fills_55 : decode cX8_fills 55 = .ok (.iconst 2, 1) := by decide +kernel
theorem dX8_fills_56 : decode cX8_fills 56 = .ok (.dup2, 1) := by decide +kernel
theorem dX8_fills_57 : decode cX8_fills 57 = .ok (.iaload, 1) := by decide +kernel
theorem dX8_fills_58 : decode cX8_fills 58 = .ok (.iload_n 2, 1) := by decide +kernel
theorem dX8_fills_59 : decode cX8_fills 59 = .ok (.isub, 1) := by decide +kernel
theorem dX8_fills_60 : decode cX8_fills 60 = .ok (.iastore, 1) := by decide +kernel
theorem dX8_fills_61 : decode cX8_fills 61 = .ok (.aload_n 0, 1) := by decide +kernel
theorem dX8_fills_62 : decode cX8_fills 62 = .ok (.getfield 19, 3) := by decide +kernel
theorem dX8_fills_65 : decode cX8_fills 65 = .ok (.iconst 3, 1) := by decide +kernel
theorem dX8_fills_66 : decode cX8_fills 66 = .ok (.iload_n 1, 1) := by decide +kernel
theorem dX8_fills_67 : decode cX8_fills 67 = .ok (.iadd, 1) := by decide +kernel
theorem dX8_fills_68 : decode cX8_fills 68 = .ok (.iaload, 1) := by decide +kernel
theorem dX8_fills_69 : decode cX8_fills 69 = .ok (.ireturn, 1) := by decide +kernel
set_option maxRecDepth 20000 in
theorem ggX8_lays_X8_isBottle : GoodIn wsX8_lays wsX8_isBottle := goodIn_r _ [6, 7, 8, 9, 5, 10, 17, 18, 19, 20, 21, 22, 23, 24, 25, 26, 27, 28, 29, 30, 31, 32, 33, 34, 35] (by decide +kernel) (by decide +kernel)
set_option maxRecDepth 20000 in
theorem gX8_lays_X8_isBottle : GoodIn wsX8_lays (wsV RX8 105 RX8 yX8_isBottle wsX8_isBottle) := goodIn_app (goodIn_of _ (by decide +kernel)) ggX8_lays_X8_isBottle
set_option maxRecDepth 20000 in
theorem ggX8_lays_X8_keeps : GoodIn wsX8_lays wsX8_keeps := goodIn_r _ [14, 15, 16, 1, 17, 18, 19, 20, 21, 22, 23, 24, 25, 26, 27, 28, 29, 30, 31, 32, 33, 34, 35] (by decide +kernel) (by decide +kernel)
set_option maxRecDepth 20000 in
theorem gX8_lays_X8_keeps : GoodIn wsX8_lays (wsV RX8 121 RX8 yX8_keeps wsX8_keeps) := goodIn_app (goodIn_of _ (by decide +kernel)) ggX8_lays_X8_keeps
theorem dX8_lays_0 : decode cX8_lays 0 = .ok (.aload_n 0, 1) := by decide +kernel
theorem dX8_lays_1 : decode cX8_lays 1 = .ok (.iload_n 1, 1) := by decide +kernel
theorem dX8_lays_2 : decode cX8_lays 2 = .ok (.invokevirtual 105, 3) := by decide +kernel
theorem dX8_lays_5 : decode cX8_lays 5 = .ok (.ifCond .eq 11, 3) := by decide +kernel
theorem dX8_lays_8 : decode cX8_lays 8 = .ok (.aload_n 0, 1) := by decide +kernel
theorem dX8_lays_9 : decode cX8_lays 9 = .ok (.iload_n 2, 1) := by decide +kernel
theorem dX8_lays_10 : decode cX8_lays 10 = .ok (.invokevirtual 105, 3) := by decide +kernel
theorem dX8_lays_13 : decode cX8_lays 13 = .ok (.ifCond .ne 5, 3) := by decide +kernel
theorem dX8_lays_16 : decode cX8_lays 16 = .ok (.iconst (-1), 1) := by decide +kernel
theorem dX8_lays_17 : decode cX8_lays 17 = .ok (.ireturn, 1) := by decide +kernel
theorem dX8_lays_18 : decode cX8_lays 18 = .ok (.aload_n 0, 1) := by decide +kernel
theorem dX8_lays_19 : decode cX8_lays 19 = .ok (.getfield 19, 3) := by decide +kernel
theorem dX8_lays_22 : decode cX8_lays 22 = .ok (.bipush 9, 2) := by decide +kernel
theorem dX8_lays_24 : decode cX8_lays 24 = .ok (.iload_n 1, 1) := by decide +kernel
theorem dX8_lays_25 : decode cX8_lays 25 = .ok (.iadd, 1) := by decide +kernel
theorem dX8_lays_26 : decode cX8_lays 26 = .ok (.iaload, 1) := by decide +kernel
theorem dX8_lays_27 : decode cX8_lays 27 = .ok (.iload_n 2, 1) := by decide +kernel
theorem dX8_lays_28 : decode cX8_lays 28 = .ok (.if_icmp .ne 6, 3) := by decide +kernel
theorem dX8_lays_31 : decode cX8_lays 31 = .ok (.bipush (-2), 2) := by decide +kernel
theorem dX8_lays_33 : decode cX8_lays 33 = .ok (.ireturn, 1) := by decide +kernel
theorem dX8_lays_34 : decode cX8_lays 34 = .ok (.aload_n 0, 1) := by decide +kernel
theorem dX8_lays_35 : decode cX8_lays 35 = .ok (.invokevirtual 121, 3) := by decide +kernel
theorem dX8_lays_38 : decode cX8_lays 38 = .ok (.aload_n 0, 1) := by decide +kernel
theorem dX8_lays_39 : decode cX8_lays 39 = .ok (.getfield 19, 3) := by decide +kernel
theorem dX8_lays_42 : decode cX8_lays 42 = .ok (.bipush 9, 2) := by decide +kernel
theorem dX8_lays_44 : decode cX8_lays 44 = .ok (.iload_n 1, 1) := by decide +kernel
theorem dX8_lays_45 : decode cX8_lays 45 = .ok (.iadd, 1) := by decide +kernel
theorem dX8_lays_46 : decode cX8_lays 46 = .ok (.iaload, 1) := by decide +kernel
theorem dX8_lays_47 : decode cX8_lays 47 = .ok (.istore_n 3, 1) := by decide +kernel
theorem dX8_lays_48 : decode cX8_lays 48 = .ok (.aload_n 0, 1) := by decide +kernel
theorem dX8_lays_49 : decode cX8_lays 49 = .ok (.getfield 19, 3) := by decide +kernel
theorem dX8_lays_52 : decode cX8_lays 52 = .ok (.bipush 9, 2) := by decide +kernel
theorem dX8_lays_54 : decode cX8_lays 54 = .ok (.iload_n 1, 1) := by decide +kernel
theorem dX8_lays_55 : decode cX8_lays 55 = .ok (.iadd, 1) := by decide +kernel
theorem dX8_lays_56 : decode cX8_lays 56 = .ok (.iload_n 2, 1) := by decide +kernel
theorem dX8_lays_57 : decode cX8_lays 57 = .ok (.iastore, 1) := by decide +kernel
theorem dX8_lays_58 : decode cX8_lays 58 = .ok (.iload_n 3, 1) := by decide +kernel
theorem dX8_lays_59 : decode cX8_lays 59 = .ok (.ireturn, 1) := by decide +kernel
set_option maxRecDepth 20000 in
theorem ggX8_spills_X8_isBottle : GoodIn wsX8_spills wsX8_isBottle := goodIn_r _ [6, 7, 8, 9, 5, 10, 17, 18, 19, 20, 21, 22, 23, 24, 25, 26, 27, 28, 29, 30, 31, 32, 33, 34, 35] (by decide +kernel) (by decide +kernel)
set_option maxRecDepth 20000 in
theorem gX8_spills_X8_isBottle : GoodIn wsX8_spills (wsV RX8 105 RX8 yX8_isBottle wsX8_isBottle) := goodIn_app (goodIn_of _ (by decide +kernel)) ggX8_spills_X8_isBottle
set_option maxRecDepth 20000 in
theorem ggX8_spills_X8_keeps : GoodIn wsX8_spills wsX8_keeps := goodIn_r _ [14, 15, 16, 1, 17, 18, 19, 20, 21, 22, 23, 24, 25, 26, 27, 28, 29, 30, 31, 32, 33, 34, 35] (by decide +kernel) (by decide +kernel)
set_option maxRecDepth 20000 in
theorem gX8_spills_X8_keeps : GoodIn wsX8_spills (wsV RX8 121 RX8 yX8_keeps wsX8_keeps) := goodIn_app (goodIn_of _ (by decide +kernel)) ggX8_spills_X8_keeps
theorem dX8_spills_0 : decode cX8_spills 0 = .ok (.aload_n 0, 1) := by decide +kernel
theorem dX8_spills_1 : decode cX8_spills 1 = .ok (.iload_n 1, 1) := by decide +kernel
theorem dX8_spills_2 : decode cX8_spills 2 = .ok (.invokevirtual 105, 3) := by decide +kernel
theorem dX8_spills_5 : decode cX8_spills 5 = .ok (.ifCond .ne 5, 3) := by decide +kernel
theorem dX8_spills_8 : decode cX8_spills 8 = .ok (.iconst (-1), 1) := by decide +kernel
theorem dX8_spills_9 : decode cX8_spills 9 = .ok (.ireturn, 1) := by decide +kernel
theorem dX8_spills_10 : decode cX8_spills 10 = .ok (.aload_n 0, 1) := by decide +kernel
theorem dX8_spills_11 : decode cX8_spills 11 = .ok (.getfield 19, 3) := by decide +kernel
theorem dX8_spills_14 : decode cX8_spills 14 = .ok (.iconst 3, 1) := by decide +kernel
theorem dX8_spills_15 : decode cX8_spills 15 = .ok (.iload_n 1, 1) := by decide +kernel
theorem dX8_spills_16 : decode cX8_spills 16 = .ok (.iadd, 1) := by decide +kernel
theorem dX8_spills_17 : decode cX8_spills 17 = .ok (.iaload, 1) := by decide +kernel
theorem dX8_spills_18 : decode cX8_spills 18 = .ok (.ifCond .ne 6, 3) := by decide +kernel
theorem dX8_spills_21 : decode cX8_spills 21 = .ok (.bipush (-2), 2) := by decide +kernel
theorem dX8_spills_23 : decode cX8_spills 23 = .ok (.ireturn, 1) := by decide +kernel
theorem dX8_spills_24 : decode cX8_spills 24 = .ok (.aload_n 0, 1) := by decide +kernel
theorem dX8_spills_25 : decode cX8_spills 25 = .ok (.invokevirtual 121, 3) := by decide +kernel
theorem dX8_spills_28 : decode cX8_spills 28 = .ok (.aload_n 0, 1) := by decide +kernel
theorem dX8_spills_29 : decode cX8_spills 29 = .ok (.getfield 19, 3) := by decide +kernel
theorem dX8_spills_32 : decode cX8_spills 32 = .ok (.iconst 3, 1) := by decide +kernel
theorem dX8_spills_33 : decode cX8_spills 33 = .ok (.iload_n 1, 1) := by decide +kernel
theorem dX8_spills_34 : decode cX8_spills 34 = .ok (.iadd, 1) := by decide +kernel
theorem dX8_spills_35 : decode cX8_spills 35 = .ok (.iaload, 1) := by decide +kernel
theorem dX8_spills_36 : decode cX8_spills 36 = .ok (.istore_n 2, 1) := by decide +kernel
theorem dX8_spills_37 : decode cX8_spills 37 = .ok (.aload_n 0, 1) := by decide +kernel
theorem dX8_spills_38 : decode cX8_spills 38 = .ok (.getfield 19, 3) := by decide +kernel
theorem dX8_spills_41 : decode cX8_spills 41 = .ok (.iconst 3, 1) := by decide +kernel
theorem dX8_spills_42 : decode cX8_spills 42 = .ok (.iload_n 1, 1) := by decide +kernel
theorem dX8_spills_43 : decode cX8_spills 43 = .ok (.iadd, 1) := by decide +kernel
theorem dX8_spills_44 : decode cX8_spills 44 = .ok (.iconst 0, 1) := by decide +kernel
theorem dX8_spills_45 : decode cX8_spills 45 = .ok (.iastore, 1) := by decide +kernel
theorem dX8_spills_46 : decode cX8_spills 46 = .ok (.iload_n 2, 1) := by decide +kernel
theorem dX8_spills_47 : decode cX8_spills 47 = .ok (.ireturn, 1) := by decide +kernel
set_option maxRecDepth 20000 in
theorem ggX8_frosts_X8_in : GoodIn wsX8_frosts wsX8_in := goodIn_r _ [5] (by decide +kernel) (by decide +kernel)
set_option maxRecDepth 20000 in
theorem gX8_frosts_X8_in : GoodIn wsX8_frosts (va_wsS RX8 51 yX8_in wsX8_in) := goodIn_app (goodIn_of _ (by decide +kernel)) ggX8_frosts_X8_in
set_option maxRecDepth 20000 in
theorem ggX8_frosts_X8_keeps : GoodIn wsX8_frosts wsX8_keeps := goodIn_r _ [9, 10, 11, 1, 12, 13, 14, 15, 16, 17, 18, 19, 20, 21, 22, 23, 24, 25, 26, 27, 28, 29, 30] (by decide +kernel) (by decide +kernel)
set_option maxRecDepth 20000 in
theorem gX8_frosts_X8_keeps : GoodIn wsX8_frosts (wsV RX8 121 RX8 yX8_keeps wsX8_keeps) := goodIn_app (goodIn_of _ (by decide +kernel)) ggX8_frosts_X8_keeps
theorem dX8_frosts_0 : decode cX8_frosts 0 = .ok (.iload_n 1, 1) := by decide +kernel
theorem dX8_frosts_1 : decode cX8_frosts 1 = .ok (.iconst 0, 1) := by decide +kernel
theorem dX8_frosts_2 : decode cX8_frosts 2 = .ok (.bipush 9, 2) := by decide +kernel
theorem dX8_frosts_4 : decode cX8_frosts 4 = .ok (.invokestatic 51, 3) := by decide +kernel
theorem dX8_frosts_7 : decode cX8_frosts 7 = .ok (.ifCond .ne 5, 3) := by decide +kernel
theorem dX8_frosts_10 : decode cX8_frosts 10 = .ok (.iconst (-1), 1) := by decide +kernel
theorem dX8_frosts_11 : decode cX8_frosts 11 = .ok (.ireturn, 1) := by decide +kernel
theorem dX8_frosts_12 : decode cX8_frosts 12 = .ok (.aload_n 0, 1) := by decide +kernel
theorem dX8_frosts_13 : decode cX8_frosts 13 = .ok (.getfield 19, 3) := by decide +kernel
theorem dX8_frosts_16 : decode cX8_frosts 16 = .ok (.iconst 1, 1) := by decide +kernel
theorem dX8_frosts_17 : decode cX8_frosts 17 = .ok (.iaload, 1) := by decide +kernel
theorem dX8_frosts_18 : decode cX8_frosts 18 = .ok (.iload_n 1, 1) := by decide +kernel
theorem dX8_frosts_19 : decode cX8_frosts 19 = .ok (.if_icmp .ne 6, 3) := by decide +kernel
theorem dX8_frosts_22 : decode cX8_frosts 22 = .ok (.bipush (-2), 2) := by decide +kernel
theorem dX8_frosts_24 : decode cX8_frosts 24 = .ok (.ireturn, 1) := by decide +kernel
theorem dX8_frosts_25 : decode cX8_frosts 25 = .ok (.aload_n 0, 1) := by decide +kernel
theorem dX8_frosts_26 : decode cX8_frosts 26 = .ok (.invokevirtual 121, 3) := by decide +kernel
theorem dX8_frosts_29 : decode cX8_frosts 29 = .ok (.aload_n 0, 1) := by decide +kernel
theorem dX8_frosts_30 : decode cX8_frosts 30 = .ok (.getfield 19, 3) := by decide +kernel
theorem dX8_frosts_33 : decode cX8_frosts 33 = .ok (.iconst 1, 1) := by decide +kernel
theorem dX8_frosts_34 : decode cX8_frosts 34 = .ok (.iaload, 1) := by decide +kernel
theorem dX8_frosts_35 : decode cX8_frosts 35 = .ok (.istore_n 2, 1) := by decide +kernel
theorem dX8_frosts_36 : decode cX8_frosts 36 = .ok (.aload_n 0, 1) := by decide +kernel
theorem dX8_frosts_37 : decode cX8_frosts 37 = .ok (.getfield 19, 3) := by decide +kernel
theorem dX8_frosts_40 : decode cX8_frosts 40 = .ok (.iconst 1, 1) := by decide +kernel
theorem dX8_frosts_41 : decode cX8_frosts 41 = .ok (.iload_n 1, 1) := by decide +kernel
theorem dX8_frosts_42 : decode cX8_frosts 42 = .ok (.iastore, 1) := by decide +kernel
theorem dX8_frosts_43 : decode cX8_frosts 43 = .ok (.iload_n 2, 1) := by decide +kernel
theorem dX8_frosts_44 : decode cX8_frosts 44 = .ok (.ireturn, 1) := by decide +kernel
set_option maxRecDepth 20000 in
theorem ggX8_boils_X8_keeps : GoodIn wsX8_boils wsX8_keeps := goodIn_r _ [7, 8, 9, 1, 10, 11, 12, 13, 14, 15, 16, 17, 18, 19, 20, 21, 22, 23, 24, 25, 26, 27, 28] (by decide +kernel) (by decide +kernel)
set_option maxRecDepth 20000 in
theorem gX8_boils_X8_keeps : GoodIn wsX8_boils (wsV RX8 121 RX8 yX8_keeps wsX8_keeps) := goodIn_app (goodIn_of _ (by decide +kernel)) ggX8_boils_X8_keeps
theorem dX8_boils_0 : decode cX8_boils 0 = .ok (.aload_n 0, 1) := by decide +kernel
theorem dX8_boils_1 : decode cX8_boils 1 = .ok (.getfield 19, 3) := by decide +kernel
theorem dX8_boils_4 : decode cX8_boils 4 = .ok (.iconst 2, 1) := by decide +kernel
theorem dX8_boils_5 : decode cX8_boils 5 = .ok (.iaload, 1) := by decide +kernel
theorem dX8_boils_6 : decode cX8_boils 6 = .ok (.aload_n 0, 1) := by decide +kernel
theorem dX8_boils_7 : decode cX8_boils 7 = .ok (.getfield 13, 3) := by decide +kernel
theorem dX8_boils_10 : decode cX8_boils 10 = .ok (.iconst 1, 1) := by decide +kernel
theorem dX8_boils_11 : decode cX8_boils 11 = .ok (.iaload, 1) := by decide +kernel
theorem dX8_boils_12 : decode cX8_boils 12 = .ok (.if_icmp .ne 6, 3) := by decide +kernel
theorem dX8_boils_15 : decode cX8_boils 15 = .ok (.bipush (-2), 2) := by decide +kernel
theorem dX8_boils_17 : decode cX8_boils 17 = .ok (.ireturn, 1) := by decide +kernel
theorem dX8_boils_18 : decode cX8_boils 18 = .ok (.aload_n 0, 1) := by decide +kernel
theorem dX8_boils_19 : decode cX8_boils 19 = .ok (.invokevirtual 121, 3) := by decide +kernel
theorem dX8_boils_22 : decode cX8_boils 22 = .ok (.aload_n 0, 1) := by decide +kernel
theorem dX8_boils_23 : decode cX8_boils 23 = .ok (.getfield 19, 3) := by decide +kernel
theorem dX8_boils_26 : decode cX8_boils 26 = .ok (.iconst 2, 1) := by decide +kernel
theorem dX8_boils_27 : decode cX8_boils 27 = .ok (.iaload, 1) := by decide +kernel
theorem dX8_boils_28 : decode cX8_boils 28 = .ok (.istore_n 1, 1) := by decide +kernel
theorem dX8_boils_29 : decode cX8_boils 29 = .ok (.aload_n 0, 1) := by decide +kernel
theorem dX8_boils_30 : decode cX8_boils 30 = .ok (.getfield 19, 3) := by decide +kernel
theorem dX8_boils_33 : decode cX8_boils 33 = .ok (.iconst 2, 1) := by decide +kernel
theorem dX8_boils_34 : decode cX8_boils 34 = .ok (.aload_n 0, 1) := by decide +kernel
theorem dX8_boils_35 : decode cX8_boils 35 = .ok (.getfield 13, 3) := by decide +kernel
theorem dX8_boils_38 : decode cX8_boils 38 = .ok (.iconst 1, 1) := by decide +kernel
theorem dX8_boils_39 : decode cX8_boils 39 = .ok (.iaload, 1) := by decide +kernel
theorem dX8_boils_40 : decode cX8_boils 40 = .ok (.iastore, 1) := by decide +kernel
theorem dX8_boils_41 : decode cX8_boils 41 = .ok (.iload_n 1, 1) := by decide +kernel
theorem dX8_boils_42 : decode cX8_boils 42 = .ok (.ireturn, 1) := by decide +kernel
theorem dX8_undo_0 : decode cX8_undo 0 = .ok (.aload_n 0, 1) := by decide +kernel
theorem dX8_undo_1 : decode cX8_undo 1 = .ok (.getfield 92, 3) := by decide +kernel
theorem dX8_undo_4 : decode cX8_undo 4 = .ok (.ifCond .ne 6, 3) := by decide +kernel
theorem dX8_undo_7 : decode cX8_undo 7 = .ok (.bipush (-2), 2) := by decide +kernel
theorem dX8_undo_9 : decode cX8_undo 9 = .ok (.ireturn, 1) := by decide +kernel
theorem dX8_undo_10 : decode cX8_undo 10 = .ok (.aload_n 0, 1) := by decide +kernel
theorem dX8_undo_11 : decode cX8_undo 11 = .ok (.dup, 1) := by decide +kernel
theorem dX8_undo_12 : decode cX8_undo 12 = .ok (.getfield 92, 3) := by decide +kernel
theorem dX8_undo_15 : decode cX8_undo 15 = .ok (.iconst 1, 1) := by decide +kernel
theorem dX8_undo_16 : decode cX8_undo 16 = .ok (.isub, 1) := by decide +kernel
theorem dX8_undo_17 : decode cX8_undo 17 = .ok (.putfield 92, 3) := by decide +kernel
theorem dX8_undo_20 : decode cX8_undo 20 = .ok (.iconst 0, 1) := by decide +kernel
theorem dX8_undo_21 : decode cX8_undo 21 = .ok (.istore_n 1, 1) := by decide +kernel
theorem dX8_undo_22 : decode cX8_undo 22 = .ok (.iload_n 1, 1) := by decide +kernel
theorem dX8_undo_23 : decode cX8_undo 23 = .ok (.bipush 15, 2) := by decide +kernel
theorem dX8_undo_25 : decode cX8_undo 25 = .ok (.if_icmp .ge 29, 3) := by decide +kernel
theorem dX8_undo_28 : decode cX8_undo 28 = .ok (.aload_n 0, 1) := by decide +kernel
theorem dX8_undo_29 : decode cX8_undo 29 = .ok (.getfield 19, 3) := by decide +kernel
theorem dX8_undo_32 : decode cX8_undo 32 = .ok (.iload_n 1, 1) := by decide +kernel
theorem dX8_undo_33 : decode cX8_undo 33 = .ok (.aload_n 0, 1) := by decide +kernel
theorem dX8_undo_34 : decode cX8_undo 34 = .ok (.getfield 22, 3) := by decide +kernel
theorem dX8_undo_37 : decode cX8_undo 37 = .ok (.bipush 15, 2) := by decide +kernel
theorem dX8_undo_39 : decode cX8_undo 39 = .ok (.aload_n 0, 1) := by decide +kernel
theorem dX8_undo_40 : decode cX8_undo 40 = .ok (.getfield 92, 3) := by decide +kernel
theorem dX8_undo_43 : decode cX8_undo 43 = .ok (.imul, 1) := by decide +kernel
theorem dX8_undo_44 : decode cX8_undo 44 = .ok (.iload_n 1, 1) := by decide +kernel
theorem dX8_undo_45 : decode cX8_undo 45 = .ok (.iadd, 1) := by decide +kernel
theorem dX8_undo_46 : decode cX8_undo 46 = .ok (.iaload, 1) := by decide +kernel
theorem dX8_undo_47 : decode cX8_undo 47 = .ok (.iastore, 1) := by decide +kernel
