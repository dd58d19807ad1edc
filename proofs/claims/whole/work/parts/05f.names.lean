theorem dX8_undo_48 : decode cX8_undo 48 = .ok (.iinc 1 1, 3) := by decide +kernel
theorem dX8_undo_51 : decode cX8_undo 51 = .ok (.goto (-29), 3) := by decide +kernel
theorem dX8_undo_54 : decode cX8_undo 54 = .ok (.aload_n 0, 1) := by decide +kernel
theorem dX8_undo_55 : decode cX8_undo 55 = .ok (.getfield 92, 3) := by decide +kernel
theorem dX8_undo_58 : decode cX8_undo 58 = .ok (.ireturn, 1) := by decide +kernel
set_option maxRecDepth 20000 in
theorem ggX8_pints_X8_filled : GoodIn wsX8_pints wsX8_filled := goodIn_r _ [6, 1, 7, 12, 13, 14, 15, 16, 17, 18, 19, 20, 21, 22, 23, 24, 25, 26, 27, 28, 29, 30] (by decide +kernel) (by decide +kernel)
set_option maxRecDepth 20000 in
theorem gX8_pints_X8_filled : GoodIn wsX8_pints (wsV RX8 127 RX8 yX8_filled wsX8_filled) := goodIn_app (goodIn_of _ (by decide +kernel)) ggX8_pints_X8_filled
set_option maxRecDepth 20000 in
theorem ggX8_pints_X8_cools : GoodIn wsX8_pints wsX8_cools := goodIn_r _ [11, 7, 1, 12, 13, 14, 15, 16, 17, 18, 19, 20, 21, 22, 23, 24, 25, 26, 27, 28, 29, 30] (by decide +kernel) (by decide +kernel)
set_option maxRecDepth 20000 in
theorem gX8_pints_X8_cools : GoodIn wsX8_pints (wsV RX8 98 RX8 yX8_cools wsX8_cools) := goodIn_app (goodIn_of _ (by decide +kernel)) ggX8_pints_X8_cools
theorem dX8_pints_0 : decode cX8_pints 0 = .ok (.bipush (-9), 2) := by decide +kernel
theorem dX8_pints_2 : decode cX8_pints 2 = .ok (.istore_n 3, 1) := by decide +kernel
theorem dX8_pints_3 : decode cX8_pints 3 = .ok (.bipush 9, 2) := by decide +kernel
theorem dX8_pints_5 : decode cX8_pints 5 = .ok (.istore 4, 2) := by decide +kernel
theorem dX8_pints_7 : decode cX8_pints 7 = .ok (.iload 4, 2) := by decide +kernel
theorem dX8_pints_9 : decode cX8_pints 9 = .ok (.ifCond .lt 39, 3) := by decide +kernel
theorem dX8_pints_12 : decode cX8_pints 12 = .ok (.aload_n 0, 1) := by decide +kernel
theorem dX8_pints_13 : decode cX8_pints 13 = .ok (.iload_n 2, 1) := by decide +kernel
theorem dX8_pints_14 : decode cX8_pints 14 = .ok (.iload 4, 2) := by decide +kernel
theorem dX8_pints_16 : decode cX8_pints 16 = .ok (.invokevirtual 127, 3) := by decide +kernel
theorem dX8_pints_19 : decode cX8_pints 19 = .ok (.iload_n 1, 1) := by decide +kernel
theorem dX8_pints_20 : decode cX8_pints 20 = .ok (.aload_n 0, 1) := by decide +kernel
theorem dX8_pints_21 : decode cX8_pints 21 = .ok (.iload_n 2, 1) := by decide +kernel
theorem dX8_pints_22 : decode cX8_pints 22 = .ok (.aload_n 0, 1) := by decide +kernel
theorem dX8_pints_23 : decode cX8_pints 23 = .ok (.getfield 19, 3) := by decide +kernel
theorem dX8_pints_26 : decode cX8_pints 26 = .ok (.iconst 1, 1) := by decide +kernel
theorem dX8_pints_27 : decode cX8_pints 27 = .ok (.iaload, 1) := by decide +kernel
theorem dX8_pints_28 : decode cX8_pints 28 = .ok (.invokevirtual 98, 3) := by decide +kernel
theorem dX8_pints_31 : decode cX8_pints 31 = .ok (.imul, 1) := by decide +kernel
theorem dX8_pints_32 : decode cX8_pints 32 = .ok (.if_icmp .le 8, 3) := by decide +kernel
theorem dX8_pints_35 : decode cX8_pints 35 = .ok (.iload 4, 2) := by decide +kernel
theorem dX8_pints_37 : decode cX8_pints 37 = .ok (.goto 4, 3) := by decide +kernel
theorem dX8_pints_40 : decode cX8_pints 40 = .ok (.iload_n 3, 1) := by decide +kernel
theorem dX8_pints_41 : decode cX8_pints 41 = .ok (.istore_n 3, 1) := by decide +kernel
theorem dX8_pints_42 : decode cX8_pints 42 = .ok (.iinc 4 (-1), 3) := by decide +kernel
theorem dX8_pints_45 : decode cX8_pints 45 = .ok (.goto (-38), 3) := by decide +kernel
theorem dX8_pints_48 : decode cX8_pints 48 = .ok (.iload_n 3, 1) := by decide +kernel
theorem dX8_pints_49 : decode cX8_pints 49 = .ok (.ireturn, 1) := by decide +kernel
set_option maxRecDepth 20000 in
theorem ggX8_morning_X8_in : GoodIn wsX8_morning wsX8_in := goodIn_r _ [5] (by decide +kernel) (by decide +kernel)
set_option maxRecDepth 20000 in
theorem gX8_morning_X8_in : GoodIn wsX8_morning (va_wsS RX8 51 yX8_in wsX8_in) := goodIn_app (goodIn_of _ (by decide +kernel)) ggX8_morning_X8_in
set_option maxRecDepth 20000 in
theorem ggX8_morning_X8_isBottle : GoodIn wsX8_morning wsX8_isBottle := goodIn_r _ [9, 1, 2, 3, 4, 5, 23, 24, 25, 26, 27, 28, 29, 30, 31, 32, 33, 34, 35, 36, 37, 38, 39, 40, 41] (by decide +kernel) (by decide +kernel)
set_option maxRecDepth 20000 in
theorem gX8_morning_X8_isBottle : GoodIn wsX8_morning (wsV RX8 105 RX8 yX8_isBottle wsX8_isBottle) := goodIn_app (goodIn_of _ (by decide +kernel)) ggX8_morning_X8_isBottle
set_option maxRecDepth 20000 in
theorem ggX8_morning_X8_pints : GoodIn wsX8_morning wsX8_pints := goodIn_r _ [13, 14, 15, 16, 17, 4, 18, 1, 19, 20, 21, 22, 23, 24, 25, 26, 27, 28, 29, 30, 31, 32, 33, 34, 35, 36, 37, 38, 39, 40, 41] (by decide +kernel) (by decide +kernel)
set_option maxRecDepth 20000 in
theorem gX8_morning_X8_pints : GoodIn wsX8_morning (wsV RX8 130 RX8 yX8_pints wsX8_pints) := goodIn_app (goodIn_of _ (by decide +kernel)) ggX8_morning_X8_pints
theorem dX8_morning_0 : decode cX8_morning 0 = .ok (.iload_n 1, 1) := by decide +kernel
theorem dX8_morning_1 : decode cX8_morning 1 = .ok (.iconst 1, 1) := by decide +kernel
theorem dX8_morning_2 : decode cX8_morning 2 = .ok (.bipush 40, 2) := by decide +kernel
theorem dX8_morning_4 : decode cX8_morning 4 = .ok (.invokestatic 51, 3) := by decide +kernel
theorem dX8_morning_7 : decode cX8_morning 7 = .ok (.ifCond .eq 16, 3) := by decide +kernel
theorem dX8_morning_10 : decode cX8_morning 10 = .ok (.iload_n 2, 1) := by decide +kernel
theorem dX8_morning_11 : decode cX8_morning 11 = .ok (.iconst (-1), 1) := by decide +kernel
theorem dX8_morning_12 : decode cX8_morning 12 = .ok (.if_icmp .eq 13, 3) := by decide +kernel
theorem dX8_morning_15 : decode cX8_morning 15 = .ok (.aload_n 0, 1) := by decide +kernel
theorem dX8_morning_16 : decode cX8_morning 16 = .ok (.iload_n 2, 1) := by decide +kernel
theorem dX8_morning_17 : decode cX8_morning 17 = .ok (.invokevirtual 105, 3) := by decide +kernel
theorem dX8_morning_20 : decode cX8_morning 20 = .ok (.ifCond .ne 5, 3) := by decide +kernel
theorem dX8_morning_23 : decode cX8_morning 23 = .ok (.iconst (-1), 1) := by decide +kernel
theorem dX8_morning_24 : decode cX8_morning 24 = .ok (.ireturn, 1) := by decide +kernel
theorem dX8_morning_25 : decode cX8_morning 25 = .ok (.iload_n 2, 1) := by decide +kernel
theorem dX8_morning_26 : decode cX8_morning 26 = .ok (.ifCond .lt 10, 3) := by decide +kernel
theorem dX8_morning_29 : decode cX8_morning 29 = .ok (.aload_n 0, 1) := by decide +kernel
theorem dX8_morning_30 : decode cX8_morning 30 = .ok (.iload_n 1, 1) := by decide +kernel
theorem dX8_morning_31 : decode cX8_morning 31 = .ok (.iload_n 2, 1) := by decide +kernel
theorem dX8_morning_32 : decode cX8_morning 32 = .ok (.invokevirtual 130, 3) := by decide +kernel
theorem dX8_morning_35 : decode cX8_morning 35 = .ok (.ireturn, 1) := by decide +kernel
theorem dX8_morning_36 : decode cX8_morning 36 = .ok (.iconst 0, 1) := by decide +kernel
theorem dX8_morning_37 : decode cX8_morning 37 = .ok (.istore_n 3, 1) := by decide +kernel
theorem dX8_morning_38 : decode cX8_morning 38 = .ok (.iconst 0, 1) := by decide +kernel
theorem dX8_morning_39 : decode cX8_morning 39 = .ok (.istore 4, 2) := by decide +kernel
theorem dX8_morning_41 : decode cX8_morning 41 = .ok (.iload 4, 2) := by decide +kernel
theorem dX8_morning_43 : decode cX8_morning 43 = .ok (.aload_n 0, 1) := by decide +kernel
theorem dX8_morning_44 : decode cX8_morning 44 = .ok (.getfield 13, 3) := by decide +kernel
theorem dX8_morning_47 : decode cX8_morning 47 = .ok (.iconst 0, 1) := by decide +kernel
theorem dX8_morning_48 : decode cX8_morning 48 = .ok (.iaload, 1) := by decide +kernel
theorem dX8_morning_49 : decode cX8_morning 49 = .ok (.if_icmp .ge 41, 3) := by decide +kernel
theorem dX8_morning_52 : decode cX8_morning 52 = .ok (.aload_n 0, 1) := by decide +kernel
theorem dX8_morning_53 : decode cX8_morning 53 = .ok (.iload_n 1, 1) := by decide +kernel
theorem dX8_morning_54 : decode cX8_morning 54 = .ok (.iload 4, 2) := by decide +kernel
theorem dX8_morning_56 : decode cX8_morning 56 = .ok (.invokevirtual 130, 3) := by decide +kernel
theorem dX8_morning_59 : decode cX8_morning 59 = .ok (.istore 5, 2) := by decide +kernel
theorem dX8_morning_61 : decode cX8_morning 61 = .ok (.iload 5, 2) := by decide +kernel
theorem dX8_morning_63 : decode cX8_morning 63 = .ok (.bipush (-9), 2) := by decide +kernel
theorem dX8_morning_65 : decode cX8_morning 65 = .ok (.if_icmp .eq 9, 3) := by decide +kernel
theorem dX8_morning_68 : decode cX8_morning 68 = .ok (.iload_n 3, 1) := by decide +kernel
theorem dX8_morning_69 : decode cX8_morning 69 = .ok (.bipush (-9), 2) := by decide +kernel
theorem dX8_morning_71 : decode cX8_morning 71 = .ok (.if_icmp .ne 8, 3) := by decide +kernel
theorem dX8_morning_74 : decode cX8_morning 74 = .ok (.bipush (-9), 2) := by decide +kernel
theorem dX8_morning_76 : decode cX8_morning 76 = .ok (.goto 7, 3) := by decide +kernel
theorem dX8_morning_79 : decode cX8_morning 79 = .ok (.iload_n 3, 1) := by decide +kernel
theorem dX8_morning_80 : decode cX8_morning 80 = .ok (.iload 5, 2) := by decide +kernel
theorem dX8_morning_82 : decode cX8_morning 82 = .ok (.iadd, 1) := by decide +kernel
theorem dX8_morning_83 : decode cX8_morning 83 = .ok (.istore_n 3, 1) := by decide +kernel
theorem dX8_morning_84 : decode cX8_morning 84 = .ok (.iinc 4 1, 3) := by decide +kernel
theorem dX8_morning_87 : decode cX8_morning 87 = .ok (.goto (-46), 3) := by decide +kernel
theorem dX8_morning_90 : decode cX8_morning 90 = .ok (.iload_n 3, 1) := by decide +kernel
theorem dX8_morning_91 : decode cX8_morning 91 = .ok (.ireturn, 1) := by decide +kernel
theorem dX8_holds_0 : decode cX8_holds 0 = .ok (.iconst 0, 1) := by decide +kernel
theorem dX8_holds_1 : decode cX8_holds 1 = .ok (.istore_n 1, 1) := by decide +kernel
theorem dX8_holds_2 : decode cX8_holds 2 = .ok (.iload_n 1, 1) := by decide +kernel
theorem dX8_holds_3 : decode cX8_holds 3 = .ok (.bipush 15, 2) := by decide +kernel
theorem dX8_holds_5 : decode cX8_holds 5 = .ok (.if_icmp .ge 21, 3) := by decide +kernel
theorem dX8_holds_8 : decode cX8_holds 8 = .ok (.aload_n 0, 1) := by decide +kernel
theorem dX8_holds_9 : decode cX8_holds 9 = .ok (.getfield 35, 3) := by decide +kernel
theorem dX8_holds_12 : decode cX8_holds 12 = .ok (.iload_n 1, 1) := by decide +kernel
theorem dX8_holds_13 : decode cX8_holds 13 = .ok (.aload_n 0, 1) := by decide +kernel
theorem dX8_holds_14 : decode cX8_holds 14 = .ok (.getfield 19, 3) := by decide +kernel
theorem dX8_holds_17 : decode cX8_holds 17 = .ok (.iload_n 1, 1) := by decide +kernel
theorem dX8_holds_18 : decode cX8_holds 18 = .ok (.iaload, 1) := by decide +kernel
theorem dX8_holds_19 : decode cX8_holds 19 = .ok (.iastore, 1) := by decide +kernel
theorem dX8_holds_20 : decode cX8_holds 20 = .ok (.iinc 1 1, 3) := by decide +kernel
theorem dX8_holds_23 : decode cX8_holds 23 = .ok (.goto (-21), 3) := by decide +kernel
theorem dX8_holds_26 : decode cX8_holds 26 = .ok (.return_, 1) := by decide +kernel
theorem dX8_lets_0 : decode cX8_lets 0 = .ok (.iconst 0, 1) := by decide +kernel
theorem dX8_lets_1 : decode cX8_lets 1 = .ok (.istore_n 1, 1) := by decide +kernel
theorem dX8_lets_2 : decode cX8_lets 2 = .ok (.iload_n 1, 1) := by decide +kernel
theorem dX8_lets_3 : decode cX8_lets 3 = .ok (.bipush 15, 2) := by decide +kernel
theorem dX8_lets_5 : decode cX8_lets 5 = .ok (.if_icmp .ge 21, 3) := by decide +kernel
theorem dX8_lets_8 : decode cX8_lets 8 = .ok (.aload_n 0, 1) := by decide +kernel
theorem dX8_lets_9 : decode cX8_lets 9 = .ok (.getfield 19, 3) := by decide +kernel
theorem dX8_lets_12 : decode cX8_lets 12 = .ok (.iload_n 1, 1) := by decide +kernel
theorem dX8_lets_13 : decode cX8_lets 13 = .ok (.aload_n 0, 1) := by decide +kernel
theorem dX8_lets_14 : decode cX8_lets 14 = .ok (.getfield 35, 3) := by decide +kernel
theorem dX8_lets_17 : decode cX8_lets 17 = .ok (.iload_n 1, 1) := by decide +kernel
theorem dX8_lets_18 : decode cX8_lets 18 = .ok (.iaload, 1) := by decide +kernel
theorem dX8_lets_19 : decode cX8_lets 19 = .ok (.iastore, 1) := by decide +kernel
theorem dX8_lets_20 : decode cX8_lets 20 = .ok (.iinc 1 1, 3) := by decide +kernel
theorem dX8_lets_23 : decode cX8_lets 23 = .ok (.goto (-21), 3) := by decide +kernel
theorem dX8_lets_26 : decode cX8_lets 26 = .ok (.return_, 1) := by decide +kernel
set_option maxRecDepth 20000 in
theorem ggX8_keptBy_X8_filled : GoodIn wsX8_keptBy wsX8_filled := goodIn_r _ [7, 2, 1, 23, 24, 25, 26, 27, 28, 29, 30, 31, 32, 33, 34, 35, 36, 37, 38, 39, 40, 41] (by decide +kernel) (by decide +kernel)
set_option maxRecDepth 20000 in
theorem gX8_keptBy_X8_filled : GoodIn wsX8_keptBy (wsV RX8 127 RX8 yX8_filled wsX8_filled) := goodIn_app (goodIn_of _ (by decide +kernel)) ggX8_keptBy_X8_filled
set_option maxRecDepth 20000 in
theorem ggX8_keptBy_X8_passes : GoodIn wsX8_keptBy wsX8_passes := goodIn_r _ [11, 1, 2, 12, 13, 14, 6, 15, 16, 17, 18, 23, 24, 25, 26, 27, 28, 29, 30, 31, 32, 33, 34, 35, 36, 37, 38, 39, 40, 41] (by decide +kernel) (by decide +kernel)
set_option maxRecDepth 20000 in
theorem gX8_keptBy_X8_passes : GoodIn wsX8_keptBy (wsV RX8 124 RX8 yX8_passes wsX8_passes) := goodIn_app (goodIn_of _ (by decide +kernel)) ggX8_keptBy_X8_passes
set_option maxRecDepth 20000 in
theorem ggX8_keptBy_X8_manyWarm : GoodIn wsX8_keptBy wsX8_manyWarm := goodIn_r _ [22, 1, 2, 23, 24, 25, 26, 27, 28, 29, 30, 31, 32, 33, 34, 35, 36, 37, 38, 39, 40, 41] (by decide +kernel) (by decide +kernel)
set_option maxRecDepth 20000 in
theorem gX8_keptBy_X8_manyWarm : GoodIn wsX8_keptBy (wsV RX8 115 RX8 yX8_manyWarm wsX8_manyWarm) := goodIn_app (goodIn_of _ (by decide +kernel)) ggX8_keptBy_X8_manyWarm
theorem dX8_keptBy_0 : decode cX8_keptBy 0 = .ok (.iload_n 1, 1) := by decide +kernel
theorem dX8_keptBy_1 : decode cX8_keptBy 1 = .ok (.istore_n 2, 1) := by decide +kernel
theorem dX8_keptBy_2 : decode cX8_keptBy 2 = .ok (.iconst 0, 1) := by decide +kernel
theorem dX8_keptBy_3 : decode cX8_keptBy 3 = .ok (.istore_n 3, 1) := by decide +kernel
theorem dX8_keptBy_4 : decode cX8_keptBy 4 = .ok (.iload_n 3, 1) := by decide +kernel
theorem dX8_keptBy_5 : decode cX8_keptBy 5 = .ok (.iconst 4, 1) := by decide +kernel
theorem dX8_keptBy_6 : decode cX8_keptBy 6 = .ok (.if_icmp .ge 94, 3) := by decide +kernel
theorem dX8_keptBy_9 : decode cX8_keptBy 9 = .ok (.iload_n 2, 1) := by decide +kernel
theorem dX8_keptBy_10 : decode cX8_keptBy 10 = .ok (.bipush 7, 2) := by decide +kernel
theorem dX8_keptBy_12 : decode cX8_keptBy 12 = .ok (.irem, 1) := by decide +kernel
theorem dX8_keptBy_13 : decode cX8_keptBy 13 = .ok (.istore 4, 2) := by decide +kernel
theorem dX8_keptBy_15 : decode cX8_keptBy 15 = .ok (.iload_n 2, 1) := by decide +kernel
theorem dX8_keptBy_16 : decode cX8_keptBy 16 = .ok (.bipush 7, 2) := by decide +kernel
theorem dX8_keptBy_18 : decode cX8_keptBy 18 = .ok (.idiv, 1) := by decide +kernel
theorem dX8_keptBy_19 : decode cX8_keptBy 19 = .ok (.istore_n 2, 1) := by decide +kernel
theorem dX8_keptBy_20 : decode cX8_keptBy 20 = .ok (.iload 4, 2) := by decide +kernel
theorem dX8_keptBy_22 : decode cX8_keptBy 22 = .ok (.bipush 6, 2) := by decide +kernel
theorem dX8_keptBy_24 : decode cX8_keptBy 24 = .ok (.if_icmp .ge 51, 3) := by decide +kernel
theorem dX8_keptBy_27 : decode cX8_keptBy 27 = .ok (.iload 4, 2) := by decide +kernel
theorem dX8_keptBy_29 : decode cX8_keptBy 29 = .ok (.aload_n 0, 1) := by decide +kernel
theorem dX8_keptBy_30 : decode cX8_keptBy 30 = .ok (.getfield 13, 3) := by decide +kernel
theorem dX8_keptBy_33 : decode cX8_keptBy 33 = .ok (.iconst 0, 1) := by decide +kernel
theorem dX8_keptBy_34 : decode cX8_keptBy 34 = .ok (.iaload, 1) := by decide +kernel
theorem dX8_keptBy_35 : decode cX8_keptBy 35 = .ok (.if_icmp .ge 12, 3) := by decide +kernel
theorem dX8_keptBy_38 : decode cX8_keptBy 38 = .ok (.aload_n 0, 1) := by decide +kernel
theorem dX8_keptBy_39 : decode cX8_keptBy 39 = .ok (.getfield 19, 3) := by decide +kernel
theorem dX8_keptBy_42 : decode cX8_keptBy 42 = .ok (.iconst 2, 1) := by decide +kernel
theorem dX8_keptBy_43 : decode cX8_keptBy 43 = .ok (.iaload, 1) := by decide +kernel
theorem dX8_keptBy_44 : decode cX8_keptBy 44 = .ok (.ifCond .ne 5, 3) := by decide +kernel
theorem dX8_keptBy_47 : decode cX8_keptBy 47 = .ok (.iconst (-1), 1) := by decide +kernel
theorem dX8_keptBy_48 : decode cX8_keptBy 48 = .ok (.ireturn, 1) := by decide +kernel
theorem dX8_keptBy_49 : decode cX8_keptBy 49 = .ok (.aload_n 0, 1) := by decide +kernel
theorem dX8_keptBy_50 : decode cX8_keptBy 50 = .ok (.getfield 19, 3) := by decide +kernel
theorem dX8_keptBy_53 : decode cX8_keptBy 53 = .ok (.iconst 3, 1) := by decide +kernel
theorem dX8_keptBy_54 : decode cX8_keptBy 54 = .ok (.iload 4, 2) := by decide +kernel
theorem dX8_keptBy_56 : decode cX8_keptBy 56 = .ok (.iadd, 1) := by decide +kernel
theorem dX8_keptBy_57 : decode cX8_keptBy 57 = .ok (.aload_n 0, 1) := by decide +kernel
theorem dX8_keptBy_58 : decode cX8_keptBy 58 = .ok (.iload 4, 2) := by decide +kernel
theorem dX8_keptBy_60 : decode cX8_keptBy 60 = .ok (.iconst 1, 1) := by decide +kernel
theorem dX8_keptBy_61 : decode cX8_keptBy 61 = .ok (.invokevirtual 127, 3) := by decide +kernel
theorem dX8_keptBy_64 : decode cX8_keptBy 64 = .ok (.iastore, 1) := by decide +kernel
theorem dX8_keptBy_65 : decode cX8_keptBy 65 = .ok (.aload_n 0, 1) := by decide +kernel
theorem dX8_keptBy_66 : decode cX8_keptBy 66 = .ok (.getfield 19, 3) := by decide +kernel
theorem dX8_keptBy_69 : decode cX8_keptBy 69 = .ok (.iconst 2, 1) := by decide +kernel
theorem dX8_keptBy_70 : decode cX8_keptBy 70 = .ok (.dup2, 1) := by decide +kernel
theorem dX8_keptBy_71 : decode cX8_keptBy 71 = .ok (.iaload, 1) := by decide +kernel
theorem dX8_keptBy_72 : decode cX8_keptBy 72 = .ok (.iconst 1, 1) := by decide +kernel
theorem dX8_keptBy_73 : decode cX8_keptBy 73 = .ok (.isub, 1) := by decide +kernel
theorem dX8_keptBy_74 : decode cX8_keptBy 74 = .ok (.iastore, 1) := by decide +kernel
theorem dX8_keptBy_75 : decode cX8_keptBy 75 = .ok (.aload_n 0, 1) := by decide +kernel
theorem dX8_keptBy_76 : decode cX8_keptBy 76 = .ok (.invokevirtual 124, 3) := by decide +kernel
theorem dX8_keptBy_79 : decode cX8_keptBy 79 = .ok (.aload_n 0, 1) := by decide +kernel
theorem dX8_keptBy_80 : decode cX8_keptBy 80 = .ok (.invokevirtual 115, 3) := by decide +kernel
theorem dX8_keptBy_83 : decode cX8_keptBy 83 = .ok (.aload_n 0, 1) := by decide +kernel
theorem dX8_keptBy_84 : decode cX8_keptBy 84 = .ok (.getfield 13, 3) := by decide +kernel
theorem dX8_keptBy_87 : decode cX8_keptBy 87 = .ok (.iconst 0, 1) := by decide +kernel
theorem dX8_keptBy_88 : decode cX8_keptBy 88 = .ok (.iaload, 1) := by decide +kernel
theorem dX8_keptBy_89 : decode cX8_keptBy 89 = .ok (.if_icmp .ge 5, 3) := by decide +kernel
theorem dX8_keptBy_92 : decode cX8_keptBy 92 = .ok (.iload_n 3, 1) := by decide +kernel
theorem dX8_keptBy_93 : decode cX8_keptBy 93 = .ok (.ireturn, 1) := by decide +kernel
theorem dX8_keptBy_94 : decode cX8_keptBy 94 = .ok (.iinc 3 1, 3) := by decide +kernel
theorem dX8_keptBy_97 : decode cX8_keptBy 97 = .ok (.goto (-93), 3) := by decide +kernel
theorem dX8_keptBy_100 : decode cX8_keptBy 100 = .ok (.iconst 4, 1) := by decide +kernel
theorem dX8_keptBy_101 : decode cX8_keptBy 101 = .ok (.ireturn, 1) := by decide +kernel
set_option maxRecDepth 20000 in
theorem ggX8_kept_X8_in : GoodIn wsX8_kept wsX8_in := goodIn_r _ [5] (by decide +kernel) (by decide +kernel)
set_option maxRecDepth 20000 in
theorem gX8_kept_X8_in : GoodIn wsX8_kept (va_wsS RX8 51 yX8_in wsX8_in) := goodIn_app (goodIn_of _ (by decide +kernel)) ggX8_kept_X8_in
set_option maxRecDepth 20000 in
theorem ggX8_kept_X8_holds : GoodIn wsX8_kept wsX8_holds := goodIn_r _ [9, 10, 11, 39, 40, 41, 42, 43, 44, 45, 46, 47, 48, 49, 50, 51, 52, 53, 54, 55, 56, 57] (by decide +kernel) (by decide +kernel)
set_option maxRecDepth 20000 in
theorem gX8_kept_X8_holds : GoodIn wsX8_kept (wsV RX8 133 RX8 yX8_holds wsX8_holds) := goodIn_app (goodIn_of _ (by decide +kernel)) ggX8_kept_X8_holds
set_option maxRecDepth 20000 in
theorem ggX8_kept_X8_keptBy : GoodIn wsX8_kept wsX8_keptBy := goodIn_r _ [15, 1, 11, 16, 17, 18, 4, 19, 20, 21, 22, 23, 24, 25, 26, 27, 28, 29, 30, 31, 32, 33, 34, 39, 40, 41, 42, 43, 44, 45, 46, 47, 48, 49, 50, 51, 52, 53, 54, 55, 56, 57] (by decide +kernel) (by decide +kernel)
set_option maxRecDepth 20000 in
theorem gX8_kept_X8_keptBy : GoodIn wsX8_kept (wsV RX8 136 RX8 yX8_keptBy wsX8_keptBy) := goodIn_app (goodIn_of _ (by decide +kernel)) ggX8_kept_X8_keptBy
set_option maxRecDepth 20000 in
theorem ggX8_kept_X8_lets : GoodIn wsX8_kept wsX8_lets := goodIn_r _ [38, 11, 10, 39, 40, 41, 42, 43, 44, 45, 46, 47, 48, 49, 50, 51, 52, 53, 54, 55, 56, 57] (by decide +kernel) (by decide +kernel)
set_option maxRecDepth 20000 in
theorem gX8_kept_X8_lets : GoodIn wsX8_kept (wsV RX8 139 RX8 yX8_lets wsX8_lets) := goodIn_app (goodIn_of _ (by decide +kernel)) ggX8_kept_X8_lets
theorem dX8_kept_0 : decode cX8_kept 0 = .ok (.iload_n 1, 1) := by decide +kernel
theorem dX8_kept_1 : decode cX8_kept 1 = .ok (.iconst 0, 1) := by decide +kernel
theorem dX8_kept_2 : decode cX8_kept 2 = .ok (.iconst 1, 1) := by decide +kernel
theorem dX8_kept_3 : decode cX8_kept 3 = .ok (.invokestatic 51, 3) := by decide +kernel
theorem dX8_kept_6 : decode cX8_kept 6 = .ok (.ifCond .ne 5, 3) := by decide +kernel
theorem dX8_kept_9 : decode cX8_kept 9 = .ok (.iconst (-1), 1) := by decide +kernel
theorem dX8_kept_10 : decode cX8_kept 10 = .ok (.ireturn, 1) := by decide +kernel
theorem dX8_kept_11 : decode cX8_kept 11 = .ok (.aload_n 0, 1) := by decide +kernel
theorem dX8_kept_12 : decode cX8_kept 12 = .ok (.getfield 13, 3) := by decide +kernel
theorem dX8_kept_15 : decode cX8_kept 15 = .ok (.iconst 0, 1) := by decide +kernel
theorem dX8_kept_16 : decode cX8_kept 16 = .ok (.iaload, 1) := by decide +kernel
theorem dX8_kept_17 : decode cX8_kept 17 = .ok (.ifCond .ne 6, 3) := by decide +kernel
theorem dX8_kept_20 : decode cX8_kept 20 = .ok (.bipush (-9), 2) := by decide +kernel
theorem dX8_kept_22 : decode cX8_kept 22 = .ok (.ireturn, 1) := by decide +kernel
theorem dX8_kept_23 : decode cX8_kept 23 = .ok (.aload_n 0, 1) := by decide +kernel
theorem dX8_kept_24 : decode cX8_kept 24 = .ok (.invokevirtual 133, 3) := by decide +kernel
theorem dX8_kept_27 : decode cX8_kept 27 = .ok (.iconst 0, 1) := by decide +kernel
theorem dX8_kept_28 : decode cX8_kept 28 = .ok (.istore_n 2, 1) := by decide +kernel
theorem dX8_kept_29 : decode cX8_kept 29 = .ok (.bipush 6, 2) := by decide +kernel
theorem dX8_kept_31 : decode cX8_kept 31 = .ok (.istore_n 3, 1) := by decide +kernel
theorem dX8_kept_32 : decode cX8_kept 32 = .ok (.iconst 0, 1) := by decide +kernel
theorem dX8_kept_33 : decode cX8_kept 33 = .ok (.istore 4, 2) := by decide +kernel
theorem dX8_kept_35 : decode cX8_kept 35 = .ok (.iload 4, 2) := by decide +kernel
theorem dX8_kept_37 : decode cX8_kept 37 = .ok (.sipush 2401, 3) := by decide +kernel
theorem dX8_kept_40 : decode cX8_kept 40 = .ok (.if_icmp .ge 51, 3) := by decide +kernel
theorem dX8_kept_43 : decode cX8_kept 43 = .ok (.aload_n 0, 1) := by decide +kernel
theorem dX8_kept_44 : decode cX8_kept 44 = .ok (.iload 4, 2) := by decide +kernel
theorem dX8_kept_46 : decode cX8_kept 46 = .ok (.invokevirtual 136, 3) := by decide +kernel
theorem dX8_kept_49 : decode cX8_kept 49 = .ok (.istore 5, 2) := by decide +kernel
theorem dX8_kept_51 : decode cX8_kept 51 = .ok (.aload_n 0, 1) := by decide +kernel
theorem dX8_kept_52 : decode cX8_kept 52 = .ok (.invokevirtual 139, 3) := by decide +kernel
theorem dX8_kept_55 : decode cX8_kept 55 = .ok (.iload 5, 2) := by decide +kernel
theorem dX8_kept_57 : decode cX8_kept 57 = .ok (.iload_n 2, 1) := by decide +kernel
theorem dX8_kept_58 : decode cX8_kept 58 = .ok (.if_icmp .gt 18, 3) := by decide +kernel
theorem dX8_kept_61 : decode cX8_kept 61 = .ok (.iload 5, 2) := by decide +kernel
theorem dX8_kept_63 : decode cX8_kept 63 = .ok (.iload_n 2, 1) := by decide +kernel
theorem dX8_kept_64 : decode cX8_kept 64 = .ok (.if_icmp .ne 21, 3) := by decide +kernel
theorem dX8_kept_67 : decode cX8_kept 67 = .ok (.iload 4, 2) := by decide +kernel
theorem dX8_kept_69 : decode cX8_kept 69 = .ok (.bipush 7, 2) := by decide +kernel
theorem dX8_kept_71 : decode cX8_kept 71 = .ok (.irem, 1) := by decide +kernel
theorem dX8_kept_72 : decode cX8_kept 72 = .ok (.iload_n 3, 1) := by decide +kernel
theorem dX8_kept_73 : decode cX8_kept 73 = .ok (.if_icmp .ge 12, 3) := by decide +kernel
theorem dX8_kept_76 : decode cX8_kept 76 = .ok (.iload 5, 2) := by decide +kernel
theorem dX8_kept_78 : decode cX8_kept 78 = .ok (.istore_n 2, 1) := by decide +kernel
theorem dX8_kept_79 : decode cX8_kept 79 = .ok (.iload 4, 2) := by decide +kernel
theorem dX8_kept_81 : decode cX8_kept 81 = .ok (.bipush 7, 2) := by decide +kernel
theorem dX8_kept_83 : decode cX8_kept 83 = .ok (.irem, 1) := by decide +kernel
theorem dX8_kept_84 : decode cX8_kept 84 = .ok (.istore_n 3, 1) := by decide +kernel
theorem dX8_kept_85 : decode cX8_kept 85 = .ok (.iinc 4 1, 3) := by decide +kernel
theorem dX8_kept_88 : decode cX8_kept 88 = .ok (.goto (-53), 3) := by decide +kernel
theorem dX8_kept_91 : decode cX8_kept 91 = .ok (.iload_n 1, 1) := by decide +kernel
theorem dX8_kept_92 : decode cX8_kept 92 = .ok (.ifCond .ne 7, 3) := by decide +kernel
theorem dX8_kept_95 : decode cX8_kept 95 = .ok (.iload_n 2, 1) := by decide +kernel
theorem dX8_kept_96 : decode cX8_kept 96 = .ok (.goto 13, 3) := by decide +kernel
theorem dX8_kept_99 : decode cX8_kept 99 = .ok (.iload_n 2, 1) := by decide +kernel
theorem dX8_kept_100 : decode cX8_kept 100 = .ok (.ifCond .ne 8, 3) := by decide +kernel
theorem dX8_kept_103 : decode cX8_kept 103 = .ok (.bipush (-9), 2) := by decide +kernel
theorem dX8_kept_105 : decode cX8_kept 105 = .ok (.goto 4, 3) := by decide +kernel
theorem dX8_kept_108 : decode cX8_kept 108 = .ok (.iload_n 3, 1) := by decide +kernel
theorem dX8_kept_109 : decode cX8_kept 109 = .ok (.ireturn, 1) := by decide +kernel
theorem dX8_isWay_0 : decode cX8_isWay 0 = .ok (.iload_n 1, 1) := by decide +kernel
theorem dX8_isWay_1 : decode cX8_isWay 1 = .ok (.istore_n 2, 1) := by decide +kernel
theorem dX8_isWay_2 : decode cX8_isWay 2 = .ok (.aload_n 0, 1) := by decide +kernel
theorem dX8_isWay_3 : decode cX8_isWay 3 = .ok (.getfield 13, 3) := by decide +kernel
theorem dX8_isWay_6 : decode cX8_isWay 6 = .ok (.iconst 0, 1) := by decide +kernel
theorem dX8_isWay_7 : decode cX8_isWay 7 = .ok (.iaload, 1) := by decide +kernel
theorem dX8_isWay_8 : decode cX8_isWay 8 = .ok (.iconst 1, 1) := by decide +kernel
theorem dX8_isWay_9 : decode cX8_isWay 9 = .ok (.isub, 1) := by decide +kernel
theorem dX8_isWay_10 : decode cX8_isWay 10 = .ok (.istore_n 3, 1) := by decide +kernel
theorem dX8_isWay_11 : decode cX8_isWay 11 = .ok (.iload_n 3, 1) := by decide +kernel
theorem dX8_isWay_12 : decode cX8_isWay 12 = .ok (.ifCond .lt 24, 3) := by decide +kernel
theorem dX8_isWay_15 : decode cX8_isWay 15 = .ok (.aload_n 0, 1) := by decide +kernel
theorem dX8_isWay_16 : decode cX8_isWay 16 = .ok (.getfield 38, 3) := by decide +kernel
theorem dX8_isWay_19 : decode cX8_isWay 19 = .ok (.iload_n 3, 1) := by decide +kernel
theorem dX8_isWay_20 : decode cX8_isWay 20 = .ok (.iload_n 2, 1) := by decide +kernel
theorem dX8_isWay_21 : decode cX8_isWay 21 = .ok (.bipush 6, 2) := by decide +kernel
theorem dX8_isWay_23 : decode cX8_isWay 23 = .ok (.irem, 1) := by decide +kernel
theorem dX8_isWay_24 : decode cX8_isWay 24 = .ok (.iastore, 1) := by decide +kernel
theorem dX8_isWay_25 : decode cX8_isWay 25 = .ok (.iload_n 2, 1) := by decide +kernel
theorem dX8_isWay_26 : decode cX8_isWay 26 = .ok (.bipush 6, 2) := by decide +kernel
theorem dX8_isWay_28 : decode cX8_isWay 28 = .ok (.idiv, 1) := by decide +kernel
theorem dX8_isWay_29 : decode cX8_isWay 29 = .ok (.istore_n 2, 1) := by decide +kernel
theorem dX8_isWay_30 : decode cX8_isWay 30 = .ok (.iinc 3 (-1), 3) := by decide +kernel
theorem dX8_isWay_33 : decode cX8_isWay 33 = .ok (.goto (-22), 3) := by decide +kernel
theorem dX8_isWay_36 : decode cX8_isWay 36 = .ok (.iconst 0, 1) := by decide +kernel
theorem dX8_isWay_37 : decode cX8_isWay 37 = .ok (.istore_n 3, 1) := by decide +kernel
theorem dX8_isWay_38 : decode cX8_isWay 38 = .ok (.iconst 1, 1) := by decide +kernel
theorem dX8_isWay_39 : decode cX8_isWay 39 = .ok (.istore 4, 2) := by decide +kernel
theorem dX8_isWay_41 : decode cX8_isWay 41 = .ok (.iconst 0, 1) := by decide +kernel
theorem dX8_isWay_42 : decode cX8_isWay 42 = .ok (.istore 5, 2) := by decide +kernel
theorem dX8_isWay_44 : decode cX8_isWay 44 = .ok (.iload 5, 2) := by decide +kernel
theorem dX8_isWay_46 : decode cX8_isWay 46 = .ok (.aload_n 0, 1) := by decide +kernel
theorem dX8_isWay_47 : decode cX8_isWay 47 = .ok (.getfield 13, 3) := by decide +kernel
theorem dX8_isWay_50 : decode cX8_isWay 50 = .ok (.iconst 0, 1) := by decide +kernel
theorem dX8_isWay_51 : decode cX8_isWay 51 = .ok (.iaload, 1) := by decide +kernel
theorem dX8_isWay_52 : decode cX8_isWay 52 = .ok (.if_icmp .ge 51, 3) := by decide +kernel
theorem dX8_isWay_55 : decode cX8_isWay 55 = .ok (.iload 4, 2) := by decide +kernel
theorem dX8_isWay_57 : decode cX8_isWay 57 = .ok (.ifCond .eq 18, 3) := by decide +kernel
theorem dX8_isWay_60 : decode cX8_isWay 60 = .ok (.aload_n 0, 1) := by decide +kernel
theorem dX8_isWay_61 : decode cX8_isWay 61 = .ok (.getfield 38, 3) := by decide +kernel
theorem dX8_isWay_64 : decode cX8_isWay 64 = .ok (.iload 5, 2) := by decide +kernel
theorem dX8_isWay_66 : decode cX8_isWay 66 = .ok (.iaload, 1) := by decide +kernel
theorem dX8_isWay_67 : decode cX8_isWay 67 = .ok (.iload_n 3, 1) := by decide +kernel
theorem dX8_isWay_68 : decode cX8_isWay 68 = .ok (.if_icmp .gt 7, 3) := by decide +kernel
theorem dX8_isWay_71 : decode cX8_isWay 71 = .ok (.iconst 1, 1) := by decide +kernel
theorem dX8_isWay_72 : decode cX8_isWay 72 = .ok (.goto 4, 3) := by decide +kernel
theorem dX8_isWay_75 : decode cX8_isWay 75 = .ok (.iconst 0, 1) := by decide +kernel
theorem dX8_isWay_76 : decode cX8_isWay 76 = .ok (.istore 4, 2) := by decide +kernel
theorem dX8_isWay_78 : decode cX8_isWay 78 = .ok (.aload_n 0, 1) := by decide +kernel
theorem dX8_isWay_79 : decode cX8_isWay 79 = .ok (.getfield 38, 3) := by decide +kernel
theorem dX8_isWay_82 : decode cX8_isWay 82 = .ok (.iload 5, 2) := by decide +kernel
theorem dX8_isWay_84 : decode cX8_isWay 84 = .ok (.iaload, 1) := by decide +kernel
theorem dX8_isWay_85 : decode cX8_isWay 85 = .ok (.iload_n 3, 1) := by decide +kernel
theorem dX8_isWay_86 : decode cX8_isWay 86 = .ok (.if_icmp .ne 9, 3) := by decide +kernel
theorem dX8_isWay_89 : decode cX8_isWay 89 = .ok (.iload_n 3, 1) := by decide +kernel
theorem dX8_isWay_90 : decode cX8_isWay 90 = .ok (.iconst 1, 1) := by decide +kernel
theorem dX8_isWay_91 : decode cX8_isWay 91 = .ok (.iadd, 1) := by decide +kernel
theorem dX8_isWay_92 : decode cX8_isWay 92 = .ok (.goto 4, 3) := by decide +kernel
theorem dX8_isWay_95 : decode cX8_isWay 95 = .ok (.iload_n 3, 1) := by decide +kernel
theorem dX8_isWay_96 : decode cX8_isWay 96 = .ok (.istore_n 3, 1) := by decide +kernel
theorem dX8_isWay_97 : decode cX8_isWay 97 = .ok (.iinc 5 1, 3) := by decide +kernel
theorem dX8_isWay_100 : decode cX8_isWay 100 = .ok (.goto (-56), 3) := by decide +kernel
theorem dX8_isWay_103 : decode cX8_isWay 103 = .ok (.iload 4, 2) := by decide +kernel
theorem dX8_isWay_105 : decode cX8_isWay 105 = .ok (.ireturn, 1) := by decide +kernel
set_option maxRecDepth 20000 in
theorem ggX8_beds_X8_isBottle : GoodIn wsX8_beds wsX8_isBottle := goodIn_r _ [9, 1, 10, 11, 8, 12, 38, 39, 40, 41, 42, 43, 44, 45, 46, 47, 48, 49, 50, 51, 52, 53, 54, 55, 56] (by decide +kernel) (by decide +kernel)
set_option maxRecDepth 20000 in
theorem gX8_beds_X8_isBottle : GoodIn wsX8_beds (wsV RX8 105 RX8 yX8_isBottle wsX8_isBottle) := goodIn_app (goodIn_of _ (by decide +kernel)) ggX8_beds_X8_isBottle
set_option maxRecDepth 20000 in
theorem ggX8_beds_X8_holds : GoodIn wsX8_beds wsX8_holds := goodIn_r _ [16, 17, 2, 38, 39, 40, 41, 42, 43, 44, 45, 46, 47, 48, 49, 50, 51, 52, 53, 54, 55, 56] (by decide +kernel) (by decide +kernel)
set_option maxRecDepth 20000 in
theorem gX8_beds_X8_holds : GoodIn wsX8_beds (wsV RX8 133 RX8 yX8_holds wsX8_holds) := goodIn_app (goodIn_of _ (by decide +kernel)) ggX8_beds_X8_holds
set_option maxRecDepth 20000 in
theorem ggX8_beds_X8_isWay : GoodIn wsX8_beds wsX8_isWay := goodIn_r _ [21, 1, 3, 38, 39, 40, 41, 42, 43, 44, 45, 46, 47, 48, 49, 50, 51, 52, 53, 54, 55, 56] (by decide +kernel) (by decide +kernel)
set_option maxRecDepth 20000 in
theorem gX8_beds_X8_isWay : GoodIn wsX8_beds (wsV RX8 142 RX8 yX8_isWay wsX8_isWay) := goodIn_app (goodIn_of _ (by decide +kernel)) ggX8_beds_X8_isWay
set_option maxRecDepth 20000 in
theorem ggX8_beds_X8_allLast : GoodIn wsX8_beds wsX8_allLast := goodIn_r _ [25, 1, 26, 27, 28, 8, 29, 2, 30, 31, 32, 33, 38, 39, 40, 41, 42, 43, 44, 45, 46, 47, 48, 49, 50, 51, 52, 53, 54, 55, 56] (by decide +kernel) (by decide +kernel)
set_option maxRecDepth 20000 in
theorem gX8_beds_X8_allLast : GoodIn wsX8_beds (wsV RX8 111 RX8 yX8_allLast wsX8_allLast) := goodIn_app (goodIn_of _ (by decide +kernel)) ggX8_beds_X8_allLast
set_option maxRecDepth 20000 in
theorem ggX8_beds_X8_lets : GoodIn wsX8_beds wsX8_lets := goodIn_r _ [37, 2, 17, 38, 39, 40, 41, 42, 43, 44, 45, 46, 47, 48, 49, 50, 51, 52, 53, 54, 55, 56] (by decide +kernel) (by decide +kernel)
set_option maxRecDepth 20000 in
theorem gX8_beds_X8_lets : GoodIn wsX8_beds (wsV RX8 139 RX8 yX8_lets wsX8_lets) := goodIn_app (goodIn_of _ (by decide +kernel)) ggX8_beds_X8_lets
theorem dX8_beds_0 : decode cX8_beds 0 = .ok (.iload_n 1, 1) := by decide +kernel
theorem dX8_beds_1 : decode cX8_beds 1 = .ok (.iconst (-1), 1) := by decide +kernel
theorem dX8_beds_2 : decode cX8_beds 2 = .ok (.if_icmp .eq 13, 3) := by decide +kernel
theorem dX8_beds_5 : decode cX8_beds 5 = .ok (.aload_n 0, 1) := by decide +kernel
theorem dX8_beds_6 : decode cX8_beds 6 = .ok (.iload_n 1, 1) := by decide +kernel
theorem dX8_beds_7 : decode cX8_beds 7 = .ok (.invokevirtual 105, 3) := by decide +kernel
theorem dX8_beds_10 : decode cX8_beds 10 = .ok (.ifCond .ne 5, 3) := by decide +kernel
theorem dX8_beds_13 : decode cX8_beds 13 = .ok (.iconst (-1), 1) := by decide +kernel
theorem dX8_beds_14 : decode cX8_beds 14 = .ok (.ireturn, 1) := by decide +kernel
theorem dX8_beds_15 : decode cX8_beds 15 = .ok (.aload_n 0, 1) := by decide +kernel
theorem dX8_beds_16 : decode cX8_beds 16 = .ok (.getfield 13, 3) := by decide +kernel
theorem dX8_beds_19 : decode cX8_beds 19 = .ok (.iconst 0, 1) := by decide +kernel
theorem dX8_beds_20 : decode cX8_beds 20 = .ok (.iaload, 1) := by decide +kernel
theorem dX8_beds_21 : decode cX8_beds 21 = .ok (.ifCond .ne 6, 3) := by decide +kernel
theorem dX8_beds_24 : decode cX8_beds 24 = .ok (.bipush (-9), 2) := by decide +kernel
theorem dX8_beds_26 : decode cX8_beds 26 = .ok (.ireturn, 1) := by decide +kernel
theorem dX8_beds_27 : decode cX8_beds 27 = .ok (.aload_n 0, 1) := by decide +kernel
theorem dX8_beds_28 : decode cX8_beds 28 = .ok (.invokevirtual 133, 3) := by decide +kernel
theorem dX8_beds_31 : decode cX8_beds 31 = .ok (.iconst 1, 1) := by decide +kernel
theorem dX8_beds_32 : decode cX8_beds 32 = .ok (.istore_n 2, 1) := by decide +kernel
theorem dX8_beds_33 : decode cX8_beds 33 = .ok (.iconst 1, 1) := by decide +kernel
theorem dX8_beds_34 : decode cX8_beds 34 = .ok (.istore_n 3, 1) := by decide +kernel
theorem dX8_beds_35 : decode cX8_beds 35 = .ok (.iload_n 3, 1) := by decide +kernel
theorem dX8_beds_36 : decode cX8_beds 36 = .ok (.aload_n 0, 1) := by decide +kernel
theorem dX8_beds_37 : decode cX8_beds 37 = .ok (.getfield 13, 3) := by decide +kernel
theorem dX8_beds_40 : decode cX8_beds 40 = .ok (.iconst 0, 1) := by decide +kernel
theorem dX8_beds_41 : decode cX8_beds 41 = .ok (.iaload, 1) := by decide +kernel
theorem dX8_beds_42 : decode cX8_beds 42 = .ok (.if_icmp .ge 14, 3) := by decide +kernel
theorem dX8_beds_45 : decode cX8_beds 45 = .ok (.iload_n 2, 1) := by decide +kernel
theorem dX8_beds_46 : decode cX8_beds 46 = .ok (.bipush 6, 2) := by decide +kernel
theorem dX8_beds_48 : decode cX8_beds 48 = .ok (.imul, 1) := by decide +kernel
theorem dX8_beds_49 : decode cX8_beds 49 = .ok (.istore_n 2, 1) := by decide +kernel
theorem dX8_beds_50 : decode cX8_beds 50 = .ok (.iinc 3 1, 3) := by decide +kernel
theorem dX8_beds_53 : decode cX8_beds 53 = .ok (.goto (-18), 3) := by decide +kernel
theorem dX8_beds_56 : decode cX8_beds 56 = .ok (.iconst (-1), 1) := by decide +kernel
theorem dX8_beds_57 : decode cX8_beds 57 = .ok (.istore_n 3, 1) := by decide +kernel
theorem dX8_beds_58 : decode cX8_beds 58 = .ok (.iconst 0, 1) := by decide +kernel
theorem dX8_beds_59 : decode cX8_beds 59 = .ok (.istore 4, 2) := by decide +kernel
theorem dX8_beds_61 : decode cX8_beds 61 = .ok (.iload 4, 2) := by decide +kernel
theorem dX8_beds_63 : decode cX8_beds 63 = .ok (.iload_n 2, 1) := by decide +kernel
theorem dX8_beds_64 : decode cX8_beds 64 = .ok (.if_icmp .ge 104, 3) := by decide +kernel
theorem dX8_beds_67 : decode cX8_beds 67 = .ok (.aload_n 0, 1) := by decide +kernel
theorem dX8_beds_68 : decode cX8_beds 68 = .ok (.iload 4, 2) := by decide +kernel
theorem dX8_beds_70 : decode cX8_beds 70 = .ok (.invokevirtual 142, 3) := by decide +kernel
theorem dX8_beds_73 : decode cX8_beds 73 = .ok (.ifCond .eq 89, 3) := by decide +kernel
theorem dX8_beds_76 : decode cX8_beds 76 = .ok (.iconst 0, 1) := by decide +kernel
theorem dX8_beds_77 : decode cX8_beds 77 = .ok (.istore 5, 2) := by decide +kernel
theorem dX8_beds_79 : decode cX8_beds 79 = .ok (.iload 5, 2) := by decide +kernel
theorem dX8_beds_81 : decode cX8_beds 81 = .ok (.aload_n 0, 1) := by decide +kernel
theorem dX8_beds_82 : decode cX8_beds 82 = .ok (.getfield 13, 3) := by decide +kernel
theorem dX8_beds_85 : decode cX8_beds 85 = .ok (.iconst 0, 1) := by decide +kernel
theorem dX8_beds_86 : decode cX8_beds 86 = .ok (.iaload, 1) := by decide +kernel
theorem dX8_beds_87 : decode cX8_beds 87 = .ok (.if_icmp .ge 26, 3) := by decide +kernel
theorem dX8_beds_90 : decode cX8_beds 90 = .ok (.aload_n 0, 1) := by decide +kernel
theorem dX8_beds_91 : decode cX8_beds 91 = .ok (.getfield 19, 3) := by decide +kernel
theorem dX8_beds_94 : decode cX8_beds 94 = .ok (.bipush 9, 2) := by decide +kernel
theorem dX8_beds_96 : decode cX8_beds 96 = .ok (.iload 5, 2) := by decide +kernel
theorem dX8_beds_98 : decode cX8_beds 98 = .ok (.iadd, 1) := by decide +kernel
theorem dX8_beds_99 : decode cX8_beds 99 = .ok (.aload_n 0, 1) := by decide +kernel
theorem dX8_beds_100 : decode cX8_beds 100 = .ok (.getfield 38, 3) := by decide +kernel
theorem dX8_beds_103 : decode cX8_beds 103 = .ok (.iload 5, 2) := by decide +kernel
theorem dX8_beds_105 : decode cX8_beds 105 = .ok (.iaload, 1) := by decide +kernel
theorem dX8_beds_106 : decode cX8_beds 106 = .ok (.iastore, 1) := by decide +kernel
theorem dX8_beds_107 : decode cX8_beds 107 = .ok (.iinc 5 1, 3) := by decide +kernel
theorem dX8_beds_110 : decode cX8_beds 110 = .ok (.goto (-31), 3) := by decide +kernel
theorem dX8_beds_113 : decode cX8_beds 113 = .ok (.aload_n 0, 1) := by decide +kernel
theorem dX8_beds_114 : decode cX8_beds 114 = .ok (.invokevirtual 111, 3) := by decide +kernel
theorem dX8_beds_117 : decode cX8_beds 117 = .ok (.istore 5, 2) := by decide +kernel
theorem dX8_beds_119 : decode cX8_beds 119 = .ok (.iload 5, 2) := by decide +kernel
theorem dX8_beds_121 : decode cX8_beds 121 = .ok (.iload_n 3, 1) := by decide +kernel
theorem dX8_beds_122 : decode cX8_beds 122 = .ok (.if_icmp .le 40, 3) := by decide +kernel
theorem dX8_beds_125 : decode cX8_beds 125 = .ok (.iload 5, 2) := by decide +kernel
theorem dX8_beds_127 : decode cX8_beds 127 = .ok (.istore_n 3, 1) := by decide +kernel
theorem dX8_beds_128 : decode cX8_beds 128 = .ok (.iconst 0, 1) := by decide +kernel
theorem dX8_beds_129 : decode cX8_beds 129 = .ok (.istore 6, 2) := by decide +kernel
theorem dX8_beds_131 : decode cX8_beds 131 = .ok (.iload 6, 2) := by decide +kernel
theorem dX8_beds_133 : decode cX8_beds 133 = .ok (.aload_n 0, 1) := by decide +kernel
theorem dX8_beds_134 : decode cX8_beds 134 = .ok (.getfield 13, 3) := by decide +kernel
theorem dX8_beds_137 : decode cX8_beds 137 = .ok (.iconst 0, 1) := by decide +kernel
theorem dX8_beds_138 : decode cX8_beds 138 = .ok (.iaload, 1) := by decide +kernel
theorem dX8_beds_139 : decode cX8_beds 139 = .ok (.if_icmp .ge 23, 3) := by decide +kernel
theorem dX8_beds_142 : decode cX8_beds 142 = .ok (.aload_n 0, 1) := by decide +kernel
theorem dX8_beds_143 : decode cX8_beds 143 = .ok (.getfield 41, 3) := by decide +kernel
theorem dX8_beds_146 : decode cX8_beds 146 = .ok (.iload 6, 2) := by decide +kernel
theorem dX8_beds_148 : decode cX8_beds 148 = .ok (.aload_n 0, 1) := by decide +kernel
theorem dX8_beds_149 : decode cX8_beds 149 = .ok (.getfield 38, 3) := by decide +kernel
theorem dX8_beds_152 : decode cX8_beds 152 = .ok (.iload 6, 2) := by decide +kernel
theorem dX8_beds_154 : decode cX8_beds 154 = .ok (.iaload, 1) := by decide +kernel
theorem dX8_beds_155 : decode cX8_beds 155 = .ok (.iastore, 1) := by decide +kernel
theorem dX8_beds_156 : decode cX8_beds 156 = .ok (.iinc 6 1, 3) := by decide +kernel
theorem dX8_beds_159 : decode cX8_beds 159 = .ok (.goto (-28), 3) := by decide +kernel
theorem dX8_beds_162 : decode cX8_beds 162 = .ok (.iinc 4 1, 3) := by decide +kernel
theorem dX8_beds_165 : decode cX8_beds 165 = .ok (.goto (-104), 3) := by decide +kernel
theorem dX8_beds_168 : decode cX8_beds 168 = .ok (.aload_n 0, 1) := by decide +kernel
theorem dX8_beds_169 : decode cX8_beds 169 = .ok (.invokevirtual 139, 3) := by decide +kernel
theorem dX8_beds_172 : decode cX8_beds 172 = .ok (.iload_n 1, 1) := by decide +kernel
theorem dX8_beds_173 : decode cX8_beds 173 = .ok (.iconst (-1), 1) := by decide +kernel
theorem dX8_beds_174 : decode cX8_beds 174 = .ok (.if_icmp .ne 7, 3) := by decide +kernel
theorem dX8_beds_177 : decode cX8_beds 177 = .ok (.iload_n 3, 1) := by decide +kernel
theorem dX8_beds_178 : decode cX8_beds 178 = .ok (.goto 9, 3) := by decide +kernel
theorem dX8_beds_181 : decode cX8_beds 181 = .ok (.aload_n 0, 1) := by decide +kernel
theorem dX8_beds_182 : decode cX8_beds 182 = .ok (.getfield 41, 3) := by decide +kernel
theorem dX8_beds_185 : decode cX8_beds 185 = .ok (.iload_n 1, 1) := by decide +kernel
theorem dX8_beds_186 : decode cX8_beds 186 = .ok (.iaload, 1) := by decide +kernel
theorem dX8_beds_187 : decode cX8_beds 187 = .ok (.ireturn, 1) := by decide +kernel
set_option maxRecDepth 20000 in
theorem ggX8_odds_X8_isBottle : GoodIn wsX8_odds wsX8_isBottle := goodIn_r _ [6, 7, 8, 9, 5, 10, 18, 19, 20, 21, 22, 23, 24, 25, 26, 27, 28, 29, 30, 31, 32, 33, 34, 35, 36] (by decide +kernel) (by decide +kernel)
set_option maxRecDepth 20000 in
theorem gX8_odds_X8_isBottle : GoodIn wsX8_odds (wsV RX8 105 RX8 yX8_isBottle wsX8_isBottle) := goodIn_app (goodIn_of _ (by decide +kernel)) ggX8_odds_X8_isBottle
set_option maxRecDepth 20000 in
theorem ggX8_odds_X8_in : GoodIn wsX8_odds wsX8_in := goodIn_r _ [10] (by decide +kernel) (by decide +kernel)
set_option maxRecDepth 20000 in
theorem gX8_odds_X8_in : GoodIn wsX8_odds (va_wsS RX8 51 yX8_in wsX8_in) := goodIn_app (goodIn_of _ (by decide +kernel)) ggX8_odds_X8_in
set_option maxRecDepth 20000 in
theorem ggX8_odds_X8_cools : GoodIn wsX8_odds wsX8_cools := goodIn_r _ [14, 7, 1, 18, 19, 20, 21, 22, 23, 24, 25, 26, 27, 28, 29, 30, 31, 32, 33, 34, 35, 36] (by decide +kernel) (by decide +kernel)
set_option maxRecDepth 20000 in
theorem gX8_odds_X8_cools : GoodIn wsX8_odds (wsV RX8 98 RX8 yX8_cools wsX8_cools) := goodIn_app (goodIn_of _ (by decide +kernel)) ggX8_odds_X8_cools
set_option maxRecDepth 20000 in
theorem ggX8_odds_X8_less : GoodIn wsX8_odds wsX8_less := goodIn_r _ [17] (by decide +kernel) (by decide +kernel)
set_option maxRecDepth 20000 in
theorem gX8_odds_X8_less : GoodIn wsX8_odds (va_wsS RX8 118 yX8_less wsX8_less) := goodIn_app (goodIn_of _ (by decide +kernel)) ggX8_odds_X8_less
theorem dX8_odds_0 : decode cX8_odds 0 = .ok (.aload_n 0, 1) := by decide +kernel
theorem dX8_odds_1 : decode cX8_odds 1 = .ok (.iload_n 1, 1) := by decide +kernel
theorem dX8_odds_2 : decode cX8_odds 2 = .ok (.invokevirtual 105, 3) := by decide +kernel
theorem dX8_odds_5 : decode cX8_odds 5 = .ok (.ifCond .eq 33, 3) := by decide +kernel
theorem dX8_odds_8 : decode cX8_odds 8 = .ok (.iload_n 2, 1) := by decide +kernel
theorem dX8_odds_9 : decode cX8_odds 9 = .ok (.iconst 0, 1) := by decide +kernel
theorem dX8_odds_10 : decode cX8_odds 10 = .ok (.bipush 10, 2) := by decide +kernel
theorem dX8_odds_12 : decode cX8_odds 12 = .ok (.invokestatic 51, 3) := by decide +kernel
theorem dX8_odds_15 : decode cX8_odds 15 = .ok (.ifCond .eq 23, 3) := by decide +kernel
theorem dX8_odds_18 : decode cX8_odds 18 = .ok (.iload_n 3, 1) := by decide +kernel
theorem dX8_odds_19 : decode cX8_odds 19 = .ok (.iconst 0, 1) := by decide +kernel
theorem dX8_odds_20 : decode cX8_odds 20 = .ok (.bipush 8, 2) := by decide +kernel
theorem dX8_odds_22 : decode cX8_odds 22 = .ok (.invokestatic 51, 3) := by decide +kernel
theorem dX8_odds_25 : decode cX8_odds 25 = .ok (.ifCond .eq 13, 3) := by decide +kernel
theorem dX8_odds_28 : decode cX8_odds 28 = .ok (.iload 4, 2) := by decide +kernel
theorem dX8_odds_30 : decode cX8_odds 30 = .ok (.iconst 0, 1) := by decide +kernel
theorem dX8_odds_31 : decode cX8_odds 31 = .ok (.iconst 1, 1) := by decide +kernel
theorem dX8_odds_32 : decode cX8_odds 32 = .ok (.invokestatic 51, 3) := by decide +kernel
theorem dX8_odds_35 : decode cX8_odds 35 = .ok (.ifCond .ne 5, 3) := by decide +kernel
theorem dX8_odds_38 : decode cX8_odds 38 = .ok (.iconst (-1), 1) := by decide +kernel
theorem dX8_odds_39 : decode cX8_odds 39 = .ok (.ireturn, 1) := by decide +kernel
theorem dX8_odds_40 : decode cX8_odds 40 = .ok (.iconst 0, 1) := by decide +kernel
theorem dX8_odds_41 : decode cX8_odds 41 = .ok (.istore 5, 2) := by decide +kernel
theorem dX8_odds_43 : decode cX8_odds 43 = .ok (.iconst 1, 1) := by decide +kernel
theorem dX8_odds_44 : decode cX8_odds 44 = .ok (.istore 6, 2) := by decide +kernel
theorem dX8_odds_46 : decode cX8_odds 46 = .ok (.iconst 0, 1) := by decide +kernel
theorem dX8_odds_47 : decode cX8_odds 47 = .ok (.istore 7, 2) := by decide +kernel
theorem dX8_odds_49 : decode cX8_odds 49 = .ok (.iload 7, 2) := by decide +kernel
theorem dX8_odds_51 : decode cX8_odds 51 = .ok (.iload_n 3, 1) := by decide +kernel
theorem dX8_odds_52 : decode cX8_odds 52 = .ok (.if_icmp .ge 16, 3) := by decide +kernel
theorem dX8_odds_55 : decode cX8_odds 55 = .ok (.iload 6, 2) := by decide +kernel
theorem dX8_odds_57 : decode cX8_odds 57 = .ok (.bipush 10, 2) := by decide +kernel
theorem dX8_odds_59 : decode cX8_odds 59 = .ok (.imul, 1) := by decide +kernel
theorem dX8_odds_60 : decode cX8_odds 60 = .ok (.istore 6, 2) := by decide +kernel
theorem dX8_odds_62 : decode cX8_odds 62 = .ok (.iinc 7 1, 3) := by decide +kernel
theorem dX8_odds_65 : decode cX8_odds 65 = .ok (.goto (-16), 3) := by decide +kernel
theorem dX8_odds_68 : decode cX8_odds 68 = .ok (.iconst 0, 1) := by decide +kernel
theorem dX8_odds_69 : decode cX8_odds 69 = .ok (.istore 7, 2) := by decide +kernel
theorem dX8_odds_71 : decode cX8_odds 71 = .ok (.iload 7, 2) := by decide +kernel
theorem dX8_odds_73 : decode cX8_odds 73 = .ok (.iconst 1, 1) := by decide +kernel
theorem dX8_odds_74 : decode cX8_odds 74 = .ok (.iload_n 3, 1) := by decide +kernel
theorem dX8_odds_75 : decode cX8_odds 75 = .ok (.ishl, 1) := by decide +kernel
theorem dX8_odds_76 : decode cX8_odds 76 = .ok (.if_icmp .ge 118, 3) := by decide +kernel
theorem dX8_odds_79 : decode cX8_odds 79 = .ok (.iconst 1, 1) := by decide +kernel
theorem dX8_odds_80 : decode cX8_odds 80 = .ok (.istore 8, 2) := by decide +kernel
theorem dX8_odds_82 : decode cX8_odds 82 = .ok (.aload_n 0, 1) := by decide +kernel
theorem dX8_odds_83 : decode cX8_odds 83 = .ok (.getfield 19, 3) := by decide +kernel
theorem dX8_odds_86 : decode cX8_odds 86 = .ok (.iconst 3, 1) := by decide +kernel
theorem dX8_odds_87 : decode cX8_odds 87 = .ok (.iload_n 1, 1) := by decide +kernel
theorem dX8_odds_88 : decode cX8_odds 88 = .ok (.iadd, 1) := by decide +kernel
theorem dX8_odds_89 : decode cX8_odds 89 = .ok (.iaload, 1) := by decide +kernel
theorem dX8_odds_90 : decode cX8_odds 90 = .ok (.istore 9, 2) := by decide +kernel
theorem dX8_odds_92 : decode cX8_odds 92 = .ok (.iconst 0, 1) := by decide +kernel
theorem dX8_odds_93 : decode cX8_odds 93 = .ok (.istore 10, 2) := by decide +kernel
theorem dX8_odds_95 : decode cX8_odds 95 = .ok (.iload 10, 2) := by decide +kernel
theorem dX8_odds_97 : decode cX8_odds 97 = .ok (.iload_n 3, 1) := by decide +kernel
theorem dX8_odds_98 : decode cX8_odds 98 = .ok (.if_icmp .ge 74, 3) := by decide +kernel
theorem dX8_odds_101 : decode cX8_odds 101 = .ok (.iload 7, 2) := by decide +kernel
theorem dX8_odds_103 : decode cX8_odds 103 = .ok (.iload 10, 2) := by decide +kernel
theorem dX8_odds_105 : decode cX8_odds 105 = .ok (.ishr, 1) := by decide +kernel
theorem dX8_odds_106 : decode cX8_odds 106 = .ok (.iconst 1, 1) := by decide +kernel
theorem dX8_odds_107 : decode cX8_odds 107 = .ok (.iand, 1) := by decide +kernel
theorem dX8_odds_108 : decode cX8_odds 108 = .ok (.iconst 1, 1) := by decide +kernel
theorem dX8_odds_109 : decode cX8_odds 109 = .ok (.if_icmp .ne 7, 3) := by decide +kernel
theorem dX8_odds_112 : decode cX8_odds 112 = .ok (.iconst 1, 1) := by decide +kernel
theorem dX8_odds_113 : decode cX8_odds 113 = .ok (.goto 4, 3) := by decide +kernel
theorem dX8_odds_116 : decode cX8_odds 116 = .ok (.iconst 0, 1) := by decide +kernel
theorem dX8_odds_117 : decode cX8_odds 117 = .ok (.istore 11, 2) := by decide +kernel
theorem dX8_odds_119 : decode cX8_odds 119 = .ok (.iload 8, 2) := by decide +kernel
theorem dX8_odds_121 : decode cX8_odds 121 = .ok (.iload 11, 2) := by decide +kernel
theorem dX8_odds_123 : decode cX8_odds 123 = .ok (.ifCond .eq 7, 3) := by decide +kernel
theorem dX8_odds_126 : decode cX8_odds 126 = .ok (.iload_n 2, 1) := by decide +kernel
theorem dX8_odds_127 : decode cX8_odds 127 = .ok (.goto 7, 3) := by decide +kernel
theorem dX8_odds_130 : decode cX8_odds 130 = .ok (.bipush 10, 2) := by decide +kernel
theorem dX8_odds_132 : decode cX8_odds 132 = .ok (.iload_n 2, 1) := by decide +kernel
theorem dX8_odds_133 : decode cX8_odds 133 = .ok (.isub, 1) := by decide +kernel
theorem dX8_odds_134 : decode cX8_odds 134 = .ok (.imul, 1) := by decide +kernel
theorem dX8_odds_135 : decode cX8_odds 135 = .ok (.istore 8, 2) := by decide +kernel
theorem dX8_odds_137 : decode cX8_odds 137 = .ok (.iload 9, 2) := by decide +kernel
theorem dX8_odds_139 : decode cX8_odds 139 = .ok (.aload_n 0, 1) := by decide +kernel
theorem dX8_odds_140 : decode cX8_odds 140 = .ok (.iload_n 1, 1) := by decide +kernel
theorem dX8_odds_141 : decode cX8_odds 141 = .ok (.aload_n 0, 1) := by decide +kernel
theorem dX8_odds_142 : decode cX8_odds 142 = .ok (.getfield 19, 3) := by decide +kernel
theorem dX8_odds_145 : decode cX8_odds 145 = .ok (.iconst 1, 1) := by decide +kernel
theorem dX8_odds_146 : decode cX8_odds 146 = .ok (.iaload, 1) := by decide +kernel
theorem dX8_odds_147 : decode cX8_odds 147 = .ok (.iload 11, 2) := by decide +kernel
theorem dX8_odds_149 : decode cX8_odds 149 = .ok (.ifCond .eq 7, 3) := by decide +kernel
theorem dX8_odds_152 : decode cX8_odds 152 = .ok (.iconst 5, 1) := by decide +kernel
theorem dX8_odds_153 : decode cX8_odds 153 = .ok (.goto 4, 3) := by decide +kernel
theorem dX8_odds_156 : decode cX8_odds 156 = .ok (.iconst 0, 1) := by decide +kernel
theorem dX8_odds_157 : decode cX8_odds 157 = .ok (.iadd, 1) := by decide +kernel
theorem dX8_odds_158 : decode cX8_odds 158 = .ok (.invokevirtual 98, 3) := by decide +kernel
theorem dX8_odds_161 : decode cX8_odds 161 = .ok (.invokestatic 118, 3) := by decide +kernel
theorem dX8_odds_164 : decode cX8_odds 164 = .ok (.istore 9, 2) := by decide +kernel
theorem dX8_odds_166 : decode cX8_odds 166 = .ok (.iinc 10 1, 3) := by decide +kernel
theorem dX8_odds_169 : decode cX8_odds 169 = .ok (.goto (-74), 3) := by decide +kernel
theorem dX8_odds_172 : decode cX8_odds 172 = .ok (.iload 5, 2) := by decide +kernel
theorem dX8_odds_174 : decode cX8_odds 174 = .ok (.iload 9, 2) := by decide +kernel
theorem dX8_odds_176 : decode cX8_odds 176 = .ok (.ifCond .le 8, 3) := by decide +kernel
theorem dX8_odds_179 : decode cX8_odds 179 = .ok (.iload 8, 2) := by decide +kernel
theorem dX8_odds_181 : decode cX8_odds 181 = .ok (.goto 4, 3) := by decide +kernel
theorem dX8_odds_184 : decode cX8_odds 184 = .ok (.iconst 0, 1) := by decide +kernel
theorem dX8_odds_185 : decode cX8_odds 185 = .ok (.iadd, 1) := by decide +kernel
theorem dX8_odds_186 : decode cX8_odds 186 = .ok (.istore 5, 2) := by decide +kernel
theorem dX8_odds_188 : decode cX8_odds 188 = .ok (.iinc 7 1, 3) := by decide +kernel
theorem dX8_odds_191 : decode cX8_odds 191 = .ok (.goto (-120), 3) := by decide +kernel
theorem dX8_odds_194 : decode cX8_odds 194 = .ok (.iload 5, 2) := by decide +kernel
theorem dX8_odds_196 : decode cX8_odds 196 = .ok (.istore 7, 2) := by decide +kernel
theorem dX8_odds_198 : decode cX8_odds 198 = .ok (.iload 6, 2) := by decide +kernel
theorem dX8_odds_200 : decode cX8_odds 200 = .ok (.istore 8, 2) := by decide +kernel
theorem dX8_odds_202 : decode cX8_odds 202 = .ok (.iload 8, 2) := by decide +kernel
theorem dX8_odds_204 : decode cX8_odds 204 = .ok (.ifCond .le 21, 3) := by decide +kernel
theorem dX8_odds_207 : decode cX8_odds 207 = .ok (.iload 7, 2) := by decide +kernel
theorem dX8_odds_209 : decode cX8_odds 209 = .ok (.iload 8, 2) := by decide +kernel
theorem dX8_odds_211 : decode cX8_odds 211 = .ok (.irem, 1) := by decide +kernel
theorem dX8_odds_212 : decode cX8_odds 212 = .ok (.istore 9, 2) := by decide +kernel
theorem dX8_odds_214 : decode cX8_odds 214 = .ok (.iload 8, 2) := by decide +kernel
theorem dX8_odds_216 : decode cX8_odds 216 = .ok (.istore 7, 2) := by decide +kernel
theorem dX8_odds_218 : decode cX8_odds 218 = .ok (.iload 9, 2) := by decide +kernel
theorem dX8_odds_220 : decode cX8_odds 220 = .ok (.istore 8, 2) := by decide +kernel
theorem dX8_odds_222 : decode cX8_odds 222 = .ok (.goto (-20), 3) := by decide +kernel
theorem dX8_odds_225 : decode cX8_odds 225 = .ok (.iload 4, 2) := by decide +kernel
theorem dX8_odds_227 : decode cX8_odds 227 = .ok (.ifCond .ne 11, 3) := by decide +kernel
theorem dX8_odds_230 : decode cX8_odds 230 = .ok (.iload 5, 2) := by decide +kernel
theorem dX8_odds_232 : decode cX8_odds 232 = .ok (.iload 7, 2) := by decide +kernel
theorem dX8_odds_234 : decode cX8_odds 234 = .ok (.idiv, 1) := by decide +kernel
theorem dX8_odds_235 : decode cX8_odds 235 = .ok (.goto 8, 3) := by decide +kernel
theorem dX8_odds_238 : decode cX8_odds 238 = .ok (.iload 6, 2) := by decide +kernel
theorem dX8_odds_240 : decode cX8_odds 240 = .ok (.iload 7, 2) := by decide +kernel
theorem dX8_odds_242 : decode cX8_odds 242 = .ok (.idiv, 1) := by decide +kernel
theorem dX8_odds_243 : decode cX8_odds 243 = .ok (.ireturn, 1) := by decide +kernel
set_option maxRecDepth 20000 in
theorem ggX8_hears_X8_in : GoodIn wsX8_hears wsX8_in := goodIn_r _ [6] (by decide +kernel) (by decide +kernel)
set_option maxRecDepth 20000 in
theorem gX8_hears_X8_in : GoodIn wsX8_hears (va_wsS RX8 51 yX8_in wsX8_in) := goodIn_app (goodIn_of _ (by decide +kernel)) ggX8_hears_X8_in
theorem dX8_hears_0 : decode cX8_hears 0 = .ok (.iload_n 1, 1) := by decide +kernel
theorem dX8_hears_1 : decode cX8_hears 1 = .ok (.iconst 0, 1) := by decide +kernel
theorem dX8_hears_2 : decode cX8_hears 2 = .ok (.bipush 9, 2) := by decide +kernel
theorem dX8_hears_4 : decode cX8_hears 4 = .ok (.invokestatic 51, 3) := by decide +kernel
theorem dX8_hears_7 : decode cX8_hears 7 = .ok (.ifCond .eq 12, 3) := by decide +kernel
theorem dX8_hears_10 : decode cX8_hears 10 = .ok (.iload_n 2, 1) := by decide +kernel
theorem dX8_hears_11 : decode cX8_hears 11 = .ok (.iconst 0, 1) := by decide +kernel
theorem dX8_hears_12 : decode cX8_hears 12 = .ok (.iconst 2, 1) := by decide +kernel
theorem dX8_hears_13 : decode cX8_hears 13 = .ok (.invokestatic 51, 3) := by decide +kernel
theorem dX8_hears_16 : decode cX8_hears 16 = .ok (.ifCond .ne 5, 3) := by decide +kernel
theorem dX8_hears_19 : decode cX8_hears 19 = .ok (.iconst (-1), 1) := by decide +kernel
theorem dX8_hears_20 : decode cX8_hears 20 = .ok (.ireturn, 1) := by decide +kernel
theorem dX8_hears_21 : decode cX8_hears 21 = .ok (.aload_n 0, 1) := by decide +kernel
theorem dX8_hears_22 : decode cX8_hears 22 = .ok (.getfield 95, 3) := by decide +kernel
theorem dX8_hears_25 : decode cX8_hears 25 = .ok (.bipush 6, 2) := by decide +kernel
theorem dX8_hears_27 : decode cX8_hears 27 = .ok (.if_icmp .ne 6, 3) := by decide +kernel
theorem dX8_hears_30 : decode cX8_hears 30 = .ok (.bipush (-3), 2) := by decide +kernel
theorem dX8_hears_32 : decode cX8_hears 32 = .ok (.ireturn, 1) := by decide +kernel
theorem dX8_hears_33 : decode cX8_hears 33 = .ok (.aload_n 0, 1) := by decide +kernel
theorem dX8_hears_34 : decode cX8_hears 34 = .ok (.getfield 32, 3) := by decide +kernel
theorem dX8_hears_37 : decode cX8_hears 37 = .ok (.iconst 2, 1) := by decide +kernel
theorem dX8_hears_38 : decode cX8_hears 38 = .ok (.aload_n 0, 1) := by decide +kernel
theorem dX8_hears_39 : decode cX8_hears 39 = .ok (.getfield 95, 3) := by decide +kernel
theorem dX8_hears_42 : decode cX8_hears 42 = .ok (.imul, 1) := by decide +kernel
theorem dX8_hears_43 : decode cX8_hears 43 = .ok (.iload_n 1, 1) := by decide +kernel
theorem dX8_hears_44 : decode cX8_hears 44 = .ok (.iastore, 1) := by decide +kernel
theorem dX8_hears_45 : decode cX8_hears 45 = .ok (.aload_n 0, 1) := by decide +kernel
theorem dX8_hears_46 : decode cX8_hears 46 = .ok (.getfield 32, 3) := by decide +kernel
theorem dX8_hears_49 : decode cX8_hears 49 = .ok (.iconst 2, 1) := by decide +kernel
theorem dX8_hears_50 : decode cX8_hears 50 = .ok (.aload_n 0, 1) := by decide +kernel
theorem dX8_hears_51 : decode cX8_hears 51 = .ok (.getfield 95, 3) := by decide +kernel
theorem dX8_hears_54 : decode cX8_hears 54 = .ok (.imul, 1) := by decide +kernel
theorem dX8_hears_55 : decode cX8_hears 55 = .ok (.iconst 1, 1) := by decide +kernel
theorem dX8_hears_56 : decode cX8_hears 56 = .ok (.iadd, 1) := by decide +kernel
theorem dX8_hears_57 : decode cX8_hears 57 = .ok (.iload_n 2, 1) := by decide +kernel
theorem dX8_hears_58 : decode cX8_hears 58 = .ok (.iastore, 1) := by decide +kernel
theorem dX8_hears_59 : decode cX8_hears 59 = .ok (.aload_n 0, 1) := by decide +kernel
theorem dX8_hears_60 : decode cX8_hears 60 = .ok (.dup, 1) := by decide +kernel
theorem dX8_hears_61 : decode cX8_hears 61 = .ok (.getfield 95, 3) := by decide +kernel
theorem dX8_hears_64 : decode cX8_hears 64 = .ok (.iconst 1, 1) := by decide +kernel
theorem dX8_hears_65 : decode cX8_hears 65 = .ok (.iadd, 1) := by decide +kernel
theorem dX8_hears_66 : decode cX8_hears 66 = .ok (.putfield 95, 3) := by decide +kernel
theorem dX8_hears_69 : decode cX8_hears 69 = .ok (.aload_n 0, 1) := by decide +kernel
theorem dX8_hears_70 : decode cX8_hears 70 = .ok (.getfield 95, 3) := by decide +kernel
theorem dX8_hears_73 : decode cX8_hears 73 = .ok (.ireturn, 1) := by decide +kernel
theorem dX8_forget_0 : decode cX8_forget 0 = .ok (.aload_n 0, 1) := by decide +kernel
theorem dX8_forget_1 : decode cX8_forget 1 = .ok (.getfield 95, 3) := by decide +kernel
theorem dX8_forget_4 : decode cX8_forget 4 = .ok (.istore_n 1, 1) := by decide +kernel
theorem dX8_forget_5 : decode cX8_forget 5 = .ok (.aload_n 0, 1) := by decide +kernel
theorem dX8_forget_6 : decode cX8_forget 6 = .ok (.iconst 0, 1) := by decide +kernel
theorem dX8_forget_7 : decode cX8_forget 7 = .ok (.putfield 95, 3) := by decide +kernel
theorem dX8_forget_10 : decode cX8_forget 10 = .ok (.iload_n 1, 1) := by decide +kernel
theorem dX8_forget_11 : decode cX8_forget 11 = .ok (.ireturn, 1) := by decide +kernel
set_option maxRecDepth 20000 in
theorem ggX8_soundIn_X8_cools : GoodIn wsX8_soundIn wsX8_cools := goodIn_r _ [6, 7, 1, 15, 16, 17, 18, 19, 20, 21, 22, 23, 24, 25, 26, 27, 28, 29, 30, 31, 32, 33] (by decide +kernel) (by decide +kernel)
set_option maxRecDepth 20000 in
theorem gX8_soundIn_X8_cools : GoodIn wsX8_soundIn (wsV RX8 98 RX8 yX8_cools wsX8_cools) := goodIn_app (goodIn_of _ (by decide +kernel)) ggX8_soundIn_X8_cools
set_option maxRecDepth 20000 in
theorem ggX8_soundIn_X8_less : GoodIn wsX8_soundIn wsX8_less := goodIn_r _ [10] (by decide +kernel) (by decide +kernel)
set_option maxRecDepth 20000 in
theorem gX8_soundIn_X8_less : GoodIn wsX8_soundIn (va_wsS RX8 118 yX8_less wsX8_less) := goodIn_app (goodIn_of _ (by decide +kernel)) ggX8_soundIn_X8_less
set_option maxRecDepth 20000 in
theorem ggX8_soundIn_X8_soundOf : GoodIn wsX8_soundIn wsX8_soundOf := goodIn_r _ [14, 7, 15, 16, 17, 18, 19, 20, 21, 22, 23, 24, 25, 26, 27, 28, 29, 30, 31, 32, 33] (by decide +kernel) (by decide +kernel)
set_option maxRecDepth 20000 in
theorem gX8_soundIn_X8_soundOf : GoodIn wsX8_soundIn (wsV RX8 108 RX8 yX8_soundOf wsX8_soundOf) := goodIn_app (goodIn_of _ (by decide +kernel)) ggX8_soundIn_X8_soundOf
theorem dX8_soundIn_0 : decode cX8_soundIn 0 = .ok (.aload_n 0, 1) := by decide +kernel
theorem dX8_soundIn_1 : decode cX8_soundIn 1 = .ok (.iload_n 1, 1) := by decide +kernel
theorem dX8_soundIn_2 : decode cX8_soundIn 2 = .ok (.aload_n 0, 1) := by decide +kernel
theorem dX8_soundIn_3 : decode cX8_soundIn 3 = .ok (.getfield 19, 3) := by decide +kernel
theorem dX8_soundIn_6 : decode cX8_soundIn 6 = .ok (.iconst 3, 1) := by decide +kernel
theorem dX8_soundIn_7 : decode cX8_soundIn 7 = .ok (.iload_n 1, 1) := by decide +kernel
theorem dX8_soundIn_8 : decode cX8_soundIn 8 = .ok (.iadd, 1) := by decide +kernel
theorem dX8_soundIn_9 : decode cX8_soundIn 9 = .ok (.iaload, 1) := by decide +kernel
theorem dX8_soundIn_10 : decode cX8_soundIn 10 = .ok (.iload_n 2, 1) := by decide +kernel
theorem dX8_soundIn_11 : decode cX8_soundIn 11 = .ok (.aload_n 0, 1) := by decide +kernel
theorem dX8_soundIn_12 : decode cX8_soundIn 12 = .ok (.iload_n 1, 1) := by decide +kernel
theorem dX8_soundIn_13 : decode cX8_soundIn 13 = .ok (.aload_n 0, 1) := by decide +kernel
theorem dX8_soundIn_14 : decode cX8_soundIn 14 = .ok (.getfield 19, 3) := by decide +kernel
theorem dX8_soundIn_17 : decode cX8_soundIn 17 = .ok (.iconst 1, 1) := by decide +kernel
theorem dX8_soundIn_18 : decode cX8_soundIn 18 = .ok (.iaload, 1) := by decide +kernel
theorem dX8_soundIn_19 : decode cX8_soundIn 19 = .ok (.invokevirtual 98, 3) := by decide +kernel
theorem dX8_soundIn_22 : decode cX8_soundIn 22 = .ok (.imul, 1) := by decide +kernel
theorem dX8_soundIn_23 : decode cX8_soundIn 23 = .ok (.invokestatic 118, 3) := by decide +kernel
theorem dX8_soundIn_26 : decode cX8_soundIn 26 = .ok (.invokevirtual 108, 3) := by decide +kernel
theorem dX8_soundIn_29 : decode cX8_soundIn 29 = .ok (.ireturn, 1) := by decide +kernel
set_option maxRecDepth 20000 in
theorem ggX8_whoNow_X8_soundIn : GoodIn wsX8_whoNow wsX8_soundIn := goodIn_r _ [8, 9, 10, 11, 12, 7, 13, 1, 14, 15, 16, 17, 18, 19, 20, 21, 22, 23, 24, 25, 26, 27, 28, 29, 30, 31, 32, 33, 34, 35, 36, 37, 38, 39] (by decide +kernel) (by decide +kernel)
set_option maxRecDepth 20000 in
theorem gX8_whoNow_X8_soundIn : GoodIn wsX8_whoNow (wsV RX8 145 RX8 yX8_soundIn wsX8_soundIn) := goodIn_app (goodIn_of _ (by decide +kernel)) ggX8_whoNow_X8_soundIn
theorem dX8_whoNow_0 : decode cX8_whoNow 0 = .ok (.iconst 0, 1) := by decide +kernel
theorem dX8_whoNow_1 : decode cX8_whoNow 1 = .ok (.istore_n 1, 1) := by decide +kernel
theorem dX8_whoNow_2 : decode cX8_whoNow 2 = .ok (.iconst 0, 1) := by decide +kernel
theorem dX8_whoNow_3 : decode cX8_whoNow 3 = .ok (.istore_n 2, 1) := by decide +kernel
theorem dX8_whoNow_4 : decode cX8_whoNow 4 = .ok (.iload_n 2, 1) := by decide +kernel
theorem dX8_whoNow_5 : decode cX8_whoNow 5 = .ok (.aload_n 0, 1) := by decide +kernel
theorem dX8_whoNow_6 : decode cX8_whoNow 6 = .ok (.getfield 13, 3) := by decide +kernel
theorem dX8_whoNow_9 : decode cX8_whoNow 9 = .ok (.iconst 0, 1) := by decide +kernel
theorem dX8_whoNow_10 : decode cX8_whoNow 10 = .ok (.iaload, 1) := by decide +kernel
theorem dX8_whoNow_11 : decode cX8_whoNow 11 = .ok (.if_icmp .ge 81, 3) := by decide +kernel
theorem dX8_whoNow_14 : decode cX8_whoNow 14 = .ok (.iconst 1, 1) := by decide +kernel
theorem dX8_whoNow_15 : decode cX8_whoNow 15 = .ok (.istore_n 3, 1) := by decide +kernel
theorem dX8_whoNow_16 : decode cX8_whoNow 16 = .ok (.iconst 0, 1) := by decide +kernel
theorem dX8_whoNow_17 : decode cX8_whoNow 17 = .ok (.istore 4, 2) := by decide +kernel
theorem dX8_whoNow_19 : decode cX8_whoNow 19 = .ok (.iload 4, 2) := by decide +kernel
theorem dX8_whoNow_21 : decode cX8_whoNow 21 = .ok (.aload_n 0, 1) := by decide +kernel
theorem dX8_whoNow_22 : decode cX8_whoNow 22 = .ok (.getfield 95, 3) := by decide +kernel
theorem dX8_whoNow_25 : decode cX8_whoNow 25 = .ok (.if_icmp .ge 47, 3) := by decide +kernel
theorem dX8_whoNow_28 : decode cX8_whoNow 28 = .ok (.iload_n 3, 1) := by decide +kernel
theorem dX8_whoNow_29 : decode cX8_whoNow 29 = .ok (.ifCond .eq 35, 3) := by decide +kernel
theorem dX8_whoNow_32 : decode cX8_whoNow 32 = .ok (.aload_n 0, 1) := by decide +kernel
theorem dX8_whoNow_33 : decode cX8_whoNow 33 = .ok (.iload_n 2, 1) := by decide +kernel
theorem dX8_whoNow_34 : decode cX8_whoNow 34 = .ok (.aload_n 0, 1) := by decide +kernel
theorem dX8_whoNow_35 : decode cX8_whoNow 35 = .ok (.getfield 32, 3) := by decide +kernel
theorem dX8_whoNow_38 : decode cX8_whoNow 38 = .ok (.iconst 2, 1) := by decide +kernel
theorem dX8_whoNow_39 : decode cX8_whoNow 39 = .ok (.iload 4, 2) := by decide +kernel
theorem dX8_whoNow_41 : decode cX8_whoNow 41 = .ok (.imul, 1) := by decide +kernel
theorem dX8_whoNow_42 : decode cX8_whoNow 42 = .ok (.iaload, 1) := by decide +kernel
theorem dX8_whoNow_43 : decode cX8_whoNow 43 = .ok (.invokevirtual 145, 3) := by decide +kernel
theorem dX8_whoNow_46 : decode cX8_whoNow 46 = .ok (.aload_n 0, 1) := by decide +kernel
theorem dX8_whoNow_47 : decode cX8_whoNow 47 = .ok (.getfield 32, 3) := by decide +kernel
theorem dX8_whoNow_50 : decode cX8_whoNow 50 = .ok (.iconst 2, 1) := by decide +kernel
theorem dX8_whoNow_51 : decode cX8_whoNow 51 = .ok (.iload 4, 2) := by decide +kernel
theorem dX8_whoNow_53 : decode cX8_whoNow 53 = .ok (.imul, 1) := by decide +kernel
