theorem dX7_init_61 : decode cX7_init 61 = .ok (.iconst 2, 1) := by decide +kernel
theorem dX7_init_62 : decode cX7_init 62 = .ok (.newarray .boolean, 2) := by decide +kernel
theorem dX7_init_64 : decode cX7_init 64 = .ok (.putfield 46, 3) := by decide +kernel
theorem dX7_init_67 : decode cX7_init 67 = .ok (.aload_n 0, 1) := by decide +kernel
theorem dX7_init_68 : decode cX7_init 68 = .ok (.new 50, 3) := by decide +kernel
theorem dX7_init_71 : decode cX7_init 71 = .ok (.dup, 1) := by decide +kernel
theorem dX7_init_72 : decode cX7_init 72 = .ok (.invokespecial 52, 3) := by decide +kernel
theorem dX7_init_75 : decode cX7_init 75 = .ok (.putfield 53, 3) := by decide +kernel
theorem dX7_init_78 : decode cX7_init 78 = .ok (.aload_n 0, 1) := by decide +kernel
theorem dX7_init_79 : decode cX7_init 79 = .ok (.new 57, 3) := by decide +kernel
theorem dX7_init_82 : decode cX7_init 82 = .ok (.dup, 1) := by decide +kernel
theorem dX7_init_83 : decode cX7_init 83 = .ok (.invokespecial 59, 3) := by decide +kernel
theorem dX7_init_86 : decode cX7_init 86 = .ok (.putfield 60, 3) := by decide +kernel
theorem dX7_init_89 : decode cX7_init 89 = .ok (.return_, 1) := by decide +kernel
set_option maxRecDepth 20000 in
theorem ggX7_type_X5_append : GoodIn wsX7_type wsX5_append := goodIn_r _ [7, 8, 9, 19, 20, 21, 22, 23, 24, 25, 26] (by decide +kernel) (by decide +kernel)
set_option maxRecDepth 20000 in
theorem gX7_type_X5_append : GoodIn wsX7_type (wsV RX7 68 RX5 yX5_append wsX5_append) := goodIn_app (goodIn_of _ (by decide +kernel)) ggX7_type_X5_append
theorem dX7_type_0 : decode cX7_type 0 = .ok (.iload_n 1, 1) := by decide +kernel
theorem dX7_type_1 : decode cX7_type 1 = .ok (.ifCond .lt 10, 3) := by decide +kernel
theorem dX7_type_4 : decode cX7_type 4 = .ok (.iload_n 1, 1) := by decide +kernel
theorem dX7_type_5 : decode cX7_type 5 = .ok (.sipush 255, 3) := by decide +kernel
theorem dX7_type_8 : decode cX7_type 8 = .ok (.if_icmp .le 5, 3) := by decide +kernel
theorem dX7_type_11 : decode cX7_type 11 = .ok (.iconst (-1), 1) := by decide +kernel
theorem dX7_type_12 : decode cX7_type 12 = .ok (.ireturn, 1) := by decide +kernel
theorem dX7_type_13 : decode cX7_type 13 = .ok (.aload_n 0, 1) := by decide +kernel
theorem dX7_type_14 : decode cX7_type 14 = .ok (.getfield 10, 3) := by decide +kernel
theorem dX7_type_17 : decode cX7_type 17 = .ok (.getfield 64, 3) := by decide +kernel
theorem dX7_type_20 : decode cX7_type 20 = .ok (.bipush 120, 2) := by decide +kernel
theorem dX7_type_22 : decode cX7_type 22 = .ok (.if_icmp .lt 6, 3) := by decide +kernel
theorem dX7_type_25 : decode cX7_type 25 = .ok (.bipush (-3), 2) := by decide +kernel
theorem dX7_type_27 : decode cX7_type 27 = .ok (.ireturn, 1) := by decide +kernel
theorem dX7_type_28 : decode cX7_type 28 = .ok (.aload_n 0, 1) := by decide +kernel
theorem dX7_type_29 : decode cX7_type 29 = .ok (.getfield 10, 3) := by decide +kernel
theorem dX7_type_32 : decode cX7_type 32 = .ok (.iload_n 1, 1) := by decide +kernel
theorem dX7_type_33 : decode cX7_type 33 = .ok (.i2c, 1) := by decide +kernel
theorem dX7_type_34 : decode cX7_type 34 = .ok (.invokevirtual 68, 3) := by decide +kernel
theorem dX7_type_37 : decode cX7_type 37 = .ok (.aload_n 0, 1) := by decide +kernel
theorem dX7_type_38 : decode cX7_type 38 = .ok (.getfield 10, 3) := by decide +kernel
theorem dX7_type_41 : decode cX7_type 41 = .ok (.getfield 64, 3) := by decide +kernel
theorem dX7_type_44 : decode cX7_type 44 = .ok (.ireturn, 1) := by decide +kernel
theorem dX7_clear_0 : decode cX7_clear 0 = .ok (.aload_n 0, 1) := by decide +kernel
theorem dX7_clear_1 : decode cX7_clear 1 = .ok (.getfield 10, 3) := by decide +kernel
theorem dX7_clear_4 : decode cX7_clear 4 = .ok (.getfield 64, 3) := by decide +kernel
theorem dX7_clear_7 : decode cX7_clear 7 = .ok (.istore_n 1, 1) := by decide +kernel
theorem dX7_clear_8 : decode cX7_clear 8 = .ok (.aload_n 0, 1) := by decide +kernel
theorem dX7_clear_9 : decode cX7_clear 9 = .ok (.getfield 10, 3) := by decide +kernel
theorem dX7_clear_12 : decode cX7_clear 12 = .ok (.iconst 0, 1) := by decide +kernel
theorem dX7_clear_13 : decode cX7_clear 13 = .ok (.putfield 64, 3) := by decide +kernel
theorem dX7_clear_16 : decode cX7_clear 16 = .ok (.iload_n 1, 1) := by decide +kernel
theorem dX7_clear_17 : decode cX7_clear 17 = .ok (.ireturn, 1) := by decide +kernel
set_option maxRecDepth 20000 in
theorem ggX7_ward_X5_read : GoodIn wsX7_ward wsX5_read := goodIn_r _ [15, 16, 17, 18, 19, 20, 21, 22, 23, 24, 25, 26, 27, 28, 29, 30, 31, 32, 14, 33, 34, 35, 36, 37, 38, 39, 40, 41, 42, 43, 44, 45, 46, 47, 48, 49, 50, 51, 52, 53, 54, 55, 56, 57, 58, 59, 60, 61, 62, 63, 64, 65, 66, 67, 68, 69, 70, 71, 72, 73, 74, 75, 76, 122, 123, 124, 125, 126, 127, 128, 129, 130, 131, 132, 133, 134, 135] (by decide +kernel) (by decide +kernel)
set_option maxRecDepth 20000 in
theorem gX7_ward_X5_read : GoodIn wsX7_ward (wsV RX7 72 RX5 yX5_read wsX5_read) := goodIn_app (goodIn_of _ (by decide +kernel)) ggX7_ward_X5_read
set_option maxRecDepth 20000 in
theorem ggX7_ward_X6_become : GoodIn wsX7_ward wsX6_become := goodIn_r _ [80, 27, 28, 29, 81, 82, 83, 84, 85, 86, 87, 130, 131, 132, 133, 134, 135] (by decide +kernel) (by decide +kernel)
set_option maxRecDepth 20000 in
theorem gX7_ward_X6_become : GoodIn wsX7_ward (wsV RX7 79 RX6 yX6_become wsX6_become) := goodIn_app (goodIn_of _ (by decide +kernel)) ggX7_ward_X6_become
set_option maxRecDepth 20000 in
theorem ggX7_ward_X3_begin : GoodIn wsX7_ward wsX3_begin := goodIn_r _ [92, 93, 94, 95, 96, 97, 98, 99, 100, 110, 111, 112, 113, 114, 115, 130, 131, 132, 133, 134, 135] (by decide +kernel) (by decide +kernel)
set_option maxRecDepth 20000 in
theorem gX7_ward_X3_begin : GoodIn wsX7_ward (wsV RX7 83 RX3 yX3_begin wsX3_begin) := goodIn_app (goodIn_of _ (by decide +kernel)) ggX7_ward_X3_begin
theorem dX7_ward_0 : decode cX7_ward 0 = .ok (.aload_n 0, 1) := by decide +kernel
theorem dX7_ward_1 : decode cX7_ward 1 = .ok (.getfield 10, 3) := by decide +kernel
theorem dX7_ward_4 : decode cX7_ward 4 = .ok (.aload_n 0, 1) := by decide +kernel
theorem dX7_ward_5 : decode cX7_ward 5 = .ok (.getfield 19, 3) := by decide +kernel
theorem dX7_ward_8 : decode cX7_ward 8 = .ok (.invokevirtual 72, 3) := by decide +kernel
theorem dX7_ward_11 : decode cX7_ward 11 = .ok (.istore_n 1, 1) := by decide +kernel
theorem dX7_ward_12 : decode cX7_ward 12 = .ok (.iload_n 1, 1) := by decide +kernel
theorem dX7_ward_13 : decode cX7_ward 13 = .ok (.ifCond .ge 5, 3) := by decide +kernel
theorem dX7_ward_16 : decode cX7_ward 16 = .ok (.iload_n 1, 1) := by decide +kernel
theorem dX7_ward_17 : decode cX7_ward 17 = .ok (.ireturn, 1) := by decide +kernel
theorem dX7_ward_18 : decode cX7_ward 18 = .ok (.aload_n 0, 1) := by decide +kernel
theorem dX7_ward_19 : decode cX7_ward 19 = .ok (.getfield 26, 3) := by decide +kernel
theorem dX7_ward_22 : decode cX7_ward 22 = .ok (.getfield 76, 3) := by decide +kernel
theorem dX7_ward_25 : decode cX7_ward 25 = .ok (.aload_n 0, 1) := by decide +kernel
theorem dX7_ward_26 : decode cX7_ward 26 = .ok (.getfield 19, 3) := by decide +kernel
theorem dX7_ward_29 : decode cX7_ward 29 = .ok (.invokevirtual 79, 3) := by decide +kernel
theorem dX7_ward_32 : decode cX7_ward 32 = .ok (.aload_n 0, 1) := by decide +kernel
theorem dX7_ward_33 : decode cX7_ward 33 = .ok (.getfield 26, 3) := by decide +kernel
theorem dX7_ward_36 : decode cX7_ward 36 = .ok (.invokevirtual 83, 3) := by decide +kernel
theorem dX7_ward_39 : decode cX7_ward 39 = .ok (.aload_n 0, 1) := by decide +kernel
theorem dX7_ward_40 : decode cX7_ward 40 = .ok (.getfield 33, 3) := by decide +kernel
theorem dX7_ward_43 : decode cX7_ward 43 = .ok (.iconst 0, 1) := by decide +kernel
theorem dX7_ward_44 : decode cX7_ward 44 = .ok (.putfield 86, 3) := by decide +kernel
theorem dX7_ward_47 : decode cX7_ward 47 = .ok (.aload_n 0, 1) := by decide +kernel
theorem dX7_ward_48 : decode cX7_ward 48 = .ok (.getfield 53, 3) := by decide +kernel
theorem dX7_ward_51 : decode cX7_ward 51 = .ok (.iconst 0, 1) := by decide +kernel
theorem dX7_ward_52 : decode cX7_ward 52 = .ok (.putfield 89, 3) := by decide +kernel
theorem dX7_ward_55 : decode cX7_ward 55 = .ok (.iconst 0, 1) := by decide +kernel
theorem dX7_ward_56 : decode cX7_ward 56 = .ok (.istore_n 2, 1) := by decide +kernel
theorem dX7_ward_57 : decode cX7_ward 57 = .ok (.iload_n 2, 1) := by decide +kernel
theorem dX7_ward_58 : decode cX7_ward 58 = .ok (.aload_n 0, 1) := by decide +kernel
theorem dX7_ward_59 : decode cX7_ward 59 = .ok (.getfield 46, 3) := by decide +kernel
theorem dX7_ward_62 : decode cX7_ward 62 = .ok (.arraylength, 1) := by decide +kernel
theorem dX7_ward_63 : decode cX7_ward 63 = .ok (.if_icmp .ge 16, 3) := by decide +kernel
theorem dX7_ward_66 : decode cX7_ward 66 = .ok (.aload_n 0, 1) := by decide +kernel
theorem dX7_ward_67 : decode cX7_ward 67 = .ok (.getfield 46, 3) := by decide +kernel
theorem dX7_ward_70 : decode cX7_ward 70 = .ok (.iload_n 2, 1) := by decide +kernel
theorem dX7_ward_71 : decode cX7_ward 71 = .ok (.iconst 0, 1) := by decide +kernel
theorem dX7_ward_72 : decode cX7_ward 72 = .ok (.bastore, 1) := by decide +kernel
theorem dX7_ward_73 : decode cX7_ward 73 = .ok (.iinc 2 1, 3) := by decide +kernel
theorem dX7_ward_76 : decode cX7_ward 76 = .ok (.goto (-19), 3) := by decide +kernel
theorem dX7_ward_79 : decode cX7_ward 79 = .ok (.aload_n 0, 1) := by decide +kernel
theorem dX7_ward_80 : decode cX7_ward 80 = .ok (.getfield 10, 3) := by decide +kernel
theorem dX7_ward_83 : decode cX7_ward 83 = .ok (.iconst 0, 1) := by decide +kernel
theorem dX7_ward_84 : decode cX7_ward 84 = .ok (.putfield 64, 3) := by decide +kernel
theorem dX7_ward_87 : decode cX7_ward 87 = .ok (.iload_n 1, 1) := by decide +kernel
theorem dX7_ward_88 : decode cX7_ward 88 = .ok (.ireturn, 1) := by decide +kernel
set_option maxRecDepth 20000 in
theorem ggX7_bottle_X3_has : GoodIn wsX7_bottle wsX3_has := goodIn_r _ [11, 12, 13, 44, 45, 46, 47, 48, 49, 50, 51, 52, 53, 54, 55] (by decide +kernel) (by decide +kernel)
set_option maxRecDepth 20000 in
theorem gX7_bottle_X3_has : GoodIn wsX7_bottle (wsV RX7 92 RX3 yX3_has wsX3_has) := goodIn_app (goodIn_of _ (by decide +kernel)) ggX7_bottle_X3_has
set_option maxRecDepth 20000 in
theorem ggX7_bottle_X3_soundIn : GoodIn wsX7_bottle wsX3_soundIn := goodIn_r _ [17, 18, 19, 20, 12, 21, 22, 23, 24, 10, 25, 26, 13, 27, 28, 29, 30, 44, 45, 46, 47, 48, 49, 50, 51, 52, 53, 54, 55] (by decide +kernel) (by decide +kernel)
set_option maxRecDepth 20000 in
theorem gX7_bottle_X3_soundIn : GoodIn wsX7_bottle (wsV RX7 109 RX3 yX3_soundIn wsX3_soundIn) := goodIn_app (goodIn_of _ (by decide +kernel)) ggX7_bottle_X3_soundIn
set_option maxRecDepth 20000 in
theorem ggX7_bottle_X3_lasts : GoodIn wsX7_bottle wsX3_lasts := goodIn_r _ [34, 20, 18, 22, 23, 24, 10, 25, 12, 26, 13, 27, 28, 29, 30, 44, 45, 46, 47, 48, 49, 50, 51, 52, 53, 54, 55] (by decide +kernel) (by decide +kernel)
set_option maxRecDepth 20000 in
theorem gX7_bottle_X3_lasts : GoodIn wsX7_bottle (wsV RX7 113 RX3 yX3_lasts wsX3_lasts) := goodIn_app (goodIn_of _ (by decide +kernel)) ggX7_bottle_X3_lasts
theorem dX7_bottle_0 : decode cX7_bottle 0 = .ok (.aload_n 0, 1) := by decide +kernel
theorem dX7_bottle_1 : decode cX7_bottle 1 = .ok (.getfield 26, 3) := by decide +kernel
theorem dX7_bottle_4 : decode cX7_bottle 4 = .ok (.iload_n 1, 1) := by decide +kernel
theorem dX7_bottle_5 : decode cX7_bottle 5 = .ok (.invokevirtual 92, 3) := by decide +kernel
theorem dX7_bottle_8 : decode cX7_bottle 8 = .ok (.ifCond .ne 5, 3) := by decide +kernel
theorem dX7_bottle_11 : decode cX7_bottle 11 = .ok (.iconst (-1), 1) := by decide +kernel
theorem dX7_bottle_12 : decode cX7_bottle 12 = .ok (.ireturn, 1) := by decide +kernel
theorem dX7_bottle_13 : decode cX7_bottle 13 = .ok (.iload_n 2, 1) := by decide +kernel
theorem dX7_bottle_14 : decode cX7_bottle 14 = .ok (.tableswitch 110 0 5 #[38, 48, 61, 74, 84, 94], 38) := by decide +kernel
theorem dX7_bottle_52 : decode cX7_bottle 52 = .ok (.aload_n 0, 1) := by decide +kernel
theorem dX7_bottle_53 : decode cX7_bottle 53 = .ok (.getfield 26, 3) := by decide +kernel
theorem dX7_bottle_56 : decode cX7_bottle 56 = .ok (.getfield 96, 3) := by decide +kernel
theorem dX7_bottle_59 : decode cX7_bottle 59 = .ok (.iload_n 1, 1) := by decide +kernel
theorem dX7_bottle_60 : decode cX7_bottle 60 = .ok (.iaload, 1) := by decide +kernel
theorem dX7_bottle_61 : decode cX7_bottle 61 = .ok (.ireturn, 1) := by decide +kernel
theorem dX7_bottle_62 : decode cX7_bottle 62 = .ok (.aload_n 0, 1) := by decide +kernel
theorem dX7_bottle_63 : decode cX7_bottle 63 = .ok (.getfield 26, 3) := by decide +kernel
theorem dX7_bottle_66 : decode cX7_bottle 66 = .ok (.getfield 76, 3) := by decide +kernel
theorem dX7_bottle_69 : decode cX7_bottle 69 = .ok (.getfield 100, 3) := by decide +kernel
theorem dX7_bottle_72 : decode cX7_bottle 72 = .ok (.iload_n 1, 1) := by decide +kernel
theorem dX7_bottle_73 : decode cX7_bottle 73 = .ok (.iaload, 1) := by decide +kernel
theorem dX7_bottle_74 : decode cX7_bottle 74 = .ok (.ireturn, 1) := by decide +kernel
theorem dX7_bottle_75 : decode cX7_bottle 75 = .ok (.aload_n 0, 1) := by decide +kernel
theorem dX7_bottle_76 : decode cX7_bottle 76 = .ok (.getfield 26, 3) := by decide +kernel
theorem dX7_bottle_79 : decode cX7_bottle 79 = .ok (.getfield 76, 3) := by decide +kernel
theorem dX7_bottle_82 : decode cX7_bottle 82 = .ok (.getfield 103, 3) := by decide +kernel
theorem dX7_bottle_85 : decode cX7_bottle 85 = .ok (.iload_n 1, 1) := by decide +kernel
theorem dX7_bottle_86 : decode cX7_bottle 86 = .ok (.iaload, 1) := by decide +kernel
theorem dX7_bottle_87 : decode cX7_bottle 87 = .ok (.ireturn, 1) := by decide +kernel
theorem dX7_bottle_88 : decode cX7_bottle 88 = .ok (.aload_n 0, 1) := by decide +kernel
theorem dX7_bottle_89 : decode cX7_bottle 89 = .ok (.getfield 26, 3) := by decide +kernel
theorem dX7_bottle_92 : decode cX7_bottle 92 = .ok (.getfield 106, 3) := by decide +kernel
theorem dX7_bottle_95 : decode cX7_bottle 95 = .ok (.iload_n 1, 1) := by decide +kernel
theorem dX7_bottle_96 : decode cX7_bottle 96 = .ok (.iaload, 1) := by decide +kernel
theorem dX7_bottle_97 : decode cX7_bottle 97 = .ok (.ireturn, 1) := by decide +kernel
theorem dX7_bottle_98 : decode cX7_bottle 98 = .ok (.aload_n 0, 1) := by decide +kernel
theorem dX7_bottle_99 : decode cX7_bottle 99 = .ok (.getfield 26, 3) := by decide +kernel
theorem dX7_bottle_102 : decode cX7_bottle 102 = .ok (.iload_n 1, 1) := by decide +kernel
theorem dX7_bottle_103 : decode cX7_bottle 103 = .ok (.iconst 0, 1) := by decide +kernel
theorem dX7_bottle_104 : decode cX7_bottle 104 = .ok (.invokevirtual 109, 3) := by decide +kernel
theorem dX7_bottle_107 : decode cX7_bottle 107 = .ok (.ireturn, 1) := by decide +kernel
theorem dX7_bottle_108 : decode cX7_bottle 108 = .ok (.aload_n 0, 1) := by decide +kernel
theorem dX7_bottle_109 : decode cX7_bottle 109 = .ok (.getfield 26, 3) := by decide +kernel
theorem dX7_bottle_112 : decode cX7_bottle 112 = .ok (.iload_n 1, 1) := by decide +kernel
theorem dX7_bottle_113 : decode cX7_bottle 113 = .ok (.aload_n 0, 1) := by decide +kernel
theorem dX7_bottle_114 : decode cX7_bottle 114 = .ok (.getfield 26, 3) := by decide +kernel
theorem dX7_bottle_117 : decode cX7_bottle 117 = .ok (.getfield 106, 3) := by decide +kernel
theorem dX7_bottle_120 : decode cX7_bottle 120 = .ok (.invokevirtual 113, 3) := by decide +kernel
theorem dX7_bottle_123 : decode cX7_bottle 123 = .ok (.ireturn, 1) := by decide +kernel
theorem dX7_bottle_124 : decode cX7_bottle 124 = .ok (.iconst (-1), 1) := by decide +kernel
theorem dX7_bottle_125 : decode cX7_bottle 125 = .ok (.ireturn, 1) := by decide +kernel
set_option maxRecDepth 20000 in
theorem ggX7_now_X3_allLast : GoodIn wsX7_now wsX3_allLast := goodIn_r _ [14, 15, 16, 17, 18, 19, 20, 21, 22, 23, 13, 24, 25, 26, 27, 28, 29, 30, 31, 32, 33, 34, 48, 49, 50, 51, 52, 53, 54, 55, 56, 57, 58, 59] (by decide +kernel) (by decide +kernel)
set_option maxRecDepth 20000 in
theorem gX7_now_X3_allLast : GoodIn wsX7_now (wsV RX7 129 RX3 yX3_allLast wsX3_allLast) := goodIn_app (goodIn_of _ (by decide +kernel)) ggX7_now_X3_allLast
set_option maxRecDepth 20000 in
theorem ggX7_now_X3_numberWarm : GoodIn wsX7_now wsX3_numberWarm := goodIn_r _ [38, 15, 16, 26, 48, 49, 50, 51, 52, 53, 54, 55, 56, 57, 58, 59] (by decide +kernel) (by decide +kernel)
set_option maxRecDepth 20000 in
theorem gX7_now_X3_numberWarm : GoodIn wsX7_now (wsV RX7 133 RX3 yX3_numberWarm wsX3_numberWarm) := goodIn_app (goodIn_of _ (by decide +kernel)) ggX7_now_X3_numberWarm
theorem dX7_now_0 : decode cX7_now 0 = .ok (.iload_n 1, 1) := by decide +kernel
theorem dX7_now_1 : decode cX7_now 1 = .ok (.tableswitch 112 0 5 #[39, 47, 55, 63, 96, 104], 39) := by decide +kernel
theorem dX7_now_40 : decode cX7_now 40 = .ok (.aload_n 0, 1) := by decide +kernel
theorem dX7_now_41 : decode cX7_now 41 = .ok (.getfield 26, 3) := by decide +kernel
theorem dX7_now_44 : decode cX7_now 44 = .ok (.getfield 117, 3) := by decide +kernel
theorem dX7_now_47 : decode cX7_now 47 = .ok (.ireturn, 1) := by decide +kernel
theorem dX7_now_48 : decode cX7_now 48 = .ok (.aload_n 0, 1) := by decide +kernel
theorem dX7_now_49 : decode cX7_now 49 = .ok (.getfield 26, 3) := by decide +kernel
theorem dX7_now_52 : decode cX7_now 52 = .ok (.getfield 120, 3) := by decide +kernel
theorem dX7_now_55 : decode cX7_now 55 = .ok (.ireturn, 1) := by decide +kernel
theorem dX7_now_56 : decode cX7_now 56 = .ok (.aload_n 0, 1) := by decide +kernel
theorem dX7_now_57 : decode cX7_now 57 = .ok (.getfield 26, 3) := by decide +kernel
theorem dX7_now_60 : decode cX7_now 60 = .ok (.getfield 123, 3) := by decide +kernel
theorem dX7_now_63 : decode cX7_now 63 = .ok (.ireturn, 1) := by decide +kernel
theorem dX7_now_64 : decode cX7_now 64 = .ok (.aload_n 0, 1) := by decide +kernel
theorem dX7_now_65 : decode cX7_now 65 = .ok (.getfield 26, 3) := by decide +kernel
theorem dX7_now_68 : decode cX7_now 68 = .ok (.getfield 76, 3) := by decide +kernel
theorem dX7_now_71 : decode cX7_now 71 = .ok (.getfield 126, 3) := by decide +kernel
theorem dX7_now_74 : decode cX7_now 74 = .ok (.ifCond .le 20, 3) := by decide +kernel
theorem dX7_now_77 : decode cX7_now 77 = .ok (.aload_n 0, 1) := by decide +kernel
theorem dX7_now_78 : decode cX7_now 78 = .ok (.getfield 26, 3) := by decide +kernel
theorem dX7_now_81 : decode cX7_now 81 = .ok (.aload_n 0, 1) := by decide +kernel
theorem dX7_now_82 : decode cX7_now 82 = .ok (.getfield 26, 3) := by decide +kernel
theorem dX7_now_85 : decode cX7_now 85 = .ok (.getfield 106, 3) := by decide +kernel
theorem dX7_now_88 : decode cX7_now 88 = .ok (.invokevirtual 129, 3) := by decide +kernel
theorem dX7_now_91 : decode cX7_now 91 = .ok (.goto 5, 3) := by decide +kernel
theorem dX7_now_94 : decode cX7_now 94 = .ok (.bipush (-9), 2) := by decide +kernel
theorem dX7_now_96 : decode cX7_now 96 = .ok (.ireturn, 1) := by decide +kernel
theorem dX7_now_97 : decode cX7_now 97 = .ok (.aload_n 0, 1) := by decide +kernel
theorem dX7_now_98 : decode cX7_now 98 = .ok (.getfield 26, 3) := by decide +kernel
theorem dX7_now_101 : decode cX7_now 101 = .ok (.invokevirtual 133, 3) := by decide +kernel
theorem dX7_now_104 : decode cX7_now 104 = .ok (.ireturn, 1) := by decide +kernel
theorem dX7_now_105 : decode cX7_now 105 = .ok (.aload_n 0, 1) := by decide +kernel
theorem dX7_now_106 : decode cX7_now 106 = .ok (.getfield 33, 3) := by decide +kernel
theorem dX7_now_109 : decode cX7_now 109 = .ok (.getfield 86, 3) := by decide +kernel
theorem dX7_now_112 : decode cX7_now 112 = .ok (.ireturn, 1) := by decide +kernel
theorem dX7_now_113 : decode cX7_now 113 = .ok (.iconst (-1), 1) := by decide +kernel
theorem dX7_now_114 : decode cX7_now 114 = .ok (.ireturn, 1) := by decide +kernel
set_option maxRecDepth 20000 in
theorem ggX7_hour_X4_remember : GoodIn wsX7_hour wsX4_remember := goodIn_r _ [8, 9, 10, 11, 12, 13, 14, 15, 16, 17, 18, 19, 20, 21, 22, 23, 24, 25, 26, 27, 28, 29, 30, 31, 70, 71, 72, 73, 74, 64, 65, 66, 67, 68, 69] (by decide +kernel) (by decide +kernel)
set_option maxRecDepth 20000 in
theorem gX7_hour_X4_remember : GoodIn wsX7_hour (wsV RX7 137 RX4 yX4_remember wsX4_remember) := goodIn_app (goodIn_of _ (by decide +kernel)) ggX7_hour_X4_remember
set_option maxRecDepth 20000 in
theorem ggX7_hour_X3_letHourPass : GoodIn wsX7_hour wsX3_letHourPass := goodIn_r _ [36, 37, 38, 39, 40, 41, 42, 43, 44, 14, 45, 46, 47, 48, 35, 49, 50, 64, 65, 66, 67, 68, 69, 75, 76, 77, 78, 79, 80] (by decide +kernel) (by decide +kernel)
set_option maxRecDepth 20000 in
theorem gX7_hour_X3_letHourPass : GoodIn wsX7_hour (wsV RX7 141 RX3 yX3_letHourPass wsX3_letHourPass) := goodIn_app (goodIn_of _ (by decide +kernel)) ggX7_hour_X3_letHourPass
set_option maxRecDepth 20000 in
theorem ggX7_hour_X3_numberWarm : GoodIn wsX7_hour wsX3_numberWarm := goodIn_r _ [54, 38, 39, 40, 64, 65, 66, 67, 68, 69, 75, 76, 77, 78, 79, 80] (by decide +kernel) (by decide +kernel)
set_option maxRecDepth 20000 in
theorem gX7_hour_X3_numberWarm : GoodIn wsX7_hour (wsV RX7 133 RX3 yX3_numberWarm wsX3_numberWarm) := goodIn_app (goodIn_of _ (by decide +kernel)) ggX7_hour_X3_numberWarm
theorem dX7_hour_0 : decode cX7_hour 0 = .ok (.aload_n 0, 1) := by decide +kernel
theorem dX7_hour_1 : decode cX7_hour 1 = .ok (.getfield 26, 3) := by decide +kernel
theorem dX7_hour_4 : decode cX7_hour 4 = .ok (.getfield 117, 3) := by decide +kernel
theorem dX7_hour_7 : decode cX7_hour 7 = .ok (.sipush 999, 3) := by decide +kernel
theorem dX7_hour_10 : decode cX7_hour 10 = .ok (.if_icmp .lt 6, 3) := by decide +kernel
theorem dX7_hour_13 : decode cX7_hour 13 = .ok (.bipush (-2), 2) := by decide +kernel
theorem dX7_hour_15 : decode cX7_hour 15 = .ok (.ireturn, 1) := by decide +kernel
theorem dX7_hour_16 : decode cX7_hour 16 = .ok (.aload_n 0, 1) := by decide +kernel
theorem dX7_hour_17 : decode cX7_hour 17 = .ok (.getfield 33, 3) := by decide +kernel
theorem dX7_hour_20 : decode cX7_hour 20 = .ok (.aload_n 0, 1) := by decide +kernel
theorem dX7_hour_21 : decode cX7_hour 21 = .ok (.getfield 26, 3) := by decide +kernel
theorem dX7_hour_24 : decode cX7_hour 24 = .ok (.invokevirtual 137, 3) := by decide +kernel
theorem dX7_hour_27 : decode cX7_hour 27 = .ok (.aload_n 0, 1) := by decide +kernel
theorem dX7_hour_28 : decode cX7_hour 28 = .ok (.getfield 26, 3) := by decide +kernel
theorem dX7_hour_31 : decode cX7_hour 31 = .ok (.invokevirtual 141, 3) := by decide +kernel
theorem dX7_hour_34 : decode cX7_hour 34 = .ok (.aload_n 0, 1) := by decide +kernel
theorem dX7_hour_35 : decode cX7_hour 35 = .ok (.getfield 26, 3) := by decide +kernel
theorem dX7_hour_38 : decode cX7_hour 38 = .ok (.invokevirtual 133, 3) := by decide +kernel
theorem dX7_hour_41 : decode cX7_hour 41 = .ok (.ireturn, 1) := by decide +kernel
set_option maxRecDepth 20000 in
theorem ggX7_fills_X3_has : GoodIn wsX7_fills wsX3_has := goodIn_r _ [9, 10, 11, 55, 56, 57, 58, 59, 60, 61, 62, 63, 64, 65, 66] (by decide +kernel) (by decide +kernel)
set_option maxRecDepth 20000 in
theorem gX7_fills_X3_has : GoodIn wsX7_fills (wsV RX7 92 RX3 yX3_has wsX3_has) := goodIn_app (goodIn_of _ (by decide +kernel)) ggX7_fills_X3_has
set_option maxRecDepth 20000 in
theorem ggX7_fills_X4_remember : GoodIn wsX7_fills wsX4_remember := goodIn_r _ [16, 17, 18, 19, 20, 21, 22, 23, 24, 25, 26, 27, 28, 29, 30, 31, 32, 33, 34, 35, 36, 37, 38, 39, 67, 68, 69, 70, 71, 55, 56, 57, 58, 59, 60] (by decide +kernel) (by decide +kernel)
set_option maxRecDepth 20000 in
theorem gX7_fills_X4_remember : GoodIn wsX7_fills (wsV RX7 137 RX4 yX4_remember wsX4_remember) := goodIn_app (goodIn_of _ (by decide +kernel)) ggX7_fills_X4_remember
set_option maxRecDepth 20000 in
theorem ggX7_fills_X3_warmBy : GoodIn wsX7_fills wsX3_warmBy := goodIn_r _ [43, 10, 44, 45, 21, 22, 23, 55, 56, 57, 58, 59, 60, 61, 62, 63, 64, 65, 66] (by decide +kernel) (by decide +kernel)
set_option maxRecDepth 20000 in
theorem gX7_fills_X3_warmBy : GoodIn wsX7_fills (wsV RX7 144 RX3 yX3_warmBy wsX3_warmBy) := goodIn_app (goodIn_of _ (by decide +kernel)) ggX7_fills_X3_warmBy
theorem dX7_fills_0 : decode cX7_fills 0 = .ok (.aload_n 0, 1) := by decide +kernel
theorem dX7_fills_1 : decode cX7_fills 1 = .ok (.getfield 26, 3) := by decide +kernel
theorem dX7_fills_4 : decode cX7_fills 4 = .ok (.iload_n 1, 1) := by decide +kernel
theorem dX7_fills_5 : decode cX7_fills 5 = .ok (.invokevirtual 92, 3) := by decide +kernel
theorem dX7_fills_8 : decode cX7_fills 8 = .ok (.ifCond .eq 14, 3) := by decide +kernel
theorem dX7_fills_11 : decode cX7_fills 11 = .ok (.iload_n 2, 1) := by decide +kernel
theorem dX7_fills_12 : decode cX7_fills 12 = .ok (.iconst 1, 1) := by decide +kernel
theorem dX7_fills_13 : decode cX7_fills 13 = .ok (.if_icmp .lt 9, 3) := by decide +kernel
theorem dX7_fills_16 : decode cX7_fills 16 = .ok (.iload_n 2, 1) := by decide +kernel
theorem dX7_fills_17 : decode cX7_fills 17 = .ok (.bipush 9, 2) := by decide +kernel
theorem dX7_fills_19 : decode cX7_fills 19 = .ok (.if_icmp .le 5, 3) := by decide +kernel
theorem dX7_fills_22 : decode cX7_fills 22 = .ok (.iconst (-1), 1) := by decide +kernel
theorem dX7_fills_23 : decode cX7_fills 23 = .ok (.ireturn, 1) := by decide +kernel
theorem dX7_fills_24 : decode cX7_fills 24 = .ok (.aload_n 0, 1) := by decide +kernel
theorem dX7_fills_25 : decode cX7_fills 25 = .ok (.getfield 26, 3) := by decide +kernel
theorem dX7_fills_28 : decode cX7_fills 28 = .ok (.getfield 123, 3) := by decide +kernel
theorem dX7_fills_31 : decode cX7_fills 31 = .ok (.iload_n 2, 1) := by decide +kernel
theorem dX7_fills_32 : decode cX7_fills 32 = .ok (.if_icmp .ge 6, 3) := by decide +kernel
theorem dX7_fills_35 : decode cX7_fills 35 = .ok (.bipush (-2), 2) := by decide +kernel
theorem dX7_fills_37 : decode cX7_fills 37 = .ok (.ireturn, 1) := by decide +kernel
theorem dX7_fills_38 : decode cX7_fills 38 = .ok (.aload_n 0, 1) := by decide +kernel
theorem dX7_fills_39 : decode cX7_fills 39 = .ok (.getfield 33, 3) := by decide +kernel
theorem dX7_fills_42 : decode cX7_fills 42 = .ok (.aload_n 0, 1) := by decide +kernel
theorem dX7_fills_43 : decode cX7_fills 43 = .ok (.getfield 26, 3) := by decide +kernel
theorem dX7_fills_46 : decode cX7_fills 46 = .ok (.invokevirtual 137, 3) := by decide +kernel
theorem dX7_fills_49 : decode cX7_fills 49 = .ok (.aload_n 0, 1) := by decide +kernel
theorem dX7_fills_50 : decode cX7_fills 50 = .ok (.getfield 26, 3) := by decide +kernel
theorem dX7_fills_53 : decode cX7_fills 53 = .ok (.dup, 1) := by decide +kernel
theorem dX7_fills_54 : decode cX7_fills 54 = .ok (.getfield 123, 3) := by decide +kernel
theorem dX7_fills_57 : decode cX7_fills 57 = .ok (.iload_n 2, 1) := by decide +kernel
theorem dX7_fills_58 : decode cX7_fills 58 = .ok (.isub, 1) := by decide +kernel
theorem dX7_fills_59 : decode cX7_fills 59 = .ok (.putfield 123, 3) := by decide +kernel
theorem dX7_fills_62 : decode cX7_fills 62 = .ok (.aload_n 0, 1) := by decide +kernel
theorem dX7_fills_63 : decode cX7_fills 63 = .ok (.getfield 26, 3) := by decide +kernel
theorem dX7_fills_66 : decode cX7_fills 66 = .ok (.getfield 96, 3) := by decide +kernel
theorem dX7_fills_69 : decode cX7_fills 69 = .ok (.iload_n 1, 1) := by decide +kernel
theorem dX7_fills_70 : decode cX7_fills 70 = .ok (.aload_n 0, 1) := by decide +kernel
theorem dX7_fills_71 : decode cX7_fills 71 = .ok (.getfield 26, 3) := by decide +kernel
theorem dX7_fills_74 : decode cX7_fills 74 = .ok (.aload_n 0, 1) := by decide +kernel
theorem dX7_fills_75 : decode cX7_fills 75 = .ok (.getfield 26, 3) := by decide +kernel
theorem dX7_fills_78 : decode cX7_fills 78 = .ok (.getfield 96, 3) := by decide +kernel
theorem dX7_fills_81 : decode cX7_fills 81 = .ok (.iload_n 1, 1) := by decide +kernel
theorem dX7_fills_82 : decode cX7_fills 82 = .ok (.iaload, 1) := by decide +kernel
theorem dX7_fills_83 : decode cX7_fills 83 = .ok (.iload_n 2, 1) := by decide +kernel
theorem dX7_fills_84 : decode cX7_fills 84 = .ok (.invokevirtual 144, 3) := by decide +kernel
theorem dX7_fills_87 : decode cX7_fills 87 = .ok (.iastore, 1) := by decide +kernel
theorem dX7_fills_88 : decode cX7_fills 88 = .ok (.aload_n 0, 1) := by decide +kernel
theorem dX7_fills_89 : decode cX7_fills 89 = .ok (.getfield 26, 3) := by decide +kernel
theorem dX7_fills_92 : decode cX7_fills 92 = .ok (.getfield 96, 3) := by decide +kernel
theorem dX7_fills_95 : decode cX7_fills 95 = .ok (.iload_n 1, 1) := by decide +kernel
theorem dX7_fills_96 : decode cX7_fills 96 = .ok (.iaload, 1) := by decide +kernel
theorem dX7_fills_97 : decode cX7_fills 97 = .ok (.ireturn, 1) := by decide +kernel
set_option maxRecDepth 20000 in
theorem ggX7_lays_X3_has : GoodIn wsX7_lays wsX3_has := goodIn_r _ [8, 9, 10, 48, 49, 50, 51, 52, 53, 54, 55, 56, 57, 58, 59] (by decide +kernel) (by decide +kernel)
set_option maxRecDepth 20000 in
theorem gX7_lays_X3_has : GoodIn wsX7_lays (wsV RX7 92 RX3 yX3_has wsX3_has) := goodIn_app (goodIn_of _ (by decide +kernel)) ggX7_lays_X3_has
set_option maxRecDepth 20000 in
theorem ggX7_lays_X4_remember : GoodIn wsX7_lays wsX4_remember := goodIn_r _ [15, 16, 17, 18, 19, 20, 21, 22, 23, 24, 25, 26, 27, 28, 29, 30, 31, 32, 33, 34, 35, 36, 37, 38, 60, 61, 62, 63, 64, 48, 49, 50, 51, 52, 53] (by decide +kernel) (by decide +kernel)
set_option maxRecDepth 20000 in
theorem gX7_lays_X4_remember : GoodIn wsX7_lays (wsV RX7 137 RX4 yX4_remember wsX4_remember) := goodIn_app (goodIn_of _ (by decide +kernel)) ggX7_lays_X4_remember
theorem dX7_lays_0 : decode cX7_lays 0 = .ok (.aload_n 0, 1) := by decide +kernel
theorem dX7_lays_1 : decode cX7_lays 1 = .ok (.getfield 26, 3) := by decide +kernel
theorem dX7_lays_4 : decode cX7_lays 4 = .ok (.iload_n 1, 1) := by decide +kernel
theorem dX7_lays_5 : decode cX7_lays 5 = .ok (.invokevirtual 92, 3) := by decide +kernel
theorem dX7_lays_8 : decode cX7_lays 8 = .ok (.ifCond .eq 14, 3) := by decide +kernel
theorem dX7_lays_11 : decode cX7_lays 11 = .ok (.aload_n 0, 1) := by decide +kernel
theorem dX7_lays_12 : decode cX7_lays 12 = .ok (.getfield 26, 3) := by decide +kernel
theorem dX7_lays_15 : decode cX7_lays 15 = .ok (.iload_n 2, 1) := by decide +kernel
theorem dX7_lays_16 : decode cX7_lays 16 = .ok (.invokevirtual 92, 3) := by decide +kernel
theorem dX7_lays_19 : decode cX7_lays 19 = .ok (.ifCond .ne 5, 3) := by decide +kernel
theorem dX7_lays_22 : decode cX7_lays 22 = .ok (.iconst (-1), 1) := by decide +kernel
theorem dX7_lays_23 : decode cX7_lays 23 = .ok (.ireturn, 1) := by decide +kernel
theorem dX7_lays_24 : decode cX7_lays 24 = .ok (.aload_n 0, 1) := by decide +kernel
theorem dX7_lays_25 : decode cX7_lays 25 = .ok (.getfield 26, 3) := by decide +kernel
theorem dX7_lays_28 : decode cX7_lays 28 = .ok (.getfield 106, 3) := by decide +kernel
theorem dX7_lays_31 : decode cX7_lays 31 = .ok (.iload_n 1, 1) := by decide +kernel
theorem dX7_lays_32 : decode cX7_lays 32 = .ok (.iaload, 1) := by decide +kernel
theorem dX7_lays_33 : decode cX7_lays 33 = .ok (.istore_n 3, 1) := by decide +kernel
theorem dX7_lays_34 : decode cX7_lays 34 = .ok (.iload_n 3, 1) := by decide +kernel
theorem dX7_lays_35 : decode cX7_lays 35 = .ok (.iload_n 2, 1) := by decide +kernel
theorem dX7_lays_36 : decode cX7_lays 36 = .ok (.if_icmp .ne 6, 3) := by decide +kernel
theorem dX7_lays_39 : decode cX7_lays 39 = .ok (.bipush (-2), 2) := by decide +kernel
theorem dX7_lays_41 : decode cX7_lays 41 = .ok (.ireturn, 1) := by decide +kernel
theorem dX7_lays_42 : decode cX7_lays 42 = .ok (.aload_n 0, 1) := by decide +kernel
theorem dX7_lays_43 : decode cX7_lays 43 = .ok (.getfield 33, 3) := by decide +kernel
theorem dX7_lays_46 : decode cX7_lays 46 = .ok (.aload_n 0, 1) := by decide +kernel
theorem dX7_lays_47 : decode cX7_lays 47 = .ok (.getfield 26, 3) := by decide +kernel
theorem dX7_lays_50 : decode cX7_lays 50 = .ok (.invokevirtual 137, 3) := by decide +kernel
theorem dX7_lays_53 : decode cX7_lays 53 = .ok (.aload_n 0, 1) := by decide +kernel
theorem dX7_lays_54 : decode cX7_lays 54 = .ok (.getfield 26, 3) := by decide +kernel
theorem dX7_lays_57 : decode cX7_lays 57 = .ok (.getfield 106, 3) := by decide +kernel
theorem dX7_lays_60 : decode cX7_lays 60 = .ok (.iload_n 1, 1) := by decide +kernel
theorem dX7_lays_61 : decode cX7_lays 61 = .ok (.iload_n 2, 1) := by decide +kernel
theorem dX7_lays_62 : decode cX7_lays 62 = .ok (.iastore, 1) := by decide +kernel
theorem dX7_lays_63 : decode cX7_lays 63 = .ok (.iload_n 3, 1) := by decide +kernel
theorem dX7_lays_64 : decode cX7_lays 64 = .ok (.ireturn, 1) := by decide +kernel
set_option maxRecDepth 20000 in
theorem ggX7_spills_X3_has : GoodIn wsX7_spills wsX3_has := goodIn_r _ [8, 9, 10, 48, 49, 50, 51, 52, 53, 54, 55, 56, 57, 58, 59] (by decide +kernel) (by decide +kernel)
set_option maxRecDepth 20000 in
theorem gX7_spills_X3_has : GoodIn wsX7_spills (wsV RX7 92 RX3 yX3_has wsX3_has) := goodIn_app (goodIn_of _ (by decide +kernel)) ggX7_spills_X3_has
set_option maxRecDepth 20000 in
theorem ggX7_spills_X4_remember : GoodIn wsX7_spills wsX4_remember := goodIn_r _ [15, 16, 17, 18, 19, 20, 21, 22, 23, 24, 25, 26, 27, 28, 29, 30, 31, 32, 33, 34, 35, 36, 37, 38, 60, 61, 62, 63, 64, 48, 49, 50, 51, 52, 53] (by decide +kernel) (by decide +kernel)
set_option maxRecDepth 20000 in
theorem gX7_spills_X4_remember : GoodIn wsX7_spills (wsV RX7 137 RX4 yX4_remember wsX4_remember) := goodIn_app (goodIn_of _ (by decide +kernel)) ggX7_spills_X4_remember
theorem dX7_spills_0 : decode cX7_spills 0 = .ok (.aload_n 0, 1) := by decide +kernel
theorem dX7_spills_1 : decode cX7_spills 1 = .ok (.getfield 26, 3) := by decide +kernel
theorem dX7_spills_4 : decode cX7_spills 4 = .ok (.iload_n 1, 1) := by decide +kernel
theorem dX7_spills_5 : decode cX7_spills 5 = .ok (.invokevirtual 92, 3) := by decide +kernel
theorem dX7_spills_8 : decode cX7_spills 8 = .ok (.ifCond .ne 5, 3) := by decide +kernel
theorem dX7_spills_11 : decode cX7_spills 11 = .ok (.iconst (-1), 1) := by decide +kernel
theorem dX7_spills_12 : decode cX7_spills 12 = .ok (.ireturn, 1) := by decide +kernel
theorem dX7_spills_13 : decode cX7_spills 13 = .ok (.aload_n 0, 1) := by decide +kernel
theorem dX7_spills_14 : decode cX7_spills 14 = .ok (.getfield 26, 3) := by decide +kernel
theorem dX7_spills_17 : decode cX7_spills 17 = .ok (.getfield 96, 3) := by decide +kernel
theorem dX7_spills_20 : decode cX7_spills 20 = .ok (.iload_n 1, 1) := by decide +kernel
theorem dX7_spills_21 : decode cX7_spills 21 = .ok (.iaload, 1) := by decide +kernel
theorem dX7_spills_22 : decode cX7_spills 22 = .ok (.istore_n 2, 1) := by decide +kernel
theorem dX7_spills_23 : decode cX7_spills 23 = .ok (.iload_n 2, 1) := by decide +kernel
theorem dX7_spills_24 : decode cX7_spills 24 = .ok (.ifCond .ne 6, 3) := by decide +kernel
theorem dX7_spills_27 : decode cX7_spills 27 = .ok (.bipush (-2), 2) := by decide +kernel
theorem dX7_spills_29 : decode cX7_spills 29 = .ok (.ireturn, 1) := by decide +kernel
theorem dX7_spills_30 : decode cX7_spills 30 = .ok (.aload_n 0, 1) := by decide +kernel
theorem dX7_spills_31 : decode cX7_spills 31 = .ok (.getfield 33, 3) := by decide +kernel
theorem dX7_spills_34 : decode cX7_spills 34 = .ok (.aload_n 0, 1) := by decide +kernel
theorem dX7_spills_35 : decode cX7_spills 35 = .ok (.getfield 26, 3) := by decide +kernel
theorem dX7_spills_38 : decode cX7_spills 38 = .ok (.invokevirtual 137, 3) := by decide +kernel
theorem dX7_spills_41 : decode cX7_spills 41 = .ok (.aload_n 0, 1) := by decide +kernel
theorem dX7_spills_42 : decode cX7_spills 42 = .ok (.getfield 26, 3) := by decide +kernel
theorem dX7_spills_45 : decode cX7_spills 45 = .ok (.getfield 96, 3) := by decide +kernel
theorem dX7_spills_48 : decode cX7_spills 48 = .ok (.iload_n 1, 1) := by decide +kernel
theorem dX7_spills_49 : decode cX7_spills 49 = .ok (.iconst 0, 1) := by decide +kernel
theorem dX7_spills_50 : decode cX7_spills 50 = .ok (.iastore, 1) := by decide +kernel
theorem dX7_spills_51 : decode cX7_spills 51 = .ok (.iload_n 2, 1) := by decide +kernel
theorem dX7_spills_52 : decode cX7_spills 52 = .ok (.ireturn, 1) := by decide +kernel
set_option maxRecDepth 20000 in
theorem ggX7_frosts_X4_remember : GoodIn wsX7_frosts wsX4_remember := goodIn_r _ [8, 9, 10, 11, 12, 13, 14, 15, 16, 17, 18, 19, 20, 21, 22, 23, 24, 25, 26, 27, 28, 29, 30, 31, 47, 48, 49, 50, 51, 41, 42, 43, 44, 45, 46] (by decide +kernel) (by decide +kernel)
set_option maxRecDepth 20000 in
theorem gX7_frosts_X4_remember : GoodIn wsX7_frosts (wsV RX7 137 RX4 yX4_remember wsX4_remember) := goodIn_app (goodIn_of _ (by decide +kernel)) ggX7_frosts_X4_remember
theorem dX7_frosts_0 : decode cX7_frosts 0 = .ok (.iload_n 1, 1) := by decide +kernel
theorem dX7_frosts_1 : decode cX7_frosts 1 = .ok (.ifCond .lt 9, 3) := by decide +kernel
theorem dX7_frosts_4 : decode cX7_frosts 4 = .ok (.iload_n 1, 1) := by decide +kernel
theorem dX7_frosts_5 : decode cX7_frosts 5 = .ok (.bipush 9, 2) := by decide +kernel
theorem dX7_frosts_7 : decode cX7_frosts 7 = .ok (.if_icmp .le 5, 3) := by decide +kernel
theorem dX7_frosts_10 : decode cX7_frosts 10 = .ok (.iconst (-1), 1) := by decide +kernel
theorem dX7_frosts_11 : decode cX7_frosts 11 = .ok (.ireturn, 1) := by decide +kernel
theorem dX7_frosts_12 : decode cX7_frosts 12 = .ok (.aload_n 0, 1) := by decide +kernel
theorem dX7_frosts_13 : decode cX7_frosts 13 = .ok (.getfield 26, 3) := by decide +kernel
theorem dX7_frosts_16 : decode cX7_frosts 16 = .ok (.getfield 120, 3) := by decide +kernel
theorem dX7_frosts_19 : decode cX7_frosts 19 = .ok (.istore_n 2, 1) := by decide +kernel
theorem dX7_frosts_20 : decode cX7_frosts 20 = .ok (.iload_n 2, 1) := by decide +kernel
theorem dX7_frosts_21 : decode cX7_frosts 21 = .ok (.iload_n 1, 1) := by decide +kernel
theorem dX7_frosts_22 : decode cX7_frosts 22 = .ok (.if_icmp .ne 6, 3) := by decide +kernel
theorem dX7_frosts_25 : decode cX7_frosts 25 = .ok (.bipush (-2), 2) := by decide +kernel
theorem dX7_frosts_27 : decode cX7_frosts 27 = .ok (.ireturn, 1) := by decide +kernel
theorem dX7_frosts_28 : decode cX7_frosts 28 = .ok (.aload_n 0, 1) := by decide +kernel
theorem dX7_frosts_29 : decode cX7_frosts 29 = .ok (.getfield 33, 3) := by decide +kernel
theorem dX7_frosts_32 : decode cX7_frosts 32 = .ok (.aload_n 0, 1) := by decide +kernel
theorem dX7_frosts_33 : decode cX7_frosts 33 = .ok (.getfield 26, 3) := by decide +kernel
theorem dX7_frosts_36 : decode cX7_frosts 36 = .ok (.invokevirtual 137, 3) := by decide +kernel
theorem dX7_frosts_39 : decode cX7_frosts 39 = .ok (.aload_n 0, 1) := by decide +kernel
theorem dX7_frosts_40 : decode cX7_frosts 40 = .ok (.getfield 26, 3) := by decide +kernel
theorem dX7_frosts_43 : decode cX7_frosts 43 = .ok (.iload_n 1, 1) := by decide +kernel
theorem dX7_frosts_44 : decode cX7_frosts 44 = .ok (.putfield 120, 3) := by decide +kernel
theorem dX7_frosts_47 : decode cX7_frosts 47 = .ok (.iload_n 2, 1) := by decide +kernel
theorem dX7_frosts_48 : decode cX7_frosts 48 = .ok (.ireturn, 1) := by decide +kernel
set_option maxRecDepth 20000 in
theorem ggX7_boils_X4_remember : GoodIn wsX7_boils wsX4_remember := goodIn_r _ [10, 11, 12, 13, 14, 15, 16, 17, 18, 19, 20, 21, 22, 23, 24, 25, 26, 27, 28, 29, 30, 31, 32, 33, 55, 56, 57, 58, 59, 43, 44, 45, 46, 47, 48] (by decide +kernel) (by decide +kernel)
set_option maxRecDepth 20000 in
theorem gX7_boils_X4_remember : GoodIn wsX7_boils (wsV RX7 137 RX4 yX4_remember wsX4_remember) := goodIn_app (goodIn_of _ (by decide +kernel)) ggX7_boils_X4_remember
theorem dX7_boils_0 : decode cX7_boils 0 = .ok (.aload_n 0, 1) := by decide +kernel
theorem dX7_boils_1 : decode cX7_boils 1 = .ok (.getfield 26, 3) := by decide +kernel
theorem dX7_boils_4 : decode cX7_boils 4 = .ok (.getfield 123, 3) := by decide +kernel
theorem dX7_boils_7 : decode cX7_boils 7 = .ok (.istore_n 1, 1) := by decide +kernel
theorem dX7_boils_8 : decode cX7_boils 8 = .ok (.iload_n 1, 1) := by decide +kernel
theorem dX7_boils_9 : decode cX7_boils 9 = .ok (.aload_n 0, 1) := by decide +kernel
theorem dX7_boils_10 : decode cX7_boils 10 = .ok (.getfield 26, 3) := by decide +kernel
theorem dX7_boils_13 : decode cX7_boils 13 = .ok (.getfield 76, 3) := by decide +kernel
theorem dX7_boils_16 : decode cX7_boils 16 = .ok (.getfield 147, 3) := by decide +kernel
theorem dX7_boils_19 : decode cX7_boils 19 = .ok (.if_icmp .ne 6, 3) := by decide +kernel
theorem dX7_boils_22 : decode cX7_boils 22 = .ok (.bipush (-2), 2) := by decide +kernel
theorem dX7_boils_24 : decode cX7_boils 24 = .ok (.ireturn, 1) := by decide +kernel
theorem dX7_boils_25 : decode cX7_boils 25 = .ok (.aload_n 0, 1) := by decide +kernel
theorem dX7_boils_26 : decode cX7_boils 26 = .ok (.getfield 33, 3) := by decide +kernel
theorem dX7_boils_29 : decode cX7_boils 29 = .ok (.aload_n 0, 1) := by decide +kernel
theorem dX7_boils_30 : decode cX7_boils 30 = .ok (.getfield 26, 3) := by decide +kernel
theorem dX7_boils_33 : decode cX7_boils 33 = .ok (.invokevirtual 137, 3) := by decide +kernel
theorem dX7_boils_36 : decode cX7_boils 36 = .ok (.aload_n 0, 1) := by decide +kernel
theorem dX7_boils_37 : decode cX7_boils 37 = .ok (.getfield 26, 3) := by decide +kernel
theorem dX7_boils_40 : decode cX7_boils 40 = .ok (.aload_n 0, 1) := by decide +kernel
theorem dX7_boils_41 : decode cX7_boils 41 = .ok (.getfield 26, 3) := by decide +kernel
theorem dX7_boils_44 : decode cX7_boils 44 = .ok (.getfield 76, 3) := by decide +kernel
theorem dX7_boils_47 : decode cX7_boils 47 = .ok (.getfield 147, 3) := by decide +kernel
theorem dX7_boils_50 : decode cX7_boils 50 = .ok (.putfield 123, 3) := by decide +kernel
theorem dX7_boils_53 : decode cX7_boils 53 = .ok (.iload_n 1, 1) := by decide +kernel
theorem dX7_boils_54 : decode cX7_boils 54 = .ok (.ireturn, 1) := by decide +kernel
set_option maxRecDepth 20000 in
theorem ggX7_undo_X4_takeLatest : GoodIn wsX7_undo wsX4_takeLatest := goodIn_r _ [8, 9, 10, 11, 12, 13, 14, 15, 16, 17, 18, 19, 20, 21, 22, 23, 24, 25, 26, 27, 37, 38, 39, 40, 41, 42, 43, 44, 45, 46, 47] (by decide +kernel) (by decide +kernel)
set_option maxRecDepth 20000 in
theorem gX7_undo_X4_takeLatest : GoodIn wsX7_undo (wsV RX7 148 RX4 yX4_takeLatest wsX4_takeLatest) := goodIn_app (goodIn_of _ (by decide +kernel)) ggX7_undo_X4_takeLatest
theorem dX7_undo_0 : decode cX7_undo 0 = .ok (.aload_n 0, 1) := by decide +kernel
theorem dX7_undo_1 : decode cX7_undo 1 = .ok (.getfield 33, 3) := by decide +kernel
theorem dX7_undo_4 : decode cX7_undo 4 = .ok (.getfield 86, 3) := by decide +kernel
theorem dX7_undo_7 : decode cX7_undo 7 = .ok (.iconst 1, 1) := by decide +kernel
theorem dX7_undo_8 : decode cX7_undo 8 = .ok (.if_icmp .ge 6, 3) := by decide +kernel
theorem dX7_undo_11 : decode cX7_undo 11 = .ok (.bipush (-2), 2) := by decide +kernel
theorem dX7_undo_13 : decode cX7_undo 13 = .ok (.ireturn, 1) := by decide +kernel
theorem dX7_undo_14 : decode cX7_undo 14 = .ok (.aload_n 0, 1) := by decide +kernel
theorem dX7_undo_15 : decode cX7_undo 15 = .ok (.getfield 33, 3) := by decide +kernel
theorem dX7_undo_18 : decode cX7_undo 18 = .ok (.aload_n 0, 1) := by decide +kernel
theorem dX7_undo_19 : decode cX7_undo 19 = .ok (.getfield 26, 3) := by decide +kernel
theorem dX7_undo_22 : decode cX7_undo 22 = .ok (.invokevirtual 148, 3) := by decide +kernel
theorem dX7_undo_25 : decode cX7_undo 25 = .ok (.aload_n 0, 1) := by decide +kernel
theorem dX7_undo_26 : decode cX7_undo 26 = .ok (.getfield 33, 3) := by decide +kernel
theorem dX7_undo_29 : decode cX7_undo 29 = .ok (.getfield 86, 3) := by decide +kernel
theorem dX7_undo_32 : decode cX7_undo 32 = .ok (.ireturn, 1) := by decide +kernel
set_option maxRecDepth 20000 in
theorem ggX7_morning_X3_has : GoodIn wsX7_morning wsX3_has := goodIn_r _ [6, 7, 8, 47, 48, 49, 50, 51, 52, 53, 54, 55, 56, 57, 58] (by decide +kernel) (by decide +kernel)
set_option maxRecDepth 20000 in
theorem gX7_morning_X3_has : GoodIn wsX7_morning (wsV RX7 92 RX3 yX3_has wsX3_has) := goodIn_app (goodIn_of _ (by decide +kernel)) ggX7_morning_X3_has
set_option maxRecDepth 20000 in
theorem ggX7_morning_X3_pintsOfAll : GoodIn wsX7_morning wsX3_pintsOfAll := goodIn_r _ [12, 7, 8, 13, 14, 15, 5, 16, 17, 18, 19, 20, 21, 22, 23, 24, 25, 26, 27, 28, 29, 30, 31, 32, 33, 34, 35, 36, 47, 48, 49, 50, 51, 52, 53, 54, 55, 56, 57, 58] (by decide +kernel) (by decide +kernel)
set_option maxRecDepth 20000 in
theorem gX7_morning_X3_pintsOfAll : GoodIn wsX7_morning (wsV RX7 151 RX3 yX3_pintsOfAll wsX3_pintsOfAll) := goodIn_app (goodIn_of _ (by decide +kernel)) ggX7_morning_X3_pintsOfAll
set_option maxRecDepth 20000 in
theorem ggX7_morning_X3_pintsOf : GoodIn wsX7_morning wsX3_pintsOf := goodIn_r _ [16, 17, 18, 19, 20, 21, 22, 5, 23, 7, 24, 8, 25, 26, 27, 28, 29, 30, 31, 32, 33, 34, 35, 36, 47, 48, 49, 50, 51, 52, 53, 54, 55, 56, 57, 58] (by decide +kernel) (by decide +kernel)
set_option maxRecDepth 20000 in
theorem gX7_morning_X3_pintsOf : GoodIn wsX7_morning (wsV RX7 155 RX3 yX3_pintsOf wsX3_pintsOf) := goodIn_app (goodIn_of _ (by decide +kernel)) ggX7_morning_X3_pintsOf
theorem dX7_morning_0 : decode cX7_morning 0 = .ok (.iload_n 1, 1) := by decide +kernel
theorem dX7_morning_1 : decode cX7_morning 1 = .ok (.iconst 1, 1) := by decide +kernel
theorem dX7_morning_2 : decode cX7_morning 2 = .ok (.if_icmp .lt 25, 3) := by decide +kernel
theorem dX7_morning_5 : decode cX7_morning 5 = .ok (.iload_n 1, 1) := by decide +kernel
theorem dX7_morning_6 : decode cX7_morning 6 = .ok (.bipush 40, 2) := by decide +kernel
theorem dX7_morning_8 : decode cX7_morning 8 = .ok (.if_icmp .gt 19, 3) := by decide +kernel
theorem dX7_morning_11 : decode cX7_morning 11 = .ok (.iload_n 2, 1) := by decide +kernel
theorem dX7_morning_12 : decode cX7_morning 12 = .ok (.iconst (-1), 1) := by decide +kernel
theorem dX7_morning_13 : decode cX7_morning 13 = .ok (.if_icmp .eq 16, 3) := by decide +kernel
theorem dX7_morning_16 : decode cX7_morning 16 = .ok (.aload_n 0, 1) := by decide +kernel
theorem dX7_morning_17 : decode cX7_morning 17 = .ok (.getfield 26, 3) := by decide +kernel
theorem dX7_morning_20 : decode cX7_morning 20 = .ok (.iload_n 2, 1) := by decide +kernel
theorem dX7_morning_21 : decode cX7_morning 21 = .ok (.invokevirtual 92, 3) := by decide +kernel
theorem dX7_morning_24 : decode cX7_morning 24 = .ok (.ifCond .ne 5, 3) := by decide +kernel
theorem dX7_morning_27 : decode cX7_morning 27 = .ok (.iconst (-1), 1) := by decide +kernel
theorem dX7_morning_28 : decode cX7_morning 28 = .ok (.ireturn, 1) := by decide +kernel
theorem dX7_morning_29 : decode cX7_morning 29 = .ok (.iload_n 2, 1) := by decide +kernel
theorem dX7_morning_30 : decode cX7_morning 30 = .ok (.iconst (-1), 1) := by decide +kernel
theorem dX7_morning_31 : decode cX7_morning 31 = .ok (.if_icmp .ne 14, 3) := by decide +kernel
theorem dX7_morning_34 : decode cX7_morning 34 = .ok (.aload_n 0, 1) := by decide +kernel
theorem dX7_morning_35 : decode cX7_morning 35 = .ok (.getfield 26, 3) := by decide +kernel
theorem dX7_morning_38 : decode cX7_morning 38 = .ok (.iload_n 1, 1) := by decide +kernel
theorem dX7_morning_39 : decode cX7_morning 39 = .ok (.invokevirtual 151, 3) := by decide +kernel
theorem dX7_morning_42 : decode cX7_morning 42 = .ok (.goto 12, 3) := by decide +kernel
theorem dX7_morning_45 : decode cX7_morning 45 = .ok (.aload_n 0, 1) := by decide +kernel
theorem dX7_morning_46 : decode cX7_morning 46 = .ok (.getfield 26, 3) := by decide +kernel
theorem dX7_morning_49 : decode cX7_morning 49 = .ok (.iload_n 2, 1) := by decide +kernel
theorem dX7_morning_50 : decode cX7_morning 50 = .ok (.iload_n 1, 1) := by decide +kernel
theorem dX7_morning_51 : decode cX7_morning 51 = .ok (.invokevirtual 155, 3) := by decide +kernel
theorem dX7_morning_54 : decode cX7_morning 54 = .ok (.ireturn, 1) := by decide +kernel
set_option maxRecDepth 20000 in
theorem ggX7_kept_X2_mostHours : GoodIn wsX7_kept wsX2_mostHours := goodIn_r _ [9, 10, 11, 12, 13, 8, 14, 15, 16, 17, 18, 19, 20, 21, 22, 23, 24, 25, 26, 27, 28, 29, 30, 31, 32, 33, 34, 35, 36, 37, 38, 39, 40, 41, 42, 43, 44, 45, 46, 47, 48, 49, 50, 51, 52, 53, 54, 69, 70, 71, 72, 73, 74, 75, 76, 77, 78, 79, 80, 81, 82] (by decide +kernel) (by decide +kernel)
set_option maxRecDepth 20000 in
theorem gX7_kept_X2_mostHours : GoodIn wsX7_kept (wsV RX7 158 RX2 yX2_mostHours wsX2_mostHours) := goodIn_app (goodIn_of _ (by decide +kernel)) ggX7_kept_X2_mostHours
set_option maxRecDepth 20000 in
theorem ggX7_kept_X2_first : GoodIn wsX7_kept wsX2_first := goodIn_r _ [58, 15, 16, 10, 59, 6, 7, 8, 9, 11, 12, 13, 14, 17, 18, 19, 20, 21, 22, 23, 24, 25, 26, 27, 28, 29, 30, 31, 32, 33, 34, 35, 36, 37, 38, 39, 40, 41, 42, 43, 44, 45, 46, 47, 48, 49, 50, 51, 52, 53, 54, 69, 70, 71, 72, 73, 74, 75, 76, 77, 78, 79, 80, 81, 82] (by decide +kernel) (by decide +kernel)
set_option maxRecDepth 20000 in
theorem gX7_kept_X2_first : GoodIn wsX7_kept (wsV RX7 162 RX2 yX2_first wsX2_first) := goodIn_app (goodIn_of _ (by decide +kernel)) ggX7_kept_X2_first
theorem dX7_kept_0 : decode cX7_kept 0 = .ok (.iload_n 1, 1) := by decide +kernel
theorem dX7_kept_1 : decode cX7_kept 1 = .ok (.ifCond .eq 10, 3) := by decide +kernel
theorem dX7_kept_4 : decode cX7_kept 4 = .ok (.iload_n 1, 1) := by decide +kernel
theorem dX7_kept_5 : decode cX7_kept 5 = .ok (.iconst 1, 1) := by decide +kernel
theorem dX7_kept_6 : decode cX7_kept 6 = .ok (.if_icmp .eq 5, 3) := by decide +kernel
theorem dX7_kept_9 : decode cX7_kept 9 = .ok (.iconst (-1), 1) := by decide +kernel
theorem dX7_kept_10 : decode cX7_kept 10 = .ok (.ireturn, 1) := by decide +kernel
theorem dX7_kept_11 : decode cX7_kept 11 = .ok (.aload_n 0, 1) := by decide +kernel
theorem dX7_kept_12 : decode cX7_kept 12 = .ok (.getfield 26, 3) := by decide +kernel
theorem dX7_kept_15 : decode cX7_kept 15 = .ok (.getfield 76, 3) := by decide +kernel
theorem dX7_kept_18 : decode cX7_kept 18 = .ok (.getfield 126, 3) := by decide +kernel
theorem dX7_kept_21 : decode cX7_kept 21 = .ok (.ifCond .ne 6, 3) := by decide +kernel
theorem dX7_kept_24 : decode cX7_kept 24 = .ok (.bipush (-9), 2) := by decide +kernel
theorem dX7_kept_26 : decode cX7_kept 26 = .ok (.ireturn, 1) := by decide +kernel
theorem dX7_kept_27 : decode cX7_kept 27 = .ok (.iload_n 1, 1) := by decide +kernel
theorem dX7_kept_28 : decode cX7_kept 28 = .ok (.ifCond .ne 17, 3) := by decide +kernel
theorem dX7_kept_31 : decode cX7_kept 31 = .ok (.aload_n 0, 1) := by decide +kernel
theorem dX7_kept_32 : decode cX7_kept 32 = .ok (.getfield 60, 3) := by decide +kernel
theorem dX7_kept_35 : decode cX7_kept 35 = .ok (.aload_n 0, 1) := by decide +kernel
theorem dX7_kept_36 : decode cX7_kept 36 = .ok (.getfield 26, 3) := by decide +kernel
theorem dX7_kept_39 : decode cX7_kept 39 = .ok (.invokevirtual 158, 3) := by decide +kernel
theorem dX7_kept_42 : decode cX7_kept 42 = .ok (.goto 14, 3) := by decide +kernel
theorem dX7_kept_45 : decode cX7_kept 45 = .ok (.aload_n 0, 1) := by decide +kernel
theorem dX7_kept_46 : decode cX7_kept 46 = .ok (.getfield 60, 3) := by decide +kernel
theorem dX7_kept_49 : decode cX7_kept 49 = .ok (.aload_n 0, 1) := by decide +kernel
theorem dX7_kept_50 : decode cX7_kept 50 = .ok (.getfield 26, 3) := by decide +kernel
theorem dX7_kept_53 : decode cX7_kept 53 = .ok (.invokevirtual 162, 3) := by decide +kernel
theorem dX7_kept_56 : decode cX7_kept 56 = .ok (.ireturn, 1) := by decide +kernel
set_option maxRecDepth 20000 in
theorem ggX7_beds_X3_has : GoodIn wsX7_beds wsX3_has := goodIn_r _ [9, 10, 11, 43, 44, 45, 46, 47, 48, 49, 50, 51, 52, 53, 54] (by decide +kernel) (by decide +kernel)
set_option maxRecDepth 20000 in
theorem gX7_beds_X3_has : GoodIn wsX7_beds (wsV RX7 92 RX3 yX3_has wsX3_has) := goodIn_app (goodIn_of _ (by decide +kernel)) ggX7_beds_X3_has
set_option maxRecDepth 20000 in
theorem ggX7_beds_X3_allLast : GoodIn wsX7_beds wsX3_allLast := goodIn_r _ [15, 10, 11, 16, 17, 18, 19, 20, 21, 22, 8, 23, 24, 25, 26, 27, 28, 29, 30, 31, 32, 33, 43, 44, 45, 46, 47, 48, 49, 50, 51, 52, 53, 54] (by decide +kernel) (by decide +kernel)
set_option maxRecDepth 20000 in
theorem gX7_beds_X3_allLast : GoodIn wsX7_beds (wsV RX7 129 RX3 yX3_allLast wsX3_allLast) := goodIn_app (goodIn_of _ (by decide +kernel)) ggX7_beds_X3_allLast
theorem dX7_beds_0 : decode cX7_beds 0 = .ok (.iload_n 1, 1) := by decide +kernel
theorem dX7_beds_1 : decode cX7_beds 1 = .ok (.iconst (-1), 1) := by decide +kernel
theorem dX7_beds_2 : decode cX7_beds 2 = .ok (.if_icmp .eq 16, 3) := by decide +kernel
theorem dX7_beds_5 : decode cX7_beds 5 = .ok (.aload_n 0, 1) := by decide +kernel
theorem dX7_beds_6 : decode cX7_beds 6 = .ok (.getfield 26, 3) := by decide +kernel
theorem dX7_beds_9 : decode cX7_beds 9 = .ok (.iload_n 1, 1) := by decide +kernel
theorem dX7_beds_10 : decode cX7_beds 10 = .ok (.invokevirtual 92, 3) := by decide +kernel
theorem dX7_beds_13 : decode cX7_beds 13 = .ok (.ifCond .ne 5, 3) := by decide +kernel
theorem dX7_beds_16 : decode cX7_beds 16 = .ok (.iconst (-1), 1) := by decide +kernel
theorem dX7_beds_17 : decode cX7_beds 17 = .ok (.ireturn, 1) := by decide +kernel
theorem dX7_beds_18 : decode cX7_beds 18 = .ok (.aload_n 0, 1) := by decide +kernel
theorem dX7_beds_19 : decode cX7_beds 19 = .ok (.getfield 26, 3) := by decide +kernel
theorem dX7_beds_22 : decode cX7_beds 22 = .ok (.getfield 76, 3) := by decide +kernel
theorem dX7_beds_25 : decode cX7_beds 25 = .ok (.getfield 126, 3) := by decide +kernel
theorem dX7_beds_28 : decode cX7_beds 28 = .ok (.ifCond .ne 6, 3) := by decide +kernel
theorem dX7_beds_31 : decode cX7_beds 31 = .ok (.bipush (-9), 2) := by decide +kernel
theorem dX7_beds_33 : decode cX7_beds 33 = .ok (.ireturn, 1) := by decide +kernel
theorem dX7_beds_34 : decode cX7_beds 34 = .ok (.iload_n 1, 1) := by decide +kernel
theorem dX7_beds_35 : decode cX7_beds 35 = .ok (.iconst (-1), 1) := by decide +kernel
theorem dX7_beds_36 : decode cX7_beds 36 = .ok (.if_icmp .ne 16, 3) := by decide +kernel
theorem dX7_beds_39 : decode cX7_beds 39 = .ok (.aload_n 0, 1) := by decide +kernel
theorem dX7_beds_40 : decode cX7_beds 40 = .ok (.getfield 26, 3) := by decide +kernel
theorem dX7_beds_43 : decode cX7_beds 43 = .ok (.getstatic 165, 3) := by decide +kernel
theorem dX7_beds_46 : decode cX7_beds 46 = .ok (.invokevirtual 129, 3) := by decide +kernel
theorem dX7_beds_49 : decode cX7_beds 49 = .ok (.goto 4, 3) := by decide +kernel
theorem dX7_beds_52 : decode cX7_beds 52 = .ok (.iconst 0, 1) := by decide +kernel
theorem dX7_beds_53 : decode cX7_beds 53 = .ok (.ireturn, 1) := by decide +kernel
set_option maxRecDepth 20000 in
theorem ggX7_odds_X3_has : GoodIn wsX7_odds wsX3_has := goodIn_r _ [6, 7, 8, 41, 42, 43, 44, 45, 46, 47, 48, 49, 50, 51, 52] (by decide +kernel) (by decide +kernel)
set_option maxRecDepth 20000 in
theorem gX7_odds_X3_has : GoodIn wsX7_odds (wsV RX7 92 RX3 yX3_has wsX3_has) := goodIn_app (goodIn_of _ (by decide +kernel)) ggX7_odds_X3_has
set_option maxRecDepth 20000 in
theorem ggX7_odds_X3_waysStillWarm : GoodIn wsX7_odds wsX3_waysStillWarm := goodIn_r _ [12, 13, 14, 15, 16, 17, 18, 5, 19, 7, 20, 8, 21, 22, 23, 24, 25, 26, 27, 41, 42, 43, 44, 45, 46, 47, 48, 49, 50, 51, 52] (by decide +kernel) (by decide +kernel)
set_option maxRecDepth 20000 in
theorem gX7_odds_X3_waysStillWarm : GoodIn wsX7_odds (wsV RX7 168 RX3 yX3_waysStillWarm wsX3_waysStillWarm) := goodIn_app (goodIn_of _ (by decide +kernel)) ggX7_odds_X3_waysStillWarm
set_option maxRecDepth 20000 in
theorem ggX7_odds_X7_commonDivisor : GoodIn wsX7_odds wsX7_commonDivisor := goodIn_r _ [31] (by decide +kernel) (by decide +kernel)
set_option maxRecDepth 20000 in
theorem gX7_odds_X7_commonDivisor : GoodIn wsX7_odds (va_wsS RX7 172 yX7_commonDivisor wsX7_commonDivisor) := goodIn_app (goodIn_of _ (by decide +kernel)) ggX7_odds_X7_commonDivisor
theorem dX7_odds_0 : decode cX7_odds 0 = .ok (.aload_n 0, 1) := by decide +kernel
theorem dX7_odds_1 : decode cX7_odds 1 = .ok (.getfield 26, 3) := by decide +kernel
theorem dX7_odds_4 : decode cX7_odds 4 = .ok (.iload_n 1, 1) := by decide +kernel
theorem dX7_odds_5 : decode cX7_odds 5 = .ok (.invokevirtual 92, 3) := by decide +kernel
theorem dX7_odds_8 : decode cX7_odds 8 = .ok (.ifCond .eq 23, 3) := by decide +kernel
theorem dX7_odds_11 : decode cX7_odds 11 = .ok (.iload_n 2, 1) := by decide +kernel
theorem dX7_odds_12 : decode cX7_odds 12 = .ok (.ifCond .lt 19, 3) := by decide +kernel
theorem dX7_odds_15 : decode cX7_odds 15 = .ok (.iload_n 2, 1) := by decide +kernel
theorem dX7_odds_16 : decode cX7_odds 16 = .ok (.bipush 10, 2) := by decide +kernel
theorem dX7_odds_18 : decode cX7_odds 18 = .ok (.if_icmp .gt 13, 3) := by decide +kernel
theorem dX7_odds_21 : decode cX7_odds 21 = .ok (.iload_n 3, 1) := by decide +kernel
theorem dX7_odds_22 : decode cX7_odds 22 = .ok (.ifCond .lt 9, 3) := by decide +kernel
theorem dX7_odds_25 : decode cX7_odds 25 = .ok (.iload_n 3, 1) := by decide +kernel
theorem dX7_odds_26 : decode cX7_odds 26 = .ok (.bipush 8, 2) := by decide +kernel
theorem dX7_odds_28 : decode cX7_odds 28 = .ok (.if_icmp .le 5, 3) := by decide +kernel
theorem dX7_odds_31 : decode cX7_odds 31 = .ok (.iconst (-1), 1) := by decide +kernel
theorem dX7_odds_32 : decode cX7_odds 32 = .ok (.ireturn, 1) := by decide +kernel
theorem dX7_odds_33 : decode cX7_odds 33 = .ok (.iload 4, 2) := by decide +kernel
theorem dX7_odds_35 : decode cX7_odds 35 = .ok (.ifCond .eq 11, 3) := by decide +kernel
theorem dX7_odds_38 : decode cX7_odds 38 = .ok (.iload 4, 2) := by decide +kernel
theorem dX7_odds_40 : decode cX7_odds 40 = .ok (.iconst 1, 1) := by decide +kernel
theorem dX7_odds_41 : decode cX7_odds 41 = .ok (.if_icmp .eq 5, 3) := by decide +kernel
theorem dX7_odds_44 : decode cX7_odds 44 = .ok (.iconst (-1), 1) := by decide +kernel
theorem dX7_odds_45 : decode cX7_odds 45 = .ok (.ireturn, 1) := by decide +kernel
theorem dX7_odds_46 : decode cX7_odds 46 = .ok (.aload_n 0, 1) := by decide +kernel
theorem dX7_odds_47 : decode cX7_odds 47 = .ok (.getfield 26, 3) := by decide +kernel
theorem dX7_odds_50 : decode cX7_odds 50 = .ok (.iload_n 1, 1) := by decide +kernel
theorem dX7_odds_51 : decode cX7_odds 51 = .ok (.iload_n 2, 1) := by decide +kernel
theorem dX7_odds_52 : decode cX7_odds 52 = .ok (.iload_n 3, 1) := by decide +kernel
theorem dX7_odds_53 : decode cX7_odds 53 = .ok (.invokevirtual 168, 3) := by decide +kernel
theorem dX7_odds_56 : decode cX7_odds 56 = .ok (.istore 5, 2) := by decide +kernel
theorem dX7_odds_58 : decode cX7_odds 58 = .ok (.iconst 1, 1) := by decide +kernel
theorem dX7_odds_59 : decode cX7_odds 59 = .ok (.istore 6, 2) := by decide +kernel
theorem dX7_odds_61 : decode cX7_odds 61 = .ok (.iconst 0, 1) := by decide +kernel
theorem dX7_odds_62 : decode cX7_odds 62 = .ok (.istore 7, 2) := by decide +kernel
theorem dX7_odds_64 : decode cX7_odds 64 = .ok (.iload 7, 2) := by decide +kernel
theorem dX7_odds_66 : decode cX7_odds 66 = .ok (.iload_n 3, 1) := by decide +kernel
theorem dX7_odds_67 : decode cX7_odds 67 = .ok (.if_icmp .ge 16, 3) := by decide +kernel
theorem dX7_odds_70 : decode cX7_odds 70 = .ok (.iload 6, 2) := by decide +kernel
theorem dX7_odds_72 : decode cX7_odds 72 = .ok (.bipush 10, 2) := by decide +kernel
theorem dX7_odds_74 : decode cX7_odds 74 = .ok (.imul, 1) := by decide +kernel
theorem dX7_odds_75 : decode cX7_odds 75 = .ok (.istore 6, 2) := by decide +kernel
theorem dX7_odds_77 : decode cX7_odds 77 = .ok (.iinc 7 1, 3) := by decide +kernel
theorem dX7_odds_80 : decode cX7_odds 80 = .ok (.goto (-16), 3) := by decide +kernel
theorem dX7_odds_83 : decode cX7_odds 83 = .ok (.iload 4, 2) := by decide +kernel
theorem dX7_odds_85 : decode cX7_odds 85 = .ok (.ifCond .ne 8, 3) := by decide +kernel
theorem dX7_odds_88 : decode cX7_odds 88 = .ok (.iload 5, 2) := by decide +kernel
theorem dX7_odds_90 : decode cX7_odds 90 = .ok (.goto 5, 3) := by decide +kernel
theorem dX7_odds_93 : decode cX7_odds 93 = .ok (.iload 6, 2) := by decide +kernel
theorem dX7_odds_95 : decode cX7_odds 95 = .ok (.istore 7, 2) := by decide +kernel
theorem dX7_odds_97 : decode cX7_odds 97 = .ok (.iload 5, 2) := by decide +kernel
theorem dX7_odds_99 : decode cX7_odds 99 = .ok (.iload 6, 2) := by decide +kernel
theorem dX7_odds_101 : decode cX7_odds 101 = .ok (.invokestatic 172, 3) := by decide +kernel
theorem dX7_odds_104 : decode cX7_odds 104 = .ok (.istore 8, 2) := by decide +kernel
theorem dX7_odds_106 : decode cX7_odds 106 = .ok (.iload 8, 2) := by decide +kernel
theorem dX7_odds_108 : decode cX7_odds 108 = .ok (.ifCond .le 11, 3) := by decide +kernel
theorem dX7_odds_111 : decode cX7_odds 111 = .ok (.iload 7, 2) := by decide +kernel
theorem dX7_odds_113 : decode cX7_odds 113 = .ok (.iload 8, 2) := by decide +kernel
theorem dX7_odds_115 : decode cX7_odds 115 = .ok (.idiv, 1) := by decide +kernel
theorem dX7_odds_116 : decode cX7_odds 116 = .ok (.goto 5, 3) := by decide +kernel
theorem dX7_odds_119 : decode cX7_odds 119 = .ok (.iload 7, 2) := by decide +kernel
theorem dX7_odds_121 : decode cX7_odds 121 = .ok (.ireturn, 1) := by decide +kernel
theorem dX7_commonDivisor_0 : decode cX7_commonDivisor 0 = .ok (.iload_n 0, 1) := by decide +kernel
theorem dX7_commonDivisor_1 : decode cX7_commonDivisor 1 = .ok (.istore_n 2, 1) := by decide +kernel
theorem dX7_commonDivisor_2 : decode cX7_commonDivisor 2 = .ok (.iload_n 1, 1) := by decide +kernel
theorem dX7_commonDivisor_3 : decode cX7_commonDivisor 3 = .ok (.istore_n 3, 1) := by decide +kernel
theorem dX7_commonDivisor_4 : decode cX7_commonDivisor 4 = .ok (.iconst 0, 1) := by decide +kernel
theorem dX7_commonDivisor_5 : decode cX7_commonDivisor 5 = .ok (.istore 4, 2) := by decide +kernel
theorem dX7_commonDivisor_7 : decode cX7_commonDivisor 7 = .ok (.iload 4, 2) := by decide +kernel
theorem dX7_commonDivisor_9 : decode cX7_commonDivisor 9 = .ok (.bipush 64, 2) := by decide +kernel
theorem dX7_commonDivisor_11 : decode cX7_commonDivisor 11 = .ok (.if_icmp .ge 23, 3) := by decide +kernel
theorem dX7_commonDivisor_14 : decode cX7_commonDivisor 14 = .ok (.iload_n 3, 1) := by decide +kernel
theorem dX7_commonDivisor_15 : decode cX7_commonDivisor 15 = .ok (.ifCond .eq 19, 3) := by decide +kernel
theorem dX7_commonDivisor_18 : decode cX7_commonDivisor 18 = .ok (.iload_n 2, 1) := by decide +kernel
theorem dX7_commonDivisor_19 : decode cX7_commonDivisor 19 = .ok (.iload_n 3, 1) := by decide +kernel
theorem dX7_commonDivisor_20 : decode cX7_commonDivisor 20 = .ok (.irem, 1) := by decide +kernel
theorem dX7_commonDivisor_21 : decode cX7_commonDivisor 21 = .ok (.istore 5, 2) := by decide +kernel
theorem dX7_commonDivisor_23 : decode cX7_commonDivisor 23 = .ok (.iload_n 3, 1) := by decide +kernel
theorem dX7_commonDivisor_24 : decode cX7_commonDivisor 24 = .ok (.istore_n 2, 1) := by decide +kernel
theorem dX7_commonDivisor_25 : decode cX7_commonDivisor 25 = .ok (.iload 5, 2) := by decide +kernel
theorem dX7_commonDivisor_27 : decode cX7_commonDivisor 27 = .ok (.istore_n 3, 1) := by decide +kernel
theorem dX7_commonDivisor_28 : decode cX7_commonDivisor 28 = .ok (.iinc 4 1, 3) := by decide +kernel
theorem dX7_commonDivisor_31 : decode cX7_commonDivisor 31 = .ok (.goto (-24), 3) := by decide +kernel
theorem dX7_commonDivisor_34 : decode cX7_commonDivisor 34 = .ok (.iload_n 2, 1) := by decide +kernel
theorem dX7_commonDivisor_35 : decode cX7_commonDivisor 35 = .ok (.ireturn, 1) := by decide +kernel
set_option maxRecDepth 20000 in
theorem ggX7_hears_X1_add : GoodIn wsX7_hears wsX1_add := goodIn_r _ [7, 8, 9, 10, 20, 21, 22] (by decide +kernel) (by decide +kernel)
set_option maxRecDepth 20000 in
theorem gX7_hears_X1_add : GoodIn wsX7_hears (wsV RX7 175 RX1 yX1_add wsX1_add) := goodIn_app (goodIn_of _ (by decide +kernel)) ggX7_hears_X1_add
theorem dX7_hears_0 : decode cX7_hears 0 = .ok (.iload_n 1, 1) := by decide +kernel
theorem dX7_hears_1 : decode cX7_hears 1 = .ok (.ifCond .lt 18, 3) := by decide +kernel
theorem dX7_hears_4 : decode cX7_hears 4 = .ok (.iload_n 1, 1) := by decide +kernel
theorem dX7_hears_5 : decode cX7_hears 5 = .ok (.bipush 9, 2) := by decide +kernel
theorem dX7_hears_7 : decode cX7_hears 7 = .ok (.if_icmp .gt 12, 3) := by decide +kernel
theorem dX7_hears_10 : decode cX7_hears 10 = .ok (.iload_n 2, 1) := by decide +kernel
theorem dX7_hears_11 : decode cX7_hears 11 = .ok (.ifCond .lt 8, 3) := by decide +kernel
theorem dX7_hears_14 : decode cX7_hears 14 = .ok (.iload_n 2, 1) := by decide +kernel
theorem dX7_hears_15 : decode cX7_hears 15 = .ok (.iconst 2, 1) := by decide +kernel
theorem dX7_hears_16 : decode cX7_hears 16 = .ok (.if_icmp .le 5, 3) := by decide +kernel
theorem dX7_hears_19 : decode cX7_hears 19 = .ok (.iconst (-1), 1) := by decide +kernel
theorem dX7_hears_20 : decode cX7_hears 20 = .ok (.ireturn, 1) := by decide +kernel
theorem dX7_hears_21 : decode cX7_hears 21 = .ok (.aload_n 0, 1) := by decide +kernel
theorem dX7_hears_22 : decode cX7_hears 22 = .ok (.getfield 53, 3) := by decide +kernel
theorem dX7_hears_25 : decode cX7_hears 25 = .ok (.getfield 89, 3) := by decide +kernel
theorem dX7_hears_28 : decode cX7_hears 28 = .ok (.bipush 6, 2) := by decide +kernel
theorem dX7_hears_30 : decode cX7_hears 30 = .ok (.if_icmp .lt 6, 3) := by decide +kernel
theorem dX7_hears_33 : decode cX7_hears 33 = .ok (.bipush (-3), 2) := by decide +kernel
theorem dX7_hears_35 : decode cX7_hears 35 = .ok (.ireturn, 1) := by decide +kernel
theorem dX7_hears_36 : decode cX7_hears 36 = .ok (.aload_n 0, 1) := by decide +kernel
theorem dX7_hears_37 : decode cX7_hears 37 = .ok (.getfield 53, 3) := by decide +kernel
theorem dX7_hears_40 : decode cX7_hears 40 = .ok (.iload_n 1, 1) := by decide +kernel
theorem dX7_hears_41 : decode cX7_hears 41 = .ok (.iload_n 2, 1) := by decide +kernel
theorem dX7_hears_42 : decode cX7_hears 42 = .ok (.invokevirtual 175, 3) := by decide +kernel
theorem dX7_hears_45 : decode cX7_hears 45 = .ok (.aload_n 0, 1) := by decide +kernel
theorem dX7_hears_46 : decode cX7_hears 46 = .ok (.getfield 53, 3) := by decide +kernel
theorem dX7_hears_49 : decode cX7_hears 49 = .ok (.getfield 89, 3) := by decide +kernel
theorem dX7_hears_52 : decode cX7_hears 52 = .ok (.ireturn, 1) := by decide +kernel
theorem dX7_forget_0 : decode cX7_forget 0 = .ok (.aload_n 0, 1) := by decide +kernel
theorem dX7_forget_1 : decode cX7_forget 1 = .ok (.getfield 53, 3) := by decide +kernel
theorem dX7_forget_4 : decode cX7_forget 4 = .ok (.getfield 89, 3) := by decide +kernel
theorem dX7_forget_7 : decode cX7_forget 7 = .ok (.istore_n 1, 1) := by decide +kernel
theorem dX7_forget_8 : decode cX7_forget 8 = .ok (.aload_n 0, 1) := by decide +kernel
theorem dX7_forget_9 : decode cX7_forget 9 = .ok (.getfield 53, 3) := by decide +kernel
theorem dX7_forget_12 : decode cX7_forget 12 = .ok (.iconst 0, 1) := by decide +kernel
theorem dX7_forget_13 : decode cX7_forget 13 = .ok (.putfield 89, 3) := by decide +kernel
theorem dX7_forget_16 : decode cX7_forget 16 = .ok (.iload_n 1, 1) := by decide +kernel
theorem dX7_forget_17 : decode cX7_forget 17 = .ok (.ireturn, 1) := by decide +kernel
set_option maxRecDepth 20000 in
theorem ggX7_who_X1_whoFits : GoodIn wsX7_who wsX1_whoFits := goodIn_r _ [7, 8, 9, 10, 11, 12, 6, 13, 14, 15, 16, 17, 18, 19, 20, 21, 22, 23, 24, 25, 26, 27, 28, 29, 30, 31, 32, 33, 34, 35, 36, 46, 47, 48, 49, 50, 51, 52, 53, 54, 55, 56, 57, 58, 59, 60] (by decide +kernel) (by decide +kernel)
set_option maxRecDepth 20000 in
theorem gX7_who_X1_whoFits : GoodIn wsX7_who (wsV RX7 179 RX1 yX1_whoFits wsX1_whoFits) := goodIn_app (goodIn_of _ (by decide +kernel)) ggX7_who_X1_whoFits
theorem dX7_who_0 : decode cX7_who 0 = .ok (.aload_n 0, 1) := by decide +kernel
theorem dX7_who_1 : decode cX7_who 1 = .ok (.getfield 53, 3) := by decide +kernel
theorem dX7_who_4 : decode cX7_who 4 = .ok (.aload_n 0, 1) := by decide +kernel
theorem dX7_who_5 : decode cX7_who 5 = .ok (.getfield 26, 3) := by decide +kernel
theorem dX7_who_8 : decode cX7_who 8 = .ok (.invokevirtual 179, 3) := by decide +kernel
theorem dX7_who_11 : decode cX7_who 11 = .ok (.ireturn, 1) := by decide +kernel
set_option maxRecDepth 20000 in
theorem ggX7_listen_X1_whoFits : GoodIn wsX7_listen wsX1_whoFits := goodIn_r _ [7, 8, 9, 10, 11, 12, 6, 13, 14, 15, 16, 17, 18, 19, 20, 21, 22, 23, 24, 25, 26, 27, 28, 29, 30, 31, 32, 33, 34, 35, 36, 58, 59, 60, 61, 62, 63, 64, 65, 66, 67, 68, 69, 70, 71, 72] (by decide +kernel) (by decide +kernel)
set_option maxRecDepth 20000 in
theorem gX7_listen_X1_whoFits : GoodIn wsX7_listen (wsV RX7 179 RX1 yX1_whoFits wsX1_whoFits) := goodIn_app (goodIn_of _ (by decide +kernel)) ggX7_listen_X1_whoFits
set_option maxRecDepth 20000 in
theorem ggX7_listen_J6_bitCount_0f7a4 : GoodIn wsX7_listen wsJ6_bitCount_0f7a4 := goodIn_r _ [40, 41, 42, 43] (by decide +kernel) (by decide +kernel)
set_option maxRecDepth 20000 in
theorem gX7_listen_J6_bitCount_0f7a4 : GoodIn wsX7_listen (va_wsS RX7 182 yJ6_bitCount_0f7a4 wsJ6_bitCount_0f7a4) := goodIn_app (goodIn_of _ (by decide +kernel)) ggX7_listen_J6_bitCount_0f7a4
set_option maxRecDepth 20000 in
theorem ggX7_listen_X3_mostOfOneSound : GoodIn wsX7_listen wsX3_mostOfOneSound := goodIn_r _ [47, 25, 32, 33, 34, 35, 36, 48, 18, 19, 20, 21, 22, 23, 24, 26, 27, 28, 29, 30, 31, 58, 59, 60, 61, 62, 63, 64, 65, 66, 67, 68, 69] (by decide +kernel) (by decide +kernel)
set_option maxRecDepth 20000 in
theorem gX7_listen_X3_mostOfOneSound : GoodIn wsX7_listen (wsV RX7 187 RX3 yX3_mostOfOneSound wsX3_mostOfOneSound) := goodIn_app (goodIn_of _ (by decide +kernel)) ggX7_listen_X3_mostOfOneSound
theorem dX7_listen_0 : decode cX7_listen 0 = .ok (.aload_n 0, 1) := by decide +kernel
theorem dX7_listen_1 : decode cX7_listen 1 = .ok (.getfield 53, 3) := by decide +kernel
theorem dX7_listen_4 : decode cX7_listen 4 = .ok (.aload_n 0, 1) := by decide +kernel
theorem dX7_listen_5 : decode cX7_listen 5 = .ok (.getfield 26, 3) := by decide +kernel
theorem dX7_listen_8 : decode cX7_listen 8 = .ok (.invokevirtual 179, 3) := by decide +kernel
theorem dX7_listen_11 : decode cX7_listen 11 = .ok (.istore_n 1, 1) := by decide +kernel
theorem dX7_listen_12 : decode cX7_listen 12 = .ok (.iload_n 1, 1) := by decide +kernel
theorem dX7_listen_13 : decode cX7_listen 13 = .ok (.invokestatic 182, 3) := by decide +kernel
theorem dX7_listen_16 : decode cX7_listen 16 = .ok (.iconst 1, 1) := by decide +kernel
theorem dX7_listen_17 : decode cX7_listen 17 = .ok (.if_icmp .gt 6, 3) := by decide +kernel
theorem dX7_listen_20 : decode cX7_listen 20 = .ok (.bipush (-9), 2) := by decide +kernel
theorem dX7_listen_22 : decode cX7_listen 22 = .ok (.ireturn, 1) := by decide +kernel
theorem dX7_listen_23 : decode cX7_listen 23 = .ok (.iconst 0, 1) := by decide +kernel
theorem dX7_listen_24 : decode cX7_listen 24 = .ok (.istore_n 2, 1) := by decide +kernel
theorem dX7_listen_25 : decode cX7_listen 25 = .ok (.aload_n 0, 1) := by decide +kernel
theorem dX7_listen_26 : decode cX7_listen 26 = .ok (.getfield 26, 3) := by decide +kernel
theorem dX7_listen_29 : decode cX7_listen 29 = .ok (.iload_n 1, 1) := by decide +kernel
theorem dX7_listen_30 : decode cX7_listen 30 = .ok (.iconst 0, 1) := by decide +kernel
theorem dX7_listen_31 : decode cX7_listen 31 = .ok (.invokevirtual 187, 3) := by decide +kernel
theorem dX7_listen_34 : decode cX7_listen 34 = .ok (.istore_n 3, 1) := by decide +kernel
theorem dX7_listen_35 : decode cX7_listen 35 = .ok (.iconst 1, 1) := by decide +kernel
theorem dX7_listen_36 : decode cX7_listen 36 = .ok (.istore 4, 2) := by decide +kernel
theorem dX7_listen_38 : decode cX7_listen 38 = .ok (.iload 4, 2) := by decide +kernel
